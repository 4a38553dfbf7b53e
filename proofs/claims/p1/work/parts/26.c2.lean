theorem cx_left {D : va_G} {Wd W1 : va_W} {A : Nat → Prop} {H0 H : Heap} {locs : List Loc} (h : CxB D (Wd ++ W1) A H0 H locs) : CxB D Wd A H0 H locs := by
  have e : ∀ (k : Nat) (q : Nat × va_E), Wd[k]? = some q → (Wd ++ W1)[k]? = some q := fun k q hq => by
    rw [List.getElem?_append_left (List.getElem?_eq_some_iff.mp hq).1]; exact hq
  exact ⟨fun k q hq => h.1 k q (e k q hq), ⟨fun i j x y hi hj => h.2.1.1 i j x y (e i x hi) (e j y hj), fun k q hq => h.2.1.2 k q (e k q hq)⟩, h.2.2⟩
section CXL
variable {p : Program} {l : Launch} {e : Env} {R : Room} {s : State} {m : MethodId} {args : Array Value} {below : List Frame} {meth : Method} {c : Code} {H : Heap} {locs : List Loc} {cells slots : Nat} {Q : State → Prop} {cc : ByteArray} {pc : Nat} {ls : Array Slot} {rest : List Value} {D : va_G} {aT : Nat → ClassId} {Wd : va_W} {A : Nat → Prop} {H0 : Heap} {own : String} {a : Nat}
theorem cx_last (C : CxX p c cc s args m D aT own) (hW : CxB D Wd A H0 H locs) (i t0 : Nat) {n j : Nat} {f : Nat → Int64} {x : Int64} {ty : FieldType} {W1 : va_W} (he : Wd[i]? = some (a, .inl (aT t0, n, .inr (.inl f)))) (ht : (tyG aT)[t0]? = some (aT t0, ty)) (hc : ty = .long) (hj : j < n) (hn : n < 2 ^ 31) (hW1 : Wd.set i (a, .inl (aT t0, n, .inr (.inl (vp_updL f j x)))) = W1) (hdg : decode cc pc = .ok (.lastore, 1)) (kk : ∀ (H1 : Heap) (locs1 : List Loc), CxB D W1 A H0 H1 locs1 → W p l e R s m args below meth c H1 locs1 cells slots Q (F0 m (pc + 1) ls rest)) : W p l e R s m args below meth c H locs cells slots Q (F0 m pc ls (.long x :: .int (nI j) :: .ref a :: rest)) := by
  obtain ⟨hx, hb, hg, hown, hK⟩ := C
  subst hc
  refine va_last (D := D) hx hb hK hW.1 hW.2.1 hW.2.2 i t0 he ht (vp_in_nI hj (by omega)) hdg (fun H1 locs1 h1 h2 h3 => ?_)
  rw [nI_clamp (by omega)] at h1 h2
  rw [hW1] at h1 h2
  exact kk H1 locs1 ⟨h1, h2, h3⟩
theorem cx_getS (C : CxX p c cc s args m D aT own) (hW : CxB D Wd A H0 H locs) (i k : Nat) {ci N index : Nat} {Cn ref : String} {T : u_T} {fs : List Value} {v : Value} (he : Wd[i]? = some (a, .inr (ci, fs))) (hc : vwCl[ci]? = some (Cn, T, N)) (hk : k < N) (hin : ∀ w ∈ u_ws Cn T N, w ∈ gw) (hl : Cond.fieldLink own index ref (T k).2.1 (T k).2.2.1 ∈ gw) (hr : Cond.sameField ref (T k).1 (T k).2.1 (T k).2.2.1 ∈ gw) (hv : fs[k]? = some v) (hdg : decode cc pc = .ok (.getfield index, 3)) (kk : W p l e R s m args below meth c H locs cells slots Q (F0 m (pc + 3) ls (v :: rest))) : W p l e R s m args below meth c H locs cells slots Q (F0 m pc ls (.ref a :: rest)) := by
  obtain ⟨hx, hb, hg, hown, hK⟩ := C
  exact va_get (D := D) (ci := ci) (v := v) (C := Cn) (T := T) (N := N) hx hb hg hin hown hK hW.1 i he hc k hk (hg _ hl) (fun x h9 => u_same (hg _ hr) x h9) hv hdg kk
theorem cx_putS (C : CxX p c cc s args m D aT own) (hW : CxB D Wd A H0 H locs) (i k : Nat) {ci N index : Nat} {Cn ref : String} {T : u_T} {fs : List Value} {v : Value} {ty : FieldType} {W1 : va_W} (he : Wd[i]? = some (a, .inr (ci, fs))) (hc : vwCl[ci]? = some (Cn, T, N)) (hk : k < N) (hin : ∀ w ∈ u_ws Cn T N, w ∈ gw) (ty0 : Nat → FieldType) (hty : ∀ k, k < N → parseFieldDescriptor (T k).2.2.1 = some (ty0 k)) (hnm : ∀ a, a < N → ∀ b, b < N → a ≠ b → (T a).2.1 ≠ (T b).2.1) (hl : Cond.fieldLink own index ref (T k).2.1 (T k).2.2.1 ∈ gw) (hr : Cond.sameField ref (T k).1 (T k).2.1 (T k).2.2.1 ∈ gw) (hfin : (T k).2.2.2 = false) (hd : ty0 k = ty) (hn : narrow ty v = v) (hf : fits ty v = true) (hlen : k < fs.length) (hW1 : Wd.set i (a, .inr (ci, fs.set k v)) = W1) (hdg : decode cc pc = .ok (.putfield index, 3)) (kk : ∀ (H1 : Heap) (locs1 : List Loc), CxB D W1 A H0 H1 locs1 → W p l e R s m args below meth c H1 locs1 cells slots Q (F0 m (pc + 3) ls rest)) : W p l e R s m args below meth c H locs cells slots Q (F0 m pc ls (v :: .ref a :: rest)) := by
  obtain ⟨hx, hb, hg, hown, hK⟩ := C
  refine va_put (D := D) (ci := ci) (v := v) (ty := ty) (C := Cn) (T := T) (N := N) hx hb hg hin ty0 hty hnm hown hK hW.1 hW.2.1 hW.2.2 i he hc k hk (hg _ hl) (fun x h9 => u_same (hg _ hr) x h9) hfin (by rw [hty k hk, hd]) hn hf hlen hdg (fun H1 locs1 h1 h2 h3 => ?_)
  rw [hW1] at h1 h2
  exact kk H1 locs1 ⟨h1, h2, h3⟩
/-- super.m() of an inherited method -/
theorem cx_runSU {nL mc1 ms1 fr lo idx n L : Nat} {y : MethodName} {b : ByteArray} {ret : Option FieldType} {As st : List Value} {Wc : va_W} {Qk : CxQ} {PX1 : String → Prop} (C : CxX p c cc s args m D aT own) (hml : c.maxLocals = nL) (hls : ls.size = nL) (hZ : cZ A s s.heap) (hW : CxB D Wd A s.heap H locs) (hA : ∀ q, s.heap.size ≤ q → A q) (hM : CxG l y b L ret fr mc1 ms1 lo D aT (.ref a :: As) Wc Qk PX1)
    (hT : GoodIn gw (va_wsSU own idx y (Cond.code y b L ret :: gw))) (hd : y.name ≠ "<init>" ∧ (parseMethodDescriptor y.desc).map (fun d => d.parameters.length) = some n) (hn : As.length = n)
    (hR : fr + 1 ≤ R.frames ∧ 8 + (L + 11) + lo ≤ R.locals) (hcs : cells + mc1 ≤ R.cells ∧ slots + ms1 ≤ R.slots) (is : List Nat) (his : is.map (fun i => Wd[i]?) = Wc.map some) (hnd : va_nd is = true) (r0 ci : Nat) {q : vw_C} {fs : List Value} (hci : vwCl[ci]? = some q) (hrec : Wd[r0]? = some (a, .inr (ci, fs)))
    (hst : st = As.reverse ++ .ref a :: rest) (hw : (rest.map fun v => v.category).sum ≤ 8) (hdg : decode cc pc = .ok (.invokespecial idx, 3)) : vx_Run p l e R s m args below meth c H locs cells slots mc1 ms1 (F0 m pc ls st) rest (Qk (va_A Wc H.size) (Value.ref a :: As).toArray) (cxX PX1 (va_A Wc H.size)) (va_A Wc H.size) := by
  have C' := C
  obtain ⟨hx, hb, hg, hown, hK⟩ := C
  subst hst
  exact vx_runSU (As := As) (rest := rest) (hK.1 ci q hci).2 ⟨hx, hb, hml, hown, hg⟩ (hM H.size) (va_cwSU n hg hT rfl rfl rfl hd hR) ⟨cx_blind _ _, va_recv hK hW.1 hci hrec, fun U hU hw => ⟨rfl, cx_sub C' hZ hW hA is his hnd hU hw⟩⟩ rfl hn hls rfl (lv_room hw) hdg hcs
end CXL
theorem gw_sf : Cond.sameField "java/util/ArrayList" "java/util/AbstractList" "modCount" "I" ∈ gw := gw_t (tb_1 (List.mem_of_getElem? (i := 221) rfl)) rfl
theorem i_nat {x : Int32} {b : Nat} (hb : b < 2 ^ 31) (h1 : ¬ x < 0) (h2 : x < nI b) : ∃ v, v < b ∧ x = nI v := by
  have e1 : (0 : Int) ≤ x.toInt := by
    have := Int32.le_iff_toInt_le.mp (Int32.not_lt.mp h1)
    simpa using this
  have e2 := Int32.lt_iff_toInt_lt.mp h2
  rw [nI_toInt hb] at e2
  refine ⟨x.toInt.toNat, by omega, Int32.toInt_inj.mp ?_⟩
  rw [nI_toInt (by omega)]
  omega
theorem gm_maxl : Cond.code Lib.MathLoose.max_long.x Lib.MathLoose.max_long.code 4 (some .long) ∈ gw := by rw [show Lib.MathLoose.max_long.code = prog_28_method_66_code by decide +kernel]; exact gw_444
theorem dJ7_fill_53178_0 : decode cJ7_fill_53178 0 = .ok (.iconst 0, 1) := by decide +kernel
theorem dJ7_fill_53178_1 : decode cJ7_fill_53178 1 = .ok (.istore_n 2, 1) := by decide +kernel
theorem dJ7_fill_53178_2 : decode cJ7_fill_53178 2 = .ok (.aload_n 0, 1) := by decide +kernel
theorem dJ7_fill_53178_3 : decode cJ7_fill_53178 3 = .ok (.arraylength, 1) := by decide +kernel
theorem dJ7_fill_53178_4 : decode cJ7_fill_53178 4 = .ok (.istore_n 3, 1) := by decide +kernel
theorem dJ7_fill_53178_5 : decode cJ7_fill_53178 5 = .ok (.iload_n 2, 1) := by decide +kernel
theorem dJ7_fill_53178_6 : decode cJ7_fill_53178 6 = .ok (.iload_n 3, 1) := by decide +kernel
theorem dJ7_fill_53178_7 : decode cJ7_fill_53178 7 = .ok (.if_icmp .ge 13, 3) := by decide +kernel
theorem dJ7_fill_53178_10 : decode cJ7_fill_53178 10 = .ok (.aload_n 0, 1) := by decide +kernel
theorem dJ7_fill_53178_11 : decode cJ7_fill_53178 11 = .ok (.iload_n 2, 1) := by decide +kernel
theorem dJ7_fill_53178_12 : decode cJ7_fill_53178 12 = .ok (.iload_n 1, 1) := by decide +kernel
theorem dJ7_fill_53178_13 : decode cJ7_fill_53178 13 = .ok (.iastore, 1) := by decide +kernel
theorem dJ7_fill_53178_14 : decode cJ7_fill_53178 14 = .ok (.iinc 2 1, 3) := by decide +kernel
theorem dJ7_fill_53178_17 : decode cJ7_fill_53178 17 = .ok (.goto (-12), 3) := by decide +kernel
theorem dJ7_fill_53178_20 : decode cJ7_fill_53178 20 = .ok (.return_, 1) := by decide +kernel
set_option maxRecDepth 20000 in
theorem k_J7_fill_53178 (l : Launch) (hfl : l.stackTraces = false) (D : va_G) (aT : Nat → ClassId) (a n : Nat) (f : Nat → Int32) (x : Int32) (hn : n < 2 ^ 31) : CxG l yJ7_fill_53178 cJ7_fill_53178 4 none 0 0 0 0 D aT [.ref a, .int x] [(a, .inl (aT 0, n, .inl f))] (qV D aT (fun W1 => ∃ g : Nat → Int32, W1 = [(a, .inl (aT 0, n, .inl g))])) (fun _ => False) := by
  refine CxG.of RJ7 (by decide +kernel) rfl (Nat.le_of_ble_eq_true rfl) ?_
  intro p e s m below meth c A ls C hml hl hA hr hlocks hex hnm hZ hW
  have hl : lv_has ls 4 [(0, .ref a), (1, .int x)] := hl
  have hx := C.1
  have hb := C.2.1
  refine lv_iconst (v := nI 0) hx hb dJ7_fill_53178_0 (by decide) ?_
  refine lv_istore_n (lv' := [(2, .int (nI 0)), (0, .ref a), (1, .int x)]) hx hb dJ7_fill_53178_1 rfl hl (by decide) rfl (fun ls hl => ?_)
  refine lv_aload_n hx hb dJ7_fill_53178_2 rfl (lv_at hl 1 rfl) ?_
  refine va_alen (v := nI n) hx hb C.2.2.2.2 hW.1 0 0 rfl rfl rfl dJ7_fill_53178_3 ?_
  refine lv_istore_n (lv' := [(3, .int (nI n)), (2, .int (nI 0)), (0, .ref a), (1, .int x)]) hx hb dJ7_fill_53178_4 rfl hl (by decide) rfl (fun ls hl => ?_)
  refine W_loopH (σ := Nat × (Nat → Int32)) (fun z => n - z.1) (fun z H locs g => ∃ ls, g = F0 m 5 ls [] ∧ lv_has ls 4 [(2, .int (nI z.1)), (3, .int (nI n)), (0, .ref a), (1, .int x)] ∧ CxB D [(a, .inl (aT 0, n, .inl z.2))] A s.heap H locs ∧ z.1 ≤ n) ?_ (0, f) _ ⟨_, rfl, lv_sub hl [1, 0, 2, 3] rfl, hW, Nat.zero_le _⟩
  clear hW hl
  rintro ⟨i, f⟩ H locs g ⟨ls, rfl, hl, hW, hi⟩ ih
  dsimp only at hl hW hi ⊢
  refine lv_iload_n hx hb dJ7_fill_53178_5 rfl (lv_at hl 0 rfl) ?_
  refine lv_iload_n hx hb dJ7_fill_53178_6 rfl (lv_at hl 1 rfl) ?_
  refine r_geN hx hb (a := i) (b := n) (by omega) hn (tgt := 20) dJ7_fill_53178_7 (by decide) (fun h => ?_) (fun h => ?_)
  · exact cx_vret C hr hlocks hW ⟨Nat.le_refl _, Nat.le_refl _⟩ ⟨_, rfl⟩ dJ7_fill_53178_20
  · refine lv_aload_n hx hb dJ7_fill_53178_10 rfl (lv_at hl 2 rfl) ?_
    refine lv_iload_n hx hb dJ7_fill_53178_11 rfl (lv_at hl 0 rfl) ?_
    refine lv_iload_n hx hb dJ7_fill_53178_12 rfl (lv_at hl 3 rfl) ?_
    refine cx_ast C hW 0 0 (j := i) (W1 := [(a, .inl (aT 0, n, .inl (upd f i x)))]) rfl rfl rfl h hn rfl dJ7_fill_53178_13 (fun H locs hW => ?_)
    refine lv_iinc (v := nI (i + 1)) (lv' := [(2, .int (nI (i + 1))), (3, .int (nI n)), (0, .ref a), (1, .int x)]) hx hb dJ7_fill_53178_14 hl (k := 0) rfl (nI_1 _) (by decide) rfl (fun ls hl => ?_)
    refine lv_goto (tgt := 5) hx hb dJ7_fill_53178_17 (by decide) ?_
    exact ih (i + 1, (upd f i x)) _ _ _ (by dsimp only; omega) ⟨_, rfl, hl, hW, h⟩
theorem dJ7_fill_d0a16_0 : decode cJ7_fill_d0a16 0 = .ok (.iconst 0, 1) := by decide +kernel
theorem dJ7_fill_d0a16_1 : decode cJ7_fill_d0a16 1 = .ok (.istore_n 3, 1) := by decide +kernel
theorem dJ7_fill_d0a16_2 : decode cJ7_fill_d0a16 2 = .ok (.aload_n 0, 1) := by decide +kernel
theorem dJ7_fill_d0a16_3 : decode cJ7_fill_d0a16 3 = .ok (.arraylength, 1) := by decide +kernel
theorem dJ7_fill_d0a16_4 : decode cJ7_fill_d0a16 4 = .ok (.istore 4, 2) := by decide +kernel
theorem dJ7_fill_d0a16_6 : decode cJ7_fill_d0a16 6 = .ok (.iload_n 3, 1) := by decide +kernel
theorem dJ7_fill_d0a16_7 : decode cJ7_fill_d0a16 7 = .ok (.iload 4, 2) := by decide +kernel
theorem dJ7_fill_d0a16_9 : decode cJ7_fill_d0a16 9 = .ok (.if_icmp .ge 13, 3) := by decide +kernel
theorem dJ7_fill_d0a16_12 : decode cJ7_fill_d0a16 12 = .ok (.aload_n 0, 1) := by decide +kernel
theorem dJ7_fill_d0a16_13 : decode cJ7_fill_d0a16 13 = .ok (.iload_n 3, 1) := by decide +kernel
theorem dJ7_fill_d0a16_14 : decode cJ7_fill_d0a16 14 = .ok (.lload_n 1, 1) := by decide +kernel
theorem dJ7_fill_d0a16_15 : decode cJ7_fill_d0a16 15 = .ok (.lastore, 1) := by decide +kernel
theorem dJ7_fill_d0a16_16 : decode cJ7_fill_d0a16 16 = .ok (.iinc 3 1, 3) := by decide +kernel
theorem dJ7_fill_d0a16_19 : decode cJ7_fill_d0a16 19 = .ok (.goto (-13), 3) := by decide +kernel
theorem dJ7_fill_d0a16_22 : decode cJ7_fill_d0a16 22 = .ok (.return_, 1) := by decide +kernel
set_option maxRecDepth 20000 in
theorem k_J7_fill_d0a16 (l : Launch) (hfl : l.stackTraces = false) (D : va_G) (aT : Nat → ClassId) (a n : Nat) (f : Nat → Int64) (x : Int64) (hn : n < 2 ^ 31) : CxG l yJ7_fill_d0a16 cJ7_fill_d0a16 5 none 0 0 0 0 D aT [.ref a, .long x] [(a, .inl (aT 2, n, .inr (.inl f)))] (qV D aT (fun W1 => ∃ g : Nat → Int64, W1 = [(a, .inl (aT 2, n, .inr (.inl g)))])) (fun _ => False) := by
  refine CxG.of RJ7 (by decide +kernel) rfl (Nat.le_of_ble_eq_true rfl) ?_
  intro p e s m below meth c A ls C hml hl hA hr hlocks hex hnm hZ hW
  have hl : lv_has ls 5 [(0, .ref a), (1, .long x)] := hl
  have hx := C.1
  have hb := C.2.1
  refine lv_iconst (v := nI 0) hx hb dJ7_fill_d0a16_0 (by decide) ?_
  refine lv_istore_n (lv' := [(3, .int (nI 0)), (0, .ref a), (1, .long x)]) hx hb dJ7_fill_d0a16_1 rfl hl (by decide) rfl (fun ls hl => ?_)
  refine lv_aload_n hx hb dJ7_fill_d0a16_2 rfl (lv_at hl 1 rfl) ?_
  refine va_alen (v := nI n) hx hb C.2.2.2.2 hW.1 0 2 rfl rfl rfl dJ7_fill_d0a16_3 ?_
  refine lv_istore (lv' := [(4, .int (nI n)), (3, .int (nI 0)), (0, .ref a), (1, .long x)]) hx hb dJ7_fill_d0a16_4 hl (by decide) rfl (fun ls hl => ?_)
  refine W_loopH (σ := Nat × (Nat → Int64)) (fun z => n - z.1) (fun z H locs g => ∃ ls, g = F0 m 6 ls [] ∧ lv_has ls 5 [(3, .int (nI z.1)), (4, .int (nI n)), (0, .ref a), (1, .long x)] ∧ CxB D [(a, .inl (aT 2, n, .inr (.inl z.2)))] A s.heap H locs ∧ z.1 ≤ n) ?_ (0, f) _ ⟨_, rfl, lv_sub hl [1, 0, 2, 3] rfl, hW, Nat.zero_le _⟩
  clear hW hl
  rintro ⟨i, f⟩ H locs g ⟨ls, rfl, hl, hW, hi⟩ ih
  dsimp only at hl hW hi ⊢
  refine lv_iload_n hx hb dJ7_fill_d0a16_6 rfl (lv_at hl 0 rfl) ?_
  refine lv_iload hx hb dJ7_fill_d0a16_7 (lv_at hl 1 rfl) ?_
  refine r_geN hx hb (a := i) (b := n) (by omega) hn (tgt := 22) dJ7_fill_d0a16_9 (by decide) (fun h => ?_) (fun h => ?_)
  · exact cx_vret C hr hlocks hW ⟨Nat.le_refl _, Nat.le_refl _⟩ ⟨_, rfl⟩ dJ7_fill_d0a16_22
  · refine lv_aload_n hx hb dJ7_fill_d0a16_12 rfl (lv_at hl 2 rfl) ?_
    refine lv_iload_n hx hb dJ7_fill_d0a16_13 rfl (lv_at hl 0 rfl) ?_
    refine lv_lload_n hx hb dJ7_fill_d0a16_14 rfl (lv_at hl 3 rfl) ?_
    refine cx_last C hW 0 2 (j := i) (W1 := [(a, .inl (aT 2, n, .inr (.inl (vp_updL f i x))))]) rfl rfl rfl h hn rfl dJ7_fill_d0a16_15 (fun H locs hW => ?_)
    refine lv_iinc (v := nI (i + 1)) (lv' := [(3, .int (nI (i + 1))), (4, .int (nI n)), (0, .ref a), (1, .long x)]) hx hb dJ7_fill_d0a16_16 hl (k := 0) rfl (nI_1 _) (by decide) rfl (fun ls hl => ?_)
    refine lv_goto (tgt := 6) hx hb dJ7_fill_d0a16_19 (by decide) ?_
    exact ih (i + 1, (vp_updL f i x)) _ _ _ (by dsimp only; omega) ⟨_, rfl, hl, hW, h⟩
theorem dX2_has_0 : decode cX2_has 0 = .ok (.iload_n 1, 1) := by decide +kernel
theorem dX2_has_1 : decode cX2_has 1 = .ok (.ifCond .lt 15, 3) := by decide +kernel
theorem dX2_has_4 : decode cX2_has 4 = .ok (.iload_n 1, 1) := by decide +kernel
theorem dX2_has_5 : decode cX2_has 5 = .ok (.aload_n 0, 1) := by decide +kernel
theorem dX2_has_6 : decode cX2_has 6 = .ok (.getfield 21, 3) := by decide +kernel
theorem dX2_has_9 : decode cX2_has 9 = .ok (.if_icmp .ge 7, 3) := by decide +kernel
theorem dX2_has_12 : decode cX2_has 12 = .ok (.iconst 1, 1) := by decide +kernel
theorem dX2_has_13 : decode cX2_has 13 = .ok (.goto 4, 3) := by decide +kernel
theorem dX2_has_16 : decode cX2_has 16 = .ok (.iconst 0, 1) := by decide +kernel
theorem dX2_has_17 : decode cX2_has 17 = .ok (.ireturn, 1) := by decide +kernel
set_option maxHeartbeats 2000000 in
set_option maxRecDepth 20000 in
theorem k_X2_has (l : Launch) (hfl : l.stackTraces = false) (D : va_G) (aT : Nat → ClassId) (a1 : Nat) (a2 : Nat) (a3 : Nat) (a4 : Nat) (x : Int32) : CxG l yX2_has cX2_has 2 (some (.boolean)) 0 0 0 0 D aT [.ref a1, .int x] [(a1, .inr (6, [.ref a2, .ref a3, .ref a4, .int (nI 0)])), (a2, .inl (aT 0, 6, .inl (fun _ => nI 0))), (a3, .inl (aT 0, 6, .inl (fun _ => nI 0))), (a4, .inl (aT 0, 6, .inl (fun _ => nI 0)))] (qI D aT (fun r W1 => r = nI 0 ∧ W1 = [(a1, .inr (6, [.ref a2, .ref a3, .ref a4, .int (nI 0)])), (a2, .inl (aT 0, 6, .inl (fun _ => nI 0))), (a3, .inl (aT 0, 6, .inl (fun _ => nI 0))), (a4, .inl (aT 0, 6, .inl (fun _ => nI 0)))])) (fun _ => False) := by
  refine CxG.of RX2 (by decide +kernel) rfl (Nat.le_of_ble_eq_true rfl) ?_
  intro p e s m below meth c A ls C hml hl hA hr hlocks hex hnm hZ hW
  have hl : lv_has ls 2 [(0, .ref a1), (1, .int x)] := hl
  have hx := C.1
  have hb := C.2.1
  refine lv_iload_n hx hb dX2_has_0 rfl (lv_at hl 1 rfl) ?_
  refine lv_if_lt hx hb (x := x) (tgt := 16) dX2_has_1 (by decide) (fun c_1 => ?_) (fun c_1 => ?_)
  · refine lv_iconst (v := nI 0) hx hb dX2_has_16 (by decide) ?_
    exact cx_iret C hr hlocks (by decide) hW ⟨Nat.le_of_ble_eq_true rfl, Nat.le_of_ble_eq_true rfl⟩ (⟨rfl, rfl⟩) dX2_has_17
  · refine lv_iload_n hx hb dX2_has_4 rfl (lv_at hl 1 rfl) ?_
    refine lv_aload_n hx hb dX2_has_5 rfl (lv_at hl 0 rfl) ?_
    refine cx_get C hW 0 3 rfl rfl (by decide) inX2 gw_129 rfl rfl dX2_has_6 ?_
    refine lv_icmp_ge hx hb (x := x) (y := (nI 0)) (tgt := 16) dX2_has_9 (by decide) (fun c_9 => ?_) (fun c_9 => ?_)
    · refine lv_iconst (v := nI 0) hx hb dX2_has_16 (by decide) ?_
      exact cx_iret C hr hlocks (by decide) hW ⟨Nat.le_of_ble_eq_true rfl, Nat.le_of_ble_eq_true rfl⟩ (⟨rfl, rfl⟩) dX2_has_17
    · exact absurd (Int32.not_lt.mp c_1) c_9
theorem dX2_isFull_0 : decode cX2_isFull 0 = .ok (.aload_n 0, 1) := by decide +kernel
theorem dX2_isFull_1 : decode cX2_isFull 1 = .ok (.getfield 21, 3) := by decide +kernel
theorem dX2_isFull_4 : decode cX2_isFull 4 = .ok (.bipush 6, 2) := by decide +kernel
theorem dX2_isFull_6 : decode cX2_isFull 6 = .ok (.if_icmp .lt 7, 3) := by decide +kernel
theorem dX2_isFull_9 : decode cX2_isFull 9 = .ok (.iconst 1, 1) := by decide +kernel
theorem dX2_isFull_10 : decode cX2_isFull 10 = .ok (.goto 4, 3) := by decide +kernel
theorem dX2_isFull_13 : decode cX2_isFull 13 = .ok (.iconst 0, 1) := by decide +kernel
theorem dX2_isFull_14 : decode cX2_isFull 14 = .ok (.ireturn, 1) := by decide +kernel
set_option maxHeartbeats 2000000 in
set_option maxRecDepth 20000 in
theorem k_X2_isFull (l : Launch) (hfl : l.stackTraces = false) (D : va_G) (aT : Nat → ClassId) (a1 : Nat) (a2 : Nat) (a3 : Nat) (a4 : Nat) : CxG l yX2_isFull cX2_isFull 1 (some (.boolean)) 0 0 0 0 D aT [.ref a1] [(a1, .inr (6, [.ref a2, .ref a3, .ref a4, .int (nI 0)])), (a2, .inl (aT 0, 6, .inl (fun _ => nI 0))), (a3, .inl (aT 0, 6, .inl (fun _ => nI 0))), (a4, .inl (aT 0, 6, .inl (fun _ => nI 0)))] (qI D aT (fun r W1 => r = (nI 0) ∧ W1 = [(a1, .inr (6, [.ref a2, .ref a3, .ref a4, .int (nI 0)])), (a2, .inl (aT 0, 6, .inl (fun _ => nI 0))), (a3, .inl (aT 0, 6, .inl (fun _ => nI 0))), (a4, .inl (aT 0, 6, .inl (fun _ => nI 0)))])) (fun _ => False) := by
  refine CxG.of RX2 (by decide +kernel) rfl (Nat.le_of_ble_eq_true rfl) ?_
  intro p e s m below meth c A ls C hml hl hA hr hlocks hex hnm hZ hW
  have hl : lv_has ls 1 [(0, .ref a1)] := hl
  have hx := C.1
  have hb := C.2.1
  refine lv_aload_n hx hb dX2_isFull_0 rfl (lv_at hl 0 rfl) ?_
  refine cx_get C hW 0 3 rfl rfl (by decide) inX2 gw_129 rfl rfl dX2_isFull_1 ?_
  refine lv_bipush (v := nI 6) hx hb dX2_isFull_4 (by decide) ?_
  refine lv_icmp_lt hx hb (x := (nI 0)) (y := (nI 6)) (tgt := 13) dX2_isFull_6 (by decide) (fun c_6 => ?_) (fun c_6 => ?_)
  · refine lv_iconst (v := nI 0) hx hb dX2_isFull_13 (by decide) ?_
    exact cx_iret C hr hlocks (by decide) hW ⟨Nat.le_of_ble_eq_true rfl, Nat.le_of_ble_eq_true rfl⟩ (⟨rfl, rfl⟩) dX2_isFull_14
  · exact absurd (by decide) c_6
theorem dX2_add_0 : decode cX2_add 0 = .ok (.aload_n 0, 1) := by decide +kernel
theorem dX2_add_1 : decode cX2_add 1 = .ok (.getfield 21, 3) := by decide +kernel
theorem dX2_add_4 : decode cX2_add 4 = .ok (.istore 4, 2) := by decide +kernel
theorem dX2_add_6 : decode cX2_add 6 = .ok (.aload_n 0, 1) := by decide +kernel
theorem dX2_add_7 : decode cX2_add 7 = .ok (.getfield 9, 3) := by decide +kernel
theorem dX2_add_10 : decode cX2_add 10 = .ok (.iload 4, 2) := by decide +kernel
theorem dX2_add_12 : decode cX2_add 12 = .ok (.iload_n 1, 1) := by decide +kernel
theorem dX2_add_13 : decode cX2_add 13 = .ok (.iastore, 1) := by decide +kernel
theorem dX2_add_14 : decode cX2_add 14 = .ok (.aload_n 0, 1) := by decide +kernel
theorem dX2_add_15 : decode cX2_add 15 = .ok (.getfield 15, 3) := by decide +kernel
theorem dX2_add_18 : decode cX2_add 18 = .ok (.iload 4, 2) := by decide +kernel
theorem dX2_add_20 : decode cX2_add 20 = .ok (.iload_n 2, 1) := by decide +kernel
theorem dX2_add_21 : decode cX2_add 21 = .ok (.iastore, 1) := by decide +kernel
theorem dX2_add_22 : decode cX2_add 22 = .ok (.aload_n 0, 1) := by decide +kernel
theorem dX2_add_23 : decode cX2_add 23 = .ok (.getfield 18, 3) := by decide +kernel
theorem dX2_add_26 : decode cX2_add 26 = .ok (.iload 4, 2) := by decide +kernel
theorem dX2_add_28 : decode cX2_add 28 = .ok (.iload_n 3, 1) := by decide +kernel
theorem dX2_add_29 : decode cX2_add 29 = .ok (.iastore, 1) := by decide +kernel
theorem dX2_add_30 : decode cX2_add 30 = .ok (.aload_n 0, 1) := by decide +kernel
theorem dX2_add_31 : decode cX2_add 31 = .ok (.iload 4, 2) := by decide +kernel
theorem dX2_add_33 : decode cX2_add 33 = .ok (.iconst 1, 1) := by decide +kernel
theorem dX2_add_34 : decode cX2_add 34 = .ok (.iadd, 1) := by decide +kernel
theorem dX2_add_35 : decode cX2_add 35 = .ok (.putfield 21, 3) := by decide +kernel
theorem dX2_add_38 : decode cX2_add 38 = .ok (.iload 4, 2) := by decide +kernel
theorem dX2_add_40 : decode cX2_add 40 = .ok (.ireturn, 1) := by decide +kernel
set_option maxHeartbeats 2000000 in
set_option maxRecDepth 20000 in
theorem k_X2_add (l : Launch) (hfl : l.stackTraces = false) (D : va_G) (aT : Nat → ClassId) (a1 : Nat) (a2 : Nat) (a3 : Nat) (a4 : Nat) (x : Int32) (y : Int32) (z : Int32) : CxG l yX2_add cX2_add 5 (some (.int)) 0 0 0 0 D aT [.ref a1, .int x, .int y, .int z] [(a1, .inr (6, [.ref a2, .ref a3, .ref a4, .int (nI 0)])), (a2, .inl (aT 0, 6, .inl (fun _ => nI 0))), (a3, .inl (aT 0, 6, .inl (fun _ => nI 0))), (a4, .inl (aT 0, 6, .inl (fun _ => nI 0)))] (qI D aT (fun r W1 => r = (nI 0) ∧ W1 = [(a1, .inr (6, [.ref a2, .ref a3, .ref a4, .int (nI 1)])), (a2, .inl (aT 0, 6, .inl (upd (fun _ => nI 0) 0 (x)))), (a3, .inl (aT 0, 6, .inl (upd (fun _ => nI 0) 0 (y)))), (a4, .inl (aT 0, 6, .inl (upd (fun _ => nI 0) 0 (z))))])) (fun _ => False) := by
  refine CxG.of RX2 (by decide +kernel) rfl (Nat.le_of_ble_eq_true rfl) ?_
  intro p e s m below meth c A ls C hml hl hA hr hlocks hex hnm hZ hW
  have hl : lv_has ls 5 [(0, .ref a1), (1, .int x), (2, .int y), (3, .int z)] := hl
  have hx := C.1
  have hb := C.2.1
  refine lv_aload_n hx hb dX2_add_0 rfl (lv_at hl 0 rfl) ?_
  refine cx_get C hW 0 3 rfl rfl (by decide) inX2 gw_129 rfl rfl dX2_add_1 ?_
  refine lv_istore (lv' := [(4, .int (nI 0)), (0, .ref a1), (1, .int x), (2, .int y), (3, .int z)]) hx hb dX2_add_4 hl (by decide) rfl (fun ls hl => ?_)
  refine lv_aload_n hx hb dX2_add_6 rfl (lv_at hl 1 rfl) ?_
  refine cx_get C hW 0 0 rfl rfl (by decide) inX2 gw_124 rfl rfl dX2_add_7 ?_
  refine lv_iload hx hb dX2_add_10 (lv_at hl 0 rfl) ?_
  refine lv_iload_n hx hb dX2_add_12 rfl (lv_at hl 2 rfl) ?_
  refine cx_ast C hW 1 0 (j := 0) (W1 := [(a1, .inr (6, [.ref a2, .ref a3, .ref a4, .int (nI 0)])), (a2, .inl (aT 0, 6, .inl (upd (fun _ => nI 0) 0 (x)))), (a3, .inl (aT 0, 6, .inl (fun _ => nI 0))), (a4, .inl (aT 0, 6, .inl (fun _ => nI 0)))]) rfl rfl rfl (by omega) (by decide) rfl dX2_add_13 (fun H locs hW => ?_)
  refine lv_aload_n hx hb dX2_add_14 rfl (lv_at hl 1 rfl) ?_
  refine cx_get C hW 0 1 rfl rfl (by decide) inX2 gw_126 rfl rfl dX2_add_15 ?_
  refine lv_iload hx hb dX2_add_18 (lv_at hl 0 rfl) ?_
  refine lv_iload_n hx hb dX2_add_20 rfl (lv_at hl 3 rfl) ?_
  refine cx_ast C hW 2 0 (j := 0) (W1 := [(a1, .inr (6, [.ref a2, .ref a3, .ref a4, .int (nI 0)])), (a2, .inl (aT 0, 6, .inl (upd (fun _ => nI 0) 0 (x)))), (a3, .inl (aT 0, 6, .inl (upd (fun _ => nI 0) 0 (y)))), (a4, .inl (aT 0, 6, .inl (fun _ => nI 0)))]) rfl rfl rfl (by omega) (by decide) rfl dX2_add_21 (fun H locs hW => ?_)
  refine lv_aload_n hx hb dX2_add_22 rfl (lv_at hl 1 rfl) ?_
  refine cx_get C hW 0 2 rfl rfl (by decide) inX2 gw_128 rfl rfl dX2_add_23 ?_
  refine lv_iload hx hb dX2_add_26 (lv_at hl 0 rfl) ?_
  refine lv_iload_n hx hb dX2_add_28 rfl (lv_at hl 4 rfl) ?_
  refine cx_ast C hW 3 0 (j := 0) (W1 := [(a1, .inr (6, [.ref a2, .ref a3, .ref a4, .int (nI 0)])), (a2, .inl (aT 0, 6, .inl (upd (fun _ => nI 0) 0 (x)))), (a3, .inl (aT 0, 6, .inl (upd (fun _ => nI 0) 0 (y)))), (a4, .inl (aT 0, 6, .inl (upd (fun _ => nI 0) 0 (z))))]) rfl rfl rfl (by omega) (by decide) rfl dX2_add_29 (fun H locs hW => ?_)
  refine lv_aload_n hx hb dX2_add_30 rfl (lv_at hl 1 rfl) ?_
  refine lv_iload hx hb dX2_add_31 (lv_at hl 0 rfl) ?_
  refine lv_iconst (v := nI 1) hx hb dX2_add_33 (by decide) ?_
  refine r_iaddN hx hb (a := 0) (b := 1) dX2_add_34 ?_
  refine cx_put C hW 0 3 (W1 := [(a1, .inr (6, [.ref a2, .ref a3, .ref a4, .int (nI 1)])), (a2, .inl (aT 0, 6, .inl (upd (fun _ => nI 0) 0 (x)))), (a3, .inl (aT 0, 6, .inl (upd (fun _ => nI 0) 0 (y)))), (a4, .inl (aT 0, 6, .inl (upd (fun _ => nI 0) 0 (z))))]) rfl rfl (by decide) inX2 tyX2 tyX2_ok nmX2 gw_129 rfl rfl rfl rfl rfl (Nat.le_of_ble_eq_true rfl) rfl dX2_add_35 (fun H locs hW => ?_)
  refine lv_iload hx hb dX2_add_38 (lv_at hl 0 rfl) ?_
  exact cx_iret C hr hlocks rfl hW ⟨Nat.le_of_ble_eq_true rfl, Nat.le_of_ble_eq_true rfl⟩ (⟨rfl, rfl⟩) dX2_add_40
theorem dX2_meet_0 : decode cX2_meet 0 = .ok (.iconst 0, 1) := by decide +kernel
theorem dX2_meet_1 : decode cX2_meet 1 = .ok (.istore_n 2, 1) := by decide +kernel
theorem dX2_meet_2 : decode cX2_meet 2 = .ok (.iload_n 2, 1) := by decide +kernel
theorem dX2_meet_3 : decode cX2_meet 3 = .ok (.aload_n 0, 1) := by decide +kernel
theorem dX2_meet_4 : decode cX2_meet 4 = .ok (.getfield 21, 3) := by decide +kernel
theorem dX2_meet_7 : decode cX2_meet 7 = .ok (.if_icmp .ge 63, 3) := by decide +kernel
theorem dX2_meet_10 : decode cX2_meet 10 = .ok (.aload_n 0, 1) := by decide +kernel
theorem dX2_meet_11 : decode cX2_meet 11 = .ok (.getfield 9, 3) := by decide +kernel
theorem dX2_meet_14 : decode cX2_meet 14 = .ok (.iload_n 2, 1) := by decide +kernel
theorem dX2_meet_15 : decode cX2_meet 15 = .ok (.iaload, 1) := by decide +kernel
theorem dX2_meet_16 : decode cX2_meet 16 = .ok (.getstatic 47, 3) := by decide +kernel
theorem dX2_meet_19 : decode cX2_meet 19 = .ok (.iload_n 1, 1) := by decide +kernel
theorem dX2_meet_20 : decode cX2_meet 20 = .ok (.iaload, 1) := by decide +kernel
theorem dX2_meet_21 : decode cX2_meet 21 = .ok (.iadd, 1) := by decide +kernel
theorem dX2_meet_22 : decode cX2_meet 22 = .ok (.istore_n 3, 1) := by decide +kernel
theorem dX2_meet_23 : decode cX2_meet 23 = .ok (.aload_n 0, 1) := by decide +kernel
theorem dX2_meet_24 : decode cX2_meet 24 = .ok (.getfield 9, 3) := by decide +kernel
theorem dX2_meet_27 : decode cX2_meet 27 = .ok (.iload_n 2, 1) := by decide +kernel
theorem dX2_meet_28 : decode cX2_meet 28 = .ok (.iconst 1, 1) := by decide +kernel
theorem dX2_meet_29 : decode cX2_meet 29 = .ok (.bipush 99, 2) := by decide +kernel
theorem dX2_meet_31 : decode cX2_meet 31 = .ok (.iload_n 3, 1) := by decide +kernel
theorem dX2_meet_32 : decode cX2_meet 32 = .ok (.invokestatic 50, 3) := by decide +kernel
theorem dX2_meet_35 : decode cX2_meet 35 = .ok (.invokestatic 55, 3) := by decide +kernel
theorem dX2_meet_38 : decode cX2_meet 38 = .ok (.iastore, 1) := by decide +kernel
theorem dX2_meet_39 : decode cX2_meet 39 = .ok (.iload_n 1, 1) := by decide +kernel
theorem dX2_meet_40 : decode cX2_meet 40 = .ok (.ifCond .ne 24, 3) := by decide +kernel
theorem dX2_meet_43 : decode cX2_meet 43 = .ok (.aload_n 0, 1) := by decide +kernel
theorem dX2_meet_44 : decode cX2_meet 44 = .ok (.getfield 15, 3) := by decide +kernel
theorem dX2_meet_47 : decode cX2_meet 47 = .ok (.iload_n 2, 1) := by decide +kernel
theorem dX2_meet_48 : decode cX2_meet 48 = .ok (.iaload, 1) := by decide +kernel
theorem dX2_meet_49 : decode cX2_meet 49 = .ok (.bipush 9, 2) := by decide +kernel
theorem dX2_meet_51 : decode cX2_meet 51 = .ok (.if_icmp .ge 13, 3) := by decide +kernel
theorem dX2_meet_54 : decode cX2_meet 54 = .ok (.aload_n 0, 1) := by decide +kernel
theorem dX2_meet_55 : decode cX2_meet 55 = .ok (.getfield 15, 3) := by decide +kernel
theorem dX2_meet_58 : decode cX2_meet 58 = .ok (.iload_n 2, 1) := by decide +kernel
theorem dX2_meet_59 : decode cX2_meet 59 = .ok (.dup2, 1) := by decide +kernel
theorem dX2_meet_60 : decode cX2_meet 60 = .ok (.iaload, 1) := by decide +kernel
theorem dX2_meet_61 : decode cX2_meet 61 = .ok (.iconst 1, 1) := by decide +kernel
theorem dX2_meet_62 : decode cX2_meet 62 = .ok (.iadd, 1) := by decide +kernel
theorem dX2_meet_63 : decode cX2_meet 63 = .ok (.iastore, 1) := by decide +kernel
theorem dX2_meet_64 : decode cX2_meet 64 = .ok (.iinc 2 1, 3) := by decide +kernel
theorem dX2_meet_67 : decode cX2_meet 67 = .ok (.goto (-65), 3) := by decide +kernel
theorem dX2_meet_70 : decode cX2_meet 70 = .ok (.return_, 1) := by decide +kernel
set_option maxHeartbeats 2000000 in
set_option maxRecDepth 20000 in
theorem k_X2_meet (l : Launch) (hfl : l.stackTraces = false) (D : va_G) (aT : Nat → ClassId) (a1 : Nat) (a2 : Nat) (a3 : Nat) (a4 : Nat) (x : Int32) : CxG l yX2_meet cX2_meet 4 none 0 0 0 0 D aT [.ref a1, .int x] [(a1, .inr (6, [.ref a2, .ref a3, .ref a4, .int (nI 0)])), (a2, .inl (aT 0, 6, .inl (fun _ => nI 0))), (a3, .inl (aT 0, 6, .inl (fun _ => nI 0))), (a4, .inl (aT 0, 6, .inl (fun _ => nI 0)))] (qV D aT (fun W1 => W1 = [(a1, .inr (6, [.ref a2, .ref a3, .ref a4, .int (nI 0)])), (a2, .inl (aT 0, 6, .inl (fun _ => nI 0))), (a3, .inl (aT 0, 6, .inl (fun _ => nI 0))), (a4, .inl (aT 0, 6, .inl (fun _ => nI 0)))])) (fun _ => False) := by
  refine CxG.of RX2 (by decide +kernel) rfl (Nat.le_of_ble_eq_true rfl) ?_
  intro p e s m below meth c A ls C hml hl hA hr hlocks hex hnm hZ hW
  have hl : lv_has ls 4 [(0, .ref a1), (1, .int x)] := hl
  have hx := C.1
  have hb := C.2.1
  refine lv_iconst (v := nI 0) hx hb dX2_meet_0 (by decide) ?_
  refine lv_istore_n (lv' := [(2, .int (nI 0)), (0, .ref a1), (1, .int x)]) hx hb dX2_meet_1 rfl hl (by decide) rfl (fun ls hl => ?_)
  refine lv_iload_n hx hb dX2_meet_2 rfl (lv_at hl 0 rfl) ?_
  refine lv_aload_n hx hb dX2_meet_3 rfl (lv_at hl 1 rfl) ?_
  refine cx_get C hW 0 3 rfl rfl (by decide) inX2 gw_129 rfl rfl dX2_meet_4 ?_
  refine lv_icmp_ge hx hb (x := (nI 0)) (y := (nI 0)) (tgt := 70) dX2_meet_7 (by decide) (fun c_7 => ?_) (fun c_7 => ?_)
  · exact cx_vret C hr hlocks hW ⟨Nat.le_of_ble_eq_true rfl, Nat.le_of_ble_eq_true rfl⟩ (rfl) dX2_meet_70
  · exact absurd (by decide) c_7
theorem dX5_isFull_0 : decode cX5_isFull 0 = .ok (.aload_n 0, 1) := by decide +kernel
theorem dX5_isFull_1 : decode cX5_isFull 1 = .ok (.getfield 24, 3) := by decide +kernel
theorem dX5_isFull_4 : decode cX5_isFull 4 = .ok (.bipush 12, 2) := by decide +kernel
theorem dX5_isFull_6 : decode cX5_isFull 6 = .ok (.if_icmp .lt 7, 3) := by decide +kernel
theorem dX5_isFull_9 : decode cX5_isFull 9 = .ok (.iconst 1, 1) := by decide +kernel
theorem dX5_isFull_10 : decode cX5_isFull 10 = .ok (.goto 4, 3) := by decide +kernel
theorem dX5_isFull_13 : decode cX5_isFull 13 = .ok (.iconst 0, 1) := by decide +kernel
theorem dX5_isFull_14 : decode cX5_isFull 14 = .ok (.ireturn, 1) := by decide +kernel
set_option maxHeartbeats 2000000 in
set_option maxRecDepth 20000 in
theorem k_X5_isFull (l : Launch) (hfl : l.stackTraces = false) (D : va_G) (aT : Nat → ClassId) (a5 : Nat) (a6 : Nat) (a7 : Nat) (a8 : Nat) (a9 : Nat) : CxG l yX5_isFull cX5_isFull 1 (some (.boolean)) 0 0 0 0 D aT [.ref a5] [(a5, .inr (8, [.ref a6, .ref a7, .ref a8, .ref a9, .int (nI 0), .int (nI 0)])), (a6, .inl (aT 0, 12, .inl (fun _ => nI 0))), (a7, .inl (aT 0, 12, .inl (fun _ => nI 0))), (a8, .inl (aT 0, 12, .inl (fun _ => nI 0))), (a9, .inl (aT 0, 12, .inl (fun _ => nI 0)))] (qI D aT (fun r W1 => r = (nI 0) ∧ W1 = [(a5, .inr (8, [.ref a6, .ref a7, .ref a8, .ref a9, .int (nI 0), .int (nI 0)])), (a6, .inl (aT 0, 12, .inl (fun _ => nI 0))), (a7, .inl (aT 0, 12, .inl (fun _ => nI 0))), (a8, .inl (aT 0, 12, .inl (fun _ => nI 0))), (a9, .inl (aT 0, 12, .inl (fun _ => nI 0)))])) (fun _ => False) := by
  refine CxG.of RX5 (by decide +kernel) rfl (Nat.le_of_ble_eq_true rfl) ?_
  intro p e s m below meth c A ls C hml hl hA hr hlocks hex hnm hZ hW
  have hl : lv_has ls 1 [(0, .ref a5)] := hl
  have hx := C.1
  have hb := C.2.1
  refine lv_aload_n hx hb dX5_isFull_0 rfl (lv_at hl 0 rfl) ?_
  refine cx_get C hW 0 4 rfl rfl (by decide) inX5 gw_161 rfl rfl dX5_isFull_1 ?_
  refine lv_bipush (v := nI 12) hx hb dX5_isFull_4 (by decide) ?_
  refine lv_icmp_lt hx hb (x := (nI 0)) (y := (nI 12)) (tgt := 13) dX5_isFull_6 (by decide) (fun c_6 => ?_) (fun c_6 => ?_)
  · refine lv_iconst (v := nI 0) hx hb dX5_isFull_13 (by decide) ?_
    exact cx_iret C hr hlocks (by decide) hW ⟨Nat.le_of_ble_eq_true rfl, Nat.le_of_ble_eq_true rfl⟩ (⟨rfl, rfl⟩) dX5_isFull_14
  · exact absurd (by decide) c_6
theorem dX5_add_0 : decode cX5_add 0 = .ok (.aload_n 0, 1) := by decide +kernel
theorem dX5_add_1 : decode cX5_add 1 = .ok (.getfield 28, 3) := by decide +kernel
theorem dX5_add_4 : decode cX5_add 4 = .ok (.istore 4, 2) := by decide +kernel
theorem dX5_add_6 : decode cX5_add 6 = .ok (.aload_n 0, 1) := by decide +kernel
theorem dX5_add_7 : decode cX5_add 7 = .ok (.getfield 9, 3) := by decide +kernel
theorem dX5_add_10 : decode cX5_add 10 = .ok (.aload_n 0, 1) := by decide +kernel
theorem dX5_add_11 : decode cX5_add 11 = .ok (.getfield 24, 3) := by decide +kernel
theorem dX5_add_14 : decode cX5_add 14 = .ok (.iload 4, 2) := by decide +kernel
theorem dX5_add_16 : decode cX5_add 16 = .ok (.iastore, 1) := by decide +kernel
theorem dX5_add_17 : decode cX5_add 17 = .ok (.aload_n 0, 1) := by decide +kernel
theorem dX5_add_18 : decode cX5_add 18 = .ok (.getfield 15, 3) := by decide +kernel
theorem dX5_add_21 : decode cX5_add 21 = .ok (.aload_n 0, 1) := by decide +kernel
theorem dX5_add_22 : decode cX5_add 22 = .ok (.getfield 24, 3) := by decide +kernel
theorem dX5_add_25 : decode cX5_add 25 = .ok (.iload_n 2, 1) := by decide +kernel
theorem dX5_add_26 : decode cX5_add 26 = .ok (.iastore, 1) := by decide +kernel
theorem dX5_add_27 : decode cX5_add 27 = .ok (.aload_n 0, 1) := by decide +kernel
theorem dX5_add_28 : decode cX5_add 28 = .ok (.getfield 18, 3) := by decide +kernel
theorem dX5_add_31 : decode cX5_add 31 = .ok (.aload_n 0, 1) := by decide +kernel
theorem dX5_add_32 : decode cX5_add 32 = .ok (.getfield 24, 3) := by decide +kernel
theorem dX5_add_35 : decode cX5_add 35 = .ok (.iload_n 3, 1) := by decide +kernel
theorem dX5_add_36 : decode cX5_add 36 = .ok (.iastore, 1) := by decide +kernel
theorem dX5_add_37 : decode cX5_add 37 = .ok (.aload_n 0, 1) := by decide +kernel
theorem dX5_add_38 : decode cX5_add 38 = .ok (.getfield 21, 3) := by decide +kernel
theorem dX5_add_41 : decode cX5_add 41 = .ok (.aload_n 0, 1) := by decide +kernel
theorem dX5_add_42 : decode cX5_add 42 = .ok (.getfield 24, 3) := by decide +kernel
theorem dX5_add_45 : decode cX5_add 45 = .ok (.iload_n 1, 1) := by decide +kernel
theorem dX5_add_46 : decode cX5_add 46 = .ok (.iastore, 1) := by decide +kernel
theorem dX5_add_47 : decode cX5_add 47 = .ok (.aload_n 0, 1) := by decide +kernel
theorem dX5_add_48 : decode cX5_add 48 = .ok (.dup, 1) := by decide +kernel
theorem dX5_add_49 : decode cX5_add 49 = .ok (.getfield 24, 3) := by decide +kernel
theorem dX5_add_52 : decode cX5_add 52 = .ok (.iconst 1, 1) := by decide +kernel
theorem dX5_add_53 : decode cX5_add 53 = .ok (.iadd, 1) := by decide +kernel
theorem dX5_add_54 : decode cX5_add 54 = .ok (.putfield 24, 3) := by decide +kernel
theorem dX5_add_57 : decode cX5_add 57 = .ok (.aload_n 0, 1) := by decide +kernel
theorem dX5_add_58 : decode cX5_add 58 = .ok (.iload 4, 2) := by decide +kernel
theorem dX5_add_60 : decode cX5_add 60 = .ok (.iconst 1, 1) := by decide +kernel
theorem dX5_add_61 : decode cX5_add 61 = .ok (.iadd, 1) := by decide +kernel
theorem dX5_add_62 : decode cX5_add 62 = .ok (.putfield 28, 3) := by decide +kernel
theorem dX5_add_65 : decode cX5_add 65 = .ok (.iload 4, 2) := by decide +kernel
theorem dX5_add_67 : decode cX5_add 67 = .ok (.ireturn, 1) := by decide +kernel
set_option maxHeartbeats 2000000 in
set_option maxRecDepth 20000 in
theorem k_X5_add (l : Launch) (hfl : l.stackTraces = false) (D : va_G) (aT : Nat → ClassId) (a5 : Nat) (a6 : Nat) (a7 : Nat) (a8 : Nat) (a9 : Nat) (x : Int32) (y : Int32) (z : Int32) : CxG l yX5_add cX5_add 5 (some (.int)) 0 0 0 0 D aT [.ref a5, .int x, .int y, .int z] [(a5, .inr (8, [.ref a6, .ref a7, .ref a8, .ref a9, .int (nI 0), .int (nI 0)])), (a6, .inl (aT 0, 12, .inl (fun _ => nI 0))), (a7, .inl (aT 0, 12, .inl (fun _ => nI 0))), (a8, .inl (aT 0, 12, .inl (fun _ => nI 0))), (a9, .inl (aT 0, 12, .inl (fun _ => nI 0)))] (qI D aT (fun r W1 => r = (nI 0) ∧ W1 = [(a5, .inr (8, [.ref a6, .ref a7, .ref a8, .ref a9, .int (nI 1), .int (nI 1)])), (a6, .inl (aT 0, 12, .inl (upd (fun _ => nI 0) 0 ((nI 0))))), (a7, .inl (aT 0, 12, .inl (upd (fun _ => nI 0) 0 (y)))), (a8, .inl (aT 0, 12, .inl (upd (fun _ => nI 0) 0 (z)))), (a9, .inl (aT 0, 12, .inl (upd (fun _ => nI 0) 0 (x))))])) (fun _ => False) := by
  refine CxG.of RX5 (by decide +kernel) rfl (Nat.le_of_ble_eq_true rfl) ?_
  intro p e s m below meth c A ls C hml hl hA hr hlocks hex hnm hZ hW
  have hl : lv_has ls 5 [(0, .ref a5), (1, .int x), (2, .int y), (3, .int z)] := hl
  have hx := C.1
  have hb := C.2.1
  refine lv_aload_n hx hb dX5_add_0 rfl (lv_at hl 0 rfl) ?_
  refine cx_get C hW 0 5 rfl rfl (by decide) inX5 gw_165 rfl rfl dX5_add_1 ?_
  refine lv_istore (lv' := [(4, .int (nI 0)), (0, .ref a5), (1, .int x), (2, .int y), (3, .int z)]) hx hb dX5_add_4 hl (by decide) rfl (fun ls hl => ?_)
  refine lv_aload_n hx hb dX5_add_6 rfl (lv_at hl 1 rfl) ?_
  refine cx_get C hW 0 0 rfl rfl (by decide) inX5 gw_148 rfl rfl dX5_add_7 ?_
  refine lv_aload_n hx hb dX5_add_10 rfl (lv_at hl 1 rfl) ?_
  refine cx_get C hW 0 4 rfl rfl (by decide) inX5 gw_161 rfl rfl dX5_add_11 ?_
  refine lv_iload hx hb dX5_add_14 (lv_at hl 0 rfl) ?_
  refine cx_ast C hW 1 0 (j := 0) (W1 := [(a5, .inr (8, [.ref a6, .ref a7, .ref a8, .ref a9, .int (nI 0), .int (nI 0)])), (a6, .inl (aT 0, 12, .inl (upd (fun _ => nI 0) 0 ((nI 0))))), (a7, .inl (aT 0, 12, .inl (fun _ => nI 0))), (a8, .inl (aT 0, 12, .inl (fun _ => nI 0))), (a9, .inl (aT 0, 12, .inl (fun _ => nI 0)))]) rfl rfl rfl (by omega) (by decide) rfl dX5_add_16 (fun H locs hW => ?_)
  refine lv_aload_n hx hb dX5_add_17 rfl (lv_at hl 1 rfl) ?_
  refine cx_get C hW 0 1 rfl rfl (by decide) inX5 gw_150 rfl rfl dX5_add_18 ?_
  refine lv_aload_n hx hb dX5_add_21 rfl (lv_at hl 1 rfl) ?_
  refine cx_get C hW 0 4 rfl rfl (by decide) inX5 gw_161 rfl rfl dX5_add_22 ?_
  refine lv_iload_n hx hb dX5_add_25 rfl (lv_at hl 3 rfl) ?_
  refine cx_ast C hW 2 0 (j := 0) (W1 := [(a5, .inr (8, [.ref a6, .ref a7, .ref a8, .ref a9, .int (nI 0), .int (nI 0)])), (a6, .inl (aT 0, 12, .inl (upd (fun _ => nI 0) 0 ((nI 0))))), (a7, .inl (aT 0, 12, .inl (upd (fun _ => nI 0) 0 (y)))), (a8, .inl (aT 0, 12, .inl (fun _ => nI 0))), (a9, .inl (aT 0, 12, .inl (fun _ => nI 0)))]) rfl rfl rfl (by omega) (by decide) rfl dX5_add_26 (fun H locs hW => ?_)
  refine lv_aload_n hx hb dX5_add_27 rfl (lv_at hl 1 rfl) ?_
  refine cx_get C hW 0 2 rfl rfl (by decide) inX5 gw_153 rfl rfl dX5_add_28 ?_
  refine lv_aload_n hx hb dX5_add_31 rfl (lv_at hl 1 rfl) ?_
  refine cx_get C hW 0 4 rfl rfl (by decide) inX5 gw_161 rfl rfl dX5_add_32 ?_
  refine lv_iload_n hx hb dX5_add_35 rfl (lv_at hl 4 rfl) ?_
  refine cx_ast C hW 3 0 (j := 0) (W1 := [(a5, .inr (8, [.ref a6, .ref a7, .ref a8, .ref a9, .int (nI 0), .int (nI 0)])), (a6, .inl (aT 0, 12, .inl (upd (fun _ => nI 0) 0 ((nI 0))))), (a7, .inl (aT 0, 12, .inl (upd (fun _ => nI 0) 0 (y)))), (a8, .inl (aT 0, 12, .inl (upd (fun _ => nI 0) 0 (z)))), (a9, .inl (aT 0, 12, .inl (fun _ => nI 0)))]) rfl rfl rfl (by omega) (by decide) rfl dX5_add_36 (fun H locs hW => ?_)
  refine lv_aload_n hx hb dX5_add_37 rfl (lv_at hl 1 rfl) ?_
  refine cx_get C hW 0 3 rfl rfl (by decide) inX5 gw_157 rfl rfl dX5_add_38 ?_
  refine lv_aload_n hx hb dX5_add_41 rfl (lv_at hl 1 rfl) ?_
  refine cx_get C hW 0 4 rfl rfl (by decide) inX5 gw_161 rfl rfl dX5_add_42 ?_
  refine lv_iload_n hx hb dX5_add_45 rfl (lv_at hl 2 rfl) ?_
  refine cx_ast C hW 4 0 (j := 0) (W1 := [(a5, .inr (8, [.ref a6, .ref a7, .ref a8, .ref a9, .int (nI 0), .int (nI 0)])), (a6, .inl (aT 0, 12, .inl (upd (fun _ => nI 0) 0 ((nI 0))))), (a7, .inl (aT 0, 12, .inl (upd (fun _ => nI 0) 0 (y)))), (a8, .inl (aT 0, 12, .inl (upd (fun _ => nI 0) 0 (z)))), (a9, .inl (aT 0, 12, .inl (upd (fun _ => nI 0) 0 (x))))]) rfl rfl rfl (by omega) (by decide) rfl dX5_add_46 (fun H locs hW => ?_)
  refine lv_aload_n hx hb dX5_add_47 rfl (lv_at hl 1 rfl) ?_
  refine lv_dup hx hb dX5_add_48 rfl ?_
  refine cx_get C hW 0 4 rfl rfl (by decide) inX5 gw_161 rfl rfl dX5_add_49 ?_
  refine lv_iconst (v := nI 1) hx hb dX5_add_52 (by decide) ?_
  refine r_iaddN hx hb (a := 0) (b := 1) dX5_add_53 ?_
  refine cx_put C hW 0 4 (W1 := [(a5, .inr (8, [.ref a6, .ref a7, .ref a8, .ref a9, .int (nI 1), .int (nI 0)])), (a6, .inl (aT 0, 12, .inl (upd (fun _ => nI 0) 0 ((nI 0))))), (a7, .inl (aT 0, 12, .inl (upd (fun _ => nI 0) 0 (y)))), (a8, .inl (aT 0, 12, .inl (upd (fun _ => nI 0) 0 (z)))), (a9, .inl (aT 0, 12, .inl (upd (fun _ => nI 0) 0 (x))))]) rfl rfl (by decide) inX5 tyX5 tyX5_ok nmX5 gw_161 rfl rfl rfl rfl rfl (Nat.le_of_ble_eq_true rfl) rfl dX5_add_54 (fun H locs hW => ?_)
  refine lv_aload_n hx hb dX5_add_57 rfl (lv_at hl 1 rfl) ?_
  refine lv_iload hx hb dX5_add_58 (lv_at hl 0 rfl) ?_
  refine lv_iconst (v := nI 1) hx hb dX5_add_60 (by decide) ?_
  refine r_iaddN hx hb (a := 0) (b := 1) dX5_add_61 ?_
  refine cx_put C hW 0 5 (W1 := [(a5, .inr (8, [.ref a6, .ref a7, .ref a8, .ref a9, .int (nI 1), .int (nI 1)])), (a6, .inl (aT 0, 12, .inl (upd (fun _ => nI 0) 0 ((nI 0))))), (a7, .inl (aT 0, 12, .inl (upd (fun _ => nI 0) 0 (y)))), (a8, .inl (aT 0, 12, .inl (upd (fun _ => nI 0) 0 (z)))), (a9, .inl (aT 0, 12, .inl (upd (fun _ => nI 0) 0 (x))))]) rfl rfl (by decide) inX5 tyX5 tyX5_ok nmX5 gw_165 rfl rfl rfl rfl rfl (Nat.le_of_ble_eq_true rfl) rfl dX5_add_62 (fun H locs hW => ?_)
  refine lv_iload hx hb dX5_add_65 (lv_at hl 0 rfl) ?_
  exact cx_iret C hr hlocks rfl hW ⟨Nat.le_of_ble_eq_true rfl, Nat.le_of_ble_eq_true rfl⟩ (⟨rfl, rfl⟩) dX5_add_67
theorem dX5_totalWeight_0 : decode cX5_totalWeight 0 = .ok (.iconst 0, 1) := by decide +kernel
theorem dX5_totalWeight_1 : decode cX5_totalWeight 1 = .ok (.istore_n 1, 1) := by decide +kernel
theorem dX5_totalWeight_2 : decode cX5_totalWeight 2 = .ok (.iconst 0, 1) := by decide +kernel
theorem dX5_totalWeight_3 : decode cX5_totalWeight 3 = .ok (.istore_n 2, 1) := by decide +kernel
theorem dX5_totalWeight_4 : decode cX5_totalWeight 4 = .ok (.iload_n 2, 1) := by decide +kernel
theorem dX5_totalWeight_5 : decode cX5_totalWeight 5 = .ok (.aload_n 0, 1) := by decide +kernel
theorem dX5_totalWeight_6 : decode cX5_totalWeight 6 = .ok (.getfield 24, 3) := by decide +kernel
theorem dX5_totalWeight_9 : decode cX5_totalWeight 9 = .ok (.if_icmp .ge 18, 3) := by decide +kernel
theorem dX5_totalWeight_12 : decode cX5_totalWeight 12 = .ok (.iload_n 1, 1) := by decide +kernel
theorem dX5_totalWeight_13 : decode cX5_totalWeight 13 = .ok (.aload_n 0, 1) := by decide +kernel
theorem dX5_totalWeight_14 : decode cX5_totalWeight 14 = .ok (.getfield 18, 3) := by decide +kernel
theorem dX5_totalWeight_17 : decode cX5_totalWeight 17 = .ok (.iload_n 2, 1) := by decide +kernel
theorem dX5_totalWeight_18 : decode cX5_totalWeight 18 = .ok (.iaload, 1) := by decide +kernel
theorem dX5_totalWeight_19 : decode cX5_totalWeight 19 = .ok (.iadd, 1) := by decide +kernel
theorem dX5_totalWeight_20 : decode cX5_totalWeight 20 = .ok (.istore_n 1, 1) := by decide +kernel
theorem dX5_totalWeight_21 : decode cX5_totalWeight 21 = .ok (.iinc 2 1, 3) := by decide +kernel
theorem dX5_totalWeight_24 : decode cX5_totalWeight 24 = .ok (.goto (-20), 3) := by decide +kernel
theorem dX5_totalWeight_27 : decode cX5_totalWeight 27 = .ok (.iload_n 1, 1) := by decide +kernel
theorem dX5_totalWeight_28 : decode cX5_totalWeight 28 = .ok (.ireturn, 1) := by decide +kernel
set_option maxHeartbeats 2000000 in
set_option maxRecDepth 20000 in
theorem k_X5_totalWeight (l : Launch) (hfl : l.stackTraces = false) (D : va_G) (aT : Nat → ClassId) (a5 : Nat) (a6 : Nat) (a7 : Nat) (a8 : Nat) (a9 : Nat) : CxG l yX5_totalWeight cX5_totalWeight 3 (some (.int)) 0 0 0 0 D aT [.ref a5] [(a5, .inr (8, [.ref a6, .ref a7, .ref a8, .ref a9, .int (nI 0), .int (nI 0)])), (a6, .inl (aT 0, 12, .inl (fun _ => nI 0))), (a7, .inl (aT 0, 12, .inl (fun _ => nI 0))), (a8, .inl (aT 0, 12, .inl (fun _ => nI 0))), (a9, .inl (aT 0, 12, .inl (fun _ => nI 0)))] (qI D aT (fun r W1 => r = (nI 0) ∧ W1 = [(a5, .inr (8, [.ref a6, .ref a7, .ref a8, .ref a9, .int (nI 0), .int (nI 0)])), (a6, .inl (aT 0, 12, .inl (fun _ => nI 0))), (a7, .inl (aT 0, 12, .inl (fun _ => nI 0))), (a8, .inl (aT 0, 12, .inl (fun _ => nI 0))), (a9, .inl (aT 0, 12, .inl (fun _ => nI 0)))])) (fun _ => False) := by
  refine CxG.of RX5 (by decide +kernel) rfl (Nat.le_of_ble_eq_true rfl) ?_
  intro p e s m below meth c A ls C hml hl hA hr hlocks hex hnm hZ hW
  have hl : lv_has ls 3 [(0, .ref a5)] := hl
  have hx := C.1
  have hb := C.2.1
  refine lv_iconst (v := nI 0) hx hb dX5_totalWeight_0 (by decide) ?_
  refine lv_istore_n (lv' := [(1, .int (nI 0)), (0, .ref a5)]) hx hb dX5_totalWeight_1 rfl hl (by decide) rfl (fun ls hl => ?_)
  refine lv_iconst (v := nI 0) hx hb dX5_totalWeight_2 (by decide) ?_
  refine lv_istore_n (lv' := [(2, .int (nI 0)), (1, .int (nI 0)), (0, .ref a5)]) hx hb dX5_totalWeight_3 rfl hl (by decide) rfl (fun ls hl => ?_)
  refine lv_iload_n hx hb dX5_totalWeight_4 rfl (lv_at hl 0 rfl) ?_
  refine lv_aload_n hx hb dX5_totalWeight_5 rfl (lv_at hl 2 rfl) ?_
  refine cx_get C hW 0 4 rfl rfl (by decide) inX5 gw_161 rfl rfl dX5_totalWeight_6 ?_
  refine lv_icmp_ge hx hb (x := (nI 0)) (y := (nI 0)) (tgt := 27) dX5_totalWeight_9 (by decide) (fun c_9 => ?_) (fun c_9 => ?_)
  · refine lv_iload_n hx hb dX5_totalWeight_27 rfl (lv_at hl 1 rfl) ?_
    exact cx_iret C hr hlocks rfl hW ⟨Nat.le_of_ble_eq_true rfl, Nat.le_of_ble_eq_true rfl⟩ (⟨rfl, rfl⟩) dX5_totalWeight_28
  · exact absurd (by decide) c_9
theorem dX5_require_0 : decode cX5_require 0 = .ok (.iconst 0, 1) := by decide +kernel
theorem dX5_require_1 : decode cX5_require 1 = .ok (.istore_n 2, 1) := by decide +kernel
theorem dX5_require_2 : decode cX5_require 2 = .ok (.iload_n 2, 1) := by decide +kernel
theorem dX5_require_3 : decode cX5_require 3 = .ok (.aload_n 0, 1) := by decide +kernel
theorem dX5_require_4 : decode cX5_require 4 = .ok (.getfield 24, 3) := by decide +kernel
theorem dX5_require_7 : decode cX5_require 7 = .ok (.if_icmp .ge 21, 3) := by decide +kernel
theorem dX5_require_10 : decode cX5_require 10 = .ok (.aload_n 0, 1) := by decide +kernel
theorem dX5_require_11 : decode cX5_require 11 = .ok (.getfield 9, 3) := by decide +kernel
theorem dX5_require_14 : decode cX5_require 14 = .ok (.iload_n 2, 1) := by decide +kernel
theorem dX5_require_15 : decode cX5_require 15 = .ok (.iaload, 1) := by decide +kernel
theorem dX5_require_16 : decode cX5_require 16 = .ok (.iload_n 1, 1) := by decide +kernel
theorem dX5_require_17 : decode cX5_require 17 = .ok (.if_icmp .ne 5, 3) := by decide +kernel
theorem dX5_require_20 : decode cX5_require 20 = .ok (.iload_n 2, 1) := by decide +kernel
theorem dX5_require_21 : decode cX5_require 21 = .ok (.ireturn, 1) := by decide +kernel
theorem dX5_require_22 : decode cX5_require 22 = .ok (.iinc 2 1, 3) := by decide +kernel
theorem dX5_require_25 : decode cX5_require 25 = .ok (.goto (-23), 3) := by decide +kernel
theorem dX5_require_28 : decode cX5_require 28 = .ok (.new 37, 3) := by decide +kernel
theorem dX5_require_31 : decode cX5_require 31 = .ok (.dup, 1) := by decide +kernel
theorem dX5_require_32 : decode cX5_require 32 = .ok (.ldc 39, 2) := by decide +kernel
theorem dX5_require_34 : decode cX5_require 34 = .ok (.invokespecial 41, 3) := by decide +kernel
theorem dX5_require_37 : decode cX5_require 37 = .ok (.athrow, 1) := by decide +kernel
set_option maxHeartbeats 2000000 in
set_option maxRecDepth 20000 in
theorem k_X5_require (l : Launch) (hfl : l.stackTraces = false) (D : va_G) (aT : Nat → ClassId) (a5 : Nat) (a6 : Nat) (a7 : Nat) (a8 : Nat) (a9 : Nat) (x : Int32) : CxG l yX5_require cX5_require 3 (some (.int)) 6 1 6 90 D aT [.ref a5, .int x] [(a5, .inr (8, [.ref a6, .ref a7, .ref a8, .ref a9, .int (nI 0), .int (nI 0)])), (a6, .inl (aT 0, 12, .inl (fun _ => nI 0))), (a7, .inl (aT 0, 12, .inl (fun _ => nI 0))), (a8, .inl (aT 0, 12, .inl (fun _ => nI 0))), (a9, .inl (aT 0, 12, .inl (fun _ => nI 0)))] (qI D aT (fun _ _ => False)) (fun E => E = "java/util/NoSuchElementException") := by
  refine CxG.of RX5 (by decide +kernel) rfl (Nat.le_of_ble_eq_true rfl) ?_
  intro p e s m below meth c A ls C hml hl hA hr hlocks hex hnm hZ hW
  have hl : lv_has ls 3 [(0, .ref a5), (1, .int x)] := hl
  have hx := C.1
  have hb := C.2.1
  refine lv_iconst (v := nI 0) hx hb dX5_require_0 (by decide) ?_
  refine lv_istore_n (lv' := [(2, .int (nI 0)), (0, .ref a5), (1, .int x)]) hx hb dX5_require_1 rfl hl (by decide) rfl (fun ls hl => ?_)
  refine lv_iload_n hx hb dX5_require_2 rfl (lv_at hl 0 rfl) ?_
  refine lv_aload_n hx hb dX5_require_3 rfl (lv_at hl 1 rfl) ?_
  refine cx_get C hW 0 4 rfl rfl (by decide) inX5 gw_161 rfl rfl dX5_require_4 ?_
  refine lv_icmp_ge hx hb (x := (nI 0)) (y := (nI 0)) (tgt := 28) dX5_require_7 (by decide) (fun c_7 => ?_) (fun c_7 => ?_)
  · exact cx_throwX C hfl hex hml hl.1 hlocks hZ hW dx_NoSuchElementException_0 dx_NoSuchElementException_1 dx_NoSuchElementException_2 dx_NoSuchElementException_5 at_X5_NoSuchElementException (List.mem_of_getElem? (i := 4) rfl) gw_703 gw_88 (by decide +kernel) dX5_require_28 dX5_require_31 dX5_require_32 dX5_require_34 dX5_require_37 ⟨Nat.le_of_ble_eq_true rfl, Nat.le_of_ble_eq_true rfl, Nat.le_of_ble_eq_true rfl, Nat.le_of_ble_eq_true rfl⟩ ⟨Nat.le_of_ble_eq_true rfl, Nat.le_of_ble_eq_true rfl⟩ (rfl)
  · exact absurd (by decide) c_7
theorem dX7_newHedge_0 : decode cX7_newHedge 0 = .ok (.iload_n 1, 1) := by decide +kernel
theorem dX7_newHedge_1 : decode cX7_newHedge 1 = .ok (.iconst 1, 1) := by decide +kernel
theorem dX7_newHedge_2 : decode cX7_newHedge 2 = .ok (.if_icmp .lt 23, 3) := by decide +kernel
theorem dX7_newHedge_5 : decode cX7_newHedge 5 = .ok (.iload_n 1, 1) := by decide +kernel
theorem dX7_newHedge_6 : decode cX7_newHedge 6 = .ok (.bipush 99, 2) := by decide +kernel
theorem dX7_newHedge_8 : decode cX7_newHedge 8 = .ok (.if_icmp .gt 17, 3) := by decide +kernel
theorem dX7_newHedge_11 : decode cX7_newHedge 11 = .ok (.iload_n 2, 1) := by decide +kernel
theorem dX7_newHedge_12 : decode cX7_newHedge 12 = .ok (.invokestatic 67, 3) := by decide +kernel
theorem dX7_newHedge_15 : decode cX7_newHedge 15 = .ok (.ifCond .eq 10, 3) := by decide +kernel
theorem dX7_newHedge_18 : decode cX7_newHedge 18 = .ok (.iload_n 3, 1) := by decide +kernel
theorem dX7_newHedge_19 : decode cX7_newHedge 19 = .ok (.invokestatic 67, 3) := by decide +kernel
theorem dX7_newHedge_22 : decode cX7_newHedge 22 = .ok (.ifCond .ne 13, 3) := by decide +kernel
theorem dX7_newHedge_25 : decode cX7_newHedge 25 = .ok (.new 71, 3) := by decide +kernel
theorem dX7_newHedge_28 : decode cX7_newHedge 28 = .ok (.dup, 1) := by decide +kernel
theorem dX7_newHedge_29 : decode cX7_newHedge 29 = .ok (.ldc 73, 2) := by decide +kernel
theorem dX7_newHedge_31 : decode cX7_newHedge 31 = .ok (.invokespecial 75, 3) := by decide +kernel
theorem dX7_newHedge_34 : decode cX7_newHedge 34 = .ok (.athrow, 1) := by decide +kernel
theorem dX7_newHedge_35 : decode cX7_newHedge 35 = .ok (.aload_n 0, 1) := by decide +kernel
theorem dX7_newHedge_36 : decode cX7_newHedge 36 = .ok (.getfield 12, 3) := by decide +kernel
theorem dX7_newHedge_39 : decode cX7_newHedge 39 = .ok (.invokevirtual 78, 3) := by decide +kernel
theorem dX7_newHedge_42 : decode cX7_newHedge 42 = .ok (.ifCond .eq 13, 3) := by decide +kernel
theorem dX7_newHedge_45 : decode cX7_newHedge 45 = .ok (.new 82, 3) := by decide +kernel
theorem dX7_newHedge_48 : decode cX7_newHedge 48 = .ok (.dup, 1) := by decide +kernel
theorem dX7_newHedge_49 : decode cX7_newHedge 49 = .ok (.ldc 84, 2) := by decide +kernel
theorem dX7_newHedge_51 : decode cX7_newHedge 51 = .ok (.invokespecial 86, 3) := by decide +kernel
theorem dX7_newHedge_54 : decode cX7_newHedge 54 = .ok (.athrow, 1) := by decide +kernel
theorem dX7_newHedge_55 : decode cX7_newHedge 55 = .ok (.aload_n 0, 1) := by decide +kernel
theorem dX7_newHedge_56 : decode cX7_newHedge 56 = .ok (.getfield 12, 3) := by decide +kernel
theorem dX7_newHedge_59 : decode cX7_newHedge 59 = .ok (.iload_n 1, 1) := by decide +kernel
theorem dX7_newHedge_60 : decode cX7_newHedge 60 = .ok (.iload_n 2, 1) := by decide +kernel
theorem dX7_newHedge_61 : decode cX7_newHedge 61 = .ok (.iload_n 3, 1) := by decide +kernel
theorem dX7_newHedge_62 : decode cX7_newHedge 62 = .ok (.invokevirtual 87, 3) := by decide +kernel
theorem dX7_newHedge_65 : decode cX7_newHedge 65 = .ok (.ireturn, 1) := by decide +kernel
theorem gS_X7_X7_isDigit_67 : GoodIn gw (va_wsS RX7 67 yX7_isDigit (Cond.code yX7_isDigit cX7_isDigit 1 (some .boolean) :: gw)) := gdS2 gw_556 gw_557 gw_68 gw_558
theorem hS_X7_isDigit : yX7_isDigit.cls ≠ "java/lang/invoke/MethodHandle" ∧ yX7_isDigit.cls ≠ "java/lang/invoke/VarHandle" ∧ (parseMethodDescriptor yX7_isDigit.desc).map (fun d => d.parameters.length) = some 1 := ⟨by decide +kernel, by decide +kernel, by decide +kernel⟩
theorem gV_X7_X2_isFull_78 : GoodIn gw (wsV RX7 78 RX2 yX2_isFull (Cond.code yX2_isFull cX2_isFull 1 (some .boolean) :: gw)) := gdV gw_631 gw_632 gw_633 gw_69 gw_634
theorem hV_X2_isFull : yX2_isFull.cls = RX2 ∧ yX2_isFull.cls ≠ "java/lang/invoke/MethodHandle" ∧ yX2_isFull.cls ≠ "java/lang/invoke/VarHandle" ∧ (parseMethodDescriptor yX2_isFull.desc).map (fun d => d.parameters.length) = some 0 := ⟨rfl, by decide +kernel, by decide +kernel, by decide +kernel⟩
theorem gV_X7_X2_add_87 : GoodIn gw (wsV RX7 87 RX2 yX2_add (Cond.code yX2_add cX2_add 5 (some .int) :: gw)) := gdV gw_651 gw_652 gw_653 gw_69 gw_654
theorem hV_X2_add : yX2_add.cls = RX2 ∧ yX2_add.cls ≠ "java/lang/invoke/MethodHandle" ∧ yX2_add.cls ≠ "java/lang/invoke/VarHandle" ∧ (parseMethodDescriptor yX2_add.desc).map (fun d => d.parameters.length) = some 3 := ⟨rfl, by decide +kernel, by decide +kernel, by decide +kernel⟩
set_option maxHeartbeats 2000000 in
set_option maxRecDepth 20000 in
theorem k_X7_newHedge (l : Launch) (hfl : l.stackTraces = false) (D : va_G) (aT : Nat → ClassId) (a0 : Nat) (a1 : Nat) (a2 : Nat) (a3 : Nat) (a4 : Nat) (a5 : Nat) (a6 : Nat) (a7 : Nat) (a8 : Nat) (a9 : Nat) (a10 : Nat) (x : Int32) (y : Int32) (z : Int32) : CxG l yX7_newHedge cX7_newHedge 4 (some (.int)) 6 1 6 90 D aT [.ref a0, .int x, .int y, .int z] [(a0, .inr (10, [.ref a1, .ref a5, .ref a10, .int (nI 0), .int (nI 0), .int (nI 0), .int (nI 0), .int (nI 0), .int (nI 0), .int (nI 0), .int (nI 0)])), (a1, .inr (6, [.ref a2, .ref a3, .ref a4, .int (nI 0)])), (a2, .inl (aT 0, 6, .inl (fun _ => nI 0))), (a3, .inl (aT 0, 6, .inl (fun _ => nI 0))), (a4, .inl (aT 0, 6, .inl (fun _ => nI 0))), (a5, .inr (8, [.ref a6, .ref a7, .ref a8, .ref a9, .int (nI 0), .int (nI 0)])), (a6, .inl (aT 0, 12, .inl (fun _ => nI 0))), (a7, .inl (aT 0, 12, .inl (fun _ => nI 0))), (a8, .inl (aT 0, 12, .inl (fun _ => nI 0))), (a9, .inl (aT 0, 12, .inl (fun _ => nI 0))), (a10, .inl (aT 0, 4, .inl (fun _ => nI 0)))] (qI D aT (fun r W1 => (rgB 1 99 x && rgB 0 9 y && rgB 0 9 z) = true ∧ r = nI 0)) (fun E => (rgB 1 99 x && rgB 0 9 y && rgB 0 9 z) = false ∧ E = "java/lang/IllegalArgumentException") := by
  refine CxG.of RX7 (by decide +kernel) rfl (Nat.le_of_ble_eq_true rfl) ?_
  intro p e s m below meth c A ls C hml hl hA hr hlocks hex hnm hZ hW
  have hl : lv_has ls 4 [(0, .ref a0), (1, .int x), (2, .int y), (3, .int z)] := hl
  have hx := C.1
  have hb := C.2.1
  refine lv_iload_n hx hb dX7_newHedge_0 rfl (lv_at hl 1 rfl) ?_
  refine lv_iconst (v := nI 1) hx hb dX7_newHedge_1 (by decide) ?_
  refine lv_icmp_lt hx hb (x := x) (y := (nI 1)) (tgt := 25) dX7_newHedge_2 (by decide) (fun c_2 => ?_) (fun c_2 => ?_)
  · exact cx_throw C hfl hex hml hl.1 hlocks hZ hW at_X7_IllegalArgumentException (List.mem_of_getElem? (i := 0) rfl) gw_559 gw_86 (by decide +kernel) dX7_newHedge_25 dX7_newHedge_28 dX7_newHedge_29 dX7_newHedge_31 dX7_newHedge_34 ⟨Nat.le_of_ble_eq_true rfl, Nat.le_of_ble_eq_true rfl, Nat.le_of_ble_eq_true rfl, Nat.le_of_ble_eq_true rfl⟩ ⟨Nat.le_of_ble_eq_true rfl, Nat.le_of_ble_eq_true rfl⟩ (⟨by rw [rg_lo (a := nI 1) (b := nI 99) (by decide) (by decide) c_2]; rfl, rfl⟩)
  · refine lv_iload_n hx hb dX7_newHedge_5 rfl (lv_at hl 1 rfl) ?_
    refine lv_bipush (v := nI 99) hx hb dX7_newHedge_6 (by decide) ?_
    refine lv_icmp_gt hx hb (x := x) (y := (nI 99)) (tgt := 25) dX7_newHedge_8 (by decide) (fun c_8 => ?_) (fun c_8 => ?_)
    · exact cx_throw C hfl hex hml hl.1 hlocks hZ hW at_X7_IllegalArgumentException (List.mem_of_getElem? (i := 0) rfl) gw_559 gw_86 (by decide +kernel) dX7_newHedge_25 dX7_newHedge_28 dX7_newHedge_29 dX7_newHedge_31 dX7_newHedge_34 ⟨Nat.le_of_ble_eq_true rfl, Nat.le_of_ble_eq_true rfl, Nat.le_of_ble_eq_true rfl, Nat.le_of_ble_eq_true rfl⟩ ⟨Nat.le_of_ble_eq_true rfl, Nat.le_of_ble_eq_true rfl⟩ (⟨by rw [rg_hi (a := nI 1) (b := nI 99) (by decide) (by decide) c_8]; rfl, rfl⟩)
    · refine lv_iload_n hx hb dX7_newHedge_11 rfl (lv_at hl 2 rfl) ?_
      refine cx_calli (Wr := [(a0, .inr (10, [.ref a1, .ref a5, .ref a10, .int (nI 0), .int (nI 0), .int (nI 0), .int (nI 0), .int (nI 0), .int (nI 0), .int (nI 0), .int (nI 0)])), (a1, .inr (6, [.ref a2, .ref a3, .ref a4, .int (nI 0)])), (a2, .inl (aT 0, 6, .inl (fun _ => nI 0))), (a3, .inl (aT 0, 6, .inl (fun _ => nI 0))), (a4, .inl (aT 0, 6, .inl (fun _ => nI 0))), (a5, .inr (8, [.ref a6, .ref a7, .ref a8, .ref a9, .int (nI 0), .int (nI 0)])), (a6, .inl (aT 0, 12, .inl (fun _ => nI 0))), (a7, .inl (aT 0, 12, .inl (fun _ => nI 0))), (a8, .inl (aT 0, 12, .inl (fun _ => nI 0))), (a9, .inl (aT 0, 12, .inl (fun _ => nI 0))), (a10, .inl (aT 0, 4, .inl (fun _ => nI 0)))]) (cx_runS C hml hl.1 hZ hW hA (As := [.int y]) (rest := []) (k_X7_isDigit l hfl D aT y) gS_X7_X7_isDigit_67 hS_X7_isDigit rfl ⟨Nat.le_of_ble_eq_true rfl, Nat.le_of_ble_eq_true rfl⟩ ⟨Nat.le_of_ble_eq_true rfl, Nat.le_of_ble_eq_true rfl⟩ [] rfl (by decide) rfl (Nat.le_of_ble_eq_true rfl) dX7_newHedge_12) hW hA [] [0, 1, 2, 3, 4, 5, 6, 7, 8, 9, 10] rfl rfl (by decide) (by decide) (fun _ _ _ _ _ h9 => h9.elim) (fun r_12 W_12 H locs hq hW => ?_)
      obtain ⟨rfl, rfl⟩ := hq
      have hW : CxB D [(a0, .inr (10, [.ref a1, .ref a5, .ref a10, .int (nI 0), .int (nI 0), .int (nI 0), .int (nI 0), .int (nI 0), .int (nI 0), .int (nI 0), .int (nI 0)])), (a1, .inr (6, [.ref a2, .ref a3, .ref a4, .int (nI 0)])), (a2, .inl (aT 0, 6, .inl (fun _ => nI 0))), (a3, .inl (aT 0, 6, .inl (fun _ => nI 0))), (a4, .inl (aT 0, 6, .inl (fun _ => nI 0))), (a5, .inr (8, [.ref a6, .ref a7, .ref a8, .ref a9, .int (nI 0), .int (nI 0)])), (a6, .inl (aT 0, 12, .inl (fun _ => nI 0))), (a7, .inl (aT 0, 12, .inl (fun _ => nI 0))), (a8, .inl (aT 0, 12, .inl (fun _ => nI 0))), (a9, .inl (aT 0, 12, .inl (fun _ => nI 0))), (a10, .inl (aT 0, 4, .inl (fun _ => nI 0)))] A s.heap H _ := hW
      refine r_bI_eq hx hb (b := (rgB 0 9 y)) (tgt := 25) dX7_newHedge_15 (by decide) (fun c_15 => ?_) (fun c_15 => ?_)
      · exact cx_throw C hfl hex hml hl.1 hlocks hZ hW at_X7_IllegalArgumentException (List.mem_of_getElem? (i := 0) rfl) gw_559 gw_86 (by decide +kernel) dX7_newHedge_25 dX7_newHedge_28 dX7_newHedge_29 dX7_newHedge_31 dX7_newHedge_34 ⟨Nat.le_of_ble_eq_true rfl, Nat.le_of_ble_eq_true rfl, Nat.le_of_ble_eq_true rfl, Nat.le_of_ble_eq_true rfl⟩ ⟨Nat.le_of_ble_eq_true rfl, Nat.le_of_ble_eq_true rfl⟩ (⟨by rw [c_15]; simp, rfl⟩)
      · refine lv_iload_n hx hb dX7_newHedge_18 rfl (lv_at hl 3 rfl) ?_
        refine cx_calli (Wr := [(a0, .inr (10, [.ref a1, .ref a5, .ref a10, .int (nI 0), .int (nI 0), .int (nI 0), .int (nI 0), .int (nI 0), .int (nI 0), .int (nI 0), .int (nI 0)])), (a1, .inr (6, [.ref a2, .ref a3, .ref a4, .int (nI 0)])), (a2, .inl (aT 0, 6, .inl (fun _ => nI 0))), (a3, .inl (aT 0, 6, .inl (fun _ => nI 0))), (a4, .inl (aT 0, 6, .inl (fun _ => nI 0))), (a5, .inr (8, [.ref a6, .ref a7, .ref a8, .ref a9, .int (nI 0), .int (nI 0)])), (a6, .inl (aT 0, 12, .inl (fun _ => nI 0))), (a7, .inl (aT 0, 12, .inl (fun _ => nI 0))), (a8, .inl (aT 0, 12, .inl (fun _ => nI 0))), (a9, .inl (aT 0, 12, .inl (fun _ => nI 0))), (a10, .inl (aT 0, 4, .inl (fun _ => nI 0)))]) (cx_runS C hml hl.1 hZ hW hA (As := [.int z]) (rest := []) (k_X7_isDigit l hfl D aT z) gS_X7_X7_isDigit_67 hS_X7_isDigit rfl ⟨Nat.le_of_ble_eq_true rfl, Nat.le_of_ble_eq_true rfl⟩ ⟨Nat.le_of_ble_eq_true rfl, Nat.le_of_ble_eq_true rfl⟩ [] rfl (by decide) rfl (Nat.le_of_ble_eq_true rfl) dX7_newHedge_19) hW hA [] [0, 1, 2, 3, 4, 5, 6, 7, 8, 9, 10] rfl rfl (by decide) (by decide) (fun _ _ _ _ _ h9 => h9.elim) (fun r_19 W_19 H locs hq hW => ?_)
        obtain ⟨rfl, rfl⟩ := hq
        have hW : CxB D [(a0, .inr (10, [.ref a1, .ref a5, .ref a10, .int (nI 0), .int (nI 0), .int (nI 0), .int (nI 0), .int (nI 0), .int (nI 0), .int (nI 0), .int (nI 0)])), (a1, .inr (6, [.ref a2, .ref a3, .ref a4, .int (nI 0)])), (a2, .inl (aT 0, 6, .inl (fun _ => nI 0))), (a3, .inl (aT 0, 6, .inl (fun _ => nI 0))), (a4, .inl (aT 0, 6, .inl (fun _ => nI 0))), (a5, .inr (8, [.ref a6, .ref a7, .ref a8, .ref a9, .int (nI 0), .int (nI 0)])), (a6, .inl (aT 0, 12, .inl (fun _ => nI 0))), (a7, .inl (aT 0, 12, .inl (fun _ => nI 0))), (a8, .inl (aT 0, 12, .inl (fun _ => nI 0))), (a9, .inl (aT 0, 12, .inl (fun _ => nI 0))), (a10, .inl (aT 0, 4, .inl (fun _ => nI 0)))] A s.heap H _ := hW
        refine r_bI_ne hx hb (b := (rgB 0 9 z)) (tgt := 35) dX7_newHedge_22 (by decide) (fun c_22 => ?_) (fun c_22 => ?_)
        · refine lv_aload_n hx hb dX7_newHedge_35 rfl (lv_at hl 0 rfl) ?_
          refine cx_get C hW 0 0 rfl rfl (by decide) inX7 gw_179 rfl rfl dX7_newHedge_36 ?_
          refine cx_calli (Wr := [(a0, .inr (10, [.ref a1, .ref a5, .ref a10, .int (nI 0), .int (nI 0), .int (nI 0), .int (nI 0), .int (nI 0), .int (nI 0), .int (nI 0), .int (nI 0)])), (a5, .inr (8, [.ref a6, .ref a7, .ref a8, .ref a9, .int (nI 0), .int (nI 0)])), (a6, .inl (aT 0, 12, .inl (fun _ => nI 0))), (a7, .inl (aT 0, 12, .inl (fun _ => nI 0))), (a8, .inl (aT 0, 12, .inl (fun _ => nI 0))), (a9, .inl (aT 0, 12, .inl (fun _ => nI 0))), (a10, .inl (aT 0, 4, .inl (fun _ => nI 0)))]) (cx_runV C hml hl.1 hZ hW hA (As := []) (rest := []) (k_X2_isFull l hfl D aT a1 a2 a3 a4) gV_X7_X2_isFull_78 hV_X2_isFull rfl ⟨Nat.le_of_ble_eq_true rfl, Nat.le_of_ble_eq_true rfl⟩ ⟨Nat.le_of_ble_eq_true rfl, Nat.le_of_ble_eq_true rfl⟩ [1, 2, 3, 4] rfl (by decide) 1 6 rfl rfl rfl rfl (Nat.le_of_ble_eq_true rfl) dX7_newHedge_39) hW hA [1, 2, 3, 4] [0, 5, 6, 7, 8, 9, 10] rfl rfl (by decide) (by decide) (fun _ _ _ _ _ h9 => h9.elim) (fun r_39 W_39 H locs hq hW => ?_)
          obtain ⟨rfl, rfl⟩ := hq
          have hW : CxB D [(a0, .inr (10, [.ref a1, .ref a5, .ref a10, .int (nI 0), .int (nI 0), .int (nI 0), .int (nI 0), .int (nI 0), .int (nI 0), .int (nI 0), .int (nI 0)])), (a5, .inr (8, [.ref a6, .ref a7, .ref a8, .ref a9, .int (nI 0), .int (nI 0)])), (a6, .inl (aT 0, 12, .inl (fun _ => nI 0))), (a7, .inl (aT 0, 12, .inl (fun _ => nI 0))), (a8, .inl (aT 0, 12, .inl (fun _ => nI 0))), (a9, .inl (aT 0, 12, .inl (fun _ => nI 0))), (a10, .inl (aT 0, 4, .inl (fun _ => nI 0))), (a1, .inr (6, [.ref a2, .ref a3, .ref a4, .int (nI 0)])), (a2, .inl (aT 0, 6, .inl (fun _ => nI 0))), (a3, .inl (aT 0, 6, .inl (fun _ => nI 0))), (a4, .inl (aT 0, 6, .inl (fun _ => nI 0)))] A s.heap H _ := hW
          refine lv_if_eq hx hb (x := (nI 0)) (tgt := 55) dX7_newHedge_42 (by decide) (fun c_42 => ?_) (fun c_42 => ?_)
          · refine lv_aload_n hx hb dX7_newHedge_55 rfl (lv_at hl 0 rfl) ?_
            refine cx_get C hW 0 0 rfl rfl (by decide) inX7 gw_179 rfl rfl dX7_newHedge_56 ?_
            refine lv_iload_n hx hb dX7_newHedge_59 rfl (lv_at hl 1 rfl) ?_
            refine lv_iload_n hx hb dX7_newHedge_60 rfl (lv_at hl 2 rfl) ?_
            refine lv_iload_n hx hb dX7_newHedge_61 rfl (lv_at hl 3 rfl) ?_
            refine cx_calli (Wr := [(a0, .inr (10, [.ref a1, .ref a5, .ref a10, .int (nI 0), .int (nI 0), .int (nI 0), .int (nI 0), .int (nI 0), .int (nI 0), .int (nI 0), .int (nI 0)])), (a5, .inr (8, [.ref a6, .ref a7, .ref a8, .ref a9, .int (nI 0), .int (nI 0)])), (a6, .inl (aT 0, 12, .inl (fun _ => nI 0))), (a7, .inl (aT 0, 12, .inl (fun _ => nI 0))), (a8, .inl (aT 0, 12, .inl (fun _ => nI 0))), (a9, .inl (aT 0, 12, .inl (fun _ => nI 0))), (a10, .inl (aT 0, 4, .inl (fun _ => nI 0)))]) (cx_runV C hml hl.1 hZ hW hA (As := [.int x, .int y, .int z]) (rest := []) (k_X2_add l hfl D aT a1 a2 a3 a4 x y z) gV_X7_X2_add_87 hV_X2_add rfl ⟨Nat.le_of_ble_eq_true rfl, Nat.le_of_ble_eq_true rfl⟩ ⟨Nat.le_of_ble_eq_true rfl, Nat.le_of_ble_eq_true rfl⟩ [7, 8, 9, 10] rfl (by decide) 7 6 rfl rfl rfl rfl (Nat.le_of_ble_eq_true rfl) dX7_newHedge_62) hW hA [7, 8, 9, 10] [0, 1, 2, 3, 4, 5, 6] rfl rfl (by decide) (by decide) (fun _ _ _ _ _ h9 => h9.elim) (fun r_62 W_62 H locs hq hW => ?_)
            obtain ⟨rfl, rfl⟩ := hq
            have hW : CxB D [(a0, .inr (10, [.ref a1, .ref a5, .ref a10, .int (nI 0), .int (nI 0), .int (nI 0), .int (nI 0), .int (nI 0), .int (nI 0), .int (nI 0), .int (nI 0)])), (a5, .inr (8, [.ref a6, .ref a7, .ref a8, .ref a9, .int (nI 0), .int (nI 0)])), (a6, .inl (aT 0, 12, .inl (fun _ => nI 0))), (a7, .inl (aT 0, 12, .inl (fun _ => nI 0))), (a8, .inl (aT 0, 12, .inl (fun _ => nI 0))), (a9, .inl (aT 0, 12, .inl (fun _ => nI 0))), (a10, .inl (aT 0, 4, .inl (fun _ => nI 0))), (a1, .inr (6, [.ref a2, .ref a3, .ref a4, .int (nI 1)])), (a2, .inl (aT 0, 6, .inl (upd (fun _ => nI 0) 0 (x)))), (a3, .inl (aT 0, 6, .inl (upd (fun _ => nI 0) 0 (y)))), (a4, .inl (aT 0, 6, .inl (upd (fun _ => nI 0) 0 (z))))] A s.heap H _ := hW
            exact cx_iret C hr hlocks rfl hW ⟨Nat.le_of_ble_eq_true rfl, Nat.le_of_ble_eq_true rfl⟩ (⟨by rw [rg_in (a := nI 1) (b := nI 99) (by decide) (by decide) c_2 c_8, c_15, c_22]; rfl, rfl⟩) dX7_newHedge_65
          · exact absurd (by decide) c_42
        · exact cx_throw C hfl hex hml hl.1 hlocks hZ hW at_X7_IllegalArgumentException (List.mem_of_getElem? (i := 0) rfl) gw_559 gw_86 (by decide +kernel) dX7_newHedge_25 dX7_newHedge_28 dX7_newHedge_29 dX7_newHedge_31 dX7_newHedge_34 ⟨Nat.le_of_ble_eq_true rfl, Nat.le_of_ble_eq_true rfl, Nat.le_of_ble_eq_true rfl, Nat.le_of_ble_eq_true rfl⟩ ⟨Nat.le_of_ble_eq_true rfl, Nat.le_of_ble_eq_true rfl⟩ (⟨by rw [c_22]; simp, rfl⟩)
theorem dX7_requireToneAndWeight_0 : decode cX7_requireToneAndWeight 0 = .ok (.iload_n 0, 1) := by decide +kernel
theorem dX7_requireToneAndWeight_1 : decode cX7_requireToneAndWeight 1 = .ok (.invokestatic 67, 3) := by decide +kernel
theorem dX7_requireToneAndWeight_4 : decode cX7_requireToneAndWeight 4 = .ok (.ifCond .eq 14, 3) := by decide +kernel
theorem dX7_requireToneAndWeight_7 : decode cX7_requireToneAndWeight 7 = .ok (.iload_n 1, 1) := by decide +kernel
theorem dX7_requireToneAndWeight_8 : decode cX7_requireToneAndWeight 8 = .ok (.iconst 1, 1) := by decide +kernel
theorem dX7_requireToneAndWeight_9 : decode cX7_requireToneAndWeight 9 = .ok (.if_icmp .lt 9, 3) := by decide +kernel
theorem dX7_requireToneAndWeight_12 : decode cX7_requireToneAndWeight 12 = .ok (.iload_n 1, 1) := by decide +kernel
theorem dX7_requireToneAndWeight_13 : decode cX7_requireToneAndWeight 13 = .ok (.bipush 20, 2) := by decide +kernel
theorem dX7_requireToneAndWeight_15 : decode cX7_requireToneAndWeight 15 = .ok (.if_icmp .le 13, 3) := by decide +kernel
theorem dX7_requireToneAndWeight_18 : decode cX7_requireToneAndWeight 18 = .ok (.new 71, 3) := by decide +kernel
theorem dX7_requireToneAndWeight_21 : decode cX7_requireToneAndWeight 21 = .ok (.dup, 1) := by decide +kernel
theorem dX7_requireToneAndWeight_22 : decode cX7_requireToneAndWeight 22 = .ok (.ldc 162, 2) := by decide +kernel
theorem dX7_requireToneAndWeight_24 : decode cX7_requireToneAndWeight 24 = .ok (.invokespecial 75, 3) := by decide +kernel
theorem dX7_requireToneAndWeight_27 : decode cX7_requireToneAndWeight 27 = .ok (.athrow, 1) := by decide +kernel
theorem dX7_requireToneAndWeight_28 : decode cX7_requireToneAndWeight 28 = .ok (.return_, 1) := by decide +kernel
set_option maxHeartbeats 2000000 in
set_option maxRecDepth 20000 in
theorem k_X7_requireToneAndWeight (l : Launch) (hfl : l.stackTraces = false) (D : va_G) (aT : Nat → ClassId) (x : Int32) (y : Int32) : CxG l yX7_requireToneAndWeight cX7_requireToneAndWeight 2 none 6 1 6 90 D aT [.int x, .int y] [] (qV D aT (fun W1 => (rgB 0 9 x && rgB 1 20 y) = true ∧ W1 = [])) (fun E => (rgB 0 9 x && rgB 1 20 y) = false ∧ E = "java/lang/IllegalArgumentException") := by
  refine CxG.of RX7 (by decide +kernel) rfl (Nat.le_of_ble_eq_true rfl) ?_
  intro p e s m below meth c A ls C hml hl hA hr hlocks hex hnm hZ hW
  have hl : lv_has ls 2 [(0, .int x), (1, .int y)] := hl
  have hx := C.1
  have hb := C.2.1
  refine lv_iload_n hx hb dX7_requireToneAndWeight_0 rfl (lv_at hl 0 rfl) ?_
  refine cx_calli (Wr := []) (cx_runS C hml hl.1 hZ hW hA (As := [.int x]) (rest := []) (k_X7_isDigit l hfl D aT x) gS_X7_X7_isDigit_67 hS_X7_isDigit rfl ⟨Nat.le_of_ble_eq_true rfl, Nat.le_of_ble_eq_true rfl⟩ ⟨Nat.le_of_ble_eq_true rfl, Nat.le_of_ble_eq_true rfl⟩ [] rfl (by decide) rfl (Nat.le_of_ble_eq_true rfl) dX7_requireToneAndWeight_1) hW hA [] [] rfl rfl (by decide) (by decide) (fun _ _ _ _ _ h9 => h9.elim) (fun r_1 W_1 H locs hq hW => ?_)
  obtain ⟨rfl, rfl⟩ := hq
  have hW : CxB D [] A s.heap H _ := hW
  refine r_bI_eq hx hb (b := (rgB 0 9 x)) (tgt := 18) dX7_requireToneAndWeight_4 (by decide) (fun c_4 => ?_) (fun c_4 => ?_)
  · exact cx_throw C hfl hex hml hl.1 hlocks hZ hW at_X7_IllegalArgumentException (List.mem_of_getElem? (i := 2) rfl) gw_559 gw_86 (by decide +kernel) dX7_requireToneAndWeight_18 dX7_requireToneAndWeight_21 dX7_requireToneAndWeight_22 dX7_requireToneAndWeight_24 dX7_requireToneAndWeight_27 ⟨Nat.le_of_ble_eq_true rfl, Nat.le_of_ble_eq_true rfl, Nat.le_of_ble_eq_true rfl, Nat.le_of_ble_eq_true rfl⟩ ⟨Nat.le_of_ble_eq_true rfl, Nat.le_of_ble_eq_true rfl⟩ (⟨by rw [c_4]; rfl, rfl⟩)
  · refine lv_iload_n hx hb dX7_requireToneAndWeight_7 rfl (lv_at hl 1 rfl) ?_
    refine lv_iconst (v := nI 1) hx hb dX7_requireToneAndWeight_8 (by decide) ?_
    refine lv_icmp_lt hx hb (x := y) (y := (nI 1)) (tgt := 18) dX7_requireToneAndWeight_9 (by decide) (fun c_9 => ?_) (fun c_9 => ?_)
    · exact cx_throw C hfl hex hml hl.1 hlocks hZ hW at_X7_IllegalArgumentException (List.mem_of_getElem? (i := 2) rfl) gw_559 gw_86 (by decide +kernel) dX7_requireToneAndWeight_18 dX7_requireToneAndWeight_21 dX7_requireToneAndWeight_22 dX7_requireToneAndWeight_24 dX7_requireToneAndWeight_27 ⟨Nat.le_of_ble_eq_true rfl, Nat.le_of_ble_eq_true rfl, Nat.le_of_ble_eq_true rfl, Nat.le_of_ble_eq_true rfl⟩ ⟨Nat.le_of_ble_eq_true rfl, Nat.le_of_ble_eq_true rfl⟩ (⟨by rw [rg_lo (a := nI 1) (b := nI 20) (by decide) (by decide) c_9]; simp, rfl⟩)
    · refine lv_iload_n hx hb dX7_requireToneAndWeight_12 rfl (lv_at hl 1 rfl) ?_
      refine lv_bipush (v := nI 20) hx hb dX7_requireToneAndWeight_13 (by decide) ?_
      refine lv_icmp_le hx hb (x := y) (y := (nI 20)) (tgt := 28) dX7_requireToneAndWeight_15 (by decide) (fun c_15 => ?_) (fun c_15 => ?_)
      · exact cx_vret C hr hlocks hW ⟨Nat.le_of_ble_eq_true rfl, Nat.le_of_ble_eq_true rfl⟩ (⟨by rw [c_4, rg_in (a := nI 1) (b := nI 20) (by decide) (by decide) c_9 (Int32.not_lt.mpr c_15)]; rfl, rfl⟩) dX7_requireToneAndWeight_28
      · exact cx_throw C hfl hex hml hl.1 hlocks hZ hW at_X7_IllegalArgumentException (List.mem_of_getElem? (i := 2) rfl) gw_559 gw_86 (by decide +kernel) dX7_requireToneAndWeight_18 dX7_requireToneAndWeight_21 dX7_requireToneAndWeight_22 dX7_requireToneAndWeight_24 dX7_requireToneAndWeight_27 ⟨Nat.le_of_ble_eq_true rfl, Nat.le_of_ble_eq_true rfl, Nat.le_of_ble_eq_true rfl, Nat.le_of_ble_eq_true rfl⟩ ⟨Nat.le_of_ble_eq_true rfl, Nat.le_of_ble_eq_true rfl⟩ (⟨by rw [rg_hi (a := nI 1) (b := nI 20) (by decide) (by decide) (Int32.not_le.mp c_15)]; simp, rfl⟩)
theorem dX7_requireRoom_0 : decode cX7_requireRoom 0 = .ok (.aload_n 0, 1) := by decide +kernel
theorem dX7_requireRoom_1 : decode cX7_requireRoom 1 = .ok (.getfield 21, 3) := by decide +kernel
theorem dX7_requireRoom_4 : decode cX7_requireRoom 4 = .ok (.invokevirtual 159, 3) := by decide +kernel
theorem dX7_requireRoom_7 : decode cX7_requireRoom 7 = .ok (.ifCond .eq 13, 3) := by decide +kernel
theorem dX7_requireRoom_10 : decode cX7_requireRoom 10 = .ok (.new 82, 3) := by decide +kernel
theorem dX7_requireRoom_13 : decode cX7_requireRoom 13 = .ok (.dup, 1) := by decide +kernel
theorem dX7_requireRoom_14 : decode cX7_requireRoom 14 = .ok (.ldc 160, 2) := by decide +kernel
theorem dX7_requireRoom_16 : decode cX7_requireRoom 16 = .ok (.invokespecial 86, 3) := by decide +kernel
theorem dX7_requireRoom_19 : decode cX7_requireRoom 19 = .ok (.athrow, 1) := by decide +kernel
theorem dX7_requireRoom_20 : decode cX7_requireRoom 20 = .ok (.return_, 1) := by decide +kernel
theorem gV_X7_X5_isFull_159 : GoodIn gw (wsV RX7 159 RX5 yX5_isFull (Cond.code yX5_isFull cX5_isFull 1 (some .boolean) :: gw)) := gdV gw_674 gw_675 gw_676 gw_70 gw_677
theorem hV_X5_isFull : yX5_isFull.cls = RX5 ∧ yX5_isFull.cls ≠ "java/lang/invoke/MethodHandle" ∧ yX5_isFull.cls ≠ "java/lang/invoke/VarHandle" ∧ (parseMethodDescriptor yX5_isFull.desc).map (fun d => d.parameters.length) = some 0 := ⟨rfl, by decide +kernel, by decide +kernel, by decide +kernel⟩
set_option maxHeartbeats 2000000 in
set_option maxRecDepth 20000 in
theorem k_X7_requireRoom (l : Launch) (hfl : l.stackTraces = false) (D : va_G) (aT : Nat → ClassId) (a0 : Nat) (a1 : Nat) (a2 : Nat) (a3 : Nat) (a4 : Nat) (a5 : Nat) (a6 : Nat) (a7 : Nat) (a8 : Nat) (a9 : Nat) (a10 : Nat) : CxG l yX7_requireRoom cX7_requireRoom 1 none 1 0 0 20 D aT [.ref a0] [(a0, .inr (10, [.ref a1, .ref a5, .ref a10, .int (nI 0), .int (nI 0), .int (nI 0), .int (nI 0), .int (nI 0), .int (nI 0), .int (nI 0), .int (nI 0)])), (a1, .inr (6, [.ref a2, .ref a3, .ref a4, .int (nI 0)])), (a2, .inl (aT 0, 6, .inl (fun _ => nI 0))), (a3, .inl (aT 0, 6, .inl (fun _ => nI 0))), (a4, .inl (aT 0, 6, .inl (fun _ => nI 0))), (a5, .inr (8, [.ref a6, .ref a7, .ref a8, .ref a9, .int (nI 0), .int (nI 0)])), (a6, .inl (aT 0, 12, .inl (fun _ => nI 0))), (a7, .inl (aT 0, 12, .inl (fun _ => nI 0))), (a8, .inl (aT 0, 12, .inl (fun _ => nI 0))), (a9, .inl (aT 0, 12, .inl (fun _ => nI 0))), (a10, .inl (aT 0, 4, .inl (fun _ => nI 0)))] (qV D aT (fun W1 => W1 = [(a0, .inr (10, [.ref a1, .ref a5, .ref a10, .int (nI 0), .int (nI 0), .int (nI 0), .int (nI 0), .int (nI 0), .int (nI 0), .int (nI 0), .int (nI 0)])), (a1, .inr (6, [.ref a2, .ref a3, .ref a4, .int (nI 0)])), (a2, .inl (aT 0, 6, .inl (fun _ => nI 0))), (a3, .inl (aT 0, 6, .inl (fun _ => nI 0))), (a4, .inl (aT 0, 6, .inl (fun _ => nI 0))), (a10, .inl (aT 0, 4, .inl (fun _ => nI 0))), (a5, .inr (8, [.ref a6, .ref a7, .ref a8, .ref a9, .int (nI 0), .int (nI 0)])), (a6, .inl (aT 0, 12, .inl (fun _ => nI 0))), (a7, .inl (aT 0, 12, .inl (fun _ => nI 0))), (a8, .inl (aT 0, 12, .inl (fun _ => nI 0))), (a9, .inl (aT 0, 12, .inl (fun _ => nI 0)))])) (fun _ => False) := by
  refine CxG.of RX7 (by decide +kernel) rfl (Nat.le_of_ble_eq_true rfl) ?_
  intro p e s m below meth c A ls C hml hl hA hr hlocks hex hnm hZ hW
  have hl : lv_has ls 1 [(0, .ref a0)] := hl
  have hx := C.1
  have hb := C.2.1
  refine lv_aload_n hx hb dX7_requireRoom_0 rfl (lv_at hl 0 rfl) ?_
  refine cx_get C hW 0 1 rfl rfl (by decide) inX7 gw_181 rfl rfl dX7_requireRoom_1 ?_
  refine cx_calli (Wr := [(a0, .inr (10, [.ref a1, .ref a5, .ref a10, .int (nI 0), .int (nI 0), .int (nI 0), .int (nI 0), .int (nI 0), .int (nI 0), .int (nI 0), .int (nI 0)])), (a1, .inr (6, [.ref a2, .ref a3, .ref a4, .int (nI 0)])), (a2, .inl (aT 0, 6, .inl (fun _ => nI 0))), (a3, .inl (aT 0, 6, .inl (fun _ => nI 0))), (a4, .inl (aT 0, 6, .inl (fun _ => nI 0))), (a10, .inl (aT 0, 4, .inl (fun _ => nI 0)))]) (cx_runV C hml hl.1 hZ hW hA (As := []) (rest := []) (k_X5_isFull l hfl D aT a5 a6 a7 a8 a9) gV_X7_X5_isFull_159 hV_X5_isFull rfl ⟨Nat.le_of_ble_eq_true rfl, Nat.le_of_ble_eq_true rfl⟩ ⟨Nat.le_of_ble_eq_true rfl, Nat.le_of_ble_eq_true rfl⟩ [5, 6, 7, 8, 9] rfl (by decide) 5 8 rfl rfl rfl rfl (Nat.le_of_ble_eq_true rfl) dX7_requireRoom_4) hW hA [5, 6, 7, 8, 9] [0, 1, 2, 3, 4, 10] rfl rfl (by decide) (by decide) (fun _ _ _ _ _ h9 => h9.elim) (fun r_4 W_4 H locs hq hW => ?_)
  obtain ⟨rfl, rfl⟩ := hq
  have hW : CxB D [(a0, .inr (10, [.ref a1, .ref a5, .ref a10, .int (nI 0), .int (nI 0), .int (nI 0), .int (nI 0), .int (nI 0), .int (nI 0), .int (nI 0), .int (nI 0)])), (a1, .inr (6, [.ref a2, .ref a3, .ref a4, .int (nI 0)])), (a2, .inl (aT 0, 6, .inl (fun _ => nI 0))), (a3, .inl (aT 0, 6, .inl (fun _ => nI 0))), (a4, .inl (aT 0, 6, .inl (fun _ => nI 0))), (a10, .inl (aT 0, 4, .inl (fun _ => nI 0))), (a5, .inr (8, [.ref a6, .ref a7, .ref a8, .ref a9, .int (nI 0), .int (nI 0)])), (a6, .inl (aT 0, 12, .inl (fun _ => nI 0))), (a7, .inl (aT 0, 12, .inl (fun _ => nI 0))), (a8, .inl (aT 0, 12, .inl (fun _ => nI 0))), (a9, .inl (aT 0, 12, .inl (fun _ => nI 0)))] A s.heap H _ := hW
  refine lv_if_eq hx hb (x := (nI 0)) (tgt := 20) dX7_requireRoom_7 (by decide) (fun c_7 => ?_) (fun c_7 => ?_)
  · exact cx_vret C hr hlocks hW ⟨Nat.le_of_ble_eq_true rfl, Nat.le_of_ble_eq_true rfl⟩ (rfl) dX7_requireRoom_20
  · exact absurd (by decide) c_7
theorem dX7_begin_0 : decode cX7_begin 0 = .ok (.aload_n 0, 1) := by decide +kernel
theorem dX7_begin_1 : decode cX7_begin 1 = .ok (.dup, 1) := by decide +kernel
theorem dX7_begin_2 : decode cX7_begin 2 = .ok (.getfield 52, 3) := by decide +kernel
theorem dX7_begin_5 : decode cX7_begin 5 = .ok (.iload_n 3, 1) := by decide +kernel
theorem dX7_begin_6 : decode cX7_begin 6 = .ok (.iadd, 1) := by decide +kernel
theorem dX7_begin_7 : decode cX7_begin 7 = .ok (.putfield 52, 3) := by decide +kernel
theorem dX7_begin_10 : decode cX7_begin 10 = .ok (.aload_n 0, 1) := by decide +kernel
theorem dX7_begin_11 : decode cX7_begin 11 = .ok (.getfield 21, 3) := by decide +kernel
theorem dX7_begin_14 : decode cX7_begin 14 = .ok (.iload_n 1, 1) := by decide +kernel
theorem dX7_begin_15 : decode cX7_begin 15 = .ok (.iload_n 2, 1) := by decide +kernel
theorem dX7_begin_16 : decode cX7_begin 16 = .ok (.iload_n 3, 1) := by decide +kernel
theorem dX7_begin_17 : decode cX7_begin 17 = .ok (.invokevirtual 158, 3) := by decide +kernel
theorem dX7_begin_20 : decode cX7_begin 20 = .ok (.ireturn, 1) := by decide +kernel
theorem gV_X7_X5_add_158 : GoodIn gw (wsV RX7 158 RX5 yX5_add (Cond.code yX5_add cX5_add 5 (some .int) :: gw)) := gdV gw_683 gw_684 gw_685 gw_70 gw_686
theorem hV_X5_add : yX5_add.cls = RX5 ∧ yX5_add.cls ≠ "java/lang/invoke/MethodHandle" ∧ yX5_add.cls ≠ "java/lang/invoke/VarHandle" ∧ (parseMethodDescriptor yX5_add.desc).map (fun d => d.parameters.length) = some 3 := ⟨rfl, by decide +kernel, by decide +kernel, by decide +kernel⟩
set_option maxHeartbeats 2000000 in
set_option maxRecDepth 20000 in
theorem k_X7_begin (l : Launch) (hfl : l.stackTraces = false) (D : va_G) (aT : Nat → ClassId) (a0 : Nat) (a1 : Nat) (a2 : Nat) (a3 : Nat) (a4 : Nat) (a5 : Nat) (a6 : Nat) (a7 : Nat) (a8 : Nat) (a9 : Nat) (a10 : Nat) (x : Int32) (y : Int32) (z : Int32) : CxG l yX7_begin cX7_begin 4 (some (.int)) 1 0 0 24 D aT [.ref a0, .int x, .int y, .int z] [(a0, .inr (10, [.ref a1, .ref a5, .ref a10, .int (nI 0), .int (nI 0), .int (nI 0), .int (nI 0), .int (nI 0), .int (nI 0), .int (nI 0), .int (nI 0)])), (a1, .inr (6, [.ref a2, .ref a3, .ref a4, .int (nI 0)])), (a2, .inl (aT 0, 6, .inl (fun _ => nI 0))), (a3, .inl (aT 0, 6, .inl (fun _ => nI 0))), (a4, .inl (aT 0, 6, .inl (fun _ => nI 0))), (a5, .inr (8, [.ref a6, .ref a7, .ref a8, .ref a9, .int (nI 0), .int (nI 0)])), (a6, .inl (aT 0, 12, .inl (fun _ => nI 0))), (a7, .inl (aT 0, 12, .inl (fun _ => nI 0))), (a8, .inl (aT 0, 12, .inl (fun _ => nI 0))), (a9, .inl (aT 0, 12, .inl (fun _ => nI 0))), (a10, .inl (aT 0, 4, .inl (fun _ => nI 0)))] (qI D aT (fun r W1 => r = (nI 0) ∧ W1 = [(a0, .inr (10, [.ref a1, .ref a5, .ref a10, .int (nI 0), .int (nI 0), .int (nI 0), .int ((nI 0) + z), .int (nI 0), .int (nI 0), .int (nI 0), .int (nI 0)])), (a1, .inr (6, [.ref a2, .ref a3, .ref a4, .int (nI 0)])), (a2, .inl (aT 0, 6, .inl (fun _ => nI 0))), (a3, .inl (aT 0, 6, .inl (fun _ => nI 0))), (a4, .inl (aT 0, 6, .inl (fun _ => nI 0))), (a10, .inl (aT 0, 4, .inl (fun _ => nI 0))), (a5, .inr (8, [.ref a6, .ref a7, .ref a8, .ref a9, .int (nI 1), .int (nI 1)])), (a6, .inl (aT 0, 12, .inl (upd (fun _ => nI 0) 0 ((nI 0))))), (a7, .inl (aT 0, 12, .inl (upd (fun _ => nI 0) 0 (y)))), (a8, .inl (aT 0, 12, .inl (upd (fun _ => nI 0) 0 (z)))), (a9, .inl (aT 0, 12, .inl (upd (fun _ => nI 0) 0 (x))))])) (fun _ => False) := by
  refine CxG.of RX7 (by decide +kernel) rfl (Nat.le_of_ble_eq_true rfl) ?_
  intro p e s m below meth c A ls C hml hl hA hr hlocks hex hnm hZ hW
  have hl : lv_has ls 4 [(0, .ref a0), (1, .int x), (2, .int y), (3, .int z)] := hl
  have hx := C.1
  have hb := C.2.1
  refine lv_aload_n hx hb dX7_begin_0 rfl (lv_at hl 0 rfl) ?_
  refine lv_dup hx hb dX7_begin_1 rfl ?_
  refine cx_get C hW 0 6 rfl rfl (by decide) inX7 gw_191 rfl rfl dX7_begin_2 ?_
  refine lv_iload_n hx hb dX7_begin_5 rfl (lv_at hl 3 rfl) ?_
  refine lv_iadd hx hb dX7_begin_6 ?_
  refine cx_put C hW 0 6 (W1 := [(a0, .inr (10, [.ref a1, .ref a5, .ref a10, .int (nI 0), .int (nI 0), .int (nI 0), .int ((nI 0) + z), .int (nI 0), .int (nI 0), .int (nI 0), .int (nI 0)])), (a1, .inr (6, [.ref a2, .ref a3, .ref a4, .int (nI 0)])), (a2, .inl (aT 0, 6, .inl (fun _ => nI 0))), (a3, .inl (aT 0, 6, .inl (fun _ => nI 0))), (a4, .inl (aT 0, 6, .inl (fun _ => nI 0))), (a5, .inr (8, [.ref a6, .ref a7, .ref a8, .ref a9, .int (nI 0), .int (nI 0)])), (a6, .inl (aT 0, 12, .inl (fun _ => nI 0))), (a7, .inl (aT 0, 12, .inl (fun _ => nI 0))), (a8, .inl (aT 0, 12, .inl (fun _ => nI 0))), (a9, .inl (aT 0, 12, .inl (fun _ => nI 0))), (a10, .inl (aT 0, 4, .inl (fun _ => nI 0)))]) rfl rfl (by decide) inX7 tyX7 tyX7_ok nmX7 gw_191 rfl rfl rfl rfl rfl (Nat.le_of_ble_eq_true rfl) rfl dX7_begin_7 (fun H locs hW => ?_)
  refine lv_aload_n hx hb dX7_begin_10 rfl (lv_at hl 0 rfl) ?_
  refine cx_get C hW 0 1 rfl rfl (by decide) inX7 gw_181 rfl rfl dX7_begin_11 ?_
  refine lv_iload_n hx hb dX7_begin_14 rfl (lv_at hl 1 rfl) ?_
  refine lv_iload_n hx hb dX7_begin_15 rfl (lv_at hl 2 rfl) ?_
  refine lv_iload_n hx hb dX7_begin_16 rfl (lv_at hl 3 rfl) ?_
  refine cx_calli (Wr := [(a0, .inr (10, [.ref a1, .ref a5, .ref a10, .int (nI 0), .int (nI 0), .int (nI 0), .int ((nI 0) + z), .int (nI 0), .int (nI 0), .int (nI 0), .int (nI 0)])), (a1, .inr (6, [.ref a2, .ref a3, .ref a4, .int (nI 0)])), (a2, .inl (aT 0, 6, .inl (fun _ => nI 0))), (a3, .inl (aT 0, 6, .inl (fun _ => nI 0))), (a4, .inl (aT 0, 6, .inl (fun _ => nI 0))), (a10, .inl (aT 0, 4, .inl (fun _ => nI 0)))]) (cx_runV C hml hl.1 hZ hW hA (As := [.int x, .int y, .int z]) (rest := []) (k_X5_add l hfl D aT a5 a6 a7 a8 a9 x y z) gV_X7_X5_add_158 hV_X5_add rfl ⟨Nat.le_of_ble_eq_true rfl, Nat.le_of_ble_eq_true rfl⟩ ⟨Nat.le_of_ble_eq_true rfl, Nat.le_of_ble_eq_true rfl⟩ [5, 6, 7, 8, 9] rfl (by decide) 5 8 rfl rfl rfl rfl (Nat.le_of_ble_eq_true rfl) dX7_begin_17) hW hA [5, 6, 7, 8, 9] [0, 1, 2, 3, 4, 10] rfl rfl (by decide) (by decide) (fun _ _ _ _ _ h9 => h9.elim) (fun r_17 W_17 H locs hq hW => ?_)
  obtain ⟨rfl, rfl⟩ := hq
  have hW : CxB D [(a0, .inr (10, [.ref a1, .ref a5, .ref a10, .int (nI 0), .int (nI 0), .int (nI 0), .int ((nI 0) + z), .int (nI 0), .int (nI 0), .int (nI 0), .int (nI 0)])), (a1, .inr (6, [.ref a2, .ref a3, .ref a4, .int (nI 0)])), (a2, .inl (aT 0, 6, .inl (fun _ => nI 0))), (a3, .inl (aT 0, 6, .inl (fun _ => nI 0))), (a4, .inl (aT 0, 6, .inl (fun _ => nI 0))), (a10, .inl (aT 0, 4, .inl (fun _ => nI 0))), (a5, .inr (8, [.ref a6, .ref a7, .ref a8, .ref a9, .int (nI 1), .int (nI 1)])), (a6, .inl (aT 0, 12, .inl (upd (fun _ => nI 0) 0 ((nI 0))))), (a7, .inl (aT 0, 12, .inl (upd (fun _ => nI 0) 0 (y)))), (a8, .inl (aT 0, 12, .inl (upd (fun _ => nI 0) 0 (z)))), (a9, .inl (aT 0, 12, .inl (upd (fun _ => nI 0) 0 (x))))] A s.heap H _ := hW
  exact cx_iret C hr hlocks rfl hW ⟨Nat.le_of_ble_eq_true rfl, Nat.le_of_ble_eq_true rfl⟩ (⟨rfl, rfl⟩) dX7_begin_20
theorem dX7_newMain_0 : decode cX7_newMain 0 = .ok (.iload_n 1, 1) := by decide +kernel
theorem dX7_newMain_1 : decode cX7_newMain 1 = .ok (.iload_n 2, 1) := by decide +kernel
theorem dX7_newMain_2 : decode cX7_newMain 2 = .ok (.invokestatic 91, 3) := by decide +kernel
theorem dX7_newMain_5 : decode cX7_newMain 5 = .ok (.aload_n 0, 1) := by decide +kernel
theorem dX7_newMain_6 : decode cX7_newMain 6 = .ok (.invokevirtual 95, 3) := by decide +kernel
theorem dX7_newMain_9 : decode cX7_newMain 9 = .ok (.aload_n 0, 1) := by decide +kernel
theorem dX7_newMain_10 : decode cX7_newMain 10 = .ok (.iconst (-1), 1) := by decide +kernel
theorem dX7_newMain_11 : decode cX7_newMain 11 = .ok (.iload_n 1, 1) := by decide +kernel
theorem dX7_newMain_12 : decode cX7_newMain 12 = .ok (.iload_n 2, 1) := by decide +kernel
theorem dX7_newMain_13 : decode cX7_newMain 13 = .ok (.invokevirtual 98, 3) := by decide +kernel
theorem dX7_newMain_16 : decode cX7_newMain 16 = .ok (.ireturn, 1) := by decide +kernel
theorem gS_X7_X7_requireToneAndWeight_91 : GoodIn gw (va_wsS RX7 91 yX7_requireToneAndWeight (Cond.code yX7_requireToneAndWeight cX7_requireToneAndWeight 2 (none) :: gw)) := gdS2 gw_666 gw_667 gw_68 gw_668
theorem hS_X7_requireToneAndWeight : yX7_requireToneAndWeight.cls ≠ "java/lang/invoke/MethodHandle" ∧ yX7_requireToneAndWeight.cls ≠ "java/lang/invoke/VarHandle" ∧ (parseMethodDescriptor yX7_requireToneAndWeight.desc).map (fun d => d.parameters.length) = some 2 := ⟨by decide +kernel, by decide +kernel, by decide +kernel⟩
theorem gV_X7_X7_requireRoom_95 : GoodIn gw (wsV RX7 95 RX7 yX7_requireRoom (Cond.code yX7_requireRoom cX7_requireRoom 1 (none) :: gw)) := gdV gw_670 gw_672 gw_3 gw_68 gw_673
theorem hV_X7_requireRoom : yX7_requireRoom.cls = RX7 ∧ yX7_requireRoom.cls ≠ "java/lang/invoke/MethodHandle" ∧ yX7_requireRoom.cls ≠ "java/lang/invoke/VarHandle" ∧ (parseMethodDescriptor yX7_requireRoom.desc).map (fun d => d.parameters.length) = some 0 := ⟨rfl, by decide +kernel, by decide +kernel, by decide +kernel⟩
theorem gV_X7_X7_begin_98 : GoodIn gw (wsV RX7 98 RX7 yX7_begin (Cond.code yX7_begin cX7_begin 4 (some .int) :: gw)) := gdV gw_679 gw_681 gw_4 gw_68 gw_682
theorem hV_X7_begin : yX7_begin.cls = RX7 ∧ yX7_begin.cls ≠ "java/lang/invoke/MethodHandle" ∧ yX7_begin.cls ≠ "java/lang/invoke/VarHandle" ∧ (parseMethodDescriptor yX7_begin.desc).map (fun d => d.parameters.length) = some 3 := ⟨rfl, by decide +kernel, by decide +kernel, by decide +kernel⟩
set_option maxHeartbeats 2000000 in
set_option maxRecDepth 20000 in
theorem k_X7_newMain (l : Launch) (hfl : l.stackTraces = false) (D : va_G) (aT : Nat → ClassId) (a0 : Nat) (a1 : Nat) (a2 : Nat) (a3 : Nat) (a4 : Nat) (a5 : Nat) (a6 : Nat) (a7 : Nat) (a8 : Nat) (a9 : Nat) (a10 : Nat) (x : Int32) (y : Int32) : CxG l yX7_newMain cX7_newMain 3 (some (.int)) 7 1 6 111 D aT [.ref a0, .int x, .int y] [(a0, .inr (10, [.ref a1, .ref a5, .ref a10, .int (nI 0), .int (nI 0), .int (nI 0), .int (nI 0), .int (nI 0), .int (nI 0), .int (nI 0), .int (nI 0)])), (a1, .inr (6, [.ref a2, .ref a3, .ref a4, .int (nI 0)])), (a2, .inl (aT 0, 6, .inl (fun _ => nI 0))), (a3, .inl (aT 0, 6, .inl (fun _ => nI 0))), (a4, .inl (aT 0, 6, .inl (fun _ => nI 0))), (a5, .inr (8, [.ref a6, .ref a7, .ref a8, .ref a9, .int (nI 0), .int (nI 0)])), (a6, .inl (aT 0, 12, .inl (fun _ => nI 0))), (a7, .inl (aT 0, 12, .inl (fun _ => nI 0))), (a8, .inl (aT 0, 12, .inl (fun _ => nI 0))), (a9, .inl (aT 0, 12, .inl (fun _ => nI 0))), (a10, .inl (aT 0, 4, .inl (fun _ => nI 0)))] (qI D aT (fun r W1 => (rgB 0 9 x && rgB 1 20 y) = true ∧ r = nI 0)) (fun E => (rgB 0 9 x && rgB 1 20 y) = false ∧ E = "java/lang/IllegalArgumentException") := by
  refine CxG.of RX7 (by decide +kernel) rfl (Nat.le_of_ble_eq_true rfl) ?_
  intro p e s m below meth c A ls C hml hl hA hr hlocks hex hnm hZ hW
  have hl : lv_has ls 3 [(0, .ref a0), (1, .int x), (2, .int y)] := hl
  have hx := C.1
  have hb := C.2.1
  refine lv_iload_n hx hb dX7_newMain_0 rfl (lv_at hl 1 rfl) ?_
  refine lv_iload_n hx hb dX7_newMain_1 rfl (lv_at hl 2 rfl) ?_
  refine cx_callv (Wr := [(a0, .inr (10, [.ref a1, .ref a5, .ref a10, .int (nI 0), .int (nI 0), .int (nI 0), .int (nI 0), .int (nI 0), .int (nI 0), .int (nI 0), .int (nI 0)])), (a1, .inr (6, [.ref a2, .ref a3, .ref a4, .int (nI 0)])), (a2, .inl (aT 0, 6, .inl (fun _ => nI 0))), (a3, .inl (aT 0, 6, .inl (fun _ => nI 0))), (a4, .inl (aT 0, 6, .inl (fun _ => nI 0))), (a5, .inr (8, [.ref a6, .ref a7, .ref a8, .ref a9, .int (nI 0), .int (nI 0)])), (a6, .inl (aT 0, 12, .inl (fun _ => nI 0))), (a7, .inl (aT 0, 12, .inl (fun _ => nI 0))), (a8, .inl (aT 0, 12, .inl (fun _ => nI 0))), (a9, .inl (aT 0, 12, .inl (fun _ => nI 0))), (a10, .inl (aT 0, 4, .inl (fun _ => nI 0)))]) (cx_runS C hml hl.1 hZ hW hA (As := [.int x, .int y]) (rest := []) (k_X7_requireToneAndWeight l hfl D aT x y) gS_X7_X7_requireToneAndWeight_91 hS_X7_requireToneAndWeight rfl ⟨Nat.le_of_ble_eq_true rfl, Nat.le_of_ble_eq_true rfl⟩ ⟨Nat.le_of_ble_eq_true rfl, Nat.le_of_ble_eq_true rfl⟩ [] rfl (by decide) rfl (Nat.le_of_ble_eq_true rfl) dX7_newMain_2) hW hA [] [0, 1, 2, 3, 4, 5, 6, 7, 8, 9, 10] rfl rfl (by decide) (by decide) (fun E ce q9 H9 locs9 hE hS9 h7 h8 h9 => cx_out hex hlocks hS9 h7 h8 h9 ⟨Nat.le_of_ble_eq_true rfl, Nat.le_of_ble_eq_true rfl⟩ (hE)) (fun W_2 H locs hq hW => ?_)
  obtain ⟨hok, rfl⟩ := hq
  have hW : CxB D [(a0, .inr (10, [.ref a1, .ref a5, .ref a10, .int (nI 0), .int (nI 0), .int (nI 0), .int (nI 0), .int (nI 0), .int (nI 0), .int (nI 0), .int (nI 0)])), (a1, .inr (6, [.ref a2, .ref a3, .ref a4, .int (nI 0)])), (a2, .inl (aT 0, 6, .inl (fun _ => nI 0))), (a3, .inl (aT 0, 6, .inl (fun _ => nI 0))), (a4, .inl (aT 0, 6, .inl (fun _ => nI 0))), (a5, .inr (8, [.ref a6, .ref a7, .ref a8, .ref a9, .int (nI 0), .int (nI 0)])), (a6, .inl (aT 0, 12, .inl (fun _ => nI 0))), (a7, .inl (aT 0, 12, .inl (fun _ => nI 0))), (a8, .inl (aT 0, 12, .inl (fun _ => nI 0))), (a9, .inl (aT 0, 12, .inl (fun _ => nI 0))), (a10, .inl (aT 0, 4, .inl (fun _ => nI 0)))] A s.heap H _ := hW
  refine lv_aload_n hx hb dX7_newMain_5 rfl (lv_at hl 0 rfl) ?_
  refine cx_callv (Wr := []) (cx_runV C hml hl.1 hZ hW hA (As := []) (rest := []) (k_X7_requireRoom l hfl D aT a0 a1 a2 a3 a4 a5 a6 a7 a8 a9 a10) gV_X7_X7_requireRoom_95 hV_X7_requireRoom rfl ⟨Nat.le_of_ble_eq_true rfl, Nat.le_of_ble_eq_true rfl⟩ ⟨Nat.le_of_ble_eq_true rfl, Nat.le_of_ble_eq_true rfl⟩ [0, 1, 2, 3, 4, 5, 6, 7, 8, 9, 10] rfl (by decide) 0 10 rfl rfl rfl rfl (Nat.le_of_ble_eq_true rfl) dX7_newMain_6) hW hA [0, 1, 2, 3, 4, 5, 6, 7, 8, 9, 10] [] rfl rfl (by decide) (by decide) (fun _ _ _ _ _ h9 => h9.elim) (fun W_6 H locs hq hW => ?_)
  subst hq
  have hW : CxB D [(a0, .inr (10, [.ref a1, .ref a5, .ref a10, .int (nI 0), .int (nI 0), .int (nI 0), .int (nI 0), .int (nI 0), .int (nI 0), .int (nI 0), .int (nI 0)])), (a1, .inr (6, [.ref a2, .ref a3, .ref a4, .int (nI 0)])), (a2, .inl (aT 0, 6, .inl (fun _ => nI 0))), (a3, .inl (aT 0, 6, .inl (fun _ => nI 0))), (a4, .inl (aT 0, 6, .inl (fun _ => nI 0))), (a10, .inl (aT 0, 4, .inl (fun _ => nI 0))), (a5, .inr (8, [.ref a6, .ref a7, .ref a8, .ref a9, .int (nI 0), .int (nI 0)])), (a6, .inl (aT 0, 12, .inl (fun _ => nI 0))), (a7, .inl (aT 0, 12, .inl (fun _ => nI 0))), (a8, .inl (aT 0, 12, .inl (fun _ => nI 0))), (a9, .inl (aT 0, 12, .inl (fun _ => nI 0)))] A s.heap H _ := hW
  refine lv_aload_n hx hb dX7_newMain_9 rfl (lv_at hl 0 rfl) ?_
  refine lv_iconst (v := (-1)) hx hb dX7_newMain_10 (by decide) ?_
  refine lv_iload_n hx hb dX7_newMain_11 rfl (lv_at hl 1 rfl) ?_
  refine lv_iload_n hx hb dX7_newMain_12 rfl (lv_at hl 2 rfl) ?_
  refine cx_calli (Wr := []) (cx_runV C hml hl.1 hZ hW hA (As := [.int (-1), .int x, .int y]) (rest := []) (k_X7_begin l hfl D aT a0 a1 a2 a3 a4 a5 a6 a7 a8 a9 a10 (-1) x y) gV_X7_X7_begin_98 hV_X7_begin rfl ⟨Nat.le_of_ble_eq_true rfl, Nat.le_of_ble_eq_true rfl⟩ ⟨Nat.le_of_ble_eq_true rfl, Nat.le_of_ble_eq_true rfl⟩ [0, 1, 2, 3, 4, 6, 7, 8, 9, 10, 5] rfl (by decide) 0 10 rfl rfl rfl rfl (Nat.le_of_ble_eq_true rfl) dX7_newMain_13) hW hA [0, 1, 2, 3, 4, 6, 7, 8, 9, 10, 5] [] rfl rfl (by decide) (by decide) (fun _ _ _ _ _ h9 => h9.elim) (fun r_13 W_13 H locs hq hW => ?_)
  obtain ⟨rfl, rfl⟩ := hq
  have hW : CxB D [(a0, .inr (10, [.ref a1, .ref a5, .ref a10, .int (nI 0), .int (nI 0), .int (nI 0), .int ((nI 0) + y), .int (nI 0), .int (nI 0), .int (nI 0), .int (nI 0)])), (a1, .inr (6, [.ref a2, .ref a3, .ref a4, .int (nI 0)])), (a2, .inl (aT 0, 6, .inl (fun _ => nI 0))), (a3, .inl (aT 0, 6, .inl (fun _ => nI 0))), (a4, .inl (aT 0, 6, .inl (fun _ => nI 0))), (a10, .inl (aT 0, 4, .inl (fun _ => nI 0))), (a5, .inr (8, [.ref a6, .ref a7, .ref a8, .ref a9, .int (nI 1), .int (nI 1)])), (a6, .inl (aT 0, 12, .inl (upd (fun _ => nI 0) 0 ((nI 0))))), (a7, .inl (aT 0, 12, .inl (upd (fun _ => nI 0) 0 (x)))), (a8, .inl (aT 0, 12, .inl (upd (fun _ => nI 0) 0 (y)))), (a9, .inl (aT 0, 12, .inl (upd (fun _ => nI 0) 0 ((-1)))))] A s.heap H _ := hW
  exact cx_iret C hr hlocks rfl hW ⟨Nat.le_of_ble_eq_true rfl, Nat.le_of_ble_eq_true rfl⟩ (⟨hok, rfl⟩) dX7_newMain_16
theorem dX7_newAmendment_0 : decode cX7_newAmendment 0 = .ok (.aload_n 0, 1) := by decide +kernel
theorem dX7_newAmendment_1 : decode cX7_newAmendment 1 = .ok (.getfield 21, 3) := by decide +kernel
theorem dX7_newAmendment_4 : decode cX7_newAmendment 4 = .ok (.iload_n 1, 1) := by decide +kernel
theorem dX7_newAmendment_5 : decode cX7_newAmendment 5 = .ok (.invokevirtual 101, 3) := by decide +kernel
theorem dX7_newAmendment_8 : decode cX7_newAmendment 8 = .ok (.istore 4, 2) := by decide +kernel
theorem dX7_newAmendment_10 : decode cX7_newAmendment 10 = .ok (.iload_n 2, 1) := by decide +kernel
theorem dX7_newAmendment_11 : decode cX7_newAmendment 11 = .ok (.iload_n 3, 1) := by decide +kernel
theorem dX7_newAmendment_12 : decode cX7_newAmendment 12 = .ok (.invokestatic 91, 3) := by decide +kernel
theorem dX7_newAmendment_15 : decode cX7_newAmendment 15 = .ok (.aload_n 0, 1) := by decide +kernel
theorem dX7_newAmendment_16 : decode cX7_newAmendment 16 = .ok (.invokevirtual 95, 3) := by decide +kernel
theorem dX7_newAmendment_19 : decode cX7_newAmendment 19 = .ok (.aload_n 0, 1) := by decide +kernel
theorem dX7_newAmendment_20 : decode cX7_newAmendment 20 = .ok (.iload 4, 2) := by decide +kernel
theorem dX7_newAmendment_22 : decode cX7_newAmendment 22 = .ok (.iload_n 2, 1) := by decide +kernel
theorem dX7_newAmendment_23 : decode cX7_newAmendment 23 = .ok (.iload_n 3, 1) := by decide +kernel
theorem dX7_newAmendment_24 : decode cX7_newAmendment 24 = .ok (.invokevirtual 98, 3) := by decide +kernel
theorem dX7_newAmendment_27 : decode cX7_newAmendment 27 = .ok (.ireturn, 1) := by decide +kernel
theorem gV_X7_X5_require_101 : GoodIn gw (wsV RX7 101 RX5 yX5_require (Cond.code yX5_require cX5_require 3 (some .int) :: gw)) := gdV gw_699 gw_700 gw_701 gw_70 gw_702
theorem hV_X5_require : yX5_require.cls = RX5 ∧ yX5_require.cls ≠ "java/lang/invoke/MethodHandle" ∧ yX5_require.cls ≠ "java/lang/invoke/VarHandle" ∧ (parseMethodDescriptor yX5_require.desc).map (fun d => d.parameters.length) = some 1 := ⟨rfl, by decide +kernel, by decide +kernel, by decide +kernel⟩
set_option maxHeartbeats 2000000 in
set_option maxRecDepth 20000 in
theorem k_X7_newAmendment (l : Launch) (hfl : l.stackTraces = false) (D : va_G) (aT : Nat → ClassId) (a0 : Nat) (a1 : Nat) (a2 : Nat) (a3 : Nat) (a4 : Nat) (a5 : Nat) (a6 : Nat) (a7 : Nat) (a8 : Nat) (a9 : Nat) (a10 : Nat) (x : Int32) (y : Int32) (z : Int32) : CxG l yX7_newAmendment cX7_newAmendment 5 (some (.int)) 7 1 6 112 D aT [.ref a0, .int x, .int y, .int z] [(a0, .inr (10, [.ref a1, .ref a5, .ref a10, .int (nI 0), .int (nI 0), .int (nI 0), .int (nI 0), .int (nI 0), .int (nI 0), .int (nI 0), .int (nI 0)])), (a1, .inr (6, [.ref a2, .ref a3, .ref a4, .int (nI 0)])), (a2, .inl (aT 0, 6, .inl (fun _ => nI 0))), (a3, .inl (aT 0, 6, .inl (fun _ => nI 0))), (a4, .inl (aT 0, 6, .inl (fun _ => nI 0))), (a5, .inr (8, [.ref a6, .ref a7, .ref a8, .ref a9, .int (nI 0), .int (nI 0)])), (a6, .inl (aT 0, 12, .inl (fun _ => nI 0))), (a7, .inl (aT 0, 12, .inl (fun _ => nI 0))), (a8, .inl (aT 0, 12, .inl (fun _ => nI 0))), (a9, .inl (aT 0, 12, .inl (fun _ => nI 0))), (a10, .inl (aT 0, 4, .inl (fun _ => nI 0)))] (qI D aT (fun _ _ => False)) (fun E => E = "java/util/NoSuchElementException") := by
  refine CxG.of RX7 (by decide +kernel) rfl (Nat.le_of_ble_eq_true rfl) ?_
  intro p e s m below meth c A ls C hml hl hA hr hlocks hex hnm hZ hW
  have hl : lv_has ls 5 [(0, .ref a0), (1, .int x), (2, .int y), (3, .int z)] := hl
  have hx := C.1
  have hb := C.2.1
  refine lv_aload_n hx hb dX7_newAmendment_0 rfl (lv_at hl 0 rfl) ?_
  refine cx_get C hW 0 1 rfl rfl (by decide) inX7 gw_181 rfl rfl dX7_newAmendment_1 ?_
  refine lv_iload_n hx hb dX7_newAmendment_4 rfl (lv_at hl 1 rfl) ?_
  refine cx_calli (Wr := [(a0, .inr (10, [.ref a1, .ref a5, .ref a10, .int (nI 0), .int (nI 0), .int (nI 0), .int (nI 0), .int (nI 0), .int (nI 0), .int (nI 0), .int (nI 0)])), (a1, .inr (6, [.ref a2, .ref a3, .ref a4, .int (nI 0)])), (a2, .inl (aT 0, 6, .inl (fun _ => nI 0))), (a3, .inl (aT 0, 6, .inl (fun _ => nI 0))), (a4, .inl (aT 0, 6, .inl (fun _ => nI 0))), (a10, .inl (aT 0, 4, .inl (fun _ => nI 0)))]) (cx_runV C hml hl.1 hZ hW hA (As := [.int x]) (rest := []) (k_X5_require l hfl D aT a5 a6 a7 a8 a9 x) gV_X7_X5_require_101 hV_X5_require rfl ⟨Nat.le_of_ble_eq_true rfl, Nat.le_of_ble_eq_true rfl⟩ ⟨Nat.le_of_ble_eq_true rfl, Nat.le_of_ble_eq_true rfl⟩ [5, 6, 7, 8, 9] rfl (by decide) 5 8 rfl rfl rfl rfl (Nat.le_of_ble_eq_true rfl) dX7_newAmendment_5) hW hA [5, 6, 7, 8, 9] [0, 1, 2, 3, 4, 10] rfl rfl (by decide) (by decide) (fun E ce q9 H9 locs9 hE hS9 h7 h8 h9 => cx_out hex hlocks hS9 h7 h8 h9 ⟨Nat.le_of_ble_eq_true rfl, Nat.le_of_ble_eq_true rfl⟩ (hE)) (fun r_5 W_5 H locs hq hW => ?_)
  exact hq.elim
theorem dX7_growTip_0 : decode cX7_growTip 0 = .ok (.aload_n 0, 1) := by decide +kernel
theorem dX7_growTip_1 : decode cX7_growTip 1 = .ok (.getfield 21, 3) := by decide +kernel
theorem dX7_growTip_4 : decode cX7_growTip 4 = .ok (.aload_n 0, 1) := by decide +kernel
theorem dX7_growTip_5 : decode cX7_growTip 5 = .ok (.getfield 21, 3) := by decide +kernel
theorem dX7_growTip_8 : decode cX7_growTip 8 = .ok (.iload_n 1, 1) := by decide +kernel
theorem dX7_growTip_9 : decode cX7_growTip 9 = .ok (.invokevirtual 101, 3) := by decide +kernel
theorem dX7_growTip_12 : decode cX7_growTip 12 = .ok (.invokevirtual 105, 3) := by decide +kernel
theorem dX7_growTip_15 : decode cX7_growTip 15 = .ok (.istore_n 2, 1) := by decide +kernel
theorem dX7_growTip_16 : decode cX7_growTip 16 = .ok (.aload_n 0, 1) := by decide +kernel
theorem dX7_growTip_17 : decode cX7_growTip 17 = .ok (.invokevirtual 95, 3) := by decide +kernel
theorem dX7_growTip_20 : decode cX7_growTip 20 = .ok (.aload_n 0, 1) := by decide +kernel
theorem dX7_growTip_21 : decode cX7_growTip 21 = .ok (.getfield 21, 3) := by decide +kernel
theorem dX7_growTip_24 : decode cX7_growTip 24 = .ok (.getfield 108, 3) := by decide +kernel
theorem dX7_growTip_27 : decode cX7_growTip 27 = .ok (.iload_n 2, 1) := by decide +kernel
theorem dX7_growTip_28 : decode cX7_growTip 28 = .ok (.iaload, 1) := by decide +kernel
theorem dX7_growTip_29 : decode cX7_growTip 29 = .ok (.bipush 9, 2) := by decide +kernel
theorem dX7_growTip_31 : decode cX7_growTip 31 = .ok (.if_icmp .ne 7, 3) := by decide +kernel
theorem dX7_growTip_34 : decode cX7_growTip 34 = .ok (.iconst 0, 1) := by decide +kernel
theorem dX7_growTip_35 : decode cX7_growTip 35 = .ok (.goto 14, 3) := by decide +kernel
theorem dX7_growTip_38 : decode cX7_growTip 38 = .ok (.aload_n 0, 1) := by decide +kernel
theorem dX7_growTip_39 : decode cX7_growTip 39 = .ok (.getfield 21, 3) := by decide +kernel
theorem dX7_growTip_42 : decode cX7_growTip 42 = .ok (.getfield 108, 3) := by decide +kernel
theorem dX7_growTip_45 : decode cX7_growTip 45 = .ok (.iload_n 2, 1) := by decide +kernel
theorem dX7_growTip_46 : decode cX7_growTip 46 = .ok (.iaload, 1) := by decide +kernel
theorem dX7_growTip_47 : decode cX7_growTip 47 = .ok (.iconst 1, 1) := by decide +kernel
theorem dX7_growTip_48 : decode cX7_growTip 48 = .ok (.iadd, 1) := by decide +kernel
theorem dX7_growTip_49 : decode cX7_growTip 49 = .ok (.istore_n 3, 1) := by decide +kernel
theorem dX7_growTip_50 : decode cX7_growTip 50 = .ok (.aload_n 0, 1) := by decide +kernel
theorem dX7_growTip_51 : decode cX7_growTip 51 = .ok (.iload_n 2, 1) := by decide +kernel
theorem dX7_growTip_52 : decode cX7_growTip 52 = .ok (.iload_n 3, 1) := by decide +kernel
theorem dX7_growTip_53 : decode cX7_growTip 53 = .ok (.iconst 1, 1) := by decide +kernel
theorem dX7_growTip_54 : decode cX7_growTip 54 = .ok (.aload_n 0, 1) := by decide +kernel
theorem dX7_growTip_55 : decode cX7_growTip 55 = .ok (.getfield 21, 3) := by decide +kernel
theorem dX7_growTip_58 : decode cX7_growTip 58 = .ok (.getfield 111, 3) := by decide +kernel
theorem dX7_growTip_61 : decode cX7_growTip 61 = .ok (.iload_n 2, 1) := by decide +kernel
theorem dX7_growTip_62 : decode cX7_growTip 62 = .ok (.iaload, 1) := by decide +kernel
theorem dX7_growTip_63 : decode cX7_growTip 63 = .ok (.iconst 2, 1) := by decide +kernel
theorem dX7_growTip_64 : decode cX7_growTip 64 = .ok (.idiv, 1) := by decide +kernel
theorem dX7_growTip_65 : decode cX7_growTip 65 = .ok (.invokestatic 114, 3) := by decide +kernel
theorem dX7_growTip_68 : decode cX7_growTip 68 = .ok (.invokevirtual 98, 3) := by decide +kernel
theorem dX7_growTip_71 : decode cX7_growTip 71 = .ok (.ireturn, 1) := by decide +kernel
set_option maxHeartbeats 2000000 in
set_option maxRecDepth 20000 in
theorem k_X7_growTip (l : Launch) (hfl : l.stackTraces = false) (D : va_G) (aT : Nat → ClassId) (a0 : Nat) (a1 : Nat) (a2 : Nat) (a3 : Nat) (a4 : Nat) (a5 : Nat) (a6 : Nat) (a7 : Nat) (a8 : Nat) (a9 : Nat) (a10 : Nat) (x : Int32) : CxG l yX7_growTip cX7_growTip 4 (some (.int)) 7 1 6 112 D aT [.ref a0, .int x] [(a0, .inr (10, [.ref a1, .ref a5, .ref a10, .int (nI 0), .int (nI 0), .int (nI 0), .int (nI 0), .int (nI 0), .int (nI 0), .int (nI 0), .int (nI 0)])), (a1, .inr (6, [.ref a2, .ref a3, .ref a4, .int (nI 0)])), (a2, .inl (aT 0, 6, .inl (fun _ => nI 0))), (a3, .inl (aT 0, 6, .inl (fun _ => nI 0))), (a4, .inl (aT 0, 6, .inl (fun _ => nI 0))), (a5, .inr (8, [.ref a6, .ref a7, .ref a8, .ref a9, .int (nI 0), .int (nI 0)])), (a6, .inl (aT 0, 12, .inl (fun _ => nI 0))), (a7, .inl (aT 0, 12, .inl (fun _ => nI 0))), (a8, .inl (aT 0, 12, .inl (fun _ => nI 0))), (a9, .inl (aT 0, 12, .inl (fun _ => nI 0))), (a10, .inl (aT 0, 4, .inl (fun _ => nI 0)))] (qI D aT (fun _ _ => False)) (fun E => E = "java/util/NoSuchElementException") := by
  refine CxG.of RX7 (by decide +kernel) rfl (Nat.le_of_ble_eq_true rfl) ?_
  intro p e s m below meth c A ls C hml hl hA hr hlocks hex hnm hZ hW
  have hl : lv_has ls 4 [(0, .ref a0), (1, .int x)] := hl
  have hx := C.1
  have hb := C.2.1
  refine lv_aload_n hx hb dX7_growTip_0 rfl (lv_at hl 0 rfl) ?_
  refine cx_get C hW 0 1 rfl rfl (by decide) inX7 gw_181 rfl rfl dX7_growTip_1 ?_
  refine lv_aload_n hx hb dX7_growTip_4 rfl (lv_at hl 0 rfl) ?_
  refine cx_get C hW 0 1 rfl rfl (by decide) inX7 gw_181 rfl rfl dX7_growTip_5 ?_
  refine lv_iload_n hx hb dX7_growTip_8 rfl (lv_at hl 1 rfl) ?_
  refine cx_calli (Wr := [(a0, .inr (10, [.ref a1, .ref a5, .ref a10, .int (nI 0), .int (nI 0), .int (nI 0), .int (nI 0), .int (nI 0), .int (nI 0), .int (nI 0), .int (nI 0)])), (a1, .inr (6, [.ref a2, .ref a3, .ref a4, .int (nI 0)])), (a2, .inl (aT 0, 6, .inl (fun _ => nI 0))), (a3, .inl (aT 0, 6, .inl (fun _ => nI 0))), (a4, .inl (aT 0, 6, .inl (fun _ => nI 0))), (a10, .inl (aT 0, 4, .inl (fun _ => nI 0)))]) (cx_runV C hml hl.1 hZ hW hA (As := [.int x]) (rest := [.ref a5]) (k_X5_require l hfl D aT a5 a6 a7 a8 a9 x) gV_X7_X5_require_101 hV_X5_require rfl ⟨Nat.le_of_ble_eq_true rfl, Nat.le_of_ble_eq_true rfl⟩ ⟨Nat.le_of_ble_eq_true rfl, Nat.le_of_ble_eq_true rfl⟩ [5, 6, 7, 8, 9] rfl (by decide) 5 8 rfl rfl rfl rfl (Nat.le_of_ble_eq_true rfl) dX7_growTip_9) hW hA [5, 6, 7, 8, 9] [0, 1, 2, 3, 4, 10] rfl rfl (by decide) (by decide) (fun E ce q9 H9 locs9 hE hS9 h7 h8 h9 => cx_out hex hlocks hS9 h7 h8 h9 ⟨Nat.le_of_ble_eq_true rfl, Nat.le_of_ble_eq_true rfl⟩ (hE)) (fun r_9 W_9 H locs hq hW => ?_)
  exact hq.elim
theorem dX7_cutBack_0 : decode cX7_cutBack 0 = .ok (.aload_n 0, 1) := by decide +kernel
theorem dX7_cutBack_1 : decode cX7_cutBack 1 = .ok (.getfield 21, 3) := by decide +kernel
theorem dX7_cutBack_4 : decode cX7_cutBack 4 = .ok (.iload_n 1, 1) := by decide +kernel
theorem dX7_cutBack_5 : decode cX7_cutBack 5 = .ok (.invokevirtual 101, 3) := by decide +kernel
theorem dX7_cutBack_8 : decode cX7_cutBack 8 = .ok (.istore_n 3, 1) := by decide +kernel
theorem dX7_cutBack_9 : decode cX7_cutBack 9 = .ok (.iload_n 2, 1) := by decide +kernel
theorem dX7_cutBack_10 : decode cX7_cutBack 10 = .ok (.invokestatic 67, 3) := by decide +kernel
theorem dX7_cutBack_13 : decode cX7_cutBack 13 = .ok (.ifCond .ne 13, 3) := by decide +kernel
theorem dX7_cutBack_16 : decode cX7_cutBack 16 = .ok (.new 71, 3) := by decide +kernel
theorem dX7_cutBack_19 : decode cX7_cutBack 19 = .ok (.dup, 1) := by decide +kernel
theorem dX7_cutBack_20 : decode cX7_cutBack 20 = .ok (.ldc 120, 2) := by decide +kernel
theorem dX7_cutBack_22 : decode cX7_cutBack 22 = .ok (.invokespecial 75, 3) := by decide +kernel
theorem dX7_cutBack_25 : decode cX7_cutBack 25 = .ok (.athrow, 1) := by decide +kernel
theorem dX7_cutBack_26 : decode cX7_cutBack 26 = .ok (.aload_n 0, 1) := by decide +kernel
theorem dX7_cutBack_27 : decode cX7_cutBack 27 = .ok (.getfield 21, 3) := by decide +kernel
theorem dX7_cutBack_30 : decode cX7_cutBack 30 = .ok (.iload_n 3, 1) := by decide +kernel
theorem dX7_cutBack_31 : decode cX7_cutBack 31 = .ok (.invokevirtual 122, 3) := by decide +kernel
theorem dX7_cutBack_34 : decode cX7_cutBack 34 = .ok (.iload_n 2, 1) := by decide +kernel
theorem dX7_cutBack_35 : decode cX7_cutBack 35 = .ok (.iadd, 1) := by decide +kernel
theorem dX7_cutBack_36 : decode cX7_cutBack 36 = .ok (.istore 4, 2) := by decide +kernel
theorem dX7_cutBack_38 : decode cX7_cutBack 38 = .ok (.iconst 0, 1) := by decide +kernel
theorem dX7_cutBack_39 : decode cX7_cutBack 39 = .ok (.istore 5, 2) := by decide +kernel
theorem dX7_cutBack_41 : decode cX7_cutBack 41 = .ok (.aload_n 0, 1) := by decide +kernel
theorem dX7_cutBack_42 : decode cX7_cutBack 42 = .ok (.getfield 21, 3) := by decide +kernel
theorem dX7_cutBack_45 : decode cX7_cutBack 45 = .ok (.getfield 125, 3) := by decide +kernel
theorem dX7_cutBack_48 : decode cX7_cutBack 48 = .ok (.iconst 1, 1) := by decide +kernel
theorem dX7_cutBack_49 : decode cX7_cutBack 49 = .ok (.isub, 1) := by decide +kernel
theorem dX7_cutBack_50 : decode cX7_cutBack 50 = .ok (.istore 6, 2) := by decide +kernel
theorem dX7_cutBack_52 : decode cX7_cutBack 52 = .ok (.iload 6, 2) := by decide +kernel
theorem dX7_cutBack_54 : decode cX7_cutBack 54 = .ok (.iload_n 3, 1) := by decide +kernel
theorem dX7_cutBack_55 : decode cX7_cutBack 55 = .ok (.if_icmp .le 67, 3) := by decide +kernel
theorem dX7_cutBack_58 : decode cX7_cutBack 58 = .ok (.aload_n 0, 1) := by decide +kernel
theorem dX7_cutBack_59 : decode cX7_cutBack 59 = .ok (.getfield 21, 3) := by decide +kernel
theorem dX7_cutBack_62 : decode cX7_cutBack 62 = .ok (.iload 6, 2) := by decide +kernel
theorem dX7_cutBack_64 : decode cX7_cutBack 64 = .ok (.iload_n 3, 1) := by decide +kernel
theorem dX7_cutBack_65 : decode cX7_cutBack 65 = .ok (.invokevirtual 128, 3) := by decide +kernel
theorem dX7_cutBack_68 : decode cX7_cutBack 68 = .ok (.ifCond .eq 48, 3) := by decide +kernel
theorem dX7_cutBack_71 : decode cX7_cutBack 71 = .ok (.aload_n 0, 1) := by decide +kernel
theorem dX7_cutBack_72 : decode cX7_cutBack 72 = .ok (.getfield 21, 3) := by decide +kernel
theorem dX7_cutBack_75 : decode cX7_cutBack 75 = .ok (.iload 6, 2) := by decide +kernel
theorem dX7_cutBack_77 : decode cX7_cutBack 77 = .ok (.invokevirtual 122, 3) := by decide +kernel
theorem dX7_cutBack_80 : decode cX7_cutBack 80 = .ok (.iload 4, 2) := by decide +kernel
theorem dX7_cutBack_82 : decode cX7_cutBack 82 = .ok (.if_icmp .le 34, 3) := by decide +kernel
theorem dX7_cutBack_85 : decode cX7_cutBack 85 = .ok (.aload_n 0, 1) := by decide +kernel
theorem dX7_cutBack_86 : decode cX7_cutBack 86 = .ok (.dup, 1) := by decide +kernel
theorem dX7_cutBack_87 : decode cX7_cutBack 87 = .ok (.getfield 55, 3) := by decide +kernel
theorem dX7_cutBack_90 : decode cX7_cutBack 90 = .ok (.aload_n 0, 1) := by decide +kernel
theorem dX7_cutBack_91 : decode cX7_cutBack 91 = .ok (.getfield 21, 3) := by decide +kernel
theorem dX7_cutBack_94 : decode cX7_cutBack 94 = .ok (.getfield 111, 3) := by decide +kernel
theorem dX7_cutBack_97 : decode cX7_cutBack 97 = .ok (.iload 6, 2) := by decide +kernel
theorem dX7_cutBack_99 : decode cX7_cutBack 99 = .ok (.iaload, 1) := by decide +kernel
theorem dX7_cutBack_100 : decode cX7_cutBack 100 = .ok (.iadd, 1) := by decide +kernel
theorem dX7_cutBack_101 : decode cX7_cutBack 101 = .ok (.putfield 55, 3) := by decide +kernel
theorem dX7_cutBack_104 : decode cX7_cutBack 104 = .ok (.aload_n 0, 1) := by decide +kernel
theorem dX7_cutBack_105 : decode cX7_cutBack 105 = .ok (.getfield 21, 3) := by decide +kernel
theorem dX7_cutBack_108 : decode cX7_cutBack 108 = .ok (.iload 6, 2) := by decide +kernel
theorem dX7_cutBack_110 : decode cX7_cutBack 110 = .ok (.invokevirtual 132, 3) := by decide +kernel
theorem dX7_cutBack_113 : decode cX7_cutBack 113 = .ok (.iinc 5 1, 3) := by decide +kernel
theorem dX7_cutBack_116 : decode cX7_cutBack 116 = .ok (.iinc 6 (-1), 3) := by decide +kernel
theorem dX7_cutBack_119 : decode cX7_cutBack 119 = .ok (.goto (-67), 3) := by decide +kernel
theorem dX7_cutBack_122 : decode cX7_cutBack 122 = .ok (.iload 5, 2) := by decide +kernel
theorem dX7_cutBack_124 : decode cX7_cutBack 124 = .ok (.ireturn, 1) := by decide +kernel
set_option maxHeartbeats 2000000 in
set_option maxRecDepth 20000 in
theorem k_X7_cutBack (l : Launch) (hfl : l.stackTraces = false) (D : va_G) (aT : Nat → ClassId) (a0 : Nat) (a1 : Nat) (a2 : Nat) (a3 : Nat) (a4 : Nat) (a5 : Nat) (a6 : Nat) (a7 : Nat) (a8 : Nat) (a9 : Nat) (a10 : Nat) (x : Int32) (y : Int32) : CxG l yX7_cutBack cX7_cutBack 7 (some (.int)) 7 1 6 112 D aT [.ref a0, .int x, .int y] [(a0, .inr (10, [.ref a1, .ref a5, .ref a10, .int (nI 0), .int (nI 0), .int (nI 0), .int (nI 0), .int (nI 0), .int (nI 0), .int (nI 0), .int (nI 0)])), (a1, .inr (6, [.ref a2, .ref a3, .ref a4, .int (nI 0)])), (a2, .inl (aT 0, 6, .inl (fun _ => nI 0))), (a3, .inl (aT 0, 6, .inl (fun _ => nI 0))), (a4, .inl (aT 0, 6, .inl (fun _ => nI 0))), (a5, .inr (8, [.ref a6, .ref a7, .ref a8, .ref a9, .int (nI 0), .int (nI 0)])), (a6, .inl (aT 0, 12, .inl (fun _ => nI 0))), (a7, .inl (aT 0, 12, .inl (fun _ => nI 0))), (a8, .inl (aT 0, 12, .inl (fun _ => nI 0))), (a9, .inl (aT 0, 12, .inl (fun _ => nI 0))), (a10, .inl (aT 0, 4, .inl (fun _ => nI 0)))] (qI D aT (fun _ _ => False)) (fun E => E = "java/util/NoSuchElementException") := by
  refine CxG.of RX7 (by decide +kernel) rfl (Nat.le_of_ble_eq_true rfl) ?_
  intro p e s m below meth c A ls C hml hl hA hr hlocks hex hnm hZ hW
  have hl : lv_has ls 7 [(0, .ref a0), (1, .int x), (2, .int y)] := hl
  have hx := C.1
  have hb := C.2.1
  refine lv_aload_n hx hb dX7_cutBack_0 rfl (lv_at hl 0 rfl) ?_
  refine cx_get C hW 0 1 rfl rfl (by decide) inX7 gw_181 rfl rfl dX7_cutBack_1 ?_
  refine lv_iload_n hx hb dX7_cutBack_4 rfl (lv_at hl 1 rfl) ?_
  refine cx_calli (Wr := [(a0, .inr (10, [.ref a1, .ref a5, .ref a10, .int (nI 0), .int (nI 0), .int (nI 0), .int (nI 0), .int (nI 0), .int (nI 0), .int (nI 0), .int (nI 0)])), (a1, .inr (6, [.ref a2, .ref a3, .ref a4, .int (nI 0)])), (a2, .inl (aT 0, 6, .inl (fun _ => nI 0))), (a3, .inl (aT 0, 6, .inl (fun _ => nI 0))), (a4, .inl (aT 0, 6, .inl (fun _ => nI 0))), (a10, .inl (aT 0, 4, .inl (fun _ => nI 0)))]) (cx_runV C hml hl.1 hZ hW hA (As := [.int x]) (rest := []) (k_X5_require l hfl D aT a5 a6 a7 a8 a9 x) gV_X7_X5_require_101 hV_X5_require rfl ⟨Nat.le_of_ble_eq_true rfl, Nat.le_of_ble_eq_true rfl⟩ ⟨Nat.le_of_ble_eq_true rfl, Nat.le_of_ble_eq_true rfl⟩ [5, 6, 7, 8, 9] rfl (by decide) 5 8 rfl rfl rfl rfl (Nat.le_of_ble_eq_true rfl) dX7_cutBack_5) hW hA [5, 6, 7, 8, 9] [0, 1, 2, 3, 4, 10] rfl rfl (by decide) (by decide) (fun E ce q9 H9 locs9 hE hS9 h7 h8 h9 => cx_out hex hlocks hS9 h7 h8 h9 ⟨Nat.le_of_ble_eq_true rfl, Nat.le_of_ble_eq_true rfl⟩ (hE)) (fun r_5 W_5 H locs hq hW => ?_)
  exact hq.elim
theorem dX7_holdVote_0 : decode cX7_holdVote 0 = .ok (.aload_n 0, 1) := by decide +kernel
theorem dX7_holdVote_1 : decode cX7_holdVote 1 = .ok (.getfield 21, 3) := by decide +kernel
theorem dX7_holdVote_4 : decode cX7_holdVote 4 = .ok (.iload_n 1, 1) := by decide +kernel
theorem dX7_holdVote_5 : decode cX7_holdVote 5 = .ok (.invokevirtual 101, 3) := by decide +kernel
theorem dX7_holdVote_8 : decode cX7_holdVote 8 = .ok (.istore_n 2, 1) := by decide +kernel
theorem dX7_holdVote_9 : decode cX7_holdVote 9 = .ok (.aload_n 0, 1) := by decide +kernel
theorem dX7_holdVote_10 : decode cX7_holdVote 10 = .ok (.getfield 12, 3) := by decide +kernel
theorem dX7_holdVote_13 : decode cX7_holdVote 13 = .ok (.getfield 136, 3) := by decide +kernel
theorem dX7_holdVote_16 : decode cX7_holdVote 16 = .ok (.ifCond .ne 13, 3) := by decide +kernel
theorem dX7_holdVote_19 : decode cX7_holdVote 19 = .ok (.new 82, 3) := by decide +kernel
theorem dX7_holdVote_22 : decode cX7_holdVote 22 = .ok (.dup, 1) := by decide +kernel
theorem dX7_holdVote_23 : decode cX7_holdVote 23 = .ok (.ldc 137, 2) := by decide +kernel
theorem dX7_holdVote_25 : decode cX7_holdVote 25 = .ok (.invokespecial 86, 3) := by decide +kernel
theorem dX7_holdVote_28 : decode cX7_holdVote 28 = .ok (.athrow, 1) := by decide +kernel
theorem dX7_holdVote_29 : decode cX7_holdVote 29 = .ok (.aload_n 0, 1) := by decide +kernel
theorem dX7_holdVote_30 : decode cX7_holdVote 30 = .ok (.getfield 21, 3) := by decide +kernel
theorem dX7_holdVote_33 : decode cX7_holdVote 33 = .ok (.iload_n 2, 1) := by decide +kernel
theorem dX7_holdVote_34 : decode cX7_holdVote 34 = .ok (.invokevirtual 139, 3) := by decide +kernel
theorem dX7_holdVote_37 : decode cX7_holdVote 37 = .ok (.ifCond .eq 13, 3) := by decide +kernel
theorem dX7_holdVote_40 : decode cX7_holdVote 40 = .ok (.new 82, 3) := by decide +kernel
theorem dX7_holdVote_43 : decode cX7_holdVote 43 = .ok (.dup, 1) := by decide +kernel
theorem dX7_holdVote_44 : decode cX7_holdVote 44 = .ok (.ldc 142, 2) := by decide +kernel
theorem dX7_holdVote_46 : decode cX7_holdVote 46 = .ok (.invokespecial 86, 3) := by decide +kernel
theorem dX7_holdVote_49 : decode cX7_holdVote 49 = .ok (.athrow, 1) := by decide +kernel
theorem dX7_holdVote_50 : decode cX7_holdVote 50 = .ok (.aload_n 0, 1) := by decide +kernel
theorem dX7_holdVote_51 : decode cX7_holdVote 51 = .ok (.getfield 12, 3) := by decide +kernel
theorem dX7_holdVote_54 : decode cX7_holdVote 54 = .ok (.aload_n 0, 1) := by decide +kernel
theorem dX7_holdVote_55 : decode cX7_holdVote 55 = .ok (.getfield 21, 3) := by decide +kernel
theorem dX7_holdVote_58 : decode cX7_holdVote 58 = .ok (.getfield 108, 3) := by decide +kernel
theorem dX7_holdVote_61 : decode cX7_holdVote 61 = .ok (.iload_n 2, 1) := by decide +kernel
theorem dX7_holdVote_62 : decode cX7_holdVote 62 = .ok (.iaload, 1) := by decide +kernel
theorem dX7_holdVote_63 : decode cX7_holdVote 63 = .ok (.invokevirtual 144, 3) := by decide +kernel
theorem dX7_holdVote_66 : decode cX7_holdVote 66 = .ok (.istore_n 3, 1) := by decide +kernel
theorem dX7_holdVote_67 : decode cX7_holdVote 67 = .ok (.aload_n 0, 1) := by decide +kernel
theorem dX7_holdVote_68 : decode cX7_holdVote 68 = .ok (.dup, 1) := by decide +kernel
theorem dX7_holdVote_69 : decode cX7_holdVote 69 = .ok (.getfield 46, 3) := by decide +kernel
theorem dX7_holdVote_72 : decode cX7_holdVote 72 = .ok (.iconst 1, 1) := by decide +kernel
theorem dX7_holdVote_73 : decode cX7_holdVote 73 = .ok (.iadd, 1) := by decide +kernel
theorem dX7_holdVote_74 : decode cX7_holdVote 74 = .ok (.putfield 46, 3) := by decide +kernel
theorem dX7_holdVote_77 : decode cX7_holdVote 77 = .ok (.aload_n 0, 1) := by decide +kernel
theorem dX7_holdVote_78 : decode cX7_holdVote 78 = .ok (.iload_n 3, 1) := by decide +kernel
theorem dX7_holdVote_79 : decode cX7_holdVote 79 = .ok (.aload_n 0, 1) := by decide +kernel
theorem dX7_holdVote_80 : decode cX7_holdVote 80 = .ok (.getfield 21, 3) := by decide +kernel
theorem dX7_holdVote_83 : decode cX7_holdVote 83 = .ok (.getfield 111, 3) := by decide +kernel
theorem dX7_holdVote_86 : decode cX7_holdVote 86 = .ok (.iload_n 2, 1) := by decide +kernel
theorem dX7_holdVote_87 : decode cX7_holdVote 87 = .ok (.iaload, 1) := by decide +kernel
theorem dX7_holdVote_88 : decode cX7_holdVote 88 = .ok (.aload_n 0, 1) := by decide +kernel
theorem dX7_holdVote_89 : decode cX7_holdVote 89 = .ok (.getfield 21, 3) := by decide +kernel
theorem dX7_holdVote_92 : decode cX7_holdVote 92 = .ok (.getfield 148, 3) := by decide +kernel
theorem dX7_holdVote_95 : decode cX7_holdVote 95 = .ok (.iload_n 2, 1) := by decide +kernel
theorem dX7_holdVote_96 : decode cX7_holdVote 96 = .ok (.iaload, 1) := by decide +kernel
theorem dX7_holdVote_97 : decode cX7_holdVote 97 = .ok (.invokevirtual 151, 3) := by decide +kernel
theorem dX7_holdVote_100 : decode cX7_holdVote 100 = .ok (.aload_n 0, 1) := by decide +kernel
theorem dX7_holdVote_101 : decode cX7_holdVote 101 = .ok (.getfield 21, 3) := by decide +kernel
theorem dX7_holdVote_104 : decode cX7_holdVote 104 = .ok (.iload_n 2, 1) := by decide +kernel
theorem dX7_holdVote_105 : decode cX7_holdVote 105 = .ok (.invokevirtual 132, 3) := by decide +kernel
theorem dX7_holdVote_108 : decode cX7_holdVote 108 = .ok (.iload_n 3, 1) := by decide +kernel
theorem dX7_holdVote_109 : decode cX7_holdVote 109 = .ok (.ireturn, 1) := by decide +kernel
set_option maxHeartbeats 2000000 in
set_option maxRecDepth 20000 in
theorem k_X7_holdVote (l : Launch) (hfl : l.stackTraces = false) (D : va_G) (aT : Nat → ClassId) (a0 : Nat) (a1 : Nat) (a2 : Nat) (a3 : Nat) (a4 : Nat) (a5 : Nat) (a6 : Nat) (a7 : Nat) (a8 : Nat) (a9 : Nat) (a10 : Nat) (x : Int32) : CxG l yX7_holdVote cX7_holdVote 4 (some (.char)) 7 1 6 112 D aT [.ref a0, .int x] [(a0, .inr (10, [.ref a1, .ref a5, .ref a10, .int (nI 0), .int (nI 0), .int (nI 0), .int (nI 0), .int (nI 0), .int (nI 0), .int (nI 0), .int (nI 0)])), (a1, .inr (6, [.ref a2, .ref a3, .ref a4, .int (nI 0)])), (a2, .inl (aT 0, 6, .inl (fun _ => nI 0))), (a3, .inl (aT 0, 6, .inl (fun _ => nI 0))), (a4, .inl (aT 0, 6, .inl (fun _ => nI 0))), (a5, .inr (8, [.ref a6, .ref a7, .ref a8, .ref a9, .int (nI 0), .int (nI 0)])), (a6, .inl (aT 0, 12, .inl (fun _ => nI 0))), (a7, .inl (aT 0, 12, .inl (fun _ => nI 0))), (a8, .inl (aT 0, 12, .inl (fun _ => nI 0))), (a9, .inl (aT 0, 12, .inl (fun _ => nI 0))), (a10, .inl (aT 0, 4, .inl (fun _ => nI 0)))] (qI D aT (fun _ _ => False)) (fun E => E = "java/util/NoSuchElementException") := by
  refine CxG.of RX7 (by decide +kernel) rfl (Nat.le_of_ble_eq_true rfl) ?_
  intro p e s m below meth c A ls C hml hl hA hr hlocks hex hnm hZ hW
  have hl : lv_has ls 4 [(0, .ref a0), (1, .int x)] := hl
  have hx := C.1
  have hb := C.2.1
  refine lv_aload_n hx hb dX7_holdVote_0 rfl (lv_at hl 0 rfl) ?_
  refine cx_get C hW 0 1 rfl rfl (by decide) inX7 gw_181 rfl rfl dX7_holdVote_1 ?_
  refine lv_iload_n hx hb dX7_holdVote_4 rfl (lv_at hl 1 rfl) ?_
  refine cx_calli (Wr := [(a0, .inr (10, [.ref a1, .ref a5, .ref a10, .int (nI 0), .int (nI 0), .int (nI 0), .int (nI 0), .int (nI 0), .int (nI 0), .int (nI 0), .int (nI 0)])), (a1, .inr (6, [.ref a2, .ref a3, .ref a4, .int (nI 0)])), (a2, .inl (aT 0, 6, .inl (fun _ => nI 0))), (a3, .inl (aT 0, 6, .inl (fun _ => nI 0))), (a4, .inl (aT 0, 6, .inl (fun _ => nI 0))), (a10, .inl (aT 0, 4, .inl (fun _ => nI 0)))]) (cx_runV C hml hl.1 hZ hW hA (As := [.int x]) (rest := []) (k_X5_require l hfl D aT a5 a6 a7 a8 a9 x) gV_X7_X5_require_101 hV_X5_require rfl ⟨Nat.le_of_ble_eq_true rfl, Nat.le_of_ble_eq_true rfl⟩ ⟨Nat.le_of_ble_eq_true rfl, Nat.le_of_ble_eq_true rfl⟩ [5, 6, 7, 8, 9] rfl (by decide) 5 8 rfl rfl rfl rfl (Nat.le_of_ble_eq_true rfl) dX7_holdVote_5) hW hA [5, 6, 7, 8, 9] [0, 1, 2, 3, 4, 10] rfl rfl (by decide) (by decide) (fun E ce q9 H9 locs9 hE hS9 h7 h8 h9 => cx_out hex hlocks hS9 h7 h8 h9 ⟨Nat.le_of_ble_eq_true rfl, Nat.le_of_ble_eq_true rfl⟩ (hE)) (fun r_5 W_5 H locs hq hW => ?_)
  exact hq.elim
theorem dX7_beginNextSeason_0 : decode cX7_beginNextSeason 0 = .ok (.aload_n 0, 1) := by decide +kernel
theorem dX7_beginNextSeason_1 : decode cX7_beginNextSeason 1 = .ok (.aload_n 0, 1) := by decide +kernel
theorem dX7_beginNextSeason_2 : decode cX7_beginNextSeason 2 = .ok (.getfield 29, 3) := by decide +kernel
theorem dX7_beginNextSeason_5 : decode cX7_beginNextSeason 5 = .ok (.iconst 1, 1) := by decide +kernel
theorem dX7_beginNextSeason_6 : decode cX7_beginNextSeason 6 = .ok (.iadd, 1) := by decide +kernel
theorem dX7_beginNextSeason_7 : decode cX7_beginNextSeason 7 = .ok (.iconst 4, 1) := by decide +kernel
theorem dX7_beginNextSeason_8 : decode cX7_beginNextSeason 8 = .ok (.if_icmp .ge 12, 3) := by decide +kernel
theorem dX7_beginNextSeason_11 : decode cX7_beginNextSeason 11 = .ok (.aload_n 0, 1) := by decide +kernel
theorem dX7_beginNextSeason_12 : decode cX7_beginNextSeason 12 = .ok (.getfield 29, 3) := by decide +kernel
theorem dX7_beginNextSeason_15 : decode cX7_beginNextSeason 15 = .ok (.iconst 1, 1) := by decide +kernel
theorem dX7_beginNextSeason_16 : decode cX7_beginNextSeason 16 = .ok (.iadd, 1) := by decide +kernel
theorem dX7_beginNextSeason_17 : decode cX7_beginNextSeason 17 = .ok (.goto 4, 3) := by decide +kernel
theorem dX7_beginNextSeason_20 : decode cX7_beginNextSeason 20 = .ok (.iconst 0, 1) := by decide +kernel
theorem dX7_beginNextSeason_21 : decode cX7_beginNextSeason 21 = .ok (.putfield 29, 3) := by decide +kernel
theorem dX7_beginNextSeason_24 : decode cX7_beginNextSeason 24 = .ok (.aload_n 0, 1) := by decide +kernel
theorem dX7_beginNextSeason_25 : decode cX7_beginNextSeason 25 = .ok (.getfield 12, 3) := by decide +kernel
theorem dX7_beginNextSeason_28 : decode cX7_beginNextSeason 28 = .ok (.aload_n 0, 1) := by decide +kernel
theorem dX7_beginNextSeason_29 : decode cX7_beginNextSeason 29 = .ok (.getfield 29, 3) := by decide +kernel
theorem dX7_beginNextSeason_32 : decode cX7_beginNextSeason 32 = .ok (.invokevirtual 155, 3) := by decide +kernel
theorem dX7_beginNextSeason_35 : decode cX7_beginNextSeason 35 = .ok (.return_, 1) := by decide +kernel
theorem gV_X7_X2_meet_155 : GoodIn gw (wsV RX7 155 RX2 yX2_meet (Cond.code yX2_meet cX2_meet 4 (none) :: gw)) := gdV gw_403 gw_404 gw_405 gw_69 gw_406
theorem hV_X2_meet : yX2_meet.cls = RX2 ∧ yX2_meet.cls ≠ "java/lang/invoke/MethodHandle" ∧ yX2_meet.cls ≠ "java/lang/invoke/VarHandle" ∧ (parseMethodDescriptor yX2_meet.desc).map (fun d => d.parameters.length) = some 1 := ⟨rfl, by decide +kernel, by decide +kernel, by decide +kernel⟩
set_option maxHeartbeats 2000000 in
set_option maxRecDepth 20000 in
theorem k_X7_beginNextSeason (l : Launch) (hfl : l.stackTraces = false) (D : va_G) (aT : Nat → ClassId) (a0 : Nat) (a1 : Nat) (a2 : Nat) (a3 : Nat) (a4 : Nat) (a5 : Nat) (a6 : Nat) (a7 : Nat) (a8 : Nat) (a9 : Nat) (a10 : Nat) : CxG l yX7_beginNextSeason cX7_beginNextSeason 1 none 1 0 0 23 D aT [.ref a0] [(a0, .inr (10, [.ref a1, .ref a5, .ref a10, .int (nI 0), .int (nI 0), .int (nI 0), .int (nI 0), .int (nI 0), .int (nI 0), .int (nI 0), .int (nI 0)])), (a1, .inr (6, [.ref a2, .ref a3, .ref a4, .int (nI 0)])), (a2, .inl (aT 0, 6, .inl (fun _ => nI 0))), (a3, .inl (aT 0, 6, .inl (fun _ => nI 0))), (a4, .inl (aT 0, 6, .inl (fun _ => nI 0))), (a5, .inr (8, [.ref a6, .ref a7, .ref a8, .ref a9, .int (nI 0), .int (nI 0)])), (a6, .inl (aT 0, 12, .inl (fun _ => nI 0))), (a7, .inl (aT 0, 12, .inl (fun _ => nI 0))), (a8, .inl (aT 0, 12, .inl (fun _ => nI 0))), (a9, .inl (aT 0, 12, .inl (fun _ => nI 0))), (a10, .inl (aT 0, 4, .inl (fun _ => nI 0)))] (qV D aT (fun W1 => W1 = [(a0, .inr (10, [.ref a1, .ref a5, .ref a10, .int (nI 1), .int (nI 0), .int (nI 0), .int (nI 0), .int (nI 0), .int (nI 0), .int (nI 0), .int (nI 0)])), (a5, .inr (8, [.ref a6, .ref a7, .ref a8, .ref a9, .int (nI 0), .int (nI 0)])), (a6, .inl (aT 0, 12, .inl (fun _ => nI 0))), (a7, .inl (aT 0, 12, .inl (fun _ => nI 0))), (a8, .inl (aT 0, 12, .inl (fun _ => nI 0))), (a9, .inl (aT 0, 12, .inl (fun _ => nI 0))), (a10, .inl (aT 0, 4, .inl (fun _ => nI 0))), (a1, .inr (6, [.ref a2, .ref a3, .ref a4, .int (nI 0)])), (a2, .inl (aT 0, 6, .inl (fun _ => nI 0))), (a3, .inl (aT 0, 6, .inl (fun _ => nI 0))), (a4, .inl (aT 0, 6, .inl (fun _ => nI 0)))])) (fun _ => False) := by
  refine CxG.of RX7 (by decide +kernel) rfl (Nat.le_of_ble_eq_true rfl) ?_
  intro p e s m below meth c A ls C hml hl hA hr hlocks hex hnm hZ hW
  have hl : lv_has ls 1 [(0, .ref a0)] := hl
  have hx := C.1
  have hb := C.2.1
  refine lv_aload_n hx hb dX7_beginNextSeason_0 rfl (lv_at hl 0 rfl) ?_
  refine lv_aload_n hx hb dX7_beginNextSeason_1 rfl (lv_at hl 0 rfl) ?_
  refine cx_get C hW 0 3 rfl rfl (by decide) inX7 gw_185 rfl rfl dX7_beginNextSeason_2 ?_
  refine lv_iconst (v := nI 1) hx hb dX7_beginNextSeason_5 (by decide) ?_
  refine r_iaddN hx hb (a := 0) (b := 1) dX7_beginNextSeason_6 ?_
  refine lv_iconst (v := nI 4) hx hb dX7_beginNextSeason_7 (by decide) ?_
  refine lv_icmp_ge hx hb (x := (nI 1)) (y := (nI 4)) (tgt := 20) dX7_beginNextSeason_8 (by decide) (fun c_8 => ?_) (fun c_8 => ?_)
  · exact absurd c_8 (by decide)
  · refine lv_aload_n hx hb dX7_beginNextSeason_11 rfl (lv_at hl 0 rfl) ?_
    refine cx_get C hW 0 3 rfl rfl (by decide) inX7 gw_185 rfl rfl dX7_beginNextSeason_12 ?_
    refine lv_iconst (v := nI 1) hx hb dX7_beginNextSeason_15 (by decide) ?_
    refine r_iaddN hx hb (a := 0) (b := 1) dX7_beginNextSeason_16 ?_
    refine lv_goto (tgt := 21) hx hb dX7_beginNextSeason_17 (by decide) ?_
    refine cx_put C hW 0 3 (W1 := [(a0, .inr (10, [.ref a1, .ref a5, .ref a10, .int (nI 1), .int (nI 0), .int (nI 0), .int (nI 0), .int (nI 0), .int (nI 0), .int (nI 0), .int (nI 0)])), (a1, .inr (6, [.ref a2, .ref a3, .ref a4, .int (nI 0)])), (a2, .inl (aT 0, 6, .inl (fun _ => nI 0))), (a3, .inl (aT 0, 6, .inl (fun _ => nI 0))), (a4, .inl (aT 0, 6, .inl (fun _ => nI 0))), (a5, .inr (8, [.ref a6, .ref a7, .ref a8, .ref a9, .int (nI 0), .int (nI 0)])), (a6, .inl (aT 0, 12, .inl (fun _ => nI 0))), (a7, .inl (aT 0, 12, .inl (fun _ => nI 0))), (a8, .inl (aT 0, 12, .inl (fun _ => nI 0))), (a9, .inl (aT 0, 12, .inl (fun _ => nI 0))), (a10, .inl (aT 0, 4, .inl (fun _ => nI 0)))]) rfl rfl (by decide) inX7 tyX7 tyX7_ok nmX7 gw_185 rfl rfl rfl rfl rfl (Nat.le_of_ble_eq_true rfl) rfl dX7_beginNextSeason_21 (fun H locs hW => ?_)
    refine lv_aload_n hx hb dX7_beginNextSeason_24 rfl (lv_at hl 0 rfl) ?_
    refine cx_get C hW 0 0 rfl rfl (by decide) inX7 gw_179 rfl rfl dX7_beginNextSeason_25 ?_
    refine lv_aload_n hx hb dX7_beginNextSeason_28 rfl (lv_at hl 0 rfl) ?_
    refine cx_get C hW 0 3 rfl rfl (by decide) inX7 gw_185 rfl rfl dX7_beginNextSeason_29 ?_
    refine cx_callv (Wr := [(a0, .inr (10, [.ref a1, .ref a5, .ref a10, .int (nI 1), .int (nI 0), .int (nI 0), .int (nI 0), .int (nI 0), .int (nI 0), .int (nI 0), .int (nI 0)])), (a5, .inr (8, [.ref a6, .ref a7, .ref a8, .ref a9, .int (nI 0), .int (nI 0)])), (a6, .inl (aT 0, 12, .inl (fun _ => nI 0))), (a7, .inl (aT 0, 12, .inl (fun _ => nI 0))), (a8, .inl (aT 0, 12, .inl (fun _ => nI 0))), (a9, .inl (aT 0, 12, .inl (fun _ => nI 0))), (a10, .inl (aT 0, 4, .inl (fun _ => nI 0)))]) (cx_runV C hml hl.1 hZ hW hA (As := [.int (nI 1)]) (rest := []) (k_X2_meet l hfl D aT a1 a2 a3 a4 (nI 1)) gV_X7_X2_meet_155 hV_X2_meet rfl ⟨Nat.le_of_ble_eq_true rfl, Nat.le_of_ble_eq_true rfl⟩ ⟨Nat.le_of_ble_eq_true rfl, Nat.le_of_ble_eq_true rfl⟩ [1, 2, 3, 4] rfl (by decide) 1 6 rfl rfl rfl rfl (Nat.le_of_ble_eq_true rfl) dX7_beginNextSeason_32) hW hA [1, 2, 3, 4] [0, 5, 6, 7, 8, 9, 10] rfl rfl (by decide) (by decide) (fun _ _ _ _ _ h9 => h9.elim) (fun W_32 H locs hq hW => ?_)
    subst hq
    have hW : CxB D [(a0, .inr (10, [.ref a1, .ref a5, .ref a10, .int (nI 1), .int (nI 0), .int (nI 0), .int (nI 0), .int (nI 0), .int (nI 0), .int (nI 0), .int (nI 0)])), (a5, .inr (8, [.ref a6, .ref a7, .ref a8, .ref a9, .int (nI 0), .int (nI 0)])), (a6, .inl (aT 0, 12, .inl (fun _ => nI 0))), (a7, .inl (aT 0, 12, .inl (fun _ => nI 0))), (a8, .inl (aT 0, 12, .inl (fun _ => nI 0))), (a9, .inl (aT 0, 12, .inl (fun _ => nI 0))), (a10, .inl (aT 0, 4, .inl (fun _ => nI 0))), (a1, .inr (6, [.ref a2, .ref a3, .ref a4, .int (nI 0)])), (a2, .inl (aT 0, 6, .inl (fun _ => nI 0))), (a3, .inl (aT 0, 6, .inl (fun _ => nI 0))), (a4, .inl (aT 0, 6, .inl (fun _ => nI 0)))] A s.heap H _ := hW
    exact cx_vret C hr hlocks hW ⟨Nat.le_of_ble_eq_true rfl, Nat.le_of_ble_eq_true rfl⟩ (rfl) dX7_beginNextSeason_35
theorem dX7_accountedWeight_0 : decode cX7_accountedWeight 0 = .ok (.aload_n 0, 1) := by decide +kernel
theorem dX7_accountedWeight_1 : decode cX7_accountedWeight 1 = .ok (.getfield 52, 3) := by decide +kernel
theorem dX7_accountedWeight_4 : decode cX7_accountedWeight 4 = .ok (.aload_n 0, 1) := by decide +kernel
theorem dX7_accountedWeight_5 : decode cX7_accountedWeight 5 = .ok (.getfield 55, 3) := by decide +kernel
theorem dX7_accountedWeight_8 : decode cX7_accountedWeight 8 = .ok (.isub, 1) := by decide +kernel
theorem dX7_accountedWeight_9 : decode cX7_accountedWeight 9 = .ok (.aload_n 0, 1) := by decide +kernel
theorem dX7_accountedWeight_10 : decode cX7_accountedWeight 10 = .ok (.getfield 58, 3) := by decide +kernel
theorem dX7_accountedWeight_13 : decode cX7_accountedWeight 13 = .ok (.isub, 1) := by decide +kernel
theorem dX7_accountedWeight_14 : decode cX7_accountedWeight 14 = .ok (.aload_n 0, 1) := by decide +kernel
theorem dX7_accountedWeight_15 : decode cX7_accountedWeight 15 = .ok (.getfield 61, 3) := by decide +kernel
theorem dX7_accountedWeight_18 : decode cX7_accountedWeight 18 = .ok (.isub, 1) := by decide +kernel
theorem dX7_accountedWeight_19 : decode cX7_accountedWeight 19 = .ok (.aload_n 0, 1) := by decide +kernel
theorem dX7_accountedWeight_20 : decode cX7_accountedWeight 20 = .ok (.getfield 64, 3) := by decide +kernel
theorem dX7_accountedWeight_23 : decode cX7_accountedWeight 23 = .ok (.isub, 1) := by decide +kernel
theorem dX7_accountedWeight_24 : decode cX7_accountedWeight 24 = .ok (.ireturn, 1) := by decide +kernel
set_option maxHeartbeats 2000000 in
set_option maxRecDepth 20000 in
theorem k_X7_accountedWeight (l : Launch) (hfl : l.stackTraces = false) (D : va_G) (aT : Nat → ClassId) (a0 : Nat) (a1 : Nat) (a2 : Nat) (a3 : Nat) (a4 : Nat) (a5 : Nat) (a6 : Nat) (a7 : Nat) (a8 : Nat) (a9 : Nat) (a10 : Nat) : CxG l yX7_accountedWeight cX7_accountedWeight 1 (some (.int)) 0 0 0 0 D aT [.ref a0] [(a0, .inr (10, [.ref a1, .ref a5, .ref a10, .int (nI 0), .int (nI 0), .int (nI 0), .int (nI 0), .int (nI 0), .int (nI 0), .int (nI 0), .int (nI 0)])), (a1, .inr (6, [.ref a2, .ref a3, .ref a4, .int (nI 0)])), (a2, .inl (aT 0, 6, .inl (fun _ => nI 0))), (a3, .inl (aT 0, 6, .inl (fun _ => nI 0))), (a4, .inl (aT 0, 6, .inl (fun _ => nI 0))), (a5, .inr (8, [.ref a6, .ref a7, .ref a8, .ref a9, .int (nI 0), .int (nI 0)])), (a6, .inl (aT 0, 12, .inl (fun _ => nI 0))), (a7, .inl (aT 0, 12, .inl (fun _ => nI 0))), (a8, .inl (aT 0, 12, .inl (fun _ => nI 0))), (a9, .inl (aT 0, 12, .inl (fun _ => nI 0))), (a10, .inl (aT 0, 4, .inl (fun _ => nI 0)))] (qI D aT (fun r W1 => r = (nI 0) ∧ W1 = [(a0, .inr (10, [.ref a1, .ref a5, .ref a10, .int (nI 0), .int (nI 0), .int (nI 0), .int (nI 0), .int (nI 0), .int (nI 0), .int (nI 0), .int (nI 0)])), (a1, .inr (6, [.ref a2, .ref a3, .ref a4, .int (nI 0)])), (a2, .inl (aT 0, 6, .inl (fun _ => nI 0))), (a3, .inl (aT 0, 6, .inl (fun _ => nI 0))), (a4, .inl (aT 0, 6, .inl (fun _ => nI 0))), (a5, .inr (8, [.ref a6, .ref a7, .ref a8, .ref a9, .int (nI 0), .int (nI 0)])), (a6, .inl (aT 0, 12, .inl (fun _ => nI 0))), (a7, .inl (aT 0, 12, .inl (fun _ => nI 0))), (a8, .inl (aT 0, 12, .inl (fun _ => nI 0))), (a9, .inl (aT 0, 12, .inl (fun _ => nI 0))), (a10, .inl (aT 0, 4, .inl (fun _ => nI 0)))])) (fun _ => False) := by
  refine CxG.of RX7 (by decide +kernel) rfl (Nat.le_of_ble_eq_true rfl) ?_
  intro p e s m below meth c A ls C hml hl hA hr hlocks hex hnm hZ hW
  have hl : lv_has ls 1 [(0, .ref a0)] := hl
  have hx := C.1
  have hb := C.2.1
  refine lv_aload_n hx hb dX7_accountedWeight_0 rfl (lv_at hl 0 rfl) ?_
  refine cx_get C hW 0 6 rfl rfl (by decide) inX7 gw_191 rfl rfl dX7_accountedWeight_1 ?_
  refine lv_aload_n hx hb dX7_accountedWeight_4 rfl (lv_at hl 0 rfl) ?_
  refine cx_get C hW 0 7 rfl rfl (by decide) inX7 gw_192 rfl rfl dX7_accountedWeight_5 ?_
  refine r_isubN hx hb (a := 0) (b := 0) (by decide) dX7_accountedWeight_8 ?_
  refine lv_aload_n hx hb dX7_accountedWeight_9 rfl (lv_at hl 0 rfl) ?_
  refine cx_get C hW 0 8 rfl rfl (by decide) inX7 gw_193 rfl rfl dX7_accountedWeight_10 ?_
  refine r_isubN hx hb (a := 0) (b := 0) (by decide) dX7_accountedWeight_13 ?_
  refine lv_aload_n hx hb dX7_accountedWeight_14 rfl (lv_at hl 0 rfl) ?_
  refine cx_get C hW 0 9 rfl rfl (by decide) inX7 gw_194 rfl rfl dX7_accountedWeight_15 ?_
  refine r_isubN hx hb (a := 0) (b := 0) (by decide) dX7_accountedWeight_18 ?_
  refine lv_aload_n hx hb dX7_accountedWeight_19 rfl (lv_at hl 0 rfl) ?_
  refine cx_get C hW 0 10 rfl rfl (by decide) inX7 gw_195 rfl rfl dX7_accountedWeight_20 ?_
  refine r_isubN hx hb (a := 0) (b := 0) (by decide) dX7_accountedWeight_23 ?_
  exact cx_iret C hr hlocks rfl hW ⟨Nat.le_of_ble_eq_true rfl, Nat.le_of_ble_eq_true rfl⟩ (⟨rfl, rfl⟩) dX7_accountedWeight_24
theorem dX8_bestByBranches_0 : decode cX8_bestByBranches 0 = .ok (.aload_n 0, 1) := by decide +kernel
theorem dX8_bestByBranches_1 : decode cX8_bestByBranches 1 = .ok (.getfield 24, 3) := by decide +kernel
theorem dX8_bestByBranches_4 : decode cX8_bestByBranches 4 = .ok (.lconst 0, 1) := by decide +kernel
theorem dX8_bestByBranches_5 : decode cX8_bestByBranches 5 = .ok (.invokestatic 68, 3) := by decide +kernel
theorem dX8_bestByBranches_8 : decode cX8_bestByBranches 8 = .ok (.aload_n 0, 1) := by decide +kernel
theorem dX8_bestByBranches_9 : decode cX8_bestByBranches 9 = .ok (.getfield 28, 3) := by decide +kernel
theorem dX8_bestByBranches_12 : decode cX8_bestByBranches 12 = .ok (.lconst 0, 1) := by decide +kernel
theorem dX8_bestByBranches_13 : decode cX8_bestByBranches 13 = .ok (.invokestatic 68, 3) := by decide +kernel
theorem dX8_bestByBranches_16 : decode cX8_bestByBranches 16 = .ok (.lconst 0, 1) := by decide +kernel
theorem dX8_bestByBranches_17 : decode cX8_bestByBranches 17 = .ok (.lstore_n 2, 1) := by decide +kernel
theorem dX8_bestByBranches_18 : decode cX8_bestByBranches 18 = .ok (.aload_n 1, 1) := by decide +kernel
theorem dX8_bestByBranches_19 : decode cX8_bestByBranches 19 = .ok (.getfield 50, 3) := by decide +kernel
theorem dX8_bestByBranches_22 : decode cX8_bestByBranches 22 = .ok (.iconst 1, 1) := by decide +kernel
theorem dX8_bestByBranches_23 : decode cX8_bestByBranches 23 = .ok (.isub, 1) := by decide +kernel
theorem dX8_bestByBranches_24 : decode cX8_bestByBranches 24 = .ok (.istore 4, 2) := by decide +kernel
theorem dX8_bestByBranches_26 : decode cX8_bestByBranches 26 = .ok (.iload 4, 2) := by decide +kernel
theorem dX8_bestByBranches_28 : decode cX8_bestByBranches 28 = .ok (.ifCond .lt 97, 3) := by decide +kernel
theorem dX8_bestByBranches_31 : decode cX8_bestByBranches 31 = .ok (.aload_n 1, 1) := by decide +kernel
theorem dX8_bestByBranches_32 : decode cX8_bestByBranches 32 = .ok (.getfield 37, 3) := by decide +kernel
theorem dX8_bestByBranches_35 : decode cX8_bestByBranches 35 = .ok (.iload 4, 2) := by decide +kernel
theorem dX8_bestByBranches_37 : decode cX8_bestByBranches 37 = .ok (.iaload, 1) := by decide +kernel
theorem dX8_bestByBranches_38 : decode cX8_bestByBranches 38 = .ok (.istore 5, 2) := by decide +kernel
theorem dX8_bestByBranches_40 : decode cX8_bestByBranches 40 = .ok (.aload_n 0, 1) := by decide +kernel
theorem dX8_bestByBranches_41 : decode cX8_bestByBranches 41 = .ok (.getfield 24, 3) := by decide +kernel
theorem dX8_bestByBranches_44 : decode cX8_bestByBranches 44 = .ok (.iload 4, 2) := by decide +kernel
theorem dX8_bestByBranches_46 : decode cX8_bestByBranches 46 = .ok (.dup2, 1) := by decide +kernel
theorem dX8_bestByBranches_47 : decode cX8_bestByBranches 47 = .ok (.laload, 1) := by decide +kernel
theorem dX8_bestByBranches_48 : decode cX8_bestByBranches 48 = .ok (.aload_n 1, 1) := by decide +kernel
theorem dX8_bestByBranches_49 : decode cX8_bestByBranches 49 = .ok (.getfield 71, 3) := by decide +kernel
theorem dX8_bestByBranches_52 : decode cX8_bestByBranches 52 = .ok (.iload 4, 2) := by decide +kernel
theorem dX8_bestByBranches_54 : decode cX8_bestByBranches 54 = .ok (.iaload, 1) := by decide +kernel
theorem dX8_bestByBranches_55 : decode cX8_bestByBranches 55 = .ok (.i2l, 1) := by decide +kernel
theorem dX8_bestByBranches_56 : decode cX8_bestByBranches 56 = .ok (.ladd, 1) := by decide +kernel
theorem dX8_bestByBranches_57 : decode cX8_bestByBranches 57 = .ok (.lastore, 1) := by decide +kernel
theorem dX8_bestByBranches_58 : decode cX8_bestByBranches 58 = .ok (.aload_n 0, 1) := by decide +kernel
theorem dX8_bestByBranches_59 : decode cX8_bestByBranches 59 = .ok (.getfield 24, 3) := by decide +kernel
theorem dX8_bestByBranches_62 : decode cX8_bestByBranches 62 = .ok (.iload 4, 2) := by decide +kernel
theorem dX8_bestByBranches_64 : decode cX8_bestByBranches 64 = .ok (.laload, 1) := by decide +kernel
theorem dX8_bestByBranches_65 : decode cX8_bestByBranches 65 = .ok (.aload_n 0, 1) := by decide +kernel
theorem dX8_bestByBranches_66 : decode cX8_bestByBranches 66 = .ok (.getfield 28, 3) := by decide +kernel
theorem dX8_bestByBranches_69 : decode cX8_bestByBranches 69 = .ok (.iload 4, 2) := by decide +kernel
theorem dX8_bestByBranches_71 : decode cX8_bestByBranches 71 = .ok (.laload, 1) := by decide +kernel
theorem dX8_bestByBranches_72 : decode cX8_bestByBranches 72 = .ok (.invokestatic 74, 3) := by decide +kernel
theorem dX8_bestByBranches_75 : decode cX8_bestByBranches 75 = .ok (.lstore 6, 2) := by decide +kernel
theorem dX8_bestByBranches_77 : decode cX8_bestByBranches 77 = .ok (.iload 5, 2) := by decide +kernel
theorem dX8_bestByBranches_79 : decode cX8_bestByBranches 79 = .ok (.ifCond .lt 35, 3) := by decide +kernel
theorem dX8_bestByBranches_82 : decode cX8_bestByBranches 82 = .ok (.aload_n 0, 1) := by decide +kernel
theorem dX8_bestByBranches_83 : decode cX8_bestByBranches 83 = .ok (.getfield 24, 3) := by decide +kernel
theorem dX8_bestByBranches_86 : decode cX8_bestByBranches 86 = .ok (.iload 5, 2) := by decide +kernel
theorem dX8_bestByBranches_88 : decode cX8_bestByBranches 88 = .ok (.dup2, 1) := by decide +kernel
theorem dX8_bestByBranches_89 : decode cX8_bestByBranches 89 = .ok (.laload, 1) := by decide +kernel
theorem dX8_bestByBranches_90 : decode cX8_bestByBranches 90 = .ok (.aload_n 0, 1) := by decide +kernel
theorem dX8_bestByBranches_91 : decode cX8_bestByBranches 91 = .ok (.getfield 28, 3) := by decide +kernel
theorem dX8_bestByBranches_94 : decode cX8_bestByBranches 94 = .ok (.iload 4, 2) := by decide +kernel
theorem dX8_bestByBranches_96 : decode cX8_bestByBranches 96 = .ok (.laload, 1) := by decide +kernel
theorem dX8_bestByBranches_97 : decode cX8_bestByBranches 97 = .ok (.ladd, 1) := by decide +kernel
theorem dX8_bestByBranches_98 : decode cX8_bestByBranches 98 = .ok (.lastore, 1) := by decide +kernel
theorem dX8_bestByBranches_99 : decode cX8_bestByBranches 99 = .ok (.aload_n 0, 1) := by decide +kernel
theorem dX8_bestByBranches_100 : decode cX8_bestByBranches 100 = .ok (.getfield 28, 3) := by decide +kernel
theorem dX8_bestByBranches_103 : decode cX8_bestByBranches 103 = .ok (.iload 5, 2) := by decide +kernel
theorem dX8_bestByBranches_105 : decode cX8_bestByBranches 105 = .ok (.dup2, 1) := by decide +kernel
theorem dX8_bestByBranches_106 : decode cX8_bestByBranches 106 = .ok (.laload, 1) := by decide +kernel
theorem dX8_bestByBranches_107 : decode cX8_bestByBranches 107 = .ok (.lload 6, 2) := by decide +kernel
theorem dX8_bestByBranches_109 : decode cX8_bestByBranches 109 = .ok (.ladd, 1) := by decide +kernel
theorem dX8_bestByBranches_110 : decode cX8_bestByBranches 110 = .ok (.lastore, 1) := by decide +kernel
theorem dX8_bestByBranches_111 : decode cX8_bestByBranches 111 = .ok (.goto 8, 3) := by decide +kernel
theorem dX8_bestByBranches_114 : decode cX8_bestByBranches 114 = .ok (.lload_n 2, 1) := by decide +kernel
theorem dX8_bestByBranches_115 : decode cX8_bestByBranches 115 = .ok (.lload 6, 2) := by decide +kernel
theorem dX8_bestByBranches_117 : decode cX8_bestByBranches 117 = .ok (.ladd, 1) := by decide +kernel
theorem dX8_bestByBranches_118 : decode cX8_bestByBranches 118 = .ok (.lstore_n 2, 1) := by decide +kernel
theorem dX8_bestByBranches_119 : decode cX8_bestByBranches 119 = .ok (.iinc 4 (-1), 3) := by decide +kernel
theorem dX8_bestByBranches_122 : decode cX8_bestByBranches 122 = .ok (.goto (-96), 3) := by decide +kernel
theorem dX8_bestByBranches_125 : decode cX8_bestByBranches 125 = .ok (.lload_n 2, 1) := by decide +kernel
theorem dX8_bestByBranches_126 : decode cX8_bestByBranches 126 = .ok (.lreturn, 1) := by decide +kernel
theorem gS_X8_J7_fill_d0a16_68 : GoodIn gw (va_wsS RX8 68 yJ7_fill_d0a16 (Cond.code yJ7_fill_d0a16 cJ7_fill_d0a16 5 (none) :: gw)) := gdS2 gw_439 gw_440 gw_93 gw_441
theorem hS_J7_fill_d0a16 : yJ7_fill_d0a16.cls ≠ "java/lang/invoke/MethodHandle" ∧ yJ7_fill_d0a16.cls ≠ "java/lang/invoke/VarHandle" ∧ (parseMethodDescriptor yJ7_fill_d0a16.desc).map (fun d => d.parameters.length) = some 2 := ⟨by decide +kernel, by decide +kernel, by decide +kernel⟩
set_option maxHeartbeats 2000000 in
set_option maxRecDepth 20000 in
theorem k_X8_bestByBranches (l : Launch) (hfl : l.stackTraces = false) (D : va_G) (aT : Nat → ClassId) (t0 : Nat) (t1 : Nat) (t2 : Nat) (t3 : Nat) (t4 : Nat) (t5 : Nat) (t6 : Nat) (r1 : Nat → Int32) (r2 : Nat → Int32) (r3 : Nat → Int32) (r4 : Nat → Int32) (r5 : Nat → Int64) (r6 : Nat → Int64) (a5 : Nat) (a6 : Nat) (a7 : Nat) (a8 : Nat) (a9 : Nat) : CxG l yX8_bestByBranches cX8_bestByBranches 8 (some (.long)) 1 0 0 24 D aT [.ref t0, .ref a5] [(t0, .inr (11, [.ref t1, .ref t2, .ref t3, .ref t4, .ref t5, .ref t6])), (t1, .inl (aT 0, 12, .inl r1)), (t2, .inl (aT 0, 12, .inl r2)), (t3, .inl (aT 0, 12, .inl r3)), (t4, .inl (aT 0, 12, .inl r4)), (t5, .inl (aT 2, 12, .inr (.inl r5))), (t6, .inl (aT 2, 12, .inr (.inl r6))), (a5, .inr (8, [.ref a6, .ref a7, .ref a8, .ref a9, .int (nI 0), .int (nI 0)])), (a6, .inl (aT 0, 12, .inl (fun _ => nI 0))), (a7, .inl (aT 0, 12, .inl (fun _ => nI 0))), (a8, .inl (aT 0, 12, .inl (fun _ => nI 0))), (a9, .inl (aT 0, 12, .inl (fun _ => nI 0)))] (qL D aT (fun r W1 => r = 0 ∧ ∃ g1 g2 g3 g4 : Nat → Int32, ∃ g5 g6 : Nat → Int64, W1 = [(t0, .inr (11, [.ref t1, .ref t2, .ref t3, .ref t4, .ref t5, .ref t6])), (t1, .inl (aT 0, 12, .inl g1)), (t2, .inl (aT 0, 12, .inl g2)), (t3, .inl (aT 0, 12, .inl g3)), (t4, .inl (aT 0, 12, .inl g4)), (t5, .inl (aT 2, 12, .inr (.inl g5))), (t6, .inl (aT 2, 12, .inr (.inl g6))), (a5, .inr (8, [.ref a6, .ref a7, .ref a8, .ref a9, .int (nI 0), .int (nI 0)])), (a6, .inl (aT 0, 12, .inl (fun _ => nI 0))), (a7, .inl (aT 0, 12, .inl (fun _ => nI 0))), (a8, .inl (aT 0, 12, .inl (fun _ => nI 0))), (a9, .inl (aT 0, 12, .inl (fun _ => nI 0)))])) (fun _ => False) := by
  refine CxG.of RX8 (by decide +kernel) rfl (Nat.le_of_ble_eq_true rfl) ?_
  intro p e s m below meth c A ls C hml hl hA hr hlocks hex hnm hZ hW
  have hl : lv_has ls 8 [(0, .ref t0), (1, .ref a5)] := hl
  have hx := C.1
  have hb := C.2.1
  refine lv_aload_n hx hb dX8_bestByBranches_0 rfl (lv_at hl 0 rfl) ?_
  refine cx_get C hW 0 4 rfl rfl (by decide) inX8 gw_247 rfl rfl dX8_bestByBranches_1 ?_
  refine lv_lconst (v := 0) hx hb dX8_bestByBranches_4 (by decide) ?_
  refine cx_callv (Wr := [(t0, .inr (11, [.ref t1, .ref t2, .ref t3, .ref t4, .ref t5, .ref t6])), (t1, .inl (aT 0, 12, .inl r1)), (t2, .inl (aT 0, 12, .inl r2)), (t3, .inl (aT 0, 12, .inl r3)), (t4, .inl (aT 0, 12, .inl r4)), (t6, .inl (aT 2, 12, .inr (.inl r6))), (a5, .inr (8, [.ref a6, .ref a7, .ref a8, .ref a9, .int (nI 0), .int (nI 0)])), (a6, .inl (aT 0, 12, .inl (fun _ => nI 0))), (a7, .inl (aT 0, 12, .inl (fun _ => nI 0))), (a8, .inl (aT 0, 12, .inl (fun _ => nI 0))), (a9, .inl (aT 0, 12, .inl (fun _ => nI 0)))]) (cx_runS C hml hl.1 hZ hW hA (As := [.ref t5, .long 0]) (rest := []) (k_J7_fill_d0a16 l hfl D aT t5 12 r5 0 (by decide)) gS_X8_J7_fill_d0a16_68 hS_J7_fill_d0a16 rfl ⟨Nat.le_of_ble_eq_true rfl, Nat.le_of_ble_eq_true rfl⟩ ⟨Nat.le_of_ble_eq_true rfl, Nat.le_of_ble_eq_true rfl⟩ [5] rfl (by decide) rfl (Nat.le_of_ble_eq_true rfl) dX8_bestByBranches_5) hW hA [5] [0, 1, 2, 3, 4, 6, 7, 8, 9, 10, 11] rfl rfl (by decide) (by decide) (fun _ _ _ _ _ h9 => h9.elim) (fun W_5 H locs hq hW => ?_)
  obtain ⟨g_5, rfl⟩ := hq
  have hW : CxB D [(t0, .inr (11, [.ref t1, .ref t2, .ref t3, .ref t4, .ref t5, .ref t6])), (t1, .inl (aT 0, 12, .inl r1)), (t2, .inl (aT 0, 12, .inl r2)), (t3, .inl (aT 0, 12, .inl r3)), (t4, .inl (aT 0, 12, .inl r4)), (t6, .inl (aT 2, 12, .inr (.inl r6))), (a5, .inr (8, [.ref a6, .ref a7, .ref a8, .ref a9, .int (nI 0), .int (nI 0)])), (a6, .inl (aT 0, 12, .inl (fun _ => nI 0))), (a7, .inl (aT 0, 12, .inl (fun _ => nI 0))), (a8, .inl (aT 0, 12, .inl (fun _ => nI 0))), (a9, .inl (aT 0, 12, .inl (fun _ => nI 0))), (t5, .inl (aT 2, 12, .inr (.inl g_5)))] A s.heap H _ := hW
  refine lv_aload_n hx hb dX8_bestByBranches_8 rfl (lv_at hl 0 rfl) ?_
  refine cx_get C hW 0 5 rfl rfl (by decide) inX8 gw_248 rfl rfl dX8_bestByBranches_9 ?_
  refine lv_lconst (v := 0) hx hb dX8_bestByBranches_12 (by decide) ?_
  refine cx_callv (Wr := [(t0, .inr (11, [.ref t1, .ref t2, .ref t3, .ref t4, .ref t5, .ref t6])), (t1, .inl (aT 0, 12, .inl r1)), (t2, .inl (aT 0, 12, .inl r2)), (t3, .inl (aT 0, 12, .inl r3)), (t4, .inl (aT 0, 12, .inl r4)), (a5, .inr (8, [.ref a6, .ref a7, .ref a8, .ref a9, .int (nI 0), .int (nI 0)])), (a6, .inl (aT 0, 12, .inl (fun _ => nI 0))), (a7, .inl (aT 0, 12, .inl (fun _ => nI 0))), (a8, .inl (aT 0, 12, .inl (fun _ => nI 0))), (a9, .inl (aT 0, 12, .inl (fun _ => nI 0))), (t5, .inl (aT 2, 12, .inr (.inl g_5)))]) (cx_runS C hml hl.1 hZ hW hA (As := [.ref t6, .long 0]) (rest := []) (k_J7_fill_d0a16 l hfl D aT t6 12 r6 0 (by decide)) gS_X8_J7_fill_d0a16_68 hS_J7_fill_d0a16 rfl ⟨Nat.le_of_ble_eq_true rfl, Nat.le_of_ble_eq_true rfl⟩ ⟨Nat.le_of_ble_eq_true rfl, Nat.le_of_ble_eq_true rfl⟩ [5] rfl (by decide) rfl (Nat.le_of_ble_eq_true rfl) dX8_bestByBranches_13) hW hA [5] [0, 1, 2, 3, 4, 6, 7, 8, 9, 10, 11] rfl rfl (by decide) (by decide) (fun _ _ _ _ _ h9 => h9.elim) (fun W_13 H locs hq hW => ?_)
  obtain ⟨g_13, rfl⟩ := hq
  have hW : CxB D [(t0, .inr (11, [.ref t1, .ref t2, .ref t3, .ref t4, .ref t5, .ref t6])), (t1, .inl (aT 0, 12, .inl r1)), (t2, .inl (aT 0, 12, .inl r2)), (t3, .inl (aT 0, 12, .inl r3)), (t4, .inl (aT 0, 12, .inl r4)), (a5, .inr (8, [.ref a6, .ref a7, .ref a8, .ref a9, .int (nI 0), .int (nI 0)])), (a6, .inl (aT 0, 12, .inl (fun _ => nI 0))), (a7, .inl (aT 0, 12, .inl (fun _ => nI 0))), (a8, .inl (aT 0, 12, .inl (fun _ => nI 0))), (a9, .inl (aT 0, 12, .inl (fun _ => nI 0))), (t5, .inl (aT 2, 12, .inr (.inl g_5))), (t6, .inl (aT 2, 12, .inr (.inl g_13)))] A s.heap H _ := hW
  refine lv_lconst (v := 0) hx hb dX8_bestByBranches_16 (by decide) ?_
  refine lv_lstore_n (lv' := [(2, .long 0), (0, .ref t0), (1, .ref a5)]) hx hb dX8_bestByBranches_17 rfl hl (by decide) rfl (fun ls hl => ?_)
  refine lv_aload_n hx hb dX8_bestByBranches_18 rfl (lv_at hl 2 rfl) ?_
  refine cx_getN C hZ hW 5 4 rfl rfl (by decide) inX5 nw_162 rfl rfl dX8_bestByBranches_19 ?_
  refine lv_iconst (v := nI 1) hx hb dX8_bestByBranches_22 (by decide) ?_
  refine lv_isub hx hb dX8_bestByBranches_23 ?_
  refine r_eq (y := (-1)) (by decide) ?_
  refine lv_istore (lv' := [(4, .int (-1)), (2, .long 0), (0, .ref t0), (1, .ref a5)]) hx hb dX8_bestByBranches_24 hl (by decide) rfl (fun ls hl => ?_)
  refine lv_iload hx hb dX8_bestByBranches_26 (lv_at hl 0 rfl) ?_
  refine lv_if_lt hx hb (x := (-1)) (tgt := 125) dX8_bestByBranches_28 (by decide) (fun c_28 => ?_) (fun c_28 => ?_)
  · refine lv_lload_n hx hb dX8_bestByBranches_125 rfl (lv_at hl 1 rfl) ?_
    have hW : CxB D [(t0, .inr (11, [.ref t1, .ref t2, .ref t3, .ref t4, .ref t5, .ref t6])), (t1, .inl (aT 0, 12, .inl r1)), (t2, .inl (aT 0, 12, .inl r2)), (t3, .inl (aT 0, 12, .inl r3)), (t4, .inl (aT 0, 12, .inl r4)), (t5, .inl (aT 2, 12, .inr (.inl g_5))), (t6, .inl (aT 2, 12, .inr (.inl g_13))), (a5, .inr (8, [.ref a6, .ref a7, .ref a8, .ref a9, .int (nI 0), .int (nI 0)])), (a6, .inl (aT 0, 12, .inl (fun _ => nI 0))), (a7, .inl (aT 0, 12, .inl (fun _ => nI 0))), (a8, .inl (aT 0, 12, .inl (fun _ => nI 0))), (a9, .inl (aT 0, 12, .inl (fun _ => nI 0)))] A s.heap H locs := cx_drop hW [0, 1, 2, 3, 4, 10, 11, 5, 6, 7, 8, 9] rfl (by decide)
    exact cx_lret C hr hlocks hW ⟨Nat.le_of_ble_eq_true rfl, Nat.le_of_ble_eq_true rfl⟩ (⟨rfl, _, _, _, _, _, _, rfl⟩) dX8_bestByBranches_126
  · exact absurd (by decide) c_28
theorem dX8_isGood_0 : decode cX8_isGood 0 = .ok (.iconst 0, 1) := by decide +kernel
theorem dX8_isGood_1 : decode cX8_isGood 1 = .ok (.istore_n 2, 1) := by decide +kernel
theorem dX8_isGood_2 : decode cX8_isGood 2 = .ok (.iload_n 2, 1) := by decide +kernel
theorem dX8_isGood_3 : decode cX8_isGood 3 = .ok (.aload_n 0, 1) := by decide +kernel
theorem dX8_isGood_4 : decode cX8_isGood 4 = .ok (.getfield 50, 3) := by decide +kernel
theorem dX8_isGood_7 : decode cX8_isGood 7 = .ok (.if_icmp .ge 40, 3) := by decide +kernel
theorem dX8_isGood_10 : decode cX8_isGood 10 = .ok (.aload_n 0, 1) := by decide +kernel
theorem dX8_isGood_11 : decode cX8_isGood 11 = .ok (.getfield 37, 3) := by decide +kernel
theorem dX8_isGood_14 : decode cX8_isGood 14 = .ok (.iload_n 2, 1) := by decide +kernel
theorem dX8_isGood_15 : decode cX8_isGood 15 = .ok (.iaload, 1) := by decide +kernel
theorem dX8_isGood_16 : decode cX8_isGood 16 = .ok (.istore_n 3, 1) := by decide +kernel
theorem dX8_isGood_17 : decode cX8_isGood 17 = .ok (.iload_n 3, 1) := by decide +kernel
theorem dX8_isGood_18 : decode cX8_isGood 18 = .ok (.ifCond .lt 23, 3) := by decide +kernel
theorem dX8_isGood_21 : decode cX8_isGood 21 = .ok (.iload_n 1, 1) := by decide +kernel
theorem dX8_isGood_22 : decode cX8_isGood 22 = .ok (.iload_n 2, 1) := by decide +kernel
theorem dX8_isGood_23 : decode cX8_isGood 23 = .ok (.ishr, 1) := by decide +kernel
theorem dX8_isGood_24 : decode cX8_isGood 24 = .ok (.iconst 1, 1) := by decide +kernel
theorem dX8_isGood_25 : decode cX8_isGood 25 = .ok (.iand, 1) := by decide +kernel
theorem dX8_isGood_26 : decode cX8_isGood 26 = .ok (.iconst 1, 1) := by decide +kernel
theorem dX8_isGood_27 : decode cX8_isGood 27 = .ok (.if_icmp .ne 14, 3) := by decide +kernel
theorem dX8_isGood_30 : decode cX8_isGood 30 = .ok (.iload_n 1, 1) := by decide +kernel
theorem dX8_isGood_31 : decode cX8_isGood 31 = .ok (.iload_n 3, 1) := by decide +kernel
theorem dX8_isGood_32 : decode cX8_isGood 32 = .ok (.ishr, 1) := by decide +kernel
theorem dX8_isGood_33 : decode cX8_isGood 33 = .ok (.iconst 1, 1) := by decide +kernel
theorem dX8_isGood_34 : decode cX8_isGood 34 = .ok (.iand, 1) := by decide +kernel
theorem dX8_isGood_35 : decode cX8_isGood 35 = .ok (.iconst 1, 1) := by decide +kernel
theorem dX8_isGood_36 : decode cX8_isGood 36 = .ok (.if_icmp .ne 5, 3) := by decide +kernel
theorem dX8_isGood_39 : decode cX8_isGood 39 = .ok (.iconst 0, 1) := by decide +kernel
theorem dX8_isGood_40 : decode cX8_isGood 40 = .ok (.ireturn, 1) := by decide +kernel
theorem dX8_isGood_41 : decode cX8_isGood 41 = .ok (.iinc 2 1, 3) := by decide +kernel
theorem dX8_isGood_44 : decode cX8_isGood 44 = .ok (.goto (-42), 3) := by decide +kernel
theorem dX8_isGood_47 : decode cX8_isGood 47 = .ok (.iconst 1, 1) := by decide +kernel
theorem dX8_isGood_48 : decode cX8_isGood 48 = .ok (.ireturn, 1) := by decide +kernel
set_option maxHeartbeats 2000000 in
set_option maxRecDepth 20000 in
theorem k_X8_isGood (l : Launch) (hfl : l.stackTraces = false) (D : va_G) (aT : Nat → ClassId) (a5 : Nat) (a6 : Nat) (a7 : Nat) (a8 : Nat) (a9 : Nat) : CxG l yX8_isGood cX8_isGood 4 (some (.boolean)) 0 0 0 0 D aT [.ref a5, .int (nI 0)] [(a5, .inr (8, [.ref a6, .ref a7, .ref a8, .ref a9, .int (nI 0), .int (nI 0)])), (a6, .inl (aT 0, 12, .inl (fun _ => nI 0))), (a7, .inl (aT 0, 12, .inl (fun _ => nI 0))), (a8, .inl (aT 0, 12, .inl (fun _ => nI 0))), (a9, .inl (aT 0, 12, .inl (fun _ => nI 0)))] (qI D aT (fun r W1 => r = (nI 1) ∧ W1 = [(a5, .inr (8, [.ref a6, .ref a7, .ref a8, .ref a9, .int (nI 0), .int (nI 0)])), (a6, .inl (aT 0, 12, .inl (fun _ => nI 0))), (a7, .inl (aT 0, 12, .inl (fun _ => nI 0))), (a8, .inl (aT 0, 12, .inl (fun _ => nI 0))), (a9, .inl (aT 0, 12, .inl (fun _ => nI 0)))])) (fun _ => False) := by
  refine CxG.of RX8 (by decide +kernel) rfl (Nat.le_of_ble_eq_true rfl) ?_
  intro p e s m below meth c A ls C hml hl hA hr hlocks hex hnm hZ hW
  have hl : lv_has ls 4 [(0, .ref a5), (1, .int (nI 0))] := hl
  have hx := C.1
  have hb := C.2.1
  refine lv_iconst (v := nI 0) hx hb dX8_isGood_0 (by decide) ?_
  refine lv_istore_n (lv' := [(2, .int (nI 0)), (0, .ref a5), (1, .int (nI 0))]) hx hb dX8_isGood_1 rfl hl (by decide) rfl (fun ls hl => ?_)
  refine lv_iload_n hx hb dX8_isGood_2 rfl (lv_at hl 0 rfl) ?_
  refine lv_aload_n hx hb dX8_isGood_3 rfl (lv_at hl 1 rfl) ?_
  refine cx_getN C hZ hW 0 4 rfl rfl (by decide) inX5 nw_162 rfl rfl dX8_isGood_4 ?_
  refine lv_icmp_ge hx hb (x := (nI 0)) (y := (nI 0)) (tgt := 47) dX8_isGood_7 (by decide) (fun c_7 => ?_) (fun c_7 => ?_)
  · refine lv_iconst (v := nI 1) hx hb dX8_isGood_47 (by decide) ?_
    exact cx_iret C hr hlocks (by decide) hW ⟨Nat.le_of_ble_eq_true rfl, Nat.le_of_ble_eq_true rfl⟩ (⟨rfl, rfl⟩) dX8_isGood_48
  · exact absurd (by decide) c_7
theorem dX8_worthOf_0 : decode cX8_worthOf 0 = .ok (.lconst 0, 1) := by decide +kernel
theorem dX8_worthOf_1 : decode cX8_worthOf 1 = .ok (.lstore_n 2, 1) := by decide +kernel
theorem dX8_worthOf_2 : decode cX8_worthOf 2 = .ok (.iconst 0, 1) := by decide +kernel
theorem dX8_worthOf_3 : decode cX8_worthOf 3 = .ok (.istore 4, 2) := by decide +kernel
theorem dX8_worthOf_5 : decode cX8_worthOf 5 = .ok (.iload 4, 2) := by decide +kernel
theorem dX8_worthOf_7 : decode cX8_worthOf 7 = .ok (.aload_n 0, 1) := by decide +kernel
theorem dX8_worthOf_8 : decode cX8_worthOf 8 = .ok (.getfield 50, 3) := by decide +kernel
theorem dX8_worthOf_11 : decode cX8_worthOf 11 = .ok (.if_icmp .ge 30, 3) := by decide +kernel
theorem dX8_worthOf_14 : decode cX8_worthOf 14 = .ok (.iload_n 1, 1) := by decide +kernel
theorem dX8_worthOf_15 : decode cX8_worthOf 15 = .ok (.iload 4, 2) := by decide +kernel
theorem dX8_worthOf_17 : decode cX8_worthOf 17 = .ok (.ishr, 1) := by decide +kernel
theorem dX8_worthOf_18 : decode cX8_worthOf 18 = .ok (.iconst 1, 1) := by decide +kernel
theorem dX8_worthOf_19 : decode cX8_worthOf 19 = .ok (.iand, 1) := by decide +kernel
theorem dX8_worthOf_20 : decode cX8_worthOf 20 = .ok (.iconst 1, 1) := by decide +kernel
theorem dX8_worthOf_21 : decode cX8_worthOf 21 = .ok (.if_icmp .ne 14, 3) := by decide +kernel
theorem dX8_worthOf_24 : decode cX8_worthOf 24 = .ok (.lload_n 2, 1) := by decide +kernel
theorem dX8_worthOf_25 : decode cX8_worthOf 25 = .ok (.aload_n 0, 1) := by decide +kernel
theorem dX8_worthOf_26 : decode cX8_worthOf 26 = .ok (.getfield 71, 3) := by decide +kernel
theorem dX8_worthOf_29 : decode cX8_worthOf 29 = .ok (.iload 4, 2) := by decide +kernel
theorem dX8_worthOf_31 : decode cX8_worthOf 31 = .ok (.iaload, 1) := by decide +kernel
theorem dX8_worthOf_32 : decode cX8_worthOf 32 = .ok (.i2l, 1) := by decide +kernel
theorem dX8_worthOf_33 : decode cX8_worthOf 33 = .ok (.ladd, 1) := by decide +kernel
theorem dX8_worthOf_34 : decode cX8_worthOf 34 = .ok (.lstore_n 2, 1) := by decide +kernel
theorem dX8_worthOf_35 : decode cX8_worthOf 35 = .ok (.iinc 4 1, 3) := by decide +kernel
theorem dX8_worthOf_38 : decode cX8_worthOf 38 = .ok (.goto (-33), 3) := by decide +kernel
theorem dX8_worthOf_41 : decode cX8_worthOf 41 = .ok (.lload_n 2, 1) := by decide +kernel
theorem dX8_worthOf_42 : decode cX8_worthOf 42 = .ok (.lreturn, 1) := by decide +kernel
set_option maxHeartbeats 2000000 in
set_option maxRecDepth 20000 in
theorem k_X8_worthOf (l : Launch) (hfl : l.stackTraces = false) (D : va_G) (aT : Nat → ClassId) (a5 : Nat) (a6 : Nat) (a7 : Nat) (a8 : Nat) (a9 : Nat) : CxG l yX8_worthOf cX8_worthOf 5 (some (.long)) 0 0 0 0 D aT [.ref a5, .int (nI 0)] [(a5, .inr (8, [.ref a6, .ref a7, .ref a8, .ref a9, .int (nI 0), .int (nI 0)])), (a6, .inl (aT 0, 12, .inl (fun _ => nI 0))), (a7, .inl (aT 0, 12, .inl (fun _ => nI 0))), (a8, .inl (aT 0, 12, .inl (fun _ => nI 0))), (a9, .inl (aT 0, 12, .inl (fun _ => nI 0)))] (qL D aT (fun r W1 => r = 0 ∧ W1 = [(a5, .inr (8, [.ref a6, .ref a7, .ref a8, .ref a9, .int (nI 0), .int (nI 0)])), (a6, .inl (aT 0, 12, .inl (fun _ => nI 0))), (a7, .inl (aT 0, 12, .inl (fun _ => nI 0))), (a8, .inl (aT 0, 12, .inl (fun _ => nI 0))), (a9, .inl (aT 0, 12, .inl (fun _ => nI 0)))])) (fun _ => False) := by
  refine CxG.of RX8 (by decide +kernel) rfl (Nat.le_of_ble_eq_true rfl) ?_
  intro p e s m below meth c A ls C hml hl hA hr hlocks hex hnm hZ hW
  have hl : lv_has ls 5 [(0, .ref a5), (1, .int (nI 0))] := hl
  have hx := C.1
  have hb := C.2.1
  refine lv_lconst (v := 0) hx hb dX8_worthOf_0 (by decide) ?_
  refine lv_lstore_n (lv' := [(2, .long 0), (0, .ref a5), (1, .int (nI 0))]) hx hb dX8_worthOf_1 rfl hl (by decide) rfl (fun ls hl => ?_)
  refine lv_iconst (v := nI 0) hx hb dX8_worthOf_2 (by decide) ?_
  refine lv_istore (lv' := [(4, .int (nI 0)), (2, .long 0), (0, .ref a5), (1, .int (nI 0))]) hx hb dX8_worthOf_3 hl (by decide) rfl (fun ls hl => ?_)
  refine lv_iload hx hb dX8_worthOf_5 (lv_at hl 0 rfl) ?_
  refine lv_aload_n hx hb dX8_worthOf_7 rfl (lv_at hl 2 rfl) ?_
  refine cx_getN C hZ hW 0 4 rfl rfl (by decide) inX5 nw_162 rfl rfl dX8_worthOf_8 ?_
  refine lv_icmp_ge hx hb (x := (nI 0)) (y := (nI 0)) (tgt := 41) dX8_worthOf_11 (by decide) (fun c_11 => ?_) (fun c_11 => ?_)
  · refine lv_lload_n hx hb dX8_worthOf_41 rfl (lv_at hl 1 rfl) ?_
    exact cx_lret C hr hlocks hW ⟨Nat.le_of_ble_eq_true rfl, Nat.le_of_ble_eq_true rfl⟩ (⟨rfl, rfl⟩) dX8_worthOf_42
  · exact absurd (by decide) c_11
theorem dX8_bestBySets_0 : decode cX8_bestBySets 0 = .ok (.lconst 0, 1) := by decide +kernel
theorem dX8_bestBySets_1 : decode cX8_bestBySets 1 = .ok (.lstore_n 2, 1) := by decide +kernel
theorem dX8_bestBySets_2 : decode cX8_bestBySets 2 = .ok (.iconst 1, 1) := by decide +kernel
theorem dX8_bestBySets_3 : decode cX8_bestBySets 3 = .ok (.aload_n 1, 1) := by decide +kernel
theorem dX8_bestBySets_4 : decode cX8_bestBySets 4 = .ok (.getfield 50, 3) := by decide +kernel
theorem dX8_bestBySets_7 : decode cX8_bestBySets 7 = .ok (.ishl, 1) := by decide +kernel
theorem dX8_bestBySets_8 : decode cX8_bestBySets 8 = .ok (.istore 4, 2) := by decide +kernel
theorem dX8_bestBySets_10 : decode cX8_bestBySets 10 = .ok (.iconst 0, 1) := by decide +kernel
theorem dX8_bestBySets_11 : decode cX8_bestBySets 11 = .ok (.istore 5, 2) := by decide +kernel
theorem dX8_bestBySets_13 : decode cX8_bestBySets 13 = .ok (.iload 5, 2) := by decide +kernel
theorem dX8_bestBySets_15 : decode cX8_bestBySets 15 = .ok (.iload 4, 2) := by decide +kernel
theorem dX8_bestBySets_17 : decode cX8_bestBySets 17 = .ok (.if_icmp .ge 29, 3) := by decide +kernel
theorem dX8_bestBySets_20 : decode cX8_bestBySets 20 = .ok (.aload_n 1, 1) := by decide +kernel
theorem dX8_bestBySets_21 : decode cX8_bestBySets 21 = .ok (.iload 5, 2) := by decide +kernel
theorem dX8_bestBySets_23 : decode cX8_bestBySets 23 = .ok (.invokestatic 77, 3) := by decide +kernel
theorem dX8_bestBySets_26 : decode cX8_bestBySets 26 = .ok (.ifCond .eq 14, 3) := by decide +kernel
theorem dX8_bestBySets_29 : decode cX8_bestBySets 29 = .ok (.lload_n 2, 1) := by decide +kernel
theorem dX8_bestBySets_30 : decode cX8_bestBySets 30 = .ok (.aload_n 1, 1) := by decide +kernel
theorem dX8_bestBySets_31 : decode cX8_bestBySets 31 = .ok (.iload 5, 2) := by decide +kernel
theorem dX8_bestBySets_33 : decode cX8_bestBySets 33 = .ok (.invokestatic 81, 3) := by decide +kernel
theorem dX8_bestBySets_36 : decode cX8_bestBySets 36 = .ok (.invokestatic 74, 3) := by decide +kernel
theorem dX8_bestBySets_39 : decode cX8_bestBySets 39 = .ok (.lstore_n 2, 1) := by decide +kernel
theorem dX8_bestBySets_40 : decode cX8_bestBySets 40 = .ok (.iinc 5 1, 3) := by decide +kernel
theorem dX8_bestBySets_43 : decode cX8_bestBySets 43 = .ok (.goto (-30), 3) := by decide +kernel
theorem dX8_bestBySets_46 : decode cX8_bestBySets 46 = .ok (.lload_n 2, 1) := by decide +kernel
theorem dX8_bestBySets_47 : decode cX8_bestBySets 47 = .ok (.lreturn, 1) := by decide +kernel
theorem gS_X8_X8_isGood_77 : GoodIn gw (va_wsS RX8 77 yX8_isGood (Cond.code yX8_isGood cX8_isGood 4 (some .boolean) :: gw)) := gdS2 gw_453 gw_454 gw_72 gw_455
theorem hS_X8_isGood : yX8_isGood.cls ≠ "java/lang/invoke/MethodHandle" ∧ yX8_isGood.cls ≠ "java/lang/invoke/VarHandle" ∧ (parseMethodDescriptor yX8_isGood.desc).map (fun d => d.parameters.length) = some 2 := ⟨by decide +kernel, by decide +kernel, by decide +kernel⟩
theorem gS_X8_X8_worthOf_81 : GoodIn gw (va_wsS RX8 81 yX8_worthOf (Cond.code yX8_worthOf cX8_worthOf 5 (some .long) :: gw)) := gdS2 gw_456 gw_457 gw_72 gw_458
theorem hS_X8_worthOf : yX8_worthOf.cls ≠ "java/lang/invoke/MethodHandle" ∧ yX8_worthOf.cls ≠ "java/lang/invoke/VarHandle" ∧ (parseMethodDescriptor yX8_worthOf.desc).map (fun d => d.parameters.length) = some 2 := ⟨by decide +kernel, by decide +kernel, by decide +kernel⟩
set_option maxHeartbeats 2000000 in
set_option maxRecDepth 20000 in
theorem k_X8_bestBySets (l : Launch) (hfl : l.stackTraces = false) (D : va_G) (aT : Nat → ClassId) (t0 : Nat) (t1 : Nat) (t2 : Nat) (t3 : Nat) (t4 : Nat) (t5 : Nat) (t6 : Nat) (r1 : Nat → Int32) (r2 : Nat → Int32) (r3 : Nat → Int32) (r4 : Nat → Int32) (r5 : Nat → Int64) (r6 : Nat → Int64) (a5 : Nat) (a6 : Nat) (a7 : Nat) (a8 : Nat) (a9 : Nat) : CxG l yX8_bestBySets cX8_bestBySets 6 (some (.long)) 1 0 0 40 D aT [.ref t0, .ref a5] [(t0, .inr (11, [.ref t1, .ref t2, .ref t3, .ref t4, .ref t5, .ref t6])), (t1, .inl (aT 0, 12, .inl r1)), (t2, .inl (aT 0, 12, .inl r2)), (t3, .inl (aT 0, 12, .inl r3)), (t4, .inl (aT 0, 12, .inl r4)), (t5, .inl (aT 2, 12, .inr (.inl r5))), (t6, .inl (aT 2, 12, .inr (.inl r6))), (a5, .inr (8, [.ref a6, .ref a7, .ref a8, .ref a9, .int (nI 0), .int (nI 0)])), (a6, .inl (aT 0, 12, .inl (fun _ => nI 0))), (a7, .inl (aT 0, 12, .inl (fun _ => nI 0))), (a8, .inl (aT 0, 12, .inl (fun _ => nI 0))), (a9, .inl (aT 0, 12, .inl (fun _ => nI 0)))] (qL D aT (fun r W1 => r = 0 ∧ ∃ g1 g2 g3 g4 : Nat → Int32, ∃ g5 g6 : Nat → Int64, W1 = [(t0, .inr (11, [.ref t1, .ref t2, .ref t3, .ref t4, .ref t5, .ref t6])), (t1, .inl (aT 0, 12, .inl g1)), (t2, .inl (aT 0, 12, .inl g2)), (t3, .inl (aT 0, 12, .inl g3)), (t4, .inl (aT 0, 12, .inl g4)), (t5, .inl (aT 2, 12, .inr (.inl g5))), (t6, .inl (aT 2, 12, .inr (.inl g6))), (a5, .inr (8, [.ref a6, .ref a7, .ref a8, .ref a9, .int (nI 0), .int (nI 0)])), (a6, .inl (aT 0, 12, .inl (fun _ => nI 0))), (a7, .inl (aT 0, 12, .inl (fun _ => nI 0))), (a8, .inl (aT 0, 12, .inl (fun _ => nI 0))), (a9, .inl (aT 0, 12, .inl (fun _ => nI 0)))])) (fun _ => False) := by
  refine CxG.of RX8 (by decide +kernel) rfl (Nat.le_of_ble_eq_true rfl) ?_
  intro p e s m below meth c A ls C hml hl hA hr hlocks hex hnm hZ hW
  have hl : lv_has ls 6 [(0, .ref t0), (1, .ref a5)] := hl
  have hx := C.1
  have hb := C.2.1
  refine lv_lconst (v := 0) hx hb dX8_bestBySets_0 (by decide) ?_
  refine lv_lstore_n (lv' := [(2, .long 0), (0, .ref t0), (1, .ref a5)]) hx hb dX8_bestBySets_1 rfl hl (by decide) rfl (fun ls hl => ?_)
  refine lv_iconst (v := nI 1) hx hb dX8_bestBySets_2 (by decide) ?_
  refine lv_aload_n hx hb dX8_bestBySets_3 rfl (lv_at hl 2 rfl) ?_
  refine cx_getN C hZ hW 7 4 rfl rfl (by decide) inX5 nw_162 rfl rfl dX8_bestBySets_4 ?_
  refine lv_ishl hx hb dX8_bestBySets_7 ?_
  refine r_eq (y := nI 1) (by decide) ?_
  refine lv_istore (lv' := [(4, .int (nI 1)), (2, .long 0), (0, .ref t0), (1, .ref a5)]) hx hb dX8_bestBySets_8 hl (by decide) rfl (fun ls hl => ?_)
  refine lv_iconst (v := nI 0) hx hb dX8_bestBySets_10 (by decide) ?_
  refine lv_istore (lv' := [(5, .int (nI 0)), (4, .int (nI 1)), (2, .long 0), (0, .ref t0), (1, .ref a5)]) hx hb dX8_bestBySets_11 hl (by decide) rfl (fun ls hl => ?_)
  refine lv_iload hx hb dX8_bestBySets_13 (lv_at hl 0 rfl) ?_
  refine lv_iload hx hb dX8_bestBySets_15 (lv_at hl 1 rfl) ?_
  refine lv_icmp_ge hx hb (x := (nI 0)) (y := (nI 1)) (tgt := 46) dX8_bestBySets_17 (by decide) (fun c_17 => ?_) (fun c_17 => ?_)
  · exact absurd c_17 (by decide)
  · refine lv_aload_n hx hb dX8_bestBySets_20 rfl (lv_at hl 4 rfl) ?_
    refine lv_iload hx hb dX8_bestBySets_21 (lv_at hl 0 rfl) ?_
    refine cx_calli (Wr := [(t0, .inr (11, [.ref t1, .ref t2, .ref t3, .ref t4, .ref t5, .ref t6])), (t1, .inl (aT 0, 12, .inl r1)), (t2, .inl (aT 0, 12, .inl r2)), (t3, .inl (aT 0, 12, .inl r3)), (t4, .inl (aT 0, 12, .inl r4)), (t5, .inl (aT 2, 12, .inr (.inl r5))), (t6, .inl (aT 2, 12, .inr (.inl r6)))]) (cx_runS C hml hl.1 hZ hW hA (As := [.ref a5, .int (nI 0)]) (rest := []) (k_X8_isGood l hfl D aT a5 a6 a7 a8 a9) gS_X8_X8_isGood_77 hS_X8_isGood rfl ⟨Nat.le_of_ble_eq_true rfl, Nat.le_of_ble_eq_true rfl⟩ ⟨Nat.le_of_ble_eq_true rfl, Nat.le_of_ble_eq_true rfl⟩ [7, 8, 9, 10, 11] rfl (by decide) rfl (Nat.le_of_ble_eq_true rfl) dX8_bestBySets_23) hW hA [7, 8, 9, 10, 11] [0, 1, 2, 3, 4, 5, 6] rfl rfl (by decide) (by decide) (fun _ _ _ _ _ h9 => h9.elim) (fun r_23 W_23 H locs hq hW => ?_)
    obtain ⟨rfl, rfl⟩ := hq
    have hW : CxB D [(t0, .inr (11, [.ref t1, .ref t2, .ref t3, .ref t4, .ref t5, .ref t6])), (t1, .inl (aT 0, 12, .inl r1)), (t2, .inl (aT 0, 12, .inl r2)), (t3, .inl (aT 0, 12, .inl r3)), (t4, .inl (aT 0, 12, .inl r4)), (t5, .inl (aT 2, 12, .inr (.inl r5))), (t6, .inl (aT 2, 12, .inr (.inl r6))), (a5, .inr (8, [.ref a6, .ref a7, .ref a8, .ref a9, .int (nI 0), .int (nI 0)])), (a6, .inl (aT 0, 12, .inl (fun _ => nI 0))), (a7, .inl (aT 0, 12, .inl (fun _ => nI 0))), (a8, .inl (aT 0, 12, .inl (fun _ => nI 0))), (a9, .inl (aT 0, 12, .inl (fun _ => nI 0)))] A s.heap H _ := hW
    refine lv_if_eq hx hb (x := (nI 1)) (tgt := 40) dX8_bestBySets_26 (by decide) (fun c_26 => ?_) (fun c_26 => ?_)
    · exact absurd c_26 (by decide)
    · refine lv_lload_n hx hb dX8_bestBySets_29 rfl (lv_at hl 2 rfl) ?_
      refine lv_aload_n hx hb dX8_bestBySets_30 rfl (lv_at hl 4 rfl) ?_
      refine lv_iload hx hb dX8_bestBySets_31 (lv_at hl 0 rfl) ?_
      refine cx_calll (Wr := [(t0, .inr (11, [.ref t1, .ref t2, .ref t3, .ref t4, .ref t5, .ref t6])), (t1, .inl (aT 0, 12, .inl r1)), (t2, .inl (aT 0, 12, .inl r2)), (t3, .inl (aT 0, 12, .inl r3)), (t4, .inl (aT 0, 12, .inl r4)), (t5, .inl (aT 2, 12, .inr (.inl r5))), (t6, .inl (aT 2, 12, .inr (.inl r6)))]) (cx_runS C hml hl.1 hZ hW hA (As := [.ref a5, .int (nI 0)]) (rest := [.long 0]) (k_X8_worthOf l hfl D aT a5 a6 a7 a8 a9) gS_X8_X8_worthOf_81 hS_X8_worthOf rfl ⟨Nat.le_of_ble_eq_true rfl, Nat.le_of_ble_eq_true rfl⟩ ⟨Nat.le_of_ble_eq_true rfl, Nat.le_of_ble_eq_true rfl⟩ [7, 8, 9, 10, 11] rfl (by decide) rfl (Nat.le_of_ble_eq_true rfl) dX8_bestBySets_33) hW hA [7, 8, 9, 10, 11] [0, 1, 2, 3, 4, 5, 6] rfl rfl (by decide) (by decide) (fun _ _ _ _ _ h9 => h9.elim) (fun r_33 W_33 H locs hq hW => ?_)
      obtain ⟨rfl, rfl⟩ := hq
      have hW : CxB D [(t0, .inr (11, [.ref t1, .ref t2, .ref t3, .ref t4, .ref t5, .ref t6])), (t1, .inl (aT 0, 12, .inl r1)), (t2, .inl (aT 0, 12, .inl r2)), (t3, .inl (aT 0, 12, .inl r3)), (t4, .inl (aT 0, 12, .inl r4)), (t5, .inl (aT 2, 12, .inr (.inl r5))), (t6, .inl (aT 2, 12, .inr (.inl r6))), (a5, .inr (8, [.ref a6, .ref a7, .ref a8, .ref a9, .int (nI 0), .int (nI 0)])), (a6, .inl (aT 0, 12, .inl (fun _ => nI 0))), (a7, .inl (aT 0, 12, .inl (fun _ => nI 0))), (a8, .inl (aT 0, 12, .inl (fun _ => nI 0))), (a9, .inl (aT 0, 12, .inl (fun _ => nI 0)))] A s.heap H _ := hW
      refine va_mmax_long hx hb (hml.trans hl.1.symm) C.2.2.2.1 (C.2.2.1 _ gw_442) (C.2.2.1 _ gw_443) (C.2.2.1 _ gw_89) (C.2.2.1 _ gm_maxl) (Nat.le_of_ble_eq_true rfl) (Nat.le_of_ble_eq_true rfl) (Nat.le_of_ble_eq_true rfl) (Nat.le_of_ble_eq_true rfl) dX8_bestBySets_36 ?_
      refine lv_lstore_n (lv' := [(2, .long (if (0:Int64) < 0 then (0:Int64) else 0)), (5, .int (nI 0)), (4, .int (nI 1)), (0, .ref t0), (1, .ref a5)]) hx hb dX8_bestBySets_39 rfl hl (by decide) rfl (fun ls hl => ?_)
      refine lv_iinc (v := (nI 1)) (lv' := [(5, .int (nI 1)), (2, .long (if (0:Int64) < 0 then (0:Int64) else 0)), (4, .int (nI 1)), (0, .ref t0), (1, .ref a5)]) hx hb dX8_bestBySets_40 hl (k := 1) rfl rfl (by decide) rfl (fun ls hl => ?_)
      refine lv_goto (tgt := 13) hx hb dX8_bestBySets_43 (by decide) ?_
      refine lv_iload hx hb dX8_bestBySets_13 (lv_at hl 0 rfl) ?_
      refine lv_iload hx hb dX8_bestBySets_15 (lv_at hl 2 rfl) ?_
      refine lv_icmp_ge hx hb (x := (nI 1)) (y := (nI 1)) (tgt := 46) dX8_bestBySets_17 (by decide) (fun c_17 => ?_) (fun c_17 => ?_)
      · refine lv_lload_n hx hb dX8_bestBySets_46 rfl (lv_at hl 1 rfl) ?_
        exact cx_lret C hr hlocks hW ⟨Nat.le_of_ble_eq_true rfl, Nat.le_of_ble_eq_true rfl⟩ (⟨by decide, _, _, _, _, _, _, rfl⟩) dX8_bestBySets_47
      · exact absurd (by decide) c_17
theorem dX8_countGoodSets_0 : decode cX8_countGoodSets 0 = .ok (.aload_n 0, 1) := by decide +kernel
theorem dX8_countGoodSets_1 : decode cX8_countGoodSets 1 = .ok (.getfield 24, 3) := by decide +kernel
theorem dX8_countGoodSets_4 : decode cX8_countGoodSets 4 = .ok (.lconst 1, 1) := by decide +kernel
theorem dX8_countGoodSets_5 : decode cX8_countGoodSets 5 = .ok (.invokestatic 68, 3) := by decide +kernel
theorem dX8_countGoodSets_8 : decode cX8_countGoodSets 8 = .ok (.aload_n 0, 1) := by decide +kernel
theorem dX8_countGoodSets_9 : decode cX8_countGoodSets 9 = .ok (.getfield 28, 3) := by decide +kernel
theorem dX8_countGoodSets_12 : decode cX8_countGoodSets 12 = .ok (.lconst 1, 1) := by decide +kernel
theorem dX8_countGoodSets_13 : decode cX8_countGoodSets 13 = .ok (.invokestatic 68, 3) := by decide +kernel
theorem dX8_countGoodSets_16 : decode cX8_countGoodSets 16 = .ok (.lconst 1, 1) := by decide +kernel
theorem dX8_countGoodSets_17 : decode cX8_countGoodSets 17 = .ok (.lstore_n 2, 1) := by decide +kernel
theorem dX8_countGoodSets_18 : decode cX8_countGoodSets 18 = .ok (.aload_n 1, 1) := by decide +kernel
theorem dX8_countGoodSets_19 : decode cX8_countGoodSets 19 = .ok (.getfield 50, 3) := by decide +kernel
theorem dX8_countGoodSets_22 : decode cX8_countGoodSets 22 = .ok (.iconst 1, 1) := by decide +kernel
theorem dX8_countGoodSets_23 : decode cX8_countGoodSets 23 = .ok (.isub, 1) := by decide +kernel
theorem dX8_countGoodSets_24 : decode cX8_countGoodSets 24 = .ok (.istore 4, 2) := by decide +kernel
theorem dX8_countGoodSets_26 : decode cX8_countGoodSets 26 = .ok (.iload 4, 2) := by decide +kernel
theorem dX8_countGoodSets_28 : decode cX8_countGoodSets 28 = .ok (.ifCond .lt 77, 3) := by decide +kernel
theorem dX8_countGoodSets_31 : decode cX8_countGoodSets 31 = .ok (.aload_n 1, 1) := by decide +kernel
theorem dX8_countGoodSets_32 : decode cX8_countGoodSets 32 = .ok (.getfield 37, 3) := by decide +kernel
theorem dX8_countGoodSets_35 : decode cX8_countGoodSets 35 = .ok (.iload 4, 2) := by decide +kernel
theorem dX8_countGoodSets_37 : decode cX8_countGoodSets 37 = .ok (.iaload, 1) := by decide +kernel
theorem dX8_countGoodSets_38 : decode cX8_countGoodSets 38 = .ok (.istore 5, 2) := by decide +kernel
theorem dX8_countGoodSets_40 : decode cX8_countGoodSets 40 = .ok (.aload_n 0, 1) := by decide +kernel
theorem dX8_countGoodSets_41 : decode cX8_countGoodSets 41 = .ok (.getfield 24, 3) := by decide +kernel
theorem dX8_countGoodSets_44 : decode cX8_countGoodSets 44 = .ok (.iload 4, 2) := by decide +kernel
theorem dX8_countGoodSets_46 : decode cX8_countGoodSets 46 = .ok (.laload, 1) := by decide +kernel
theorem dX8_countGoodSets_47 : decode cX8_countGoodSets 47 = .ok (.aload_n 0, 1) := by decide +kernel
theorem dX8_countGoodSets_48 : decode cX8_countGoodSets 48 = .ok (.getfield 28, 3) := by decide +kernel
theorem dX8_countGoodSets_51 : decode cX8_countGoodSets 51 = .ok (.iload 4, 2) := by decide +kernel
theorem dX8_countGoodSets_53 : decode cX8_countGoodSets 53 = .ok (.laload, 1) := by decide +kernel
theorem dX8_countGoodSets_54 : decode cX8_countGoodSets 54 = .ok (.ladd, 1) := by decide +kernel
theorem dX8_countGoodSets_55 : decode cX8_countGoodSets 55 = .ok (.lstore 6, 2) := by decide +kernel
theorem dX8_countGoodSets_57 : decode cX8_countGoodSets 57 = .ok (.iload 5, 2) := by decide +kernel
theorem dX8_countGoodSets_59 : decode cX8_countGoodSets 59 = .ok (.ifCond .lt 35, 3) := by decide +kernel
theorem dX8_countGoodSets_62 : decode cX8_countGoodSets 62 = .ok (.aload_n 0, 1) := by decide +kernel
theorem dX8_countGoodSets_63 : decode cX8_countGoodSets 63 = .ok (.getfield 24, 3) := by decide +kernel
theorem dX8_countGoodSets_66 : decode cX8_countGoodSets 66 = .ok (.iload 5, 2) := by decide +kernel
theorem dX8_countGoodSets_68 : decode cX8_countGoodSets 68 = .ok (.dup2, 1) := by decide +kernel
theorem dX8_countGoodSets_69 : decode cX8_countGoodSets 69 = .ok (.laload, 1) := by decide +kernel
theorem dX8_countGoodSets_70 : decode cX8_countGoodSets 70 = .ok (.aload_n 0, 1) := by decide +kernel
theorem dX8_countGoodSets_71 : decode cX8_countGoodSets 71 = .ok (.getfield 28, 3) := by decide +kernel
theorem dX8_countGoodSets_74 : decode cX8_countGoodSets 74 = .ok (.iload 4, 2) := by decide +kernel
theorem dX8_countGoodSets_76 : decode cX8_countGoodSets 76 = .ok (.laload, 1) := by decide +kernel
theorem dX8_countGoodSets_77 : decode cX8_countGoodSets 77 = .ok (.lmul, 1) := by decide +kernel
theorem dX8_countGoodSets_78 : decode cX8_countGoodSets 78 = .ok (.lastore, 1) := by decide +kernel
theorem dX8_countGoodSets_79 : decode cX8_countGoodSets 79 = .ok (.aload_n 0, 1) := by decide +kernel
theorem dX8_countGoodSets_80 : decode cX8_countGoodSets 80 = .ok (.getfield 28, 3) := by decide +kernel
theorem dX8_countGoodSets_83 : decode cX8_countGoodSets 83 = .ok (.iload 5, 2) := by decide +kernel
theorem dX8_countGoodSets_85 : decode cX8_countGoodSets 85 = .ok (.dup2, 1) := by decide +kernel
theorem dX8_countGoodSets_86 : decode cX8_countGoodSets 86 = .ok (.laload, 1) := by decide +kernel
theorem dX8_countGoodSets_87 : decode cX8_countGoodSets 87 = .ok (.lload 6, 2) := by decide +kernel
theorem dX8_countGoodSets_89 : decode cX8_countGoodSets 89 = .ok (.lmul, 1) := by decide +kernel
theorem dX8_countGoodSets_90 : decode cX8_countGoodSets 90 = .ok (.lastore, 1) := by decide +kernel
theorem dX8_countGoodSets_91 : decode cX8_countGoodSets 91 = .ok (.goto 8, 3) := by decide +kernel
theorem dX8_countGoodSets_94 : decode cX8_countGoodSets 94 = .ok (.lload_n 2, 1) := by decide +kernel
theorem dX8_countGoodSets_95 : decode cX8_countGoodSets 95 = .ok (.lload 6, 2) := by decide +kernel
theorem dX8_countGoodSets_97 : decode cX8_countGoodSets 97 = .ok (.lmul, 1) := by decide +kernel
theorem dX8_countGoodSets_98 : decode cX8_countGoodSets 98 = .ok (.lstore_n 2, 1) := by decide +kernel
theorem dX8_countGoodSets_99 : decode cX8_countGoodSets 99 = .ok (.iinc 4 (-1), 3) := by decide +kernel
theorem dX8_countGoodSets_102 : decode cX8_countGoodSets 102 = .ok (.goto (-76), 3) := by decide +kernel
theorem dX8_countGoodSets_105 : decode cX8_countGoodSets 105 = .ok (.lload_n 2, 1) := by decide +kernel
theorem dX8_countGoodSets_106 : decode cX8_countGoodSets 106 = .ok (.l2i, 1) := by decide +kernel
theorem dX8_countGoodSets_107 : decode cX8_countGoodSets 107 = .ok (.ireturn, 1) := by decide +kernel
set_option maxHeartbeats 2000000 in
set_option maxRecDepth 20000 in
theorem k_X8_countGoodSets (l : Launch) (hfl : l.stackTraces = false) (D : va_G) (aT : Nat → ClassId) (t0 : Nat) (t1 : Nat) (t2 : Nat) (t3 : Nat) (t4 : Nat) (t5 : Nat) (t6 : Nat) (r1 : Nat → Int32) (r2 : Nat → Int32) (r3 : Nat → Int32) (r4 : Nat → Int32) (r5 : Nat → Int64) (r6 : Nat → Int64) (a5 : Nat) (a6 : Nat) (a7 : Nat) (a8 : Nat) (a9 : Nat) : CxG l yX8_countGoodSets cX8_countGoodSets 8 (some (.int)) 1 0 0 24 D aT [.ref t0, .ref a5] [(t0, .inr (11, [.ref t1, .ref t2, .ref t3, .ref t4, .ref t5, .ref t6])), (t1, .inl (aT 0, 12, .inl r1)), (t2, .inl (aT 0, 12, .inl r2)), (t3, .inl (aT 0, 12, .inl r3)), (t4, .inl (aT 0, 12, .inl r4)), (t5, .inl (aT 2, 12, .inr (.inl r5))), (t6, .inl (aT 2, 12, .inr (.inl r6))), (a5, .inr (8, [.ref a6, .ref a7, .ref a8, .ref a9, .int (nI 0), .int (nI 0)])), (a6, .inl (aT 0, 12, .inl (fun _ => nI 0))), (a7, .inl (aT 0, 12, .inl (fun _ => nI 0))), (a8, .inl (aT 0, 12, .inl (fun _ => nI 0))), (a9, .inl (aT 0, 12, .inl (fun _ => nI 0)))] (qI D aT (fun r W1 => r = nI 1 ∧ ∃ g1 g2 g3 g4 : Nat → Int32, ∃ g5 g6 : Nat → Int64, W1 = [(t0, .inr (11, [.ref t1, .ref t2, .ref t3, .ref t4, .ref t5, .ref t6])), (t1, .inl (aT 0, 12, .inl g1)), (t2, .inl (aT 0, 12, .inl g2)), (t3, .inl (aT 0, 12, .inl g3)), (t4, .inl (aT 0, 12, .inl g4)), (t5, .inl (aT 2, 12, .inr (.inl g5))), (t6, .inl (aT 2, 12, .inr (.inl g6))), (a5, .inr (8, [.ref a6, .ref a7, .ref a8, .ref a9, .int (nI 0), .int (nI 0)])), (a6, .inl (aT 0, 12, .inl (fun _ => nI 0))), (a7, .inl (aT 0, 12, .inl (fun _ => nI 0))), (a8, .inl (aT 0, 12, .inl (fun _ => nI 0))), (a9, .inl (aT 0, 12, .inl (fun _ => nI 0)))])) (fun _ => False) := by
  refine CxG.of RX8 (by decide +kernel) rfl (Nat.le_of_ble_eq_true rfl) ?_
  intro p e s m below meth c A ls C hml hl hA hr hlocks hex hnm hZ hW
  have hl : lv_has ls 8 [(0, .ref t0), (1, .ref a5)] := hl
  have hx := C.1
  have hb := C.2.1
  refine lv_aload_n hx hb dX8_countGoodSets_0 rfl (lv_at hl 0 rfl) ?_
  refine cx_get C hW 0 4 rfl rfl (by decide) inX8 gw_247 rfl rfl dX8_countGoodSets_1 ?_
  refine lv_lconst (v := 1) hx hb dX8_countGoodSets_4 (by decide) ?_
  refine cx_callv (Wr := [(t0, .inr (11, [.ref t1, .ref t2, .ref t3, .ref t4, .ref t5, .ref t6])), (t1, .inl (aT 0, 12, .inl r1)), (t2, .inl (aT 0, 12, .inl r2)), (t3, .inl (aT 0, 12, .inl r3)), (t4, .inl (aT 0, 12, .inl r4)), (t6, .inl (aT 2, 12, .inr (.inl r6))), (a5, .inr (8, [.ref a6, .ref a7, .ref a8, .ref a9, .int (nI 0), .int (nI 0)])), (a6, .inl (aT 0, 12, .inl (fun _ => nI 0))), (a7, .inl (aT 0, 12, .inl (fun _ => nI 0))), (a8, .inl (aT 0, 12, .inl (fun _ => nI 0))), (a9, .inl (aT 0, 12, .inl (fun _ => nI 0)))]) (cx_runS C hml hl.1 hZ hW hA (As := [.ref t5, .long 1]) (rest := []) (k_J7_fill_d0a16 l hfl D aT t5 12 r5 1 (by decide)) gS_X8_J7_fill_d0a16_68 hS_J7_fill_d0a16 rfl ⟨Nat.le_of_ble_eq_true rfl, Nat.le_of_ble_eq_true rfl⟩ ⟨Nat.le_of_ble_eq_true rfl, Nat.le_of_ble_eq_true rfl⟩ [5] rfl (by decide) rfl (Nat.le_of_ble_eq_true rfl) dX8_countGoodSets_5) hW hA [5] [0, 1, 2, 3, 4, 6, 7, 8, 9, 10, 11] rfl rfl (by decide) (by decide) (fun _ _ _ _ _ h9 => h9.elim) (fun W_5 H locs hq hW => ?_)
  obtain ⟨g_5, rfl⟩ := hq
  have hW : CxB D [(t0, .inr (11, [.ref t1, .ref t2, .ref t3, .ref t4, .ref t5, .ref t6])), (t1, .inl (aT 0, 12, .inl r1)), (t2, .inl (aT 0, 12, .inl r2)), (t3, .inl (aT 0, 12, .inl r3)), (t4, .inl (aT 0, 12, .inl r4)), (t6, .inl (aT 2, 12, .inr (.inl r6))), (a5, .inr (8, [.ref a6, .ref a7, .ref a8, .ref a9, .int (nI 0), .int (nI 0)])), (a6, .inl (aT 0, 12, .inl (fun _ => nI 0))), (a7, .inl (aT 0, 12, .inl (fun _ => nI 0))), (a8, .inl (aT 0, 12, .inl (fun _ => nI 0))), (a9, .inl (aT 0, 12, .inl (fun _ => nI 0))), (t5, .inl (aT 2, 12, .inr (.inl g_5)))] A s.heap H _ := hW
  refine lv_aload_n hx hb dX8_countGoodSets_8 rfl (lv_at hl 0 rfl) ?_
  refine cx_get C hW 0 5 rfl rfl (by decide) inX8 gw_248 rfl rfl dX8_countGoodSets_9 ?_
  refine lv_lconst (v := 1) hx hb dX8_countGoodSets_12 (by decide) ?_
  refine cx_callv (Wr := [(t0, .inr (11, [.ref t1, .ref t2, .ref t3, .ref t4, .ref t5, .ref t6])), (t1, .inl (aT 0, 12, .inl r1)), (t2, .inl (aT 0, 12, .inl r2)), (t3, .inl (aT 0, 12, .inl r3)), (t4, .inl (aT 0, 12, .inl r4)), (a5, .inr (8, [.ref a6, .ref a7, .ref a8, .ref a9, .int (nI 0), .int (nI 0)])), (a6, .inl (aT 0, 12, .inl (fun _ => nI 0))), (a7, .inl (aT 0, 12, .inl (fun _ => nI 0))), (a8, .inl (aT 0, 12, .inl (fun _ => nI 0))), (a9, .inl (aT 0, 12, .inl (fun _ => nI 0))), (t5, .inl (aT 2, 12, .inr (.inl g_5)))]) (cx_runS C hml hl.1 hZ hW hA (As := [.ref t6, .long 1]) (rest := []) (k_J7_fill_d0a16 l hfl D aT t6 12 r6 1 (by decide)) gS_X8_J7_fill_d0a16_68 hS_J7_fill_d0a16 rfl ⟨Nat.le_of_ble_eq_true rfl, Nat.le_of_ble_eq_true rfl⟩ ⟨Nat.le_of_ble_eq_true rfl, Nat.le_of_ble_eq_true rfl⟩ [5] rfl (by decide) rfl (Nat.le_of_ble_eq_true rfl) dX8_countGoodSets_13) hW hA [5] [0, 1, 2, 3, 4, 6, 7, 8, 9, 10, 11] rfl rfl (by decide) (by decide) (fun _ _ _ _ _ h9 => h9.elim) (fun W_13 H locs hq hW => ?_)
  obtain ⟨g_13, rfl⟩ := hq
  have hW : CxB D [(t0, .inr (11, [.ref t1, .ref t2, .ref t3, .ref t4, .ref t5, .ref t6])), (t1, .inl (aT 0, 12, .inl r1)), (t2, .inl (aT 0, 12, .inl r2)), (t3, .inl (aT 0, 12, .inl r3)), (t4, .inl (aT 0, 12, .inl r4)), (a5, .inr (8, [.ref a6, .ref a7, .ref a8, .ref a9, .int (nI 0), .int (nI 0)])), (a6, .inl (aT 0, 12, .inl (fun _ => nI 0))), (a7, .inl (aT 0, 12, .inl (fun _ => nI 0))), (a8, .inl (aT 0, 12, .inl (fun _ => nI 0))), (a9, .inl (aT 0, 12, .inl (fun _ => nI 0))), (t5, .inl (aT 2, 12, .inr (.inl g_5))), (t6, .inl (aT 2, 12, .inr (.inl g_13)))] A s.heap H _ := hW
  refine lv_lconst (v := 1) hx hb dX8_countGoodSets_16 (by decide) ?_
  refine lv_lstore_n (lv' := [(2, .long 1), (0, .ref t0), (1, .ref a5)]) hx hb dX8_countGoodSets_17 rfl hl (by decide) rfl (fun ls hl => ?_)
  refine lv_aload_n hx hb dX8_countGoodSets_18 rfl (lv_at hl 2 rfl) ?_
  refine cx_getN C hZ hW 5 4 rfl rfl (by decide) inX5 nw_162 rfl rfl dX8_countGoodSets_19 ?_
  refine lv_iconst (v := nI 1) hx hb dX8_countGoodSets_22 (by decide) ?_
  refine lv_isub hx hb dX8_countGoodSets_23 ?_
  refine r_eq (y := (-1)) (by decide) ?_
  refine lv_istore (lv' := [(4, .int (-1)), (2, .long 1), (0, .ref t0), (1, .ref a5)]) hx hb dX8_countGoodSets_24 hl (by decide) rfl (fun ls hl => ?_)
  refine lv_iload hx hb dX8_countGoodSets_26 (lv_at hl 0 rfl) ?_
  refine lv_if_lt hx hb (x := (-1)) (tgt := 105) dX8_countGoodSets_28 (by decide) (fun c_28 => ?_) (fun c_28 => ?_)
  · refine lv_lload_n hx hb dX8_countGoodSets_105 rfl (lv_at hl 1 rfl) ?_
    refine lv_l2i (v := nI 1) hx hb dX8_countGoodSets_106 (by decide) ?_
    have hW : CxB D [(t0, .inr (11, [.ref t1, .ref t2, .ref t3, .ref t4, .ref t5, .ref t6])), (t1, .inl (aT 0, 12, .inl r1)), (t2, .inl (aT 0, 12, .inl r2)), (t3, .inl (aT 0, 12, .inl r3)), (t4, .inl (aT 0, 12, .inl r4)), (t5, .inl (aT 2, 12, .inr (.inl g_5))), (t6, .inl (aT 2, 12, .inr (.inl g_13))), (a5, .inr (8, [.ref a6, .ref a7, .ref a8, .ref a9, .int (nI 0), .int (nI 0)])), (a6, .inl (aT 0, 12, .inl (fun _ => nI 0))), (a7, .inl (aT 0, 12, .inl (fun _ => nI 0))), (a8, .inl (aT 0, 12, .inl (fun _ => nI 0))), (a9, .inl (aT 0, 12, .inl (fun _ => nI 0)))] A s.heap H locs := cx_drop hW [0, 1, 2, 3, 4, 10, 11, 5, 6, 7, 8, 9] rfl (by decide)
    exact cx_iret C hr hlocks rfl hW ⟨Nat.le_of_ble_eq_true rfl, Nat.le_of_ble_eq_true rfl⟩ (⟨rfl, _, _, _, _, _, _, rfl⟩) dX8_countGoodSets_107
  · exact absurd (by decide) c_28
theorem dX8_agreeOnPaths_0 : decode cX8_agreeOnPaths 0 = .ok (.iconst 0, 1) := by decide +kernel
theorem dX8_agreeOnPaths_1 : decode cX8_agreeOnPaths 1 = .ok (.istore_n 2, 1) := by decide +kernel
theorem dX8_agreeOnPaths_2 : decode cX8_agreeOnPaths 2 = .ok (.iload_n 2, 1) := by decide +kernel
theorem dX8_agreeOnPaths_3 : decode cX8_agreeOnPaths 3 = .ok (.aload_n 1, 1) := by decide +kernel
theorem dX8_agreeOnPaths_4 : decode cX8_agreeOnPaths 4 = .ok (.getfield 50, 3) := by decide +kernel
theorem dX8_agreeOnPaths_7 : decode cX8_agreeOnPaths 7 = .ok (.if_icmp .ge 26, 3) := by decide +kernel
theorem dX8_agreeOnPaths_10 : decode cX8_agreeOnPaths 10 = .ok (.aload_n 0, 1) := by decide +kernel
theorem dX8_agreeOnPaths_11 : decode cX8_agreeOnPaths 11 = .ok (.aload_n 1, 1) := by decide +kernel
theorem dX8_agreeOnPaths_12 : decode cX8_agreeOnPaths 12 = .ok (.iload_n 2, 1) := by decide +kernel
theorem dX8_agreeOnPaths_13 : decode cX8_agreeOnPaths 13 = .ok (.invokevirtual 85, 3) := by decide +kernel
theorem dX8_agreeOnPaths_16 : decode cX8_agreeOnPaths 16 = .ok (.aload_n 0, 1) := by decide +kernel
theorem dX8_agreeOnPaths_17 : decode cX8_agreeOnPaths 17 = .ok (.aload_n 1, 1) := by decide +kernel
theorem dX8_agreeOnPaths_18 : decode cX8_agreeOnPaths 18 = .ok (.iload_n 2, 1) := by decide +kernel
theorem dX8_agreeOnPaths_19 : decode cX8_agreeOnPaths 19 = .ok (.invokevirtual 89, 3) := by decide +kernel
theorem dX8_agreeOnPaths_22 : decode cX8_agreeOnPaths 22 = .ok (.if_icmp .eq 5, 3) := by decide +kernel
theorem dX8_agreeOnPaths_25 : decode cX8_agreeOnPaths 25 = .ok (.iconst 0, 1) := by decide +kernel
theorem dX8_agreeOnPaths_26 : decode cX8_agreeOnPaths 26 = .ok (.ireturn, 1) := by decide +kernel
theorem dX8_agreeOnPaths_27 : decode cX8_agreeOnPaths 27 = .ok (.iinc 2 1, 3) := by decide +kernel
theorem dX8_agreeOnPaths_30 : decode cX8_agreeOnPaths 30 = .ok (.goto (-28), 3) := by decide +kernel
theorem dX8_agreeOnPaths_33 : decode cX8_agreeOnPaths 33 = .ok (.iconst 1, 1) := by decide +kernel
theorem dX8_agreeOnPaths_34 : decode cX8_agreeOnPaths 34 = .ok (.ireturn, 1) := by decide +kernel
set_option maxHeartbeats 2000000 in
set_option maxRecDepth 20000 in
theorem k_X8_agreeOnPaths (l : Launch) (hfl : l.stackTraces = false) (D : va_G) (aT : Nat → ClassId) (t0 : Nat) (t1 : Nat) (t2 : Nat) (t3 : Nat) (t4 : Nat) (t5 : Nat) (t6 : Nat) (r1 : Nat → Int32) (r2 : Nat → Int32) (r3 : Nat → Int32) (r4 : Nat → Int32) (r5 : Nat → Int64) (r6 : Nat → Int64) (a5 : Nat) (a6 : Nat) (a7 : Nat) (a8 : Nat) (a9 : Nat) : CxG l yX8_agreeOnPaths cX8_agreeOnPaths 3 (some (.boolean)) 0 0 0 0 D aT [.ref t0, .ref a5] [(t0, .inr (11, [.ref t1, .ref t2, .ref t3, .ref t4, .ref t5, .ref t6])), (t1, .inl (aT 0, 12, .inl r1)), (t2, .inl (aT 0, 12, .inl r2)), (t3, .inl (aT 0, 12, .inl r3)), (t4, .inl (aT 0, 12, .inl r4)), (t5, .inl (aT 2, 12, .inr (.inl r5))), (t6, .inl (aT 2, 12, .inr (.inl r6))), (a5, .inr (8, [.ref a6, .ref a7, .ref a8, .ref a9, .int (nI 0), .int (nI 0)])), (a6, .inl (aT 0, 12, .inl (fun _ => nI 0))), (a7, .inl (aT 0, 12, .inl (fun _ => nI 0))), (a8, .inl (aT 0, 12, .inl (fun _ => nI 0))), (a9, .inl (aT 0, 12, .inl (fun _ => nI 0)))] (qI D aT (fun r W1 => r = nI 1 ∧ ∃ g1 g2 g3 g4 : Nat → Int32, ∃ g5 g6 : Nat → Int64, W1 = [(t0, .inr (11, [.ref t1, .ref t2, .ref t3, .ref t4, .ref t5, .ref t6])), (t1, .inl (aT 0, 12, .inl g1)), (t2, .inl (aT 0, 12, .inl g2)), (t3, .inl (aT 0, 12, .inl g3)), (t4, .inl (aT 0, 12, .inl g4)), (t5, .inl (aT 2, 12, .inr (.inl g5))), (t6, .inl (aT 2, 12, .inr (.inl g6))), (a5, .inr (8, [.ref a6, .ref a7, .ref a8, .ref a9, .int (nI 0), .int (nI 0)])), (a6, .inl (aT 0, 12, .inl (fun _ => nI 0))), (a7, .inl (aT 0, 12, .inl (fun _ => nI 0))), (a8, .inl (aT 0, 12, .inl (fun _ => nI 0))), (a9, .inl (aT 0, 12, .inl (fun _ => nI 0)))])) (fun _ => False) := by
  refine CxG.of RX8 (by decide +kernel) rfl (Nat.le_of_ble_eq_true rfl) ?_
  intro p e s m below meth c A ls C hml hl hA hr hlocks hex hnm hZ hW
  have hl : lv_has ls 3 [(0, .ref t0), (1, .ref a5)] := hl
  have hx := C.1
  have hb := C.2.1
  refine lv_iconst (v := nI 0) hx hb dX8_agreeOnPaths_0 (by decide) ?_
  refine lv_istore_n (lv' := [(2, .int (nI 0)), (0, .ref t0), (1, .ref a5)]) hx hb dX8_agreeOnPaths_1 rfl hl (by decide) rfl (fun ls hl => ?_)
  refine lv_iload_n hx hb dX8_agreeOnPaths_2 rfl (lv_at hl 0 rfl) ?_
  refine lv_aload_n hx hb dX8_agreeOnPaths_3 rfl (lv_at hl 2 rfl) ?_
  refine cx_getN C hZ hW 7 4 rfl rfl (by decide) inX5 nw_162 rfl rfl dX8_agreeOnPaths_4 ?_
  refine lv_icmp_ge hx hb (x := (nI 0)) (y := (nI 0)) (tgt := 33) dX8_agreeOnPaths_7 (by decide) (fun c_7 => ?_) (fun c_7 => ?_)
  · refine lv_iconst (v := nI 1) hx hb dX8_agreeOnPaths_33 (by decide) ?_
    exact cx_iret C hr hlocks (by decide) hW ⟨Nat.le_of_ble_eq_true rfl, Nat.le_of_ble_eq_true rfl⟩ (⟨rfl, _, _, _, _, _, _, rfl⟩) dX8_agreeOnPaths_34
  · exact absurd (by decide) c_7
theorem dX8_agreeOnCommonMotions_0 : decode cX8_agreeOnCommonMotions 0 = .ok (.iconst 0, 1) := by decide +kernel
theorem dX8_agreeOnCommonMotions_1 : decode cX8_agreeOnCommonMotions 1 = .ok (.istore_n 2, 1) := by decide +kernel
theorem dX8_agreeOnCommonMotions_2 : decode cX8_agreeOnCommonMotions 2 = .ok (.iload_n 2, 1) := by decide +kernel
theorem dX8_agreeOnCommonMotions_3 : decode cX8_agreeOnCommonMotions 3 = .ok (.aload_n 1, 1) := by decide +kernel
theorem dX8_agreeOnCommonMotions_4 : decode cX8_agreeOnCommonMotions 4 = .ok (.getfield 50, 3) := by decide +kernel
theorem dX8_agreeOnCommonMotions_7 : decode cX8_agreeOnCommonMotions 7 = .ok (.if_icmp .ge 44, 3) := by decide +kernel
theorem dX8_agreeOnCommonMotions_10 : decode cX8_agreeOnCommonMotions 10 = .ok (.iconst 0, 1) := by decide +kernel
theorem dX8_agreeOnCommonMotions_11 : decode cX8_agreeOnCommonMotions 11 = .ok (.istore_n 3, 1) := by decide +kernel
theorem dX8_agreeOnCommonMotions_12 : decode cX8_agreeOnCommonMotions 12 = .ok (.iload_n 3, 1) := by decide +kernel
theorem dX8_agreeOnCommonMotions_13 : decode cX8_agreeOnCommonMotions 13 = .ok (.aload_n 1, 1) := by decide +kernel
theorem dX8_agreeOnCommonMotions_14 : decode cX8_agreeOnCommonMotions 14 = .ok (.getfield 50, 3) := by decide +kernel
theorem dX8_agreeOnCommonMotions_17 : decode cX8_agreeOnCommonMotions 17 = .ok (.if_icmp .ge 28, 3) := by decide +kernel
theorem dX8_agreeOnCommonMotions_20 : decode cX8_agreeOnCommonMotions 20 = .ok (.aload_n 0, 1) := by decide +kernel
theorem dX8_agreeOnCommonMotions_21 : decode cX8_agreeOnCommonMotions 21 = .ok (.aload_n 1, 1) := by decide +kernel
theorem dX8_agreeOnCommonMotions_22 : decode cX8_agreeOnCommonMotions 22 = .ok (.iload_n 2, 1) := by decide +kernel
theorem dX8_agreeOnCommonMotions_23 : decode cX8_agreeOnCommonMotions 23 = .ok (.iload_n 3, 1) := by decide +kernel
theorem dX8_agreeOnCommonMotions_24 : decode cX8_agreeOnCommonMotions 24 = .ok (.invokevirtual 92, 3) := by decide +kernel
theorem dX8_agreeOnCommonMotions_27 : decode cX8_agreeOnCommonMotions 27 = .ok (.aload_n 0, 1) := by decide +kernel
theorem dX8_agreeOnCommonMotions_28 : decode cX8_agreeOnCommonMotions 28 = .ok (.aload_n 1, 1) := by decide +kernel
theorem dX8_agreeOnCommonMotions_29 : decode cX8_agreeOnCommonMotions 29 = .ok (.iload_n 2, 1) := by decide +kernel
theorem dX8_agreeOnCommonMotions_30 : decode cX8_agreeOnCommonMotions 30 = .ok (.iload_n 3, 1) := by decide +kernel
theorem dX8_agreeOnCommonMotions_31 : decode cX8_agreeOnCommonMotions 31 = .ok (.invokevirtual 95, 3) := by decide +kernel
theorem dX8_agreeOnCommonMotions_34 : decode cX8_agreeOnCommonMotions 34 = .ok (.if_icmp .eq 5, 3) := by decide +kernel
theorem dX8_agreeOnCommonMotions_37 : decode cX8_agreeOnCommonMotions 37 = .ok (.iconst 0, 1) := by decide +kernel
theorem dX8_agreeOnCommonMotions_38 : decode cX8_agreeOnCommonMotions 38 = .ok (.ireturn, 1) := by decide +kernel
theorem dX8_agreeOnCommonMotions_39 : decode cX8_agreeOnCommonMotions 39 = .ok (.iinc 3 1, 3) := by decide +kernel
theorem dX8_agreeOnCommonMotions_42 : decode cX8_agreeOnCommonMotions 42 = .ok (.goto (-30), 3) := by decide +kernel
theorem dX8_agreeOnCommonMotions_45 : decode cX8_agreeOnCommonMotions 45 = .ok (.iinc 2 1, 3) := by decide +kernel
theorem dX8_agreeOnCommonMotions_48 : decode cX8_agreeOnCommonMotions 48 = .ok (.goto (-46), 3) := by decide +kernel
theorem dX8_agreeOnCommonMotions_51 : decode cX8_agreeOnCommonMotions 51 = .ok (.iconst 1, 1) := by decide +kernel
theorem dX8_agreeOnCommonMotions_52 : decode cX8_agreeOnCommonMotions 52 = .ok (.ireturn, 1) := by decide +kernel
set_option maxHeartbeats 2000000 in
set_option maxRecDepth 20000 in
theorem k_X8_agreeOnCommonMotions (l : Launch) (hfl : l.stackTraces = false) (D : va_G) (aT : Nat → ClassId) (t0 : Nat) (t1 : Nat) (t2 : Nat) (t3 : Nat) (t4 : Nat) (t5 : Nat) (t6 : Nat) (r1 : Nat → Int32) (r2 : Nat → Int32) (r3 : Nat → Int32) (r4 : Nat → Int32) (r5 : Nat → Int64) (r6 : Nat → Int64) (a5 : Nat) (a6 : Nat) (a7 : Nat) (a8 : Nat) (a9 : Nat) : CxG l yX8_agreeOnCommonMotions cX8_agreeOnCommonMotions 4 (some (.boolean)) 0 0 0 0 D aT [.ref t0, .ref a5] [(t0, .inr (11, [.ref t1, .ref t2, .ref t3, .ref t4, .ref t5, .ref t6])), (t1, .inl (aT 0, 12, .inl r1)), (t2, .inl (aT 0, 12, .inl r2)), (t3, .inl (aT 0, 12, .inl r3)), (t4, .inl (aT 0, 12, .inl r4)), (t5, .inl (aT 2, 12, .inr (.inl r5))), (t6, .inl (aT 2, 12, .inr (.inl r6))), (a5, .inr (8, [.ref a6, .ref a7, .ref a8, .ref a9, .int (nI 0), .int (nI 0)])), (a6, .inl (aT 0, 12, .inl (fun _ => nI 0))), (a7, .inl (aT 0, 12, .inl (fun _ => nI 0))), (a8, .inl (aT 0, 12, .inl (fun _ => nI 0))), (a9, .inl (aT 0, 12, .inl (fun _ => nI 0)))] (qI D aT (fun r W1 => r = nI 1 ∧ ∃ g1 g2 g3 g4 : Nat → Int32, ∃ g5 g6 : Nat → Int64, W1 = [(t0, .inr (11, [.ref t1, .ref t2, .ref t3, .ref t4, .ref t5, .ref t6])), (t1, .inl (aT 0, 12, .inl g1)), (t2, .inl (aT 0, 12, .inl g2)), (t3, .inl (aT 0, 12, .inl g3)), (t4, .inl (aT 0, 12, .inl g4)), (t5, .inl (aT 2, 12, .inr (.inl g5))), (t6, .inl (aT 2, 12, .inr (.inl g6))), (a5, .inr (8, [.ref a6, .ref a7, .ref a8, .ref a9, .int (nI 0), .int (nI 0)])), (a6, .inl (aT 0, 12, .inl (fun _ => nI 0))), (a7, .inl (aT 0, 12, .inl (fun _ => nI 0))), (a8, .inl (aT 0, 12, .inl (fun _ => nI 0))), (a9, .inl (aT 0, 12, .inl (fun _ => nI 0)))])) (fun _ => False) := by
  refine CxG.of RX8 (by decide +kernel) rfl (Nat.le_of_ble_eq_true rfl) ?_
  intro p e s m below meth c A ls C hml hl hA hr hlocks hex hnm hZ hW
  have hl : lv_has ls 4 [(0, .ref t0), (1, .ref a5)] := hl
  have hx := C.1
  have hb := C.2.1
  refine lv_iconst (v := nI 0) hx hb dX8_agreeOnCommonMotions_0 (by decide) ?_
  refine lv_istore_n (lv' := [(2, .int (nI 0)), (0, .ref t0), (1, .ref a5)]) hx hb dX8_agreeOnCommonMotions_1 rfl hl (by decide) rfl (fun ls hl => ?_)
  refine lv_iload_n hx hb dX8_agreeOnCommonMotions_2 rfl (lv_at hl 0 rfl) ?_
  refine lv_aload_n hx hb dX8_agreeOnCommonMotions_3 rfl (lv_at hl 2 rfl) ?_
  refine cx_getN C hZ hW 7 4 rfl rfl (by decide) inX5 nw_162 rfl rfl dX8_agreeOnCommonMotions_4 ?_
  refine lv_icmp_ge hx hb (x := (nI 0)) (y := (nI 0)) (tgt := 51) dX8_agreeOnCommonMotions_7 (by decide) (fun c_7 => ?_) (fun c_7 => ?_)
  · refine lv_iconst (v := nI 1) hx hb dX8_agreeOnCommonMotions_51 (by decide) ?_
    exact cx_iret C hr hlocks (by decide) hW ⟨Nat.le_of_ble_eq_true rfl, Nat.le_of_ble_eq_true rfl⟩ (⟨rfl, _, _, _, _, _, _, rfl⟩) dX8_agreeOnCommonMotions_52
  · exact absurd (by decide) c_7
