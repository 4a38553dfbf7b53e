section CXL
variable {p : Program} {l : Launch} {e : Env} {R : Room} {s : State} {m : MethodId} {args : Array Value} {below : List Frame} {meth : Method} {c : Code} {H : Heap} {locs : List Loc} {cells slots : Nat} {Q : State → Prop} {cc : ByteArray} {pc : Nat} {ls : Array Slot} {rest : List Value} {D : va_G} {aT : Nat → ClassId} {Wd : va_W} {A : Nat → Prop} {H0 : Heap} {own : String} {a : Nat}
theorem cx_lald (C : CxX p c cc s args m D aT own) (hW : CxB D Wd A H0 H locs) (i t0 : Nat) {n j : Nat} {f : Nat → Int64} {x : Int64} {ty : FieldType} (he : Wd[i]? = some (a, .inl (aT t0, n, .inr (.inl f)))) (ht : (tyG aT)[t0]? = some (aT t0, ty)) (hc : ty = .long) (hj : j < n) (hn : n < 2 ^ 31) (hv : f j = x) (hdg : decode cc pc = .ok (.laload, 1)) (kk : W p l e R s m args below meth c H locs cells slots Q (F0 m (pc + 1) ls (.long x :: rest))) : W p l e R s m args below meth c H locs cells slots Q (F0 m pc ls (.int (nI j) :: .ref a :: rest)) := by
  obtain ⟨hx, hb, hg, hown, hK⟩ := C
  subst hc
  refine va_lald (D := D) hx hb hK hW.1 i t0 he ht (vp_in_nI hj (by omega)) hdg ?_
  rw [nI_clamp (by omega), hv]
  exact kk
theorem cx_last (C : CxX p c cc s args m D aT own) (hW : CxB D Wd A H0 H locs) (i t0 : Nat) {n j : Nat} {f : Nat → Int64} {x : Int64} {ty : FieldType} {W1 : va_W} (he : Wd[i]? = some (a, .inl (aT t0, n, .inr (.inl f)))) (ht : (tyG aT)[t0]? = some (aT t0, ty)) (hc : ty = .long) (hj : j < n) (hn : n < 2 ^ 31) (hW1 : Wd.set i (a, .inl (aT t0, n, .inr (.inl (vp_updL f j x)))) = W1) (hdg : decode cc pc = .ok (.lastore, 1)) (kk : ∀ (H1 : Heap) (locs1 : List Loc), CxB D W1 A H0 H1 locs1 → W p l e R s m args below meth c H1 locs1 cells slots Q (F0 m (pc + 1) ls rest)) : W p l e R s m args below meth c H locs cells slots Q (F0 m pc ls (.long x :: .int (nI j) :: .ref a :: rest)) := by
  obtain ⟨hx, hb, hg, hown, hK⟩ := C
  subst hc
  refine va_last (D := D) hx hb hK hW.1 hW.2.1 hW.2.2 i t0 he ht (vp_in_nI hj (by omega)) hdg (fun H1 locs1 h1 h2 h3 => ?_)
  rw [nI_clamp (by omega)] at h1 h2
  rw [hW1] at h1 h2
  exact kk H1 locs1 ⟨h1, h2, h3⟩
end CXL
theorem dep_pos {pr : Nat → Option Nat} {n k : Nat} (h : ParOk pr n) (hk : k < n) (hd : 0 < dep pr k) : ∃ j, pr k = some j ∧ dep pr k = dep pr j + 1 ∧ j < n := by
  cases hp : pr k with
  | none => rw [dep_none hp] at hd; omega
  | some j => exact ⟨j, rfl, dep_some h hk hp, by have := h k j hk hp; omega⟩
section G5
variable {p : Program} {l : Launch} {e : Env} {R : Room} {s : State} {m : MethodId} {args : Array Value} {below : List Frame} {meth : Method} {c : Code} {H : Heap} {locs : List Loc} {cells slots : Nat} {Q : State → Prop} {cc : ByteArray} {pc : Nat} {ls : Array Slot} {rest : List Value}
theorem r_oi_ltN (hx : p.tables.exec = Jvm.exec) (hb : c.code = cc) {o : Option Nat} {q : Nat} (ho : ∀ j, o = some j → j < 2 ^ 31) (hq : q < 2 ^ 31) {off : Int} {tgt : Nat} (hdg : decode cc pc = .ok (.if_icmp .lt off, 3)) (ht : (pc : Int) + off = (tgt : Int)) (kt : (∀ j, o = some j → j < q) → W p l e R s m args below meth c H locs cells slots Q (F0 m tgt ls rest)) (kf : ∀ j, o = some j → q ≤ j → W p l e R s m args below meth c H locs cells slots Q (F0 m (pc + 3) ls rest)) : W p l e R s m args below meth c H locs cells slots Q (F0 m pc ls (.int (nI q) :: .int (oi o) :: rest)) := by
  refine lv_icmp_lt hx hb hdg ht (fun h => kt (fun j hj => ?_)) (fun h => ?_)
  · subst hj
    exact (nI_ltI (ho j rfl) hq).mp h
  · cases o with
    | none => exact absurd (neg1_lt hq) h
    | some j =>
      refine kf j rfl ?_
      rcases Nat.lt_or_ge j q with w | w
      · exact absurd ((nI_ltI (ho j rfl) hq).mpr w) h
      · exact w
end G5
theorem anc_par {pr : Nat → Option Nat} {n k r : Nat} (h : ParOk pr n) (hk : k < n) (hr : r < k) (ha : anc pr r k = true) : ∃ j, pr k = some j ∧ j < k := by
  rw [anc_O h hk (by omega)] at ha
  cases hp : pr k with
  | none => rw [hp] at ha; simp [ancO] at ha
  | some j => exact ⟨j, rfl, h k j hk hp⟩
theorem fr_step {pr : Nat → Option Nat} {n d i : Nat} {f : Nat → Int32} (h : ParOk pr n) (hj : i < n) (hf : ∀ q, depO pr (some i) ≤ q → q ≤ d → ∃ j, j < n ∧ f q = nI j) : ∀ q, depO pr (pr i) ≤ q → q ≤ d → ∃ j, j < n ∧ upd f (dep pr i) (nI i) q = nI j := fun q h1 h2 => by
  rw [← dep_O h hj] at h1
  by_cases e : q = dep pr i
  · rw [e, pk_us]; exact ⟨i, hj, rfl⟩
  · rw [pk_un e]; exact hf q (show dep pr i + 1 ≤ q by omega) h2
theorem gm_maxl : Cond.code Lib.MathLoose.max_long.x Lib.MathLoose.max_long.code 4 (some .long) ∈ gw := by rw [show Lib.MathLoose.max_long.code = prog_28_method_66_code by decide +kernel]; exact gw_444
theorem sh_eq : ∀ n, n < 13 → nI 1 <<< (nI n &&& 31) = nI (2 ^ n) := by decide
theorem two_le {n : Nat} (h : n ≤ 12) : 2 ^ n ≤ 4096 := Nat.pow_le_pow_right (by decide) h
theorem dJ7_fill_53178_0 : decode cJ7_fill_53178 0 = .ok (.iconst 0, 1) := by decide +kernel
theorem dJ7_fill_53178_1 : decode cJ7_fill_53178 1 = .ok (.istore_n 2, 1) := by decide +kernel
theorem dJ7_fill_53178_2 : decode cJ7_fill_53178 2 = .ok (.aload_n 0, 1) := by decide +kernel
theorem dJ7_fill_53178_3 : decode cJ7_fill_53178 3 = .ok (.arraylength, 1) := by decide +kernel
theorem dJ7_fill_53178_4 : decode cJ7_fill_53178 4 = .ok (.istore_n 3, 1) := by decide +kernel
theorem dJ7_fill_53178_5 : decode cJ7_fill_53178 5 = .ok (.iload_n 2, 1) := by decide +kernel
theorem dJ7_fill_53178_6 : decode cJ7_fill_53178 6 = .ok (.iload_n 3, 1) := by decide +kernel
theorem dJ7_fill_53178_7 : decode cJ7_fill_53178 7 = .ok (.if_icmp .ge 13, 3) := by decide +kernel
theorem dJ7_fill_53178_10 : decode cJ7_fill_53178 10 = .ok (.aload_n 0, 1) := by decide +kernel
theorem dJ7_fill_53178_11 : decode cJ7_fill_53178 11 = .ok (.iload_n 2, 1) := by decide +kernel
theorem dJ7_fill_53178_12 : decode cJ7_fill_53178 12 = .ok (.iload_n 1, 1) := by decide +kernel
theorem dJ7_fill_53178_13 : decode cJ7_fill_53178 13 = .ok (.iastore, 1) := by decide +kernel
theorem dJ7_fill_53178_14 : decode cJ7_fill_53178 14 = .ok (.iinc 2 1, 3) := by decide +kernel
theorem dJ7_fill_53178_17 : decode cJ7_fill_53178 17 = .ok (.goto (-12), 3) := by decide +kernel
theorem dJ7_fill_53178_20 : decode cJ7_fill_53178 20 = .ok (.return_, 1) := by decide +kernel
set_option maxRecDepth 20000 in
theorem k_J7_fill_53178 (l : Launch) (hfl : l.stackTraces = false) (D : va_G) (aT : Nat → ClassId) (a n : Nat) (f : Nat → Int32) (x : Int32) (hn : n < 2 ^ 31) : CxG l yJ7_fill_53178 cJ7_fill_53178 4 none 0 0 0 0 D aT [.ref a, .int x] [(a, .inl (aT 0, n, .inl f))] (qV D aT (fun W1 => ∃ g : Nat → Int32, W1 = [(a, .inl (aT 0, n, .inl g))])) (fun _ _ => False) := by
  refine CxG.of RJ7 (by decide +kernel) rfl (Nat.le_of_ble_eq_true rfl) ?_
  intro p e s m below meth c A ls C hml hl hA hr hlocks hex hnm hZ hW
  have hl : lv_has ls 4 [(0, .ref a), (1, .int x)] := hl
  have hx := C.1
  have hb := C.2.1
  refine lv_iconst (v := nI 0) hx hb dJ7_fill_53178_0 (by decide) ?_
  refine lv_istore_n (lv' := [(2, .int (nI 0)), (0, .ref a), (1, .int x)]) hx hb dJ7_fill_53178_1 rfl hl (by decide) rfl (fun ls hl => ?_)
  refine lv_aload_n hx hb dJ7_fill_53178_2 rfl (lv_at hl 1 rfl) ?_
  refine va_alen (v := nI n) hx hb C.2.2.2.2 hW.1 0 0 rfl rfl rfl dJ7_fill_53178_3 ?_
  refine lv_istore_n (lv' := [(3, .int (nI n)), (2, .int (nI 0)), (0, .ref a), (1, .int x)]) hx hb dJ7_fill_53178_4 rfl hl (by decide) rfl (fun ls hl => ?_)
  refine W_loopH (σ := Nat × (Nat → Int32)) (fun z => n - z.1) (fun z H locs g => ∃ ls, g = F0 m 5 ls [] ∧ lv_has ls 4 [(2, .int (nI z.1)), (3, .int (nI n)), (0, .ref a), (1, .int x)] ∧ CxB D [(a, .inl (aT 0, n, .inl z.2))] A s.heap H locs ∧ z.1 ≤ n) ?_ (0, f) _ ⟨_, rfl, lv_sub hl [1, 0, 2, 3] rfl, hW, Nat.zero_le _⟩
  clear hW hl
  rintro ⟨i, f⟩ H locs g ⟨ls, rfl, hl, hW, hi⟩ ih
  dsimp only at hl hW hi ⊢
  refine lv_iload_n hx hb dJ7_fill_53178_5 rfl (lv_at hl 0 rfl) ?_
  refine lv_iload_n hx hb dJ7_fill_53178_6 rfl (lv_at hl 1 rfl) ?_
  refine r_geN hx hb (a := i) (b := n) (by omega) hn (tgt := 20) dJ7_fill_53178_7 (by decide) (fun h => ?_) (fun h => ?_)
  · exact cx_vret C hr hlocks hW ⟨Nat.le_refl _, Nat.le_refl _⟩ ⟨_, rfl⟩ dJ7_fill_53178_20
  · refine lv_aload_n hx hb dJ7_fill_53178_10 rfl (lv_at hl 2 rfl) ?_
    refine lv_iload_n hx hb dJ7_fill_53178_11 rfl (lv_at hl 0 rfl) ?_
    refine lv_iload_n hx hb dJ7_fill_53178_12 rfl (lv_at hl 3 rfl) ?_
    refine cx_ast C hW 0 0 (j := i) (W1 := [(a, .inl (aT 0, n, .inl (upd f i x)))]) rfl rfl rfl h hn rfl dJ7_fill_53178_13 (fun H locs hW => ?_)
    refine lv_iinc (v := nI (i + 1)) (lv' := [(2, .int (nI (i + 1))), (3, .int (nI n)), (0, .ref a), (1, .int x)]) hx hb dJ7_fill_53178_14 hl (k := 0) rfl (nI_1 _) (by decide) rfl (fun ls hl => ?_)
    refine lv_goto (tgt := 5) hx hb dJ7_fill_53178_17 (by decide) ?_
    exact ih (i + 1, (upd f i x)) _ _ _ (by dsimp only; omega) ⟨_, rfl, hl, hW, h⟩
theorem dJ7_fill_d0a16_0 : decode cJ7_fill_d0a16 0 = .ok (.iconst 0, 1) := by decide +kernel
theorem dJ7_fill_d0a16_1 : decode cJ7_fill_d0a16 1 = .ok (.istore_n 3, 1) := by decide +kernel
theorem dJ7_fill_d0a16_2 : decode cJ7_fill_d0a16 2 = .ok (.aload_n 0, 1) := by decide +kernel
theorem dJ7_fill_d0a16_3 : decode cJ7_fill_d0a16 3 = .ok (.arraylength, 1) := by decide +kernel
theorem dJ7_fill_d0a16_4 : decode cJ7_fill_d0a16 4 = .ok (.istore 4, 2) := by decide +kernel
theorem dJ7_fill_d0a16_6 : decode cJ7_fill_d0a16 6 = .ok (.iload_n 3, 1) := by decide +kernel
theorem dJ7_fill_d0a16_7 : decode cJ7_fill_d0a16 7 = .ok (.iload 4, 2) := by decide +kernel
theorem dJ7_fill_d0a16_9 : decode cJ7_fill_d0a16 9 = .ok (.if_icmp .ge 13, 3) := by decide +kernel
theorem dJ7_fill_d0a16_12 : decode cJ7_fill_d0a16 12 = .ok (.aload_n 0, 1) := by decide +kernel
theorem dJ7_fill_d0a16_13 : decode cJ7_fill_d0a16 13 = .ok (.iload_n 3, 1) := by decide +kernel
theorem dJ7_fill_d0a16_14 : decode cJ7_fill_d0a16 14 = .ok (.lload_n 1, 1) := by decide +kernel
theorem dJ7_fill_d0a16_15 : decode cJ7_fill_d0a16 15 = .ok (.lastore, 1) := by decide +kernel
theorem dJ7_fill_d0a16_16 : decode cJ7_fill_d0a16 16 = .ok (.iinc 3 1, 3) := by decide +kernel
theorem dJ7_fill_d0a16_19 : decode cJ7_fill_d0a16 19 = .ok (.goto (-13), 3) := by decide +kernel
theorem dJ7_fill_d0a16_22 : decode cJ7_fill_d0a16 22 = .ok (.return_, 1) := by decide +kernel
set_option maxRecDepth 20000 in
theorem k_J7_fill_d0a16 (l : Launch) (hfl : l.stackTraces = false) (D : va_G) (aT : Nat → ClassId) (a n : Nat) (f : Nat → Int64) (x : Int64) (hn : n < 2 ^ 31) : CxG l yJ7_fill_d0a16 cJ7_fill_d0a16 5 none 0 0 0 0 D aT [.ref a, .long x] [(a, .inl (aT 2, n, .inr (.inl f)))] (qV D aT (fun W1 => ∃ g : Nat → Int64, W1 = [(a, .inl (aT 2, n, .inr (.inl g)))])) (fun _ _ => False) := by
  refine CxG.of RJ7 (by decide +kernel) rfl (Nat.le_of_ble_eq_true rfl) ?_
  intro p e s m below meth c A ls C hml hl hA hr hlocks hex hnm hZ hW
  have hl : lv_has ls 5 [(0, .ref a), (1, .long x)] := hl
  have hx := C.1
  have hb := C.2.1
  refine lv_iconst (v := nI 0) hx hb dJ7_fill_d0a16_0 (by decide) ?_
  refine lv_istore_n (lv' := [(3, .int (nI 0)), (0, .ref a), (1, .long x)]) hx hb dJ7_fill_d0a16_1 rfl hl (by decide) rfl (fun ls hl => ?_)
  refine lv_aload_n hx hb dJ7_fill_d0a16_2 rfl (lv_at hl 1 rfl) ?_
  refine va_alen (v := nI n) hx hb C.2.2.2.2 hW.1 0 2 rfl rfl rfl dJ7_fill_d0a16_3 ?_
  refine lv_istore (lv' := [(4, .int (nI n)), (3, .int (nI 0)), (0, .ref a), (1, .long x)]) hx hb dJ7_fill_d0a16_4 hl (by decide) rfl (fun ls hl => ?_)
  refine W_loopH (σ := Nat × (Nat → Int64)) (fun z => n - z.1) (fun z H locs g => ∃ ls, g = F0 m 6 ls [] ∧ lv_has ls 5 [(3, .int (nI z.1)), (4, .int (nI n)), (0, .ref a), (1, .long x)] ∧ CxB D [(a, .inl (aT 2, n, .inr (.inl z.2)))] A s.heap H locs ∧ z.1 ≤ n) ?_ (0, f) _ ⟨_, rfl, lv_sub hl [1, 0, 2, 3] rfl, hW, Nat.zero_le _⟩
  clear hW hl
  rintro ⟨i, f⟩ H locs g ⟨ls, rfl, hl, hW, hi⟩ ih
  dsimp only at hl hW hi ⊢
  refine lv_iload_n hx hb dJ7_fill_d0a16_6 rfl (lv_at hl 0 rfl) ?_
  refine lv_iload hx hb dJ7_fill_d0a16_7 (lv_at hl 1 rfl) ?_
  refine r_geN hx hb (a := i) (b := n) (by omega) hn (tgt := 22) dJ7_fill_d0a16_9 (by decide) (fun h => ?_) (fun h => ?_)
  · exact cx_vret C hr hlocks hW ⟨Nat.le_refl _, Nat.le_refl _⟩ ⟨_, rfl⟩ dJ7_fill_d0a16_22
  · refine lv_aload_n hx hb dJ7_fill_d0a16_12 rfl (lv_at hl 2 rfl) ?_
    refine lv_iload_n hx hb dJ7_fill_d0a16_13 rfl (lv_at hl 0 rfl) ?_
    refine lv_lload_n hx hb dJ7_fill_d0a16_14 rfl (lv_at hl 3 rfl) ?_
    refine cx_last C hW 0 2 (j := i) (W1 := [(a, .inl (aT 2, n, .inr (.inl (vp_updL f i x))))]) rfl rfl rfl h hn rfl dJ7_fill_d0a16_15 (fun H locs hW => ?_)
    refine lv_iinc (v := nI (i + 1)) (lv' := [(3, .int (nI (i + 1))), (4, .int (nI n)), (0, .ref a), (1, .long x)]) hx hb dJ7_fill_d0a16_16 hl (k := 0) rfl (nI_1 _) (by decide) rfl (fun ls hl => ?_)
    refine lv_goto (tgt := 6) hx hb dJ7_fill_d0a16_19 (by decide) ?_
    exact ih (i + 1, (vp_updL f i x)) _ _ _ (by dsimp only; omega) ⟨_, rfl, hl, hW, h⟩
theorem dX8_commonByClimbing_0 : decode cX8_commonByClimbing 0 = .ok (.iload_n 2, 1) := by decide +kernel
theorem dX8_commonByClimbing_1 : decode cX8_commonByClimbing 1 = .ok (.istore 4, 2) := by decide +kernel
theorem dX8_commonByClimbing_3 : decode cX8_commonByClimbing 3 = .ok (.iload_n 3, 1) := by decide +kernel
theorem dX8_commonByClimbing_4 : decode cX8_commonByClimbing 4 = .ok (.istore 5, 2) := by decide +kernel
theorem dX8_commonByClimbing_6 : decode cX8_commonByClimbing 6 = .ok (.aload_n 1, 1) := by decide +kernel
theorem dX8_commonByClimbing_7 : decode cX8_commonByClimbing 7 = .ok (.iload 4, 2) := by decide +kernel
theorem dX8_commonByClimbing_9 : decode cX8_commonByClimbing 9 = .ok (.invokevirtual 31, 3) := by decide +kernel
theorem dX8_commonByClimbing_12 : decode cX8_commonByClimbing 12 = .ok (.istore 6, 2) := by decide +kernel
theorem dX8_commonByClimbing_14 : decode cX8_commonByClimbing 14 = .ok (.aload_n 1, 1) := by decide +kernel
theorem dX8_commonByClimbing_15 : decode cX8_commonByClimbing 15 = .ok (.iload 5, 2) := by decide +kernel
theorem dX8_commonByClimbing_17 : decode cX8_commonByClimbing 17 = .ok (.invokevirtual 31, 3) := by decide +kernel
theorem dX8_commonByClimbing_20 : decode cX8_commonByClimbing 20 = .ok (.istore 7, 2) := by decide +kernel
theorem dX8_commonByClimbing_22 : decode cX8_commonByClimbing 22 = .ok (.iconst 0, 1) := by decide +kernel
theorem dX8_commonByClimbing_23 : decode cX8_commonByClimbing 23 = .ok (.istore 8, 2) := by decide +kernel
theorem dX8_commonByClimbing_25 : decode cX8_commonByClimbing 25 = .ok (.iload 8, 2) := by decide +kernel
theorem dX8_commonByClimbing_27 : decode cX8_commonByClimbing 27 = .ok (.bipush 24, 2) := by decide +kernel
theorem dX8_commonByClimbing_29 : decode cX8_commonByClimbing 29 = .ok (.if_icmp .ge 62, 3) := by decide +kernel
theorem dX8_commonByClimbing_32 : decode cX8_commonByClimbing 32 = .ok (.iload 4, 2) := by decide +kernel
theorem dX8_commonByClimbing_34 : decode cX8_commonByClimbing 34 = .ok (.iload 5, 2) := by decide +kernel
theorem dX8_commonByClimbing_36 : decode cX8_commonByClimbing 36 = .ok (.if_icmp .eq 55, 3) := by decide +kernel
theorem dX8_commonByClimbing_39 : decode cX8_commonByClimbing 39 = .ok (.iload 6, 2) := by decide +kernel
theorem dX8_commonByClimbing_41 : decode cX8_commonByClimbing 41 = .ok (.ifCond .ne 10, 3) := by decide +kernel
theorem dX8_commonByClimbing_44 : decode cX8_commonByClimbing 44 = .ok (.iload 7, 2) := by decide +kernel
theorem dX8_commonByClimbing_46 : decode cX8_commonByClimbing 46 = .ok (.ifCond .ne 5, 3) := by decide +kernel
theorem dX8_commonByClimbing_49 : decode cX8_commonByClimbing 49 = .ok (.iconst (-1), 1) := by decide +kernel
theorem dX8_commonByClimbing_50 : decode cX8_commonByClimbing 50 = .ok (.ireturn, 1) := by decide +kernel
theorem dX8_commonByClimbing_51 : decode cX8_commonByClimbing 51 = .ok (.iload 6, 2) := by decide +kernel
theorem dX8_commonByClimbing_53 : decode cX8_commonByClimbing 53 = .ok (.iload 7, 2) := by decide +kernel
theorem dX8_commonByClimbing_55 : decode cX8_commonByClimbing 55 = .ok (.if_icmp .lt 18, 3) := by decide +kernel
theorem dX8_commonByClimbing_58 : decode cX8_commonByClimbing 58 = .ok (.aload_n 1, 1) := by decide +kernel
theorem dX8_commonByClimbing_59 : decode cX8_commonByClimbing 59 = .ok (.getfield 37, 3) := by decide +kernel
theorem dX8_commonByClimbing_62 : decode cX8_commonByClimbing 62 = .ok (.iload 4, 2) := by decide +kernel
theorem dX8_commonByClimbing_64 : decode cX8_commonByClimbing 64 = .ok (.iaload, 1) := by decide +kernel
theorem dX8_commonByClimbing_65 : decode cX8_commonByClimbing 65 = .ok (.istore 4, 2) := by decide +kernel
theorem dX8_commonByClimbing_67 : decode cX8_commonByClimbing 67 = .ok (.iinc 6 (-1), 3) := by decide +kernel
theorem dX8_commonByClimbing_70 : decode cX8_commonByClimbing 70 = .ok (.goto 15, 3) := by decide +kernel
theorem dX8_commonByClimbing_73 : decode cX8_commonByClimbing 73 = .ok (.aload_n 1, 1) := by decide +kernel
theorem dX8_commonByClimbing_74 : decode cX8_commonByClimbing 74 = .ok (.getfield 37, 3) := by decide +kernel
theorem dX8_commonByClimbing_77 : decode cX8_commonByClimbing 77 = .ok (.iload 5, 2) := by decide +kernel
theorem dX8_commonByClimbing_79 : decode cX8_commonByClimbing 79 = .ok (.iaload, 1) := by decide +kernel
theorem dX8_commonByClimbing_80 : decode cX8_commonByClimbing 80 = .ok (.istore 5, 2) := by decide +kernel
theorem dX8_commonByClimbing_82 : decode cX8_commonByClimbing 82 = .ok (.iinc 7 (-1), 3) := by decide +kernel
theorem dX8_commonByClimbing_85 : decode cX8_commonByClimbing 85 = .ok (.iinc 8 1, 3) := by decide +kernel
theorem dX8_commonByClimbing_88 : decode cX8_commonByClimbing 88 = .ok (.goto (-63), 3) := by decide +kernel
theorem dX8_commonByClimbing_91 : decode cX8_commonByClimbing 91 = .ok (.iload 4, 2) := by decide +kernel
theorem dX8_commonByClimbing_93 : decode cX8_commonByClimbing 93 = .ok (.ireturn, 1) := by decide +kernel
theorem gV_X8_X5_depthOf_31 : GoodIn gw (wsV RX8 31 RX5 yX5_depthOf (Cond.code yX5_depthOf cX5_depthOf 4 (some .int) :: gw)) := gdV gw_527 gw_528 gw_529 gw_70 gw_530
set_option maxHeartbeats 2000000 in
set_option maxRecDepth 20000 in
theorem k_X8_commonByClimbing (l : Launch) (hfl : l.stackTraces = false) (D : va_G) (aT : Nat → ClassId) (t0 : Nat) (t1 : Nat) (t2 : Nat) (t3 : Nat) (t4 : Nat) (t5 : Nat) (t6 : Nat) (r1 : Nat → Int32) (r2 : Nat → Int32) (r3 : Nat → Int32) (r4 : Nat → Int32) (r5 : Nat → Int64) (r6 : Nat → Int64) (a5 : Nat) (a6 : Nat) (a7 : Nat) (a8 : Nat) (a9 : Nat) (fI : Nat → Int32) (fN : Nat → Int32) (fW : Nat → Int32) (fP : Nat → Int32) (nm : Nat) (nx : Int32) (idn : Nat → Nat) (pr : Nat → Option Nat) (tn : Nat → Nat) (hO : MoC fI fN fP nm idn pr tn) (i : Nat) (j : Nat) (hi : i < nm) (hj : j < nm) : CxG l yX8_commonByClimbing cX8_commonByClimbing 9 (some (.int)) 1 0 0 23 D aT [.ref t0, .ref a5, .int (nI i), .int (nI j)] [(t0, .inr (11, [.ref t1, .ref t2, .ref t3, .ref t4, .ref t5, .ref t6])), (t1, .inl (aT 0, 12, .inl r1)), (t2, .inl (aT 0, 12, .inl r2)), (t3, .inl (aT 0, 12, .inl r3)), (t4, .inl (aT 0, 12, .inl r4)), (t5, .inl (aT 2, 12, .inr (.inl r5))), (t6, .inl (aT 2, 12, .inr (.inl r6))), (a5, .inr (8, [.ref a6, .ref a7, .ref a8, .ref a9, .int (nI nm), .int nx])), (a6, .inl (aT 0, 12, .inl fI)), (a7, .inl (aT 0, 12, .inl fN)), (a8, .inl (aT 0, 12, .inl fW)), (a9, .inl (aT 0, 12, .inl fP))] (qI D aT (fun r W1 => (∃ o : Option Nat, r = oi o ∧ ∀ k, o = some k → k < nm) ∧ W1 = [(t0, .inr (11, [.ref t1, .ref t2, .ref t3, .ref t4, .ref t5, .ref t6])), (t1, .inl (aT 0, 12, .inl r1)), (t2, .inl (aT 0, 12, .inl r2)), (t3, .inl (aT 0, 12, .inl r3)), (t4, .inl (aT 0, 12, .inl r4)), (t5, .inl (aT 2, 12, .inr (.inl r5))), (t6, .inl (aT 2, 12, .inr (.inl r6))), (a5, .inr (8, [.ref a6, .ref a7, .ref a8, .ref a9, .int (nI nm), .int nx])), (a6, .inl (aT 0, 12, .inl fI)), (a7, .inl (aT 0, 12, .inl fN)), (a8, .inl (aT 0, 12, .inl fW)), (a9, .inl (aT 0, 12, .inl fP))])) (fun _ _ => False) := by
  refine CxG.of RX8 (by decide +kernel) rfl (Nat.le_of_ble_eq_true rfl) ?_
  intro p e s m below meth c A ls C hml hl hA hr hlocks hex hnm hZ hW
  have hl : lv_has ls 9 [(0, .ref t0), (1, .ref a5), (2, .int (nI i)), (3, .int (nI j))] := hl
  have hx := C.1
  have hb := C.2.1
  refine lv_iload_n hx hb dX8_commonByClimbing_0 rfl (lv_at hl 2 rfl) ?_
  refine lv_istore (lv' := [(4, .int (nI i)), (0, .ref t0), (1, .ref a5), (2, .int (nI i)), (3, .int (nI j))]) hx hb dX8_commonByClimbing_1 hl (by decide) rfl (fun ls hl => ?_)
  refine lv_iload_n hx hb dX8_commonByClimbing_3 rfl (lv_at hl 4 rfl) ?_
  refine lv_istore (lv' := [(5, .int (nI j)), (4, .int (nI i)), (0, .ref t0), (1, .ref a5), (2, .int (nI i)), (3, .int (nI j))]) hx hb dX8_commonByClimbing_4 hl (by decide) rfl (fun ls hl => ?_)
  refine lv_aload_n hx hb dX8_commonByClimbing_6 rfl (lv_at hl 3 rfl) ?_
  refine lv_iload hx hb dX8_commonByClimbing_7 (lv_at hl 1 rfl) ?_
  refine cx_calli (Wr := [(t0, .inr (11, [.ref t1, .ref t2, .ref t3, .ref t4, .ref t5, .ref t6])), (t1, .inl (aT 0, 12, .inl r1)), (t2, .inl (aT 0, 12, .inl r2)), (t3, .inl (aT 0, 12, .inl r3)), (t4, .inl (aT 0, 12, .inl r4)), (t5, .inl (aT 2, 12, .inr (.inl r5))), (t6, .inl (aT 2, 12, .inr (.inl r6)))]) (cx_runV C hml hl.1 hZ hW hA (As := [.int (nI i)]) (rest := []) (k_X5_depthOf l hfl D aT a5 a6 a7 a8 a9 fI fN fW fP nm nx idn pr tn hO i hi) gV_X8_X5_depthOf_31 hV_X5_depthOf rfl ⟨Nat.le_of_ble_eq_true rfl, Nat.le_of_ble_eq_true rfl⟩ ⟨Nat.le_of_ble_eq_true rfl, Nat.le_of_ble_eq_true rfl⟩ [7, 8, 9, 10, 11] rfl (by decide) 7 8 rfl rfl rfl rfl (Nat.le_of_ble_eq_true rfl) dX8_commonByClimbing_9) hW hA [7, 8, 9, 10, 11] [0, 1, 2, 3, 4, 5, 6] rfl rfl (by decide) (by decide) (fun _ _ _ _ _ _ h9 => h9.elim) (fun r_9 W_9 H locs hq hW => ?_)
  obtain ⟨rfl, rfl⟩ := hq
  have hW : CxB D [(t0, .inr (11, [.ref t1, .ref t2, .ref t3, .ref t4, .ref t5, .ref t6])), (t1, .inl (aT 0, 12, .inl r1)), (t2, .inl (aT 0, 12, .inl r2)), (t3, .inl (aT 0, 12, .inl r3)), (t4, .inl (aT 0, 12, .inl r4)), (t5, .inl (aT 2, 12, .inr (.inl r5))), (t6, .inl (aT 2, 12, .inr (.inl r6))), (a5, .inr (8, [.ref a6, .ref a7, .ref a8, .ref a9, .int (nI nm), .int nx])), (a6, .inl (aT 0, 12, .inl fI)), (a7, .inl (aT 0, 12, .inl fN)), (a8, .inl (aT 0, 12, .inl fW)), (a9, .inl (aT 0, 12, .inl fP))] A s.heap H _ := hW
  refine lv_istore (lv' := [(6, .int (nI (dep pr i))), (5, .int (nI j)), (4, .int (nI i)), (0, .ref t0), (1, .ref a5), (2, .int (nI i)), (3, .int (nI j))]) hx hb dX8_commonByClimbing_12 hl (by decide) rfl (fun ls hl => ?_)
  refine lv_aload_n hx hb dX8_commonByClimbing_14 rfl (lv_at hl 4 rfl) ?_
  refine lv_iload hx hb dX8_commonByClimbing_15 (lv_at hl 1 rfl) ?_
  refine cx_calli (Wr := [(t0, .inr (11, [.ref t1, .ref t2, .ref t3, .ref t4, .ref t5, .ref t6])), (t1, .inl (aT 0, 12, .inl r1)), (t2, .inl (aT 0, 12, .inl r2)), (t3, .inl (aT 0, 12, .inl r3)), (t4, .inl (aT 0, 12, .inl r4)), (t5, .inl (aT 2, 12, .inr (.inl r5))), (t6, .inl (aT 2, 12, .inr (.inl r6)))]) (cx_runV C hml hl.1 hZ hW hA (As := [.int (nI j)]) (rest := []) (k_X5_depthOf l hfl D aT a5 a6 a7 a8 a9 fI fN fW fP nm nx idn pr tn hO j hj) gV_X8_X5_depthOf_31 hV_X5_depthOf rfl ⟨Nat.le_of_ble_eq_true rfl, Nat.le_of_ble_eq_true rfl⟩ ⟨Nat.le_of_ble_eq_true rfl, Nat.le_of_ble_eq_true rfl⟩ [7, 8, 9, 10, 11] rfl (by decide) 7 8 rfl rfl rfl rfl (Nat.le_of_ble_eq_true rfl) dX8_commonByClimbing_17) hW hA [7, 8, 9, 10, 11] [0, 1, 2, 3, 4, 5, 6] rfl rfl (by decide) (by decide) (fun _ _ _ _ _ _ h9 => h9.elim) (fun r_17 W_17 H locs hq hW => ?_)
  obtain ⟨rfl, rfl⟩ := hq
  have hW : CxB D [(t0, .inr (11, [.ref t1, .ref t2, .ref t3, .ref t4, .ref t5, .ref t6])), (t1, .inl (aT 0, 12, .inl r1)), (t2, .inl (aT 0, 12, .inl r2)), (t3, .inl (aT 0, 12, .inl r3)), (t4, .inl (aT 0, 12, .inl r4)), (t5, .inl (aT 2, 12, .inr (.inl r5))), (t6, .inl (aT 2, 12, .inr (.inl r6))), (a5, .inr (8, [.ref a6, .ref a7, .ref a8, .ref a9, .int (nI nm), .int nx])), (a6, .inl (aT 0, 12, .inl fI)), (a7, .inl (aT 0, 12, .inl fN)), (a8, .inl (aT 0, 12, .inl fW)), (a9, .inl (aT 0, 12, .inl fP))] A s.heap H _ := hW
  refine lv_istore (lv' := [(7, .int (nI (dep pr j))), (6, .int (nI (dep pr i))), (5, .int (nI j)), (4, .int (nI i)), (0, .ref t0), (1, .ref a5), (2, .int (nI i)), (3, .int (nI j))]) hx hb dX8_commonByClimbing_20 hl (by decide) rfl (fun ls hl => ?_)
  refine lv_iconst (v := nI 0) hx hb dX8_commonByClimbing_22 (by decide) ?_
  refine lv_istore (lv' := [(8, .int (nI 0)), (7, .int (nI (dep pr j))), (6, .int (nI (dep pr i))), (5, .int (nI j)), (4, .int (nI i)), (0, .ref t0), (1, .ref a5), (2, .int (nI i)), (3, .int (nI j))]) hx hb dX8_commonByClimbing_23 hl (by decide) rfl (fun ls hl => ?_)
  refine W_loopH (σ := Nat × Nat × Nat) (fun z_ => 24 - z_.2.2) (fun z_ H locs g => ∃ ls, g = F0 m 25 ls [] ∧ lv_has ls 9 [(8, .int (nI z_.2.2)), (7, .int (nI (dep pr z_.2.1))), (6, .int (nI (dep pr z_.1))), (5, .int (nI z_.2.1)), (4, .int (nI z_.1)), (3, .int (nI j)), (2, .int (nI i)), (1, .ref a5), (0, .ref t0)] ∧ CxB D [(t0, .inr (11, [.ref t1, .ref t2, .ref t3, .ref t4, .ref t5, .ref t6])), (t1, .inl (aT 0, 12, .inl r1)), (t2, .inl (aT 0, 12, .inl r2)), (t3, .inl (aT 0, 12, .inl r3)), (t4, .inl (aT 0, 12, .inl r4)), (t5, .inl (aT 2, 12, .inr (.inl r5))), (t6, .inl (aT 2, 12, .inr (.inl r6))), (a5, .inr (8, [.ref a6, .ref a7, .ref a8, .ref a9, .int (nI nm), .int nx])), (a6, .inl (aT 0, 12, .inl fI)), (a7, .inl (aT 0, 12, .inl fN)), (a8, .inl (aT 0, 12, .inl fW)), (a9, .inl (aT 0, 12, .inl fP))] A s.heap H locs ∧ z_.1 < nm ∧ z_.2.1 < nm ∧ z_.2.2 ≤ 24) ?_ (i, j, 0) _ ⟨_, rfl, lv_sub hl [0, 1, 2, 3, 4, 8, 7, 6, 5] rfl, hW, ⟨hi, hj, by dsimp only; omega⟩⟩
  clear hW hl
  rintro ⟨u, v, w⟩ H locs g ⟨ls, rfl, hl, hW, ⟨hu, hv, hw⟩⟩ ih_25
  dsimp only at hl hW hu hv hw ⊢
  refine lv_iload hx hb dX8_commonByClimbing_25 (lv_at hl 0 rfl) ?_
  refine lv_bipush (v := nI 24) hx hb dX8_commonByClimbing_27 (by decide) ?_
  refine r_geN hx hb (a := w) (b := 24) (by have h1 := hO.1; have := dep_le hO.2.2.2.1 _ hu; have := dep_le hO.2.2.2.1 _ hv; omega) (by have h1 := hO.1; have := dep_le hO.2.2.2.1 _ hu; have := dep_le hO.2.2.2.1 _ hv; omega) (tgt := 91) dX8_commonByClimbing_29 (by decide) (fun c_29 => ?_) (fun c_29 => ?_)
  · refine lv_iload hx hb dX8_commonByClimbing_91 (lv_at hl 4 rfl) ?_
    exact cx_iret C hr hlocks rfl hW ⟨Nat.le_of_ble_eq_true rfl, Nat.le_of_ble_eq_true rfl⟩ (⟨⟨some u, rfl, fun k h => by cases h; exact hu⟩, rfl⟩) dX8_commonByClimbing_93
  · refine lv_iload hx hb dX8_commonByClimbing_32 (lv_at hl 4 rfl) ?_
    refine lv_iload hx hb dX8_commonByClimbing_34 (lv_at hl 3 rfl) ?_
    refine r_eqN hx hb (a := u) (b := v) (by have h1 := hO.1; have := dep_le hO.2.2.2.1 _ hu; have := dep_le hO.2.2.2.1 _ hv; omega) (by have h1 := hO.1; have := dep_le hO.2.2.2.1 _ hu; have := dep_le hO.2.2.2.1 _ hv; omega) (tgt := 91) dX8_commonByClimbing_36 (by decide) (fun c_36 => ?_) (fun c_36 => ?_)
    · refine lv_iload hx hb dX8_commonByClimbing_91 (lv_at hl 4 rfl) ?_
      exact cx_iret C hr hlocks rfl hW ⟨Nat.le_of_ble_eq_true rfl, Nat.le_of_ble_eq_true rfl⟩ (⟨⟨some u, rfl, fun k h => by cases h; exact hu⟩, rfl⟩) dX8_commonByClimbing_93
    · refine lv_iload hx hb dX8_commonByClimbing_39 (lv_at hl 2 rfl) ?_
      refine r_ifneN hx hb (a := dep pr u) (by have h1 := hO.1; have := dep_le hO.2.2.2.1 _ hu; have := dep_le hO.2.2.2.1 _ hv; omega) (tgt := 51) dX8_commonByClimbing_41 (by decide) (fun c_41 => ?_) (fun c_41 => ?_)
      · refine lv_iload hx hb dX8_commonByClimbing_51 (lv_at hl 2 rfl) ?_
        refine lv_iload hx hb dX8_commonByClimbing_53 (lv_at hl 1 rfl) ?_
        refine r_ltN hx hb (a := dep pr u) (b := dep pr v) (by have h1 := hO.1; have := dep_le hO.2.2.2.1 _ hu; have := dep_le hO.2.2.2.1 _ hv; omega) (by have h1 := hO.1; have := dep_le hO.2.2.2.1 _ hu; have := dep_le hO.2.2.2.1 _ hv; omega) (tgt := 73) dX8_commonByClimbing_55 (by decide) (fun c_55 => ?_) (fun c_55 => ?_)
        · obtain ⟨k_, hk1, hk2, hk3⟩ := dep_pos hO.2.2.2.1 hv (by omega)
          refine lv_aload_n hx hb dX8_commonByClimbing_73 rfl (lv_at hl 7 rfl) ?_
          refine cx_getN C hZ hW 7 3 rfl rfl (by decide) inX5 nw_158 rfl rfl dX8_commonByClimbing_74 ?_
          refine lv_iload hx hb dX8_commonByClimbing_77 (lv_at hl 3 rfl) ?_
          refine cx_ald C hW 11 0 (j := v) rfl rfl rfl (by have := hO.1; omega) (by decide) dX8_commonByClimbing_79 ?_
          refine r_eq (y := (nI k_)) (by rw [hO.2.2.1 v hv, hk1]; rfl) ?_
          refine lv_istore (lv' := [(5, .int (nI k_)), (8, .int (nI w)), (7, .int (nI (dep pr v))), (6, .int (nI (dep pr u))), (4, .int (nI u)), (3, .int (nI j)), (2, .int (nI i)), (1, .ref a5), (0, .ref t0)]) hx hb dX8_commonByClimbing_80 hl (by decide) rfl (fun ls hl => ?_)
          refine lv_iinc (v := (nI (dep pr k_))) (lv' := [(7, .int (nI (dep pr k_))), (5, .int (nI k_)), (8, .int (nI w)), (6, .int (nI (dep pr u))), (4, .int (nI u)), (3, .int (nI j)), (2, .int (nI i)), (1, .ref a5), (0, .ref t0)]) hx hb dX8_commonByClimbing_82 hl (k := 2) rfl (by rw [hk2]; exact pd_1 _) (by decide) rfl (fun ls hl => ?_)
          refine lv_iinc (v := (nI (w + 1))) (lv' := [(8, .int (nI (w + 1))), (7, .int (nI (dep pr k_))), (5, .int (nI k_)), (6, .int (nI (dep pr u))), (4, .int (nI u)), (3, .int (nI j)), (2, .int (nI i)), (1, .ref a5), (0, .ref t0)]) hx hb dX8_commonByClimbing_85 hl (k := 2) rfl (nI_1 _) (by decide) rfl (fun ls hl => ?_)
          refine lv_goto (tgt := 25) hx hb dX8_commonByClimbing_88 (by decide) ?_
          exact ih_25 (u, k_, (w + 1)) _ _ _ (by first | omega | (dsimp only; omega)) ⟨_, rfl, lv_sub hl [0, 1, 3, 2, 4, 5, 6, 7, 8] rfl, hW, ⟨by first | assumption | omega, by first | assumption | omega, by dsimp only; omega⟩⟩
        · obtain ⟨k_, hk1, hk2, hk3⟩ := dep_pos hO.2.2.2.1 hu (by omega)
          refine lv_aload_n hx hb dX8_commonByClimbing_58 rfl (lv_at hl 7 rfl) ?_
          refine cx_getN C hZ hW 7 3 rfl rfl (by decide) inX5 nw_158 rfl rfl dX8_commonByClimbing_59 ?_
          refine lv_iload hx hb dX8_commonByClimbing_62 (lv_at hl 4 rfl) ?_
          refine cx_ald C hW 11 0 (j := u) rfl rfl rfl (by have := hO.1; omega) (by decide) dX8_commonByClimbing_64 ?_
          refine r_eq (y := (nI k_)) (by rw [hO.2.2.1 u hu, hk1]; rfl) ?_
          refine lv_istore (lv' := [(4, .int (nI k_)), (8, .int (nI w)), (7, .int (nI (dep pr v))), (6, .int (nI (dep pr u))), (5, .int (nI v)), (3, .int (nI j)), (2, .int (nI i)), (1, .ref a5), (0, .ref t0)]) hx hb dX8_commonByClimbing_65 hl (by decide) rfl (fun ls hl => ?_)
          refine lv_iinc (v := (nI (dep pr k_))) (lv' := [(6, .int (nI (dep pr k_))), (4, .int (nI k_)), (8, .int (nI w)), (7, .int (nI (dep pr v))), (5, .int (nI v)), (3, .int (nI j)), (2, .int (nI i)), (1, .ref a5), (0, .ref t0)]) hx hb dX8_commonByClimbing_67 hl (k := 3) rfl (by rw [hk2]; exact pd_1 _) (by decide) rfl (fun ls hl => ?_)
          refine lv_goto (tgt := 85) hx hb dX8_commonByClimbing_70 (by decide) ?_
          refine lv_iinc (v := (nI (w + 1))) (lv' := [(8, .int (nI (w + 1))), (6, .int (nI (dep pr k_))), (4, .int (nI k_)), (7, .int (nI (dep pr v))), (5, .int (nI v)), (3, .int (nI j)), (2, .int (nI i)), (1, .ref a5), (0, .ref t0)]) hx hb dX8_commonByClimbing_85 hl (k := 2) rfl (nI_1 _) (by decide) rfl (fun ls hl => ?_)
          refine lv_goto (tgt := 25) hx hb dX8_commonByClimbing_88 (by decide) ?_
          exact ih_25 (k_, v, (w + 1)) _ _ _ (by first | omega | (dsimp only; omega)) ⟨_, rfl, lv_sub hl [0, 3, 1, 4, 2, 5, 6, 7, 8] rfl, hW, ⟨by first | assumption | omega, by first | assumption | omega, by dsimp only; omega⟩⟩
      · refine lv_iload hx hb dX8_commonByClimbing_44 (lv_at hl 1 rfl) ?_
        refine r_ifneN hx hb (a := dep pr v) (by have h1 := hO.1; have := dep_le hO.2.2.2.1 _ hu; have := dep_le hO.2.2.2.1 _ hv; omega) (tgt := 51) dX8_commonByClimbing_46 (by decide) (fun c_46 => ?_) (fun c_46 => ?_)
        · refine lv_iload hx hb dX8_commonByClimbing_51 (lv_at hl 2 rfl) ?_
          refine lv_iload hx hb dX8_commonByClimbing_53 (lv_at hl 1 rfl) ?_
          refine r_ltN hx hb (a := dep pr u) (b := dep pr v) (by have h1 := hO.1; have := dep_le hO.2.2.2.1 _ hu; have := dep_le hO.2.2.2.1 _ hv; omega) (by have h1 := hO.1; have := dep_le hO.2.2.2.1 _ hu; have := dep_le hO.2.2.2.1 _ hv; omega) (tgt := 73) dX8_commonByClimbing_55 (by decide) (fun c_55 => ?_) (fun c_55 => ?_)
          · obtain ⟨k_, hk1, hk2, hk3⟩ := dep_pos hO.2.2.2.1 hv (by omega)
            refine lv_aload_n hx hb dX8_commonByClimbing_73 rfl (lv_at hl 7 rfl) ?_
            refine cx_getN C hZ hW 7 3 rfl rfl (by decide) inX5 nw_158 rfl rfl dX8_commonByClimbing_74 ?_
            refine lv_iload hx hb dX8_commonByClimbing_77 (lv_at hl 3 rfl) ?_
            refine cx_ald C hW 11 0 (j := v) rfl rfl rfl (by have := hO.1; omega) (by decide) dX8_commonByClimbing_79 ?_
            refine r_eq (y := (nI k_)) (by rw [hO.2.2.1 v hv, hk1]; rfl) ?_
            refine lv_istore (lv' := [(5, .int (nI k_)), (8, .int (nI w)), (7, .int (nI (dep pr v))), (6, .int (nI (dep pr u))), (4, .int (nI u)), (3, .int (nI j)), (2, .int (nI i)), (1, .ref a5), (0, .ref t0)]) hx hb dX8_commonByClimbing_80 hl (by decide) rfl (fun ls hl => ?_)
            refine lv_iinc (v := (nI (dep pr k_))) (lv' := [(7, .int (nI (dep pr k_))), (5, .int (nI k_)), (8, .int (nI w)), (6, .int (nI (dep pr u))), (4, .int (nI u)), (3, .int (nI j)), (2, .int (nI i)), (1, .ref a5), (0, .ref t0)]) hx hb dX8_commonByClimbing_82 hl (k := 2) rfl (by rw [hk2]; exact pd_1 _) (by decide) rfl (fun ls hl => ?_)
            refine lv_iinc (v := (nI (w + 1))) (lv' := [(8, .int (nI (w + 1))), (7, .int (nI (dep pr k_))), (5, .int (nI k_)), (6, .int (nI (dep pr u))), (4, .int (nI u)), (3, .int (nI j)), (2, .int (nI i)), (1, .ref a5), (0, .ref t0)]) hx hb dX8_commonByClimbing_85 hl (k := 2) rfl (nI_1 _) (by decide) rfl (fun ls hl => ?_)
            refine lv_goto (tgt := 25) hx hb dX8_commonByClimbing_88 (by decide) ?_
            exact ih_25 (u, k_, (w + 1)) _ _ _ (by first | omega | (dsimp only; omega)) ⟨_, rfl, lv_sub hl [0, 1, 3, 2, 4, 5, 6, 7, 8] rfl, hW, ⟨by first | assumption | omega, by first | assumption | omega, by dsimp only; omega⟩⟩
          · obtain ⟨k_, hk1, hk2, hk3⟩ := dep_pos hO.2.2.2.1 hu (by omega)
            refine lv_aload_n hx hb dX8_commonByClimbing_58 rfl (lv_at hl 7 rfl) ?_
            refine cx_getN C hZ hW 7 3 rfl rfl (by decide) inX5 nw_158 rfl rfl dX8_commonByClimbing_59 ?_
            refine lv_iload hx hb dX8_commonByClimbing_62 (lv_at hl 4 rfl) ?_
            refine cx_ald C hW 11 0 (j := u) rfl rfl rfl (by have := hO.1; omega) (by decide) dX8_commonByClimbing_64 ?_
            refine r_eq (y := (nI k_)) (by rw [hO.2.2.1 u hu, hk1]; rfl) ?_
            refine lv_istore (lv' := [(4, .int (nI k_)), (8, .int (nI w)), (7, .int (nI (dep pr v))), (6, .int (nI (dep pr u))), (5, .int (nI v)), (3, .int (nI j)), (2, .int (nI i)), (1, .ref a5), (0, .ref t0)]) hx hb dX8_commonByClimbing_65 hl (by decide) rfl (fun ls hl => ?_)
            refine lv_iinc (v := (nI (dep pr k_))) (lv' := [(6, .int (nI (dep pr k_))), (4, .int (nI k_)), (8, .int (nI w)), (7, .int (nI (dep pr v))), (5, .int (nI v)), (3, .int (nI j)), (2, .int (nI i)), (1, .ref a5), (0, .ref t0)]) hx hb dX8_commonByClimbing_67 hl (k := 3) rfl (by rw [hk2]; exact pd_1 _) (by decide) rfl (fun ls hl => ?_)
            refine lv_goto (tgt := 85) hx hb dX8_commonByClimbing_70 (by decide) ?_
            refine lv_iinc (v := (nI (w + 1))) (lv' := [(8, .int (nI (w + 1))), (6, .int (nI (dep pr k_))), (4, .int (nI k_)), (7, .int (nI (dep pr v))), (5, .int (nI v)), (3, .int (nI j)), (2, .int (nI i)), (1, .ref a5), (0, .ref t0)]) hx hb dX8_commonByClimbing_85 hl (k := 2) rfl (nI_1 _) (by decide) rfl (fun ls hl => ?_)
            refine lv_goto (tgt := 25) hx hb dX8_commonByClimbing_88 (by decide) ?_
            exact ih_25 (k_, v, (w + 1)) _ _ _ (by first | omega | (dsimp only; omega)) ⟨_, rfl, lv_sub hl [0, 3, 1, 4, 2, 5, 6, 7, 8] rfl, hW, ⟨by first | assumption | omega, by first | assumption | omega, by dsimp only; omega⟩⟩
        · refine lv_iconst (v := (-1)) hx hb dX8_commonByClimbing_49 (by decide) ?_
          exact cx_iret C hr hlocks rfl hW ⟨Nat.le_of_ble_eq_true rfl, Nat.le_of_ble_eq_true rfl⟩ (⟨⟨none, rfl, fun k h => by cases h⟩, rfl⟩) dX8_commonByClimbing_50
theorem dX8_fillRow_0 : decode cX8_fillRow 0 = .ok (.aload_n 0, 1) := by decide +kernel
theorem dX8_fillRow_1 : decode cX8_fillRow 1 = .ok (.iload_n 1, 1) := by decide +kernel
theorem dX8_fillRow_2 : decode cX8_fillRow 2 = .ok (.invokevirtual 31, 3) := by decide +kernel
theorem dX8_fillRow_5 : decode cX8_fillRow 5 = .ok (.istore_n 3, 1) := by decide +kernel
theorem dX8_fillRow_6 : decode cX8_fillRow 6 = .ok (.iload_n 1, 1) := by decide +kernel
theorem dX8_fillRow_7 : decode cX8_fillRow 7 = .ok (.istore 4, 2) := by decide +kernel
theorem dX8_fillRow_9 : decode cX8_fillRow 9 = .ok (.iload_n 3, 1) := by decide +kernel
theorem dX8_fillRow_10 : decode cX8_fillRow 10 = .ok (.istore 5, 2) := by decide +kernel
theorem dX8_fillRow_12 : decode cX8_fillRow 12 = .ok (.iload 5, 2) := by decide +kernel
theorem dX8_fillRow_14 : decode cX8_fillRow 14 = .ok (.ifCond .lt 24, 3) := by decide +kernel
theorem dX8_fillRow_17 : decode cX8_fillRow 17 = .ok (.aload_n 2, 1) := by decide +kernel
theorem dX8_fillRow_18 : decode cX8_fillRow 18 = .ok (.iload 5, 2) := by decide +kernel
theorem dX8_fillRow_20 : decode cX8_fillRow 20 = .ok (.iload 4, 2) := by decide +kernel
theorem dX8_fillRow_22 : decode cX8_fillRow 22 = .ok (.iastore, 1) := by decide +kernel
theorem dX8_fillRow_23 : decode cX8_fillRow 23 = .ok (.aload_n 0, 1) := by decide +kernel
theorem dX8_fillRow_24 : decode cX8_fillRow 24 = .ok (.getfield 37, 3) := by decide +kernel
theorem dX8_fillRow_27 : decode cX8_fillRow 27 = .ok (.iload 4, 2) := by decide +kernel
theorem dX8_fillRow_29 : decode cX8_fillRow 29 = .ok (.iaload, 1) := by decide +kernel
theorem dX8_fillRow_30 : decode cX8_fillRow 30 = .ok (.istore 4, 2) := by decide +kernel
theorem dX8_fillRow_32 : decode cX8_fillRow 32 = .ok (.iinc 5 (-1), 3) := by decide +kernel
theorem dX8_fillRow_35 : decode cX8_fillRow 35 = .ok (.goto (-23), 3) := by decide +kernel
theorem dX8_fillRow_38 : decode cX8_fillRow 38 = .ok (.iload_n 3, 1) := by decide +kernel
theorem dX8_fillRow_39 : decode cX8_fillRow 39 = .ok (.iconst 1, 1) := by decide +kernel
theorem dX8_fillRow_40 : decode cX8_fillRow 40 = .ok (.iadd, 1) := by decide +kernel
theorem dX8_fillRow_41 : decode cX8_fillRow 41 = .ok (.ireturn, 1) := by decide +kernel
set_option maxHeartbeats 2000000 in
set_option maxRecDepth 20000 in
theorem k_X8_fillRow (l : Launch) (hfl : l.stackTraces = false) (D : va_G) (aT : Nat → ClassId) (a5 : Nat) (a6 : Nat) (a7 : Nat) (a8 : Nat) (a9 : Nat) (fI : Nat → Int32) (fN : Nat → Int32) (fW : Nat → Int32) (fP : Nat → Int32) (nm : Nat) (nx : Int32) (idn : Nat → Nat) (pr : Nat → Option Nat) (tn : Nat → Nat) (hO : MoC fI fN fP nm idn pr tn) (z0 : Nat) (rr : Nat → Int32) (k : Nat) (hk : k < nm) : CxG l yX8_fillRow cX8_fillRow 6 (some (.int)) 1 0 0 23 D aT [.ref a5, .int (nI k), .ref z0] [(a5, .inr (8, [.ref a6, .ref a7, .ref a8, .ref a9, .int (nI nm), .int nx])), (a6, .inl (aT 0, 12, .inl fI)), (a7, .inl (aT 0, 12, .inl fN)), (a8, .inl (aT 0, 12, .inl fW)), (a9, .inl (aT 0, 12, .inl fP)), (z0, .inl (aT 0, 12, .inl rr))] (qI D aT (fun r W1 => ∃ g1 : Nat → Int32, (∀ q, 0 ≤ q → q ≤ dep pr k → ∃ j, j < nm ∧ g1 q = nI j) ∧ r = nI (dep pr k + 1) ∧ W1 = [(a5, .inr (8, [.ref a6, .ref a7, .ref a8, .ref a9, .int (nI nm), .int nx])), (a6, .inl (aT 0, 12, .inl fI)), (a7, .inl (aT 0, 12, .inl fN)), (a8, .inl (aT 0, 12, .inl fW)), (a9, .inl (aT 0, 12, .inl fP)), (z0, .inl (aT 0, 12, .inl g1))])) (fun _ _ => False) := by
  refine CxG.of RX8 (by decide +kernel) rfl (Nat.le_of_ble_eq_true rfl) ?_
  intro p e s m below meth c A ls C hml hl hA hr hlocks hex hnm hZ hW
  have hl : lv_has ls 6 [(0, .ref a5), (1, .int (nI k)), (2, .ref z0)] := hl
  have hx := C.1
  have hb := C.2.1
  refine lv_aload_n hx hb dX8_fillRow_0 rfl (lv_at hl 0 rfl) ?_
  refine lv_iload_n hx hb dX8_fillRow_1 rfl (lv_at hl 1 rfl) ?_
  refine cx_calli (Wr := [(z0, .inl (aT 0, 12, .inl rr))]) (cx_runV C hml hl.1 hZ hW hA (As := [.int (nI k)]) (rest := []) (k_X5_depthOf l hfl D aT a5 a6 a7 a8 a9 fI fN fW fP nm nx idn pr tn hO k hk) gV_X8_X5_depthOf_31 hV_X5_depthOf rfl ⟨Nat.le_of_ble_eq_true rfl, Nat.le_of_ble_eq_true rfl⟩ ⟨Nat.le_of_ble_eq_true rfl, Nat.le_of_ble_eq_true rfl⟩ [0, 1, 2, 3, 4] rfl (by decide) 0 8 rfl rfl rfl rfl (Nat.le_of_ble_eq_true rfl) dX8_fillRow_2) hW hA [0, 1, 2, 3, 4] [5] rfl rfl (by decide) (by decide) (fun _ _ _ _ _ _ h9 => h9.elim) (fun r_2 W_2 H locs hq hW => ?_)
  obtain ⟨rfl, rfl⟩ := hq
  have hW : CxB D [(z0, .inl (aT 0, 12, .inl rr)), (a5, .inr (8, [.ref a6, .ref a7, .ref a8, .ref a9, .int (nI nm), .int nx])), (a6, .inl (aT 0, 12, .inl fI)), (a7, .inl (aT 0, 12, .inl fN)), (a8, .inl (aT 0, 12, .inl fW)), (a9, .inl (aT 0, 12, .inl fP))] A s.heap H _ := hW
  refine lv_istore_n (lv' := [(3, .int (nI (dep pr k))), (0, .ref a5), (1, .int (nI k)), (2, .ref z0)]) hx hb dX8_fillRow_5 rfl hl (by decide) rfl (fun ls hl => ?_)
  refine lv_iload_n hx hb dX8_fillRow_6 rfl (lv_at hl 2 rfl) ?_
  refine lv_istore (lv' := [(4, .int (nI k)), (3, .int (nI (dep pr k))), (0, .ref a5), (1, .int (nI k)), (2, .ref z0)]) hx hb dX8_fillRow_7 hl (by decide) rfl (fun ls hl => ?_)
  refine lv_iload_n hx hb dX8_fillRow_9 rfl (lv_at hl 1 rfl) ?_
  refine lv_istore (lv' := [(5, .int (nI (dep pr k))), (4, .int (nI k)), (3, .int (nI (dep pr k))), (0, .ref a5), (1, .int (nI k)), (2, .ref z0)]) hx hb dX8_fillRow_10 hl (by decide) rfl (fun ls hl => ?_)
  have hl : lv_has ls 6 [(5, .int (nI (depO pr (some k)) + -1)), (4, .int (oi (some k))), (3, .int (nI (dep pr k))), (0, .ref a5), (1, .int (nI k)), (2, .ref z0)] := by
    rw [show nI (depO pr (some k)) + -1 = nI (dep pr k) from pd_1 _]
    exact hl
  refine W_loopH (σ := Option Nat × (Nat → Int32)) (fun z_ => oM z_.1) (fun z_ H locs g => ∃ ls, g = F0 m 12 ls [] ∧ lv_has ls 6 [(5, .int (nI (depO pr z_.1) + -1)), (4, .int (oi z_.1)), (3, .int (nI (dep pr k))), (2, .ref z0), (1, .int (nI k)), (0, .ref a5)] ∧ CxB D [(z0, .inl (aT 0, 12, .inl z_.2)), (a5, .inr (8, [.ref a6, .ref a7, .ref a8, .ref a9, .int (nI nm), .int nx])), (a6, .inl (aT 0, 12, .inl fI)), (a7, .inl (aT 0, 12, .inl fN)), (a8, .inl (aT 0, 12, .inl fW)), (a9, .inl (aT 0, 12, .inl fP))] A s.heap H locs ∧ (∀ j, z_.1 = some j → j < nm ∧ dep pr j ≤ dep pr k) ∧ ∀ q, depO pr z_.1 ≤ q → q ≤ dep pr k → ∃ j, j < nm ∧ z_.2 q = nI j) ?_ ((some k), rr) _ ⟨_, rfl, lv_sub hl [0, 1, 2, 5, 4, 3] rfl, hW, ⟨fun j hj => by cases hj; exact ⟨hk, Nat.le_refl _⟩, fun q h1 h2 => absurd (show dep pr k + 1 ≤ q from h1) (by omega)⟩⟩
  clear hW hl
  rintro ⟨o, f⟩ H locs g ⟨ls, rfl, hl, hW, ⟨hon, hf⟩⟩ ih_12
  dsimp only at hl hW hon hf ⊢
  cases o with
  | none =>
    have hl : lv_has ls 6 [(5, .int (nI 0 + -1)), (4, .int (-1)), (3, .int (nI (dep pr k))), (2, .ref z0), (1, .int (nI k)), (0, .ref a5)] := hl
    refine lv_iload hx hb dX8_fillRow_12 (lv_at hl 0 rfl) ?_
    refine lv_if_lt hx hb (x := (nI 0 + -1)) (tgt := 38) dX8_fillRow_14 (by decide) (fun c_14 => ?_) (fun c_14 => ?_)
    · refine lv_iload_n hx hb dX8_fillRow_38 rfl (lv_at hl 2 rfl) ?_
      refine lv_iconst (v := nI 1) hx hb dX8_fillRow_39 (by decide) ?_
      refine r_iaddN hx hb (a := dep pr k) (b := 1) dX8_fillRow_40 ?_
      have hW : CxB D [(a5, .inr (8, [.ref a6, .ref a7, .ref a8, .ref a9, .int (nI nm), .int nx])), (a6, .inl (aT 0, 12, .inl fI)), (a7, .inl (aT 0, 12, .inl fN)), (a8, .inl (aT 0, 12, .inl fW)), (a9, .inl (aT 0, 12, .inl fP)), (z0, .inl (aT 0, 12, .inl f))] A s.heap H _ := cx_drop hW [1, 2, 3, 4, 5, 0] rfl (by decide)
      exact cx_iret C hr hlocks rfl hW ⟨Nat.le_of_ble_eq_true rfl, Nat.le_of_ble_eq_true rfl⟩ (⟨f, hf, rfl, rfl⟩) dX8_fillRow_41
    · exact absurd (by decide) c_14
  | some j_ =>
    have hl : lv_has ls 6 [(5, .int (nI (dep pr j_))), (4, .int (nI j_)), (3, .int (nI (dep pr k))), (2, .ref z0), (1, .int (nI k)), (0, .ref a5)] := by
      rw [show nI (dep pr j_) = nI (depO pr (some j_)) + -1 from (pd_1 _).symm]
      exact hl
    refine lv_iload hx hb dX8_fillRow_12 (lv_at hl 0 rfl) ?_
    refine lv_if_lt hx hb (x := (nI (dep pr j_))) (tgt := 38) dX8_fillRow_14 (by decide) (fun c_14 => ?_) (fun c_14 => ?_)
    · exact absurd c_14 (nI_pos (by have h1 := hO.1; have h2 := (hon _ rfl).1; have h3 := dep_le hO.2.2.2.1 _ h2; omega))
    · refine lv_aload_n hx hb dX8_fillRow_17 rfl (lv_at hl 3 rfl) ?_
      refine lv_iload hx hb dX8_fillRow_18 (lv_at hl 0 rfl) ?_
      refine lv_iload hx hb dX8_fillRow_20 (lv_at hl 1 rfl) ?_
      refine cx_ast C hW 0 0 (j := dep pr j_) (W1 := [(z0, .inl (aT 0, 12, .inl (upd f (dep pr j_) ((nI j_))))), (a5, .inr (8, [.ref a6, .ref a7, .ref a8, .ref a9, .int (nI nm), .int nx])), (a6, .inl (aT 0, 12, .inl fI)), (a7, .inl (aT 0, 12, .inl fN)), (a8, .inl (aT 0, 12, .inl fW)), (a9, .inl (aT 0, 12, .inl fP))]) rfl rfl rfl (by have h1 := hO.1; have h2 := (hon _ rfl).1; have h3 := dep_le hO.2.2.2.1 _ h2; omega) (by decide) rfl dX8_fillRow_22 (fun H locs hW => ?_)
      refine lv_aload_n hx hb dX8_fillRow_23 rfl (lv_at hl 5 rfl) ?_
      refine cx_getN C hZ hW 1 3 rfl rfl (by decide) inX5 nw_158 rfl rfl dX8_fillRow_24 ?_
      refine lv_iload hx hb dX8_fillRow_27 (lv_at hl 1 rfl) ?_
      refine cx_ald C hW 5 0 (j := j_) rfl rfl rfl (by have h1 := hO.1; have h2 := (hon _ rfl).1; have h3 := dep_le hO.2.2.2.1 _ h2; omega) (by decide) dX8_fillRow_29 ?_
      refine r_eq (y := (oi (pr j_))) (hO.2.2.1 _ (hon _ rfl).1) ?_
      refine lv_istore (lv' := [(4, .int (oi (pr j_))), (5, .int (nI (dep pr j_))), (3, .int (nI (dep pr k))), (2, .ref z0), (1, .int (nI k)), (0, .ref a5)]) hx hb dX8_fillRow_30 hl (by decide) rfl (fun ls hl => ?_)
      refine lv_iinc (v := (nI (depO pr (pr j_)) + -1)) (lv' := [(5, .int (nI (depO pr (pr j_)) + -1)), (4, .int (oi (pr j_))), (3, .int (nI (dep pr k))), (2, .ref z0), (1, .int (nI k)), (0, .ref a5)]) hx hb dX8_fillRow_32 hl (k := 1) rfl (by rw [← dep_O hO.2.2.2.1 (hon _ rfl).1]; rfl) (by decide) rfl (fun ls hl => ?_)
      refine lv_goto (tgt := 12) hx hb dX8_fillRow_35 (by decide) ?_
      exact ih_12 ((pr j_), (upd f (dep pr j_) ((nI j_)))) _ _ _ (oM_lt hO.2.2.2.1 (hon _ rfl).1) ⟨_, rfl, lv_sub hl [0, 1, 2, 3, 4, 5] rfl, hW, ⟨fun i hi => by have h1 := hO.2.2.2.1 j_ i (hon _ rfl).1 hi; have h2 := hon _ rfl; have h3 := dep_some hO.2.2.2.1 h2.1 hi; exact ⟨by omega, by omega⟩, fr_step hO.2.2.2.1 (hon _ rfl).1 hf⟩⟩
theorem dX8_commonByRows_0 : decode cX8_commonByRows 0 = .ok (.aload_n 1, 1) := by decide +kernel
theorem dX8_commonByRows_1 : decode cX8_commonByRows 1 = .ok (.iload_n 2, 1) := by decide +kernel
theorem dX8_commonByRows_2 : decode cX8_commonByRows 2 = .ok (.aload_n 0, 1) := by decide +kernel
theorem dX8_commonByRows_3 : decode cX8_commonByRows 3 = .ok (.getfield 9, 3) := by decide +kernel
theorem dX8_commonByRows_6 : decode cX8_commonByRows 6 = .ok (.invokestatic 40, 3) := by decide +kernel
theorem dX8_commonByRows_9 : decode cX8_commonByRows 9 = .ok (.istore 4, 2) := by decide +kernel
theorem dX8_commonByRows_11 : decode cX8_commonByRows 11 = .ok (.aload_n 1, 1) := by decide +kernel
theorem dX8_commonByRows_12 : decode cX8_commonByRows 12 = .ok (.iload_n 3, 1) := by decide +kernel
theorem dX8_commonByRows_13 : decode cX8_commonByRows 13 = .ok (.aload_n 0, 1) := by decide +kernel
theorem dX8_commonByRows_14 : decode cX8_commonByRows 14 = .ok (.getfield 15, 3) := by decide +kernel
theorem dX8_commonByRows_17 : decode cX8_commonByRows 17 = .ok (.invokestatic 40, 3) := by decide +kernel
theorem dX8_commonByRows_20 : decode cX8_commonByRows 20 = .ok (.istore 5, 2) := by decide +kernel
theorem dX8_commonByRows_22 : decode cX8_commonByRows 22 = .ok (.iconst (-1), 1) := by decide +kernel
theorem dX8_commonByRows_23 : decode cX8_commonByRows 23 = .ok (.istore 6, 2) := by decide +kernel
theorem dX8_commonByRows_25 : decode cX8_commonByRows 25 = .ok (.iconst 0, 1) := by decide +kernel
theorem dX8_commonByRows_26 : decode cX8_commonByRows 26 = .ok (.istore 7, 2) := by decide +kernel
theorem dX8_commonByRows_28 : decode cX8_commonByRows 28 = .ok (.iload 7, 2) := by decide +kernel
theorem dX8_commonByRows_30 : decode cX8_commonByRows 30 = .ok (.iload 4, 2) := by decide +kernel
theorem dX8_commonByRows_32 : decode cX8_commonByRows 32 = .ok (.if_icmp .ge 45, 3) := by decide +kernel
theorem dX8_commonByRows_35 : decode cX8_commonByRows 35 = .ok (.iload 7, 2) := by decide +kernel
theorem dX8_commonByRows_37 : decode cX8_commonByRows 37 = .ok (.iload 5, 2) := by decide +kernel
theorem dX8_commonByRows_39 : decode cX8_commonByRows 39 = .ok (.if_icmp .ge 38, 3) := by decide +kernel
theorem dX8_commonByRows_42 : decode cX8_commonByRows 42 = .ok (.aload_n 0, 1) := by decide +kernel
theorem dX8_commonByRows_43 : decode cX8_commonByRows 43 = .ok (.getfield 9, 3) := by decide +kernel
theorem dX8_commonByRows_46 : decode cX8_commonByRows 46 = .ok (.iload 7, 2) := by decide +kernel
theorem dX8_commonByRows_48 : decode cX8_commonByRows 48 = .ok (.iaload, 1) := by decide +kernel
theorem dX8_commonByRows_49 : decode cX8_commonByRows 49 = .ok (.aload_n 0, 1) := by decide +kernel
theorem dX8_commonByRows_50 : decode cX8_commonByRows 50 = .ok (.getfield 15, 3) := by decide +kernel
theorem dX8_commonByRows_53 : decode cX8_commonByRows 53 = .ok (.iload 7, 2) := by decide +kernel
theorem dX8_commonByRows_55 : decode cX8_commonByRows 55 = .ok (.iaload, 1) := by decide +kernel
theorem dX8_commonByRows_56 : decode cX8_commonByRows 56 = .ok (.if_icmp .eq 6, 3) := by decide +kernel
theorem dX8_commonByRows_59 : decode cX8_commonByRows 59 = .ok (.iload 6, 2) := by decide +kernel
theorem dX8_commonByRows_61 : decode cX8_commonByRows 61 = .ok (.ireturn, 1) := by decide +kernel
theorem dX8_commonByRows_62 : decode cX8_commonByRows 62 = .ok (.aload_n 0, 1) := by decide +kernel
theorem dX8_commonByRows_63 : decode cX8_commonByRows 63 = .ok (.getfield 9, 3) := by decide +kernel
theorem dX8_commonByRows_66 : decode cX8_commonByRows 66 = .ok (.iload 7, 2) := by decide +kernel
theorem dX8_commonByRows_68 : decode cX8_commonByRows 68 = .ok (.iaload, 1) := by decide +kernel
theorem dX8_commonByRows_69 : decode cX8_commonByRows 69 = .ok (.istore 6, 2) := by decide +kernel
theorem dX8_commonByRows_71 : decode cX8_commonByRows 71 = .ok (.iinc 7 1, 3) := by decide +kernel
theorem dX8_commonByRows_74 : decode cX8_commonByRows 74 = .ok (.goto (-46), 3) := by decide +kernel
theorem dX8_commonByRows_77 : decode cX8_commonByRows 77 = .ok (.iload 6, 2) := by decide +kernel
theorem dX8_commonByRows_79 : decode cX8_commonByRows 79 = .ok (.ireturn, 1) := by decide +kernel
theorem gS_X8_X8_fillRow_40 : GoodIn gw (va_wsS RX8 40 yX8_fillRow (Cond.code yX8_fillRow cX8_fillRow 6 (some .int) :: gw)) := gdS2 gw_535 gw_536 gw_72 gw_537
theorem hS_X8_fillRow : yX8_fillRow.cls ≠ "java/lang/invoke/MethodHandle" ∧ yX8_fillRow.cls ≠ "java/lang/invoke/VarHandle" ∧ (parseMethodDescriptor yX8_fillRow.desc).map (fun d => d.parameters.length) = some 3 := ⟨by decide +kernel, by decide +kernel, by decide +kernel⟩
set_option maxHeartbeats 2000000 in
set_option maxRecDepth 20000 in
theorem k_X8_commonByRows (l : Launch) (hfl : l.stackTraces = false) (D : va_G) (aT : Nat → ClassId) (t0 : Nat) (t1 : Nat) (t2 : Nat) (t3 : Nat) (t4 : Nat) (t5 : Nat) (t6 : Nat) (r1 : Nat → Int32) (r2 : Nat → Int32) (r3 : Nat → Int32) (r4 : Nat → Int32) (r5 : Nat → Int64) (r6 : Nat → Int64) (a5 : Nat) (a6 : Nat) (a7 : Nat) (a8 : Nat) (a9 : Nat) (fI : Nat → Int32) (fN : Nat → Int32) (fW : Nat → Int32) (fP : Nat → Int32) (nm : Nat) (nx : Int32) (idn : Nat → Nat) (pr : Nat → Option Nat) (tn : Nat → Nat) (hO : MoC fI fN fP nm idn pr tn) (i : Nat) (j : Nat) (hi : i < nm) (hj : j < nm) : CxG l yX8_commonByRows cX8_commonByRows 8 (some (.int)) 2 0 0 48 D aT [.ref t0, .ref a5, .int (nI i), .int (nI j)] [(t0, .inr (11, [.ref t1, .ref t2, .ref t3, .ref t4, .ref t5, .ref t6])), (t1, .inl (aT 0, 12, .inl r1)), (t2, .inl (aT 0, 12, .inl r2)), (t3, .inl (aT 0, 12, .inl r3)), (t4, .inl (aT 0, 12, .inl r4)), (t5, .inl (aT 2, 12, .inr (.inl r5))), (t6, .inl (aT 2, 12, .inr (.inl r6))), (a5, .inr (8, [.ref a6, .ref a7, .ref a8, .ref a9, .int (nI nm), .int nx])), (a6, .inl (aT 0, 12, .inl fI)), (a7, .inl (aT 0, 12, .inl fN)), (a8, .inl (aT 0, 12, .inl fW)), (a9, .inl (aT 0, 12, .inl fP))] (qI D aT (fun r W1 => (∃ o : Option Nat, r = oi o ∧ ∀ k, o = some k → k < nm) ∧ ∃ g1 g2 : Nat → Int32, W1 = [(t0, .inr (11, [.ref t1, .ref t2, .ref t3, .ref t4, .ref t5, .ref t6])), (t1, .inl (aT 0, 12, .inl g1)), (t2, .inl (aT 0, 12, .inl g2)), (t3, .inl (aT 0, 12, .inl r3)), (t4, .inl (aT 0, 12, .inl r4)), (t5, .inl (aT 2, 12, .inr (.inl r5))), (t6, .inl (aT 2, 12, .inr (.inl r6))), (a5, .inr (8, [.ref a6, .ref a7, .ref a8, .ref a9, .int (nI nm), .int nx])), (a6, .inl (aT 0, 12, .inl fI)), (a7, .inl (aT 0, 12, .inl fN)), (a8, .inl (aT 0, 12, .inl fW)), (a9, .inl (aT 0, 12, .inl fP))])) (fun _ _ => False) := by
  refine CxG.of RX8 (by decide +kernel) rfl (Nat.le_of_ble_eq_true rfl) ?_
  intro p e s m below meth c A ls C hml hl hA hr hlocks hex hnm hZ hW
  have hl : lv_has ls 8 [(0, .ref t0), (1, .ref a5), (2, .int (nI i)), (3, .int (nI j))] := hl
  have hx := C.1
  have hb := C.2.1
  refine lv_aload_n hx hb dX8_commonByRows_0 rfl (lv_at hl 1 rfl) ?_
  refine lv_iload_n hx hb dX8_commonByRows_1 rfl (lv_at hl 2 rfl) ?_
  refine lv_aload_n hx hb dX8_commonByRows_2 rfl (lv_at hl 0 rfl) ?_
  refine cx_get C hW 0 0 rfl rfl (by decide) inX8 gw_243 rfl rfl dX8_commonByRows_3 ?_
  refine cx_calli (Wr := [(t0, .inr (11, [.ref t1, .ref t2, .ref t3, .ref t4, .ref t5, .ref t6])), (t2, .inl (aT 0, 12, .inl r2)), (t3, .inl (aT 0, 12, .inl r3)), (t4, .inl (aT 0, 12, .inl r4)), (t5, .inl (aT 2, 12, .inr (.inl r5))), (t6, .inl (aT 2, 12, .inr (.inl r6)))]) (cx_runS C hml hl.1 hZ hW hA (As := [.ref a5, .int (nI i), .ref t1]) (rest := []) (k_X8_fillRow l hfl D aT a5 a6 a7 a8 a9 fI fN fW fP nm nx idn pr tn hO t1 r1 i hi) gS_X8_X8_fillRow_40 hS_X8_fillRow rfl ⟨Nat.le_of_ble_eq_true rfl, Nat.le_of_ble_eq_true rfl⟩ ⟨Nat.le_of_ble_eq_true rfl, Nat.le_of_ble_eq_true rfl⟩ [7, 8, 9, 10, 11, 1] rfl (by decide) rfl (Nat.le_of_ble_eq_true rfl) dX8_commonByRows_6) hW hA [7, 8, 9, 10, 11, 1] [0, 2, 3, 4, 5, 6] rfl rfl (by decide) (by decide) (fun _ _ _ _ _ _ h9 => h9.elim) (fun r_6 W_6 H locs hq hW => ?_)
  obtain ⟨q1_6, hq_6, rfl, rfl⟩ := hq
  have hW : CxB D [(t0, .inr (11, [.ref t1, .ref t2, .ref t3, .ref t4, .ref t5, .ref t6])), (t2, .inl (aT 0, 12, .inl r2)), (t3, .inl (aT 0, 12, .inl r3)), (t4, .inl (aT 0, 12, .inl r4)), (t5, .inl (aT 2, 12, .inr (.inl r5))), (t6, .inl (aT 2, 12, .inr (.inl r6))), (a5, .inr (8, [.ref a6, .ref a7, .ref a8, .ref a9, .int (nI nm), .int nx])), (a6, .inl (aT 0, 12, .inl fI)), (a7, .inl (aT 0, 12, .inl fN)), (a8, .inl (aT 0, 12, .inl fW)), (a9, .inl (aT 0, 12, .inl fP)), (t1, .inl (aT 0, 12, .inl q1_6))] A s.heap H _ := hW
  refine lv_istore (lv' := [(4, .int (nI (dep pr i + 1))), (0, .ref t0), (1, .ref a5), (2, .int (nI i)), (3, .int (nI j))]) hx hb dX8_commonByRows_9 hl (by decide) rfl (fun ls hl => ?_)
  refine lv_aload_n hx hb dX8_commonByRows_11 rfl (lv_at hl 2 rfl) ?_
  refine lv_iload_n hx hb dX8_commonByRows_12 rfl (lv_at hl 4 rfl) ?_
  refine lv_aload_n hx hb dX8_commonByRows_13 rfl (lv_at hl 1 rfl) ?_
  refine cx_get C hW 0 1 rfl rfl (by decide) inX8 gw_244 rfl rfl dX8_commonByRows_14 ?_
  refine cx_calli (Wr := [(t0, .inr (11, [.ref t1, .ref t2, .ref t3, .ref t4, .ref t5, .ref t6])), (t3, .inl (aT 0, 12, .inl r3)), (t4, .inl (aT 0, 12, .inl r4)), (t5, .inl (aT 2, 12, .inr (.inl r5))), (t6, .inl (aT 2, 12, .inr (.inl r6))), (t1, .inl (aT 0, 12, .inl q1_6))]) (cx_runS C hml hl.1 hZ hW hA (As := [.ref a5, .int (nI j), .ref t2]) (rest := []) (k_X8_fillRow l hfl D aT a5 a6 a7 a8 a9 fI fN fW fP nm nx idn pr tn hO t2 r2 j hj) gS_X8_X8_fillRow_40 hS_X8_fillRow rfl ⟨Nat.le_of_ble_eq_true rfl, Nat.le_of_ble_eq_true rfl⟩ ⟨Nat.le_of_ble_eq_true rfl, Nat.le_of_ble_eq_true rfl⟩ [6, 7, 8, 9, 10, 1] rfl (by decide) rfl (Nat.le_of_ble_eq_true rfl) dX8_commonByRows_17) hW hA [6, 7, 8, 9, 10, 1] [0, 2, 3, 4, 5, 11] rfl rfl (by decide) (by decide) (fun _ _ _ _ _ _ h9 => h9.elim) (fun r_17 W_17 H locs hq hW => ?_)
  obtain ⟨q1_17, hq_17, rfl, rfl⟩ := hq
  have hW : CxB D [(t0, .inr (11, [.ref t1, .ref t2, .ref t3, .ref t4, .ref t5, .ref t6])), (t3, .inl (aT 0, 12, .inl r3)), (t4, .inl (aT 0, 12, .inl r4)), (t5, .inl (aT 2, 12, .inr (.inl r5))), (t6, .inl (aT 2, 12, .inr (.inl r6))), (t1, .inl (aT 0, 12, .inl q1_6)), (a5, .inr (8, [.ref a6, .ref a7, .ref a8, .ref a9, .int (nI nm), .int nx])), (a6, .inl (aT 0, 12, .inl fI)), (a7, .inl (aT 0, 12, .inl fN)), (a8, .inl (aT 0, 12, .inl fW)), (a9, .inl (aT 0, 12, .inl fP)), (t2, .inl (aT 0, 12, .inl q1_17))] A s.heap H _ := hW
  refine lv_istore (lv' := [(5, .int (nI (dep pr j + 1))), (4, .int (nI (dep pr i + 1))), (0, .ref t0), (1, .ref a5), (2, .int (nI i)), (3, .int (nI j))]) hx hb dX8_commonByRows_20 hl (by decide) rfl (fun ls hl => ?_)
  refine lv_iconst (v := (-1)) hx hb dX8_commonByRows_22 (by decide) ?_
  refine lv_istore (lv' := [(6, .int (-1)), (5, .int (nI (dep pr j + 1))), (4, .int (nI (dep pr i + 1))), (0, .ref t0), (1, .ref a5), (2, .int (nI i)), (3, .int (nI j))]) hx hb dX8_commonByRows_23 hl (by decide) rfl (fun ls hl => ?_)
  refine lv_iconst (v := nI 0) hx hb dX8_commonByRows_25 (by decide) ?_
  refine lv_istore (lv' := [(7, .int (nI 0)), (6, .int (-1)), (5, .int (nI (dep pr j + 1))), (4, .int (nI (dep pr i + 1))), (0, .ref t0), (1, .ref a5), (2, .int (nI i)), (3, .int (nI j))]) hx hb dX8_commonByRows_26 hl (by decide) rfl (fun ls hl => ?_)
  refine W_loopH (σ := Nat × Option Nat) (fun z_ => 12 - z_.1) (fun z_ H locs g => ∃ ls, g = F0 m 28 ls [] ∧ lv_has ls 8 [(7, .int (nI z_.1)), (6, .int (oi z_.2)), (5, .int (nI (dep pr j + 1))), (4, .int (nI (dep pr i + 1))), (3, .int (nI j)), (2, .int (nI i)), (1, .ref a5), (0, .ref t0)] ∧ CxB D [(t0, .inr (11, [.ref t1, .ref t2, .ref t3, .ref t4, .ref t5, .ref t6])), (t3, .inl (aT 0, 12, .inl r3)), (t4, .inl (aT 0, 12, .inl r4)), (t5, .inl (aT 2, 12, .inr (.inl r5))), (t6, .inl (aT 2, 12, .inr (.inl r6))), (t1, .inl (aT 0, 12, .inl q1_6)), (a5, .inr (8, [.ref a6, .ref a7, .ref a8, .ref a9, .int (nI nm), .int nx])), (a6, .inl (aT 0, 12, .inl fI)), (a7, .inl (aT 0, 12, .inl fN)), (a8, .inl (aT 0, 12, .inl fW)), (a9, .inl (aT 0, 12, .inl fP)), (t2, .inl (aT 0, 12, .inl q1_17))] A s.heap H locs ∧ z_.1 ≤ 12 ∧ ∀ k, z_.2 = some k → k < nm) ?_ (0, none) _ ⟨_, rfl, lv_sub hl [0, 1, 2, 3, 7, 6, 5, 4] rfl, hW, ⟨by dsimp only; omega, fun k h => by cases h⟩⟩
  clear hW hl
  rintro ⟨w, o⟩ H locs g ⟨ls, rfl, hl, hW, ⟨hw, ho⟩⟩ ih_28
  dsimp only at hl hW hw ho ⊢
  refine lv_iload hx hb dX8_commonByRows_28 (lv_at hl 0 rfl) ?_
  refine lv_iload hx hb dX8_commonByRows_30 (lv_at hl 3 rfl) ?_
  refine r_geN hx hb (a := w) (b := dep pr i + 1) (by have h1 := hO.1; have := dep_le hO.2.2.2.1 _ hi; have := dep_le hO.2.2.2.1 _ hj; omega) (by have h1 := hO.1; have := dep_le hO.2.2.2.1 _ hi; have := dep_le hO.2.2.2.1 _ hj; omega) (tgt := 77) dX8_commonByRows_32 (by decide) (fun c_32 => ?_) (fun c_32 => ?_)
  · refine lv_iload hx hb dX8_commonByRows_77 (lv_at hl 1 rfl) ?_
    have hW : CxB D [(t0, .inr (11, [.ref t1, .ref t2, .ref t3, .ref t4, .ref t5, .ref t6])), (t1, .inl (aT 0, 12, .inl q1_6)), (t2, .inl (aT 0, 12, .inl q1_17)), (t3, .inl (aT 0, 12, .inl r3)), (t4, .inl (aT 0, 12, .inl r4)), (t5, .inl (aT 2, 12, .inr (.inl r5))), (t6, .inl (aT 2, 12, .inr (.inl r6))), (a5, .inr (8, [.ref a6, .ref a7, .ref a8, .ref a9, .int (nI nm), .int nx])), (a6, .inl (aT 0, 12, .inl fI)), (a7, .inl (aT 0, 12, .inl fN)), (a8, .inl (aT 0, 12, .inl fW)), (a9, .inl (aT 0, 12, .inl fP))] A s.heap H _ := cx_drop hW [0, 5, 11, 1, 2, 3, 4, 6, 7, 8, 9, 10] rfl (by decide)
    exact cx_iret C hr hlocks rfl hW ⟨Nat.le_of_ble_eq_true rfl, Nat.le_of_ble_eq_true rfl⟩ (⟨⟨o, rfl, ho⟩, _, _, rfl⟩) dX8_commonByRows_79
  · refine lv_iload hx hb dX8_commonByRows_35 (lv_at hl 0 rfl) ?_
    refine lv_iload hx hb dX8_commonByRows_37 (lv_at hl 2 rfl) ?_
    refine r_geN hx hb (a := w) (b := dep pr j + 1) (by have h1 := hO.1; have := dep_le hO.2.2.2.1 _ hi; have := dep_le hO.2.2.2.1 _ hj; omega) (by have h1 := hO.1; have := dep_le hO.2.2.2.1 _ hi; have := dep_le hO.2.2.2.1 _ hj; omega) (tgt := 77) dX8_commonByRows_39 (by decide) (fun c_39 => ?_) (fun c_39 => ?_)
    · refine lv_iload hx hb dX8_commonByRows_77 (lv_at hl 1 rfl) ?_
      have hW : CxB D [(t0, .inr (11, [.ref t1, .ref t2, .ref t3, .ref t4, .ref t5, .ref t6])), (t1, .inl (aT 0, 12, .inl q1_6)), (t2, .inl (aT 0, 12, .inl q1_17)), (t3, .inl (aT 0, 12, .inl r3)), (t4, .inl (aT 0, 12, .inl r4)), (t5, .inl (aT 2, 12, .inr (.inl r5))), (t6, .inl (aT 2, 12, .inr (.inl r6))), (a5, .inr (8, [.ref a6, .ref a7, .ref a8, .ref a9, .int (nI nm), .int nx])), (a6, .inl (aT 0, 12, .inl fI)), (a7, .inl (aT 0, 12, .inl fN)), (a8, .inl (aT 0, 12, .inl fW)), (a9, .inl (aT 0, 12, .inl fP))] A s.heap H _ := cx_drop hW [0, 5, 11, 1, 2, 3, 4, 6, 7, 8, 9, 10] rfl (by decide)
      exact cx_iret C hr hlocks rfl hW ⟨Nat.le_of_ble_eq_true rfl, Nat.le_of_ble_eq_true rfl⟩ (⟨⟨o, rfl, ho⟩, _, _, rfl⟩) dX8_commonByRows_79
    · refine lv_aload_n hx hb dX8_commonByRows_42 rfl (lv_at hl 7 rfl) ?_
      refine cx_get C hW 0 0 rfl rfl (by decide) inX8 gw_243 rfl rfl dX8_commonByRows_43 ?_
      refine lv_iload hx hb dX8_commonByRows_46 (lv_at hl 0 rfl) ?_
      refine cx_ald C hW 5 0 (j := w) rfl rfl rfl (by have h1 := hO.1; have := dep_le hO.2.2.2.1 _ hi; have := dep_le hO.2.2.2.1 _ hj; omega) (by decide) dX8_commonByRows_48 ?_
      refine lv_aload_n hx hb dX8_commonByRows_49 rfl (lv_at hl 7 rfl) ?_
      refine cx_get C hW 0 1 rfl rfl (by decide) inX8 gw_244 rfl rfl dX8_commonByRows_50 ?_
      refine lv_iload hx hb dX8_commonByRows_53 (lv_at hl 0 rfl) ?_
      refine cx_ald C hW 11 0 (j := w) rfl rfl rfl (by have h1 := hO.1; have := dep_le hO.2.2.2.1 _ hi; have := dep_le hO.2.2.2.1 _ hj; omega) (by decide) dX8_commonByRows_55 ?_
      refine lv_icmp_eq hx hb (x := (q1_6 w)) (y := (q1_17 w)) (tgt := 62) dX8_commonByRows_56 (by decide) (fun c_56 => ?_) (fun c_56 => ?_)
      · obtain ⟨k_, hk1, hk2⟩ := hq_6 w (Nat.zero_le _) (by omega)
        refine lv_aload_n hx hb dX8_commonByRows_62 rfl (lv_at hl 7 rfl) ?_
        refine cx_get C hW 0 0 rfl rfl (by decide) inX8 gw_243 rfl rfl dX8_commonByRows_63 ?_
        refine lv_iload hx hb dX8_commonByRows_66 (lv_at hl 0 rfl) ?_
        refine cx_ald C hW 5 0 (j := w) rfl rfl rfl (by have h1 := hO.1; have := dep_le hO.2.2.2.1 _ hi; have := dep_le hO.2.2.2.1 _ hj; omega) (by decide) dX8_commonByRows_68 ?_
        refine r_eq (y := (nI k_)) (hk2) ?_
        refine lv_istore (lv' := [(6, .int (nI k_)), (7, .int (nI w)), (5, .int (nI (dep pr j + 1))), (4, .int (nI (dep pr i + 1))), (3, .int (nI j)), (2, .int (nI i)), (1, .ref a5), (0, .ref t0)]) hx hb dX8_commonByRows_69 hl (by decide) rfl (fun ls hl => ?_)
        refine lv_iinc (v := (nI (w + 1))) (lv' := [(7, .int (nI (w + 1))), (6, .int (nI k_)), (5, .int (nI (dep pr j + 1))), (4, .int (nI (dep pr i + 1))), (3, .int (nI j)), (2, .int (nI i)), (1, .ref a5), (0, .ref t0)]) hx hb dX8_commonByRows_71 hl (k := 1) rfl (nI_1 _) (by decide) rfl (fun ls hl => ?_)
        refine lv_goto (tgt := 28) hx hb dX8_commonByRows_74 (by decide) ?_
        exact ih_28 ((w + 1), (some k_)) _ _ _ (by have h1 := hO.1; have := dep_le hO.2.2.2.1 _ hi; dsimp only; omega) ⟨_, rfl, lv_sub hl [0, 1, 2, 3, 4, 5, 6, 7] rfl, hW, ⟨by have h1 := hO.1; have := dep_le hO.2.2.2.1 _ hi; dsimp only; omega, fun k h => by cases h; exact hk1⟩⟩
      · refine lv_iload hx hb dX8_commonByRows_59 (lv_at hl 1 rfl) ?_
        have hW : CxB D [(t0, .inr (11, [.ref t1, .ref t2, .ref t3, .ref t4, .ref t5, .ref t6])), (t1, .inl (aT 0, 12, .inl q1_6)), (t2, .inl (aT 0, 12, .inl q1_17)), (t3, .inl (aT 0, 12, .inl r3)), (t4, .inl (aT 0, 12, .inl r4)), (t5, .inl (aT 2, 12, .inr (.inl r5))), (t6, .inl (aT 2, 12, .inr (.inl r6))), (a5, .inr (8, [.ref a6, .ref a7, .ref a8, .ref a9, .int (nI nm), .int nx])), (a6, .inl (aT 0, 12, .inl fI)), (a7, .inl (aT 0, 12, .inl fN)), (a8, .inl (aT 0, 12, .inl fW)), (a9, .inl (aT 0, 12, .inl fP))] A s.heap H _ := cx_drop hW [0, 5, 11, 1, 2, 3, 4, 6, 7, 8, 9, 10] rfl (by decide)
        exact cx_iret C hr hlocks rfl hW ⟨Nat.le_of_ble_eq_true rfl, Nat.le_of_ble_eq_true rfl⟩ (⟨⟨o, rfl, ho⟩, _, _, rfl⟩) dX8_commonByRows_61
theorem dX8_farthestFrom_0 : decode cX8_farthestFrom 0 = .ok (.aload_n 0, 1) := by decide +kernel
theorem dX8_farthestFrom_1 : decode cX8_farthestFrom 1 = .ok (.getfield 21, 3) := by decide +kernel
theorem dX8_farthestFrom_4 : decode cX8_farthestFrom 4 = .ok (.iconst (-1), 1) := by decide +kernel
theorem dX8_farthestFrom_5 : decode cX8_farthestFrom 5 = .ok (.invokestatic 44, 3) := by decide +kernel
theorem dX8_farthestFrom_8 : decode cX8_farthestFrom 8 = .ok (.iload_n 2, 1) := by decide +kernel
theorem dX8_farthestFrom_9 : decode cX8_farthestFrom 9 = .ok (.istore 4, 2) := by decide +kernel
theorem dX8_farthestFrom_11 : decode cX8_farthestFrom 11 = .ok (.iconst 0, 1) := by decide +kernel
theorem dX8_farthestFrom_12 : decode cX8_farthestFrom 12 = .ok (.istore 5, 2) := by decide +kernel
theorem dX8_farthestFrom_14 : decode cX8_farthestFrom 14 = .ok (.iload 5, 2) := by decide +kernel
theorem dX8_farthestFrom_16 : decode cX8_farthestFrom 16 = .ok (.bipush 12, 2) := by decide +kernel
theorem dX8_farthestFrom_18 : decode cX8_farthestFrom 18 = .ok (.if_icmp .ge 33, 3) := by decide +kernel
theorem dX8_farthestFrom_21 : decode cX8_farthestFrom 21 = .ok (.iload 4, 2) := by decide +kernel
theorem dX8_farthestFrom_23 : decode cX8_farthestFrom 23 = .ok (.iload_n 3, 1) := by decide +kernel
theorem dX8_farthestFrom_24 : decode cX8_farthestFrom 24 = .ok (.if_icmp .lt 27, 3) := by decide +kernel
theorem dX8_farthestFrom_27 : decode cX8_farthestFrom 27 = .ok (.aload_n 0, 1) := by decide +kernel
theorem dX8_farthestFrom_28 : decode cX8_farthestFrom 28 = .ok (.getfield 21, 3) := by decide +kernel
theorem dX8_farthestFrom_31 : decode cX8_farthestFrom 31 = .ok (.iload 4, 2) := by decide +kernel
theorem dX8_farthestFrom_33 : decode cX8_farthestFrom 33 = .ok (.iload 5, 2) := by decide +kernel
theorem dX8_farthestFrom_35 : decode cX8_farthestFrom 35 = .ok (.iastore, 1) := by decide +kernel
theorem dX8_farthestFrom_36 : decode cX8_farthestFrom 36 = .ok (.aload_n 1, 1) := by decide +kernel
theorem dX8_farthestFrom_37 : decode cX8_farthestFrom 37 = .ok (.getfield 37, 3) := by decide +kernel
theorem dX8_farthestFrom_40 : decode cX8_farthestFrom 40 = .ok (.iload 4, 2) := by decide +kernel
theorem dX8_farthestFrom_42 : decode cX8_farthestFrom 42 = .ok (.iaload, 1) := by decide +kernel
theorem dX8_farthestFrom_43 : decode cX8_farthestFrom 43 = .ok (.istore 4, 2) := by decide +kernel
theorem dX8_farthestFrom_45 : decode cX8_farthestFrom 45 = .ok (.iinc 5 1, 3) := by decide +kernel
theorem dX8_farthestFrom_48 : decode cX8_farthestFrom 48 = .ok (.goto (-34), 3) := by decide +kernel
theorem dX8_farthestFrom_51 : decode cX8_farthestFrom 51 = .ok (.iload_n 2, 1) := by decide +kernel
theorem dX8_farthestFrom_52 : decode cX8_farthestFrom 52 = .ok (.istore 5, 2) := by decide +kernel
theorem dX8_farthestFrom_54 : decode cX8_farthestFrom 54 = .ok (.iload_n 3, 1) := by decide +kernel
theorem dX8_farthestFrom_55 : decode cX8_farthestFrom 55 = .ok (.istore 6, 2) := by decide +kernel
theorem dX8_farthestFrom_57 : decode cX8_farthestFrom 57 = .ok (.iload 6, 2) := by decide +kernel
theorem dX8_farthestFrom_59 : decode cX8_farthestFrom 59 = .ok (.aload_n 1, 1) := by decide +kernel
theorem dX8_farthestFrom_60 : decode cX8_farthestFrom 60 = .ok (.getfield 50, 3) := by decide +kernel
theorem dX8_farthestFrom_63 : decode cX8_farthestFrom 63 = .ok (.if_icmp .ge 81, 3) := by decide +kernel
theorem dX8_farthestFrom_66 : decode cX8_farthestFrom 66 = .ok (.aload_n 1, 1) := by decide +kernel
theorem dX8_farthestFrom_67 : decode cX8_farthestFrom 67 = .ok (.getfield 37, 3) := by decide +kernel
theorem dX8_farthestFrom_70 : decode cX8_farthestFrom 70 = .ok (.iload 6, 2) := by decide +kernel
theorem dX8_farthestFrom_72 : decode cX8_farthestFrom 72 = .ok (.iaload, 1) := by decide +kernel
theorem dX8_farthestFrom_73 : decode cX8_farthestFrom 73 = .ok (.istore 7, 2) := by decide +kernel
theorem dX8_farthestFrom_75 : decode cX8_farthestFrom 75 = .ok (.aload_n 0, 1) := by decide +kernel
theorem dX8_farthestFrom_76 : decode cX8_farthestFrom 76 = .ok (.getfield 21, 3) := by decide +kernel
theorem dX8_farthestFrom_79 : decode cX8_farthestFrom 79 = .ok (.iload 6, 2) := by decide +kernel
theorem dX8_farthestFrom_81 : decode cX8_farthestFrom 81 = .ok (.iaload, 1) := by decide +kernel
theorem dX8_farthestFrom_82 : decode cX8_farthestFrom 82 = .ok (.ifCond .ge 35, 3) := by decide +kernel
theorem dX8_farthestFrom_85 : decode cX8_farthestFrom 85 = .ok (.iload 7, 2) := by decide +kernel
theorem dX8_farthestFrom_87 : decode cX8_farthestFrom 87 = .ok (.iload_n 3, 1) := by decide +kernel
theorem dX8_farthestFrom_88 : decode cX8_farthestFrom 88 = .ok (.if_icmp .lt 29, 3) := by decide +kernel
theorem dX8_farthestFrom_91 : decode cX8_farthestFrom 91 = .ok (.aload_n 0, 1) := by decide +kernel
theorem dX8_farthestFrom_92 : decode cX8_farthestFrom 92 = .ok (.getfield 21, 3) := by decide +kernel
theorem dX8_farthestFrom_95 : decode cX8_farthestFrom 95 = .ok (.iload 7, 2) := by decide +kernel
theorem dX8_farthestFrom_97 : decode cX8_farthestFrom 97 = .ok (.iaload, 1) := by decide +kernel
theorem dX8_farthestFrom_98 : decode cX8_farthestFrom 98 = .ok (.ifCond .lt 19, 3) := by decide +kernel
theorem dX8_farthestFrom_101 : decode cX8_farthestFrom 101 = .ok (.aload_n 0, 1) := by decide +kernel
theorem dX8_farthestFrom_102 : decode cX8_farthestFrom 102 = .ok (.getfield 21, 3) := by decide +kernel
theorem dX8_farthestFrom_105 : decode cX8_farthestFrom 105 = .ok (.iload 6, 2) := by decide +kernel
theorem dX8_farthestFrom_107 : decode cX8_farthestFrom 107 = .ok (.aload_n 0, 1) := by decide +kernel
theorem dX8_farthestFrom_108 : decode cX8_farthestFrom 108 = .ok (.getfield 21, 3) := by decide +kernel
theorem dX8_farthestFrom_111 : decode cX8_farthestFrom 111 = .ok (.iload 7, 2) := by decide +kernel
theorem dX8_farthestFrom_113 : decode cX8_farthestFrom 113 = .ok (.iaload, 1) := by decide +kernel
theorem dX8_farthestFrom_114 : decode cX8_farthestFrom 114 = .ok (.iconst 1, 1) := by decide +kernel
theorem dX8_farthestFrom_115 : decode cX8_farthestFrom 115 = .ok (.iadd, 1) := by decide +kernel
theorem dX8_farthestFrom_116 : decode cX8_farthestFrom 116 = .ok (.iastore, 1) := by decide +kernel
theorem dX8_farthestFrom_117 : decode cX8_farthestFrom 117 = .ok (.aload_n 0, 1) := by decide +kernel
theorem dX8_farthestFrom_118 : decode cX8_farthestFrom 118 = .ok (.getfield 21, 3) := by decide +kernel
theorem dX8_farthestFrom_121 : decode cX8_farthestFrom 121 = .ok (.iload 6, 2) := by decide +kernel
theorem dX8_farthestFrom_123 : decode cX8_farthestFrom 123 = .ok (.iaload, 1) := by decide +kernel
theorem dX8_farthestFrom_124 : decode cX8_farthestFrom 124 = .ok (.aload_n 0, 1) := by decide +kernel
theorem dX8_farthestFrom_125 : decode cX8_farthestFrom 125 = .ok (.getfield 21, 3) := by decide +kernel
theorem dX8_farthestFrom_128 : decode cX8_farthestFrom 128 = .ok (.iload 5, 2) := by decide +kernel
theorem dX8_farthestFrom_130 : decode cX8_farthestFrom 130 = .ok (.iaload, 1) := by decide +kernel
theorem dX8_farthestFrom_131 : decode cX8_farthestFrom 131 = .ok (.if_icmp .le 7, 3) := by decide +kernel
theorem dX8_farthestFrom_134 : decode cX8_farthestFrom 134 = .ok (.iload 6, 2) := by decide +kernel
theorem dX8_farthestFrom_136 : decode cX8_farthestFrom 136 = .ok (.istore 5, 2) := by decide +kernel
theorem dX8_farthestFrom_138 : decode cX8_farthestFrom 138 = .ok (.iinc 6 1, 3) := by decide +kernel
theorem dX8_farthestFrom_141 : decode cX8_farthestFrom 141 = .ok (.goto (-84), 3) := by decide +kernel
theorem dX8_farthestFrom_144 : decode cX8_farthestFrom 144 = .ok (.iload 5, 2) := by decide +kernel
theorem dX8_farthestFrom_146 : decode cX8_farthestFrom 146 = .ok (.ireturn, 1) := by decide +kernel
theorem gS_X8_J7_fill_53178_44 : GoodIn gw (va_wsS RX8 44 yJ7_fill_53178 (Cond.code yJ7_fill_53178 cJ7_fill_53178 4 (none) :: gw)) := gdS2 gw_503 gw_504 gw_93 gw_505
theorem hS_J7_fill_53178 : yJ7_fill_53178.cls ≠ "java/lang/invoke/MethodHandle" ∧ yJ7_fill_53178.cls ≠ "java/lang/invoke/VarHandle" ∧ (parseMethodDescriptor yJ7_fill_53178.desc).map (fun d => d.parameters.length) = some 2 := ⟨by decide +kernel, by decide +kernel, by decide +kernel⟩
set_option maxHeartbeats 2000000 in
set_option maxRecDepth 20000 in
theorem k_X8_farthestFrom (l : Launch) (hfl : l.stackTraces = false) (D : va_G) (aT : Nat → ClassId) (t0 : Nat) (t1 : Nat) (t2 : Nat) (t3 : Nat) (t4 : Nat) (t5 : Nat) (t6 : Nat) (r1 : Nat → Int32) (r2 : Nat → Int32) (r3 : Nat → Int32) (r4 : Nat → Int32) (r5 : Nat → Int64) (r6 : Nat → Int64) (a5 : Nat) (a6 : Nat) (a7 : Nat) (a8 : Nat) (a9 : Nat) (fI : Nat → Int32) (fN : Nat → Int32) (fW : Nat → Int32) (fP : Nat → Int32) (nm : Nat) (nx : Int32) (idn : Nat → Nat) (pr : Nat → Option Nat) (tn : Nat → Nat) (hO : MoC fI fN fP nm idn pr tn) (k : Nat) (hk : k < nm) (tp : Nat) (htp : tp < nm) : CxG l yX8_farthestFrom cX8_farthestFrom 8 (some (.int)) 1 0 0 23 D aT [.ref t0, .ref a5, .int (nI k), .int (nI tp)] [(t0, .inr (11, [.ref t1, .ref t2, .ref t3, .ref t4, .ref t5, .ref t6])), (t1, .inl (aT 0, 12, .inl r1)), (t2, .inl (aT 0, 12, .inl r2)), (t3, .inl (aT 0, 12, .inl r3)), (t4, .inl (aT 0, 12, .inl r4)), (t5, .inl (aT 2, 12, .inr (.inl r5))), (t6, .inl (aT 2, 12, .inr (.inl r6))), (a5, .inr (8, [.ref a6, .ref a7, .ref a8, .ref a9, .int (nI nm), .int nx])), (a6, .inl (aT 0, 12, .inl fI)), (a7, .inl (aT 0, 12, .inl fN)), (a8, .inl (aT 0, 12, .inl fW)), (a9, .inl (aT 0, 12, .inl fP))] (qI D aT (fun r W1 => (∃ u, r = nI u ∧ u < nm) ∧ ∃ g4 : Nat → Int32, W1 = [(t0, .inr (11, [.ref t1, .ref t2, .ref t3, .ref t4, .ref t5, .ref t6])), (t1, .inl (aT 0, 12, .inl r1)), (t2, .inl (aT 0, 12, .inl r2)), (t3, .inl (aT 0, 12, .inl r3)), (t4, .inl (aT 0, 12, .inl g4)), (t5, .inl (aT 2, 12, .inr (.inl r5))), (t6, .inl (aT 2, 12, .inr (.inl r6))), (a5, .inr (8, [.ref a6, .ref a7, .ref a8, .ref a9, .int (nI nm), .int nx])), (a6, .inl (aT 0, 12, .inl fI)), (a7, .inl (aT 0, 12, .inl fN)), (a8, .inl (aT 0, 12, .inl fW)), (a9, .inl (aT 0, 12, .inl fP))])) (fun _ _ => False) := by
  refine CxG.of RX8 (by decide +kernel) rfl (Nat.le_of_ble_eq_true rfl) ?_
  intro p e s m below meth c A ls C hml hl hA hr hlocks hex hnm hZ hW
  have hl : lv_has ls 8 [(0, .ref t0), (1, .ref a5), (2, .int (nI k)), (3, .int (nI tp))] := hl
  have hx := C.1
  have hb := C.2.1
  refine lv_aload_n hx hb dX8_farthestFrom_0 rfl (lv_at hl 0 rfl) ?_
  refine cx_get C hW 0 3 rfl rfl (by decide) inX8 gw_246 rfl rfl dX8_farthestFrom_1 ?_
  refine lv_iconst (v := (-1)) hx hb dX8_farthestFrom_4 (by decide) ?_
  refine cx_callv (Wr := [(t0, .inr (11, [.ref t1, .ref t2, .ref t3, .ref t4, .ref t5, .ref t6])), (t1, .inl (aT 0, 12, .inl r1)), (t2, .inl (aT 0, 12, .inl r2)), (t3, .inl (aT 0, 12, .inl r3)), (t5, .inl (aT 2, 12, .inr (.inl r5))), (t6, .inl (aT 2, 12, .inr (.inl r6))), (a5, .inr (8, [.ref a6, .ref a7, .ref a8, .ref a9, .int (nI nm), .int nx])), (a6, .inl (aT 0, 12, .inl fI)), (a7, .inl (aT 0, 12, .inl fN)), (a8, .inl (aT 0, 12, .inl fW)), (a9, .inl (aT 0, 12, .inl fP))]) (cx_runS C hml hl.1 hZ hW hA (As := [.ref t4, .int (-1)]) (rest := []) (k_J7_fill_53178 l hfl D aT t4 12 r4 (-1) (by decide)) gS_X8_J7_fill_53178_44 hS_J7_fill_53178 rfl ⟨Nat.le_of_ble_eq_true rfl, Nat.le_of_ble_eq_true rfl⟩ ⟨Nat.le_of_ble_eq_true rfl, Nat.le_of_ble_eq_true rfl⟩ [4] rfl (by decide) rfl (Nat.le_of_ble_eq_true rfl) dX8_farthestFrom_5) hW hA [4] [0, 1, 2, 3, 5, 6, 7, 8, 9, 10, 11] rfl rfl (by decide) (by decide) (fun _ _ _ _ _ _ h9 => h9.elim) (fun W_5 H locs hq hW => ?_)
  obtain ⟨gf_5, rfl⟩ := hq
  have hW : CxB D [(t0, .inr (11, [.ref t1, .ref t2, .ref t3, .ref t4, .ref t5, .ref t6])), (t1, .inl (aT 0, 12, .inl r1)), (t2, .inl (aT 0, 12, .inl r2)), (t3, .inl (aT 0, 12, .inl r3)), (t5, .inl (aT 2, 12, .inr (.inl r5))), (t6, .inl (aT 2, 12, .inr (.inl r6))), (a5, .inr (8, [.ref a6, .ref a7, .ref a8, .ref a9, .int (nI nm), .int nx])), (a6, .inl (aT 0, 12, .inl fI)), (a7, .inl (aT 0, 12, .inl fN)), (a8, .inl (aT 0, 12, .inl fW)), (a9, .inl (aT 0, 12, .inl fP)), (t4, .inl (aT 0, 12, .inl gf_5))] A s.heap H _ := hW
  refine lv_iload_n hx hb dX8_farthestFrom_8 rfl (lv_at hl 2 rfl) ?_
  refine lv_istore (lv' := [(4, .int (nI k)), (0, .ref t0), (1, .ref a5), (2, .int (nI k)), (3, .int (nI tp))]) hx hb dX8_farthestFrom_9 hl (by decide) rfl (fun ls hl => ?_)
  refine lv_iconst (v := nI 0) hx hb dX8_farthestFrom_11 (by decide) ?_
  refine lv_istore (lv' := [(5, .int (nI 0)), (4, .int (nI k)), (0, .ref t0), (1, .ref a5), (2, .int (nI k)), (3, .int (nI tp))]) hx hb dX8_farthestFrom_12 hl (by decide) rfl (fun ls hl => ?_)
  have hl : lv_has ls 8 [(5, .int (nI 0)), (4, .int (oi (some k))), (0, .ref t0), (1, .ref a5), (2, .int (nI k)), (3, .int (nI tp))] := hl
  refine W_loopH (σ := Nat × Option Nat × (Nat → Int32)) (fun z_ => 12 - z_.1) (fun z_ H locs g => ∃ ls, g = F0 m 14 ls [] ∧ lv_has ls 8 [(5, .int (nI z_.1)), (4, .int (oi z_.2.1)), (3, .int (nI tp)), (2, .int (nI k)), (1, .ref a5), (0, .ref t0)] ∧ CxB D [(t0, .inr (11, [.ref t1, .ref t2, .ref t3, .ref t4, .ref t5, .ref t6])), (t1, .inl (aT 0, 12, .inl r1)), (t2, .inl (aT 0, 12, .inl r2)), (t3, .inl (aT 0, 12, .inl r3)), (t5, .inl (aT 2, 12, .inr (.inl r5))), (t6, .inl (aT 2, 12, .inr (.inl r6))), (a5, .inr (8, [.ref a6, .ref a7, .ref a8, .ref a9, .int (nI nm), .int nx])), (a6, .inl (aT 0, 12, .inl fI)), (a7, .inl (aT 0, 12, .inl fN)), (a8, .inl (aT 0, 12, .inl fW)), (a9, .inl (aT 0, 12, .inl fP)), (t4, .inl (aT 0, 12, .inl z_.2.2))] A s.heap H locs ∧ z_.1 ≤ 12 ∧ ∀ k, z_.2.1 = some k → k < nm) ?_ (0, (some k), gf_5) _ ⟨_, rfl, lv_sub hl [0, 1, 5, 4, 3, 2] rfl, hW, ⟨by dsimp only; omega, fun j h => by cases h; exact hk⟩⟩
  clear hW hl
  rintro ⟨w, o, f⟩ H locs g ⟨ls, rfl, hl, hW, ⟨hw, ho⟩⟩ ih_14
  dsimp only at hl hW hw ho ⊢
  refine lv_iload hx hb dX8_farthestFrom_14 (lv_at hl 0 rfl) ?_
  refine lv_bipush (v := nI 12) hx hb dX8_farthestFrom_16 (by decide) ?_
  refine r_geN hx hb (a := w) (b := 12) (by have h1 := hO.1; omega) (by have h1 := hO.1; omega) (tgt := 51) dX8_farthestFrom_18 (by decide) (fun c_18 => ?_) (fun c_18 => ?_)
  · refine lv_iload_n hx hb dX8_farthestFrom_51 rfl (lv_at hl 3 rfl) ?_
    refine lv_istore (lv' := [(5, .int (nI k)), (4, .int (oi o)), (3, .int (nI tp)), (2, .int (nI k)), (1, .ref a5), (0, .ref t0)]) hx hb dX8_farthestFrom_52 hl (by decide) rfl (fun ls hl => ?_)
    refine lv_iload_n hx hb dX8_farthestFrom_54 rfl (lv_at hl 2 rfl) ?_
    refine lv_istore (lv' := [(6, .int (nI tp)), (5, .int (nI k)), (4, .int (oi o)), (3, .int (nI tp)), (2, .int (nI k)), (1, .ref a5), (0, .ref t0)]) hx hb dX8_farthestFrom_55 hl (by decide) rfl (fun ls hl => ?_)
    refine W_loopH (σ := Nat × Nat × (Nat → Int32)) (fun z_ => nm - z_.1) (fun z_ H locs g => ∃ ls, g = F0 m 57 ls [] ∧ lv_has ls 8 [(6, .int (nI z_.1)), (5, .int (nI z_.2.1)), (3, .int (nI tp)), (2, .int (nI k)), (1, .ref a5), (0, .ref t0)] ∧ CxB D [(t0, .inr (11, [.ref t1, .ref t2, .ref t3, .ref t4, .ref t5, .ref t6])), (t1, .inl (aT 0, 12, .inl r1)), (t2, .inl (aT 0, 12, .inl r2)), (t3, .inl (aT 0, 12, .inl r3)), (t5, .inl (aT 2, 12, .inr (.inl r5))), (t6, .inl (aT 2, 12, .inr (.inl r6))), (a5, .inr (8, [.ref a6, .ref a7, .ref a8, .ref a9, .int (nI nm), .int nx])), (a6, .inl (aT 0, 12, .inl fI)), (a7, .inl (aT 0, 12, .inl fN)), (a8, .inl (aT 0, 12, .inl fW)), (a9, .inl (aT 0, 12, .inl fP)), (t4, .inl (aT 0, 12, .inl z_.2.2))] A s.heap H locs ∧ z_.1 ≤ nm ∧ z_.2.1 < nm) ?_ (tp, k, f) _ ⟨_, rfl, lv_sub hl [0, 1, 3, 4, 5, 6] rfl, hW, ⟨by dsimp only; omega, hk⟩⟩
    clear hW hl
    rintro ⟨w, u, f⟩ H locs g ⟨ls, rfl, hl, hW, ⟨hw, hu⟩⟩ ih_57
    dsimp only at hl hW hw hu ⊢
    refine lv_iload hx hb dX8_farthestFrom_57 (lv_at hl 0 rfl) ?_
    refine lv_aload_n hx hb dX8_farthestFrom_59 rfl (lv_at hl 4 rfl) ?_
    refine cx_getN C hZ hW 6 4 rfl rfl (by decide) inX5 nw_162 rfl rfl dX8_farthestFrom_60 ?_
    refine r_geN hx hb (a := w) (b := nm) (by have h1 := hO.1; omega) (by have h1 := hO.1; omega) (tgt := 144) dX8_farthestFrom_63 (by decide) (fun c_63 => ?_) (fun c_63 => ?_)
    · refine lv_iload hx hb dX8_farthestFrom_144 (lv_at hl 1 rfl) ?_
      have hW : CxB D [(t0, .inr (11, [.ref t1, .ref t2, .ref t3, .ref t4, .ref t5, .ref t6])), (t1, .inl (aT 0, 12, .inl r1)), (t2, .inl (aT 0, 12, .inl r2)), (t3, .inl (aT 0, 12, .inl r3)), (t4, .inl (aT 0, 12, .inl f)), (t5, .inl (aT 2, 12, .inr (.inl r5))), (t6, .inl (aT 2, 12, .inr (.inl r6))), (a5, .inr (8, [.ref a6, .ref a7, .ref a8, .ref a9, .int (nI nm), .int nx])), (a6, .inl (aT 0, 12, .inl fI)), (a7, .inl (aT 0, 12, .inl fN)), (a8, .inl (aT 0, 12, .inl fW)), (a9, .inl (aT 0, 12, .inl fP))] A s.heap H _ := cx_drop hW [0, 1, 2, 3, 11, 4, 5, 6, 7, 8, 9, 10] rfl (by decide)
      exact cx_iret C hr hlocks rfl hW ⟨Nat.le_of_ble_eq_true rfl, Nat.le_of_ble_eq_true rfl⟩ (⟨⟨u, rfl, hu⟩, _, rfl⟩) dX8_farthestFrom_146
    · refine lv_aload_n hx hb dX8_farthestFrom_66 rfl (lv_at hl 4 rfl) ?_
      refine cx_getN C hZ hW 6 3 rfl rfl (by decide) inX5 nw_158 rfl rfl dX8_farthestFrom_67 ?_
      refine lv_iload hx hb dX8_farthestFrom_70 (lv_at hl 0 rfl) ?_
      refine cx_ald C hW 10 0 (j := w) rfl rfl rfl (by have h1 := hO.1; omega) (by decide) dX8_farthestFrom_72 ?_
      refine r_eq (y := (oi (pr w))) (hO.2.2.1 w (by omega)) ?_
      refine lv_istore (lv' := [(7, .int (oi (pr w))), (6, .int (nI w)), (5, .int (nI u)), (3, .int (nI tp)), (2, .int (nI k)), (1, .ref a5), (0, .ref t0)]) hx hb dX8_farthestFrom_73 hl (by decide) rfl (fun ls hl => ?_)
      refine lv_aload_n hx hb dX8_farthestFrom_75 rfl (lv_at hl 6 rfl) ?_
      refine cx_get C hW 0 3 rfl rfl (by decide) inX8 gw_246 rfl rfl dX8_farthestFrom_76 ?_
      refine lv_iload hx hb dX8_farthestFrom_79 (lv_at hl 1 rfl) ?_
      refine cx_ald C hW 11 0 (j := w) rfl rfl rfl (by have h1 := hO.1; omega) (by decide) dX8_farthestFrom_81 ?_
      refine lv_if_ge hx hb (x := (f w)) (tgt := 117) dX8_farthestFrom_82 (by decide) (fun c_82 => ?_) (fun c_82 => ?_)
      · refine lv_aload_n hx hb dX8_farthestFrom_117 rfl (lv_at hl 6 rfl) ?_
        refine cx_get C hW 0 3 rfl rfl (by decide) inX8 gw_246 rfl rfl dX8_farthestFrom_118 ?_
        refine lv_iload hx hb dX8_farthestFrom_121 (lv_at hl 1 rfl) ?_
        refine cx_ald C hW 11 0 (j := w) rfl rfl rfl (by have h1 := hO.1; omega) (by decide) dX8_farthestFrom_123 ?_
        refine lv_aload_n hx hb dX8_farthestFrom_124 rfl (lv_at hl 6 rfl) ?_
        refine cx_get C hW 0 3 rfl rfl (by decide) inX8 gw_246 rfl rfl dX8_farthestFrom_125 ?_
        refine lv_iload hx hb dX8_farthestFrom_128 (lv_at hl 2 rfl) ?_
        refine cx_ald C hW 11 0 (j := u) rfl rfl rfl (by have h1 := hO.1; omega) (by decide) dX8_farthestFrom_130 ?_
        refine lv_icmp_le hx hb (x := (f w)) (y := (f u)) (tgt := 138) dX8_farthestFrom_131 (by decide) (fun c_131 => ?_) (fun c_131 => ?_)
        · refine lv_iinc (v := (nI (w + 1))) (lv' := [(6, .int (nI (w + 1))), (7, .int (oi (pr w))), (5, .int (nI u)), (3, .int (nI tp)), (2, .int (nI k)), (1, .ref a5), (0, .ref t0)]) hx hb dX8_farthestFrom_138 hl (k := 1) rfl (nI_1 _) (by decide) rfl (fun ls hl => ?_)
          refine lv_goto (tgt := 57) hx hb dX8_farthestFrom_141 (by decide) ?_
          exact ih_57 ((w + 1), u, f) _ _ _ (by first | omega | (dsimp only; omega)) ⟨_, rfl, lv_sub hl [0, 2, 3, 4, 5, 6] rfl, hW, ⟨by dsimp only; omega, by dsimp only; omega⟩⟩
        · refine lv_iload hx hb dX8_farthestFrom_134 (lv_at hl 1 rfl) ?_
          refine lv_istore (lv' := [(5, .int (nI w)), (7, .int (oi (pr w))), (6, .int (nI w)), (3, .int (nI tp)), (2, .int (nI k)), (1, .ref a5), (0, .ref t0)]) hx hb dX8_farthestFrom_136 hl (by decide) rfl (fun ls hl => ?_)
          refine lv_iinc (v := (nI (w + 1))) (lv' := [(6, .int (nI (w + 1))), (5, .int (nI w)), (7, .int (oi (pr w))), (3, .int (nI tp)), (2, .int (nI k)), (1, .ref a5), (0, .ref t0)]) hx hb dX8_farthestFrom_138 hl (k := 2) rfl (nI_1 _) (by decide) rfl (fun ls hl => ?_)
          refine lv_goto (tgt := 57) hx hb dX8_farthestFrom_141 (by decide) ?_
          exact ih_57 ((w + 1), w, f) _ _ _ (by first | omega | (dsimp only; omega)) ⟨_, rfl, lv_sub hl [0, 1, 3, 4, 5, 6] rfl, hW, ⟨by dsimp only; omega, by dsimp only; omega⟩⟩
      · refine lv_iload hx hb dX8_farthestFrom_85 (lv_at hl 0 rfl) ?_
        refine lv_iload_n hx hb dX8_farthestFrom_87 rfl (lv_at hl 3 rfl) ?_
        refine r_oi_ltN hx hb (o := (pr w)) (q := tp) (fun j hj => by have h1 := hO.1; have h2 := hO.2.2.2.1 w j (by omega) hj; omega) (by have h1 := hO.1; omega) (tgt := 117) dX8_farthestFrom_88 (by decide) (fun c_88 => ?_) (fun j_88 e_88 c_88 => ?_)
        · refine lv_aload_n hx hb dX8_farthestFrom_117 rfl (lv_at hl 6 rfl) ?_
          refine cx_get C hW 0 3 rfl rfl (by decide) inX8 gw_246 rfl rfl dX8_farthestFrom_118 ?_
          refine lv_iload hx hb dX8_farthestFrom_121 (lv_at hl 1 rfl) ?_
          refine cx_ald C hW 11 0 (j := w) rfl rfl rfl (by have h1 := hO.1; omega) (by decide) dX8_farthestFrom_123 ?_
          refine lv_aload_n hx hb dX8_farthestFrom_124 rfl (lv_at hl 6 rfl) ?_
          refine cx_get C hW 0 3 rfl rfl (by decide) inX8 gw_246 rfl rfl dX8_farthestFrom_125 ?_
          refine lv_iload hx hb dX8_farthestFrom_128 (lv_at hl 2 rfl) ?_
          refine cx_ald C hW 11 0 (j := u) rfl rfl rfl (by have h1 := hO.1; omega) (by decide) dX8_farthestFrom_130 ?_
          refine lv_icmp_le hx hb (x := (f w)) (y := (f u)) (tgt := 138) dX8_farthestFrom_131 (by decide) (fun c_131 => ?_) (fun c_131 => ?_)
          · refine lv_iinc (v := (nI (w + 1))) (lv' := [(6, .int (nI (w + 1))), (7, .int (oi (pr w))), (5, .int (nI u)), (3, .int (nI tp)), (2, .int (nI k)), (1, .ref a5), (0, .ref t0)]) hx hb dX8_farthestFrom_138 hl (k := 1) rfl (nI_1 _) (by decide) rfl (fun ls hl => ?_)
            refine lv_goto (tgt := 57) hx hb dX8_farthestFrom_141 (by decide) ?_
            exact ih_57 ((w + 1), u, f) _ _ _ (by first | omega | (dsimp only; omega)) ⟨_, rfl, lv_sub hl [0, 2, 3, 4, 5, 6] rfl, hW, ⟨by dsimp only; omega, by dsimp only; omega⟩⟩
          · refine lv_iload hx hb dX8_farthestFrom_134 (lv_at hl 1 rfl) ?_
            refine lv_istore (lv' := [(5, .int (nI w)), (7, .int (oi (pr w))), (6, .int (nI w)), (3, .int (nI tp)), (2, .int (nI k)), (1, .ref a5), (0, .ref t0)]) hx hb dX8_farthestFrom_136 hl (by decide) rfl (fun ls hl => ?_)
            refine lv_iinc (v := (nI (w + 1))) (lv' := [(6, .int (nI (w + 1))), (5, .int (nI w)), (7, .int (oi (pr w))), (3, .int (nI tp)), (2, .int (nI k)), (1, .ref a5), (0, .ref t0)]) hx hb dX8_farthestFrom_138 hl (k := 2) rfl (nI_1 _) (by decide) rfl (fun ls hl => ?_)
            refine lv_goto (tgt := 57) hx hb dX8_farthestFrom_141 (by decide) ?_
            exact ih_57 ((w + 1), w, f) _ _ _ (by first | omega | (dsimp only; omega)) ⟨_, rfl, lv_sub hl [0, 1, 3, 4, 5, 6] rfl, hW, ⟨by dsimp only; omega, by dsimp only; omega⟩⟩
        · rw [e_88] at hl
          have hl : lv_has ls 8 [(7, .int (nI j_88)), (6, .int (nI w)), (5, .int (nI u)), (3, .int (nI tp)), (2, .int (nI k)), (1, .ref a5), (0, .ref t0)] := hl
          refine lv_aload_n hx hb dX8_farthestFrom_91 rfl (lv_at hl 6 rfl) ?_
          refine cx_get C hW 0 3 rfl rfl (by decide) inX8 gw_246 rfl rfl dX8_farthestFrom_92 ?_
          refine lv_iload hx hb dX8_farthestFrom_95 (lv_at hl 0 rfl) ?_
          refine cx_ald C hW 11 0 (j := j_88) rfl rfl rfl (by have h1 := hO.1; have h2 := hO.2.2.2.1 w _ (by omega) e_88; omega) (by decide) dX8_farthestFrom_97 ?_
          refine lv_if_lt hx hb (x := (f j_88)) (tgt := 117) dX8_farthestFrom_98 (by decide) (fun c_98 => ?_) (fun c_98 => ?_)
          · refine lv_aload_n hx hb dX8_farthestFrom_117 rfl (lv_at hl 6 rfl) ?_
            refine cx_get C hW 0 3 rfl rfl (by decide) inX8 gw_246 rfl rfl dX8_farthestFrom_118 ?_
            refine lv_iload hx hb dX8_farthestFrom_121 (lv_at hl 1 rfl) ?_
            refine cx_ald C hW 11 0 (j := w) rfl rfl rfl (by have h1 := hO.1; omega) (by decide) dX8_farthestFrom_123 ?_
            refine lv_aload_n hx hb dX8_farthestFrom_124 rfl (lv_at hl 6 rfl) ?_
            refine cx_get C hW 0 3 rfl rfl (by decide) inX8 gw_246 rfl rfl dX8_farthestFrom_125 ?_
            refine lv_iload hx hb dX8_farthestFrom_128 (lv_at hl 2 rfl) ?_
            refine cx_ald C hW 11 0 (j := u) rfl rfl rfl (by have h1 := hO.1; omega) (by decide) dX8_farthestFrom_130 ?_
            refine lv_icmp_le hx hb (x := (f w)) (y := (f u)) (tgt := 138) dX8_farthestFrom_131 (by decide) (fun c_131 => ?_) (fun c_131 => ?_)
            · refine lv_iinc (v := (nI (w + 1))) (lv' := [(6, .int (nI (w + 1))), (7, .int (nI j_88)), (5, .int (nI u)), (3, .int (nI tp)), (2, .int (nI k)), (1, .ref a5), (0, .ref t0)]) hx hb dX8_farthestFrom_138 hl (k := 1) rfl (nI_1 _) (by decide) rfl (fun ls hl => ?_)
              refine lv_goto (tgt := 57) hx hb dX8_farthestFrom_141 (by decide) ?_
              exact ih_57 ((w + 1), u, f) _ _ _ (by first | omega | (dsimp only; omega)) ⟨_, rfl, lv_sub hl [0, 2, 3, 4, 5, 6] rfl, hW, ⟨by dsimp only; omega, by dsimp only; omega⟩⟩
            · refine lv_iload hx hb dX8_farthestFrom_134 (lv_at hl 1 rfl) ?_
              refine lv_istore (lv' := [(5, .int (nI w)), (7, .int (nI j_88)), (6, .int (nI w)), (3, .int (nI tp)), (2, .int (nI k)), (1, .ref a5), (0, .ref t0)]) hx hb dX8_farthestFrom_136 hl (by decide) rfl (fun ls hl => ?_)
              refine lv_iinc (v := (nI (w + 1))) (lv' := [(6, .int (nI (w + 1))), (5, .int (nI w)), (7, .int (nI j_88)), (3, .int (nI tp)), (2, .int (nI k)), (1, .ref a5), (0, .ref t0)]) hx hb dX8_farthestFrom_138 hl (k := 2) rfl (nI_1 _) (by decide) rfl (fun ls hl => ?_)
              refine lv_goto (tgt := 57) hx hb dX8_farthestFrom_141 (by decide) ?_
              exact ih_57 ((w + 1), w, f) _ _ _ (by first | omega | (dsimp only; omega)) ⟨_, rfl, lv_sub hl [0, 1, 3, 4, 5, 6] rfl, hW, ⟨by dsimp only; omega, by dsimp only; omega⟩⟩
          · refine lv_aload_n hx hb dX8_farthestFrom_101 rfl (lv_at hl 6 rfl) ?_
            refine cx_get C hW 0 3 rfl rfl (by decide) inX8 gw_246 rfl rfl dX8_farthestFrom_102 ?_
            refine lv_iload hx hb dX8_farthestFrom_105 (lv_at hl 1 rfl) ?_
            refine lv_aload_n hx hb dX8_farthestFrom_107 rfl (lv_at hl 6 rfl) ?_
            refine cx_get C hW 0 3 rfl rfl (by decide) inX8 gw_246 rfl rfl dX8_farthestFrom_108 ?_
            refine lv_iload hx hb dX8_farthestFrom_111 (lv_at hl 0 rfl) ?_
            refine cx_ald C hW 11 0 (j := j_88) rfl rfl rfl (by have h1 := hO.1; have h2 := hO.2.2.2.1 w _ (by omega) e_88; omega) (by decide) dX8_farthestFrom_113 ?_
            refine lv_iconst (v := nI 1) hx hb dX8_farthestFrom_114 (by decide) ?_
            refine lv_iadd hx hb dX8_farthestFrom_115 ?_
            refine cx_ast C hW 11 0 (j := w) (W1 := [(t0, .inr (11, [.ref t1, .ref t2, .ref t3, .ref t4, .ref t5, .ref t6])), (t1, .inl (aT 0, 12, .inl r1)), (t2, .inl (aT 0, 12, .inl r2)), (t3, .inl (aT 0, 12, .inl r3)), (t5, .inl (aT 2, 12, .inr (.inl r5))), (t6, .inl (aT 2, 12, .inr (.inl r6))), (a5, .inr (8, [.ref a6, .ref a7, .ref a8, .ref a9, .int (nI nm), .int nx])), (a6, .inl (aT 0, 12, .inl fI)), (a7, .inl (aT 0, 12, .inl fN)), (a8, .inl (aT 0, 12, .inl fW)), (a9, .inl (aT 0, 12, .inl fP)), (t4, .inl (aT 0, 12, .inl (upd f w (((f j_88) + (nI 1))))))]) rfl rfl rfl (by have h1 := hO.1; omega) (by decide) rfl dX8_farthestFrom_116 (fun H locs hW => ?_)
            refine lv_aload_n hx hb dX8_farthestFrom_117 rfl (lv_at hl 6 rfl) ?_
            refine cx_get C hW 0 3 rfl rfl (by decide) inX8 gw_246 rfl rfl dX8_farthestFrom_118 ?_
            refine lv_iload hx hb dX8_farthestFrom_121 (lv_at hl 1 rfl) ?_
            refine cx_ald C hW 11 0 (j := w) rfl rfl rfl (by have h1 := hO.1; omega) (by decide) dX8_farthestFrom_123 ?_
            refine lv_aload_n hx hb dX8_farthestFrom_124 rfl (lv_at hl 6 rfl) ?_
            refine cx_get C hW 0 3 rfl rfl (by decide) inX8 gw_246 rfl rfl dX8_farthestFrom_125 ?_
            refine lv_iload hx hb dX8_farthestFrom_128 (lv_at hl 2 rfl) ?_
            refine cx_ald C hW 11 0 (j := u) rfl rfl rfl (by have h1 := hO.1; omega) (by decide) dX8_farthestFrom_130 ?_
            refine lv_icmp_le hx hb (x := ((upd f w (((f j_88) + (nI 1)))) w)) (y := ((upd f w (((f j_88) + (nI 1)))) u)) (tgt := 138) dX8_farthestFrom_131 (by decide) (fun c_131 => ?_) (fun c_131 => ?_)
            · refine lv_iinc (v := (nI (w + 1))) (lv' := [(6, .int (nI (w + 1))), (7, .int (nI j_88)), (5, .int (nI u)), (3, .int (nI tp)), (2, .int (nI k)), (1, .ref a5), (0, .ref t0)]) hx hb dX8_farthestFrom_138 hl (k := 1) rfl (nI_1 _) (by decide) rfl (fun ls hl => ?_)
              refine lv_goto (tgt := 57) hx hb dX8_farthestFrom_141 (by decide) ?_
              exact ih_57 ((w + 1), u, (upd f w (((f j_88) + (nI 1))))) _ _ _ (by first | omega | (dsimp only; omega)) ⟨_, rfl, lv_sub hl [0, 2, 3, 4, 5, 6] rfl, hW, ⟨by dsimp only; omega, by dsimp only; omega⟩⟩
            · refine lv_iload hx hb dX8_farthestFrom_134 (lv_at hl 1 rfl) ?_
              refine lv_istore (lv' := [(5, .int (nI w)), (7, .int (nI j_88)), (6, .int (nI w)), (3, .int (nI tp)), (2, .int (nI k)), (1, .ref a5), (0, .ref t0)]) hx hb dX8_farthestFrom_136 hl (by decide) rfl (fun ls hl => ?_)
              refine lv_iinc (v := (nI (w + 1))) (lv' := [(6, .int (nI (w + 1))), (5, .int (nI w)), (7, .int (nI j_88)), (3, .int (nI tp)), (2, .int (nI k)), (1, .ref a5), (0, .ref t0)]) hx hb dX8_farthestFrom_138 hl (k := 2) rfl (nI_1 _) (by decide) rfl (fun ls hl => ?_)
              refine lv_goto (tgt := 57) hx hb dX8_farthestFrom_141 (by decide) ?_
              exact ih_57 ((w + 1), w, (upd f w (((f j_88) + (nI 1))))) _ _ _ (by first | omega | (dsimp only; omega)) ⟨_, rfl, lv_sub hl [0, 1, 3, 4, 5, 6] rfl, hW, ⟨by dsimp only; omega, by dsimp only; omega⟩⟩
  · refine lv_iload hx hb dX8_farthestFrom_21 (lv_at hl 1 rfl) ?_
    refine lv_iload_n hx hb dX8_farthestFrom_23 rfl (lv_at hl 2 rfl) ?_
    refine r_oi_ltN hx hb (o := o) (q := tp) (fun j hj => by have h1 := hO.1; have := ho j hj; omega) (by have h1 := hO.1; omega) (tgt := 51) dX8_farthestFrom_24 (by decide) (fun c_24 => ?_) (fun j_24 e_24 c_24 => ?_)
    · refine lv_iload_n hx hb dX8_farthestFrom_51 rfl (lv_at hl 3 rfl) ?_
      refine lv_istore (lv' := [(5, .int (nI k)), (4, .int (oi o)), (3, .int (nI tp)), (2, .int (nI k)), (1, .ref a5), (0, .ref t0)]) hx hb dX8_farthestFrom_52 hl (by decide) rfl (fun ls hl => ?_)
      refine lv_iload_n hx hb dX8_farthestFrom_54 rfl (lv_at hl 2 rfl) ?_
      refine lv_istore (lv' := [(6, .int (nI tp)), (5, .int (nI k)), (4, .int (oi o)), (3, .int (nI tp)), (2, .int (nI k)), (1, .ref a5), (0, .ref t0)]) hx hb dX8_farthestFrom_55 hl (by decide) rfl (fun ls hl => ?_)
      refine W_loopH (σ := Nat × Nat × (Nat → Int32)) (fun z_ => nm - z_.1) (fun z_ H locs g => ∃ ls, g = F0 m 57 ls [] ∧ lv_has ls 8 [(6, .int (nI z_.1)), (5, .int (nI z_.2.1)), (3, .int (nI tp)), (2, .int (nI k)), (1, .ref a5), (0, .ref t0)] ∧ CxB D [(t0, .inr (11, [.ref t1, .ref t2, .ref t3, .ref t4, .ref t5, .ref t6])), (t1, .inl (aT 0, 12, .inl r1)), (t2, .inl (aT 0, 12, .inl r2)), (t3, .inl (aT 0, 12, .inl r3)), (t5, .inl (aT 2, 12, .inr (.inl r5))), (t6, .inl (aT 2, 12, .inr (.inl r6))), (a5, .inr (8, [.ref a6, .ref a7, .ref a8, .ref a9, .int (nI nm), .int nx])), (a6, .inl (aT 0, 12, .inl fI)), (a7, .inl (aT 0, 12, .inl fN)), (a8, .inl (aT 0, 12, .inl fW)), (a9, .inl (aT 0, 12, .inl fP)), (t4, .inl (aT 0, 12, .inl z_.2.2))] A s.heap H locs ∧ z_.1 ≤ nm ∧ z_.2.1 < nm) ?_ (tp, k, f) _ ⟨_, rfl, lv_sub hl [0, 1, 3, 4, 5, 6] rfl, hW, ⟨by dsimp only; omega, hk⟩⟩
      clear hW hl
      rintro ⟨w, u, f⟩ H locs g ⟨ls, rfl, hl, hW, ⟨hw, hu⟩⟩ ih_57
      dsimp only at hl hW hw hu ⊢
      refine lv_iload hx hb dX8_farthestFrom_57 (lv_at hl 0 rfl) ?_
      refine lv_aload_n hx hb dX8_farthestFrom_59 rfl (lv_at hl 4 rfl) ?_
      refine cx_getN C hZ hW 6 4 rfl rfl (by decide) inX5 nw_162 rfl rfl dX8_farthestFrom_60 ?_
      refine r_geN hx hb (a := w) (b := nm) (by have h1 := hO.1; omega) (by have h1 := hO.1; omega) (tgt := 144) dX8_farthestFrom_63 (by decide) (fun c_63 => ?_) (fun c_63 => ?_)
      · refine lv_iload hx hb dX8_farthestFrom_144 (lv_at hl 1 rfl) ?_
        have hW : CxB D [(t0, .inr (11, [.ref t1, .ref t2, .ref t3, .ref t4, .ref t5, .ref t6])), (t1, .inl (aT 0, 12, .inl r1)), (t2, .inl (aT 0, 12, .inl r2)), (t3, .inl (aT 0, 12, .inl r3)), (t4, .inl (aT 0, 12, .inl f)), (t5, .inl (aT 2, 12, .inr (.inl r5))), (t6, .inl (aT 2, 12, .inr (.inl r6))), (a5, .inr (8, [.ref a6, .ref a7, .ref a8, .ref a9, .int (nI nm), .int nx])), (a6, .inl (aT 0, 12, .inl fI)), (a7, .inl (aT 0, 12, .inl fN)), (a8, .inl (aT 0, 12, .inl fW)), (a9, .inl (aT 0, 12, .inl fP))] A s.heap H _ := cx_drop hW [0, 1, 2, 3, 11, 4, 5, 6, 7, 8, 9, 10] rfl (by decide)
        exact cx_iret C hr hlocks rfl hW ⟨Nat.le_of_ble_eq_true rfl, Nat.le_of_ble_eq_true rfl⟩ (⟨⟨u, rfl, hu⟩, _, rfl⟩) dX8_farthestFrom_146
      · refine lv_aload_n hx hb dX8_farthestFrom_66 rfl (lv_at hl 4 rfl) ?_
        refine cx_getN C hZ hW 6 3 rfl rfl (by decide) inX5 nw_158 rfl rfl dX8_farthestFrom_67 ?_
        refine lv_iload hx hb dX8_farthestFrom_70 (lv_at hl 0 rfl) ?_
        refine cx_ald C hW 10 0 (j := w) rfl rfl rfl (by have h1 := hO.1; omega) (by decide) dX8_farthestFrom_72 ?_
        refine r_eq (y := (oi (pr w))) (hO.2.2.1 w (by omega)) ?_
        refine lv_istore (lv' := [(7, .int (oi (pr w))), (6, .int (nI w)), (5, .int (nI u)), (3, .int (nI tp)), (2, .int (nI k)), (1, .ref a5), (0, .ref t0)]) hx hb dX8_farthestFrom_73 hl (by decide) rfl (fun ls hl => ?_)
        refine lv_aload_n hx hb dX8_farthestFrom_75 rfl (lv_at hl 6 rfl) ?_
        refine cx_get C hW 0 3 rfl rfl (by decide) inX8 gw_246 rfl rfl dX8_farthestFrom_76 ?_
        refine lv_iload hx hb dX8_farthestFrom_79 (lv_at hl 1 rfl) ?_
        refine cx_ald C hW 11 0 (j := w) rfl rfl rfl (by have h1 := hO.1; omega) (by decide) dX8_farthestFrom_81 ?_
        refine lv_if_ge hx hb (x := (f w)) (tgt := 117) dX8_farthestFrom_82 (by decide) (fun c_82 => ?_) (fun c_82 => ?_)
        · refine lv_aload_n hx hb dX8_farthestFrom_117 rfl (lv_at hl 6 rfl) ?_
          refine cx_get C hW 0 3 rfl rfl (by decide) inX8 gw_246 rfl rfl dX8_farthestFrom_118 ?_
          refine lv_iload hx hb dX8_farthestFrom_121 (lv_at hl 1 rfl) ?_
          refine cx_ald C hW 11 0 (j := w) rfl rfl rfl (by have h1 := hO.1; omega) (by decide) dX8_farthestFrom_123 ?_
          refine lv_aload_n hx hb dX8_farthestFrom_124 rfl (lv_at hl 6 rfl) ?_
          refine cx_get C hW 0 3 rfl rfl (by decide) inX8 gw_246 rfl rfl dX8_farthestFrom_125 ?_
          refine lv_iload hx hb dX8_farthestFrom_128 (lv_at hl 2 rfl) ?_
          refine cx_ald C hW 11 0 (j := u) rfl rfl rfl (by have h1 := hO.1; omega) (by decide) dX8_farthestFrom_130 ?_
          refine lv_icmp_le hx hb (x := (f w)) (y := (f u)) (tgt := 138) dX8_farthestFrom_131 (by decide) (fun c_131 => ?_) (fun c_131 => ?_)
          · refine lv_iinc (v := (nI (w + 1))) (lv' := [(6, .int (nI (w + 1))), (7, .int (oi (pr w))), (5, .int (nI u)), (3, .int (nI tp)), (2, .int (nI k)), (1, .ref a5), (0, .ref t0)]) hx hb dX8_farthestFrom_138 hl (k := 1) rfl (nI_1 _) (by decide) rfl (fun ls hl => ?_)
            refine lv_goto (tgt := 57) hx hb dX8_farthestFrom_141 (by decide) ?_
            exact ih_57 ((w + 1), u, f) _ _ _ (by first | omega | (dsimp only; omega)) ⟨_, rfl, lv_sub hl [0, 2, 3, 4, 5, 6] rfl, hW, ⟨by dsimp only; omega, by dsimp only; omega⟩⟩
          · refine lv_iload hx hb dX8_farthestFrom_134 (lv_at hl 1 rfl) ?_
            refine lv_istore (lv' := [(5, .int (nI w)), (7, .int (oi (pr w))), (6, .int (nI w)), (3, .int (nI tp)), (2, .int (nI k)), (1, .ref a5), (0, .ref t0)]) hx hb dX8_farthestFrom_136 hl (by decide) rfl (fun ls hl => ?_)
            refine lv_iinc (v := (nI (w + 1))) (lv' := [(6, .int (nI (w + 1))), (5, .int (nI w)), (7, .int (oi (pr w))), (3, .int (nI tp)), (2, .int (nI k)), (1, .ref a5), (0, .ref t0)]) hx hb dX8_farthestFrom_138 hl (k := 2) rfl (nI_1 _) (by decide) rfl (fun ls hl => ?_)
            refine lv_goto (tgt := 57) hx hb dX8_farthestFrom_141 (by decide) ?_
            exact ih_57 ((w + 1), w, f) _ _ _ (by first | omega | (dsimp only; omega)) ⟨_, rfl, lv_sub hl [0, 1, 3, 4, 5, 6] rfl, hW, ⟨by dsimp only; omega, by dsimp only; omega⟩⟩
        · refine lv_iload hx hb dX8_farthestFrom_85 (lv_at hl 0 rfl) ?_
          refine lv_iload_n hx hb dX8_farthestFrom_87 rfl (lv_at hl 3 rfl) ?_
          refine r_oi_ltN hx hb (o := (pr w)) (q := tp) (fun j hj => by have h1 := hO.1; have h2 := hO.2.2.2.1 w j (by omega) hj; omega) (by have h1 := hO.1; omega) (tgt := 117) dX8_farthestFrom_88 (by decide) (fun c_88 => ?_) (fun j_88 e_88 c_88 => ?_)
          · refine lv_aload_n hx hb dX8_farthestFrom_117 rfl (lv_at hl 6 rfl) ?_
            refine cx_get C hW 0 3 rfl rfl (by decide) inX8 gw_246 rfl rfl dX8_farthestFrom_118 ?_
            refine lv_iload hx hb dX8_farthestFrom_121 (lv_at hl 1 rfl) ?_
            refine cx_ald C hW 11 0 (j := w) rfl rfl rfl (by have h1 := hO.1; omega) (by decide) dX8_farthestFrom_123 ?_
            refine lv_aload_n hx hb dX8_farthestFrom_124 rfl (lv_at hl 6 rfl) ?_
            refine cx_get C hW 0 3 rfl rfl (by decide) inX8 gw_246 rfl rfl dX8_farthestFrom_125 ?_
            refine lv_iload hx hb dX8_farthestFrom_128 (lv_at hl 2 rfl) ?_
            refine cx_ald C hW 11 0 (j := u) rfl rfl rfl (by have h1 := hO.1; omega) (by decide) dX8_farthestFrom_130 ?_
            refine lv_icmp_le hx hb (x := (f w)) (y := (f u)) (tgt := 138) dX8_farthestFrom_131 (by decide) (fun c_131 => ?_) (fun c_131 => ?_)
            · refine lv_iinc (v := (nI (w + 1))) (lv' := [(6, .int (nI (w + 1))), (7, .int (oi (pr w))), (5, .int (nI u)), (3, .int (nI tp)), (2, .int (nI k)), (1, .ref a5), (0, .ref t0)]) hx hb dX8_farthestFrom_138 hl (k := 1) rfl (nI_1 _) (by decide) rfl (fun ls hl => ?_)
              refine lv_goto (tgt := 57) hx hb dX8_farthestFrom_141 (by decide) ?_
              exact ih_57 ((w + 1), u, f) _ _ _ (by first | omega | (dsimp only; omega)) ⟨_, rfl, lv_sub hl [0, 2, 3, 4, 5, 6] rfl, hW, ⟨by dsimp only; omega, by dsimp only; omega⟩⟩
            · refine lv_iload hx hb dX8_farthestFrom_134 (lv_at hl 1 rfl) ?_
              refine lv_istore (lv' := [(5, .int (nI w)), (7, .int (oi (pr w))), (6, .int (nI w)), (3, .int (nI tp)), (2, .int (nI k)), (1, .ref a5), (0, .ref t0)]) hx hb dX8_farthestFrom_136 hl (by decide) rfl (fun ls hl => ?_)
              refine lv_iinc (v := (nI (w + 1))) (lv' := [(6, .int (nI (w + 1))), (5, .int (nI w)), (7, .int (oi (pr w))), (3, .int (nI tp)), (2, .int (nI k)), (1, .ref a5), (0, .ref t0)]) hx hb dX8_farthestFrom_138 hl (k := 2) rfl (nI_1 _) (by decide) rfl (fun ls hl => ?_)
              refine lv_goto (tgt := 57) hx hb dX8_farthestFrom_141 (by decide) ?_
              exact ih_57 ((w + 1), w, f) _ _ _ (by first | omega | (dsimp only; omega)) ⟨_, rfl, lv_sub hl [0, 1, 3, 4, 5, 6] rfl, hW, ⟨by dsimp only; omega, by dsimp only; omega⟩⟩
          · rw [e_88] at hl
            have hl : lv_has ls 8 [(7, .int (nI j_88)), (6, .int (nI w)), (5, .int (nI u)), (3, .int (nI tp)), (2, .int (nI k)), (1, .ref a5), (0, .ref t0)] := hl
            refine lv_aload_n hx hb dX8_farthestFrom_91 rfl (lv_at hl 6 rfl) ?_
            refine cx_get C hW 0 3 rfl rfl (by decide) inX8 gw_246 rfl rfl dX8_farthestFrom_92 ?_
            refine lv_iload hx hb dX8_farthestFrom_95 (lv_at hl 0 rfl) ?_
            refine cx_ald C hW 11 0 (j := j_88) rfl rfl rfl (by have h1 := hO.1; have h2 := hO.2.2.2.1 w _ (by omega) e_88; omega) (by decide) dX8_farthestFrom_97 ?_
            refine lv_if_lt hx hb (x := (f j_88)) (tgt := 117) dX8_farthestFrom_98 (by decide) (fun c_98 => ?_) (fun c_98 => ?_)
            · refine lv_aload_n hx hb dX8_farthestFrom_117 rfl (lv_at hl 6 rfl) ?_
              refine cx_get C hW 0 3 rfl rfl (by decide) inX8 gw_246 rfl rfl dX8_farthestFrom_118 ?_
              refine lv_iload hx hb dX8_farthestFrom_121 (lv_at hl 1 rfl) ?_
              refine cx_ald C hW 11 0 (j := w) rfl rfl rfl (by have h1 := hO.1; omega) (by decide) dX8_farthestFrom_123 ?_
              refine lv_aload_n hx hb dX8_farthestFrom_124 rfl (lv_at hl 6 rfl) ?_
              refine cx_get C hW 0 3 rfl rfl (by decide) inX8 gw_246 rfl rfl dX8_farthestFrom_125 ?_
              refine lv_iload hx hb dX8_farthestFrom_128 (lv_at hl 2 rfl) ?_
              refine cx_ald C hW 11 0 (j := u) rfl rfl rfl (by have h1 := hO.1; omega) (by decide) dX8_farthestFrom_130 ?_
              refine lv_icmp_le hx hb (x := (f w)) (y := (f u)) (tgt := 138) dX8_farthestFrom_131 (by decide) (fun c_131 => ?_) (fun c_131 => ?_)
              · refine lv_iinc (v := (nI (w + 1))) (lv' := [(6, .int (nI (w + 1))), (7, .int (nI j_88)), (5, .int (nI u)), (3, .int (nI tp)), (2, .int (nI k)), (1, .ref a5), (0, .ref t0)]) hx hb dX8_farthestFrom_138 hl (k := 1) rfl (nI_1 _) (by decide) rfl (fun ls hl => ?_)
                refine lv_goto (tgt := 57) hx hb dX8_farthestFrom_141 (by decide) ?_
                exact ih_57 ((w + 1), u, f) _ _ _ (by first | omega | (dsimp only; omega)) ⟨_, rfl, lv_sub hl [0, 2, 3, 4, 5, 6] rfl, hW, ⟨by dsimp only; omega, by dsimp only; omega⟩⟩
              · refine lv_iload hx hb dX8_farthestFrom_134 (lv_at hl 1 rfl) ?_
                refine lv_istore (lv' := [(5, .int (nI w)), (7, .int (nI j_88)), (6, .int (nI w)), (3, .int (nI tp)), (2, .int (nI k)), (1, .ref a5), (0, .ref t0)]) hx hb dX8_farthestFrom_136 hl (by decide) rfl (fun ls hl => ?_)
                refine lv_iinc (v := (nI (w + 1))) (lv' := [(6, .int (nI (w + 1))), (5, .int (nI w)), (7, .int (nI j_88)), (3, .int (nI tp)), (2, .int (nI k)), (1, .ref a5), (0, .ref t0)]) hx hb dX8_farthestFrom_138 hl (k := 2) rfl (nI_1 _) (by decide) rfl (fun ls hl => ?_)
                refine lv_goto (tgt := 57) hx hb dX8_farthestFrom_141 (by decide) ?_
                exact ih_57 ((w + 1), w, f) _ _ _ (by first | omega | (dsimp only; omega)) ⟨_, rfl, lv_sub hl [0, 1, 3, 4, 5, 6] rfl, hW, ⟨by dsimp only; omega, by dsimp only; omega⟩⟩
            · refine lv_aload_n hx hb dX8_farthestFrom_101 rfl (lv_at hl 6 rfl) ?_
              refine cx_get C hW 0 3 rfl rfl (by decide) inX8 gw_246 rfl rfl dX8_farthestFrom_102 ?_
              refine lv_iload hx hb dX8_farthestFrom_105 (lv_at hl 1 rfl) ?_
              refine lv_aload_n hx hb dX8_farthestFrom_107 rfl (lv_at hl 6 rfl) ?_
              refine cx_get C hW 0 3 rfl rfl (by decide) inX8 gw_246 rfl rfl dX8_farthestFrom_108 ?_
              refine lv_iload hx hb dX8_farthestFrom_111 (lv_at hl 0 rfl) ?_
              refine cx_ald C hW 11 0 (j := j_88) rfl rfl rfl (by have h1 := hO.1; have h2 := hO.2.2.2.1 w _ (by omega) e_88; omega) (by decide) dX8_farthestFrom_113 ?_
              refine lv_iconst (v := nI 1) hx hb dX8_farthestFrom_114 (by decide) ?_
              refine lv_iadd hx hb dX8_farthestFrom_115 ?_
              refine cx_ast C hW 11 0 (j := w) (W1 := [(t0, .inr (11, [.ref t1, .ref t2, .ref t3, .ref t4, .ref t5, .ref t6])), (t1, .inl (aT 0, 12, .inl r1)), (t2, .inl (aT 0, 12, .inl r2)), (t3, .inl (aT 0, 12, .inl r3)), (t5, .inl (aT 2, 12, .inr (.inl r5))), (t6, .inl (aT 2, 12, .inr (.inl r6))), (a5, .inr (8, [.ref a6, .ref a7, .ref a8, .ref a9, .int (nI nm), .int nx])), (a6, .inl (aT 0, 12, .inl fI)), (a7, .inl (aT 0, 12, .inl fN)), (a8, .inl (aT 0, 12, .inl fW)), (a9, .inl (aT 0, 12, .inl fP)), (t4, .inl (aT 0, 12, .inl (upd f w (((f j_88) + (nI 1))))))]) rfl rfl rfl (by have h1 := hO.1; omega) (by decide) rfl dX8_farthestFrom_116 (fun H locs hW => ?_)
              refine lv_aload_n hx hb dX8_farthestFrom_117 rfl (lv_at hl 6 rfl) ?_
              refine cx_get C hW 0 3 rfl rfl (by decide) inX8 gw_246 rfl rfl dX8_farthestFrom_118 ?_
              refine lv_iload hx hb dX8_farthestFrom_121 (lv_at hl 1 rfl) ?_
              refine cx_ald C hW 11 0 (j := w) rfl rfl rfl (by have h1 := hO.1; omega) (by decide) dX8_farthestFrom_123 ?_
              refine lv_aload_n hx hb dX8_farthestFrom_124 rfl (lv_at hl 6 rfl) ?_
              refine cx_get C hW 0 3 rfl rfl (by decide) inX8 gw_246 rfl rfl dX8_farthestFrom_125 ?_
              refine lv_iload hx hb dX8_farthestFrom_128 (lv_at hl 2 rfl) ?_
              refine cx_ald C hW 11 0 (j := u) rfl rfl rfl (by have h1 := hO.1; omega) (by decide) dX8_farthestFrom_130 ?_
              refine lv_icmp_le hx hb (x := ((upd f w (((f j_88) + (nI 1)))) w)) (y := ((upd f w (((f j_88) + (nI 1)))) u)) (tgt := 138) dX8_farthestFrom_131 (by decide) (fun c_131 => ?_) (fun c_131 => ?_)
              · refine lv_iinc (v := (nI (w + 1))) (lv' := [(6, .int (nI (w + 1))), (7, .int (nI j_88)), (5, .int (nI u)), (3, .int (nI tp)), (2, .int (nI k)), (1, .ref a5), (0, .ref t0)]) hx hb dX8_farthestFrom_138 hl (k := 1) rfl (nI_1 _) (by decide) rfl (fun ls hl => ?_)
                refine lv_goto (tgt := 57) hx hb dX8_farthestFrom_141 (by decide) ?_
                exact ih_57 ((w + 1), u, (upd f w (((f j_88) + (nI 1))))) _ _ _ (by first | omega | (dsimp only; omega)) ⟨_, rfl, lv_sub hl [0, 2, 3, 4, 5, 6] rfl, hW, ⟨by dsimp only; omega, by dsimp only; omega⟩⟩
              · refine lv_iload hx hb dX8_farthestFrom_134 (lv_at hl 1 rfl) ?_
                refine lv_istore (lv' := [(5, .int (nI w)), (7, .int (nI j_88)), (6, .int (nI w)), (3, .int (nI tp)), (2, .int (nI k)), (1, .ref a5), (0, .ref t0)]) hx hb dX8_farthestFrom_136 hl (by decide) rfl (fun ls hl => ?_)
                refine lv_iinc (v := (nI (w + 1))) (lv' := [(6, .int (nI (w + 1))), (5, .int (nI w)), (7, .int (nI j_88)), (3, .int (nI tp)), (2, .int (nI k)), (1, .ref a5), (0, .ref t0)]) hx hb dX8_farthestFrom_138 hl (k := 2) rfl (nI_1 _) (by decide) rfl (fun ls hl => ?_)
                refine lv_goto (tgt := 57) hx hb dX8_farthestFrom_141 (by decide) ?_
                exact ih_57 ((w + 1), w, (upd f w (((f j_88) + (nI 1))))) _ _ _ (by first | omega | (dsimp only; omega)) ⟨_, rfl, lv_sub hl [0, 1, 3, 4, 5, 6] rfl, hW, ⟨by dsimp only; omega, by dsimp only; omega⟩⟩
    · subst e_24
      have hl : lv_has ls 8 [(5, .int (nI w)), (4, .int (nI j_24)), (3, .int (nI tp)), (2, .int (nI k)), (1, .ref a5), (0, .ref t0)] := hl
      refine lv_aload_n hx hb dX8_farthestFrom_27 rfl (lv_at hl 5 rfl) ?_
      refine cx_get C hW 0 3 rfl rfl (by decide) inX8 gw_246 rfl rfl dX8_farthestFrom_28 ?_
      refine lv_iload hx hb dX8_farthestFrom_31 (lv_at hl 1 rfl) ?_
      refine lv_iload hx hb dX8_farthestFrom_33 (lv_at hl 0 rfl) ?_
      refine cx_ast C hW 11 0 (j := j_24) (W1 := [(t0, .inr (11, [.ref t1, .ref t2, .ref t3, .ref t4, .ref t5, .ref t6])), (t1, .inl (aT 0, 12, .inl r1)), (t2, .inl (aT 0, 12, .inl r2)), (t3, .inl (aT 0, 12, .inl r3)), (t5, .inl (aT 2, 12, .inr (.inl r5))), (t6, .inl (aT 2, 12, .inr (.inl r6))), (a5, .inr (8, [.ref a6, .ref a7, .ref a8, .ref a9, .int (nI nm), .int nx])), (a6, .inl (aT 0, 12, .inl fI)), (a7, .inl (aT 0, 12, .inl fN)), (a8, .inl (aT 0, 12, .inl fW)), (a9, .inl (aT 0, 12, .inl fP)), (t4, .inl (aT 0, 12, .inl (upd f j_24 ((nI w)))))]) rfl rfl rfl (by have h1 := hO.1; have := ho _ rfl; omega) (by decide) rfl dX8_farthestFrom_35 (fun H locs hW => ?_)
      refine lv_aload_n hx hb dX8_farthestFrom_36 rfl (lv_at hl 4 rfl) ?_
      refine cx_getN C hZ hW 6 3 rfl rfl (by decide) inX5 nw_158 rfl rfl dX8_farthestFrom_37 ?_
      refine lv_iload hx hb dX8_farthestFrom_40 (lv_at hl 1 rfl) ?_
      refine cx_ald C hW 10 0 (j := j_24) rfl rfl rfl (by have h1 := hO.1; have := ho _ rfl; omega) (by decide) dX8_farthestFrom_42 ?_
      refine r_eq (y := (oi (pr j_24))) (hO.2.2.1 _ (ho _ rfl)) ?_
      refine lv_istore (lv' := [(4, .int (oi (pr j_24))), (5, .int (nI w)), (3, .int (nI tp)), (2, .int (nI k)), (1, .ref a5), (0, .ref t0)]) hx hb dX8_farthestFrom_43 hl (by decide) rfl (fun ls hl => ?_)
      refine lv_iinc (v := (nI (w + 1))) (lv' := [(5, .int (nI (w + 1))), (4, .int (oi (pr j_24))), (3, .int (nI tp)), (2, .int (nI k)), (1, .ref a5), (0, .ref t0)]) hx hb dX8_farthestFrom_45 hl (k := 1) rfl (nI_1 _) (by decide) rfl (fun ls hl => ?_)
      refine lv_goto (tgt := 14) hx hb dX8_farthestFrom_48 (by decide) ?_
      exact ih_14 ((w + 1), (pr j_24), (upd f j_24 ((nI w)))) _ _ _ (by first | omega | (dsimp only; omega)) ⟨_, rfl, lv_sub hl [0, 1, 2, 3, 4, 5] rfl, hW, ⟨by dsimp only; omega, fun j h => by have h1 := hO.2.2.2.1 _ j (ho _ rfl) h; have := ho _ rfl; omega⟩⟩
theorem dX8_longestBySweeps_0 : decode cX8_longestBySweeps 0 = .ok (.aload_n 0, 1) := by decide +kernel
theorem dX8_longestBySweeps_1 : decode cX8_longestBySweeps 1 = .ok (.aload_n 1, 1) := by decide +kernel
theorem dX8_longestBySweeps_2 : decode cX8_longestBySweeps 2 = .ok (.iload_n 2, 1) := by decide +kernel
theorem dX8_longestBySweeps_3 : decode cX8_longestBySweeps 3 = .ok (.iload_n 2, 1) := by decide +kernel
theorem dX8_longestBySweeps_4 : decode cX8_longestBySweeps 4 = .ok (.invokevirtual 64, 3) := by decide +kernel
theorem dX8_longestBySweeps_7 : decode cX8_longestBySweeps 7 = .ok (.istore_n 3, 1) := by decide +kernel
theorem dX8_longestBySweeps_8 : decode cX8_longestBySweeps 8 = .ok (.aload_n 0, 1) := by decide +kernel
theorem dX8_longestBySweeps_9 : decode cX8_longestBySweeps 9 = .ok (.aload_n 1, 1) := by decide +kernel
theorem dX8_longestBySweeps_10 : decode cX8_longestBySweeps 10 = .ok (.iload_n 3, 1) := by decide +kernel
theorem dX8_longestBySweeps_11 : decode cX8_longestBySweeps 11 = .ok (.iload_n 2, 1) := by decide +kernel
theorem dX8_longestBySweeps_12 : decode cX8_longestBySweeps 12 = .ok (.invokevirtual 64, 3) := by decide +kernel
theorem dX8_longestBySweeps_15 : decode cX8_longestBySweeps 15 = .ok (.istore 4, 2) := by decide +kernel
theorem dX8_longestBySweeps_17 : decode cX8_longestBySweeps 17 = .ok (.aload_n 0, 1) := by decide +kernel
theorem dX8_longestBySweeps_18 : decode cX8_longestBySweeps 18 = .ok (.getfield 21, 3) := by decide +kernel
theorem dX8_longestBySweeps_21 : decode cX8_longestBySweeps 21 = .ok (.iload 4, 2) := by decide +kernel
theorem dX8_longestBySweeps_23 : decode cX8_longestBySweeps 23 = .ok (.iaload, 1) := by decide +kernel
theorem dX8_longestBySweeps_24 : decode cX8_longestBySweeps 24 = .ok (.iconst 1, 1) := by decide +kernel
theorem dX8_longestBySweeps_25 : decode cX8_longestBySweeps 25 = .ok (.iadd, 1) := by decide +kernel
theorem dX8_longestBySweeps_26 : decode cX8_longestBySweeps 26 = .ok (.ireturn, 1) := by decide +kernel
theorem gV_X8_X8_farthestFrom_64 : GoodIn gw (wsV RX8 64 RX8 yX8_farthestFrom (Cond.code yX8_farthestFrom cX8_farthestFrom 8 (some .int) :: gw)) := gdV gw_515 gw_517 gw_1 gw_72 gw_518
theorem hV_X8_farthestFrom : yX8_farthestFrom.cls = RX8 ∧ yX8_farthestFrom.cls ≠ "java/lang/invoke/MethodHandle" ∧ yX8_farthestFrom.cls ≠ "java/lang/invoke/VarHandle" ∧ (parseMethodDescriptor yX8_farthestFrom.desc).map (fun d => d.parameters.length) = some 3 := ⟨rfl, by decide +kernel, by decide +kernel, by decide +kernel⟩
set_option maxHeartbeats 2000000 in
set_option maxRecDepth 20000 in
theorem k_X8_longestBySweeps (l : Launch) (hfl : l.stackTraces = false) (D : va_G) (aT : Nat → ClassId) (t0 : Nat) (t1 : Nat) (t2 : Nat) (t3 : Nat) (t4 : Nat) (t5 : Nat) (t6 : Nat) (r1 : Nat → Int32) (r2 : Nat → Int32) (r3 : Nat → Int32) (r4 : Nat → Int32) (r5 : Nat → Int64) (r6 : Nat → Int64) (a5 : Nat) (a6 : Nat) (a7 : Nat) (a8 : Nat) (a9 : Nat) (fI : Nat → Int32) (fN : Nat → Int32) (fW : Nat → Int32) (fP : Nat → Int32) (nm : Nat) (nx : Int32) (idn : Nat → Nat) (pr : Nat → Option Nat) (tn : Nat → Nat) (hO : MoC fI fN fP nm idn pr tn) (tp : Nat) (htp : tp < nm) : CxG l yX8_longestBySweeps cX8_longestBySweeps 5 (some (.int)) 2 0 0 50 D aT [.ref t0, .ref a5, .int (nI tp)] [(t0, .inr (11, [.ref t1, .ref t2, .ref t3, .ref t4, .ref t5, .ref t6])), (t1, .inl (aT 0, 12, .inl r1)), (t2, .inl (aT 0, 12, .inl r2)), (t3, .inl (aT 0, 12, .inl r3)), (t4, .inl (aT 0, 12, .inl r4)), (t5, .inl (aT 2, 12, .inr (.inl r5))), (t6, .inl (aT 2, 12, .inr (.inl r6))), (a5, .inr (8, [.ref a6, .ref a7, .ref a8, .ref a9, .int (nI nm), .int nx])), (a6, .inl (aT 0, 12, .inl fI)), (a7, .inl (aT 0, 12, .inl fN)), (a8, .inl (aT 0, 12, .inl fW)), (a9, .inl (aT 0, 12, .inl fP))] (qI D aT (fun r W1 => ∃ g4 : Nat → Int32, W1 = [(t0, .inr (11, [.ref t1, .ref t2, .ref t3, .ref t4, .ref t5, .ref t6])), (t1, .inl (aT 0, 12, .inl r1)), (t2, .inl (aT 0, 12, .inl r2)), (t3, .inl (aT 0, 12, .inl r3)), (t4, .inl (aT 0, 12, .inl g4)), (t5, .inl (aT 2, 12, .inr (.inl r5))), (t6, .inl (aT 2, 12, .inr (.inl r6))), (a5, .inr (8, [.ref a6, .ref a7, .ref a8, .ref a9, .int (nI nm), .int nx])), (a6, .inl (aT 0, 12, .inl fI)), (a7, .inl (aT 0, 12, .inl fN)), (a8, .inl (aT 0, 12, .inl fW)), (a9, .inl (aT 0, 12, .inl fP))])) (fun _ _ => False) := by
  refine CxG.of RX8 (by decide +kernel) rfl (Nat.le_of_ble_eq_true rfl) ?_
  intro p e s m below meth c A ls C hml hl hA hr hlocks hex hnm hZ hW
  have hl : lv_has ls 5 [(0, .ref t0), (1, .ref a5), (2, .int (nI tp))] := hl
  have hx := C.1
  have hb := C.2.1
  refine lv_aload_n hx hb dX8_longestBySweeps_0 rfl (lv_at hl 0 rfl) ?_
  refine lv_aload_n hx hb dX8_longestBySweeps_1 rfl (lv_at hl 1 rfl) ?_
  refine lv_iload_n hx hb dX8_longestBySweeps_2 rfl (lv_at hl 2 rfl) ?_
  refine lv_iload_n hx hb dX8_longestBySweeps_3 rfl (lv_at hl 2 rfl) ?_
  refine cx_calli (Wr := []) (cx_runV C hml hl.1 hZ hW hA (As := [.ref a5, .int (nI tp), .int (nI tp)]) (rest := []) (k_X8_farthestFrom l hfl D aT t0 t1 t2 t3 t4 t5 t6 r1 r2 r3 r4 r5 r6 a5 a6 a7 a8 a9 fI fN fW fP nm nx idn pr tn hO tp htp tp htp) gV_X8_X8_farthestFrom_64 hV_X8_farthestFrom rfl ⟨Nat.le_of_ble_eq_true rfl, Nat.le_of_ble_eq_true rfl⟩ ⟨Nat.le_of_ble_eq_true rfl, Nat.le_of_ble_eq_true rfl⟩ [0, 1, 2, 3, 4, 5, 6, 7, 8, 9, 10, 11] rfl (by decide) 0 11 rfl rfl rfl rfl (Nat.le_of_ble_eq_true rfl) dX8_longestBySweeps_4) hW hA [0, 1, 2, 3, 4, 5, 6, 7, 8, 9, 10, 11] [] rfl rfl (by decide) (by decide) (fun _ _ _ _ _ _ h9 => h9.elim) (fun r_4 W_4 H locs hq hW => ?_)
  obtain ⟨⟨u_4, rfl, hu_4⟩, q4_4, rfl⟩ := hq
  have hW : CxB D [(t0, .inr (11, [.ref t1, .ref t2, .ref t3, .ref t4, .ref t5, .ref t6])), (t1, .inl (aT 0, 12, .inl r1)), (t2, .inl (aT 0, 12, .inl r2)), (t3, .inl (aT 0, 12, .inl r3)), (t4, .inl (aT 0, 12, .inl q4_4)), (t5, .inl (aT 2, 12, .inr (.inl r5))), (t6, .inl (aT 2, 12, .inr (.inl r6))), (a5, .inr (8, [.ref a6, .ref a7, .ref a8, .ref a9, .int (nI nm), .int nx])), (a6, .inl (aT 0, 12, .inl fI)), (a7, .inl (aT 0, 12, .inl fN)), (a8, .inl (aT 0, 12, .inl fW)), (a9, .inl (aT 0, 12, .inl fP))] A s.heap H _ := hW
  refine lv_istore_n (lv' := [(3, .int (nI u_4)), (0, .ref t0), (1, .ref a5), (2, .int (nI tp))]) hx hb dX8_longestBySweeps_7 rfl hl (by decide) rfl (fun ls hl => ?_)
  refine lv_aload_n hx hb dX8_longestBySweeps_8 rfl (lv_at hl 1 rfl) ?_
  refine lv_aload_n hx hb dX8_longestBySweeps_9 rfl (lv_at hl 2 rfl) ?_
  refine lv_iload_n hx hb dX8_longestBySweeps_10 rfl (lv_at hl 0 rfl) ?_
  refine lv_iload_n hx hb dX8_longestBySweeps_11 rfl (lv_at hl 3 rfl) ?_
  refine cx_calli (Wr := []) (cx_runV C hml hl.1 hZ hW hA (As := [.ref a5, .int (nI u_4), .int (nI tp)]) (rest := []) (k_X8_farthestFrom l hfl D aT t0 t1 t2 t3 t4 t5 t6 r1 r2 r3 q4_4 r5 r6 a5 a6 a7 a8 a9 fI fN fW fP nm nx idn pr tn hO u_4 hu_4 tp htp) gV_X8_X8_farthestFrom_64 hV_X8_farthestFrom rfl ⟨Nat.le_of_ble_eq_true rfl, Nat.le_of_ble_eq_true rfl⟩ ⟨Nat.le_of_ble_eq_true rfl, Nat.le_of_ble_eq_true rfl⟩ [0, 1, 2, 3, 4, 5, 6, 7, 8, 9, 10, 11] rfl (by decide) 0 11 rfl rfl rfl rfl (Nat.le_of_ble_eq_true rfl) dX8_longestBySweeps_12) hW hA [0, 1, 2, 3, 4, 5, 6, 7, 8, 9, 10, 11] [] rfl rfl (by decide) (by decide) (fun _ _ _ _ _ _ h9 => h9.elim) (fun r_12 W_12 H locs hq hW => ?_)
  obtain ⟨⟨u_12, rfl, hu_12⟩, q4_12, rfl⟩ := hq
  have hW : CxB D [(t0, .inr (11, [.ref t1, .ref t2, .ref t3, .ref t4, .ref t5, .ref t6])), (t1, .inl (aT 0, 12, .inl r1)), (t2, .inl (aT 0, 12, .inl r2)), (t3, .inl (aT 0, 12, .inl r3)), (t4, .inl (aT 0, 12, .inl q4_12)), (t5, .inl (aT 2, 12, .inr (.inl r5))), (t6, .inl (aT 2, 12, .inr (.inl r6))), (a5, .inr (8, [.ref a6, .ref a7, .ref a8, .ref a9, .int (nI nm), .int nx])), (a6, .inl (aT 0, 12, .inl fI)), (a7, .inl (aT 0, 12, .inl fN)), (a8, .inl (aT 0, 12, .inl fW)), (a9, .inl (aT 0, 12, .inl fP))] A s.heap H _ := hW
  refine lv_istore (lv' := [(4, .int (nI u_12)), (3, .int (nI u_4)), (0, .ref t0), (1, .ref a5), (2, .int (nI tp))]) hx hb dX8_longestBySweeps_15 hl (by decide) rfl (fun ls hl => ?_)
  refine lv_aload_n hx hb dX8_longestBySweeps_17 rfl (lv_at hl 2 rfl) ?_
  refine cx_get C hW 0 3 rfl rfl (by decide) inX8 gw_246 rfl rfl dX8_longestBySweeps_18 ?_
  refine lv_iload hx hb dX8_longestBySweeps_21 (lv_at hl 0 rfl) ?_
  refine cx_ald C hW 4 0 (j := u_12) rfl rfl rfl (by have h1 := hO.1; omega) (by decide) dX8_longestBySweeps_23 ?_
  refine lv_iconst (v := nI 1) hx hb dX8_longestBySweeps_24 (by decide) ?_
  refine lv_iadd hx hb dX8_longestBySweeps_25 ?_
  exact cx_iret C hr hlocks rfl hW ⟨Nat.le_of_ble_eq_true rfl, Nat.le_of_ble_eq_true rfl⟩ (⟨_, rfl⟩) dX8_longestBySweeps_26
theorem dX8_longestByHeights_0 : decode cX8_longestByHeights 0 = .ok (.aload_n 0, 1) := by decide +kernel
theorem dX8_longestByHeights_1 : decode cX8_longestByHeights 1 = .ok (.getfield 18, 3) := by decide +kernel
theorem dX8_longestByHeights_4 : decode cX8_longestByHeights 4 = .ok (.iconst 0, 1) := by decide +kernel
theorem dX8_longestByHeights_5 : decode cX8_longestByHeights 5 = .ok (.invokestatic 44, 3) := by decide +kernel
theorem dX8_longestByHeights_8 : decode cX8_longestByHeights 8 = .ok (.iconst 1, 1) := by decide +kernel
theorem dX8_longestByHeights_9 : decode cX8_longestByHeights 9 = .ok (.istore_n 3, 1) := by decide +kernel
theorem dX8_longestByHeights_10 : decode cX8_longestByHeights 10 = .ok (.aload_n 1, 1) := by decide +kernel
theorem dX8_longestByHeights_11 : decode cX8_longestByHeights 11 = .ok (.getfield 50, 3) := by decide +kernel
theorem dX8_longestByHeights_14 : decode cX8_longestByHeights 14 = .ok (.iconst 1, 1) := by decide +kernel
theorem dX8_longestByHeights_15 : decode cX8_longestByHeights 15 = .ok (.isub, 1) := by decide +kernel
theorem dX8_longestByHeights_16 : decode cX8_longestByHeights 16 = .ok (.istore 4, 2) := by decide +kernel
theorem dX8_longestByHeights_18 : decode cX8_longestByHeights 18 = .ok (.iload 4, 2) := by decide +kernel
theorem dX8_longestByHeights_20 : decode cX8_longestByHeights 20 = .ok (.iload_n 2, 1) := by decide +kernel
theorem dX8_longestByHeights_21 : decode cX8_longestByHeights 21 = .ok (.if_icmp .le 75, 3) := by decide +kernel
theorem dX8_longestByHeights_24 : decode cX8_longestByHeights 24 = .ok (.aload_n 1, 1) := by decide +kernel
theorem dX8_longestByHeights_25 : decode cX8_longestByHeights 25 = .ok (.iload 4, 2) := by decide +kernel
theorem dX8_longestByHeights_27 : decode cX8_longestByHeights 27 = .ok (.iload_n 2, 1) := by decide +kernel
theorem dX8_longestByHeights_28 : decode cX8_longestByHeights 28 = .ok (.invokevirtual 54, 3) := by decide +kernel
theorem dX8_longestByHeights_31 : decode cX8_longestByHeights 31 = .ok (.ifCond .eq 59, 3) := by decide +kernel
theorem dX8_longestByHeights_34 : decode cX8_longestByHeights 34 = .ok (.aload_n 1, 1) := by decide +kernel
theorem dX8_longestByHeights_35 : decode cX8_longestByHeights 35 = .ok (.getfield 37, 3) := by decide +kernel
theorem dX8_longestByHeights_38 : decode cX8_longestByHeights 38 = .ok (.iload 4, 2) := by decide +kernel
theorem dX8_longestByHeights_40 : decode cX8_longestByHeights 40 = .ok (.iaload, 1) := by decide +kernel
theorem dX8_longestByHeights_41 : decode cX8_longestByHeights 41 = .ok (.istore 5, 2) := by decide +kernel
theorem dX8_longestByHeights_43 : decode cX8_longestByHeights 43 = .ok (.aload_n 0, 1) := by decide +kernel
theorem dX8_longestByHeights_44 : decode cX8_longestByHeights 44 = .ok (.getfield 18, 3) := by decide +kernel
theorem dX8_longestByHeights_47 : decode cX8_longestByHeights 47 = .ok (.iload 4, 2) := by decide +kernel
theorem dX8_longestByHeights_49 : decode cX8_longestByHeights 49 = .ok (.iaload, 1) := by decide +kernel
theorem dX8_longestByHeights_50 : decode cX8_longestByHeights 50 = .ok (.iconst 1, 1) := by decide +kernel
theorem dX8_longestByHeights_51 : decode cX8_longestByHeights 51 = .ok (.iadd, 1) := by decide +kernel
theorem dX8_longestByHeights_52 : decode cX8_longestByHeights 52 = .ok (.istore 6, 2) := by decide +kernel
theorem dX8_longestByHeights_54 : decode cX8_longestByHeights 54 = .ok (.iload_n 3, 1) := by decide +kernel
theorem dX8_longestByHeights_55 : decode cX8_longestByHeights 55 = .ok (.aload_n 0, 1) := by decide +kernel
theorem dX8_longestByHeights_56 : decode cX8_longestByHeights 56 = .ok (.getfield 18, 3) := by decide +kernel
theorem dX8_longestByHeights_59 : decode cX8_longestByHeights 59 = .ok (.iload 5, 2) := by decide +kernel
theorem dX8_longestByHeights_61 : decode cX8_longestByHeights 61 = .ok (.iaload, 1) := by decide +kernel
theorem dX8_longestByHeights_62 : decode cX8_longestByHeights 62 = .ok (.iconst 1, 1) := by decide +kernel
theorem dX8_longestByHeights_63 : decode cX8_longestByHeights 63 = .ok (.iadd, 1) := by decide +kernel
theorem dX8_longestByHeights_64 : decode cX8_longestByHeights 64 = .ok (.iload 6, 2) := by decide +kernel
theorem dX8_longestByHeights_66 : decode cX8_longestByHeights 66 = .ok (.iadd, 1) := by decide +kernel
theorem dX8_longestByHeights_67 : decode cX8_longestByHeights 67 = .ok (.invokestatic 58, 3) := by decide +kernel
theorem dX8_longestByHeights_70 : decode cX8_longestByHeights 70 = .ok (.istore_n 3, 1) := by decide +kernel
theorem dX8_longestByHeights_71 : decode cX8_longestByHeights 71 = .ok (.aload_n 0, 1) := by decide +kernel
theorem dX8_longestByHeights_72 : decode cX8_longestByHeights 72 = .ok (.getfield 18, 3) := by decide +kernel
theorem dX8_longestByHeights_75 : decode cX8_longestByHeights 75 = .ok (.iload 5, 2) := by decide +kernel
theorem dX8_longestByHeights_77 : decode cX8_longestByHeights 77 = .ok (.aload_n 0, 1) := by decide +kernel
theorem dX8_longestByHeights_78 : decode cX8_longestByHeights 78 = .ok (.getfield 18, 3) := by decide +kernel
theorem dX8_longestByHeights_81 : decode cX8_longestByHeights 81 = .ok (.iload 5, 2) := by decide +kernel
theorem dX8_longestByHeights_83 : decode cX8_longestByHeights 83 = .ok (.iaload, 1) := by decide +kernel
theorem dX8_longestByHeights_84 : decode cX8_longestByHeights 84 = .ok (.iload 6, 2) := by decide +kernel
theorem dX8_longestByHeights_86 : decode cX8_longestByHeights 86 = .ok (.invokestatic 58, 3) := by decide +kernel
theorem dX8_longestByHeights_89 : decode cX8_longestByHeights 89 = .ok (.iastore, 1) := by decide +kernel
theorem dX8_longestByHeights_90 : decode cX8_longestByHeights 90 = .ok (.iinc 4 (-1), 3) := by decide +kernel
theorem dX8_longestByHeights_93 : decode cX8_longestByHeights 93 = .ok (.goto (-75), 3) := by decide +kernel
theorem dX8_longestByHeights_96 : decode cX8_longestByHeights 96 = .ok (.iload_n 3, 1) := by decide +kernel
theorem dX8_longestByHeights_97 : decode cX8_longestByHeights 97 = .ok (.ireturn, 1) := by decide +kernel
theorem gV_X8_X5_isInBranch_54 : GoodIn gw (wsV RX8 54 RX5 yX5_isInBranch (Cond.code yX5_isInBranch cX5_isInBranch 5 (some .boolean) :: gw)) := gdV gw_506 gw_507 gw_508 gw_70 gw_509
set_option maxHeartbeats 2000000 in
set_option maxRecDepth 20000 in
theorem k_X8_longestByHeights (l : Launch) (hfl : l.stackTraces = false) (D : va_G) (aT : Nat → ClassId) (t0 : Nat) (t1 : Nat) (t2 : Nat) (t3 : Nat) (t4 : Nat) (t5 : Nat) (t6 : Nat) (r1 : Nat → Int32) (r2 : Nat → Int32) (r3 : Nat → Int32) (r4 : Nat → Int32) (r5 : Nat → Int64) (r6 : Nat → Int64) (a5 : Nat) (a6 : Nat) (a7 : Nat) (a8 : Nat) (a9 : Nat) (fI : Nat → Int32) (fN : Nat → Int32) (fW : Nat → Int32) (fP : Nat → Int32) (nm : Nat) (nx : Int32) (idn : Nat → Nat) (pr : Nat → Option Nat) (tn : Nat → Nat) (hO : MoC fI fN fP nm idn pr tn) (tp : Nat) (htp : tp < nm) : CxG l yX8_longestByHeights cX8_longestByHeights 7 (some (.int)) 1 0 0 40 D aT [.ref t0, .ref a5, .int (nI tp)] [(t0, .inr (11, [.ref t1, .ref t2, .ref t3, .ref t4, .ref t5, .ref t6])), (t1, .inl (aT 0, 12, .inl r1)), (t2, .inl (aT 0, 12, .inl r2)), (t3, .inl (aT 0, 12, .inl r3)), (t4, .inl (aT 0, 12, .inl r4)), (t5, .inl (aT 2, 12, .inr (.inl r5))), (t6, .inl (aT 2, 12, .inr (.inl r6))), (a5, .inr (8, [.ref a6, .ref a7, .ref a8, .ref a9, .int (nI nm), .int nx])), (a6, .inl (aT 0, 12, .inl fI)), (a7, .inl (aT 0, 12, .inl fN)), (a8, .inl (aT 0, 12, .inl fW)), (a9, .inl (aT 0, 12, .inl fP))] (qI D aT (fun r W1 => ∃ g3 : Nat → Int32, W1 = [(t0, .inr (11, [.ref t1, .ref t2, .ref t3, .ref t4, .ref t5, .ref t6])), (t1, .inl (aT 0, 12, .inl r1)), (t2, .inl (aT 0, 12, .inl r2)), (t3, .inl (aT 0, 12, .inl g3)), (t4, .inl (aT 0, 12, .inl r4)), (t5, .inl (aT 2, 12, .inr (.inl r5))), (t6, .inl (aT 2, 12, .inr (.inl r6))), (a5, .inr (8, [.ref a6, .ref a7, .ref a8, .ref a9, .int (nI nm), .int nx])), (a6, .inl (aT 0, 12, .inl fI)), (a7, .inl (aT 0, 12, .inl fN)), (a8, .inl (aT 0, 12, .inl fW)), (a9, .inl (aT 0, 12, .inl fP))])) (fun _ _ => False) := by
  refine CxG.of RX8 (by decide +kernel) rfl (Nat.le_of_ble_eq_true rfl) ?_
  intro p e s m below meth c A ls C hml hl hA hr hlocks hex hnm hZ hW
  have hl : lv_has ls 7 [(0, .ref t0), (1, .ref a5), (2, .int (nI tp))] := hl
  have hx := C.1
  have hb := C.2.1
  refine lv_aload_n hx hb dX8_longestByHeights_0 rfl (lv_at hl 0 rfl) ?_
  refine cx_get C hW 0 2 rfl rfl (by decide) inX8 gw_245 rfl rfl dX8_longestByHeights_1 ?_
  refine lv_iconst (v := nI 0) hx hb dX8_longestByHeights_4 (by decide) ?_
  refine cx_callv (Wr := [(t0, .inr (11, [.ref t1, .ref t2, .ref t3, .ref t4, .ref t5, .ref t6])), (t1, .inl (aT 0, 12, .inl r1)), (t2, .inl (aT 0, 12, .inl r2)), (t4, .inl (aT 0, 12, .inl r4)), (t5, .inl (aT 2, 12, .inr (.inl r5))), (t6, .inl (aT 2, 12, .inr (.inl r6))), (a5, .inr (8, [.ref a6, .ref a7, .ref a8, .ref a9, .int (nI nm), .int nx])), (a6, .inl (aT 0, 12, .inl fI)), (a7, .inl (aT 0, 12, .inl fN)), (a8, .inl (aT 0, 12, .inl fW)), (a9, .inl (aT 0, 12, .inl fP))]) (cx_runS C hml hl.1 hZ hW hA (As := [.ref t3, .int (nI 0)]) (rest := []) (k_J7_fill_53178 l hfl D aT t3 12 r3 (nI 0) (by decide)) gS_X8_J7_fill_53178_44 hS_J7_fill_53178 rfl ⟨Nat.le_of_ble_eq_true rfl, Nat.le_of_ble_eq_true rfl⟩ ⟨Nat.le_of_ble_eq_true rfl, Nat.le_of_ble_eq_true rfl⟩ [3] rfl (by decide) rfl (Nat.le_of_ble_eq_true rfl) dX8_longestByHeights_5) hW hA [3] [0, 1, 2, 4, 5, 6, 7, 8, 9, 10, 11] rfl rfl (by decide) (by decide) (fun _ _ _ _ _ _ h9 => h9.elim) (fun W_5 H locs hq hW => ?_)
  obtain ⟨gf_5, rfl⟩ := hq
  have hW : CxB D [(t0, .inr (11, [.ref t1, .ref t2, .ref t3, .ref t4, .ref t5, .ref t6])), (t1, .inl (aT 0, 12, .inl r1)), (t2, .inl (aT 0, 12, .inl r2)), (t4, .inl (aT 0, 12, .inl r4)), (t5, .inl (aT 2, 12, .inr (.inl r5))), (t6, .inl (aT 2, 12, .inr (.inl r6))), (a5, .inr (8, [.ref a6, .ref a7, .ref a8, .ref a9, .int (nI nm), .int nx])), (a6, .inl (aT 0, 12, .inl fI)), (a7, .inl (aT 0, 12, .inl fN)), (a8, .inl (aT 0, 12, .inl fW)), (a9, .inl (aT 0, 12, .inl fP)), (t3, .inl (aT 0, 12, .inl gf_5))] A s.heap H _ := hW
  refine lv_iconst (v := nI 1) hx hb dX8_longestByHeights_8 (by decide) ?_
  refine lv_istore_n (lv' := [(3, .int (nI 1)), (0, .ref t0), (1, .ref a5), (2, .int (nI tp))]) hx hb dX8_longestByHeights_9 rfl hl (by decide) rfl (fun ls hl => ?_)
  refine lv_aload_n hx hb dX8_longestByHeights_10 rfl (lv_at hl 2 rfl) ?_
  refine cx_getN C hZ hW 6 4 rfl rfl (by decide) inX5 nw_162 rfl rfl dX8_longestByHeights_11 ?_
  refine lv_iconst (v := nI 1) hx hb dX8_longestByHeights_14 (by decide) ?_
  refine r_isubN hx hb (a := nm) (b := 1) (by omega) dX8_longestByHeights_15 ?_
  refine lv_istore (lv' := [(4, .int (nI (nm - 1))), (3, .int (nI 1)), (0, .ref t0), (1, .ref a5), (2, .int (nI tp))]) hx hb dX8_longestByHeights_16 hl (by decide) rfl (fun ls hl => ?_)
  refine W_loopH (σ := Nat × Int32 × (Nat → Int32)) (fun z_ => z_.1) (fun z_ H locs g => ∃ ls, g = F0 m 18 ls [] ∧ lv_has ls 7 [(4, .int (nI z_.1)), (3, .int z_.2.1), (2, .int (nI tp)), (1, .ref a5), (0, .ref t0)] ∧ CxB D [(t0, .inr (11, [.ref t1, .ref t2, .ref t3, .ref t4, .ref t5, .ref t6])), (t1, .inl (aT 0, 12, .inl r1)), (t2, .inl (aT 0, 12, .inl r2)), (t4, .inl (aT 0, 12, .inl r4)), (t5, .inl (aT 2, 12, .inr (.inl r5))), (t6, .inl (aT 2, 12, .inr (.inl r6))), (a5, .inr (8, [.ref a6, .ref a7, .ref a8, .ref a9, .int (nI nm), .int nx])), (a6, .inl (aT 0, 12, .inl fI)), (a7, .inl (aT 0, 12, .inl fN)), (a8, .inl (aT 0, 12, .inl fW)), (a9, .inl (aT 0, 12, .inl fP)), (t3, .inl (aT 0, 12, .inl z_.2.2))] A s.heap H locs ∧ tp ≤ z_.1 ∧ z_.1 < nm) ?_ ((nm - 1), (nI 1), gf_5) _ ⟨_, rfl, lv_sub hl [0, 1, 4, 3, 2] rfl, hW, ⟨by dsimp only; omega, by dsimp only; omega⟩⟩
  clear hW hl
  rintro ⟨i, x, f⟩ H locs g ⟨ls, rfl, hl, hW, ⟨h1, hi⟩⟩ ih_18
  dsimp only at hl hW h1 hi ⊢
  refine lv_iload hx hb dX8_longestByHeights_18 (lv_at hl 0 rfl) ?_
  refine lv_iload_n hx hb dX8_longestByHeights_20 rfl (lv_at hl 2 rfl) ?_
  refine r_leN hx hb (a := i) (b := tp) (by have h1 := hO.1; omega) (by have h1 := hO.1; omega) (tgt := 96) dX8_longestByHeights_21 (by decide) (fun c_21 => ?_) (fun c_21 => ?_)
  · refine lv_iload_n hx hb dX8_longestByHeights_96 rfl (lv_at hl 1 rfl) ?_
    have hW : CxB D [(t0, .inr (11, [.ref t1, .ref t2, .ref t3, .ref t4, .ref t5, .ref t6])), (t1, .inl (aT 0, 12, .inl r1)), (t2, .inl (aT 0, 12, .inl r2)), (t3, .inl (aT 0, 12, .inl f)), (t4, .inl (aT 0, 12, .inl r4)), (t5, .inl (aT 2, 12, .inr (.inl r5))), (t6, .inl (aT 2, 12, .inr (.inl r6))), (a5, .inr (8, [.ref a6, .ref a7, .ref a8, .ref a9, .int (nI nm), .int nx])), (a6, .inl (aT 0, 12, .inl fI)), (a7, .inl (aT 0, 12, .inl fN)), (a8, .inl (aT 0, 12, .inl fW)), (a9, .inl (aT 0, 12, .inl fP))] A s.heap H _ := cx_drop hW [0, 1, 2, 11, 3, 4, 5, 6, 7, 8, 9, 10] rfl (by decide)
    exact cx_iret C hr hlocks rfl hW ⟨Nat.le_of_ble_eq_true rfl, Nat.le_of_ble_eq_true rfl⟩ (⟨_, rfl⟩) dX8_longestByHeights_97
  · refine lv_aload_n hx hb dX8_longestByHeights_24 rfl (lv_at hl 3 rfl) ?_
    refine lv_iload hx hb dX8_longestByHeights_25 (lv_at hl 0 rfl) ?_
    refine lv_iload_n hx hb dX8_longestByHeights_27 rfl (lv_at hl 2 rfl) ?_
    refine cx_calli (Wr := [(t0, .inr (11, [.ref t1, .ref t2, .ref t3, .ref t4, .ref t5, .ref t6])), (t1, .inl (aT 0, 12, .inl r1)), (t2, .inl (aT 0, 12, .inl r2)), (t4, .inl (aT 0, 12, .inl r4)), (t5, .inl (aT 2, 12, .inr (.inl r5))), (t6, .inl (aT 2, 12, .inr (.inl r6))), (t3, .inl (aT 0, 12, .inl f))]) (cx_runV C hml hl.1 hZ hW hA (As := [.int (nI i), .int (nI tp)]) (rest := []) (k_X5_isInBranch l hfl D aT a5 a6 a7 a8 a9 fI fN fW fP nm nx idn pr tn hO i (show i < nm by omega) tp htp) gV_X8_X5_isInBranch_54 hV_X5_isInBranch rfl ⟨Nat.le_of_ble_eq_true rfl, Nat.le_of_ble_eq_true rfl⟩ ⟨Nat.le_of_ble_eq_true rfl, Nat.le_of_ble_eq_true rfl⟩ [6, 7, 8, 9, 10] rfl (by decide) 6 8 rfl rfl rfl rfl (Nat.le_of_ble_eq_true rfl) dX8_longestByHeights_28) hW hA [6, 7, 8, 9, 10] [0, 1, 2, 3, 4, 5, 11] rfl rfl (by decide) (by decide) (fun _ _ _ _ _ _ h9 => h9.elim) (fun r_28 W_28 H locs hq hW => ?_)
    obtain ⟨rfl, rfl⟩ := hq
    have hW : CxB D [(t0, .inr (11, [.ref t1, .ref t2, .ref t3, .ref t4, .ref t5, .ref t6])), (t1, .inl (aT 0, 12, .inl r1)), (t2, .inl (aT 0, 12, .inl r2)), (t4, .inl (aT 0, 12, .inl r4)), (t5, .inl (aT 2, 12, .inr (.inl r5))), (t6, .inl (aT 2, 12, .inr (.inl r6))), (t3, .inl (aT 0, 12, .inl f)), (a5, .inr (8, [.ref a6, .ref a7, .ref a8, .ref a9, .int (nI nm), .int nx])), (a6, .inl (aT 0, 12, .inl fI)), (a7, .inl (aT 0, 12, .inl fN)), (a8, .inl (aT 0, 12, .inl fW)), (a9, .inl (aT 0, 12, .inl fP))] A s.heap H _ := hW
    refine r_bI_eq hx hb (b := (anc pr tp i)) (tgt := 90) dX8_longestByHeights_31 (by decide) (fun c_31 => ?_) (fun c_31 => ?_)
    · refine lv_iinc (v := (nI (i - 1))) (lv' := [(4, .int (nI (i - 1))), (3, .int x), (2, .int (nI tp)), (1, .ref a5), (0, .ref t0)]) hx hb dX8_longestByHeights_90 hl (k := 0) rfl (pd_eq (by omega)) (by decide) rfl (fun ls hl => ?_)
      refine lv_goto (tgt := 18) hx hb dX8_longestByHeights_93 (by decide) ?_
      have hW : CxB D [(t0, .inr (11, [.ref t1, .ref t2, .ref t3, .ref t4, .ref t5, .ref t6])), (t1, .inl (aT 0, 12, .inl r1)), (t2, .inl (aT 0, 12, .inl r2)), (t4, .inl (aT 0, 12, .inl r4)), (t5, .inl (aT 2, 12, .inr (.inl r5))), (t6, .inl (aT 2, 12, .inr (.inl r6))), (a5, .inr (8, [.ref a6, .ref a7, .ref a8, .ref a9, .int (nI nm), .int nx])), (a6, .inl (aT 0, 12, .inl fI)), (a7, .inl (aT 0, 12, .inl fN)), (a8, .inl (aT 0, 12, .inl fW)), (a9, .inl (aT 0, 12, .inl fP)), (t3, .inl (aT 0, 12, .inl f))] A s.heap H _ := cx_drop hW [0, 1, 2, 3, 4, 5, 7, 8, 9, 10, 11, 6] rfl (by decide)
      exact ih_18 ((i - 1), x, f) _ _ _ (by first | omega | (dsimp only; omega)) ⟨_, rfl, lv_sub hl [0, 1, 2, 3, 4] rfl, hW, ⟨by dsimp only; omega, by dsimp only; omega⟩⟩
    · obtain ⟨j_, hj1, hj2⟩ := anc_par hO.2.2.2.1 (show i < nm by omega) (show tp < i by omega) c_31
      refine lv_aload_n hx hb dX8_longestByHeights_34 rfl (lv_at hl 3 rfl) ?_
      refine cx_getN C hZ hW 7 3 rfl rfl (by decide) inX5 nw_158 rfl rfl dX8_longestByHeights_35 ?_
      refine lv_iload hx hb dX8_longestByHeights_38 (lv_at hl 0 rfl) ?_
      refine cx_ald C hW 11 0 (j := i) rfl rfl rfl (by have h1 := hO.1; omega) (by decide) dX8_longestByHeights_40 ?_
      refine r_eq (y := (nI j_)) (by rw [hO.2.2.1 i (by omega), hj1]; rfl) ?_
      refine lv_istore (lv' := [(5, .int (nI j_)), (4, .int (nI i)), (3, .int x), (2, .int (nI tp)), (1, .ref a5), (0, .ref t0)]) hx hb dX8_longestByHeights_41 hl (by decide) rfl (fun ls hl => ?_)
      refine lv_aload_n hx hb dX8_longestByHeights_43 rfl (lv_at hl 5 rfl) ?_
      refine cx_get C hW 0 2 rfl rfl (by decide) inX8 gw_245 rfl rfl dX8_longestByHeights_44 ?_
      refine lv_iload hx hb dX8_longestByHeights_47 (lv_at hl 1 rfl) ?_
      refine cx_ald C hW 6 0 (j := i) rfl rfl rfl (by have h1 := hO.1; omega) (by decide) dX8_longestByHeights_49 ?_
      refine lv_iconst (v := nI 1) hx hb dX8_longestByHeights_50 (by decide) ?_
      refine lv_iadd hx hb dX8_longestByHeights_51 ?_
      refine lv_istore (lv' := [(6, .int ((f i) + (nI 1))), (5, .int (nI j_)), (4, .int (nI i)), (3, .int x), (2, .int (nI tp)), (1, .ref a5), (0, .ref t0)]) hx hb dX8_longestByHeights_52 hl (by decide) rfl (fun ls hl => ?_)
      refine lv_iload_n hx hb dX8_longestByHeights_54 rfl (lv_at hl 3 rfl) ?_
      refine lv_aload_n hx hb dX8_longestByHeights_55 rfl (lv_at hl 6 rfl) ?_
      refine cx_get C hW 0 2 rfl rfl (by decide) inX8 gw_245 rfl rfl dX8_longestByHeights_56 ?_
      refine lv_iload hx hb dX8_longestByHeights_59 (lv_at hl 1 rfl) ?_
      refine cx_ald C hW 6 0 (j := j_) rfl rfl rfl (by have h1 := hO.1; omega) (by decide) dX8_longestByHeights_61 ?_
      refine lv_iconst (v := nI 1) hx hb dX8_longestByHeights_62 (by decide) ?_
      refine lv_iadd hx hb dX8_longestByHeights_63 ?_
      refine lv_iload hx hb dX8_longestByHeights_64 (lv_at hl 0 rfl) ?_
      refine lv_iadd hx hb dX8_longestByHeights_66 ?_
      refine cx_max C hml hl.1 gw_510 ⟨Nat.le_of_ble_eq_true rfl, Nat.le_of_ble_eq_true rfl, Nat.le_of_ble_eq_true rfl⟩ ⟨Nat.le_of_ble_eq_true rfl, Nat.le_of_ble_eq_true rfl⟩ dX8_longestByHeights_67 ?_
      refine lv_istore_n (lv' := [(3, .int (if x < (((f j_) + (nI 1)) + ((f i) + (nI 1))) then (((f j_) + (nI 1)) + ((f i) + (nI 1))) else x)), (6, .int ((f i) + (nI 1))), (5, .int (nI j_)), (4, .int (nI i)), (2, .int (nI tp)), (1, .ref a5), (0, .ref t0)]) hx hb dX8_longestByHeights_70 rfl hl (by decide) rfl (fun ls hl => ?_)
      refine lv_aload_n hx hb dX8_longestByHeights_71 rfl (lv_at hl 6 rfl) ?_
      refine cx_get C hW 0 2 rfl rfl (by decide) inX8 gw_245 rfl rfl dX8_longestByHeights_72 ?_
      refine lv_iload hx hb dX8_longestByHeights_75 (lv_at hl 2 rfl) ?_
      refine lv_aload_n hx hb dX8_longestByHeights_77 rfl (lv_at hl 6 rfl) ?_
      refine cx_get C hW 0 2 rfl rfl (by decide) inX8 gw_245 rfl rfl dX8_longestByHeights_78 ?_
      refine lv_iload hx hb dX8_longestByHeights_81 (lv_at hl 2 rfl) ?_
      refine cx_ald C hW 6 0 (j := j_) rfl rfl rfl (by have h1 := hO.1; omega) (by decide) dX8_longestByHeights_83 ?_
      refine lv_iload hx hb dX8_longestByHeights_84 (lv_at hl 1 rfl) ?_
      refine cx_max C hml hl.1 gw_510 ⟨Nat.le_of_ble_eq_true rfl, Nat.le_of_ble_eq_true rfl, Nat.le_of_ble_eq_true rfl⟩ ⟨Nat.le_of_ble_eq_true rfl, Nat.le_of_ble_eq_true rfl⟩ dX8_longestByHeights_86 ?_
      refine cx_ast C hW 6 0 (j := j_) (W1 := [(t0, .inr (11, [.ref t1, .ref t2, .ref t3, .ref t4, .ref t5, .ref t6])), (t1, .inl (aT 0, 12, .inl r1)), (t2, .inl (aT 0, 12, .inl r2)), (t4, .inl (aT 0, 12, .inl r4)), (t5, .inl (aT 2, 12, .inr (.inl r5))), (t6, .inl (aT 2, 12, .inr (.inl r6))), (t3, .inl (aT 0, 12, .inl (upd f j_ ((if (f j_) < ((f i) + (nI 1)) then ((f i) + (nI 1)) else (f j_)))))), (a5, .inr (8, [.ref a6, .ref a7, .ref a8, .ref a9, .int (nI nm), .int nx])), (a6, .inl (aT 0, 12, .inl fI)), (a7, .inl (aT 0, 12, .inl fN)), (a8, .inl (aT 0, 12, .inl fW)), (a9, .inl (aT 0, 12, .inl fP))]) rfl rfl rfl (by have h1 := hO.1; omega) (by decide) rfl dX8_longestByHeights_89 (fun H locs hW => ?_)
      refine lv_iinc (v := (nI (i - 1))) (lv' := [(4, .int (nI (i - 1))), (3, .int (if x < (((f j_) + (nI 1)) + ((f i) + (nI 1))) then (((f j_) + (nI 1)) + ((f i) + (nI 1))) else x)), (6, .int ((f i) + (nI 1))), (5, .int (nI j_)), (2, .int (nI tp)), (1, .ref a5), (0, .ref t0)]) hx hb dX8_longestByHeights_90 hl (k := 3) rfl (pd_eq (by omega)) (by decide) rfl (fun ls hl => ?_)
      refine lv_goto (tgt := 18) hx hb dX8_longestByHeights_93 (by decide) ?_
      have hW : CxB D [(t0, .inr (11, [.ref t1, .ref t2, .ref t3, .ref t4, .ref t5, .ref t6])), (t1, .inl (aT 0, 12, .inl r1)), (t2, .inl (aT 0, 12, .inl r2)), (t4, .inl (aT 0, 12, .inl r4)), (t5, .inl (aT 2, 12, .inr (.inl r5))), (t6, .inl (aT 2, 12, .inr (.inl r6))), (a5, .inr (8, [.ref a6, .ref a7, .ref a8, .ref a9, .int (nI nm), .int nx])), (a6, .inl (aT 0, 12, .inl fI)), (a7, .inl (aT 0, 12, .inl fN)), (a8, .inl (aT 0, 12, .inl fW)), (a9, .inl (aT 0, 12, .inl fP)), (t3, .inl (aT 0, 12, .inl (upd f j_ ((if (f j_) < ((f i) + (nI 1)) then ((f i) + (nI 1)) else (f j_))))))] A s.heap H _ := cx_drop hW [0, 1, 2, 3, 4, 5, 7, 8, 9, 10, 11, 6] rfl (by decide)
      exact ih_18 ((i - 1), (if x < (((f j_) + (nI 1)) + ((f i) + (nI 1))) then (((f j_) + (nI 1)) + ((f i) + (nI 1))) else x), (upd f j_ ((if (f j_) < ((f i) + (nI 1)) then ((f i) + (nI 1)) else (f j_))))) _ _ _ (by first | omega | (dsimp only; omega)) ⟨_, rfl, lv_sub hl [0, 1, 4, 5, 6] rfl, hW, ⟨by dsimp only; omega, by dsimp only; omega⟩⟩
theorem dX8_bestByBranches_0 : decode cX8_bestByBranches 0 = .ok (.aload_n 0, 1) := by decide +kernel
theorem dX8_bestByBranches_1 : decode cX8_bestByBranches 1 = .ok (.getfield 24, 3) := by decide +kernel
theorem dX8_bestByBranches_4 : decode cX8_bestByBranches 4 = .ok (.lconst 0, 1) := by decide +kernel
theorem dX8_bestByBranches_5 : decode cX8_bestByBranches 5 = .ok (.invokestatic 68, 3) := by decide +kernel
theorem dX8_bestByBranches_8 : decode cX8_bestByBranches 8 = .ok (.aload_n 0, 1) := by decide +kernel
theorem dX8_bestByBranches_9 : decode cX8_bestByBranches 9 = .ok (.getfield 28, 3) := by decide +kernel
theorem dX8_bestByBranches_12 : decode cX8_bestByBranches 12 = .ok (.lconst 0, 1) := by decide +kernel
theorem dX8_bestByBranches_13 : decode cX8_bestByBranches 13 = .ok (.invokestatic 68, 3) := by decide +kernel
theorem dX8_bestByBranches_16 : decode cX8_bestByBranches 16 = .ok (.lconst 0, 1) := by decide +kernel
theorem dX8_bestByBranches_17 : decode cX8_bestByBranches 17 = .ok (.lstore_n 2, 1) := by decide +kernel
theorem dX8_bestByBranches_18 : decode cX8_bestByBranches 18 = .ok (.aload_n 1, 1) := by decide +kernel
theorem dX8_bestByBranches_19 : decode cX8_bestByBranches 19 = .ok (.getfield 50, 3) := by decide +kernel
theorem dX8_bestByBranches_22 : decode cX8_bestByBranches 22 = .ok (.iconst 1, 1) := by decide +kernel
theorem dX8_bestByBranches_23 : decode cX8_bestByBranches 23 = .ok (.isub, 1) := by decide +kernel
theorem dX8_bestByBranches_24 : decode cX8_bestByBranches 24 = .ok (.istore 4, 2) := by decide +kernel
theorem dX8_bestByBranches_26 : decode cX8_bestByBranches 26 = .ok (.iload 4, 2) := by decide +kernel
theorem dX8_bestByBranches_28 : decode cX8_bestByBranches 28 = .ok (.ifCond .lt 97, 3) := by decide +kernel
theorem dX8_bestByBranches_31 : decode cX8_bestByBranches 31 = .ok (.aload_n 1, 1) := by decide +kernel
theorem dX8_bestByBranches_32 : decode cX8_bestByBranches 32 = .ok (.getfield 37, 3) := by decide +kernel
theorem dX8_bestByBranches_35 : decode cX8_bestByBranches 35 = .ok (.iload 4, 2) := by decide +kernel
theorem dX8_bestByBranches_37 : decode cX8_bestByBranches 37 = .ok (.iaload, 1) := by decide +kernel
theorem dX8_bestByBranches_38 : decode cX8_bestByBranches 38 = .ok (.istore 5, 2) := by decide +kernel
theorem dX8_bestByBranches_40 : decode cX8_bestByBranches 40 = .ok (.aload_n 0, 1) := by decide +kernel
theorem dX8_bestByBranches_41 : decode cX8_bestByBranches 41 = .ok (.getfield 24, 3) := by decide +kernel
theorem dX8_bestByBranches_44 : decode cX8_bestByBranches 44 = .ok (.iload 4, 2) := by decide +kernel
theorem dX8_bestByBranches_46 : decode cX8_bestByBranches 46 = .ok (.dup2, 1) := by decide +kernel
theorem dX8_bestByBranches_47 : decode cX8_bestByBranches 47 = .ok (.laload, 1) := by decide +kernel
theorem dX8_bestByBranches_48 : decode cX8_bestByBranches 48 = .ok (.aload_n 1, 1) := by decide +kernel
theorem dX8_bestByBranches_49 : decode cX8_bestByBranches 49 = .ok (.getfield 71, 3) := by decide +kernel
theorem dX8_bestByBranches_52 : decode cX8_bestByBranches 52 = .ok (.iload 4, 2) := by decide +kernel
theorem dX8_bestByBranches_54 : decode cX8_bestByBranches 54 = .ok (.iaload, 1) := by decide +kernel
theorem dX8_bestByBranches_55 : decode cX8_bestByBranches 55 = .ok (.i2l, 1) := by decide +kernel
theorem dX8_bestByBranches_56 : decode cX8_bestByBranches 56 = .ok (.ladd, 1) := by decide +kernel
theorem dX8_bestByBranches_57 : decode cX8_bestByBranches 57 = .ok (.lastore, 1) := by decide +kernel
theorem dX8_bestByBranches_58 : decode cX8_bestByBranches 58 = .ok (.aload_n 0, 1) := by decide +kernel
theorem dX8_bestByBranches_59 : decode cX8_bestByBranches 59 = .ok (.getfield 24, 3) := by decide +kernel
theorem dX8_bestByBranches_62 : decode cX8_bestByBranches 62 = .ok (.iload 4, 2) := by decide +kernel
theorem dX8_bestByBranches_64 : decode cX8_bestByBranches 64 = .ok (.laload, 1) := by decide +kernel
theorem dX8_bestByBranches_65 : decode cX8_bestByBranches 65 = .ok (.aload_n 0, 1) := by decide +kernel
theorem dX8_bestByBranches_66 : decode cX8_bestByBranches 66 = .ok (.getfield 28, 3) := by decide +kernel
theorem dX8_bestByBranches_69 : decode cX8_bestByBranches 69 = .ok (.iload 4, 2) := by decide +kernel
theorem dX8_bestByBranches_71 : decode cX8_bestByBranches 71 = .ok (.laload, 1) := by decide +kernel
theorem dX8_bestByBranches_72 : decode cX8_bestByBranches 72 = .ok (.invokestatic 74, 3) := by decide +kernel
theorem dX8_bestByBranches_75 : decode cX8_bestByBranches 75 = .ok (.lstore 6, 2) := by decide +kernel
theorem dX8_bestByBranches_77 : decode cX8_bestByBranches 77 = .ok (.iload 5, 2) := by decide +kernel
theorem dX8_bestByBranches_79 : decode cX8_bestByBranches 79 = .ok (.ifCond .lt 35, 3) := by decide +kernel
theorem dX8_bestByBranches_82 : decode cX8_bestByBranches 82 = .ok (.aload_n 0, 1) := by decide +kernel
theorem dX8_bestByBranches_83 : decode cX8_bestByBranches 83 = .ok (.getfield 24, 3) := by decide +kernel
theorem dX8_bestByBranches_86 : decode cX8_bestByBranches 86 = .ok (.iload 5, 2) := by decide +kernel
theorem dX8_bestByBranches_88 : decode cX8_bestByBranches 88 = .ok (.dup2, 1) := by decide +kernel
theorem dX8_bestByBranches_89 : decode cX8_bestByBranches 89 = .ok (.laload, 1) := by decide +kernel
theorem dX8_bestByBranches_90 : decode cX8_bestByBranches 90 = .ok (.aload_n 0, 1) := by decide +kernel
theorem dX8_bestByBranches_91 : decode cX8_bestByBranches 91 = .ok (.getfield 28, 3) := by decide +kernel
theorem dX8_bestByBranches_94 : decode cX8_bestByBranches 94 = .ok (.iload 4, 2) := by decide +kernel
theorem dX8_bestByBranches_96 : decode cX8_bestByBranches 96 = .ok (.laload, 1) := by decide +kernel
theorem dX8_bestByBranches_97 : decode cX8_bestByBranches 97 = .ok (.ladd, 1) := by decide +kernel
theorem dX8_bestByBranches_98 : decode cX8_bestByBranches 98 = .ok (.lastore, 1) := by decide +kernel
theorem dX8_bestByBranches_99 : decode cX8_bestByBranches 99 = .ok (.aload_n 0, 1) := by decide +kernel
theorem dX8_bestByBranches_100 : decode cX8_bestByBranches 100 = .ok (.getfield 28, 3) := by decide +kernel
theorem dX8_bestByBranches_103 : decode cX8_bestByBranches 103 = .ok (.iload 5, 2) := by decide +kernel
theorem dX8_bestByBranches_105 : decode cX8_bestByBranches 105 = .ok (.dup2, 1) := by decide +kernel
theorem dX8_bestByBranches_106 : decode cX8_bestByBranches 106 = .ok (.laload, 1) := by decide +kernel
theorem dX8_bestByBranches_107 : decode cX8_bestByBranches 107 = .ok (.lload 6, 2) := by decide +kernel
theorem dX8_bestByBranches_109 : decode cX8_bestByBranches 109 = .ok (.ladd, 1) := by decide +kernel
theorem dX8_bestByBranches_110 : decode cX8_bestByBranches 110 = .ok (.lastore, 1) := by decide +kernel
theorem dX8_bestByBranches_111 : decode cX8_bestByBranches 111 = .ok (.goto 8, 3) := by decide +kernel
theorem dX8_bestByBranches_114 : decode cX8_bestByBranches 114 = .ok (.lload_n 2, 1) := by decide +kernel
theorem dX8_bestByBranches_115 : decode cX8_bestByBranches 115 = .ok (.lload 6, 2) := by decide +kernel
theorem dX8_bestByBranches_117 : decode cX8_bestByBranches 117 = .ok (.ladd, 1) := by decide +kernel
theorem dX8_bestByBranches_118 : decode cX8_bestByBranches 118 = .ok (.lstore_n 2, 1) := by decide +kernel
theorem dX8_bestByBranches_119 : decode cX8_bestByBranches 119 = .ok (.iinc 4 (-1), 3) := by decide +kernel
theorem dX8_bestByBranches_122 : decode cX8_bestByBranches 122 = .ok (.goto (-96), 3) := by decide +kernel
theorem dX8_bestByBranches_125 : decode cX8_bestByBranches 125 = .ok (.lload_n 2, 1) := by decide +kernel
theorem dX8_bestByBranches_126 : decode cX8_bestByBranches 126 = .ok (.lreturn, 1) := by decide +kernel
theorem gS_X8_J7_fill_d0a16_68 : GoodIn gw (va_wsS RX8 68 yJ7_fill_d0a16 (Cond.code yJ7_fill_d0a16 cJ7_fill_d0a16 5 (none) :: gw)) := gdS2 gw_439 gw_440 gw_93 gw_441
theorem hS_J7_fill_d0a16 : yJ7_fill_d0a16.cls ≠ "java/lang/invoke/MethodHandle" ∧ yJ7_fill_d0a16.cls ≠ "java/lang/invoke/VarHandle" ∧ (parseMethodDescriptor yJ7_fill_d0a16.desc).map (fun d => d.parameters.length) = some 2 := ⟨by decide +kernel, by decide +kernel, by decide +kernel⟩
set_option maxHeartbeats 2000000 in
set_option maxRecDepth 20000 in
theorem k_X8_bestByBranches (l : Launch) (hfl : l.stackTraces = false) (D : va_G) (aT : Nat → ClassId) (t0 : Nat) (t1 : Nat) (t2 : Nat) (t3 : Nat) (t4 : Nat) (t5 : Nat) (t6 : Nat) (r1 : Nat → Int32) (r2 : Nat → Int32) (r3 : Nat → Int32) (r4 : Nat → Int32) (r5 : Nat → Int64) (r6 : Nat → Int64) (a5 : Nat) (a6 : Nat) (a7 : Nat) (a8 : Nat) (a9 : Nat) (fI : Nat → Int32) (fN : Nat → Int32) (fW : Nat → Int32) (fP : Nat → Int32) (nm : Nat) (nx : Int32) (idn : Nat → Nat) (pr : Nat → Option Nat) (tn : Nat → Nat) (hO : MoC fI fN fP nm idn pr tn) : CxG l yX8_bestByBranches cX8_bestByBranches 8 (some (.long)) 1 0 0 40 D aT [.ref t0, .ref a5] [(t0, .inr (11, [.ref t1, .ref t2, .ref t3, .ref t4, .ref t5, .ref t6])), (t1, .inl (aT 0, 12, .inl r1)), (t2, .inl (aT 0, 12, .inl r2)), (t3, .inl (aT 0, 12, .inl r3)), (t4, .inl (aT 0, 12, .inl r4)), (t5, .inl (aT 2, 12, .inr (.inl r5))), (t6, .inl (aT 2, 12, .inr (.inl r6))), (a5, .inr (8, [.ref a6, .ref a7, .ref a8, .ref a9, .int (nI nm), .int nx])), (a6, .inl (aT 0, 12, .inl fI)), (a7, .inl (aT 0, 12, .inl fN)), (a8, .inl (aT 0, 12, .inl fW)), (a9, .inl (aT 0, 12, .inl fP))] (qL D aT (fun r W1 => ∃ g5 g6 : Nat → Int64, W1 = [(t0, .inr (11, [.ref t1, .ref t2, .ref t3, .ref t4, .ref t5, .ref t6])), (t1, .inl (aT 0, 12, .inl r1)), (t2, .inl (aT 0, 12, .inl r2)), (t3, .inl (aT 0, 12, .inl r3)), (t4, .inl (aT 0, 12, .inl r4)), (t5, .inl (aT 2, 12, .inr (.inl g5))), (t6, .inl (aT 2, 12, .inr (.inl g6))), (a5, .inr (8, [.ref a6, .ref a7, .ref a8, .ref a9, .int (nI nm), .int nx])), (a6, .inl (aT 0, 12, .inl fI)), (a7, .inl (aT 0, 12, .inl fN)), (a8, .inl (aT 0, 12, .inl fW)), (a9, .inl (aT 0, 12, .inl fP))])) (fun _ _ => False) := by
  refine CxG.of RX8 (by decide +kernel) rfl (Nat.le_of_ble_eq_true rfl) ?_
  intro p e s m below meth c A ls C hml hl hA hr hlocks hex hnm hZ hW
  have hl : lv_has ls 8 [(0, .ref t0), (1, .ref a5)] := hl
  have hx := C.1
  have hb := C.2.1
  refine lv_aload_n hx hb dX8_bestByBranches_0 rfl (lv_at hl 0 rfl) ?_
  refine cx_get C hW 0 4 rfl rfl (by decide) inX8 gw_247 rfl rfl dX8_bestByBranches_1 ?_
  refine lv_lconst (v := 0) hx hb dX8_bestByBranches_4 (by decide) ?_
  refine cx_callv (Wr := [(t0, .inr (11, [.ref t1, .ref t2, .ref t3, .ref t4, .ref t5, .ref t6])), (t1, .inl (aT 0, 12, .inl r1)), (t2, .inl (aT 0, 12, .inl r2)), (t3, .inl (aT 0, 12, .inl r3)), (t4, .inl (aT 0, 12, .inl r4)), (t6, .inl (aT 2, 12, .inr (.inl r6))), (a5, .inr (8, [.ref a6, .ref a7, .ref a8, .ref a9, .int (nI nm), .int nx])), (a6, .inl (aT 0, 12, .inl fI)), (a7, .inl (aT 0, 12, .inl fN)), (a8, .inl (aT 0, 12, .inl fW)), (a9, .inl (aT 0, 12, .inl fP))]) (cx_runS C hml hl.1 hZ hW hA (As := [.ref t5, .long 0]) (rest := []) (k_J7_fill_d0a16 l hfl D aT t5 12 r5 0 (by decide)) gS_X8_J7_fill_d0a16_68 hS_J7_fill_d0a16 rfl ⟨Nat.le_of_ble_eq_true rfl, Nat.le_of_ble_eq_true rfl⟩ ⟨Nat.le_of_ble_eq_true rfl, Nat.le_of_ble_eq_true rfl⟩ [5] rfl (by decide) rfl (Nat.le_of_ble_eq_true rfl) dX8_bestByBranches_5) hW hA [5] [0, 1, 2, 3, 4, 6, 7, 8, 9, 10, 11] rfl rfl (by decide) (by decide) (fun _ _ _ _ _ _ h9 => h9.elim) (fun W_5 H locs hq hW => ?_)
  obtain ⟨gf_5, rfl⟩ := hq
  have hW : CxB D [(t0, .inr (11, [.ref t1, .ref t2, .ref t3, .ref t4, .ref t5, .ref t6])), (t1, .inl (aT 0, 12, .inl r1)), (t2, .inl (aT 0, 12, .inl r2)), (t3, .inl (aT 0, 12, .inl r3)), (t4, .inl (aT 0, 12, .inl r4)), (t6, .inl (aT 2, 12, .inr (.inl r6))), (a5, .inr (8, [.ref a6, .ref a7, .ref a8, .ref a9, .int (nI nm), .int nx])), (a6, .inl (aT 0, 12, .inl fI)), (a7, .inl (aT 0, 12, .inl fN)), (a8, .inl (aT 0, 12, .inl fW)), (a9, .inl (aT 0, 12, .inl fP)), (t5, .inl (aT 2, 12, .inr (.inl gf_5)))] A s.heap H _ := hW
  refine lv_aload_n hx hb dX8_bestByBranches_8 rfl (lv_at hl 0 rfl) ?_
  refine cx_get C hW 0 5 rfl rfl (by decide) inX8 gw_248 rfl rfl dX8_bestByBranches_9 ?_
  refine lv_lconst (v := 0) hx hb dX8_bestByBranches_12 (by decide) ?_
  refine cx_callv (Wr := [(t0, .inr (11, [.ref t1, .ref t2, .ref t3, .ref t4, .ref t5, .ref t6])), (t1, .inl (aT 0, 12, .inl r1)), (t2, .inl (aT 0, 12, .inl r2)), (t3, .inl (aT 0, 12, .inl r3)), (t4, .inl (aT 0, 12, .inl r4)), (a5, .inr (8, [.ref a6, .ref a7, .ref a8, .ref a9, .int (nI nm), .int nx])), (a6, .inl (aT 0, 12, .inl fI)), (a7, .inl (aT 0, 12, .inl fN)), (a8, .inl (aT 0, 12, .inl fW)), (a9, .inl (aT 0, 12, .inl fP)), (t5, .inl (aT 2, 12, .inr (.inl gf_5)))]) (cx_runS C hml hl.1 hZ hW hA (As := [.ref t6, .long 0]) (rest := []) (k_J7_fill_d0a16 l hfl D aT t6 12 r6 0 (by decide)) gS_X8_J7_fill_d0a16_68 hS_J7_fill_d0a16 rfl ⟨Nat.le_of_ble_eq_true rfl, Nat.le_of_ble_eq_true rfl⟩ ⟨Nat.le_of_ble_eq_true rfl, Nat.le_of_ble_eq_true rfl⟩ [5] rfl (by decide) rfl (Nat.le_of_ble_eq_true rfl) dX8_bestByBranches_13) hW hA [5] [0, 1, 2, 3, 4, 6, 7, 8, 9, 10, 11] rfl rfl (by decide) (by decide) (fun _ _ _ _ _ _ h9 => h9.elim) (fun W_13 H locs hq hW => ?_)
  obtain ⟨gf_13, rfl⟩ := hq
  have hW : CxB D [(t0, .inr (11, [.ref t1, .ref t2, .ref t3, .ref t4, .ref t5, .ref t6])), (t1, .inl (aT 0, 12, .inl r1)), (t2, .inl (aT 0, 12, .inl r2)), (t3, .inl (aT 0, 12, .inl r3)), (t4, .inl (aT 0, 12, .inl r4)), (a5, .inr (8, [.ref a6, .ref a7, .ref a8, .ref a9, .int (nI nm), .int nx])), (a6, .inl (aT 0, 12, .inl fI)), (a7, .inl (aT 0, 12, .inl fN)), (a8, .inl (aT 0, 12, .inl fW)), (a9, .inl (aT 0, 12, .inl fP)), (t5, .inl (aT 2, 12, .inr (.inl gf_5))), (t6, .inl (aT 2, 12, .inr (.inl gf_13)))] A s.heap H _ := hW
  refine lv_lconst (v := 0) hx hb dX8_bestByBranches_16 (by decide) ?_
  refine lv_lstore_n (lv' := [(2, .long 0), (0, .ref t0), (1, .ref a5)]) hx hb dX8_bestByBranches_17 rfl hl (by decide) rfl (fun ls hl => ?_)
  refine lv_aload_n hx hb dX8_bestByBranches_18 rfl (lv_at hl 2 rfl) ?_
  refine cx_getN C hZ hW 5 4 rfl rfl (by decide) inX5 nw_162 rfl rfl dX8_bestByBranches_19 ?_
  refine lv_iconst (v := nI 1) hx hb dX8_bestByBranches_22 (by decide) ?_
  refine lv_isub hx hb dX8_bestByBranches_23 ?_
  refine r_eq (y := (nI nm + -1)) (by rw [Int32.sub_eq_add_neg]; rfl) ?_
  refine lv_istore (lv' := [(4, .int (nI nm + -1)), (2, .long 0), (0, .ref t0), (1, .ref a5)]) hx hb dX8_bestByBranches_24 hl (by decide) rfl (fun ls hl => ?_)
  refine W_loopH (σ := Nat × Int64 × (Nat → Int64) × (Nat → Int64)) (fun z_ => z_.1) (fun z_ H locs g => ∃ ls, g = F0 m 26 ls [] ∧ lv_has ls 8 [(4, .int (nI z_.1 + -1)), (2, .long z_.2.1), (1, .ref a5), (0, .ref t0)] ∧ CxB D [(t0, .inr (11, [.ref t1, .ref t2, .ref t3, .ref t4, .ref t5, .ref t6])), (t1, .inl (aT 0, 12, .inl r1)), (t2, .inl (aT 0, 12, .inl r2)), (t3, .inl (aT 0, 12, .inl r3)), (t4, .inl (aT 0, 12, .inl r4)), (a5, .inr (8, [.ref a6, .ref a7, .ref a8, .ref a9, .int (nI nm), .int nx])), (a6, .inl (aT 0, 12, .inl fI)), (a7, .inl (aT 0, 12, .inl fN)), (a8, .inl (aT 0, 12, .inl fW)), (a9, .inl (aT 0, 12, .inl fP)), (t5, .inl (aT 2, 12, .inr (.inl z_.2.2.1))), (t6, .inl (aT 2, 12, .inr (.inl z_.2.2.2)))] A s.heap H locs ∧ z_.1 ≤ nm) ?_ (nm, 0, gf_5, gf_13) _ ⟨_, rfl, lv_sub hl [0, 1, 3, 2] rfl, hW, Nat.le_refl _⟩
  clear hW hl
  rintro ⟨x, z, f, h_⟩ H locs g ⟨ls, rfl, hl, hW, hx9⟩ ih_26
  dsimp only at hl hW hx9 ⊢
  cases x with
  | zero =>
    have hl : lv_has ls 8 [(4, .int (nI 0 + -1)), (2, .long z), (1, .ref a5), (0, .ref t0)] := hl
    refine lv_iload hx hb dX8_bestByBranches_26 (lv_at hl 0 rfl) ?_
    refine lv_if_lt hx hb (x := (nI 0 + -1)) (tgt := 125) dX8_bestByBranches_28 (by decide) (fun c_28 => ?_) (fun c_28 => ?_)
    · refine lv_lload_n hx hb dX8_bestByBranches_125 rfl (lv_at hl 1 rfl) ?_
      have hW : CxB D [(t0, .inr (11, [.ref t1, .ref t2, .ref t3, .ref t4, .ref t5, .ref t6])), (t1, .inl (aT 0, 12, .inl r1)), (t2, .inl (aT 0, 12, .inl r2)), (t3, .inl (aT 0, 12, .inl r3)), (t4, .inl (aT 0, 12, .inl r4)), (t5, .inl (aT 2, 12, .inr (.inl f))), (t6, .inl (aT 2, 12, .inr (.inl h_))), (a5, .inr (8, [.ref a6, .ref a7, .ref a8, .ref a9, .int (nI nm), .int nx])), (a6, .inl (aT 0, 12, .inl fI)), (a7, .inl (aT 0, 12, .inl fN)), (a8, .inl (aT 0, 12, .inl fW)), (a9, .inl (aT 0, 12, .inl fP))] A s.heap H _ := cx_drop hW [0, 1, 2, 3, 4, 10, 11, 5, 6, 7, 8, 9] rfl (by decide)
      exact cx_lret C hr hlocks hW ⟨Nat.le_of_ble_eq_true rfl, Nat.le_of_ble_eq_true rfl⟩ (⟨_, _, rfl⟩) dX8_bestByBranches_126
    · exact absurd (by decide) c_28
  | succ x =>
    have hl : lv_has ls 8 [(4, .int (nI x)), (2, .long z), (1, .ref a5), (0, .ref t0)] := by
      rw [show nI x = nI (x + 1) + -1 from (pd_1 _).symm]
      exact hl
    refine lv_iload hx hb dX8_bestByBranches_26 (lv_at hl 0 rfl) ?_
    refine lv_if_lt hx hb (x := (nI x)) (tgt := 125) dX8_bestByBranches_28 (by decide) (fun c_28 => ?_) (fun c_28 => ?_)
    · exact absurd c_28 (nI_pos (by have h1 := hO.1; omega))
    · refine lv_aload_n hx hb dX8_bestByBranches_31 rfl (lv_at hl 2 rfl) ?_
      refine cx_getN C hZ hW 5 3 rfl rfl (by decide) inX5 nw_158 rfl rfl dX8_bestByBranches_32 ?_
      refine lv_iload hx hb dX8_bestByBranches_35 (lv_at hl 0 rfl) ?_
      refine cx_ald C hW 9 0 (j := x) rfl rfl rfl (by have h1 := hO.1; omega) (by decide) dX8_bestByBranches_37 ?_
      refine r_eq (y := (oi (pr x))) (hO.2.2.1 x (by omega)) ?_
      refine lv_istore (lv' := [(5, .int (oi (pr x))), (4, .int (nI x)), (2, .long z), (1, .ref a5), (0, .ref t0)]) hx hb dX8_bestByBranches_38 hl (by decide) rfl (fun ls hl => ?_)
      refine lv_aload_n hx hb dX8_bestByBranches_40 rfl (lv_at hl 4 rfl) ?_
      refine cx_get C hW 0 4 rfl rfl (by decide) inX8 gw_247 rfl rfl dX8_bestByBranches_41 ?_
      refine lv_iload hx hb dX8_bestByBranches_44 (lv_at hl 1 rfl) ?_
      refine lv_dup2_11 hx hb dX8_bestByBranches_46 rfl rfl ?_
      refine cx_lald C hW 10 2 (j := x) rfl rfl rfl (by have h1 := hO.1; omega) (by decide) rfl dX8_bestByBranches_47 ?_
      refine lv_aload_n hx hb dX8_bestByBranches_48 rfl (lv_at hl 3 rfl) ?_
      refine cx_getN C hZ hW 5 2 rfl rfl (by decide) inX5 nw_155 rfl rfl dX8_bestByBranches_49 ?_
      refine lv_iload hx hb dX8_bestByBranches_52 (lv_at hl 1 rfl) ?_
      refine cx_ald C hW 8 0 (j := x) rfl rfl rfl (by have h1 := hO.1; omega) (by decide) dX8_bestByBranches_54 ?_
      refine lv_i2l (v := ((fW x)).toInt64) hx hb dX8_bestByBranches_55 rfl ?_
      refine lv_ladd hx hb dX8_bestByBranches_56 ?_
      refine cx_last C hW 10 2 (j := x) (W1 := [(t0, .inr (11, [.ref t1, .ref t2, .ref t3, .ref t4, .ref t5, .ref t6])), (t1, .inl (aT 0, 12, .inl r1)), (t2, .inl (aT 0, 12, .inl r2)), (t3, .inl (aT 0, 12, .inl r3)), (t4, .inl (aT 0, 12, .inl r4)), (a5, .inr (8, [.ref a6, .ref a7, .ref a8, .ref a9, .int (nI nm), .int nx])), (a6, .inl (aT 0, 12, .inl fI)), (a7, .inl (aT 0, 12, .inl fN)), (a8, .inl (aT 0, 12, .inl fW)), (a9, .inl (aT 0, 12, .inl fP)), (t5, .inl (aT 2, 12, .inr (.inl (vp_updL f x ((f x) + ((fW x)).toInt64))))), (t6, .inl (aT 2, 12, .inr (.inl h_)))]) rfl rfl rfl (by have h1 := hO.1; omega) (by decide) rfl dX8_bestByBranches_57 (fun H locs hW => ?_)
      refine lv_aload_n hx hb dX8_bestByBranches_58 rfl (lv_at hl 4 rfl) ?_
      refine cx_get C hW 0 4 rfl rfl (by decide) inX8 gw_247 rfl rfl dX8_bestByBranches_59 ?_
      refine lv_iload hx hb dX8_bestByBranches_62 (lv_at hl 1 rfl) ?_
      refine cx_lald C hW 10 2 (j := x) rfl rfl rfl (by have h1 := hO.1; omega) (by decide) rfl dX8_bestByBranches_64 ?_
      refine lv_aload_n hx hb dX8_bestByBranches_65 rfl (lv_at hl 4 rfl) ?_
      refine cx_get C hW 0 5 rfl rfl (by decide) inX8 gw_248 rfl rfl dX8_bestByBranches_66 ?_
      refine lv_iload hx hb dX8_bestByBranches_69 (lv_at hl 1 rfl) ?_
      refine cx_lald C hW 11 2 (j := x) rfl rfl rfl (by have h1 := hO.1; omega) (by decide) rfl dX8_bestByBranches_71 ?_
      refine va_mmax_long hx hb (hml.trans hl.1.symm) C.2.2.2.1 (C.2.2.1 _ gw_442) (C.2.2.1 _ gw_443) (C.2.2.1 _ gw_89) (C.2.2.1 _ gm_maxl) (Nat.le_of_ble_eq_true rfl) (Nat.le_of_ble_eq_true rfl) (Nat.le_of_ble_eq_true rfl) (Nat.le_of_ble_eq_true rfl) dX8_bestByBranches_72 ?_
      refine lv_lstore (lv' := [(6, .long (if (h_ x) < ((vp_updL f x ((f x) + ((fW x)).toInt64)) x) then ((vp_updL f x ((f x) + ((fW x)).toInt64)) x) else (h_ x))), (5, .int (oi (pr x))), (4, .int (nI x)), (2, .long z), (1, .ref a5), (0, .ref t0)]) hx hb dX8_bestByBranches_75 hl (by decide) rfl (fun ls hl => ?_)
      refine lv_iload hx hb dX8_bestByBranches_77 (lv_at hl 1 rfl) ?_
      refine r_oi_lt0 hx hb (o := (pr x)) (fun j hj => by have h1 := hO.1; have h2 := hO.2.2.2.1 x j (by omega) hj; omega) (tgt := 114) dX8_bestByBranches_79 (by decide) (fun c_79 => ?_) (fun j_79 c_79 => ?_)
      · rw [c_79] at hl
        have hl : lv_has ls 8 [(6, .long (if (h_ x) < ((vp_updL f x ((f x) + ((fW x)).toInt64)) x) then ((vp_updL f x ((f x) + ((fW x)).toInt64)) x) else (h_ x))), (5, .int (-1)), (4, .int (nI x)), (2, .long z), (1, .ref a5), (0, .ref t0)] := hl
        refine lv_lload_n hx hb dX8_bestByBranches_114 rfl (lv_at hl 3 rfl) ?_
        refine lv_lload hx hb dX8_bestByBranches_115 (lv_at hl 0 rfl) ?_
        refine lv_ladd hx hb dX8_bestByBranches_117 ?_
        refine lv_lstore_n (lv' := [(2, .long (z + (if (h_ x) < ((vp_updL f x ((f x) + ((fW x)).toInt64)) x) then ((vp_updL f x ((f x) + ((fW x)).toInt64)) x) else (h_ x)))), (6, .long (if (h_ x) < ((vp_updL f x ((f x) + ((fW x)).toInt64)) x) then ((vp_updL f x ((f x) + ((fW x)).toInt64)) x) else (h_ x))), (5, .int (-1)), (4, .int (nI x)), (1, .ref a5), (0, .ref t0)]) hx hb dX8_bestByBranches_118 rfl hl (by decide) rfl (fun ls hl => ?_)
        refine lv_iinc (v := (nI x + -1)) (lv' := [(4, .int (nI x + -1)), (2, .long (z + (if (h_ x) < ((vp_updL f x ((f x) + ((fW x)).toInt64)) x) then ((vp_updL f x ((f x) + ((fW x)).toInt64)) x) else (h_ x)))), (6, .long (if (h_ x) < ((vp_updL f x ((f x) + ((fW x)).toInt64)) x) then ((vp_updL f x ((f x) + ((fW x)).toInt64)) x) else (h_ x))), (5, .int (-1)), (1, .ref a5), (0, .ref t0)]) hx hb dX8_bestByBranches_119 hl (k := 3) rfl rfl (by decide) rfl (fun ls hl => ?_)
        refine lv_goto (tgt := 26) hx hb dX8_bestByBranches_122 (by decide) ?_
        exact ih_26 (x, (z + (if (h_ x) < ((vp_updL f x ((f x) + ((fW x)).toInt64)) x) then ((vp_updL f x ((f x) + ((fW x)).toInt64)) x) else (h_ x))), (vp_updL f x ((f x) + ((fW x)).toInt64)), h_) _ _ _ (by first | omega | (dsimp only; omega)) ⟨_, rfl, lv_sub hl [0, 1, 4, 5] rfl, hW, (by dsimp only; omega)⟩
      · rw [c_79] at hl
        have hl : lv_has ls 8 [(6, .long (if (h_ x) < ((vp_updL f x ((f x) + ((fW x)).toInt64)) x) then ((vp_updL f x ((f x) + ((fW x)).toInt64)) x) else (h_ x))), (5, .int (nI j_79)), (4, .int (nI x)), (2, .long z), (1, .ref a5), (0, .ref t0)] := hl
        refine lv_aload_n hx hb dX8_bestByBranches_82 rfl (lv_at hl 5 rfl) ?_
        refine cx_get C hW 0 4 rfl rfl (by decide) inX8 gw_247 rfl rfl dX8_bestByBranches_83 ?_
        refine lv_iload hx hb dX8_bestByBranches_86 (lv_at hl 1 rfl) ?_
        refine lv_dup2_11 hx hb dX8_bestByBranches_88 rfl rfl ?_
        refine cx_lald C hW 10 2 (j := j_79) rfl rfl rfl (by have h1 := hO.1; have h2 := hO.2.2.2.1 x _ (by omega) (by assumption); omega) (by decide) rfl dX8_bestByBranches_89 ?_
        refine lv_aload_n hx hb dX8_bestByBranches_90 rfl (lv_at hl 5 rfl) ?_
        refine cx_get C hW 0 5 rfl rfl (by decide) inX8 gw_248 rfl rfl dX8_bestByBranches_91 ?_
        refine lv_iload hx hb dX8_bestByBranches_94 (lv_at hl 2 rfl) ?_
        refine cx_lald C hW 11 2 (j := x) rfl rfl rfl (by have h1 := hO.1; omega) (by decide) rfl dX8_bestByBranches_96 ?_
        refine lv_ladd hx hb dX8_bestByBranches_97 ?_
        refine cx_last C hW 10 2 (j := j_79) (W1 := [(t0, .inr (11, [.ref t1, .ref t2, .ref t3, .ref t4, .ref t5, .ref t6])), (t1, .inl (aT 0, 12, .inl r1)), (t2, .inl (aT 0, 12, .inl r2)), (t3, .inl (aT 0, 12, .inl r3)), (t4, .inl (aT 0, 12, .inl r4)), (a5, .inr (8, [.ref a6, .ref a7, .ref a8, .ref a9, .int (nI nm), .int nx])), (a6, .inl (aT 0, 12, .inl fI)), (a7, .inl (aT 0, 12, .inl fN)), (a8, .inl (aT 0, 12, .inl fW)), (a9, .inl (aT 0, 12, .inl fP)), (t5, .inl (aT 2, 12, .inr (.inl (vp_updL (vp_updL f x ((f x) + ((fW x)).toInt64)) j_79 (((vp_updL f x ((f x) + ((fW x)).toInt64)) j_79) + (h_ x)))))), (t6, .inl (aT 2, 12, .inr (.inl h_)))]) rfl rfl rfl (by have h1 := hO.1; have h2 := hO.2.2.2.1 x _ (by omega) (by assumption); omega) (by decide) rfl dX8_bestByBranches_98 (fun H locs hW => ?_)
        refine lv_aload_n hx hb dX8_bestByBranches_99 rfl (lv_at hl 5 rfl) ?_
        refine cx_get C hW 0 5 rfl rfl (by decide) inX8 gw_248 rfl rfl dX8_bestByBranches_100 ?_
        refine lv_iload hx hb dX8_bestByBranches_103 (lv_at hl 1 rfl) ?_
        refine lv_dup2_11 hx hb dX8_bestByBranches_105 rfl rfl ?_
        refine cx_lald C hW 11 2 (j := j_79) rfl rfl rfl (by have h1 := hO.1; have h2 := hO.2.2.2.1 x _ (by omega) (by assumption); omega) (by decide) rfl dX8_bestByBranches_106 ?_
        refine lv_lload hx hb dX8_bestByBranches_107 (lv_at hl 0 rfl) ?_
        refine lv_ladd hx hb dX8_bestByBranches_109 ?_
        refine cx_last C hW 11 2 (j := j_79) (W1 := [(t0, .inr (11, [.ref t1, .ref t2, .ref t3, .ref t4, .ref t5, .ref t6])), (t1, .inl (aT 0, 12, .inl r1)), (t2, .inl (aT 0, 12, .inl r2)), (t3, .inl (aT 0, 12, .inl r3)), (t4, .inl (aT 0, 12, .inl r4)), (a5, .inr (8, [.ref a6, .ref a7, .ref a8, .ref a9, .int (nI nm), .int nx])), (a6, .inl (aT 0, 12, .inl fI)), (a7, .inl (aT 0, 12, .inl fN)), (a8, .inl (aT 0, 12, .inl fW)), (a9, .inl (aT 0, 12, .inl fP)), (t5, .inl (aT 2, 12, .inr (.inl (vp_updL (vp_updL f x ((f x) + ((fW x)).toInt64)) j_79 (((vp_updL f x ((f x) + ((fW x)).toInt64)) j_79) + (h_ x)))))), (t6, .inl (aT 2, 12, .inr (.inl (vp_updL h_ j_79 ((h_ j_79) + (if (h_ x) < ((vp_updL f x ((f x) + ((fW x)).toInt64)) x) then ((vp_updL f x ((f x) + ((fW x)).toInt64)) x) else (h_ x)))))))]) rfl rfl rfl (by have h1 := hO.1; have h2 := hO.2.2.2.1 x _ (by omega) (by assumption); omega) (by decide) rfl dX8_bestByBranches_110 (fun H locs hW => ?_)
        refine lv_goto (tgt := 119) hx hb dX8_bestByBranches_111 (by decide) ?_
        refine lv_iinc (v := (nI x + -1)) (lv' := [(4, .int (nI x + -1)), (6, .long (if (h_ x) < ((vp_updL f x ((f x) + ((fW x)).toInt64)) x) then ((vp_updL f x ((f x) + ((fW x)).toInt64)) x) else (h_ x))), (5, .int (nI j_79)), (2, .long z), (1, .ref a5), (0, .ref t0)]) hx hb dX8_bestByBranches_119 hl (k := 2) rfl rfl (by decide) rfl (fun ls hl => ?_)
        refine lv_goto (tgt := 26) hx hb dX8_bestByBranches_122 (by decide) ?_
        exact ih_26 (x, z, (vp_updL (vp_updL f x ((f x) + ((fW x)).toInt64)) j_79 (((vp_updL f x ((f x) + ((fW x)).toInt64)) j_79) + (h_ x))), (vp_updL h_ j_79 ((h_ j_79) + (if (h_ x) < ((vp_updL f x ((f x) + ((fW x)).toInt64)) x) then ((vp_updL f x ((f x) + ((fW x)).toInt64)) x) else (h_ x))))) _ _ _ (by first | omega | (dsimp only; omega)) ⟨_, rfl, lv_sub hl [0, 3, 4, 5] rfl, hW, (by dsimp only; omega)⟩
theorem dX8_countGoodSets_0 : decode cX8_countGoodSets 0 = .ok (.aload_n 0, 1) := by decide +kernel
theorem dX8_countGoodSets_1 : decode cX8_countGoodSets 1 = .ok (.getfield 24, 3) := by decide +kernel
theorem dX8_countGoodSets_4 : decode cX8_countGoodSets 4 = .ok (.lconst 1, 1) := by decide +kernel
theorem dX8_countGoodSets_5 : decode cX8_countGoodSets 5 = .ok (.invokestatic 68, 3) := by decide +kernel
theorem dX8_countGoodSets_8 : decode cX8_countGoodSets 8 = .ok (.aload_n 0, 1) := by decide +kernel
theorem dX8_countGoodSets_9 : decode cX8_countGoodSets 9 = .ok (.getfield 28, 3) := by decide +kernel
theorem dX8_countGoodSets_12 : decode cX8_countGoodSets 12 = .ok (.lconst 1, 1) := by decide +kernel
theorem dX8_countGoodSets_13 : decode cX8_countGoodSets 13 = .ok (.invokestatic 68, 3) := by decide +kernel
theorem dX8_countGoodSets_16 : decode cX8_countGoodSets 16 = .ok (.lconst 1, 1) := by decide +kernel
theorem dX8_countGoodSets_17 : decode cX8_countGoodSets 17 = .ok (.lstore_n 2, 1) := by decide +kernel
theorem dX8_countGoodSets_18 : decode cX8_countGoodSets 18 = .ok (.aload_n 1, 1) := by decide +kernel
theorem dX8_countGoodSets_19 : decode cX8_countGoodSets 19 = .ok (.getfield 50, 3) := by decide +kernel
theorem dX8_countGoodSets_22 : decode cX8_countGoodSets 22 = .ok (.iconst 1, 1) := by decide +kernel
theorem dX8_countGoodSets_23 : decode cX8_countGoodSets 23 = .ok (.isub, 1) := by decide +kernel
theorem dX8_countGoodSets_24 : decode cX8_countGoodSets 24 = .ok (.istore 4, 2) := by decide +kernel
theorem dX8_countGoodSets_26 : decode cX8_countGoodSets 26 = .ok (.iload 4, 2) := by decide +kernel
theorem dX8_countGoodSets_28 : decode cX8_countGoodSets 28 = .ok (.ifCond .lt 77, 3) := by decide +kernel
theorem dX8_countGoodSets_31 : decode cX8_countGoodSets 31 = .ok (.aload_n 1, 1) := by decide +kernel
theorem dX8_countGoodSets_32 : decode cX8_countGoodSets 32 = .ok (.getfield 37, 3) := by decide +kernel
theorem dX8_countGoodSets_35 : decode cX8_countGoodSets 35 = .ok (.iload 4, 2) := by decide +kernel
theorem dX8_countGoodSets_37 : decode cX8_countGoodSets 37 = .ok (.iaload, 1) := by decide +kernel
theorem dX8_countGoodSets_38 : decode cX8_countGoodSets 38 = .ok (.istore 5, 2) := by decide +kernel
theorem dX8_countGoodSets_40 : decode cX8_countGoodSets 40 = .ok (.aload_n 0, 1) := by decide +kernel
theorem dX8_countGoodSets_41 : decode cX8_countGoodSets 41 = .ok (.getfield 24, 3) := by decide +kernel
theorem dX8_countGoodSets_44 : decode cX8_countGoodSets 44 = .ok (.iload 4, 2) := by decide +kernel
theorem dX8_countGoodSets_46 : decode cX8_countGoodSets 46 = .ok (.laload, 1) := by decide +kernel
theorem dX8_countGoodSets_47 : decode cX8_countGoodSets 47 = .ok (.aload_n 0, 1) := by decide +kernel
theorem dX8_countGoodSets_48 : decode cX8_countGoodSets 48 = .ok (.getfield 28, 3) := by decide +kernel
theorem dX8_countGoodSets_51 : decode cX8_countGoodSets 51 = .ok (.iload 4, 2) := by decide +kernel
theorem dX8_countGoodSets_53 : decode cX8_countGoodSets 53 = .ok (.laload, 1) := by decide +kernel
theorem dX8_countGoodSets_54 : decode cX8_countGoodSets 54 = .ok (.ladd, 1) := by decide +kernel
theorem dX8_countGoodSets_55 : decode cX8_countGoodSets 55 = .ok (.lstore 6, 2) := by decide +kernel
theorem dX8_countGoodSets_57 : decode cX8_countGoodSets 57 = .ok (.iload 5, 2) := by decide +kernel
theorem dX8_countGoodSets_59 : decode cX8_countGoodSets 59 = .ok (.ifCond .lt 35, 3) := by decide +kernel
theorem dX8_countGoodSets_62 : decode cX8_countGoodSets 62 = .ok (.aload_n 0, 1) := by decide +kernel
theorem dX8_countGoodSets_63 : decode cX8_countGoodSets 63 = .ok (.getfield 24, 3) := by decide +kernel
theorem dX8_countGoodSets_66 : decode cX8_countGoodSets 66 = .ok (.iload 5, 2) := by decide +kernel
theorem dX8_countGoodSets_68 : decode cX8_countGoodSets 68 = .ok (.dup2, 1) := by decide +kernel
theorem dX8_countGoodSets_69 : decode cX8_countGoodSets 69 = .ok (.laload, 1) := by decide +kernel
theorem dX8_countGoodSets_70 : decode cX8_countGoodSets 70 = .ok (.aload_n 0, 1) := by decide +kernel
theorem dX8_countGoodSets_71 : decode cX8_countGoodSets 71 = .ok (.getfield 28, 3) := by decide +kernel
theorem dX8_countGoodSets_74 : decode cX8_countGoodSets 74 = .ok (.iload 4, 2) := by decide +kernel
theorem dX8_countGoodSets_76 : decode cX8_countGoodSets 76 = .ok (.laload, 1) := by decide +kernel
theorem dX8_countGoodSets_77 : decode cX8_countGoodSets 77 = .ok (.lmul, 1) := by decide +kernel
theorem dX8_countGoodSets_78 : decode cX8_countGoodSets 78 = .ok (.lastore, 1) := by decide +kernel
theorem dX8_countGoodSets_79 : decode cX8_countGoodSets 79 = .ok (.aload_n 0, 1) := by decide +kernel
theorem dX8_countGoodSets_80 : decode cX8_countGoodSets 80 = .ok (.getfield 28, 3) := by decide +kernel
theorem dX8_countGoodSets_83 : decode cX8_countGoodSets 83 = .ok (.iload 5, 2) := by decide +kernel
theorem dX8_countGoodSets_85 : decode cX8_countGoodSets 85 = .ok (.dup2, 1) := by decide +kernel
theorem dX8_countGoodSets_86 : decode cX8_countGoodSets 86 = .ok (.laload, 1) := by decide +kernel
theorem dX8_countGoodSets_87 : decode cX8_countGoodSets 87 = .ok (.lload 6, 2) := by decide +kernel
theorem dX8_countGoodSets_89 : decode cX8_countGoodSets 89 = .ok (.lmul, 1) := by decide +kernel
theorem dX8_countGoodSets_90 : decode cX8_countGoodSets 90 = .ok (.lastore, 1) := by decide +kernel
theorem dX8_countGoodSets_91 : decode cX8_countGoodSets 91 = .ok (.goto 8, 3) := by decide +kernel
theorem dX8_countGoodSets_94 : decode cX8_countGoodSets 94 = .ok (.lload_n 2, 1) := by decide +kernel
theorem dX8_countGoodSets_95 : decode cX8_countGoodSets 95 = .ok (.lload 6, 2) := by decide +kernel
theorem dX8_countGoodSets_97 : decode cX8_countGoodSets 97 = .ok (.lmul, 1) := by decide +kernel
theorem dX8_countGoodSets_98 : decode cX8_countGoodSets 98 = .ok (.lstore_n 2, 1) := by decide +kernel
theorem dX8_countGoodSets_99 : decode cX8_countGoodSets 99 = .ok (.iinc 4 (-1), 3) := by decide +kernel
theorem dX8_countGoodSets_102 : decode cX8_countGoodSets 102 = .ok (.goto (-76), 3) := by decide +kernel
theorem dX8_countGoodSets_105 : decode cX8_countGoodSets 105 = .ok (.lload_n 2, 1) := by decide +kernel
theorem dX8_countGoodSets_106 : decode cX8_countGoodSets 106 = .ok (.l2i, 1) := by decide +kernel
theorem dX8_countGoodSets_107 : decode cX8_countGoodSets 107 = .ok (.ireturn, 1) := by decide +kernel
set_option maxHeartbeats 2000000 in
set_option maxRecDepth 20000 in
theorem k_X8_countGoodSets (l : Launch) (hfl : l.stackTraces = false) (D : va_G) (aT : Nat → ClassId) (t0 : Nat) (t1 : Nat) (t2 : Nat) (t3 : Nat) (t4 : Nat) (t5 : Nat) (t6 : Nat) (r1 : Nat → Int32) (r2 : Nat → Int32) (r3 : Nat → Int32) (r4 : Nat → Int32) (r5 : Nat → Int64) (r6 : Nat → Int64) (a5 : Nat) (a6 : Nat) (a7 : Nat) (a8 : Nat) (a9 : Nat) (fI : Nat → Int32) (fN : Nat → Int32) (fW : Nat → Int32) (fP : Nat → Int32) (nm : Nat) (nx : Int32) (idn : Nat → Nat) (pr : Nat → Option Nat) (tn : Nat → Nat) (hO : MoC fI fN fP nm idn pr tn) : CxG l yX8_countGoodSets cX8_countGoodSets 8 (some (.int)) 1 0 0 24 D aT [.ref t0, .ref a5] [(t0, .inr (11, [.ref t1, .ref t2, .ref t3, .ref t4, .ref t5, .ref t6])), (t1, .inl (aT 0, 12, .inl r1)), (t2, .inl (aT 0, 12, .inl r2)), (t3, .inl (aT 0, 12, .inl r3)), (t4, .inl (aT 0, 12, .inl r4)), (t5, .inl (aT 2, 12, .inr (.inl r5))), (t6, .inl (aT 2, 12, .inr (.inl r6))), (a5, .inr (8, [.ref a6, .ref a7, .ref a8, .ref a9, .int (nI nm), .int nx])), (a6, .inl (aT 0, 12, .inl fI)), (a7, .inl (aT 0, 12, .inl fN)), (a8, .inl (aT 0, 12, .inl fW)), (a9, .inl (aT 0, 12, .inl fP))] (qI D aT (fun r W1 => ∃ g5 g6 : Nat → Int64, W1 = [(t0, .inr (11, [.ref t1, .ref t2, .ref t3, .ref t4, .ref t5, .ref t6])), (t1, .inl (aT 0, 12, .inl r1)), (t2, .inl (aT 0, 12, .inl r2)), (t3, .inl (aT 0, 12, .inl r3)), (t4, .inl (aT 0, 12, .inl r4)), (t5, .inl (aT 2, 12, .inr (.inl g5))), (t6, .inl (aT 2, 12, .inr (.inl g6))), (a5, .inr (8, [.ref a6, .ref a7, .ref a8, .ref a9, .int (nI nm), .int nx])), (a6, .inl (aT 0, 12, .inl fI)), (a7, .inl (aT 0, 12, .inl fN)), (a8, .inl (aT 0, 12, .inl fW)), (a9, .inl (aT 0, 12, .inl fP))])) (fun _ _ => False) := by
  refine CxG.of RX8 (by decide +kernel) rfl (Nat.le_of_ble_eq_true rfl) ?_
  intro p e s m below meth c A ls C hml hl hA hr hlocks hex hnm hZ hW
  have hl : lv_has ls 8 [(0, .ref t0), (1, .ref a5)] := hl
  have hx := C.1
  have hb := C.2.1
  refine lv_aload_n hx hb dX8_countGoodSets_0 rfl (lv_at hl 0 rfl) ?_
  refine cx_get C hW 0 4 rfl rfl (by decide) inX8 gw_247 rfl rfl dX8_countGoodSets_1 ?_
  refine lv_lconst (v := 1) hx hb dX8_countGoodSets_4 (by decide) ?_
  refine cx_callv (Wr := [(t0, .inr (11, [.ref t1, .ref t2, .ref t3, .ref t4, .ref t5, .ref t6])), (t1, .inl (aT 0, 12, .inl r1)), (t2, .inl (aT 0, 12, .inl r2)), (t3, .inl (aT 0, 12, .inl r3)), (t4, .inl (aT 0, 12, .inl r4)), (t6, .inl (aT 2, 12, .inr (.inl r6))), (a5, .inr (8, [.ref a6, .ref a7, .ref a8, .ref a9, .int (nI nm), .int nx])), (a6, .inl (aT 0, 12, .inl fI)), (a7, .inl (aT 0, 12, .inl fN)), (a8, .inl (aT 0, 12, .inl fW)), (a9, .inl (aT 0, 12, .inl fP))]) (cx_runS C hml hl.1 hZ hW hA (As := [.ref t5, .long 1]) (rest := []) (k_J7_fill_d0a16 l hfl D aT t5 12 r5 1 (by decide)) gS_X8_J7_fill_d0a16_68 hS_J7_fill_d0a16 rfl ⟨Nat.le_of_ble_eq_true rfl, Nat.le_of_ble_eq_true rfl⟩ ⟨Nat.le_of_ble_eq_true rfl, Nat.le_of_ble_eq_true rfl⟩ [5] rfl (by decide) rfl (Nat.le_of_ble_eq_true rfl) dX8_countGoodSets_5) hW hA [5] [0, 1, 2, 3, 4, 6, 7, 8, 9, 10, 11] rfl rfl (by decide) (by decide) (fun _ _ _ _ _ _ h9 => h9.elim) (fun W_5 H locs hq hW => ?_)
  obtain ⟨gf_5, rfl⟩ := hq
  have hW : CxB D [(t0, .inr (11, [.ref t1, .ref t2, .ref t3, .ref t4, .ref t5, .ref t6])), (t1, .inl (aT 0, 12, .inl r1)), (t2, .inl (aT 0, 12, .inl r2)), (t3, .inl (aT 0, 12, .inl r3)), (t4, .inl (aT 0, 12, .inl r4)), (t6, .inl (aT 2, 12, .inr (.inl r6))), (a5, .inr (8, [.ref a6, .ref a7, .ref a8, .ref a9, .int (nI nm), .int nx])), (a6, .inl (aT 0, 12, .inl fI)), (a7, .inl (aT 0, 12, .inl fN)), (a8, .inl (aT 0, 12, .inl fW)), (a9, .inl (aT 0, 12, .inl fP)), (t5, .inl (aT 2, 12, .inr (.inl gf_5)))] A s.heap H _ := hW
  refine lv_aload_n hx hb dX8_countGoodSets_8 rfl (lv_at hl 0 rfl) ?_
  refine cx_get C hW 0 5 rfl rfl (by decide) inX8 gw_248 rfl rfl dX8_countGoodSets_9 ?_
  refine lv_lconst (v := 1) hx hb dX8_countGoodSets_12 (by decide) ?_
  refine cx_callv (Wr := [(t0, .inr (11, [.ref t1, .ref t2, .ref t3, .ref t4, .ref t5, .ref t6])), (t1, .inl (aT 0, 12, .inl r1)), (t2, .inl (aT 0, 12, .inl r2)), (t3, .inl (aT 0, 12, .inl r3)), (t4, .inl (aT 0, 12, .inl r4)), (a5, .inr (8, [.ref a6, .ref a7, .ref a8, .ref a9, .int (nI nm), .int nx])), (a6, .inl (aT 0, 12, .inl fI)), (a7, .inl (aT 0, 12, .inl fN)), (a8, .inl (aT 0, 12, .inl fW)), (a9, .inl (aT 0, 12, .inl fP)), (t5, .inl (aT 2, 12, .inr (.inl gf_5)))]) (cx_runS C hml hl.1 hZ hW hA (As := [.ref t6, .long 1]) (rest := []) (k_J7_fill_d0a16 l hfl D aT t6 12 r6 1 (by decide)) gS_X8_J7_fill_d0a16_68 hS_J7_fill_d0a16 rfl ⟨Nat.le_of_ble_eq_true rfl, Nat.le_of_ble_eq_true rfl⟩ ⟨Nat.le_of_ble_eq_true rfl, Nat.le_of_ble_eq_true rfl⟩ [5] rfl (by decide) rfl (Nat.le_of_ble_eq_true rfl) dX8_countGoodSets_13) hW hA [5] [0, 1, 2, 3, 4, 6, 7, 8, 9, 10, 11] rfl rfl (by decide) (by decide) (fun _ _ _ _ _ _ h9 => h9.elim) (fun W_13 H locs hq hW => ?_)
  obtain ⟨gf_13, rfl⟩ := hq
  have hW : CxB D [(t0, .inr (11, [.ref t1, .ref t2, .ref t3, .ref t4, .ref t5, .ref t6])), (t1, .inl (aT 0, 12, .inl r1)), (t2, .inl (aT 0, 12, .inl r2)), (t3, .inl (aT 0, 12, .inl r3)), (t4, .inl (aT 0, 12, .inl r4)), (a5, .inr (8, [.ref a6, .ref a7, .ref a8, .ref a9, .int (nI nm), .int nx])), (a6, .inl (aT 0, 12, .inl fI)), (a7, .inl (aT 0, 12, .inl fN)), (a8, .inl (aT 0, 12, .inl fW)), (a9, .inl (aT 0, 12, .inl fP)), (t5, .inl (aT 2, 12, .inr (.inl gf_5))), (t6, .inl (aT 2, 12, .inr (.inl gf_13)))] A s.heap H _ := hW
  refine lv_lconst (v := 1) hx hb dX8_countGoodSets_16 (by decide) ?_
  refine lv_lstore_n (lv' := [(2, .long 1), (0, .ref t0), (1, .ref a5)]) hx hb dX8_countGoodSets_17 rfl hl (by decide) rfl (fun ls hl => ?_)
  refine lv_aload_n hx hb dX8_countGoodSets_18 rfl (lv_at hl 2 rfl) ?_
  refine cx_getN C hZ hW 5 4 rfl rfl (by decide) inX5 nw_162 rfl rfl dX8_countGoodSets_19 ?_
  refine lv_iconst (v := nI 1) hx hb dX8_countGoodSets_22 (by decide) ?_
  refine lv_isub hx hb dX8_countGoodSets_23 ?_
  refine r_eq (y := (nI nm + -1)) (by rw [Int32.sub_eq_add_neg]; rfl) ?_
  refine lv_istore (lv' := [(4, .int (nI nm + -1)), (2, .long 1), (0, .ref t0), (1, .ref a5)]) hx hb dX8_countGoodSets_24 hl (by decide) rfl (fun ls hl => ?_)
  refine W_loopH (σ := Nat × Int64 × (Nat → Int64) × (Nat → Int64)) (fun z_ => z_.1) (fun z_ H locs g => ∃ ls, g = F0 m 26 ls [] ∧ lv_has ls 8 [(4, .int (nI z_.1 + -1)), (2, .long z_.2.1), (1, .ref a5), (0, .ref t0)] ∧ CxB D [(t0, .inr (11, [.ref t1, .ref t2, .ref t3, .ref t4, .ref t5, .ref t6])), (t1, .inl (aT 0, 12, .inl r1)), (t2, .inl (aT 0, 12, .inl r2)), (t3, .inl (aT 0, 12, .inl r3)), (t4, .inl (aT 0, 12, .inl r4)), (a5, .inr (8, [.ref a6, .ref a7, .ref a8, .ref a9, .int (nI nm), .int nx])), (a6, .inl (aT 0, 12, .inl fI)), (a7, .inl (aT 0, 12, .inl fN)), (a8, .inl (aT 0, 12, .inl fW)), (a9, .inl (aT 0, 12, .inl fP)), (t5, .inl (aT 2, 12, .inr (.inl z_.2.2.1))), (t6, .inl (aT 2, 12, .inr (.inl z_.2.2.2)))] A s.heap H locs ∧ z_.1 ≤ nm) ?_ (nm, 1, gf_5, gf_13) _ ⟨_, rfl, lv_sub hl [0, 1, 3, 2] rfl, hW, Nat.le_refl _⟩
  clear hW hl
  rintro ⟨x, z, f, h_⟩ H locs g ⟨ls, rfl, hl, hW, hx9⟩ ih_26
  dsimp only at hl hW hx9 ⊢
  cases x with
  | zero =>
    have hl : lv_has ls 8 [(4, .int (nI 0 + -1)), (2, .long z), (1, .ref a5), (0, .ref t0)] := hl
    refine lv_iload hx hb dX8_countGoodSets_26 (lv_at hl 0 rfl) ?_
    refine lv_if_lt hx hb (x := (nI 0 + -1)) (tgt := 105) dX8_countGoodSets_28 (by decide) (fun c_28 => ?_) (fun c_28 => ?_)
    · refine lv_lload_n hx hb dX8_countGoodSets_105 rfl (lv_at hl 1 rfl) ?_
      refine lv_l2i (v := z.toInt32) hx hb dX8_countGoodSets_106 (rfl) ?_
      have hW : CxB D [(t0, .inr (11, [.ref t1, .ref t2, .ref t3, .ref t4, .ref t5, .ref t6])), (t1, .inl (aT 0, 12, .inl r1)), (t2, .inl (aT 0, 12, .inl r2)), (t3, .inl (aT 0, 12, .inl r3)), (t4, .inl (aT 0, 12, .inl r4)), (t5, .inl (aT 2, 12, .inr (.inl f))), (t6, .inl (aT 2, 12, .inr (.inl h_))), (a5, .inr (8, [.ref a6, .ref a7, .ref a8, .ref a9, .int (nI nm), .int nx])), (a6, .inl (aT 0, 12, .inl fI)), (a7, .inl (aT 0, 12, .inl fN)), (a8, .inl (aT 0, 12, .inl fW)), (a9, .inl (aT 0, 12, .inl fP))] A s.heap H _ := cx_drop hW [0, 1, 2, 3, 4, 10, 11, 5, 6, 7, 8, 9] rfl (by decide)
      exact cx_iret C hr hlocks rfl hW ⟨Nat.le_of_ble_eq_true rfl, Nat.le_of_ble_eq_true rfl⟩ (⟨_, _, rfl⟩) dX8_countGoodSets_107
    · exact absurd (by decide) c_28
  | succ x =>
    have hl : lv_has ls 8 [(4, .int (nI x)), (2, .long z), (1, .ref a5), (0, .ref t0)] := by
      rw [show nI x = nI (x + 1) + -1 from (pd_1 _).symm]
      exact hl
    refine lv_iload hx hb dX8_countGoodSets_26 (lv_at hl 0 rfl) ?_
    refine lv_if_lt hx hb (x := (nI x)) (tgt := 105) dX8_countGoodSets_28 (by decide) (fun c_28 => ?_) (fun c_28 => ?_)
    · exact absurd c_28 (nI_pos (by have h1 := hO.1; omega))
    · refine lv_aload_n hx hb dX8_countGoodSets_31 rfl (lv_at hl 2 rfl) ?_
      refine cx_getN C hZ hW 5 3 rfl rfl (by decide) inX5 nw_158 rfl rfl dX8_countGoodSets_32 ?_
      refine lv_iload hx hb dX8_countGoodSets_35 (lv_at hl 0 rfl) ?_
      refine cx_ald C hW 9 0 (j := x) rfl rfl rfl (by have h1 := hO.1; omega) (by decide) dX8_countGoodSets_37 ?_
      refine r_eq (y := (oi (pr x))) (hO.2.2.1 x (by omega)) ?_
      refine lv_istore (lv' := [(5, .int (oi (pr x))), (4, .int (nI x)), (2, .long z), (1, .ref a5), (0, .ref t0)]) hx hb dX8_countGoodSets_38 hl (by decide) rfl (fun ls hl => ?_)
      refine lv_aload_n hx hb dX8_countGoodSets_40 rfl (lv_at hl 4 rfl) ?_
      refine cx_get C hW 0 4 rfl rfl (by decide) inX8 gw_247 rfl rfl dX8_countGoodSets_41 ?_
      refine lv_iload hx hb dX8_countGoodSets_44 (lv_at hl 1 rfl) ?_
      refine cx_lald C hW 10 2 (j := x) rfl rfl rfl (by have h1 := hO.1; omega) (by decide) rfl dX8_countGoodSets_46 ?_
      refine lv_aload_n hx hb dX8_countGoodSets_47 rfl (lv_at hl 4 rfl) ?_
      refine cx_get C hW 0 5 rfl rfl (by decide) inX8 gw_248 rfl rfl dX8_countGoodSets_48 ?_
      refine lv_iload hx hb dX8_countGoodSets_51 (lv_at hl 1 rfl) ?_
      refine cx_lald C hW 11 2 (j := x) rfl rfl rfl (by have h1 := hO.1; omega) (by decide) rfl dX8_countGoodSets_53 ?_
      refine lv_ladd hx hb dX8_countGoodSets_54 ?_
      refine lv_lstore (lv' := [(6, .long ((f x) + (h_ x))), (5, .int (oi (pr x))), (4, .int (nI x)), (2, .long z), (1, .ref a5), (0, .ref t0)]) hx hb dX8_countGoodSets_55 hl (by decide) rfl (fun ls hl => ?_)
      refine lv_iload hx hb dX8_countGoodSets_57 (lv_at hl 1 rfl) ?_
      refine r_oi_lt0 hx hb (o := (pr x)) (fun j hj => by have h1 := hO.1; have h2 := hO.2.2.2.1 x j (by omega) hj; omega) (tgt := 94) dX8_countGoodSets_59 (by decide) (fun c_59 => ?_) (fun j_59 c_59 => ?_)
      · rw [c_59] at hl
        have hl : lv_has ls 8 [(6, .long ((f x) + (h_ x))), (5, .int (-1)), (4, .int (nI x)), (2, .long z), (1, .ref a5), (0, .ref t0)] := hl
        refine lv_lload_n hx hb dX8_countGoodSets_94 rfl (lv_at hl 3 rfl) ?_
        refine lv_lload hx hb dX8_countGoodSets_95 (lv_at hl 0 rfl) ?_
        refine lv_lmul hx hb dX8_countGoodSets_97 ?_
        refine lv_lstore_n (lv' := [(2, .long (z * ((f x) + (h_ x)))), (6, .long ((f x) + (h_ x))), (5, .int (-1)), (4, .int (nI x)), (1, .ref a5), (0, .ref t0)]) hx hb dX8_countGoodSets_98 rfl hl (by decide) rfl (fun ls hl => ?_)
        refine lv_iinc (v := (nI x + -1)) (lv' := [(4, .int (nI x + -1)), (2, .long (z * ((f x) + (h_ x)))), (6, .long ((f x) + (h_ x))), (5, .int (-1)), (1, .ref a5), (0, .ref t0)]) hx hb dX8_countGoodSets_99 hl (k := 3) rfl rfl (by decide) rfl (fun ls hl => ?_)
        refine lv_goto (tgt := 26) hx hb dX8_countGoodSets_102 (by decide) ?_
        exact ih_26 (x, (z * ((f x) + (h_ x))), f, h_) _ _ _ (by first | omega | (dsimp only; omega)) ⟨_, rfl, lv_sub hl [0, 1, 4, 5] rfl, hW, (by dsimp only; omega)⟩
      · rw [c_59] at hl
        have hl : lv_has ls 8 [(6, .long ((f x) + (h_ x))), (5, .int (nI j_59)), (4, .int (nI x)), (2, .long z), (1, .ref a5), (0, .ref t0)] := hl
        refine lv_aload_n hx hb dX8_countGoodSets_62 rfl (lv_at hl 5 rfl) ?_
        refine cx_get C hW 0 4 rfl rfl (by decide) inX8 gw_247 rfl rfl dX8_countGoodSets_63 ?_
        refine lv_iload hx hb dX8_countGoodSets_66 (lv_at hl 1 rfl) ?_
        refine lv_dup2_11 hx hb dX8_countGoodSets_68 rfl rfl ?_
        refine cx_lald C hW 10 2 (j := j_59) rfl rfl rfl (by have h1 := hO.1; have h2 := hO.2.2.2.1 x _ (by omega) (by assumption); omega) (by decide) rfl dX8_countGoodSets_69 ?_
        refine lv_aload_n hx hb dX8_countGoodSets_70 rfl (lv_at hl 5 rfl) ?_
        refine cx_get C hW 0 5 rfl rfl (by decide) inX8 gw_248 rfl rfl dX8_countGoodSets_71 ?_
        refine lv_iload hx hb dX8_countGoodSets_74 (lv_at hl 2 rfl) ?_
        refine cx_lald C hW 11 2 (j := x) rfl rfl rfl (by have h1 := hO.1; omega) (by decide) rfl dX8_countGoodSets_76 ?_
        refine lv_lmul hx hb dX8_countGoodSets_77 ?_
        refine cx_last C hW 10 2 (j := j_59) (W1 := [(t0, .inr (11, [.ref t1, .ref t2, .ref t3, .ref t4, .ref t5, .ref t6])), (t1, .inl (aT 0, 12, .inl r1)), (t2, .inl (aT 0, 12, .inl r2)), (t3, .inl (aT 0, 12, .inl r3)), (t4, .inl (aT 0, 12, .inl r4)), (a5, .inr (8, [.ref a6, .ref a7, .ref a8, .ref a9, .int (nI nm), .int nx])), (a6, .inl (aT 0, 12, .inl fI)), (a7, .inl (aT 0, 12, .inl fN)), (a8, .inl (aT 0, 12, .inl fW)), (a9, .inl (aT 0, 12, .inl fP)), (t5, .inl (aT 2, 12, .inr (.inl (vp_updL f j_59 ((f j_59) * (h_ x)))))), (t6, .inl (aT 2, 12, .inr (.inl h_)))]) rfl rfl rfl (by have h1 := hO.1; have h2 := hO.2.2.2.1 x _ (by omega) (by assumption); omega) (by decide) rfl dX8_countGoodSets_78 (fun H locs hW => ?_)
        refine lv_aload_n hx hb dX8_countGoodSets_79 rfl (lv_at hl 5 rfl) ?_
        refine cx_get C hW 0 5 rfl rfl (by decide) inX8 gw_248 rfl rfl dX8_countGoodSets_80 ?_
        refine lv_iload hx hb dX8_countGoodSets_83 (lv_at hl 1 rfl) ?_
        refine lv_dup2_11 hx hb dX8_countGoodSets_85 rfl rfl ?_
        refine cx_lald C hW 11 2 (j := j_59) rfl rfl rfl (by have h1 := hO.1; have h2 := hO.2.2.2.1 x _ (by omega) (by assumption); omega) (by decide) rfl dX8_countGoodSets_86 ?_
        refine lv_lload hx hb dX8_countGoodSets_87 (lv_at hl 0 rfl) ?_
        refine lv_lmul hx hb dX8_countGoodSets_89 ?_
        refine cx_last C hW 11 2 (j := j_59) (W1 := [(t0, .inr (11, [.ref t1, .ref t2, .ref t3, .ref t4, .ref t5, .ref t6])), (t1, .inl (aT 0, 12, .inl r1)), (t2, .inl (aT 0, 12, .inl r2)), (t3, .inl (aT 0, 12, .inl r3)), (t4, .inl (aT 0, 12, .inl r4)), (a5, .inr (8, [.ref a6, .ref a7, .ref a8, .ref a9, .int (nI nm), .int nx])), (a6, .inl (aT 0, 12, .inl fI)), (a7, .inl (aT 0, 12, .inl fN)), (a8, .inl (aT 0, 12, .inl fW)), (a9, .inl (aT 0, 12, .inl fP)), (t5, .inl (aT 2, 12, .inr (.inl (vp_updL f j_59 ((f j_59) * (h_ x)))))), (t6, .inl (aT 2, 12, .inr (.inl (vp_updL h_ j_59 ((h_ j_59) * ((f x) + (h_ x)))))))]) rfl rfl rfl (by have h1 := hO.1; have h2 := hO.2.2.2.1 x _ (by omega) (by assumption); omega) (by decide) rfl dX8_countGoodSets_90 (fun H locs hW => ?_)
        refine lv_goto (tgt := 99) hx hb dX8_countGoodSets_91 (by decide) ?_
        refine lv_iinc (v := (nI x + -1)) (lv' := [(4, .int (nI x + -1)), (6, .long ((f x) + (h_ x))), (5, .int (nI j_59)), (2, .long z), (1, .ref a5), (0, .ref t0)]) hx hb dX8_countGoodSets_99 hl (k := 2) rfl rfl (by decide) rfl (fun ls hl => ?_)
        refine lv_goto (tgt := 26) hx hb dX8_countGoodSets_102 (by decide) ?_
        exact ih_26 (x, z, (vp_updL f j_59 ((f j_59) * (h_ x))), (vp_updL h_ j_59 ((h_ j_59) * ((f x) + (h_ x))))) _ _ _ (by first | omega | (dsimp only; omega)) ⟨_, rfl, lv_sub hl [0, 3, 4, 5] rfl, hW, (by dsimp only; omega)⟩
theorem dX8_isGood_0 : decode cX8_isGood 0 = .ok (.iconst 0, 1) := by decide +kernel
theorem dX8_isGood_1 : decode cX8_isGood 1 = .ok (.istore_n 2, 1) := by decide +kernel
theorem dX8_isGood_2 : decode cX8_isGood 2 = .ok (.iload_n 2, 1) := by decide +kernel
theorem dX8_isGood_3 : decode cX8_isGood 3 = .ok (.aload_n 0, 1) := by decide +kernel
theorem dX8_isGood_4 : decode cX8_isGood 4 = .ok (.getfield 50, 3) := by decide +kernel
theorem dX8_isGood_7 : decode cX8_isGood 7 = .ok (.if_icmp .ge 40, 3) := by decide +kernel
theorem dX8_isGood_10 : decode cX8_isGood 10 = .ok (.aload_n 0, 1) := by decide +kernel
theorem dX8_isGood_11 : decode cX8_isGood 11 = .ok (.getfield 37, 3) := by decide +kernel
theorem dX8_isGood_14 : decode cX8_isGood 14 = .ok (.iload_n 2, 1) := by decide +kernel
theorem dX8_isGood_15 : decode cX8_isGood 15 = .ok (.iaload, 1) := by decide +kernel
theorem dX8_isGood_16 : decode cX8_isGood 16 = .ok (.istore_n 3, 1) := by decide +kernel
theorem dX8_isGood_17 : decode cX8_isGood 17 = .ok (.iload_n 3, 1) := by decide +kernel
theorem dX8_isGood_18 : decode cX8_isGood 18 = .ok (.ifCond .lt 23, 3) := by decide +kernel
theorem dX8_isGood_21 : decode cX8_isGood 21 = .ok (.iload_n 1, 1) := by decide +kernel
theorem dX8_isGood_22 : decode cX8_isGood 22 = .ok (.iload_n 2, 1) := by decide +kernel
theorem dX8_isGood_23 : decode cX8_isGood 23 = .ok (.ishr, 1) := by decide +kernel
theorem dX8_isGood_24 : decode cX8_isGood 24 = .ok (.iconst 1, 1) := by decide +kernel
theorem dX8_isGood_25 : decode cX8_isGood 25 = .ok (.iand, 1) := by decide +kernel
theorem dX8_isGood_26 : decode cX8_isGood 26 = .ok (.iconst 1, 1) := by decide +kernel
theorem dX8_isGood_27 : decode cX8_isGood 27 = .ok (.if_icmp .ne 14, 3) := by decide +kernel
theorem dX8_isGood_30 : decode cX8_isGood 30 = .ok (.iload_n 1, 1) := by decide +kernel
theorem dX8_isGood_31 : decode cX8_isGood 31 = .ok (.iload_n 3, 1) := by decide +kernel
theorem dX8_isGood_32 : decode cX8_isGood 32 = .ok (.ishr, 1) := by decide +kernel
theorem dX8_isGood_33 : decode cX8_isGood 33 = .ok (.iconst 1, 1) := by decide +kernel
theorem dX8_isGood_34 : decode cX8_isGood 34 = .ok (.iand, 1) := by decide +kernel
theorem dX8_isGood_35 : decode cX8_isGood 35 = .ok (.iconst 1, 1) := by decide +kernel
theorem dX8_isGood_36 : decode cX8_isGood 36 = .ok (.if_icmp .ne 5, 3) := by decide +kernel
theorem dX8_isGood_39 : decode cX8_isGood 39 = .ok (.iconst 0, 1) := by decide +kernel
theorem dX8_isGood_40 : decode cX8_isGood 40 = .ok (.ireturn, 1) := by decide +kernel
theorem dX8_isGood_41 : decode cX8_isGood 41 = .ok (.iinc 2 1, 3) := by decide +kernel
theorem dX8_isGood_44 : decode cX8_isGood 44 = .ok (.goto (-42), 3) := by decide +kernel
theorem dX8_isGood_47 : decode cX8_isGood 47 = .ok (.iconst 1, 1) := by decide +kernel
theorem dX8_isGood_48 : decode cX8_isGood 48 = .ok (.ireturn, 1) := by decide +kernel
set_option maxHeartbeats 2000000 in
set_option maxRecDepth 20000 in
theorem k_X8_isGood (l : Launch) (hfl : l.stackTraces = false) (D : va_G) (aT : Nat → ClassId) (a5 : Nat) (a6 : Nat) (a7 : Nat) (a8 : Nat) (a9 : Nat) (fI : Nat → Int32) (fN : Nat → Int32) (fW : Nat → Int32) (fP : Nat → Int32) (nm : Nat) (nx : Int32) (idn : Nat → Nat) (pr : Nat → Option Nat) (tn : Nat → Nat) (hO : MoC fI fN fP nm idn pr tn) (sx : Int32) : CxG l yX8_isGood cX8_isGood 4 (some (.boolean)) 0 0 0 0 D aT [.ref a5, .int sx] [(a5, .inr (8, [.ref a6, .ref a7, .ref a8, .ref a9, .int (nI nm), .int nx])), (a6, .inl (aT 0, 12, .inl fI)), (a7, .inl (aT 0, 12, .inl fN)), (a8, .inl (aT 0, 12, .inl fW)), (a9, .inl (aT 0, 12, .inl fP))] (qI D aT (fun r W1 => (∃ b : Bool, r = bI b) ∧ W1 = [(a5, .inr (8, [.ref a6, .ref a7, .ref a8, .ref a9, .int (nI nm), .int nx])), (a6, .inl (aT 0, 12, .inl fI)), (a7, .inl (aT 0, 12, .inl fN)), (a8, .inl (aT 0, 12, .inl fW)), (a9, .inl (aT 0, 12, .inl fP))])) (fun _ _ => False) := by
  refine CxG.of RX8 (by decide +kernel) rfl (Nat.le_of_ble_eq_true rfl) ?_
  intro p e s m below meth c A ls C hml hl hA hr hlocks hex hnm hZ hW
  have hl : lv_has ls 4 [(0, .ref a5), (1, .int sx)] := hl
  have hx := C.1
  have hb := C.2.1
  refine lv_iconst (v := nI 0) hx hb dX8_isGood_0 (by decide) ?_
  refine lv_istore_n (lv' := [(2, .int (nI 0)), (0, .ref a5), (1, .int sx)]) hx hb dX8_isGood_1 rfl hl (by decide) rfl (fun ls hl => ?_)
  refine W_loopH (σ := Nat) (fun z_ => nm - z_) (fun z_ H locs g => ∃ ls, g = F0 m 2 ls [] ∧ lv_has ls 4 [(2, .int (nI z_)), (1, .int sx), (0, .ref a5)] ∧ CxB D [(a5, .inr (8, [.ref a6, .ref a7, .ref a8, .ref a9, .int (nI nm), .int nx])), (a6, .inl (aT 0, 12, .inl fI)), (a7, .inl (aT 0, 12, .inl fN)), (a8, .inl (aT 0, 12, .inl fW)), (a9, .inl (aT 0, 12, .inl fP))] A s.heap H locs ∧ z_ ≤ nm) ?_ 0 _ ⟨_, rfl, lv_sub hl [0, 2, 1] rfl, hW, Nat.zero_le _⟩
  clear hW hl
  rintro i H locs g ⟨ls, rfl, hl, hW, hi⟩ ih_2
  refine lv_iload_n hx hb dX8_isGood_2 rfl (lv_at hl 0 rfl) ?_
  refine lv_aload_n hx hb dX8_isGood_3 rfl (lv_at hl 2 rfl) ?_
  refine cx_getN C hZ hW 0 4 rfl rfl (by decide) inX5 nw_162 rfl rfl dX8_isGood_4 ?_
  refine r_geN hx hb (a := i) (b := nm) (by have h1 := hO.1; omega) (by have h1 := hO.1; omega) (tgt := 47) dX8_isGood_7 (by decide) (fun c_7 => ?_) (fun c_7 => ?_)
  · refine lv_iconst (v := nI 1) hx hb dX8_isGood_47 (by decide) ?_
    exact cx_iret C hr hlocks (by decide) hW ⟨Nat.le_of_ble_eq_true rfl, Nat.le_of_ble_eq_true rfl⟩ (⟨⟨true, rfl⟩, rfl⟩) dX8_isGood_48
  · refine lv_aload_n hx hb dX8_isGood_10 rfl (lv_at hl 2 rfl) ?_
    refine cx_getN C hZ hW 0 3 rfl rfl (by decide) inX5 nw_158 rfl rfl dX8_isGood_11 ?_
    refine lv_iload_n hx hb dX8_isGood_14 rfl (lv_at hl 0 rfl) ?_
    refine cx_ald C hW 4 0 (j := i) rfl rfl rfl (by have h1 := hO.1; omega) (by decide) dX8_isGood_15 ?_
    refine r_eq (y := (oi (pr i))) (hO.2.2.1 i (by first | assumption | omega)) ?_
    refine lv_istore_n (lv' := [(3, .int (oi (pr i))), (2, .int (nI i)), (1, .int sx), (0, .ref a5)]) hx hb dX8_isGood_16 rfl hl (by decide) rfl (fun ls hl => ?_)
    refine lv_iload_n hx hb dX8_isGood_17 rfl (lv_at hl 0 rfl) ?_
    refine r_oi_lt0 hx hb (o := (pr i)) (hO.lim (by omega)) (tgt := 41) dX8_isGood_18 (by decide) (fun c_18 => ?_) (fun j_18 c_18 => ?_)
    · rw [c_18] at hl
      have hl : lv_has ls 4 [(3, .int (-1)), (2, .int (nI i)), (1, .int sx), (0, .ref a5)] := hl
      refine lv_iinc (v := (nI (i + 1))) (lv' := [(2, .int (nI (i + 1))), (3, .int (-1)), (1, .int sx), (0, .ref a5)]) hx hb dX8_isGood_41 hl (k := 1) rfl (nI_1 _) (by decide) rfl (fun ls hl => ?_)
      refine lv_goto (tgt := 2) hx hb dX8_isGood_44 (by decide) ?_
      exact ih_2 (i + 1) _ _ _ (by first | omega | (dsimp only; omega)) ⟨_, rfl, lv_sub hl [0, 2, 3] rfl, hW, (by omega)⟩
    · rw [c_18] at hl
      have hl : lv_has ls 4 [(3, .int (nI j_18)), (2, .int (nI i)), (1, .int sx), (0, .ref a5)] := hl
      refine lv_iload_n hx hb dX8_isGood_21 rfl (lv_at hl 2 rfl) ?_
      refine lv_iload_n hx hb dX8_isGood_22 rfl (lv_at hl 1 rfl) ?_
      refine lv_ishr hx hb dX8_isGood_23 ?_
      refine lv_iconst (v := nI 1) hx hb dX8_isGood_24 (by decide) ?_
      refine lv_iand hx hb dX8_isGood_25 ?_
      refine lv_iconst (v := nI 1) hx hb dX8_isGood_26 (by decide) ?_
      refine lv_icmp_ne hx hb (x := ((sx >>> ((nI i) &&& 31)) &&& (nI 1))) (y := (nI 1)) (tgt := 41) dX8_isGood_27 (by decide) (fun c_27 => ?_) (fun c_27 => ?_)
      · refine lv_iinc (v := (nI (i + 1))) (lv' := [(2, .int (nI (i + 1))), (3, .int (nI j_18)), (1, .int sx), (0, .ref a5)]) hx hb dX8_isGood_41 hl (k := 1) rfl (nI_1 _) (by decide) rfl (fun ls hl => ?_)
        refine lv_goto (tgt := 2) hx hb dX8_isGood_44 (by decide) ?_
        exact ih_2 (i + 1) _ _ _ (by first | omega | (dsimp only; omega)) ⟨_, rfl, lv_sub hl [0, 2, 3] rfl, hW, (by omega)⟩
      · refine lv_iload_n hx hb dX8_isGood_30 rfl (lv_at hl 2 rfl) ?_
        refine lv_iload_n hx hb dX8_isGood_31 rfl (lv_at hl 0 rfl) ?_
        refine lv_ishr hx hb dX8_isGood_32 ?_
        refine lv_iconst (v := nI 1) hx hb dX8_isGood_33 (by decide) ?_
        refine lv_iand hx hb dX8_isGood_34 ?_
        refine lv_iconst (v := nI 1) hx hb dX8_isGood_35 (by decide) ?_
        refine lv_icmp_ne hx hb (x := ((sx >>> ((nI j_18) &&& 31)) &&& (nI 1))) (y := (nI 1)) (tgt := 41) dX8_isGood_36 (by decide) (fun c_36 => ?_) (fun c_36 => ?_)
        · refine lv_iinc (v := (nI (i + 1))) (lv' := [(2, .int (nI (i + 1))), (3, .int (nI j_18)), (1, .int sx), (0, .ref a5)]) hx hb dX8_isGood_41 hl (k := 1) rfl (nI_1 _) (by decide) rfl (fun ls hl => ?_)
          refine lv_goto (tgt := 2) hx hb dX8_isGood_44 (by decide) ?_
          exact ih_2 (i + 1) _ _ _ (by first | omega | (dsimp only; omega)) ⟨_, rfl, lv_sub hl [0, 2, 3] rfl, hW, (by omega)⟩
        · refine lv_iconst (v := nI 0) hx hb dX8_isGood_39 (by decide) ?_
          exact cx_iret C hr hlocks (by decide) hW ⟨Nat.le_of_ble_eq_true rfl, Nat.le_of_ble_eq_true rfl⟩ (⟨⟨false, rfl⟩, rfl⟩) dX8_isGood_40
theorem dX8_worthOf_0 : decode cX8_worthOf 0 = .ok (.lconst 0, 1) := by decide +kernel
theorem dX8_worthOf_1 : decode cX8_worthOf 1 = .ok (.lstore_n 2, 1) := by decide +kernel
theorem dX8_worthOf_2 : decode cX8_worthOf 2 = .ok (.iconst 0, 1) := by decide +kernel
theorem dX8_worthOf_3 : decode cX8_worthOf 3 = .ok (.istore 4, 2) := by decide +kernel
theorem dX8_worthOf_5 : decode cX8_worthOf 5 = .ok (.iload 4, 2) := by decide +kernel
theorem dX8_worthOf_7 : decode cX8_worthOf 7 = .ok (.aload_n 0, 1) := by decide +kernel
theorem dX8_worthOf_8 : decode cX8_worthOf 8 = .ok (.getfield 50, 3) := by decide +kernel
theorem dX8_worthOf_11 : decode cX8_worthOf 11 = .ok (.if_icmp .ge 30, 3) := by decide +kernel
theorem dX8_worthOf_14 : decode cX8_worthOf 14 = .ok (.iload_n 1, 1) := by decide +kernel
theorem dX8_worthOf_15 : decode cX8_worthOf 15 = .ok (.iload 4, 2) := by decide +kernel
theorem dX8_worthOf_17 : decode cX8_worthOf 17 = .ok (.ishr, 1) := by decide +kernel
theorem dX8_worthOf_18 : decode cX8_worthOf 18 = .ok (.iconst 1, 1) := by decide +kernel
theorem dX8_worthOf_19 : decode cX8_worthOf 19 = .ok (.iand, 1) := by decide +kernel
theorem dX8_worthOf_20 : decode cX8_worthOf 20 = .ok (.iconst 1, 1) := by decide +kernel
theorem dX8_worthOf_21 : decode cX8_worthOf 21 = .ok (.if_icmp .ne 14, 3) := by decide +kernel
theorem dX8_worthOf_24 : decode cX8_worthOf 24 = .ok (.lload_n 2, 1) := by decide +kernel
theorem dX8_worthOf_25 : decode cX8_worthOf 25 = .ok (.aload_n 0, 1) := by decide +kernel
theorem dX8_worthOf_26 : decode cX8_worthOf 26 = .ok (.getfield 71, 3) := by decide +kernel
theorem dX8_worthOf_29 : decode cX8_worthOf 29 = .ok (.iload 4, 2) := by decide +kernel
theorem dX8_worthOf_31 : decode cX8_worthOf 31 = .ok (.iaload, 1) := by decide +kernel
theorem dX8_worthOf_32 : decode cX8_worthOf 32 = .ok (.i2l, 1) := by decide +kernel
theorem dX8_worthOf_33 : decode cX8_worthOf 33 = .ok (.ladd, 1) := by decide +kernel
theorem dX8_worthOf_34 : decode cX8_worthOf 34 = .ok (.lstore_n 2, 1) := by decide +kernel
theorem dX8_worthOf_35 : decode cX8_worthOf 35 = .ok (.iinc 4 1, 3) := by decide +kernel
theorem dX8_worthOf_38 : decode cX8_worthOf 38 = .ok (.goto (-33), 3) := by decide +kernel
theorem dX8_worthOf_41 : decode cX8_worthOf 41 = .ok (.lload_n 2, 1) := by decide +kernel
theorem dX8_worthOf_42 : decode cX8_worthOf 42 = .ok (.lreturn, 1) := by decide +kernel
set_option maxHeartbeats 2000000 in
set_option maxRecDepth 20000 in
theorem k_X8_worthOf (l : Launch) (hfl : l.stackTraces = false) (D : va_G) (aT : Nat → ClassId) (a5 : Nat) (a6 : Nat) (a7 : Nat) (a8 : Nat) (a9 : Nat) (fI : Nat → Int32) (fN : Nat → Int32) (fW : Nat → Int32) (fP : Nat → Int32) (nm : Nat) (nx : Int32) (idn : Nat → Nat) (pr : Nat → Option Nat) (tn : Nat → Nat) (hO : MoC fI fN fP nm idn pr tn) (sx : Int32) : CxG l yX8_worthOf cX8_worthOf 5 (some (.long)) 0 0 0 0 D aT [.ref a5, .int sx] [(a5, .inr (8, [.ref a6, .ref a7, .ref a8, .ref a9, .int (nI nm), .int nx])), (a6, .inl (aT 0, 12, .inl fI)), (a7, .inl (aT 0, 12, .inl fN)), (a8, .inl (aT 0, 12, .inl fW)), (a9, .inl (aT 0, 12, .inl fP))] (qL D aT (fun r W1 => W1 = [(a5, .inr (8, [.ref a6, .ref a7, .ref a8, .ref a9, .int (nI nm), .int nx])), (a6, .inl (aT 0, 12, .inl fI)), (a7, .inl (aT 0, 12, .inl fN)), (a8, .inl (aT 0, 12, .inl fW)), (a9, .inl (aT 0, 12, .inl fP))])) (fun _ _ => False) := by
  refine CxG.of RX8 (by decide +kernel) rfl (Nat.le_of_ble_eq_true rfl) ?_
  intro p e s m below meth c A ls C hml hl hA hr hlocks hex hnm hZ hW
  have hl : lv_has ls 5 [(0, .ref a5), (1, .int sx)] := hl
  have hx := C.1
  have hb := C.2.1
  refine lv_lconst (v := 0) hx hb dX8_worthOf_0 (by decide) ?_
  refine lv_lstore_n (lv' := [(2, .long 0), (0, .ref a5), (1, .int sx)]) hx hb dX8_worthOf_1 rfl hl (by decide) rfl (fun ls hl => ?_)
  refine lv_iconst (v := nI 0) hx hb dX8_worthOf_2 (by decide) ?_
  refine lv_istore (lv' := [(4, .int (nI 0)), (2, .long 0), (0, .ref a5), (1, .int sx)]) hx hb dX8_worthOf_3 hl (by decide) rfl (fun ls hl => ?_)
  refine W_loopH (σ := Nat × Int64) (fun z_ => nm - z_.1) (fun z_ H locs g => ∃ ls, g = F0 m 5 ls [] ∧ lv_has ls 5 [(4, .int (nI z_.1)), (2, .long z_.2), (1, .int sx), (0, .ref a5)] ∧ CxB D [(a5, .inr (8, [.ref a6, .ref a7, .ref a8, .ref a9, .int (nI nm), .int nx])), (a6, .inl (aT 0, 12, .inl fI)), (a7, .inl (aT 0, 12, .inl fN)), (a8, .inl (aT 0, 12, .inl fW)), (a9, .inl (aT 0, 12, .inl fP))] A s.heap H locs ∧ z_.1 ≤ nm) ?_ (0, 0) _ ⟨_, rfl, lv_sub hl [0, 1, 3, 2] rfl, hW, Nat.zero_le _⟩
  clear hW hl
  rintro ⟨i, z⟩ H locs g ⟨ls, rfl, hl, hW, hi⟩ ih_5
  dsimp only at hl hW hi ⊢
  refine lv_iload hx hb dX8_worthOf_5 (lv_at hl 0 rfl) ?_
  refine lv_aload_n hx hb dX8_worthOf_7 rfl (lv_at hl 3 rfl) ?_
  refine cx_getN C hZ hW 0 4 rfl rfl (by decide) inX5 nw_162 rfl rfl dX8_worthOf_8 ?_
  refine r_geN hx hb (a := i) (b := nm) (by have h1 := hO.1; omega) (by have h1 := hO.1; omega) (tgt := 41) dX8_worthOf_11 (by decide) (fun c_11 => ?_) (fun c_11 => ?_)
  · refine lv_lload_n hx hb dX8_worthOf_41 rfl (lv_at hl 1 rfl) ?_
    exact cx_lret C hr hlocks hW ⟨Nat.le_of_ble_eq_true rfl, Nat.le_of_ble_eq_true rfl⟩ (rfl) dX8_worthOf_42
  · refine lv_iload_n hx hb dX8_worthOf_14 rfl (lv_at hl 2 rfl) ?_
    refine lv_iload hx hb dX8_worthOf_15 (lv_at hl 0 rfl) ?_
    refine lv_ishr hx hb dX8_worthOf_17 ?_
    refine lv_iconst (v := nI 1) hx hb dX8_worthOf_18 (by decide) ?_
    refine lv_iand hx hb dX8_worthOf_19 ?_
    refine lv_iconst (v := nI 1) hx hb dX8_worthOf_20 (by decide) ?_
    refine lv_icmp_ne hx hb (x := ((sx >>> ((nI i) &&& 31)) &&& (nI 1))) (y := (nI 1)) (tgt := 35) dX8_worthOf_21 (by decide) (fun c_21 => ?_) (fun c_21 => ?_)
    · refine lv_iinc (v := (nI (i + 1))) (lv' := [(4, .int (nI (i + 1))), (2, .long z), (1, .int sx), (0, .ref a5)]) hx hb dX8_worthOf_35 hl (k := 0) rfl (nI_1 _) (by decide) rfl (fun ls hl => ?_)
      refine lv_goto (tgt := 5) hx hb dX8_worthOf_38 (by decide) ?_
      exact ih_5 ((i + 1), z) _ _ _ (by first | omega | (dsimp only; omega)) ⟨_, rfl, lv_sub hl [0, 1, 2, 3] rfl, hW, (by dsimp only; omega)⟩
    · refine lv_lload_n hx hb dX8_worthOf_24 rfl (lv_at hl 1 rfl) ?_
      refine lv_aload_n hx hb dX8_worthOf_25 rfl (lv_at hl 3 rfl) ?_
      refine cx_getN C hZ hW 0 2 rfl rfl (by decide) inX5 nw_155 rfl rfl dX8_worthOf_26 ?_
      refine lv_iload hx hb dX8_worthOf_29 (lv_at hl 0 rfl) ?_
      refine cx_ald C hW 3 0 (j := i) rfl rfl rfl (by have h1 := hO.1; omega) (by decide) dX8_worthOf_31 ?_
      refine lv_i2l (v := ((fW i)).toInt64) hx hb dX8_worthOf_32 rfl ?_
      refine lv_ladd hx hb dX8_worthOf_33 ?_
      refine lv_lstore_n (lv' := [(2, .long (z + ((fW i)).toInt64)), (4, .int (nI i)), (1, .int sx), (0, .ref a5)]) hx hb dX8_worthOf_34 rfl hl (by decide) rfl (fun ls hl => ?_)
      refine lv_iinc (v := (nI (i + 1))) (lv' := [(4, .int (nI (i + 1))), (2, .long (z + ((fW i)).toInt64)), (1, .int sx), (0, .ref a5)]) hx hb dX8_worthOf_35 hl (k := 1) rfl (nI_1 _) (by decide) rfl (fun ls hl => ?_)
      refine lv_goto (tgt := 5) hx hb dX8_worthOf_38 (by decide) ?_
      exact ih_5 ((i + 1), (z + ((fW i)).toInt64)) _ _ _ (by first | omega | (dsimp only; omega)) ⟨_, rfl, lv_sub hl [0, 1, 2, 3] rfl, hW, (by dsimp only; omega)⟩
theorem dX8_bestBySets_0 : decode cX8_bestBySets 0 = .ok (.lconst 0, 1) := by decide +kernel
theorem dX8_bestBySets_1 : decode cX8_bestBySets 1 = .ok (.lstore_n 2, 1) := by decide +kernel
theorem dX8_bestBySets_2 : decode cX8_bestBySets 2 = .ok (.iconst 1, 1) := by decide +kernel
theorem dX8_bestBySets_3 : decode cX8_bestBySets 3 = .ok (.aload_n 1, 1) := by decide +kernel
theorem dX8_bestBySets_4 : decode cX8_bestBySets 4 = .ok (.getfield 50, 3) := by decide +kernel
theorem dX8_bestBySets_7 : decode cX8_bestBySets 7 = .ok (.ishl, 1) := by decide +kernel
theorem dX8_bestBySets_8 : decode cX8_bestBySets 8 = .ok (.istore 4, 2) := by decide +kernel
theorem dX8_bestBySets_10 : decode cX8_bestBySets 10 = .ok (.iconst 0, 1) := by decide +kernel
theorem dX8_bestBySets_11 : decode cX8_bestBySets 11 = .ok (.istore 5, 2) := by decide +kernel
theorem dX8_bestBySets_13 : decode cX8_bestBySets 13 = .ok (.iload 5, 2) := by decide +kernel
theorem dX8_bestBySets_15 : decode cX8_bestBySets 15 = .ok (.iload 4, 2) := by decide +kernel
theorem dX8_bestBySets_17 : decode cX8_bestBySets 17 = .ok (.if_icmp .ge 29, 3) := by decide +kernel
theorem dX8_bestBySets_20 : decode cX8_bestBySets 20 = .ok (.aload_n 1, 1) := by decide +kernel
theorem dX8_bestBySets_21 : decode cX8_bestBySets 21 = .ok (.iload 5, 2) := by decide +kernel
theorem dX8_bestBySets_23 : decode cX8_bestBySets 23 = .ok (.invokestatic 77, 3) := by decide +kernel
theorem dX8_bestBySets_26 : decode cX8_bestBySets 26 = .ok (.ifCond .eq 14, 3) := by decide +kernel
theorem dX8_bestBySets_29 : decode cX8_bestBySets 29 = .ok (.lload_n 2, 1) := by decide +kernel
theorem dX8_bestBySets_30 : decode cX8_bestBySets 30 = .ok (.aload_n 1, 1) := by decide +kernel
theorem dX8_bestBySets_31 : decode cX8_bestBySets 31 = .ok (.iload 5, 2) := by decide +kernel
theorem dX8_bestBySets_33 : decode cX8_bestBySets 33 = .ok (.invokestatic 81, 3) := by decide +kernel
theorem dX8_bestBySets_36 : decode cX8_bestBySets 36 = .ok (.invokestatic 74, 3) := by decide +kernel
theorem dX8_bestBySets_39 : decode cX8_bestBySets 39 = .ok (.lstore_n 2, 1) := by decide +kernel
theorem dX8_bestBySets_40 : decode cX8_bestBySets 40 = .ok (.iinc 5 1, 3) := by decide +kernel
theorem dX8_bestBySets_43 : decode cX8_bestBySets 43 = .ok (.goto (-30), 3) := by decide +kernel
theorem dX8_bestBySets_46 : decode cX8_bestBySets 46 = .ok (.lload_n 2, 1) := by decide +kernel
theorem dX8_bestBySets_47 : decode cX8_bestBySets 47 = .ok (.lreturn, 1) := by decide +kernel
theorem gS_X8_X8_isGood_77 : GoodIn gw (va_wsS RX8 77 yX8_isGood (Cond.code yX8_isGood cX8_isGood 4 (some .boolean) :: gw)) := gdS2 gw_453 gw_454 gw_72 gw_455
theorem hS_X8_isGood : yX8_isGood.cls ≠ "java/lang/invoke/MethodHandle" ∧ yX8_isGood.cls ≠ "java/lang/invoke/VarHandle" ∧ (parseMethodDescriptor yX8_isGood.desc).map (fun d => d.parameters.length) = some 2 := ⟨by decide +kernel, by decide +kernel, by decide +kernel⟩
theorem gS_X8_X8_worthOf_81 : GoodIn gw (va_wsS RX8 81 yX8_worthOf (Cond.code yX8_worthOf cX8_worthOf 5 (some .long) :: gw)) := gdS2 gw_456 gw_457 gw_72 gw_458
theorem hS_X8_worthOf : yX8_worthOf.cls ≠ "java/lang/invoke/MethodHandle" ∧ yX8_worthOf.cls ≠ "java/lang/invoke/VarHandle" ∧ (parseMethodDescriptor yX8_worthOf.desc).map (fun d => d.parameters.length) = some 2 := ⟨by decide +kernel, by decide +kernel, by decide +kernel⟩
set_option maxHeartbeats 2000000 in
set_option maxRecDepth 20000 in
theorem k_X8_bestBySets (l : Launch) (hfl : l.stackTraces = false) (D : va_G) (aT : Nat → ClassId) (t0 : Nat) (t1 : Nat) (t2 : Nat) (t3 : Nat) (t4 : Nat) (t5 : Nat) (t6 : Nat) (r1 : Nat → Int32) (r2 : Nat → Int32) (r3 : Nat → Int32) (r4 : Nat → Int32) (r5 : Nat → Int64) (r6 : Nat → Int64) (a5 : Nat) (a6 : Nat) (a7 : Nat) (a8 : Nat) (a9 : Nat) (fI : Nat → Int32) (fN : Nat → Int32) (fW : Nat → Int32) (fP : Nat → Int32) (nm : Nat) (nx : Int32) (idn : Nat → Nat) (pr : Nat → Option Nat) (tn : Nat → Nat) (hO : MoC fI fN fP nm idn pr tn) : CxG l yX8_bestBySets cX8_bestBySets 6 (some (.long)) 1 0 0 40 D aT [.ref t0, .ref a5] [(t0, .inr (11, [.ref t1, .ref t2, .ref t3, .ref t4, .ref t5, .ref t6])), (t1, .inl (aT 0, 12, .inl r1)), (t2, .inl (aT 0, 12, .inl r2)), (t3, .inl (aT 0, 12, .inl r3)), (t4, .inl (aT 0, 12, .inl r4)), (t5, .inl (aT 2, 12, .inr (.inl r5))), (t6, .inl (aT 2, 12, .inr (.inl r6))), (a5, .inr (8, [.ref a6, .ref a7, .ref a8, .ref a9, .int (nI nm), .int nx])), (a6, .inl (aT 0, 12, .inl fI)), (a7, .inl (aT 0, 12, .inl fN)), (a8, .inl (aT 0, 12, .inl fW)), (a9, .inl (aT 0, 12, .inl fP))] (qL D aT (fun r W1 => W1 = [(t0, .inr (11, [.ref t1, .ref t2, .ref t3, .ref t4, .ref t5, .ref t6])), (t1, .inl (aT 0, 12, .inl r1)), (t2, .inl (aT 0, 12, .inl r2)), (t3, .inl (aT 0, 12, .inl r3)), (t4, .inl (aT 0, 12, .inl r4)), (t5, .inl (aT 2, 12, .inr (.inl r5))), (t6, .inl (aT 2, 12, .inr (.inl r6))), (a5, .inr (8, [.ref a6, .ref a7, .ref a8, .ref a9, .int (nI nm), .int nx])), (a6, .inl (aT 0, 12, .inl fI)), (a7, .inl (aT 0, 12, .inl fN)), (a8, .inl (aT 0, 12, .inl fW)), (a9, .inl (aT 0, 12, .inl fP))])) (fun _ _ => False) := by
  refine CxG.of RX8 (by decide +kernel) rfl (Nat.le_of_ble_eq_true rfl) ?_
  intro p e s m below meth c A ls C hml hl hA hr hlocks hex hnm hZ hW
  have hl : lv_has ls 6 [(0, .ref t0), (1, .ref a5)] := hl
  have hx := C.1
  have hb := C.2.1
  refine lv_lconst (v := 0) hx hb dX8_bestBySets_0 (by decide) ?_
  refine lv_lstore_n (lv' := [(2, .long 0), (0, .ref t0), (1, .ref a5)]) hx hb dX8_bestBySets_1 rfl hl (by decide) rfl (fun ls hl => ?_)
  refine lv_iconst (v := nI 1) hx hb dX8_bestBySets_2 (by decide) ?_
  refine lv_aload_n hx hb dX8_bestBySets_3 rfl (lv_at hl 2 rfl) ?_
  refine cx_getN C hZ hW 7 4 rfl rfl (by decide) inX5 nw_162 rfl rfl dX8_bestBySets_4 ?_
  refine lv_ishl hx hb dX8_bestBySets_7 ?_
  refine r_eq (y := (nI (2 ^ nm))) (sh_eq nm (by have h1 := hO.1; omega)) ?_
  refine lv_istore (lv' := [(4, .int (nI (2 ^ nm))), (2, .long 0), (0, .ref t0), (1, .ref a5)]) hx hb dX8_bestBySets_8 hl (by decide) rfl (fun ls hl => ?_)
  refine lv_iconst (v := nI 0) hx hb dX8_bestBySets_10 (by decide) ?_
  refine lv_istore (lv' := [(5, .int (nI 0)), (4, .int (nI (2 ^ nm))), (2, .long 0), (0, .ref t0), (1, .ref a5)]) hx hb dX8_bestBySets_11 hl (by decide) rfl (fun ls hl => ?_)
  refine W_loopH (σ := Nat × Int64) (fun z_ => 2 ^ nm - z_.1) (fun z_ H locs g => ∃ ls, g = F0 m 13 ls [] ∧ lv_has ls 6 [(5, .int (nI z_.1)), (4, .int (nI (2 ^ nm))), (2, .long z_.2), (1, .ref a5), (0, .ref t0)] ∧ CxB D [(t0, .inr (11, [.ref t1, .ref t2, .ref t3, .ref t4, .ref t5, .ref t6])), (t1, .inl (aT 0, 12, .inl r1)), (t2, .inl (aT 0, 12, .inl r2)), (t3, .inl (aT 0, 12, .inl r3)), (t4, .inl (aT 0, 12, .inl r4)), (t5, .inl (aT 2, 12, .inr (.inl r5))), (t6, .inl (aT 2, 12, .inr (.inl r6))), (a5, .inr (8, [.ref a6, .ref a7, .ref a8, .ref a9, .int (nI nm), .int nx])), (a6, .inl (aT 0, 12, .inl fI)), (a7, .inl (aT 0, 12, .inl fN)), (a8, .inl (aT 0, 12, .inl fW)), (a9, .inl (aT 0, 12, .inl fP))] A s.heap H locs ∧ z_.1 ≤ 2 ^ nm) ?_ (0, 0) _ ⟨_, rfl, lv_sub hl [0, 1, 2, 4, 3] rfl, hW, Nat.zero_le _⟩
  clear hW hl
  rintro ⟨i, z⟩ H locs g ⟨ls, rfl, hl, hW, hi⟩ ih_13
  dsimp only at hl hW hi ⊢
  refine lv_iload hx hb dX8_bestBySets_13 (lv_at hl 0 rfl) ?_
  refine lv_iload hx hb dX8_bestBySets_15 (lv_at hl 1 rfl) ?_
  refine r_geN hx hb (a := i) (b := 2 ^ nm) (by have h1 := hO.1; have := two_le hO.1; omega) (by have h1 := hO.1; have := two_le hO.1; omega) (tgt := 46) dX8_bestBySets_17 (by decide) (fun c_17 => ?_) (fun c_17 => ?_)
  · refine lv_lload_n hx hb dX8_bestBySets_46 rfl (lv_at hl 2 rfl) ?_
    exact cx_lret C hr hlocks hW ⟨Nat.le_of_ble_eq_true rfl, Nat.le_of_ble_eq_true rfl⟩ (rfl) dX8_bestBySets_47
  · refine lv_aload_n hx hb dX8_bestBySets_20 rfl (lv_at hl 3 rfl) ?_
    refine lv_iload hx hb dX8_bestBySets_21 (lv_at hl 0 rfl) ?_
    refine cx_calli (Wr := [(t0, .inr (11, [.ref t1, .ref t2, .ref t3, .ref t4, .ref t5, .ref t6])), (t1, .inl (aT 0, 12, .inl r1)), (t2, .inl (aT 0, 12, .inl r2)), (t3, .inl (aT 0, 12, .inl r3)), (t4, .inl (aT 0, 12, .inl r4)), (t5, .inl (aT 2, 12, .inr (.inl r5))), (t6, .inl (aT 2, 12, .inr (.inl r6)))]) (cx_runS C hml hl.1 hZ hW hA (As := [.ref a5, .int (nI i)]) (rest := []) (k_X8_isGood l hfl D aT a5 a6 a7 a8 a9 fI fN fW fP nm nx idn pr tn hO (nI i)) gS_X8_X8_isGood_77 hS_X8_isGood rfl ⟨Nat.le_of_ble_eq_true rfl, Nat.le_of_ble_eq_true rfl⟩ ⟨Nat.le_of_ble_eq_true rfl, Nat.le_of_ble_eq_true rfl⟩ [7, 8, 9, 10, 11] rfl (by decide) rfl (Nat.le_of_ble_eq_true rfl) dX8_bestBySets_23) hW hA [7, 8, 9, 10, 11] [0, 1, 2, 3, 4, 5, 6] rfl rfl (by decide) (by decide) (fun _ _ _ _ _ _ h9 => h9.elim) (fun r_23 W_23 H locs hq hW => ?_)
    obtain ⟨⟨b_23, rfl⟩, rfl⟩ := hq
    have hW : CxB D [(t0, .inr (11, [.ref t1, .ref t2, .ref t3, .ref t4, .ref t5, .ref t6])), (t1, .inl (aT 0, 12, .inl r1)), (t2, .inl (aT 0, 12, .inl r2)), (t3, .inl (aT 0, 12, .inl r3)), (t4, .inl (aT 0, 12, .inl r4)), (t5, .inl (aT 2, 12, .inr (.inl r5))), (t6, .inl (aT 2, 12, .inr (.inl r6))), (a5, .inr (8, [.ref a6, .ref a7, .ref a8, .ref a9, .int (nI nm), .int nx])), (a6, .inl (aT 0, 12, .inl fI)), (a7, .inl (aT 0, 12, .inl fN)), (a8, .inl (aT 0, 12, .inl fW)), (a9, .inl (aT 0, 12, .inl fP))] A s.heap H _ := hW
    refine r_bI_eq hx hb (b := b_23) (tgt := 40) dX8_bestBySets_26 (by decide) (fun c_26 => ?_) (fun c_26 => ?_)
    · refine lv_iinc (v := (nI (i + 1))) (lv' := [(5, .int (nI (i + 1))), (4, .int (nI (2 ^ nm))), (2, .long z), (1, .ref a5), (0, .ref t0)]) hx hb dX8_bestBySets_40 hl (k := 0) rfl (nI_1 _) (by decide) rfl (fun ls hl => ?_)
      refine lv_goto (tgt := 13) hx hb dX8_bestBySets_43 (by decide) ?_
      exact ih_13 ((i + 1), z) _ _ _ (by first | omega | (dsimp only; omega)) ⟨_, rfl, lv_sub hl [0, 1, 2, 3, 4] rfl, hW, (by dsimp only; omega)⟩
    · refine lv_lload_n hx hb dX8_bestBySets_29 rfl (lv_at hl 2 rfl) ?_
      refine lv_aload_n hx hb dX8_bestBySets_30 rfl (lv_at hl 3 rfl) ?_
      refine lv_iload hx hb dX8_bestBySets_31 (lv_at hl 0 rfl) ?_
      refine cx_calll (Wr := [(t0, .inr (11, [.ref t1, .ref t2, .ref t3, .ref t4, .ref t5, .ref t6])), (t1, .inl (aT 0, 12, .inl r1)), (t2, .inl (aT 0, 12, .inl r2)), (t3, .inl (aT 0, 12, .inl r3)), (t4, .inl (aT 0, 12, .inl r4)), (t5, .inl (aT 2, 12, .inr (.inl r5))), (t6, .inl (aT 2, 12, .inr (.inl r6)))]) (cx_runS C hml hl.1 hZ hW hA (As := [.ref a5, .int (nI i)]) (rest := [.long z]) (k_X8_worthOf l hfl D aT a5 a6 a7 a8 a9 fI fN fW fP nm nx idn pr tn hO (nI i)) gS_X8_X8_worthOf_81 hS_X8_worthOf rfl ⟨Nat.le_of_ble_eq_true rfl, Nat.le_of_ble_eq_true rfl⟩ ⟨Nat.le_of_ble_eq_true rfl, Nat.le_of_ble_eq_true rfl⟩ [7, 8, 9, 10, 11] rfl (by decide) rfl (Nat.le_of_ble_eq_true rfl) dX8_bestBySets_33) hW hA [7, 8, 9, 10, 11] [0, 1, 2, 3, 4, 5, 6] rfl rfl (by decide) (by decide) (fun _ _ _ _ _ _ h9 => h9.elim) (fun r_33 W_33 H locs hq hW => ?_)
      obtain rfl := hq
      have hW : CxB D [(t0, .inr (11, [.ref t1, .ref t2, .ref t3, .ref t4, .ref t5, .ref t6])), (t1, .inl (aT 0, 12, .inl r1)), (t2, .inl (aT 0, 12, .inl r2)), (t3, .inl (aT 0, 12, .inl r3)), (t4, .inl (aT 0, 12, .inl r4)), (t5, .inl (aT 2, 12, .inr (.inl r5))), (t6, .inl (aT 2, 12, .inr (.inl r6))), (a5, .inr (8, [.ref a6, .ref a7, .ref a8, .ref a9, .int (nI nm), .int nx])), (a6, .inl (aT 0, 12, .inl fI)), (a7, .inl (aT 0, 12, .inl fN)), (a8, .inl (aT 0, 12, .inl fW)), (a9, .inl (aT 0, 12, .inl fP))] A s.heap H _ := hW
      refine va_mmax_long hx hb (hml.trans hl.1.symm) C.2.2.2.1 (C.2.2.1 _ gw_442) (C.2.2.1 _ gw_443) (C.2.2.1 _ gw_89) (C.2.2.1 _ gm_maxl) (Nat.le_of_ble_eq_true rfl) (Nat.le_of_ble_eq_true rfl) (Nat.le_of_ble_eq_true rfl) (Nat.le_of_ble_eq_true rfl) dX8_bestBySets_36 ?_
      refine lv_lstore_n (lv' := [(2, .long (if r_33 < z then z else r_33)), (5, .int (nI i)), (4, .int (nI (2 ^ nm))), (1, .ref a5), (0, .ref t0)]) hx hb dX8_bestBySets_39 rfl hl (by decide) rfl (fun ls hl => ?_)
      refine lv_iinc (v := (nI (i + 1))) (lv' := [(5, .int (nI (i + 1))), (2, .long (if r_33 < z then z else r_33)), (4, .int (nI (2 ^ nm))), (1, .ref a5), (0, .ref t0)]) hx hb dX8_bestBySets_40 hl (k := 1) rfl (nI_1 _) (by decide) rfl (fun ls hl => ?_)
      refine lv_goto (tgt := 13) hx hb dX8_bestBySets_43 (by decide) ?_
      exact ih_13 ((i + 1), (if r_33 < z then z else r_33)) _ _ _ (by first | omega | (dsimp only; omega)) ⟨_, rfl, lv_sub hl [0, 2, 1, 3, 4] rfl, hW, (by dsimp only; omega)⟩
theorem dX8_agreeOnPaths_0 : decode cX8_agreeOnPaths 0 = .ok (.iconst 0, 1) := by decide +kernel
theorem dX8_agreeOnPaths_1 : decode cX8_agreeOnPaths 1 = .ok (.istore_n 2, 1) := by decide +kernel
theorem dX8_agreeOnPaths_2 : decode cX8_agreeOnPaths 2 = .ok (.iload_n 2, 1) := by decide +kernel
theorem dX8_agreeOnPaths_3 : decode cX8_agreeOnPaths 3 = .ok (.aload_n 1, 1) := by decide +kernel
theorem dX8_agreeOnPaths_4 : decode cX8_agreeOnPaths 4 = .ok (.getfield 50, 3) := by decide +kernel
theorem dX8_agreeOnPaths_7 : decode cX8_agreeOnPaths 7 = .ok (.if_icmp .ge 26, 3) := by decide +kernel
theorem dX8_agreeOnPaths_10 : decode cX8_agreeOnPaths 10 = .ok (.aload_n 0, 1) := by decide +kernel
theorem dX8_agreeOnPaths_11 : decode cX8_agreeOnPaths 11 = .ok (.aload_n 1, 1) := by decide +kernel
theorem dX8_agreeOnPaths_12 : decode cX8_agreeOnPaths 12 = .ok (.iload_n 2, 1) := by decide +kernel
theorem dX8_agreeOnPaths_13 : decode cX8_agreeOnPaths 13 = .ok (.invokevirtual 85, 3) := by decide +kernel
theorem dX8_agreeOnPaths_16 : decode cX8_agreeOnPaths 16 = .ok (.aload_n 0, 1) := by decide +kernel
theorem dX8_agreeOnPaths_17 : decode cX8_agreeOnPaths 17 = .ok (.aload_n 1, 1) := by decide +kernel
theorem dX8_agreeOnPaths_18 : decode cX8_agreeOnPaths 18 = .ok (.iload_n 2, 1) := by decide +kernel
theorem dX8_agreeOnPaths_19 : decode cX8_agreeOnPaths 19 = .ok (.invokevirtual 89, 3) := by decide +kernel
theorem dX8_agreeOnPaths_22 : decode cX8_agreeOnPaths 22 = .ok (.if_icmp .eq 5, 3) := by decide +kernel
theorem dX8_agreeOnPaths_25 : decode cX8_agreeOnPaths 25 = .ok (.iconst 0, 1) := by decide +kernel
theorem dX8_agreeOnPaths_26 : decode cX8_agreeOnPaths 26 = .ok (.ireturn, 1) := by decide +kernel
theorem dX8_agreeOnPaths_27 : decode cX8_agreeOnPaths 27 = .ok (.iinc 2 1, 3) := by decide +kernel
theorem dX8_agreeOnPaths_30 : decode cX8_agreeOnPaths 30 = .ok (.goto (-28), 3) := by decide +kernel
theorem dX8_agreeOnPaths_33 : decode cX8_agreeOnPaths 33 = .ok (.iconst 1, 1) := by decide +kernel
theorem dX8_agreeOnPaths_34 : decode cX8_agreeOnPaths 34 = .ok (.ireturn, 1) := by decide +kernel
theorem gV_X8_X8_longestByHeights_85 : GoodIn gw (wsV RX8 85 RX8 yX8_longestByHeights (Cond.code yX8_longestByHeights cX8_longestByHeights 7 (some .int) :: gw)) := gdV gw_499 gw_500 gw_501 gw_72 gw_502
theorem hV_X8_longestByHeights : yX8_longestByHeights.cls = RX8 ∧ yX8_longestByHeights.cls ≠ "java/lang/invoke/MethodHandle" ∧ yX8_longestByHeights.cls ≠ "java/lang/invoke/VarHandle" ∧ (parseMethodDescriptor yX8_longestByHeights.desc).map (fun d => d.parameters.length) = some 2 := ⟨rfl, by decide +kernel, by decide +kernel, by decide +kernel⟩
theorem gV_X8_X8_longestBySweeps_89 : GoodIn gw (wsV RX8 89 RX8 yX8_longestBySweeps (Cond.code yX8_longestBySweeps cX8_longestBySweeps 5 (some .int) :: gw)) := gdV gw_511 gw_512 gw_513 gw_72 gw_514
theorem hV_X8_longestBySweeps : yX8_longestBySweeps.cls = RX8 ∧ yX8_longestBySweeps.cls ≠ "java/lang/invoke/MethodHandle" ∧ yX8_longestBySweeps.cls ≠ "java/lang/invoke/VarHandle" ∧ (parseMethodDescriptor yX8_longestBySweeps.desc).map (fun d => d.parameters.length) = some 2 := ⟨rfl, by decide +kernel, by decide +kernel, by decide +kernel⟩
set_option maxHeartbeats 2000000 in
set_option maxRecDepth 20000 in
theorem k_X8_agreeOnPaths (l : Launch) (hfl : l.stackTraces = false) (D : va_G) (aT : Nat → ClassId) (t0 : Nat) (t1 : Nat) (t2 : Nat) (t3 : Nat) (t4 : Nat) (t5 : Nat) (t6 : Nat) (r1 : Nat → Int32) (r2 : Nat → Int32) (r3 : Nat → Int32) (r4 : Nat → Int32) (r5 : Nat → Int64) (r6 : Nat → Int64) (a5 : Nat) (a6 : Nat) (a7 : Nat) (a8 : Nat) (a9 : Nat) (fI : Nat → Int32) (fN : Nat → Int32) (fW : Nat → Int32) (fP : Nat → Int32) (nm : Nat) (nx : Int32) (idn : Nat → Nat) (pr : Nat → Option Nat) (tn : Nat → Nat) (hO : MoC fI fN fP nm idn pr tn) : CxG l yX8_agreeOnPaths cX8_agreeOnPaths 3 (some (.boolean)) 3 0 0 74 D aT [.ref t0, .ref a5] [(t0, .inr (11, [.ref t1, .ref t2, .ref t3, .ref t4, .ref t5, .ref t6])), (t1, .inl (aT 0, 12, .inl r1)), (t2, .inl (aT 0, 12, .inl r2)), (t3, .inl (aT 0, 12, .inl r3)), (t4, .inl (aT 0, 12, .inl r4)), (t5, .inl (aT 2, 12, .inr (.inl r5))), (t6, .inl (aT 2, 12, .inr (.inl r6))), (a5, .inr (8, [.ref a6, .ref a7, .ref a8, .ref a9, .int (nI nm), .int nx])), (a6, .inl (aT 0, 12, .inl fI)), (a7, .inl (aT 0, 12, .inl fN)), (a8, .inl (aT 0, 12, .inl fW)), (a9, .inl (aT 0, 12, .inl fP))] (qI D aT (fun r W1 => (∃ b : Bool, r = bI b) ∧ ∃ g3 g4 : Nat → Int32, W1 = [(t0, .inr (11, [.ref t1, .ref t2, .ref t3, .ref t4, .ref t5, .ref t6])), (t1, .inl (aT 0, 12, .inl r1)), (t2, .inl (aT 0, 12, .inl r2)), (t3, .inl (aT 0, 12, .inl g3)), (t4, .inl (aT 0, 12, .inl g4)), (t5, .inl (aT 2, 12, .inr (.inl r5))), (t6, .inl (aT 2, 12, .inr (.inl r6))), (a5, .inr (8, [.ref a6, .ref a7, .ref a8, .ref a9, .int (nI nm), .int nx])), (a6, .inl (aT 0, 12, .inl fI)), (a7, .inl (aT 0, 12, .inl fN)), (a8, .inl (aT 0, 12, .inl fW)), (a9, .inl (aT 0, 12, .inl fP))])) (fun _ _ => False) := by
  refine CxG.of RX8 (by decide +kernel) rfl (Nat.le_of_ble_eq_true rfl) ?_
  intro p e s m below meth c A ls C hml hl hA hr hlocks hex hnm hZ hW
  have hl : lv_has ls 3 [(0, .ref t0), (1, .ref a5)] := hl
  have hx := C.1
  have hb := C.2.1
  refine lv_iconst (v := nI 0) hx hb dX8_agreeOnPaths_0 (by decide) ?_
  refine lv_istore_n (lv' := [(2, .int (nI 0)), (0, .ref t0), (1, .ref a5)]) hx hb dX8_agreeOnPaths_1 rfl hl (by decide) rfl (fun ls hl => ?_)
  refine W_loopH (σ := Nat × (Nat → Int32) × (Nat → Int32)) (fun z_ => nm - z_.1) (fun z_ H locs g => ∃ ls, g = F0 m 2 ls [] ∧ lv_has ls 3 [(2, .int (nI z_.1)), (1, .ref a5), (0, .ref t0)] ∧ CxB D [(t0, .inr (11, [.ref t1, .ref t2, .ref t3, .ref t4, .ref t5, .ref t6])), (t1, .inl (aT 0, 12, .inl r1)), (t2, .inl (aT 0, 12, .inl r2)), (t3, .inl (aT 0, 12, .inl z_.2.1)), (t4, .inl (aT 0, 12, .inl z_.2.2)), (t5, .inl (aT 2, 12, .inr (.inl r5))), (t6, .inl (aT 2, 12, .inr (.inl r6))), (a5, .inr (8, [.ref a6, .ref a7, .ref a8, .ref a9, .int (nI nm), .int nx])), (a6, .inl (aT 0, 12, .inl fI)), (a7, .inl (aT 0, 12, .inl fN)), (a8, .inl (aT 0, 12, .inl fW)), (a9, .inl (aT 0, 12, .inl fP))] A s.heap H locs ∧ z_.1 ≤ nm) ?_ (0, r3, r4) _ ⟨_, rfl, lv_sub hl [0, 2, 1] rfl, hW, Nat.zero_le _⟩
  clear hW hl
  rintro ⟨i, f, q⟩ H locs g ⟨ls, rfl, hl, hW, hi⟩ ih_2
  dsimp only at hl hW hi ⊢
  refine lv_iload_n hx hb dX8_agreeOnPaths_2 rfl (lv_at hl 0 rfl) ?_
  refine lv_aload_n hx hb dX8_agreeOnPaths_3 rfl (lv_at hl 1 rfl) ?_
  refine cx_getN C hZ hW 7 4 rfl rfl (by decide) inX5 nw_162 rfl rfl dX8_agreeOnPaths_4 ?_
  refine r_geN hx hb (a := i) (b := nm) (by have h1 := hO.1; omega) (by have h1 := hO.1; omega) (tgt := 33) dX8_agreeOnPaths_7 (by decide) (fun c_7 => ?_) (fun c_7 => ?_)
  · refine lv_iconst (v := nI 1) hx hb dX8_agreeOnPaths_33 (by decide) ?_
    exact cx_iret C hr hlocks (by decide) hW ⟨Nat.le_of_ble_eq_true rfl, Nat.le_of_ble_eq_true rfl⟩ (⟨⟨true, rfl⟩, _, _, rfl⟩) dX8_agreeOnPaths_34
  · refine lv_aload_n hx hb dX8_agreeOnPaths_10 rfl (lv_at hl 2 rfl) ?_
    refine lv_aload_n hx hb dX8_agreeOnPaths_11 rfl (lv_at hl 1 rfl) ?_
    refine lv_iload_n hx hb dX8_agreeOnPaths_12 rfl (lv_at hl 0 rfl) ?_
    refine cx_calli (Wr := []) (cx_runV C hml hl.1 hZ hW hA (As := [.ref a5, .int (nI i)]) (rest := []) (k_X8_longestByHeights l hfl D aT t0 t1 t2 t3 t4 t5 t6 r1 r2 f q r5 r6 a5 a6 a7 a8 a9 fI fN fW fP nm nx idn pr tn hO i (show i < nm by omega)) gV_X8_X8_longestByHeights_85 hV_X8_longestByHeights rfl ⟨Nat.le_of_ble_eq_true rfl, Nat.le_of_ble_eq_true rfl⟩ ⟨Nat.le_of_ble_eq_true rfl, Nat.le_of_ble_eq_true rfl⟩ [0, 1, 2, 3, 4, 5, 6, 7, 8, 9, 10, 11] rfl (by decide) 0 11 rfl rfl rfl rfl (Nat.le_of_ble_eq_true rfl) dX8_agreeOnPaths_13) hW hA [0, 1, 2, 3, 4, 5, 6, 7, 8, 9, 10, 11] [] rfl rfl (by decide) (by decide) (fun _ _ _ _ _ _ h9 => h9.elim) (fun r_13 W_13 H locs hq hW => ?_)
    obtain ⟨q3_13, rfl⟩ := hq
    have hW : CxB D [(t0, .inr (11, [.ref t1, .ref t2, .ref t3, .ref t4, .ref t5, .ref t6])), (t1, .inl (aT 0, 12, .inl r1)), (t2, .inl (aT 0, 12, .inl r2)), (t3, .inl (aT 0, 12, .inl q3_13)), (t4, .inl (aT 0, 12, .inl q)), (t5, .inl (aT 2, 12, .inr (.inl r5))), (t6, .inl (aT 2, 12, .inr (.inl r6))), (a5, .inr (8, [.ref a6, .ref a7, .ref a8, .ref a9, .int (nI nm), .int nx])), (a6, .inl (aT 0, 12, .inl fI)), (a7, .inl (aT 0, 12, .inl fN)), (a8, .inl (aT 0, 12, .inl fW)), (a9, .inl (aT 0, 12, .inl fP))] A s.heap H _ := hW
    refine lv_aload_n hx hb dX8_agreeOnPaths_16 rfl (lv_at hl 2 rfl) ?_
    refine lv_aload_n hx hb dX8_agreeOnPaths_17 rfl (lv_at hl 1 rfl) ?_
    refine lv_iload_n hx hb dX8_agreeOnPaths_18 rfl (lv_at hl 0 rfl) ?_
    refine cx_calli (Wr := []) (cx_runV C hml hl.1 hZ hW hA (As := [.ref a5, .int (nI i)]) (rest := [.int r_13]) (k_X8_longestBySweeps l hfl D aT t0 t1 t2 t3 t4 t5 t6 r1 r2 q3_13 q r5 r6 a5 a6 a7 a8 a9 fI fN fW fP nm nx idn pr tn hO i (show i < nm by omega)) gV_X8_X8_longestBySweeps_89 hV_X8_longestBySweeps rfl ⟨Nat.le_of_ble_eq_true rfl, Nat.le_of_ble_eq_true rfl⟩ ⟨Nat.le_of_ble_eq_true rfl, Nat.le_of_ble_eq_true rfl⟩ [0, 1, 2, 3, 4, 5, 6, 7, 8, 9, 10, 11] rfl (by decide) 0 11 rfl rfl rfl rfl (Nat.le_of_ble_eq_true rfl) dX8_agreeOnPaths_19) hW hA [0, 1, 2, 3, 4, 5, 6, 7, 8, 9, 10, 11] [] rfl rfl (by decide) (by decide) (fun _ _ _ _ _ _ h9 => h9.elim) (fun r_19 W_19 H locs hq hW => ?_)
    obtain ⟨q4_19, rfl⟩ := hq
    have hW : CxB D [(t0, .inr (11, [.ref t1, .ref t2, .ref t3, .ref t4, .ref t5, .ref t6])), (t1, .inl (aT 0, 12, .inl r1)), (t2, .inl (aT 0, 12, .inl r2)), (t3, .inl (aT 0, 12, .inl q3_13)), (t4, .inl (aT 0, 12, .inl q4_19)), (t5, .inl (aT 2, 12, .inr (.inl r5))), (t6, .inl (aT 2, 12, .inr (.inl r6))), (a5, .inr (8, [.ref a6, .ref a7, .ref a8, .ref a9, .int (nI nm), .int nx])), (a6, .inl (aT 0, 12, .inl fI)), (a7, .inl (aT 0, 12, .inl fN)), (a8, .inl (aT 0, 12, .inl fW)), (a9, .inl (aT 0, 12, .inl fP))] A s.heap H _ := hW
    refine lv_icmp_eq hx hb (x := r_13) (y := r_19) (tgt := 27) dX8_agreeOnPaths_22 (by decide) (fun c_22 => ?_) (fun c_22 => ?_)
    · refine lv_iinc (v := (nI (i + 1))) (lv' := [(2, .int (nI (i + 1))), (1, .ref a5), (0, .ref t0)]) hx hb dX8_agreeOnPaths_27 hl (k := 0) rfl (nI_1 _) (by decide) rfl (fun ls hl => ?_)
      refine lv_goto (tgt := 2) hx hb dX8_agreeOnPaths_30 (by decide) ?_
      exact ih_2 ((i + 1), q3_13, q4_19) _ _ _ (by first | omega | (dsimp only; omega)) ⟨_, rfl, lv_sub hl [0, 1, 2] rfl, hW, (by dsimp only; omega)⟩
    · refine lv_iconst (v := nI 0) hx hb dX8_agreeOnPaths_25 (by decide) ?_
      exact cx_iret C hr hlocks (by decide) hW ⟨Nat.le_of_ble_eq_true rfl, Nat.le_of_ble_eq_true rfl⟩ (⟨⟨false, rfl⟩, _, _, rfl⟩) dX8_agreeOnPaths_26
theorem dX8_agreeOnCommonMotions_0 : decode cX8_agreeOnCommonMotions 0 = .ok (.iconst 0, 1) := by decide +kernel
theorem dX8_agreeOnCommonMotions_1 : decode cX8_agreeOnCommonMotions 1 = .ok (.istore_n 2, 1) := by decide +kernel
theorem dX8_agreeOnCommonMotions_2 : decode cX8_agreeOnCommonMotions 2 = .ok (.iload_n 2, 1) := by decide +kernel
theorem dX8_agreeOnCommonMotions_3 : decode cX8_agreeOnCommonMotions 3 = .ok (.aload_n 1, 1) := by decide +kernel
theorem dX8_agreeOnCommonMotions_4 : decode cX8_agreeOnCommonMotions 4 = .ok (.getfield 50, 3) := by decide +kernel
theorem dX8_agreeOnCommonMotions_7 : decode cX8_agreeOnCommonMotions 7 = .ok (.if_icmp .ge 44, 3) := by decide +kernel
theorem dX8_agreeOnCommonMotions_10 : decode cX8_agreeOnCommonMotions 10 = .ok (.iconst 0, 1) := by decide +kernel
theorem dX8_agreeOnCommonMotions_11 : decode cX8_agreeOnCommonMotions 11 = .ok (.istore_n 3, 1) := by decide +kernel
theorem dX8_agreeOnCommonMotions_12 : decode cX8_agreeOnCommonMotions 12 = .ok (.iload_n 3, 1) := by decide +kernel
theorem dX8_agreeOnCommonMotions_13 : decode cX8_agreeOnCommonMotions 13 = .ok (.aload_n 1, 1) := by decide +kernel
theorem dX8_agreeOnCommonMotions_14 : decode cX8_agreeOnCommonMotions 14 = .ok (.getfield 50, 3) := by decide +kernel
theorem dX8_agreeOnCommonMotions_17 : decode cX8_agreeOnCommonMotions 17 = .ok (.if_icmp .ge 28, 3) := by decide +kernel
theorem dX8_agreeOnCommonMotions_20 : decode cX8_agreeOnCommonMotions 20 = .ok (.aload_n 0, 1) := by decide +kernel
theorem dX8_agreeOnCommonMotions_21 : decode cX8_agreeOnCommonMotions 21 = .ok (.aload_n 1, 1) := by decide +kernel
theorem dX8_agreeOnCommonMotions_22 : decode cX8_agreeOnCommonMotions 22 = .ok (.iload_n 2, 1) := by decide +kernel
theorem dX8_agreeOnCommonMotions_23 : decode cX8_agreeOnCommonMotions 23 = .ok (.iload_n 3, 1) := by decide +kernel
theorem dX8_agreeOnCommonMotions_24 : decode cX8_agreeOnCommonMotions 24 = .ok (.invokevirtual 92, 3) := by decide +kernel
theorem dX8_agreeOnCommonMotions_27 : decode cX8_agreeOnCommonMotions 27 = .ok (.aload_n 0, 1) := by decide +kernel
theorem dX8_agreeOnCommonMotions_28 : decode cX8_agreeOnCommonMotions 28 = .ok (.aload_n 1, 1) := by decide +kernel
theorem dX8_agreeOnCommonMotions_29 : decode cX8_agreeOnCommonMotions 29 = .ok (.iload_n 2, 1) := by decide +kernel
theorem dX8_agreeOnCommonMotions_30 : decode cX8_agreeOnCommonMotions 30 = .ok (.iload_n 3, 1) := by decide +kernel
theorem dX8_agreeOnCommonMotions_31 : decode cX8_agreeOnCommonMotions 31 = .ok (.invokevirtual 95, 3) := by decide +kernel
theorem dX8_agreeOnCommonMotions_34 : decode cX8_agreeOnCommonMotions 34 = .ok (.if_icmp .eq 5, 3) := by decide +kernel
theorem dX8_agreeOnCommonMotions_37 : decode cX8_agreeOnCommonMotions 37 = .ok (.iconst 0, 1) := by decide +kernel
theorem dX8_agreeOnCommonMotions_38 : decode cX8_agreeOnCommonMotions 38 = .ok (.ireturn, 1) := by decide +kernel
theorem dX8_agreeOnCommonMotions_39 : decode cX8_agreeOnCommonMotions 39 = .ok (.iinc 3 1, 3) := by decide +kernel
theorem dX8_agreeOnCommonMotions_42 : decode cX8_agreeOnCommonMotions 42 = .ok (.goto (-30), 3) := by decide +kernel
theorem dX8_agreeOnCommonMotions_45 : decode cX8_agreeOnCommonMotions 45 = .ok (.iinc 2 1, 3) := by decide +kernel
theorem dX8_agreeOnCommonMotions_48 : decode cX8_agreeOnCommonMotions 48 = .ok (.goto (-46), 3) := by decide +kernel
theorem dX8_agreeOnCommonMotions_51 : decode cX8_agreeOnCommonMotions 51 = .ok (.iconst 1, 1) := by decide +kernel
theorem dX8_agreeOnCommonMotions_52 : decode cX8_agreeOnCommonMotions 52 = .ok (.ireturn, 1) := by decide +kernel
theorem gV_X8_X8_commonByClimbing_92 : GoodIn gw (wsV RX8 92 RX8 yX8_commonByClimbing (Cond.code yX8_commonByClimbing cX8_commonByClimbing 9 (some .int) :: gw)) := gdV gw_523 gw_524 gw_525 gw_72 gw_526
theorem hV_X8_commonByClimbing : yX8_commonByClimbing.cls = RX8 ∧ yX8_commonByClimbing.cls ≠ "java/lang/invoke/MethodHandle" ∧ yX8_commonByClimbing.cls ≠ "java/lang/invoke/VarHandle" ∧ (parseMethodDescriptor yX8_commonByClimbing.desc).map (fun d => d.parameters.length) = some 3 := ⟨rfl, by decide +kernel, by decide +kernel, by decide +kernel⟩
theorem gV_X8_X8_commonByRows_95 : GoodIn gw (wsV RX8 95 RX8 yX8_commonByRows (Cond.code yX8_commonByRows cX8_commonByRows 8 (some .int) :: gw)) := gdV gw_531 gw_532 gw_533 gw_72 gw_534
theorem hV_X8_commonByRows : yX8_commonByRows.cls = RX8 ∧ yX8_commonByRows.cls ≠ "java/lang/invoke/MethodHandle" ∧ yX8_commonByRows.cls ≠ "java/lang/invoke/VarHandle" ∧ (parseMethodDescriptor yX8_commonByRows.desc).map (fun d => d.parameters.length) = some 3 := ⟨rfl, by decide +kernel, by decide +kernel, by decide +kernel⟩
set_option maxHeartbeats 2000000 in
set_option maxRecDepth 20000 in
theorem k_X8_agreeOnCommonMotions (l : Launch) (hfl : l.stackTraces = false) (D : va_G) (aT : Nat → ClassId) (t0 : Nat) (t1 : Nat) (t2 : Nat) (t3 : Nat) (t4 : Nat) (t5 : Nat) (t6 : Nat) (r1 : Nat → Int32) (r2 : Nat → Int32) (r3 : Nat → Int32) (r4 : Nat → Int32) (r5 : Nat → Int64) (r6 : Nat → Int64) (a5 : Nat) (a6 : Nat) (a7 : Nat) (a8 : Nat) (a9 : Nat) (fI : Nat → Int32) (fN : Nat → Int32) (fW : Nat → Int32) (fP : Nat → Int32) (nm : Nat) (nx : Int32) (idn : Nat → Nat) (pr : Nat → Option Nat) (tn : Nat → Nat) (hO : MoC fI fN fP nm idn pr tn) : CxG l yX8_agreeOnCommonMotions cX8_agreeOnCommonMotions 4 (some (.boolean)) 3 0 0 75 D aT [.ref t0, .ref a5] [(t0, .inr (11, [.ref t1, .ref t2, .ref t3, .ref t4, .ref t5, .ref t6])), (t1, .inl (aT 0, 12, .inl r1)), (t2, .inl (aT 0, 12, .inl r2)), (t3, .inl (aT 0, 12, .inl r3)), (t4, .inl (aT 0, 12, .inl r4)), (t5, .inl (aT 2, 12, .inr (.inl r5))), (t6, .inl (aT 2, 12, .inr (.inl r6))), (a5, .inr (8, [.ref a6, .ref a7, .ref a8, .ref a9, .int (nI nm), .int nx])), (a6, .inl (aT 0, 12, .inl fI)), (a7, .inl (aT 0, 12, .inl fN)), (a8, .inl (aT 0, 12, .inl fW)), (a9, .inl (aT 0, 12, .inl fP))] (qI D aT (fun r W1 => (∃ b : Bool, r = bI b) ∧ ∃ g1 g2 : Nat → Int32, W1 = [(t0, .inr (11, [.ref t1, .ref t2, .ref t3, .ref t4, .ref t5, .ref t6])), (t1, .inl (aT 0, 12, .inl g1)), (t2, .inl (aT 0, 12, .inl g2)), (t3, .inl (aT 0, 12, .inl r3)), (t4, .inl (aT 0, 12, .inl r4)), (t5, .inl (aT 2, 12, .inr (.inl r5))), (t6, .inl (aT 2, 12, .inr (.inl r6))), (a5, .inr (8, [.ref a6, .ref a7, .ref a8, .ref a9, .int (nI nm), .int nx])), (a6, .inl (aT 0, 12, .inl fI)), (a7, .inl (aT 0, 12, .inl fN)), (a8, .inl (aT 0, 12, .inl fW)), (a9, .inl (aT 0, 12, .inl fP))])) (fun _ _ => False) := by
  refine CxG.of RX8 (by decide +kernel) rfl (Nat.le_of_ble_eq_true rfl) ?_
  intro p e s m below meth c A ls C hml hl hA hr hlocks hex hnm hZ hW
  have hl : lv_has ls 4 [(0, .ref t0), (1, .ref a5)] := hl
  have hx := C.1
  have hb := C.2.1
  refine lv_iconst (v := nI 0) hx hb dX8_agreeOnCommonMotions_0 (by decide) ?_
  refine lv_istore_n (lv' := [(2, .int (nI 0)), (0, .ref t0), (1, .ref a5)]) hx hb dX8_agreeOnCommonMotions_1 rfl hl (by decide) rfl (fun ls hl => ?_)
  refine W_loopH (σ := Nat × (Nat → Int32) × (Nat → Int32)) (fun z_ => nm - z_.1) (fun z_ H locs g => ∃ ls, g = F0 m 2 ls [] ∧ lv_has ls 4 [(2, .int (nI z_.1)), (1, .ref a5), (0, .ref t0)] ∧ CxB D [(t0, .inr (11, [.ref t1, .ref t2, .ref t3, .ref t4, .ref t5, .ref t6])), (t1, .inl (aT 0, 12, .inl z_.2.1)), (t2, .inl (aT 0, 12, .inl z_.2.2)), (t3, .inl (aT 0, 12, .inl r3)), (t4, .inl (aT 0, 12, .inl r4)), (t5, .inl (aT 2, 12, .inr (.inl r5))), (t6, .inl (aT 2, 12, .inr (.inl r6))), (a5, .inr (8, [.ref a6, .ref a7, .ref a8, .ref a9, .int (nI nm), .int nx])), (a6, .inl (aT 0, 12, .inl fI)), (a7, .inl (aT 0, 12, .inl fN)), (a8, .inl (aT 0, 12, .inl fW)), (a9, .inl (aT 0, 12, .inl fP))] A s.heap H locs ∧ z_.1 ≤ nm) ?_ (0, r1, r2) _ ⟨_, rfl, lv_sub hl [0, 2, 1] rfl, hW, Nat.zero_le _⟩
  clear hW hl
  rintro ⟨i, f, q⟩ H locs g ⟨ls, rfl, hl, hW, hi⟩ ih_2
  dsimp only at hl hW hi ⊢
  refine lv_iload_n hx hb dX8_agreeOnCommonMotions_2 rfl (lv_at hl 0 rfl) ?_
  refine lv_aload_n hx hb dX8_agreeOnCommonMotions_3 rfl (lv_at hl 1 rfl) ?_
  refine cx_getN C hZ hW 7 4 rfl rfl (by decide) inX5 nw_162 rfl rfl dX8_agreeOnCommonMotions_4 ?_
  refine r_geN hx hb (a := i) (b := nm) (by have h1 := hO.1; omega) (by have h1 := hO.1; omega) (tgt := 51) dX8_agreeOnCommonMotions_7 (by decide) (fun c_7 => ?_) (fun c_7 => ?_)
  · refine lv_iconst (v := nI 1) hx hb dX8_agreeOnCommonMotions_51 (by decide) ?_
    exact cx_iret C hr hlocks (by decide) hW ⟨Nat.le_of_ble_eq_true rfl, Nat.le_of_ble_eq_true rfl⟩ (⟨⟨true, rfl⟩, _, _, rfl⟩) dX8_agreeOnCommonMotions_52
  · refine lv_iconst (v := nI 0) hx hb dX8_agreeOnCommonMotions_10 (by decide) ?_
    refine lv_istore_n (lv' := [(3, .int (nI 0)), (2, .int (nI i)), (1, .ref a5), (0, .ref t0)]) hx hb dX8_agreeOnCommonMotions_11 rfl hl (by decide) rfl (fun ls hl => ?_)
    refine W_loopH (σ := Nat × (Nat → Int32) × (Nat → Int32)) (fun z_ => nm - z_.1) (fun z_ H locs g => ∃ ls, g = F0 m 12 ls [] ∧ lv_has ls 4 [(3, .int (nI z_.1)), (2, .int (nI i)), (1, .ref a5), (0, .ref t0)] ∧ CxB D [(t0, .inr (11, [.ref t1, .ref t2, .ref t3, .ref t4, .ref t5, .ref t6])), (t1, .inl (aT 0, 12, .inl z_.2.1)), (t2, .inl (aT 0, 12, .inl z_.2.2)), (t3, .inl (aT 0, 12, .inl r3)), (t4, .inl (aT 0, 12, .inl r4)), (t5, .inl (aT 2, 12, .inr (.inl r5))), (t6, .inl (aT 2, 12, .inr (.inl r6))), (a5, .inr (8, [.ref a6, .ref a7, .ref a8, .ref a9, .int (nI nm), .int nx])), (a6, .inl (aT 0, 12, .inl fI)), (a7, .inl (aT 0, 12, .inl fN)), (a8, .inl (aT 0, 12, .inl fW)), (a9, .inl (aT 0, 12, .inl fP))] A s.heap H locs ∧ z_.1 ≤ nm) ?_ (0, f, q) _ ⟨_, rfl, lv_sub hl [0, 1, 2, 3] rfl, hW, Nat.zero_le _⟩
    clear hW hl
    rintro ⟨j, f, q⟩ H locs g ⟨ls, rfl, hl, hW, hj9⟩ ih_12
    dsimp only at hl hW hj9 ⊢
    refine lv_iload_n hx hb dX8_agreeOnCommonMotions_12 rfl (lv_at hl 0 rfl) ?_
    refine lv_aload_n hx hb dX8_agreeOnCommonMotions_13 rfl (lv_at hl 2 rfl) ?_
    refine cx_getN C hZ hW 7 4 rfl rfl (by decide) inX5 nw_162 rfl rfl dX8_agreeOnCommonMotions_14 ?_
    refine r_geN hx hb (a := j) (b := nm) (by have h1 := hO.1; omega) (by have h1 := hO.1; omega) (tgt := 45) dX8_agreeOnCommonMotions_17 (by decide) (fun c_17 => ?_) (fun c_17 => ?_)
    · refine lv_iinc (v := (nI (i + 1))) (lv' := [(2, .int (nI (i + 1))), (3, .int (nI j)), (1, .ref a5), (0, .ref t0)]) hx hb dX8_agreeOnCommonMotions_45 hl (k := 1) rfl (nI_1 _) (by decide) rfl (fun ls hl => ?_)
      refine lv_goto (tgt := 2) hx hb dX8_agreeOnCommonMotions_48 (by decide) ?_
      exact ih_2 ((i + 1), f, q) _ _ _ (by first | omega | (dsimp only; omega)) ⟨_, rfl, lv_sub hl [0, 2, 3] rfl, hW, (by dsimp only; omega)⟩
    · refine lv_aload_n hx hb dX8_agreeOnCommonMotions_20 rfl (lv_at hl 3 rfl) ?_
      refine lv_aload_n hx hb dX8_agreeOnCommonMotions_21 rfl (lv_at hl 2 rfl) ?_
      refine lv_iload_n hx hb dX8_agreeOnCommonMotions_22 rfl (lv_at hl 1 rfl) ?_
      refine lv_iload_n hx hb dX8_agreeOnCommonMotions_23 rfl (lv_at hl 0 rfl) ?_
      refine cx_calli (Wr := []) (cx_runV C hml hl.1 hZ hW hA (As := [.ref a5, .int (nI i), .int (nI j)]) (rest := []) (k_X8_commonByClimbing l hfl D aT t0 t1 t2 t3 t4 t5 t6 f q r3 r4 r5 r6 a5 a6 a7 a8 a9 fI fN fW fP nm nx idn pr tn hO i j (show i < nm by omega) (show j < nm by omega)) gV_X8_X8_commonByClimbing_92 hV_X8_commonByClimbing rfl ⟨Nat.le_of_ble_eq_true rfl, Nat.le_of_ble_eq_true rfl⟩ ⟨Nat.le_of_ble_eq_true rfl, Nat.le_of_ble_eq_true rfl⟩ [0, 1, 2, 3, 4, 5, 6, 7, 8, 9, 10, 11] rfl (by decide) 0 11 rfl rfl rfl rfl (Nat.le_of_ble_eq_true rfl) dX8_agreeOnCommonMotions_24) hW hA [0, 1, 2, 3, 4, 5, 6, 7, 8, 9, 10, 11] [] rfl rfl (by decide) (by decide) (fun _ _ _ _ _ _ h9 => h9.elim) (fun r_24 W_24 H locs hq hW => ?_)
      obtain ⟨⟨o_24, rfl, ho_24⟩, rfl⟩ := hq
      have hW : CxB D [(t0, .inr (11, [.ref t1, .ref t2, .ref t3, .ref t4, .ref t5, .ref t6])), (t1, .inl (aT 0, 12, .inl f)), (t2, .inl (aT 0, 12, .inl q)), (t3, .inl (aT 0, 12, .inl r3)), (t4, .inl (aT 0, 12, .inl r4)), (t5, .inl (aT 2, 12, .inr (.inl r5))), (t6, .inl (aT 2, 12, .inr (.inl r6))), (a5, .inr (8, [.ref a6, .ref a7, .ref a8, .ref a9, .int (nI nm), .int nx])), (a6, .inl (aT 0, 12, .inl fI)), (a7, .inl (aT 0, 12, .inl fN)), (a8, .inl (aT 0, 12, .inl fW)), (a9, .inl (aT 0, 12, .inl fP))] A s.heap H _ := hW
      refine lv_aload_n hx hb dX8_agreeOnCommonMotions_27 rfl (lv_at hl 3 rfl) ?_
      refine lv_aload_n hx hb dX8_agreeOnCommonMotions_28 rfl (lv_at hl 2 rfl) ?_
      refine lv_iload_n hx hb dX8_agreeOnCommonMotions_29 rfl (lv_at hl 1 rfl) ?_
      refine lv_iload_n hx hb dX8_agreeOnCommonMotions_30 rfl (lv_at hl 0 rfl) ?_
      refine cx_calli (Wr := []) (cx_runV C hml hl.1 hZ hW hA (As := [.ref a5, .int (nI i), .int (nI j)]) (rest := [.int (oi o_24)]) (k_X8_commonByRows l hfl D aT t0 t1 t2 t3 t4 t5 t6 f q r3 r4 r5 r6 a5 a6 a7 a8 a9 fI fN fW fP nm nx idn pr tn hO i j (show i < nm by omega) (show j < nm by omega)) gV_X8_X8_commonByRows_95 hV_X8_commonByRows rfl ⟨Nat.le_of_ble_eq_true rfl, Nat.le_of_ble_eq_true rfl⟩ ⟨Nat.le_of_ble_eq_true rfl, Nat.le_of_ble_eq_true rfl⟩ [0, 1, 2, 3, 4, 5, 6, 7, 8, 9, 10, 11] rfl (by decide) 0 11 rfl rfl rfl rfl (Nat.le_of_ble_eq_true rfl) dX8_agreeOnCommonMotions_31) hW hA [0, 1, 2, 3, 4, 5, 6, 7, 8, 9, 10, 11] [] rfl rfl (by decide) (by decide) (fun _ _ _ _ _ _ h9 => h9.elim) (fun r_31 W_31 H locs hq hW => ?_)
      obtain ⟨⟨o_31, rfl, ho_31⟩, q1_31, q2_31, rfl⟩ := hq
      have hW : CxB D [(t0, .inr (11, [.ref t1, .ref t2, .ref t3, .ref t4, .ref t5, .ref t6])), (t1, .inl (aT 0, 12, .inl q1_31)), (t2, .inl (aT 0, 12, .inl q2_31)), (t3, .inl (aT 0, 12, .inl r3)), (t4, .inl (aT 0, 12, .inl r4)), (t5, .inl (aT 2, 12, .inr (.inl r5))), (t6, .inl (aT 2, 12, .inr (.inl r6))), (a5, .inr (8, [.ref a6, .ref a7, .ref a8, .ref a9, .int (nI nm), .int nx])), (a6, .inl (aT 0, 12, .inl fI)), (a7, .inl (aT 0, 12, .inl fN)), (a8, .inl (aT 0, 12, .inl fW)), (a9, .inl (aT 0, 12, .inl fP))] A s.heap H _ := hW
      refine lv_icmp_eq hx hb (x := (oi o_24)) (y := (oi o_31)) (tgt := 39) dX8_agreeOnCommonMotions_34 (by decide) (fun c_34 => ?_) (fun c_34 => ?_)
      · refine lv_iinc (v := (nI (j + 1))) (lv' := [(3, .int (nI (j + 1))), (2, .int (nI i)), (1, .ref a5), (0, .ref t0)]) hx hb dX8_agreeOnCommonMotions_39 hl (k := 0) rfl (nI_1 _) (by decide) rfl (fun ls hl => ?_)
        refine lv_goto (tgt := 12) hx hb dX8_agreeOnCommonMotions_42 (by decide) ?_
        exact ih_12 ((j + 1), q1_31, q2_31) _ _ _ (by first | omega | (dsimp only; omega)) ⟨_, rfl, lv_sub hl [0, 1, 2, 3] rfl, hW, (by dsimp only; omega)⟩
      · refine lv_iconst (v := nI 0) hx hb dX8_agreeOnCommonMotions_37 (by decide) ?_
        exact cx_iret C hr hlocks (by decide) hW ⟨Nat.le_of_ble_eq_true rfl, Nat.le_of_ble_eq_true rfl⟩ (⟨⟨false, rfl⟩, _, _, rfl⟩) dX8_agreeOnCommonMotions_38
