theorem and63 (x : Int32) : ∃ k, k < 64 ∧ x &&& nI 63 = nI k := by
  refine ⟨(x &&& nI 63).toBitVec.toNat, ?_, ?_⟩
  · have h : (x &&& nI 63).toBitVec = x.toBitVec &&& 63#32 := rfl
    rw [h, BitVec.toNat_and]
    exact Nat.lt_of_le_of_lt Nat.and_le_right (by decide)
  · apply Int32.toBitVec_inj.mp
    show _ = BitVec.ofNat 32 _
    rw [BitVec.ofNat_toNat, BitVec.setWidth_eq]
theorem hd_le {n i : Nat} (hn : n ≤ 2048) (hi : i ≤ n) (h : ¬ nI n - nI 4 < nI i) : i + 4 ≤ n := by
  by_cases h4 : 4 ≤ n
  · have e : nI n - nI 4 = nI (n - 4) := (Int32.ofNat_sub n 4 h4).symm
    rw [e] at h
    have h9 : ¬ n - 4 < i := fun h8 => h (nI_lt h8 (by omega))
    omega
  · exfalso
    have e : nI n - nI 4 < nI 0 := by
      rcases (show n = 0 ∨ n = 1 ∨ n = 2 ∨ n = 3 by omega) with rfl | rfl | rfl | rfl <;> decide
    rcases Nat.eq_zero_or_pos i with rfl | hp
    · exact h e
    · exact h (Int32.lt_trans e (nI_lt hp (by omega)))
theorem law_exit {p : Program} {l : Launch} {e : Env} {s : State} {m : MethodId} {below : List Frame} {meth : Method} {c : Code} {b : Nat} {D : va_G} {aT : Nat → ClassId} {A : Nat → Prop} {ls : Array Slot} {H : Heap} {locs : List Loc} {cells slots : Nat} (hAe : A = fun q => s.heap.size ≤ q) (C : CxX p c code s #[Value.ref b] m D aT RL) (hr : meth.sig.returnType = ret) (hlocks : meth.locks = false) (hS : va_S A s.heap H locs) (hc : cells ≤ 603072) (hs : slots ≤ 7198826) : W p l e room_1 s m #[Value.ref b] below meth c H locs cells slots (lw_Z below #[Value.ref b] s) (F0 m 1457 ls []) := by
  have hx := C.1
  have hb := C.2.1
  refine lv_iconst (v := nI 1) hx hb dL_law_1457 (by decide) ?_
  refine va_forget (fun q hq => by have h := hS.2.2 q hq; rw [hAe] at h; exact h) ?_
  refine W.widen (k := 603072) (n := 7198826) hc hs ?_
  exact lw_ret (Drawn.sameBut.refl s.drawn lw_cs) hx hb hr hlocks dL_law_1458
set_option maxHeartbeats 4000000 in
set_option maxRecDepth 20000 in
theorem law_sw {p : Program} {l : Launch} {e : Env} {s : State} {m : MethodId} {below : List Frame} {meth : Method} {c : Code} {H : Heap} {locs : List Loc} {cells slots : Nat} {Q : State → Prop} {ls : Array Slot} {D : va_G} {aT : Nat → ClassId} {A : Nat → Prop} {ad : Nat → Nat} {S : MSt} {x0 u0 u1 Bd b n i : Nat} {xs : Nat → Int32} {o : Nat → Int64} {q : Nat → UInt64} {Wx : va_W} (hfl : l.stackTraces = false) (hAe : A = fun q => s.heap.size ≤ q) (C : CxX p c code s #[Value.ref b] m D aT RL) (hml : c.maxLocals = 9) (hX : va_X b n xs s s.heap) (hbl : b < s.heap.size) (hn : n ≤ 2048) (hi : i + 4 ≤ n) (hZ : cZ D A s s.heap) (hW : CxB D (mdW aT ad S ++ (oD aT u1 q ++ (oL aT u0 o ++ Wx))) A s.heap H locs) (hO : ClO D aT x0 S Bd Wx) (hN : LnO S) (hBd : Bd + 20 < 1048000) (hc1 : cells + 110 ≤ 603072) (hc2 : slots + 13600 ≤ 7198826) (hl : lv_has ls 9 [(5, .int (nI i)), (4, .ref u1), (3, .ref u0), (2, .ref (ad 0)), (1, .ref x0), (0, .ref b)]) (kk : LK p l e s m b below meth c D aT A ad x0 u0 u1 i Bd cells slots Q) : W p l e room_1 s m #[Value.ref b] below meth c H locs cells slots Q (F0 m 37 ls []) := by
  have hx := C.1
  have hb := C.2.1
  have hbA : ¬ A b := by rw [hAe]; exact Nat.not_le.mpr hbl
  refine lv_aload_n hx hb dL_law_37 rfl (lv_at hl 5 rfl) ?_
  refine lv_iload hx hb dL_law_38 (lv_at hl 0 rfl) ?_
  refine cx_sld C hW hX hbl hbA (k := i) (by omega) (by omega) dL_law_40 ?_
  refine lv_bipush (v := nI 63) hx hb dL_law_41 (by decide) ?_
  refine lv_iand hx hb dL_law_43 ?_
  obtain ⟨k, hk, e9⟩ := and63 (xs i)
  refine r_eq e9 ?_
  clear e9
  rcases (show k = 0 ∨ k = 1 ∨ k = 2 ∨ k = 3 ∨ k = 4 ∨ k = 5 ∨ k = 6 ∨ k = 7 ∨ k = 8 ∨ k = 9 ∨ k = 10 ∨ k = 11 ∨ k = 12 ∨ k = 13 ∨ k = 14 ∨ k = 15 ∨ k = 16 ∨ k = 17 ∨ k = 18 ∨ k = 19 ∨ k = 20 ∨ k = 21 ∨ k = 22 ∨ k = 23 ∨ k = 24 ∨ k = 25 ∨ k = 26 ∨ k = 27 ∨ k = 28 ∨ k = 29 ∨ k = 30 ∨ k = 31 ∨ k = 32 ∨ k = 33 ∨ k = 34 ∨ k = 35 ∨ k = 36 ∨ k = 37 ∨ k = 38 ∨ k = 39 ∨ k = 40 ∨ k = 41 ∨ k = 42 ∨ k = 43 ∨ k = 44 ∨ k = 45 ∨ k = 46 ∨ k = 47 ∨ k = 48 ∨ k = 49 ∨ k = 50 ∨ k = 51 ∨ k = 52 ∨ k = 53 ∨ k = 54 ∨ k = 55 ∨ k = 56 ∨ k = 57 ∨ k = 58 ∨ k = 59 ∨ k = 60 ∨ k = 61 ∨ k = 62 ∨ k = 63 by omega) with rfl | rfl | rfl | rfl | rfl | rfl | rfl | rfl | rfl | rfl | rfl | rfl | rfl | rfl | rfl | rfl | rfl | rfl | rfl | rfl | rfl | rfl | rfl | rfl | rfl | rfl | rfl | rfl | rfl | rfl | rfl | rfl | rfl | rfl | rfl | rfl | rfl | rfl | rfl | rfl | rfl | rfl | rfl | rfl | rfl | rfl | rfl | rfl | rfl | rfl | rfl | rfl | rfl | rfl | rfl | rfl | rfl | rfl | rfl | rfl | rfl | rfl | rfl | rfl
  · exact lv_tableIn (x := nI 0) (off := 208) (tgt := 252) hx hb dL_law_44 (by decide) (by decide) (by decide) (by decide) (law_c0 hfl hAe C hml hX hbl hn hi hZ hW hO hN hBd hc1 hc2 hl kk)
  · exact lv_tableIn (x := nI 1) (off := 260) (tgt := 304) hx hb dL_law_44 (by decide) (by decide) (by decide) (by decide) (law_c1 hfl hAe C hml hX hbl hn hi hZ hW hO hN hBd hc1 hc2 hl kk)
  · exact lv_tableIn (x := nI 2) (off := 300) (tgt := 344) hx hb dL_law_44 (by decide) (by decide) (by decide) (by decide) (law_c2 hfl hAe C hml hX hbl hn hi hZ hW hO hN hBd hc1 hc2 hl kk)
  · exact lv_tableIn (x := nI 3) (off := 352) (tgt := 396) hx hb dL_law_44 (by decide) (by decide) (by decide) (by decide) (law_c3 hfl hAe C hml hX hbl hn hi hZ hW hO hN hBd hc1 hc2 hl kk)
  · exact lv_tableIn (x := nI 4) (off := 392) (tgt := 436) hx hb dL_law_44 (by decide) (by decide) (by decide) (by decide) (law_c4 hfl hAe C hml hX hbl hn hi hZ hW hO hN hBd hc1 hc2 hl kk)
  · exact lv_tableIn (x := nI 5) (off := 420) (tgt := 464) hx hb dL_law_44 (by decide) (by decide) (by decide) (by decide) (law_c5 hfl hAe C hml hX hbl hn hi hZ hW hO hN hBd hc1 hc2 hl kk)
  · exact lv_tableIn (x := nI 6) (off := 448) (tgt := 492) hx hb dL_law_44 (by decide) (by decide) (by decide) (by decide) (law_c6 hfl hAe C hml hX hbl hn hi hZ hW hO hN hBd hc1 hc2 hl kk)
  · exact lv_tableIn (x := nI 7) (off := 461) (tgt := 505) hx hb dL_law_44 (by decide) (by decide) (by decide) (by decide) (law_c7 hfl hAe C hml hX hbl hn hi hZ hW hO hN hBd hc1 hc2 hl kk)
  · exact lv_tableIn (x := nI 8) (off := 474) (tgt := 518) hx hb dL_law_44 (by decide) (by decide) (by decide) (by decide) (law_c8 hfl hAe C hml hX hbl hn hi hZ hW hO hN hBd hc1 hc2 hl kk)
  · exact lv_tableIn (x := nI 9) (off := 502) (tgt := 546) hx hb dL_law_44 (by decide) (by decide) (by decide) (by decide) (law_c9 hfl hAe C hml hX hbl hn hi hZ hW hO hN hBd hc1 hc2 hl kk)
  · exact lv_tableIn (x := nI 10) (off := 530) (tgt := 574) hx hb dL_law_44 (by decide) (by decide) (by decide) (by decide) (law_c10 hfl hAe C hml hX hbl hn hi hZ hW hO hN hBd hc1 hc2 hl kk)
  · exact lv_tableIn (x := nI 11) (off := 558) (tgt := 602) hx hb dL_law_44 (by decide) (by decide) (by decide) (by decide) (law_c11 hfl hAe C hml hX hbl hn hi hZ hW hO hN hBd hc1 hc2 hl kk)
  · exact lv_tableIn (x := nI 12) (off := 586) (tgt := 630) hx hb dL_law_44 (by decide) (by decide) (by decide) (by decide) (law_c12 hfl hAe C hml hX hbl hn hi hZ hW hO hN hBd hc1 hc2 hl kk)
  · exact lv_tableIn (x := nI 13) (off := 626) (tgt := 670) hx hb dL_law_44 (by decide) (by decide) (by decide) (by decide) (law_c13 hfl hAe C hml hX hbl hn hi hZ hW hO hN hBd hc1 hc2 hl kk)
  · exact lv_tableIn (x := nI 14) (off := 639) (tgt := 683) hx hb dL_law_44 (by decide) (by decide) (by decide) (by decide) (law_c14 hfl hAe C hml hX hbl hn hi hZ hW hO hN hBd hc1 hc2 hl kk)
  · exact lv_tableIn (x := nI 15) (off := 667) (tgt := 711) hx hb dL_law_44 (by decide) (by decide) (by decide) (by decide) (law_c15 hfl hAe C hml hX hbl hn hi hZ hW hO hN hBd hc1 hc2 hl kk)
  · exact lv_tableIn (x := nI 16) (off := 695) (tgt := 739) hx hb dL_law_44 (by decide) (by decide) (by decide) (by decide) (law_c16 hfl hAe C hml hX hbl hn hi hZ hW hO hN hBd hc1 hc2 hl kk)
  · exact lv_tableIn (x := nI 17) (off := 723) (tgt := 767) hx hb dL_law_44 (by decide) (by decide) (by decide) (by decide) (law_c17 hfl hAe C hml hX hbl hn hi hZ hW hO hN hBd hc1 hc2 hl kk)
  · exact lv_tableIn (x := nI 18) (off := 751) (tgt := 795) hx hb dL_law_44 (by decide) (by decide) (by decide) (by decide) (law_c18 hfl hAe C hml hX hbl hn hi hZ hW hO hN hBd hc1 hc2 hl kk)
  · exact lv_tableIn (x := nI 19) (off := 779) (tgt := 823) hx hb dL_law_44 (by decide) (by decide) (by decide) (by decide) (law_c19 hfl hAe C hml hX hbl hn hi hZ hW hO hN hBd hc1 hc2 hl kk)
  · exact lv_tableIn (x := nI 20) (off := 807) (tgt := 851) hx hb dL_law_44 (by decide) (by decide) (by decide) (by decide) (law_c20 hfl hAe C hml hX hbl hn hi hZ hW hO hN hBd hc1 hc2 hl kk)
  · exact lv_tableIn (x := nI 21) (off := 835) (tgt := 879) hx hb dL_law_44 (by decide) (by decide) (by decide) (by decide) (law_c21 hfl hAe C hml hX hbl hn hi hZ hW hO hN hBd hc1 hc2 hl kk)
  · exact lv_tableIn (x := nI 22) (off := 863) (tgt := 907) hx hb dL_law_44 (by decide) (by decide) (by decide) (by decide) (law_c22 hfl hAe C hml hX hbl hn hi hZ hW hO hN hBd hc1 hc2 hl kk)
  · exact lv_tableIn (x := nI 23) (off := 891) (tgt := 935) hx hb dL_law_44 (by decide) (by decide) (by decide) (by decide) (law_c23 hfl hAe C hml hX hbl hn hi hZ hW hO hN hBd hc1 hc2 hl kk)
  · exact lv_tableIn (x := nI 24) (off := 931) (tgt := 975) hx hb dL_law_44 (by decide) (by decide) (by decide) (by decide) (law_c24 hfl hAe C hml hX hbl hn hi hZ hW hO hN hBd hc1 hc2 hl kk)
  · exact lv_tableIn (x := nI 25) (off := 971) (tgt := 1015) hx hb dL_law_44 (by decide) (by decide) (by decide) (by decide) (law_c25 hfl hAe C hml hX hbl hn hi hZ hW hO hN hBd hc1 hc2 hl kk)
  · exact lv_tableIn (x := nI 26) (off := 1011) (tgt := 1055) hx hb dL_law_44 (by decide) (by decide) (by decide) (by decide) (law_c26 hfl hAe C hml hX hbl hn hi hZ hW hO hN hBd hc1 hc2 hl kk)
  · exact lv_tableIn (x := nI 27) (off := 1039) (tgt := 1083) hx hb dL_law_44 (by decide) (by decide) (by decide) (by decide) (law_c27 hfl hAe C hml hX hbl hn hi hZ hW hO hN hBd hc1 hc2 hl kk)
  · exact lv_tableIn (x := nI 28) (off := 1067) (tgt := 1111) hx hb dL_law_44 (by decide) (by decide) (by decide) (by decide) (law_c28 hfl hAe C hml hX hbl hn hi hZ hW hO hN hBd hc1 hc2 hl kk)
  · exact lv_tableIn (x := nI 29) (off := 1080) (tgt := 1124) hx hb dL_law_44 (by decide) (by decide) (by decide) (by decide) (law_c29 hfl hAe C hml hX hbl hn hi hZ hW hO hN hBd hc1 hc2 hl kk)
  · exact lv_tableIn (x := nI 30) (off := 1093) (tgt := 1137) hx hb dL_law_44 (by decide) (by decide) (by decide) (by decide) (law_c30 hfl hAe C hml hX hbl hn hi hZ hW hO hN hBd hc1 hc2 hl kk)
  · exact lv_tableIn (x := nI 31) (off := 1106) (tgt := 1150) hx hb dL_law_44 (by decide) (by decide) (by decide) (by decide) (law_c31 hfl hAe C hml hX hbl hn hi hZ hW hO hN hBd hc1 hc2 hl kk)
  · exact lv_tableIn (x := nI 32) (off := 1119) (tgt := 1163) hx hb dL_law_44 (by decide) (by decide) (by decide) (by decide) (law_c32 hfl hAe C hml hX hbl hn hi hZ hW hO hN hBd hc1 hc2 hl kk)
  · exact lv_tableIn (x := nI 33) (off := 1147) (tgt := 1191) hx hb dL_law_44 (by decide) (by decide) (by decide) (by decide) (law_c33 hfl hAe C hml hX hbl hn hi hZ hW hO hN hBd hc1 hc2 hl kk)
  · exact lv_tableIn (x := nI 34) (off := 1160) (tgt := 1204) hx hb dL_law_44 (by decide) (by decide) (by decide) (by decide) (law_c34 hfl hAe C hml hX hbl hn hi hZ hW hO hN hBd hc1 hc2 hl kk)
  · exact lv_tableIn (x := nI 35) (off := 1173) (tgt := 1217) hx hb dL_law_44 (by decide) (by decide) (by decide) (by decide) (law_c35 hfl hAe C hml hX hbl hn hi hZ hW hO hN hBd hc1 hc2 hl kk)
  · exact lv_tableIn (x := nI 36) (off := 1186) (tgt := 1230) hx hb dL_law_44 (by decide) (by decide) (by decide) (by decide) (law_c36 hfl hAe C hml hX hbl hn hi hZ hW hO hN hBd hc1 hc2 hl kk)
  · exact lv_tableIn (x := nI 37) (off := 1203) (tgt := 1247) hx hb dL_law_44 (by decide) (by decide) (by decide) (by decide) (law_c37 hfl hAe C hml hX hbl hn hi hZ hW hO hN hBd hc1 hc2 hl kk)
  · exact lv_tableIn (x := nI 38) (off := 1220) (tgt := 1264) hx hb dL_law_44 (by decide) (by decide) (by decide) (by decide) (law_c38 hfl hAe C hml hX hbl hn hi hZ hW hO hN hBd hc1 hc2 hl kk)
  · exact lv_tableIn (x := nI 39) (off := 1233) (tgt := 1277) hx hb dL_law_44 (by decide) (by decide) (by decide) (by decide) (law_c39 hfl hAe C hml hX hbl hn hi hZ hW hO hN hBd hc1 hc2 hl kk)
  · exact lv_tableIn (x := nI 40) (off := 1263) (tgt := 1307) hx hb dL_law_44 (by decide) (by decide) (by decide) (by decide) (law_c40 hfl hAe C hml hX hbl hn hi hZ hW hO hN hBd hc1 hc2 hl kk)
  · exact lv_tableIn (x := nI 41) (off := 1279) (tgt := 1323) hx hb dL_law_44 (by decide) (by decide) (by decide) (by decide) (law_c41 hfl hAe C hml hX hbl hn hi hZ hW hO hN hBd hc1 hc2 hl kk)
  · exact lv_tableIn (x := nI 42) (off := 1295) (tgt := 1339) hx hb dL_law_44 (by decide) (by decide) (by decide) (by decide) (law_c42 hfl hAe C hml hX hbl hn hi hZ hW hO hN hBd hc1 hc2 hl kk)
  · exact lv_tableIn (x := nI 43) (off := 1311) (tgt := 1355) hx hb dL_law_44 (by decide) (by decide) (by decide) (by decide) (law_c43 hfl hAe C hml hX hbl hn hi hZ hW hO hN hBd hc1 hc2 hl kk)
  · exact lv_tableIn (x := nI 44) (off := 1339) (tgt := 1383) hx hb dL_law_44 (by decide) (by decide) (by decide) (by decide) (law_c44 hfl hAe C hml hX hbl hn hi hZ hW hO hN hBd hc1 hc2 hl kk)
  · exact lv_tableIn (x := nI 45) (off := 1367) (tgt := 1411) hx hb dL_law_44 (by decide) (by decide) (by decide) (by decide) (law_c45 hfl hAe C hml hX hbl hn hi hZ hW hO hN hBd hc1 hc2 hl kk)
  · exact lv_tableIn (x := nI 46) (off := 1383) (tgt := 1427) hx hb dL_law_44 (by decide) (by decide) (by decide) (by decide) (law_c46 hfl hAe C hml hX hbl hn hi hZ hW hO hN hBd hc1 hc2 hl kk)
  · exact lv_tableIn (x := nI 47) (off := 1394) (tgt := 1438) hx hb dL_law_44 (by decide) (by decide) (by decide) (by decide) (law_c47 hfl hAe C hml hX hbl hn hi hZ hW hO hN hBd hc1 hc2 hl kk)
  · exact lv_tableOut (x := nI 48) (tgt := 1451) hx hb dL_law_44 (by decide) (by decide) (W.widen (k := cells + 110) (n := slots + 13600) (by omega) (by omega) (kk S Bd o q Wx ls H locs (by omega) hO hN hW hl))
  · exact lv_tableOut (x := nI 49) (tgt := 1451) hx hb dL_law_44 (by decide) (by decide) (W.widen (k := cells + 110) (n := slots + 13600) (by omega) (by omega) (kk S Bd o q Wx ls H locs (by omega) hO hN hW hl))
  · exact lv_tableOut (x := nI 50) (tgt := 1451) hx hb dL_law_44 (by decide) (by decide) (W.widen (k := cells + 110) (n := slots + 13600) (by omega) (by omega) (kk S Bd o q Wx ls H locs (by omega) hO hN hW hl))
  · exact lv_tableOut (x := nI 51) (tgt := 1451) hx hb dL_law_44 (by decide) (by decide) (W.widen (k := cells + 110) (n := slots + 13600) (by omega) (by omega) (kk S Bd o q Wx ls H locs (by omega) hO hN hW hl))
  · exact lv_tableOut (x := nI 52) (tgt := 1451) hx hb dL_law_44 (by decide) (by decide) (W.widen (k := cells + 110) (n := slots + 13600) (by omega) (by omega) (kk S Bd o q Wx ls H locs (by omega) hO hN hW hl))
  · exact lv_tableOut (x := nI 53) (tgt := 1451) hx hb dL_law_44 (by decide) (by decide) (W.widen (k := cells + 110) (n := slots + 13600) (by omega) (by omega) (kk S Bd o q Wx ls H locs (by omega) hO hN hW hl))
  · exact lv_tableOut (x := nI 54) (tgt := 1451) hx hb dL_law_44 (by decide) (by decide) (W.widen (k := cells + 110) (n := slots + 13600) (by omega) (by omega) (kk S Bd o q Wx ls H locs (by omega) hO hN hW hl))
  · exact lv_tableOut (x := nI 55) (tgt := 1451) hx hb dL_law_44 (by decide) (by decide) (W.widen (k := cells + 110) (n := slots + 13600) (by omega) (by omega) (kk S Bd o q Wx ls H locs (by omega) hO hN hW hl))
  · exact lv_tableOut (x := nI 56) (tgt := 1451) hx hb dL_law_44 (by decide) (by decide) (W.widen (k := cells + 110) (n := slots + 13600) (by omega) (by omega) (kk S Bd o q Wx ls H locs (by omega) hO hN hW hl))
  · exact lv_tableOut (x := nI 57) (tgt := 1451) hx hb dL_law_44 (by decide) (by decide) (W.widen (k := cells + 110) (n := slots + 13600) (by omega) (by omega) (kk S Bd o q Wx ls H locs (by omega) hO hN hW hl))
  · exact lv_tableOut (x := nI 58) (tgt := 1451) hx hb dL_law_44 (by decide) (by decide) (W.widen (k := cells + 110) (n := slots + 13600) (by omega) (by omega) (kk S Bd o q Wx ls H locs (by omega) hO hN hW hl))
  · exact lv_tableOut (x := nI 59) (tgt := 1451) hx hb dL_law_44 (by decide) (by decide) (W.widen (k := cells + 110) (n := slots + 13600) (by omega) (by omega) (kk S Bd o q Wx ls H locs (by omega) hO hN hW hl))
  · exact lv_tableOut (x := nI 60) (tgt := 1451) hx hb dL_law_44 (by decide) (by decide) (W.widen (k := cells + 110) (n := slots + 13600) (by omega) (by omega) (kk S Bd o q Wx ls H locs (by omega) hO hN hW hl))
  · exact lv_tableOut (x := nI 61) (tgt := 1451) hx hb dL_law_44 (by decide) (by decide) (W.widen (k := cells + 110) (n := slots + 13600) (by omega) (by omega) (kk S Bd o q Wx ls H locs (by omega) hO hN hW hl))
  · exact lv_tableOut (x := nI 62) (tgt := 1451) hx hb dL_law_44 (by decide) (by decide) (W.widen (k := cells + 110) (n := slots + 13600) (by omega) (by omega) (kk S Bd o q Wx ls H locs (by omega) hO hN hW hl))
  · exact lv_tableOut (x := nI 63) (tgt := 1451) hx hb dL_law_44 (by decide) (by decide) (W.widen (k := cells + 110) (n := slots + 13600) (by omega) (by omega) (kk S Bd o q Wx ls H locs (by omega) hO hN hW hl))
set_option maxHeartbeats 4000000 in
set_option maxRecDepth 20000 in
theorem law_loop {p : Program} {l : Launch} {e : Env} {s : State} {m : MethodId} {below : List Frame} {meth : Method} {c : Code} {D : va_G} {aT : Nat → ClassId} {A : Nat → Prop} {ad : Nat → Nat} {x0 u0 u1 b n : Nat} {xs : Nat → Int32} (hfl : l.stackTraces = false) (hAe : A = fun q => s.heap.size ≤ q) (C : CxX p c code s #[Value.ref b] m D aT RL) (hml : c.maxLocals = 9) (hr : meth.sig.returnType = ret) (hlocks : meth.locks = false) (hX : va_X b n xs s s.heap) (hbl : b < s.heap.size) (hn : n ≤ 2048) (hZ : cZ D A s s.heap) : ∀ (k j : Nat) (S : MSt) (Bd : Nat) (o : Nat → Int64) (q : Nat → UInt64) (Wx : va_W) (ls : Array Slot) (H : Heap) (locs : List Loc) (cells slots : Nat), n ≤ 4 * j + 4 * k + 3 → 4 * j ≤ n → Bd ≤ 13 * j → cells ≤ 1000 + 110 * j → slots ≤ 9000 + 13600 * j → ClO D aT x0 S Bd Wx → LnO S → CxB D (mdW aT ad S ++ (oD aT u1 q ++ (oL aT u0 o ++ Wx))) A s.heap H locs → lv_has ls 9 [(5, .int (nI (4 * j))), (4, .ref u1), (3, .ref u0), (2, .ref (ad 0)), (1, .ref x0), (0, .ref b)] → W p l e room_1 s m #[Value.ref b] below meth c H locs cells slots (lw_Z below #[Value.ref b] s) (F0 m 28 ls []) := by
  intro k
  have hx := C.1
  have hb := C.2.1
  have hbA : ¬ A b := by rw [hAe]; exact Nat.not_le.mpr hbl
  induction k with
  | zero =>
    intro j S Bd o q Wx ls H locs cells slots hk hj hB hc hs hO hN hW hl
    refine lv_iload hx hb dL_law_28 (lv_at hl 0 rfl) ?_
    refine lv_aload_n hx hb dL_law_30 rfl (lv_at hl 5 rfl) ?_
    refine va_slen hx hb hX hbl hbA hW.2.2 dL_law_31 ?_
    refine lv_iconst (v := nI 4) hx hb dL_law_32 (by decide) ?_
    refine lv_isub hx hb dL_law_33 ?_
    refine lv_icmp_gt hx hb (x := nI (4 * j)) (y := nI n - nI 4) (tgt := 1457) dL_law_34 (by decide) (fun _ => ?_) (fun h9 => ?_)
    · exact law_exit hAe C hr hlocks hW.2.2 (by omega) (by omega)
    · exact absurd (hd_le hn hj h9) (by omega)
  | succ k ih =>
    intro j S Bd o q Wx ls H locs cells slots hk hj hB hc hs hO hN hW hl
    refine lv_iload hx hb dL_law_28 (lv_at hl 0 rfl) ?_
    refine lv_aload_n hx hb dL_law_30 rfl (lv_at hl 5 rfl) ?_
    refine va_slen hx hb hX hbl hbA hW.2.2 dL_law_31 ?_
    refine lv_iconst (v := nI 4) hx hb dL_law_32 (by decide) ?_
    refine lv_isub hx hb dL_law_33 ?_
    refine lv_icmp_gt hx hb (x := nI (4 * j)) (y := nI n - nI 4) (tgt := 1457) dL_law_34 (by decide) (fun _ => ?_) (fun h9 => ?_)
    · exact law_exit hAe C hr hlocks hW.2.2 (by omega) (by omega)
    · have h4 := hd_le hn hj h9
      refine law_sw hfl hAe C hml hX hbl hn h4 hZ hW hO hN (by omega) (by omega) (by omega) hl (fun S1 Bd2 o2 q2 W2 ls1 H1 locs1 hb2 hO2 hN2 hW2 hl2 => ?_)
      refine lv_iinc (v := nI (4 * j + 4)) (lv' := [(5, .int (nI (4 * j + 4))), (4, .ref u1), (3, .ref u0), (2, .ref (ad 0)), (1, .ref x0), (0, .ref b)]) hx hb dL_law_1451 hl2 (k := 0) rfl (nI_add (4 * j) 4) (by decide) rfl (fun ls3 hl3 => ?_)
      refine lv_goto (tgt := 28) hx hb dL_law_1454 (by decide) ?_
      have e4 : 4 * (j + 1) = 4 * j + 4 := by omega
      exact ih (j + 1) S1 Bd2 o2 q2 W2 ls3 H1 locs1 (cells + 110) (slots + 13600) (by omega) (by omega) (by omega) (by omega) (by omega) hO2 hN2 hW2 (by rw [e4]; exact hl3)
