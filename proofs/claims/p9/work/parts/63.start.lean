theorem lw_hts {s : State} {b : Nat} (h : ∀ w ∈ lw_tbl0, w.before #[Value.ref b] s = true) : ∀ w ∈ lw_tbl, w.before #[Value.ref b] s = true := by
  intro w hw
  rcases List.mem_append.mp hw with h9 | h9
  · unfold lw_sbw at h9
    simp only [List.mem_cons, List.not_mem_nil, or_false] at h9
    rcases h9 with rfl | rfl | rfl | rfl | rfl | rfl
    · exact sb_selP (z := ⟨"java/lang/AbstractStringBuilder", "isLatin1", "()Z"⟩) rfl (h _ (List.mem_append_right _ (tb_6 (List.mem_of_getElem? (i := 124) rfl)))) ⟨by decide +kernel, by decide +kernel⟩ (h _ (List.mem_append_right _ (tb_6 (List.mem_of_getElem? (i := 98) rfl)))) (h _ (List.mem_append_right _ (tb_6 (List.mem_of_getElem? (i := 99) rfl))))
    · exact sb_selP (z := ⟨"java/lang/AbstractStringBuilder", "isLatin1", "()Z"⟩) rfl (h _ (List.mem_append_right _ (tb_6 (List.mem_of_getElem? (i := 124) rfl)))) ⟨by decide +kernel, by decide +kernel⟩ (h _ (List.mem_append_right _ (tb_6 (List.mem_of_getElem? (i := 102) rfl)))) (h _ (List.mem_append_right _ (tb_6 (List.mem_of_getElem? (i := 103) rfl))))
    · exact sb_selP (z := ⟨"java/lang/AbstractStringBuilder", "isLatin1", "()Z"⟩) rfl (h _ (List.mem_append_right _ (tb_6 (List.mem_of_getElem? (i := 124) rfl)))) ⟨by decide +kernel, by decide +kernel⟩ (h _ (List.mem_append_right _ (tb_6 (List.mem_of_getElem? (i := 106) rfl)))) (h _ (List.mem_append_right _ (tb_6 (List.mem_of_getElem? (i := 107) rfl))))
    · exact sb_selP (z := ⟨"java/lang/AbstractStringBuilder", "isLatin1", "()Z"⟩) rfl (h _ (List.mem_append_right _ (tb_6 (List.mem_of_getElem? (i := 124) rfl)))) ⟨by decide +kernel, by decide +kernel⟩ (h _ (List.mem_append_right _ (tb_6 (List.mem_of_getElem? (i := 143) rfl)))) (h _ (List.mem_append_right _ (tb_6 (List.mem_of_getElem? (i := 144) rfl))))
    · exact sb_selP (z := ⟨"java/lang/AbstractStringBuilder", "isLatin1", "()Z"⟩) rfl (h _ (List.mem_append_right _ (tb_6 (List.mem_of_getElem? (i := 124) rfl)))) ⟨by decide +kernel, by decide +kernel⟩ (h _ (List.mem_append_right _ (tb_6 (List.mem_of_getElem? (i := 147) rfl)))) (h _ (List.mem_append_right _ (tb_6 (List.mem_of_getElem? (i := 148) rfl))))
    · exact sb_selP (z := ⟨"java/lang/AbstractStringBuilder", "isLatin1", "()Z"⟩) rfl (h _ (List.mem_append_right _ (tb_6 (List.mem_of_getElem? (i := 124) rfl)))) ⟨by decide +kernel, by decide +kernel⟩ (h _ (List.mem_append_right _ (tb_6 (List.mem_of_getElem? (i := 152) rfl)))) (h _ (List.mem_append_right _ (tb_6 (List.mem_of_getElem? (i := 153) rfl))))
  · exact h w h9
theorem cx_nil {D : va_G} {A : Nat → Prop} {H0 H : Heap} {locs : List Loc} (h : va_S A H0 H locs) : CxB D [] A H0 H locs := ⟨fun k q hq => by simp at hq, ⟨fun i j x y hx => by simp at hx, fun k q hq => by simp at hq⟩, h⟩
theorem gI_X9_init : GoodIn gw (Cond.code yX9_init cX9_init 1 none :: gw) := gdI gw_108
theorem hI_X9_init : yX9_init.cls ≠ "java/lang/invoke/MethodHandle" ∧ yX9_init.cls ≠ "java/lang/invoke/VarHandle" ∧ (parseMethodDescriptor yX9_init.desc).map (fun d => d.parameters.length) = some 0 := ⟨by decide +kernel, by decide +kernel, by decide +kernel⟩
theorem gI_X10_init : GoodIn gw (Cond.code yX10_init cX10_init 1 none :: gw) := gdI gw_1621
theorem hI_X10_init : yX10_init.cls ≠ "java/lang/invoke/MethodHandle" ∧ yX10_init.cls ≠ "java/lang/invoke/VarHandle" ∧ (parseMethodDescriptor yX10_init.desc).map (fun d => d.parameters.length) = some 0 := ⟨by decide +kernel, by decide +kernel, by decide +kernel⟩
theorem pz_0 {m d o Wx : va_W} : (m ++ (d ++ (o ++ Wx))).Perm ((((Wx ++ []) ++ m) ++ o) ++ d) := by
  rw [List.append_nil]
  haveI : DecidableEq (Nat × va_E) := fun y z => Classical.propDecidable (y = z)
  refine List.perm_iff_count.mpr (fun w => ?_)
  simp only [List.count_append]
  all_goals omega
set_option maxHeartbeats 8000000 in
set_option maxRecDepth 100000 in
theorem whole_start {p : Program} {e : Env} {s : State} {m : MethodId} {below : List Frame} {meth : Method} {c : Code} (l : Launch) (hflags : l.flags = flags0) {b L : Nat} {xs : Nat → Int32} (hL : L ≤ 2048) (C0 : lw_At p s m meth c b L xs) : W p l e room_1 s m #[Value.ref b] below meth c s.heap [] 0 0 (lw_Z below #[Value.ref b] s) (entryFrame m ([Value.ref b] : List Value).toArray 9) := by
  obtain ⟨hx, hb, hr, hml, hown, hts, hX, hbl, hlocks, hgv⟩ := id C0
  have hfl : l.stackTraces = false := by unfold Launch.stackTraces; rw [hflags]; decide
  have hg : ∀ w ∈ gw, w.before #[Value.ref b] s = true := fun w h => hts w (List.mem_filter.mp h).1
  have htb : ∀ w ∈ tables_1, w.before #[Value.ref b] s = true := fun w h => hts w (List.mem_append_right _ (List.mem_append_right _ h))
  obtain ⟨Z, hZc⟩ := law_S hts hgv
  obtain ⟨D, aT, hK, hD⟩ := law_K Z hg htb
  have hZ := law_Z hts hgv (hZc D hD)
  obtain ⟨A, hAe⟩ : ∃ A : Nat → Prop, A = fun q => s.heap.size ≤ q := ⟨_, rfl⟩
  rw [← hAe] at hZ
  have hA : ∀ q, s.heap.size ≤ q → A q := fun q h => by rw [hAe]; exact h
  have C : CxX p c code s #[Value.ref b] m D aT RL := ⟨hx, hb, hg, hown, hK⟩
  have hW : CxB D [] A s.heap s.heap [] := cx_nil va_S.rf
  have hl := lv_entry ([.ref b]) (n := 9) (Nat.le_of_ble_eq_true rfl)
  rw [lg_entry_eq]
  generalize (lg_sl ([.ref b]) ++ List.replicate (9 - (lg_sl ([.ref b])).length) Slot.unset).toArray = ls at hl ⊢
  have hl : lv_has ls 9 [(0, .ref b)] := hl
  refine cx_new C hA hW (ci := 12) (fs := [.null, .null, .null, .null, .null, .null, .int (nI 0), .int (nI 0), .int (nI 0)]) rfl inX9 tyX9 tyX9_ok gw_104 gw_105 gw_67 (fun j hj => by rcases (show j = 0 ∨ j = 1 ∨ j = 2 ∨ j = 3 ∨ j = 4 ∨ j = 5 ∨ j = 6 ∨ j = 7 ∨ j = 8 by omega) with rfl | rfl | rfl | rfl | rfl | rfl | rfl | rfl | rfl <;> rfl) (Nat.le_of_ble_eq_true rfl) (Nat.le_of_ble_eq_true rfl) dL_law_0 (fun x0 H hW => ?_)
  have hW : CxB D [(x0, .inr (12, [.null, .null, .null, .null, .null, .null, .int (nI 0), .int (nI 0), .int (nI 0)]))] A s.heap H _ := hW
  refine lv_dup hx hb dL_law_3 rfl ?_
  refine cx_callv (Wr := []) (cx_runI C hml hl.1 hZ hW hA (As := []) (rest := [.ref x0]) (k_X9_init l hfl D aT x0) gI_X9_init gw_67 gw_106 gw_107 rfl hI_X9_init rfl ⟨Nat.le_of_ble_eq_true rfl, Nat.le_of_ble_eq_true rfl⟩ ⟨Nat.le_of_ble_eq_true rfl, Nat.le_of_ble_eq_true rfl⟩ [0] rfl (by decide) rfl (Nat.le_of_ble_eq_true rfl) dL_law_4) hW hA [0] [] rfl rfl (by decide) (by decide) (fun _ _ _ _ _ _ h9 => h9.elim) (fun W1 H locs hq hW => ?_)
  obtain ⟨W0, hW, hO⟩ := init_ex hq (show CxB D W1 A s.heap H locs from hW)
  refine lv_astore_n (lv' := [(1, .ref x0), (0, .ref b)]) hx hb dL_law_7 rfl hl (by decide) rfl (fun ls hl => ?_)
  refine cx_new C hA hW (ci := 13) (fs := [.null, .null, .null, .int (nI 0), .null, .int (nI 0), .int (nI 0), .int (nI 0), .int (nI 0), .null, .int (nI 0), .null, .null, .null, .null, .int (nI 0), .int (nI 0), .null, .null, .null, .int (nI 0), .int (nI 0), .int (nI 0), .int (nI 0), .null, .int (nI 0)]) rfl inX10 tyX10 tyX10_ok gw_1617 gw_1618 gw_81 (fun j hj => by rcases (show j = 0 ∨ j = 1 ∨ j = 2 ∨ j = 3 ∨ j = 4 ∨ j = 5 ∨ j = 6 ∨ j = 7 ∨ j = 8 ∨ j = 9 ∨ j = 10 ∨ j = 11 ∨ j = 12 ∨ j = 13 ∨ j = 14 ∨ j = 15 ∨ j = 16 ∨ j = 17 ∨ j = 18 ∨ j = 19 ∨ j = 20 ∨ j = 21 ∨ j = 22 ∨ j = 23 ∨ j = 24 ∨ j = 25 by omega) with rfl | rfl | rfl | rfl | rfl | rfl | rfl | rfl | rfl | rfl | rfl | rfl | rfl | rfl | rfl | rfl | rfl | rfl | rfl | rfl | rfl | rfl | rfl | rfl | rfl | rfl <;> rfl) (Nat.le_of_ble_eq_true rfl) (Nat.le_of_ble_eq_true rfl) dL_law_8 (fun q0 H hW => ?_)
  have hW : CxB D (W0 ++ [(q0, .inr (13, [.null, .null, .null, .int (nI 0), .null, .int (nI 0), .int (nI 0), .int (nI 0), .int (nI 0), .null, .int (nI 0), .null, .null, .null, .null, .int (nI 0), .int (nI 0), .null, .null, .null, .int (nI 0), .int (nI 0), .int (nI 0), .int (nI 0), .null, .int (nI 0)]))]) A s.heap H _ := hW
  refine lv_dup hx hb dL_law_11 rfl ?_
  refine cx_callv (Wr := W0 ++ []) (cx_runI C hml hl.1 hZ hW hA (As := []) (rest := [.ref q0]) (k_X10_init l hfl D aT q0) gI_X10_init gw_81 gw_1619 gw_1620 rfl hI_X10_init rfl ⟨Nat.le_of_ble_eq_true rfl, Nat.le_of_ble_eq_true rfl⟩ ⟨Nat.le_of_ble_eq_true rfl, Nat.le_of_ble_eq_true rfl⟩ (sgK W0 [(q0, .inr (13, [.null, .null, .null, .int (nI 0), .null, .int (nI 0), .int (nI 0), .int (nI 0), .int (nI 0), .null, .int (nI 0), .null, .null, .null, .null, .int (nI 0), .int (nI 0), .null, .null, .null, .int (nI 0), .int (nI 0), .int (nI 0), .int (nI 0), .null, .int (nI 0)]))]) (sg_his W0 [(q0, .inr (13, [.null, .null, .null, .int (nI 0), .null, .int (nI 0), .int (nI 0), .int (nI 0), .int (nI 0), .null, .int (nI 0), .null, .null, .null, .null, .int (nI 0), .int (nI 0), .null, .null, .null, .int (nI 0), .int (nI 0), .int (nI 0), .int (nI 0), .null, .int (nI 0)]))] []) (sg_nd W0 [(q0, .inr (13, [.null, .null, .null, .int (nI 0), .null, .int (nI 0), .int (nI 0), .int (nI 0), .int (nI 0), .null, .int (nI 0), .null, .null, .null, .null, .int (nI 0), .int (nI 0), .null, .null, .null, .int (nI 0), .int (nI 0), .int (nI 0), .int (nI 0), .null, .int (nI 0)]))]) rfl (Nat.le_of_ble_eq_true rfl) dL_law_12) hW hA (sgK W0 [(q0, .inr (13, [.null, .null, .null, .int (nI 0), .null, .int (nI 0), .int (nI 0), .int (nI 0), .int (nI 0), .null, .int (nI 0), .null, .null, .null, .null, .int (nI 0), .int (nI 0), .null, .null, .null, .int (nI 0), .int (nI 0), .int (nI 0), .int (nI 0), .null, .int (nI 0)]))]) (sgR W0 [(q0, .inr (13, [.null, .null, .null, .int (nI 0), .null, .int (nI 0), .int (nI 0), .int (nI 0), .int (nI 0), .null, .int (nI 0), .null, .null, .null, .null, .int (nI 0), .int (nI 0), .null, .null, .null, .int (nI 0), .int (nI 0), .int (nI 0), .int (nI 0), .null, .int (nI 0)]))] []) (sg_his W0 [(q0, .inr (13, [.null, .null, .null, .int (nI 0), .null, .int (nI 0), .int (nI 0), .int (nI 0), .int (nI 0), .null, .int (nI 0), .null, .null, .null, .null, .int (nI 0), .int (nI 0), .null, .null, .null, .int (nI 0), .int (nI 0), .int (nI 0), .int (nI 0), .null, .int (nI 0)]))] []) (sg_hR W0 [(q0, .inr (13, [.null, .null, .null, .int (nI 0), .null, .int (nI 0), .int (nI 0), .int (nI 0), .int (nI 0), .null, .int (nI 0), .null, .null, .null, .null, .int (nI 0), .int (nI 0), .null, .null, .null, .int (nI 0), .int (nI 0), .int (nI 0), .int (nI 0), .null, .int (nI 0)]))] []) (sg_ndR W0 [(q0, .inr (13, [.null, .null, .null, .int (nI 0), .null, .int (nI 0), .int (nI 0), .int (nI 0), .int (nI 0), .null, .int (nI 0), .null, .null, .null, .null, .int (nI 0), .int (nI 0), .null, .null, .null, .int (nI 0), .int (nI 0), .int (nI 0), .int (nI 0), .null, .int (nI 0)]))] []) (sg_dis W0 [(q0, .inr (13, [.null, .null, .null, .int (nI 0), .null, .int (nI 0), .int (nI 0), .int (nI 0), .int (nI 0), .null, .int (nI 0), .null, .null, .null, .null, .int (nI 0), .int (nI 0), .null, .null, .null, .int (nI 0), .int (nI 0), .int (nI 0), .int (nI 0), .null, .int (nI 0)]))] []) (fun _ _ _ _ _ _ h9 => h9.elim) (fun W1 H locs hq hW => ?_)
  obtain ⟨ad, S, rfl, rfl, hm1, hm2, hm3, hm4, hm5⟩ := hq
  have hO := hO S hm1 hm3 hm4 hm5
  have hN : LnO S := ⟨0, by decide, hm3 25⟩
  refine lv_astore_n (lv' := [(2, .ref (ad 0)), (1, .ref x0), (0, .ref b)]) hx hb dL_law_15 rfl hl (by decide) rfl (fun ls hl => ?_)
  refine lv_iconst (v := nI 1) hx hb dL_law_16 (by decide) ?_
  refine cx_newa C hA hW 2 (atype := .long) (n := 1) (a0 := (1, .inr (.inl (fun _ => 0)))) gw_262 rfl rfl (fun _ _ h9 => h9) (fun _ => rfl) (by decide) (Nat.le_of_ble_eq_true rfl) (Nat.le_of_ble_eq_true rfl) (Nat.le_of_ble_eq_true rfl) dL_law_17 (fun u0 H hW => ?_)
  refine lv_astore_n (lv' := [(3, .ref u0), (2, .ref (ad 0)), (1, .ref x0), (0, .ref b)]) hx hb dL_law_19 rfl hl (by decide) rfl (fun ls hl => ?_)
  refine lv_iconst (v := nI 1) hx hb dL_law_20 (by decide) ?_
  refine cx_newa C hA hW 3 (atype := .double) (n := 1) (a0 := (1, .inr (.inr (.inr (.inl (fun _ => 0)))))) gw_2095 rfl rfl (fun _ _ h9 => h9) (fun _ => rfl) (by decide) (Nat.le_of_ble_eq_true rfl) (Nat.le_of_ble_eq_true rfl) (Nat.le_of_ble_eq_true rfl) dL_law_21 (fun u1 H hW => ?_)
  refine lv_astore (lv' := [(4, .ref u1), (3, .ref u0), (2, .ref (ad 0)), (1, .ref x0), (0, .ref b)]) hx hb dL_law_23 hl (by decide) rfl (fun ls hl => ?_)
  have hW : CxB D (mdW aT ad S ++ (oD aT u1 (fun _ => 0) ++ (oL aT u0 (fun _ => 0) ++ W0))) A s.heap H _ := CxB.perm (W := (((W0 ++ []) ++ mdW aT ad S) ++ oL aT u0 (fun _ => 0)) ++ oD aT u1 (fun _ => 0)) hW pz_0
  refine lv_iconst (v := nI 0) hx hb dL_law_25 (by decide) ?_
  refine lv_istore (lv' := [(5, .int (nI 0)), (4, .ref u1), (3, .ref u0), (2, .ref (ad 0)), (1, .ref x0), (0, .ref b)]) hx hb dL_law_26 hl (by decide) rfl (fun ls hl => ?_)
  refine W.widen (k := 1000) (n := 9000) (Nat.le_of_ble_eq_true rfl) (Nat.le_of_ble_eq_true rfl) ?_
  exact law_loop hfl hAe C hml hr hlocks hX hbl hL hZ L 0 S 0 _ _ W0 ls _ _ 1000 9000 (by omega) (Nat.zero_le _) (Nat.le_refl 0) (Nat.le_of_ble_eq_true rfl) (Nat.le_of_ble_eq_true rfl) hO hN hW hl
