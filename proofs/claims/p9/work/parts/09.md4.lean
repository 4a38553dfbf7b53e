theorem snM_eq {m : Nat → Int32} {s0 : Nat} (hs : m 3 = nI s0) (h : s0 < 4) : snM m = s0 := by unfold snM; rw [hs, nI_clamp (by omega)]
/-- what a row says of its hedges, read off it -/
def hM (m : Nat → Int32) : Nat := (m 0).toNatClampNeg
def lvM (m : Nat → Int32) (i : Nat) : Nat := (m (11 + 3 * i)).toNatClampNeg
def thM (m : Nat → Int32) (i : Nat) : Nat := (m (11 + 3 * i + 1)).toNatClampNeg
def taM (m : Nat → Int32) (i : Nat) : Nat := (m (11 + 3 * i + 2)).toNatClampNeg
def HeW (m : Nat → Int32) : Prop := HeR m (hM m) (lvM m) (thM m) (taM m)
theorem HeR.eqs {m : Nat → Int32} {h : Nat} {lv th ta : Nat → Nat} (H : HeR m h lv th ta) : hM m = h ∧ (∀ i, i < h → lvM m i = lv i) ∧ (∀ i, i < h → thM m i = th i) ∧ ∀ i, i < h → taM m i = ta i := by
  refine ⟨?_, fun i hi => ?_, fun i hi => ?_, fun i hi => ?_⟩
  · unfold hM; rw [H.1, nI_clamp (by have := H.2.1; omega)]
  · unfold lvM; rw [(H.2.2.1 i hi).1, nI_clamp (by have := (H.2.2.1 i hi).2; omega)]
  · unfold thM; rw [(H.2.2.2.1 i hi).1, nI_clamp (by have := (H.2.2.2.1 i hi).2; omega)]
  · unfold taM; rw [(H.2.2.2.2 i hi).1, nI_clamp (by have := (H.2.2.2.2 i hi).2; omega)]
theorem HeR.w {m : Nat → Int32} {h : Nat} {lv th ta : Nat → Nat} (H : HeR m h lv th ta) : HeW m := by
  obtain ⟨e1, e2, e3, e4⟩ := H.eqs
  unfold HeW
  rw [e1]
  obtain ⟨h1, h2, h3, h4, h5⟩ := id H
  exact ⟨h1, h2, fun i hi => by rw [e2 i hi]; exact h3 i hi, fun i hi => by rw [e3 i hi]; exact h4 i hi, fun i hi => by rw [e4 i hi]; exact h5 i hi⟩
/-- the row behind a vote of the first i hedges about a tone, and whether one has vetoed -/
def vtF (t : Nat) (m : Nat → Int32) : Nat → (Nat → Int32) × Bool
  | 0 => (m, false)
  | i + 1 => if vetB (dif (taM (vtF t m i).1 i) t) (thM (vtF t m i).1 i) then (upd (vtF t m i).1 (11 + 3 * i + 1) (nI (thM (vtF t m i).1 i - 1)), true) else vtF t m i
theorem HeW.thorn {m : Nat → Int32} (H : HeW m) {i q : Nat} (hi : i < hM m) (hq : q ≤ 9) : HeW (upd m (11 + 3 * i + 1) (nI q)) ∧ hM (upd m (11 + 3 * i + 1) (nI q)) = hM m ∧ (∀ k, k < hM m → lvM (upd m (11 + 3 * i + 1) (nI q)) k = lvM m k) ∧ ∀ k, k < hM m → taM (upd m (11 + 3 * i + 1) (nI q)) k = taM m k := by
  obtain ⟨h1, h2, h3, h4, h5⟩ := id H
  have key : HeR (upd m (11 + 3 * i + 1) (nI q)) (hM m) (lvM m) (fun k => if k = i then q else thM m k) (taM m) := by
    refine ⟨by rw [pk_un (by omega)]; exact h1, h2, fun k hk => by rw [pk_un (by omega)]; exact h3 k hk, fun k hk => ?_, fun k hk => by rw [pk_un (by omega)]; exact h5 k hk⟩
    by_cases hki : k = i
    · subst hki; dsimp only; rw [pk_us, if_pos rfl]; exact ⟨rfl, hq⟩
    · dsimp only; rw [pk_un (by omega), if_neg hki]; exact h4 k hk
  exact ⟨key.w, key.eqs.1, key.eqs.2.1, key.eqs.2.2.2⟩
theorem FoR.he {m m' : Nat → Int32} {n : Nat} {idn : Nat → Nat} {pr : Nat → Option Nat} {tn : Nat → Nat} (h : FoR m n idn pr tn) (e : ∀ j, j = 2 ∨ 29 ≤ j → m' j = m j) : FoR m' n idn pr tn := h.cong (fun j hj => e j (by rcases hj with rfl | ⟨k, w, _, _, rfl⟩ <;> omega))
/-- what the rows of a vote keep -/
def vtOk (m m' : Nat → Int32) : Prop := HeW m' ∧ hM m' = hM m ∧ (∀ j, (j < 11 ∨ 29 ≤ j) → m' j = m j) ∧ (∀ k, k < hM m → lvM m' k = lvM m k) ∧ ∀ k, k < hM m → taM m' k = taM m k
theorem vtF_ok {t : Nat} {m : Nat → Int32} (H : HeW m) : ∀ i, i ≤ hM m → vtOk m (vtF t m i).1 := by
  intro i
  induction i with
  | zero => intro _; exact ⟨H, rfl, fun _ _ => rfl, fun _ _ => rfl, fun _ _ => rfl⟩
  | succ i ih =>
    intro hi
    obtain ⟨a1, a2, a3, a4, a5⟩ := ih (by omega)
    unfold vtF
    split
    · have h9 := (a1.2.2.2.1 i (by rw [a2]; omega)).2
      have h6 := H.2.1
      obtain ⟨b1, b2, b3, b4⟩ := a1.thorn (i := i) (q := thM (vtF t m i).1 i - 1) (by rw [a2]; omega) (by omega)
      exact ⟨b1, by rw [b2, a2], fun j hj => by dsimp only; rw [pk_un (by omega)]; exact a3 j hj, fun k hk => by rw [b3 k (by rw [a2]; exact hk), a4 k hk], fun k hk => by rw [b4 k (by rw [a2]; exact hk), a5 k hk]⟩
    · exact ⟨a1, a2, a3, a4, a5⟩
theorem fav_cong {lv lv' ta ta' : Nat → Nat} {t : Nat} : ∀ {i : Nat}, (∀ k, k < i → lv k = lv' k) → (∀ k, k < i → ta k = ta' k) → fav lv ta t i = fav lv' ta' t i := by
  intro i
  induction i with
  | zero => intro _ _; rfl
  | succ i ih => intro h1 h2; unfold fav; rw [ih (fun k hk => h1 k (by omega)) (fun k hk => h2 k (by omega)), h1 i (by omega), h2 i (by omega)]
theorem sml_cong {lv lv' : Nat → Nat} : ∀ {i : Nat}, (∀ k, k < i → lv k = lv' k) → sml lv i = sml lv' i := by
  intro i
  induction i with
  | zero => intro _; rfl
  | succ i ih => intro h1; unfold sml; rw [ih (fun k hk => h1 k (by omega)), h1 i (by omega)]
theorem sml_le {lv : Nat → Nat} : ∀ {i : Nat}, (∀ k, k < i → lv k ≤ 99) → sml lv i ≤ 99 * i := by
  intro i
  induction i with
  | zero => intro _; exact Nat.le_refl _
  | succ i ih => intro h; unfold sml; have := ih (fun k hk => h k (by omega)); have := h i (by omega); omega
theorem fav_le {lv ta : Nat → Nat} {t : Nat} : ∀ {i : Nat}, (∀ k, k < i → lv k ≤ 99) → fav lv ta t i ≤ 99 * i := by
  intro i
  induction i with
  | zero => intro _; exact Nat.le_refl _
  | succ i ih =>
    intro h; unfold fav
    have := ih (fun k hk => h k (by omega))
    have := h i (by omega)
    split <;> omega
/-- whether a tip is carried, the vetoes aside -/
def carB (m : Nat → Int32) (t : Nat) : Bool := decide (sml (lvM m) (hM m) < 2 * fav (lvM m) (taM m) t (hM m))
theorem vtF_no {t i : Nat} {m mm : Nat → Int32} {b : Bool} (hv : (mm, b) = vtF t m i) (h : vetB (dif (taM mm i) t) (thM mm i) = false) : (mm, b) = vtF t m (i + 1) := by
  unfold vtF
  rw [← hv]
  dsimp only
  rw [h]
  rfl
theorem vtF_yes {t i : Nat} {m mm : Nat → Int32} {b : Bool} (hv : (mm, b) = vtF t m i) (h : vetB (dif (taM mm i) t) (thM mm i) = true) : (upd mm (11 + 3 * i + 1) (nI (thM mm i - 1)), true) = vtF t m (i + 1) := by
  unfold vtF
  rw [← hv]
  dsimp only
  rw [h]
  rfl
/-- the row behind a vote, and what the vote tells -/
def votF (m : Nat → Int32) (q : Nat) : Nat → Int32 := dropF (if (vtF (tnM m q) m (hM m)).2 = false ∧ carB (vtF (tnM m q) m (hM m)).1 (tnM m q) = true then carF (upd (vtF (tnM m q) m (hM m)).1 9 ((vtF (tnM m q) m (hM m)).1 9 + nI 1)) q else upd (vtF (tnM m q) m (hM m)).1 9 ((vtF (tnM m q) m (hM m)).1 9 + nI 1)) q (nM m)
def votC (m : Nat → Int32) (q : Nat) : Nat := if (vtF (tnM m q) m (hM m)).2 = true then 118 else if carB (vtF (tnM m q) m (hM m)).1 (tnM m q) = true then 99 else 114
theorem votF_v {m mm : Nat → Int32} {q : Nat} (hv : (mm, true) = vtF (tnM m q) m (hM m)) : votC m q = 118 ∧ votF m q = dropF (upd mm 9 (mm 9 + nI 1)) q (nM m) := by
  unfold votC votF
  rw [← hv]
  simp
theorem votF_c {m mm : Nat → Int32} {q : Nat} (hv : (mm, false) = vtF (tnM m q) m (hM m)) (hc : carB mm (tnM m q) = true) : votC m q = 99 ∧ votF m q = dropF (carF (upd mm 9 (mm 9 + nI 1)) q) q (nM m) := by
  unfold votC votF
  rw [← hv]
  simp [hc]
theorem votF_r {m mm : Nat → Int32} {q : Nat} (hv : (mm, false) = vtF (tnM m q) m (hM m)) (hc : carB mm (tnM m q) = false) : votC m q = 114 ∧ votF m q = dropF (upd mm 9 (mm 9 + nI 1)) q (nM m) := by
  unfold votC votF
  rw [← hv]
  simp [hc]
theorem carF_o {m : Nat → Int32} {k j : Nat} (h : j ≠ 8) (h2 : j < 4 ∨ 8 ≤ j) (h3 : j ≠ 10) (h4 : j < 29 ∨ ∀ p, j ≠ 29 + 4 * p + 3) (hs : snM m < 4) : carF m k j = m j := by
  unfold carF
  cases prM m k with
  | none => dsimp only; rw [pk_un h, pk_un (by omega), pk_un h3]
  | some p => dsimp only; rw [pk_un (by rcases h4 with h4 | h4; omega; exact h4 p), pk_un h3]
theorem gT_carries : GoodIn gw (wsV RX10 154 RX10 yX10_carries (Cond.code yX10_carries cX10_carries 2 (none) :: gw)) := gdV gw_1827 gw_1829 gw_43 gw_81 gw_1830
theorem hd_carries : yX10_carries.cls = RX10 ∧ yX10_carries.cls ≠ "java/lang/invoke/MethodHandle" ∧ yX10_carries.cls ≠ "java/lang/invoke/VarHandle" ∧ (parseMethodDescriptor yX10_carries.desc).map (fun d => d.parameters.length) = some 1 := ⟨rfl, by decide +kernel, by decide +kernel, by decide +kernel⟩
theorem dX10_carries_0 : decode cX10_carries 0 = .ok (.aload_n 0, 1) := by decide +kernel
theorem dX10_carries_1 : decode cX10_carries 1 = .ok (.getfield 9, 3) := by decide +kernel
theorem dX10_carries_4 : decode cX10_carries 4 = .ok (.bipush 10, 2) := by decide +kernel
theorem dX10_carries_6 : decode cX10_carries 6 = .ok (.dup2, 1) := by decide +kernel
theorem dX10_carries_7 : decode cX10_carries 7 = .ok (.iaload, 1) := by decide +kernel
theorem dX10_carries_8 : decode cX10_carries 8 = .ok (.iconst 1, 1) := by decide +kernel
theorem dX10_carries_9 : decode cX10_carries 9 = .ok (.iadd, 1) := by decide +kernel
theorem dX10_carries_10 : decode cX10_carries 10 = .ok (.iastore, 1) := by decide +kernel
theorem dX10_carries_11 : decode cX10_carries 11 = .ok (.aload_n 0, 1) := by decide +kernel
theorem dX10_carries_12 : decode cX10_carries 12 = .ok (.iload_n 1, 1) := by decide +kernel
theorem dX10_carries_13 : decode cX10_carries 13 = .ok (.invokevirtual 75, 3) := by decide +kernel
theorem dX10_carries_16 : decode cX10_carries 16 = .ok (.iconst (-1), 1) := by decide +kernel
theorem dX10_carries_17 : decode cX10_carries 17 = .ok (.if_icmp .ne 39, 3) := by decide +kernel
theorem dX10_carries_20 : decode cX10_carries 20 = .ok (.aload_n 0, 1) := by decide +kernel
theorem dX10_carries_21 : decode cX10_carries 21 = .ok (.getfield 9, 3) := by decide +kernel
theorem dX10_carries_24 : decode cX10_carries 24 = .ok (.iconst 4, 1) := by decide +kernel
theorem dX10_carries_25 : decode cX10_carries 25 = .ok (.aload_n 0, 1) := by decide +kernel
theorem dX10_carries_26 : decode cX10_carries 26 = .ok (.getfield 9, 3) := by decide +kernel
theorem dX10_carries_29 : decode cX10_carries 29 = .ok (.iconst 3, 1) := by decide +kernel
theorem dX10_carries_30 : decode cX10_carries 30 = .ok (.iaload, 1) := by decide +kernel
theorem dX10_carries_31 : decode cX10_carries 31 = .ok (.iadd, 1) := by decide +kernel
theorem dX10_carries_32 : decode cX10_carries 32 = .ok (.dup2, 1) := by decide +kernel
theorem dX10_carries_33 : decode cX10_carries 33 = .ok (.iaload, 1) := by decide +kernel
theorem dX10_carries_34 : decode cX10_carries 34 = .ok (.iconst 1, 1) := by decide +kernel
theorem dX10_carries_35 : decode cX10_carries 35 = .ok (.iadd, 1) := by decide +kernel
theorem dX10_carries_36 : decode cX10_carries 36 = .ok (.iastore, 1) := by decide +kernel
theorem dX10_carries_37 : decode cX10_carries 37 = .ok (.aload_n 0, 1) := by decide +kernel
theorem dX10_carries_38 : decode cX10_carries 38 = .ok (.getfield 9, 3) := by decide +kernel
theorem dX10_carries_41 : decode cX10_carries 41 = .ok (.bipush 8, 2) := by decide +kernel
theorem dX10_carries_43 : decode cX10_carries 43 = .ok (.dup2, 1) := by decide +kernel
theorem dX10_carries_44 : decode cX10_carries 44 = .ok (.iaload, 1) := by decide +kernel
theorem dX10_carries_45 : decode cX10_carries 45 = .ok (.aload_n 0, 1) := by decide +kernel
theorem dX10_carries_46 : decode cX10_carries 46 = .ok (.iload_n 1, 1) := by decide +kernel
theorem dX10_carries_47 : decode cX10_carries 47 = .ok (.iconst 3, 1) := by decide +kernel
theorem dX10_carries_48 : decode cX10_carries 48 = .ok (.invokevirtual 67, 3) := by decide +kernel
theorem dX10_carries_51 : decode cX10_carries 51 = .ok (.iadd, 1) := by decide +kernel
theorem dX10_carries_52 : decode cX10_carries 52 = .ok (.iastore, 1) := by decide +kernel
theorem dX10_carries_53 : decode cX10_carries 53 = .ok (.goto 29, 3) := by decide +kernel
theorem dX10_carries_56 : decode cX10_carries 56 = .ok (.aload_n 0, 1) := by decide +kernel
theorem dX10_carries_57 : decode cX10_carries 57 = .ok (.getfield 9, 3) := by decide +kernel
theorem dX10_carries_60 : decode cX10_carries 60 = .ok (.bipush 29, 2) := by decide +kernel
theorem dX10_carries_62 : decode cX10_carries 62 = .ok (.iconst 4, 1) := by decide +kernel
theorem dX10_carries_63 : decode cX10_carries 63 = .ok (.aload_n 0, 1) := by decide +kernel
theorem dX10_carries_64 : decode cX10_carries 64 = .ok (.iload_n 1, 1) := by decide +kernel
theorem dX10_carries_65 : decode cX10_carries 65 = .ok (.invokevirtual 75, 3) := by decide +kernel
theorem dX10_carries_68 : decode cX10_carries 68 = .ok (.imul, 1) := by decide +kernel
theorem dX10_carries_69 : decode cX10_carries 69 = .ok (.iadd, 1) := by decide +kernel
theorem dX10_carries_70 : decode cX10_carries 70 = .ok (.iconst 3, 1) := by decide +kernel
theorem dX10_carries_71 : decode cX10_carries 71 = .ok (.iadd, 1) := by decide +kernel
theorem dX10_carries_72 : decode cX10_carries 72 = .ok (.dup2, 1) := by decide +kernel
theorem dX10_carries_73 : decode cX10_carries 73 = .ok (.iaload, 1) := by decide +kernel
theorem dX10_carries_74 : decode cX10_carries 74 = .ok (.aload_n 0, 1) := by decide +kernel
theorem dX10_carries_75 : decode cX10_carries 75 = .ok (.iload_n 1, 1) := by decide +kernel
theorem dX10_carries_76 : decode cX10_carries 76 = .ok (.iconst 3, 1) := by decide +kernel
theorem dX10_carries_77 : decode cX10_carries 77 = .ok (.invokevirtual 67, 3) := by decide +kernel
theorem dX10_carries_80 : decode cX10_carries 80 = .ok (.iadd, 1) := by decide +kernel
theorem dX10_carries_81 : decode cX10_carries 81 = .ok (.iastore, 1) := by decide +kernel
theorem dX10_carries_82 : decode cX10_carries 82 = .ok (.return_, 1) := by decide +kernel
set_option maxHeartbeats 1000000 in
set_option maxRecDepth 20000 in
theorem m_carries (l : Launch) (D : va_G) (aT : Nat → ClassId) (ad : Nat → Nat) (S : MSt) (k s0 : Nat) (hF : FoW (S 0)) (hk : k < nM (S 0)) (hs : S 0 3 = nI s0) (hs4 : s0 < 4) : MdV l yX10_carries cX10_carries 2 3 65 D aT ad [.ref (ad 0), .int (nI k)] S (fun S1 => S1 = sr S 0 (carF (S 0) k)) := by
  have hFc : ∀ x, FoR (upd (S 0) 10 x) (nM (S 0)) (idM (S 0)) (prM (S 0)) (tnM (S 0)) := fun x => FoR.he hF (fun j hj => pk_un (by omega))
  have hsn : snM (S 0) = s0 := snM_eq hs hs4
  have h12 := hF.n12
  refine MdV.of (by decide +kernel) rfl (Nat.le_of_ble_eq_true rfl) ?_
  intro p e s m below meth c A ls C hml hl hA hr hlocks hW
  have hl : lv_has ls 2 [(0, .ref (ad 0)), (1, .int (nI k))] := hl
  have hx := C.1
  have hb := C.2.1
  refine lv_aload_n hx hb dX10_carries_0 rfl (lv_at hl 0 rfl) ?_
  refine md_geta_m C hW dX10_carries_1 ?_
  refine lv_bipush (v := nI 10) hx hb dX10_carries_4 (by decide) ?_
  refine lv_dup2_11 hx hb dX10_carries_6 rfl rfl ?_
  refine md_ald_m C hW (i := 10) (by omega) dX10_carries_7 ?_
  refine r_eq (y := (S 0 10)) (rfl) ?_
  refine lv_iconst (v := nI 1) hx hb dX10_carries_8 (by decide) ?_
  refine lv_iadd hx hb dX10_carries_9 ?_
  refine md_ast_m C hW (i := 10) (by omega) dX10_carries_10 (fun H locs hW => ?_)
  refine lv_aload_n hx hb dX10_carries_11 rfl (lv_at hl 0 rfl) ?_
  refine lv_iload_n hx hb dX10_carries_12 rfl (lv_at hl 1 rfl) ?_
  refine md_callg C hml hl.1 (As := [.int (nI k)]) (rest := []) (m_above l D aT ad (sr S 0 (upd (S 0) 10 (((S 0 10) + (nI 1))))) (nM (S 0)) (idM (S 0)) (prM (S 0)) (tnM (S 0)) (hFc _) k (hk)) gT_above hd_above rfl ⟨Nat.le_of_ble_eq_true rfl, Nat.le_of_ble_eq_true rfl⟩ ⟨Nat.le_refl _, Nat.le_refl _⟩ hW hA rfl (Nat.le_of_ble_eq_true rfl) dX10_carries_13 (fun r_13 H locs hq hW => ?_)
  subst hq
  refine lv_iconst (v := (-1)) hx hb dX10_carries_16 (by decide) ?_
  refine r_oi_ne hx hb (o := ((prM (S 0)) k)) (hF.plim hk) (tgt := 56) dX10_carries_17 (by decide) (fun j_17 c_17 => ?_) (fun c_17 => ?_)
  · have hj17 := hF.par hk c_17
    have h12 := hF.n12
    refine lv_aload_n hx hb dX10_carries_56 rfl (lv_at hl 0 rfl) ?_
    refine md_geta_m C hW dX10_carries_57 ?_
    refine lv_bipush (v := nI 29) hx hb dX10_carries_60 (by decide) ?_
    refine lv_iconst (v := nI 4) hx hb dX10_carries_62 (by decide) ?_
    refine lv_aload_n hx hb dX10_carries_63 rfl (lv_at hl 0 rfl) ?_
    refine lv_iload_n hx hb dX10_carries_64 rfl (lv_at hl 1 rfl) ?_
    refine md_callg C hml hl.1 (As := [.int (nI k)]) (rest := [.int (nI 4), .int (nI 29), .ref (ad 1)]) (m_above l D aT ad (sr S 0 (upd (S 0) 10 (((S 0 10) + (nI 1))))) (nM (S 0)) (idM (S 0)) (prM (S 0)) (tnM (S 0)) (hFc _) k (hk)) gT_above hd_above rfl ⟨Nat.le_of_ble_eq_true rfl, Nat.le_of_ble_eq_true rfl⟩ ⟨Nat.le_refl _, Nat.le_refl _⟩ hW hA rfl (Nat.le_of_ble_eq_true rfl) dX10_carries_65 (fun r_65 H locs hq hW => ?_)
    subst hq
    refine r_eq (y := (nI j_17)) (by rw [c_17]; rfl) ?_
    refine r_imulN hx hb (a := 4) (b := j_17) dX10_carries_68 ?_
    refine r_iaddN hx hb (a := 29) (b := 4 * j_17) dX10_carries_69 ?_
    refine lv_iconst (v := nI 3) hx hb dX10_carries_70 (by decide) ?_
    refine r_iaddN hx hb (a := 29 + 4 * j_17) (b := 3) dX10_carries_71 ?_
    refine lv_dup2_11 hx hb dX10_carries_72 rfl rfl ?_
    refine md_ald_m C hW (i := 29 + 4 * j_17 + 3) (by omega) dX10_carries_73 ?_
    refine r_eq (y := (S 0 (29 + 4 * j_17 + 3))) (by simp only [sr, upd, ↓reduceIte]; (repeat rw [if_neg (by omega)]); first | done | rfl) ?_
    refine lv_aload_n hx hb dX10_carries_74 rfl (lv_at hl 0 rfl) ?_
    refine lv_iload_n hx hb dX10_carries_75 rfl (lv_at hl 1 rfl) ?_
    refine lv_iconst (v := nI 3) hx hb dX10_carries_76 (by decide) ?_
    refine md_callg C hml hl.1 (As := [.int (nI k), .int (nI 3)]) (rest := [.int (S 0 (29 + 4 * j_17 + 3)), .int (nI (29 + 4 * j_17 + 3)), .ref (ad 1)]) (m_of l D aT ad (sr S 0 (upd (S 0) 10 (((S 0 10) + (nI 1))))) k 3 (by have := hF.n12; omega)) gT_of hd_of rfl ⟨Nat.le_of_ble_eq_true rfl, Nat.le_of_ble_eq_true rfl⟩ ⟨Nat.le_refl _, Nat.le_refl _⟩ hW hA rfl (Nat.le_of_ble_eq_true rfl) dX10_carries_77 (fun r_77 H locs hq hW => ?_)
    subst hq
    refine r_eq (y := (S 0 (29 + 4 * k + 3))) (by simp only [sr, upd, ↓reduceIte]; (repeat rw [if_neg (by omega)]); first | done | rfl) ?_
    refine lv_iadd hx hb dX10_carries_80 ?_
    refine md_ast_m C hW (i := 29 + 4 * j_17 + 3) (by omega) dX10_carries_81 (fun H locs hW => ?_)
    exact md_vret C hr hlocks hW (by unfold carF; rw [c_17]; (try rw [hsn]); simp only [sr_sr, sr_s]) dX10_carries_82
  · refine lv_aload_n hx hb dX10_carries_20 rfl (lv_at hl 0 rfl) ?_
    refine md_geta_m C hW dX10_carries_21 ?_
    refine lv_iconst (v := nI 4) hx hb dX10_carries_24 (by decide) ?_
    refine lv_aload_n hx hb dX10_carries_25 rfl (lv_at hl 0 rfl) ?_
    refine md_geta_m C hW dX10_carries_26 ?_
    refine lv_iconst (v := nI 3) hx hb dX10_carries_29 (by decide) ?_
    refine md_ald_m C hW (i := 3) (by omega) dX10_carries_30 ?_
    refine r_eq (y := (nI s0)) (by simp only [sr, upd, ↓reduceIte]; (repeat rw [if_neg (by omega)]); exact hs) ?_
    refine r_iaddN hx hb (a := 4) (b := s0) dX10_carries_31 ?_
    refine lv_dup2_11 hx hb dX10_carries_32 rfl rfl ?_
    refine md_ald_m C hW (i := 4 + s0) (by omega) dX10_carries_33 ?_
    refine r_eq (y := (S 0 (4 + s0))) (by simp only [sr, upd, ↓reduceIte]; (repeat rw [if_neg (by omega)]); first | done | rfl) ?_
    refine lv_iconst (v := nI 1) hx hb dX10_carries_34 (by decide) ?_
    refine lv_iadd hx hb dX10_carries_35 ?_
    refine md_ast_m C hW (i := 4 + s0) (by omega) dX10_carries_36 (fun H locs hW => ?_)
    refine lv_aload_n hx hb dX10_carries_37 rfl (lv_at hl 0 rfl) ?_
    refine md_geta_m C hW dX10_carries_38 ?_
    refine lv_bipush (v := nI 8) hx hb dX10_carries_41 (by decide) ?_
    refine lv_dup2_11 hx hb dX10_carries_43 rfl rfl ?_
    refine md_ald_m C hW (i := 8) (by omega) dX10_carries_44 ?_
    refine r_eq (y := (S 0 8)) (by simp only [sr, upd, ↓reduceIte]; (repeat rw [if_neg (by omega)]); first | done | rfl) ?_
    refine lv_aload_n hx hb dX10_carries_45 rfl (lv_at hl 0 rfl) ?_
    refine lv_iload_n hx hb dX10_carries_46 rfl (lv_at hl 1 rfl) ?_
    refine lv_iconst (v := nI 3) hx hb dX10_carries_47 (by decide) ?_
    refine md_callg C hml hl.1 (As := [.int (nI k), .int (nI 3)]) (rest := [.int (S 0 8), .int (nI 8), .ref (ad 1)]) (m_of l D aT ad (sr (sr S 0 (upd (S 0) 10 (((S 0 10) + (nI 1))))) 0 (upd ((sr S 0 (upd (S 0) 10 (((S 0 10) + (nI 1))))) 0) (4 + s0) (((S 0 (4 + s0)) + (nI 1))))) k 3 (by have := hF.n12; omega)) gT_of hd_of rfl ⟨Nat.le_of_ble_eq_true rfl, Nat.le_of_ble_eq_true rfl⟩ ⟨Nat.le_refl _, Nat.le_refl _⟩ hW hA rfl (Nat.le_of_ble_eq_true rfl) dX10_carries_48 (fun r_48 H locs hq hW => ?_)
    subst hq
    refine r_eq (y := (S 0 (29 + 4 * k + 3))) (by simp only [sr, upd, ↓reduceIte]; (repeat rw [if_neg (by omega)]); first | done | rfl) ?_
    refine lv_iadd hx hb dX10_carries_51 ?_
    refine md_ast_m C hW (i := 8) (by omega) dX10_carries_52 (fun H locs hW => ?_)
    refine lv_goto (tgt := 82) hx hb dX10_carries_53 (by decide) ?_
    exact md_vret C hr hlocks hW (by unfold carF; rw [c_17]; (try rw [hsn]); simp only [sr_sr, sr_s]) dX10_carries_82
