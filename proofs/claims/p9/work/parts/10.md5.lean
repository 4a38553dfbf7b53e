def byF (s : Nat) : Int32 := if s = 0 then nI 4 else if s = 1 then nI 2 else if s = 2 then -2 else -4
/-- a hedge's leaves when a season begins -/
def leafN (s lv : Nat) : Nat := if s = 0 then min 99 (lv + 4) else if s = 1 then min 99 (lv + 2) else if s = 2 then max 1 (lv - 2) else max 1 (lv - 4)
def taddN (s th : Nat) : Nat := if s = 0 ∧ th < 9 then 1 else 0
def clpF (x : Int32) : Int32 := if nI 1 < (if x < nI 99 then x else nI 99) then (if x < nI 99 then x else nI 99) else nI 1
theorem clp_eq : ∀ s, s < 4 → ∀ lv, lv < 100 → 1 ≤ lv → clpF (nI lv + byF s) = nI (leafN s lv) := by decide +kernel
theorem leafN_in {s lv : Nat} (h1 : 1 ≤ lv) (h2 : lv ≤ 99) : 1 ≤ leafN s lv ∧ leafN s lv ≤ 99 := by
  unfold leafN; split
  · omega
  · split
    · omega
    · split <;> omega
theorem taddN_in {s th : Nat} (h : th ≤ 9) : th + taddN s th ≤ 9 := by unfold taddN; split <;> omega
/-- the row when a season has begun, of the first i hedges -/
def seaF (s : Nat) (m : Nat → Int32) : Nat → Nat → Int32
  | 0 => m
  | i + 1 => upd (upd (seaF s m i) (11 + 3 * i) (nI (leafN s (lvM (seaF s m i) i)))) (11 + 3 * i + 1) (nI (thM (seaF s m i) i + taddN s (thM (seaF s m i) i)))
def seaOk (m m' : Nat → Int32) : Prop := HeW m' ∧ hM m' = hM m ∧ ∀ j, (j < 11 ∨ 29 ≤ j) → m' j = m j
theorem HeW.grow {m : Nat → Int32} (H : HeW m) {i a b : Nat} (hi : i < hM m) (ha : 1 ≤ a ∧ a ≤ 99) (hb : b ≤ 9) : HeW (upd (upd m (11 + 3 * i) (nI a)) (11 + 3 * i + 1) (nI b)) ∧ hM (upd (upd m (11 + 3 * i) (nI a)) (11 + 3 * i + 1) (nI b)) = hM m := by
  obtain ⟨h1, h2, h3, h4, h5⟩ := id H
  have key : HeR (upd (upd m (11 + 3 * i) (nI a)) (11 + 3 * i + 1) (nI b)) (hM m) (fun k => if k = i then a else lvM m k) (fun k => if k = i then b else thM m k) (taM m) := by
    refine ⟨by rw [pk_un (by omega), pk_un (by omega)]; exact h1, h2, fun k hk => ?_, fun k hk => ?_, fun k hk => by rw [pk_un (by omega), pk_un (by omega)]; exact h5 k hk⟩
    · by_cases hki : k = i
      · subst hki; dsimp only; rw [pk_un (by omega), pk_us, if_pos rfl]; exact ⟨rfl, ha⟩
      · dsimp only; rw [pk_un (by omega), pk_un (by omega), if_neg hki]; exact h3 k hk
    · by_cases hki : k = i
      · subst hki; dsimp only; rw [pk_us, if_pos rfl]; exact ⟨rfl, hb⟩
      · dsimp only; rw [pk_un (by omega), pk_un (by omega), if_neg hki]; exact h4 k hk
  exact ⟨key.w, key.eqs.1⟩
theorem seaF_ok {s : Nat} {m : Nat → Int32} (H : HeW m) : ∀ i, i ≤ hM m → seaOk m (seaF s m i) := by
  intro i
  induction i with
  | zero => intro _; exact ⟨H, rfl, fun _ _ => rfl⟩
  | succ i ih =>
    intro hi
    obtain ⟨a1, a2, a3⟩ := ih (by omega)
    have h6 := H.2.1
    have hl := (a1.2.2.1 i (by rw [a2]; omega)).2
    have ht := (a1.2.2.2.1 i (by rw [a2]; omega)).2
    obtain ⟨b1, b2⟩ := a1.grow (i := i) (by rw [a2]; omega) (leafN_in (s := s) hl.1 hl.2) (taddN_in (s := s) ht)
    unfold seaF
    exact ⟨b1, by rw [b2, a2], fun j hj => by rw [pk_un (by omega), pk_un (by omega)]; exact a3 j hj⟩
theorem gT_voteIt : GoodIn gw (wsV RX10 157 RX10 yX10_voteIt (Cond.code yX10_voteIt cX10_voteIt 5 (some .int) :: gw)) := gdV gw_1804 gw_1806 gw_38 gw_81 gw_1807
theorem hd_voteIt : yX10_voteIt.cls = RX10 ∧ yX10_voteIt.cls ≠ "java/lang/invoke/MethodHandle" ∧ yX10_voteIt.cls ≠ "java/lang/invoke/VarHandle" ∧ (parseMethodDescriptor yX10_voteIt.desc).map (fun d => d.parameters.length) = some 1 := ⟨rfl, by decide +kernel, by decide +kernel, by decide +kernel⟩
theorem dX10_voteIt_0 : decode cX10_voteIt 0 = .ok (.aload_n 0, 1) := by decide +kernel
theorem dX10_voteIt_1 : decode cX10_voteIt 1 = .ok (.iload_n 1, 1) := by decide +kernel
theorem dX10_voteIt_2 : decode cX10_voteIt 2 = .ok (.invokevirtual 71, 3) := by decide +kernel
theorem dX10_voteIt_5 : decode cX10_voteIt 5 = .ok (.istore_n 2, 1) := by decide +kernel
theorem dX10_voteIt_6 : decode cX10_voteIt 6 = .ok (.iload_n 2, 1) := by decide +kernel
theorem dX10_voteIt_7 : decode cX10_voteIt 7 = .ok (.iconst (-1), 1) := by decide +kernel
theorem dX10_voteIt_8 : decode cX10_voteIt 8 = .ok (.if_icmp .ne 9, 3) := by decide +kernel
theorem dX10_voteIt_11 : decode cX10_voteIt 11 = .ok (.aload_n 0, 1) := by decide +kernel
theorem dX10_voteIt_12 : decode cX10_voteIt 12 = .ok (.iconst 1, 1) := by decide +kernel
theorem dX10_voteIt_13 : decode cX10_voteIt 13 = .ok (.invokevirtual 101, 3) := by decide +kernel
theorem dX10_voteIt_16 : decode cX10_voteIt 16 = .ok (.ireturn, 1) := by decide +kernel
theorem dX10_voteIt_17 : decode cX10_voteIt 17 = .ok (.aload_n 0, 1) := by decide +kernel
theorem dX10_voteIt_18 : decode cX10_voteIt 18 = .ok (.getfield 9, 3) := by decide +kernel
theorem dX10_voteIt_21 : decode cX10_voteIt 21 = .ok (.iconst 0, 1) := by decide +kernel
theorem dX10_voteIt_22 : decode cX10_voteIt 22 = .ok (.iaload, 1) := by decide +kernel
theorem dX10_voteIt_23 : decode cX10_voteIt 23 = .ok (.ifCond .eq 11, 3) := by decide +kernel
theorem dX10_voteIt_26 : decode cX10_voteIt 26 = .ok (.aload_n 0, 1) := by decide +kernel
theorem dX10_voteIt_27 : decode cX10_voteIt 27 = .ok (.iload_n 2, 1) := by decide +kernel
theorem dX10_voteIt_28 : decode cX10_voteIt 28 = .ok (.invokevirtual 82, 3) := by decide +kernel
theorem dX10_voteIt_31 : decode cX10_voteIt 31 = .ok (.ifCond .ne 9, 3) := by decide +kernel
theorem dX10_voteIt_34 : decode cX10_voteIt 34 = .ok (.aload_n 0, 1) := by decide +kernel
theorem dX10_voteIt_35 : decode cX10_voteIt 35 = .ok (.iconst 2, 1) := by decide +kernel
theorem dX10_voteIt_36 : decode cX10_voteIt 36 = .ok (.invokevirtual 101, 3) := by decide +kernel
theorem dX10_voteIt_39 : decode cX10_voteIt 39 = .ok (.ireturn, 1) := by decide +kernel
theorem dX10_voteIt_40 : decode cX10_voteIt 40 = .ok (.iconst 0, 1) := by decide +kernel
theorem dX10_voteIt_41 : decode cX10_voteIt 41 = .ok (.istore_n 3, 1) := by decide +kernel
theorem dX10_voteIt_42 : decode cX10_voteIt 42 = .ok (.iconst 0, 1) := by decide +kernel
theorem dX10_voteIt_43 : decode cX10_voteIt 43 = .ok (.istore 4, 2) := by decide +kernel
theorem dX10_voteIt_45 : decode cX10_voteIt 45 = .ok (.iload 4, 2) := by decide +kernel
theorem dX10_voteIt_47 : decode cX10_voteIt 47 = .ok (.aload_n 0, 1) := by decide +kernel
theorem dX10_voteIt_48 : decode cX10_voteIt 48 = .ok (.getfield 9, 3) := by decide +kernel
theorem dX10_voteIt_51 : decode cX10_voteIt 51 = .ok (.iconst 0, 1) := by decide +kernel
theorem dX10_voteIt_52 : decode cX10_voteIt 52 = .ok (.iaload, 1) := by decide +kernel
theorem dX10_voteIt_53 : decode cX10_voteIt 53 = .ok (.if_icmp .ge 37, 3) := by decide +kernel
theorem dX10_voteIt_56 : decode cX10_voteIt 56 = .ok (.aload_n 0, 1) := by decide +kernel
theorem dX10_voteIt_57 : decode cX10_voteIt 57 = .ok (.iload 4, 2) := by decide +kernel
theorem dX10_voteIt_59 : decode cX10_voteIt 59 = .ok (.iload_n 2, 1) := by decide +kernel
theorem dX10_voteIt_60 : decode cX10_voteIt 60 = .ok (.invokevirtual 144, 3) := by decide +kernel
theorem dX10_voteIt_63 : decode cX10_voteIt 63 = .ok (.ifCond .eq 21, 3) := by decide +kernel
theorem dX10_voteIt_66 : decode cX10_voteIt 66 = .ok (.aload_n 0, 1) := by decide +kernel
theorem dX10_voteIt_67 : decode cX10_voteIt 67 = .ok (.getfield 9, 3) := by decide +kernel
theorem dX10_voteIt_70 : decode cX10_voteIt 70 = .ok (.iload 4, 2) := by decide +kernel
theorem dX10_voteIt_72 : decode cX10_voteIt 72 = .ok (.invokestatic 86, 3) := by decide +kernel
theorem dX10_voteIt_75 : decode cX10_voteIt 75 = .ok (.iconst 1, 1) := by decide +kernel
theorem dX10_voteIt_76 : decode cX10_voteIt 76 = .ok (.iadd, 1) := by decide +kernel
theorem dX10_voteIt_77 : decode cX10_voteIt 77 = .ok (.dup2, 1) := by decide +kernel
theorem dX10_voteIt_78 : decode cX10_voteIt 78 = .ok (.iaload, 1) := by decide +kernel
theorem dX10_voteIt_79 : decode cX10_voteIt 79 = .ok (.iconst 1, 1) := by decide +kernel
theorem dX10_voteIt_80 : decode cX10_voteIt 80 = .ok (.isub, 1) := by decide +kernel
theorem dX10_voteIt_81 : decode cX10_voteIt 81 = .ok (.iastore, 1) := by decide +kernel
theorem dX10_voteIt_82 : decode cX10_voteIt 82 = .ok (.iconst 1, 1) := by decide +kernel
theorem dX10_voteIt_83 : decode cX10_voteIt 83 = .ok (.istore_n 3, 1) := by decide +kernel
theorem dX10_voteIt_84 : decode cX10_voteIt 84 = .ok (.iinc 4 1, 3) := by decide +kernel
theorem dX10_voteIt_87 : decode cX10_voteIt 87 = .ok (.goto (-42), 3) := by decide +kernel
theorem dX10_voteIt_90 : decode cX10_voteIt 90 = .ok (.iload_n 3, 1) := by decide +kernel
theorem dX10_voteIt_91 : decode cX10_voteIt 91 = .ok (.ifCond .ne 21, 3) := by decide +kernel
theorem dX10_voteIt_94 : decode cX10_voteIt 94 = .ok (.iconst 2, 1) := by decide +kernel
theorem dX10_voteIt_95 : decode cX10_voteIt 95 = .ok (.aload_n 0, 1) := by decide +kernel
theorem dX10_voteIt_96 : decode cX10_voteIt 96 = .ok (.iload_n 2, 1) := by decide +kernel
theorem dX10_voteIt_97 : decode cX10_voteIt 97 = .ok (.invokevirtual 147, 3) := by decide +kernel
theorem dX10_voteIt_100 : decode cX10_voteIt 100 = .ok (.imul, 1) := by decide +kernel
theorem dX10_voteIt_101 : decode cX10_voteIt 101 = .ok (.aload_n 0, 1) := by decide +kernel
theorem dX10_voteIt_102 : decode cX10_voteIt 102 = .ok (.invokevirtual 150, 3) := by decide +kernel
theorem dX10_voteIt_105 : decode cX10_voteIt 105 = .ok (.if_icmp .le 7, 3) := by decide +kernel
theorem dX10_voteIt_108 : decode cX10_voteIt 108 = .ok (.iconst 1, 1) := by decide +kernel
theorem dX10_voteIt_109 : decode cX10_voteIt 109 = .ok (.goto 4, 3) := by decide +kernel
theorem dX10_voteIt_112 : decode cX10_voteIt 112 = .ok (.iconst 0, 1) := by decide +kernel
theorem dX10_voteIt_113 : decode cX10_voteIt 113 = .ok (.istore 4, 2) := by decide +kernel
theorem dX10_voteIt_115 : decode cX10_voteIt 115 = .ok (.aload_n 0, 1) := by decide +kernel
theorem dX10_voteIt_116 : decode cX10_voteIt 116 = .ok (.getfield 9, 3) := by decide +kernel
theorem dX10_voteIt_119 : decode cX10_voteIt 119 = .ok (.bipush 9, 2) := by decide +kernel
theorem dX10_voteIt_121 : decode cX10_voteIt 121 = .ok (.dup2, 1) := by decide +kernel
theorem dX10_voteIt_122 : decode cX10_voteIt 122 = .ok (.iaload, 1) := by decide +kernel
theorem dX10_voteIt_123 : decode cX10_voteIt 123 = .ok (.iconst 1, 1) := by decide +kernel
theorem dX10_voteIt_124 : decode cX10_voteIt 124 = .ok (.iadd, 1) := by decide +kernel
theorem dX10_voteIt_125 : decode cX10_voteIt 125 = .ok (.iastore, 1) := by decide +kernel
theorem dX10_voteIt_126 : decode cX10_voteIt 126 = .ok (.iload 4, 2) := by decide +kernel
theorem dX10_voteIt_128 : decode cX10_voteIt 128 = .ok (.ifCond .eq 8, 3) := by decide +kernel
theorem dX10_voteIt_131 : decode cX10_voteIt 131 = .ok (.aload_n 0, 1) := by decide +kernel
theorem dX10_voteIt_132 : decode cX10_voteIt 132 = .ok (.iload_n 2, 1) := by decide +kernel
theorem dX10_voteIt_133 : decode cX10_voteIt 133 = .ok (.invokevirtual 154, 3) := by decide +kernel
theorem dX10_voteIt_136 : decode cX10_voteIt 136 = .ok (.aload_n 0, 1) := by decide +kernel
theorem dX10_voteIt_137 : decode cX10_voteIt 137 = .ok (.iload_n 2, 1) := by decide +kernel
theorem dX10_voteIt_138 : decode cX10_voteIt 138 = .ok (.invokevirtual 128, 3) := by decide +kernel
theorem dX10_voteIt_141 : decode cX10_voteIt 141 = .ok (.iload_n 3, 1) := by decide +kernel
theorem dX10_voteIt_142 : decode cX10_voteIt 142 = .ok (.ifCond .eq 8, 3) := by decide +kernel
theorem dX10_voteIt_145 : decode cX10_voteIt 145 = .ok (.bipush 118, 2) := by decide +kernel
theorem dX10_voteIt_147 : decode cX10_voteIt 147 = .ok (.goto 15, 3) := by decide +kernel
theorem dX10_voteIt_150 : decode cX10_voteIt 150 = .ok (.iload 4, 2) := by decide +kernel
theorem dX10_voteIt_152 : decode cX10_voteIt 152 = .ok (.ifCond .eq 8, 3) := by decide +kernel
theorem dX10_voteIt_155 : decode cX10_voteIt 155 = .ok (.bipush 99, 2) := by decide +kernel
theorem dX10_voteIt_157 : decode cX10_voteIt 157 = .ok (.goto 5, 3) := by decide +kernel
theorem dX10_voteIt_160 : decode cX10_voteIt 160 = .ok (.bipush 114, 2) := by decide +kernel
theorem dX10_voteIt_162 : decode cX10_voteIt 162 = .ok (.ireturn, 1) := by decide +kernel
set_option maxHeartbeats 4000000 in
set_option maxRecDepth 20000 in
theorem m_voteIt (l : Launch) (D : va_G) (aT : Nat → ClassId) (ad : Nat → Nat) (S : MSt) (x : Int32) (s0 : Nat) (hF : FoW (S 0)) (hH : HeW (S 0)) (hs : S 0 3 = nI s0) (hs4 : s0 < 4) : MdI l yX10_voteIt cX10_voteIt 5 .int 4 88 D aT ad [.ref (ad 0), .int x] S (fun r S1 => (fnd (fun k => S 0 (29 + 4 * k)) x (nM (S 0)) = none ∧ r = -1 ∧ S1 = ss S 8 (nI 1)) ∨ (∃ q, fnd (fun k => S 0 (29 + 4 * k)) x (nM (S 0)) = some q ∧ (hM (S 0) = 0 ∨ tipB (prM (S 0)) q (nM (S 0)) = false) ∧ r = -1 ∧ S1 = ss S 8 (nI 2)) ∨ (∃ q, fnd (fun k => S 0 (29 + 4 * k)) x (nM (S 0)) = some q ∧ 0 < hM (S 0) ∧ tipB (prM (S 0)) q (nM (S 0)) = true ∧ r = nI (votC (S 0) q) ∧ S1 = sr S 0 (votF (S 0) q))) := by
  refine MdI.of (by decide +kernel) rfl (Nat.le_of_ble_eq_true rfl) ?_
  intro p e s m below meth c A ls C hml hl hA hr hlocks hW
  have hl : lv_has ls 5 [(0, .ref (ad 0)), (1, .int x)] := hl
  have hx := C.1
  have hb := C.2.1
  refine lv_aload_n hx hb dX10_voteIt_0 rfl (lv_at hl 0 rfl) ?_
  refine lv_iload_n hx hb dX10_voteIt_1 rfl (lv_at hl 1 rfl) ?_
  refine md_callg C hml hl.1 (As := [.int x]) (rest := []) (m_find l D aT ad S (x) (nM (S 0)) hF.1 hF.2.1) gT_find hd_find rfl ⟨Nat.le_of_ble_eq_true rfl, Nat.le_of_ble_eq_true rfl⟩ ⟨Nat.le_refl _, Nat.le_refl _⟩ hW hA rfl (Nat.le_of_ble_eq_true rfl) dX10_voteIt_2 (fun r_2 H locs hq hW => ?_)
  subst hq
  refine lv_istore_n (lv' := [(2, .int (oi (fnd (fun k => S 0 (29 + 4 * k)) (x) (nM (S 0))))), (0, .ref (ad 0)), (1, .int x)]) hx hb dX10_voteIt_5 rfl hl (by decide) rfl (fun ls hl => ?_)
  refine lv_iload_n hx hb dX10_voteIt_6 rfl (lv_at hl 0 rfl) ?_
  refine lv_iconst (v := (-1)) hx hb dX10_voteIt_7 (by decide) ?_
  refine r_oi_ne hx hb (o := (fnd (fun k => S 0 (29 + 4 * k)) (x) (nM (S 0)))) (fun j hj => by have := (fnd_some hj).1; have := hF.n12; omega) (tgt := 17) dX10_voteIt_8 (by decide) (fun j_8 c_8 => ?_) (fun c_8 => ?_)
  · have hl : lv_has ls 5 [(2, .int (nI j_8)), (0, .ref (ad 0)), (1, .int x)] := by rw [c_8] at hl; exact hl
    have hq := (fnd_some c_8).1
    have h12 := hF.n12
    refine lv_aload_n hx hb dX10_voteIt_17 rfl (lv_at hl 1 rfl) ?_
    refine md_geta_m C hW dX10_voteIt_18 ?_
    refine lv_iconst (v := nI 0) hx hb dX10_voteIt_21 (by decide) ?_
    refine md_ald_m C hW (i := 0) (by omega) dX10_voteIt_22 ?_
    refine r_eq (y := (nI (hM (S 0)))) (hH.1) ?_
    refine r_ifeqN hx hb (a := (hM (S 0))) (by have := hH.2.1; omega) (tgt := 34) dX10_voteIt_23 (by decide) (fun c_23 => ?_) (fun c_23 => ?_)
    · refine lv_aload_n hx hb dX10_voteIt_34 rfl (lv_at hl 1 rfl) ?_
      refine lv_iconst (v := nI 2) hx hb dX10_voteIt_35 (by decide) ?_
      refine md_calli C hml hl.1 (As := [.int (nI 2)]) (rest := []) (m_throwing l D aT ad S 2) gT_throwing hd_throwing rfl ⟨Nat.le_of_ble_eq_true rfl, Nat.le_of_ble_eq_true rfl⟩ ⟨Nat.le_refl _, Nat.le_refl _⟩ hW hA rfl (Nat.le_of_ble_eq_true rfl) dX10_voteIt_36 (fun r_36 S_36 H locs hq hW => ?_)
      obtain ⟨rfl, rfl⟩ := hq
      exact md_iret C hr hlocks rfl hW (Or.inr (Or.inl ⟨j_8, c_8, Or.inl c_23, rfl, rfl⟩)) dX10_voteIt_39
    · refine lv_aload_n hx hb dX10_voteIt_26 rfl (lv_at hl 1 rfl) ?_
      refine lv_iload_n hx hb dX10_voteIt_27 rfl (lv_at hl 0 rfl) ?_
      refine md_callg C hml hl.1 (As := [.int (nI j_8)]) (rest := []) (m_isTipAt l D aT ad S (nM (S 0)) (idM (S 0)) (prM (S 0)) (tnM (S 0)) hF j_8 (hq)) gT_isTipAt hd_isTipAt rfl ⟨Nat.le_of_ble_eq_true rfl, Nat.le_of_ble_eq_true rfl⟩ ⟨Nat.le_refl _, Nat.le_refl _⟩ hW hA rfl (Nat.le_of_ble_eq_true rfl) dX10_voteIt_28 (fun r_28 H locs hq hW => ?_)
      subst hq
      refine r_bI_ne hx hb (b := (tipB (prM (S 0)) j_8 (nM (S 0)))) (tgt := 40) dX10_voteIt_31 (by decide) (fun c_31 => ?_) (fun c_31 => ?_)
      · refine lv_iconst (v := nI 0) hx hb dX10_voteIt_40 (by decide) ?_
        refine lv_istore_n (lv' := [(3, .int (nI 0)), (2, .int (nI j_8)), (0, .ref (ad 0)), (1, .int x)]) hx hb dX10_voteIt_41 rfl hl (by decide) rfl (fun ls hl => ?_)
        refine lv_iconst (v := nI 0) hx hb dX10_voteIt_42 (by decide) ?_
        refine lv_istore (lv' := [(4, .int (nI 0)), (3, .int (nI 0)), (2, .int (nI j_8)), (0, .ref (ad 0)), (1, .int x)]) hx hb dX10_voteIt_43 hl (by decide) rfl (fun ls hl => ?_)
        refine W_loopH (σ := (Nat → Int32) × Bool × Nat) (fun z_ => hM (S 0) - z_.2.2) (fun z_ H locs g => ∃ ls, g = F0 m 45 ls [] ∧ lv_has ls 5 [(0, .ref (ad 0)), (2, .int (nI j_8)), (3, .int (bI z_.2.1)), (4, .int (nI z_.2.2))] ∧ MdB D aT ad (sr S 0 z_.1) A s.heap H locs ∧ ((z_.1, z_.2.1) = vtF (tnM (S 0) j_8) (S 0) z_.2.2 ∧ z_.2.2 ≤ hM (S 0))) ?_ ((S 0), false, 0) _ ⟨_, rfl, lv_sub hl [3, 2, 1, 0] rfl, (by rw [sr_self]; exact hW), ⟨rfl, Nat.zero_le _⟩⟩
        clear hW hl
        rintro ⟨mm, b, i⟩ H locs g ⟨ls, rfl, hl, hW, hv, hih⟩ ih_45
        dsimp only at hl hW hv hih ⊢
        obtain ⟨hw, hhm, hfix, hlv, hta⟩ : vtOk (S 0) mm := by have h9 := vtF_ok (t := (tnM (S 0) j_8)) hH i hih; rw [← hv] at h9; exact h9
        have hFm : FoR mm (nM (S 0)) (idM (S 0)) (prM (S 0)) (tnM (S 0)) := FoR.he hF (fun j hj => hfix j (by omega))
        have h6 : hM (S 0) ≤ 6 := hH.2.1
        refine lv_iload hx hb dX10_voteIt_45 (lv_at hl 3 rfl) ?_
        refine lv_aload_n hx hb dX10_voteIt_47 rfl (lv_at hl 0 rfl) ?_
        refine md_geta_m C hW dX10_voteIt_48 ?_
        refine lv_iconst (v := nI 0) hx hb dX10_voteIt_51 (by decide) ?_
        refine md_ald_m C hW (i := 0) (by omega) dX10_voteIt_52 ?_
        refine r_eq (y := (nI (hM (S 0)))) (by show mm 0 = _; rw [← hhm]; exact hw.1) ?_
        refine r_geN hx hb (a := i) (b := (hM (S 0))) (by omega) (by omega) (tgt := 90) dX10_voteIt_53 (by decide) (fun c_53 => ?_) (fun c_53 => ?_)
        · have e23 : (upd mm 9 (mm 9 + nI 1)) 3 = nI s0 := by rw [pk_un (by decide), hfix 3 (by omega)]; exact hs
          have e22 : (upd mm 9 (mm 9 + nI 1)) 2 = nI (nM (S 0)) := by rw [pk_un (by decide), hfix 2 (by omega)]; exact hF.1
          have hF2 : FoR (upd mm 9 (mm 9 + nI 1)) (nM (S 0)) (idM (S 0)) (prM (S 0)) (tnM (S 0)) := hFm.he (fun j hj => pk_un (by omega))
          have ec2 : carF (upd mm 9 (mm 9 + nI 1)) j_8 2 = nI (nM (S 0)) := by rw [carF_o (by decide) (Or.inl (by decide)) (by decide) (Or.inl (by decide)) (by rw [snM_eq e23 hs4]; exact hs4)]; exact e22
          have hq2 : j_8 < nM (upd mm 9 (mm 9 + nI 1)) := by rw [hF2.n_eq]; exact hq
          refine lv_iload_n hx hb dX10_voteIt_90 rfl (lv_at hl 2 rfl) ?_
          refine r_bI_ne hx hb (b := b) (tgt := 112) dX10_voteIt_91 (by decide) (fun c_91 => ?_) (fun c_91 => ?_)
          · refine lv_iconst (v := nI 0) hx hb dX10_voteIt_112 (by decide) ?_
            refine lv_istore (lv' := [(4, .int (nI 0)), (0, .ref (ad 0)), (2, .int (nI j_8)), (3, .int (bI b))]) hx hb dX10_voteIt_113 hl (by decide) rfl (fun ls hl => ?_)
            refine lv_aload_n hx hb dX10_voteIt_115 rfl (lv_at hl 1 rfl) ?_
            refine md_geta_m C hW dX10_voteIt_116 ?_
            refine lv_bipush (v := nI 9) hx hb dX10_voteIt_119 (by decide) ?_
            refine lv_dup2_11 hx hb dX10_voteIt_121 rfl rfl ?_
            refine md_ald_m C hW (i := 9) (by omega) dX10_voteIt_122 ?_
            refine r_eq (y := (mm 9)) (rfl) ?_
            refine lv_iconst (v := nI 1) hx hb dX10_voteIt_123 (by decide) ?_
            refine lv_iadd hx hb dX10_voteIt_124 ?_
            refine md_ast_m C hW (i := 9) (by omega) dX10_voteIt_125 (fun H locs hW => ?_)
            have hW : MdB D aT ad (sr S 0 (upd mm 9 (mm 9 + nI 1))) A s.heap H locs := by rw [sr_sr] at hW; exact hW
            refine lv_iload hx hb dX10_voteIt_126 (lv_at hl 0 rfl) ?_
            refine r_ifeqN hx hb (a := 0) (by omega) (tgt := 136) dX10_voteIt_128 (by decide) (fun c_128 => ?_) (fun c_128 => ?_)
            · refine lv_aload_n hx hb dX10_voteIt_136 rfl (lv_at hl 1 rfl) ?_
              refine lv_iload_n hx hb dX10_voteIt_137 rfl (lv_at hl 2 rfl) ?_
              refine md_callv C hml hl.1 (As := [.int (nI j_8)]) (rest := []) (m_drops l D aT ad (sr S 0 (upd mm 9 (mm 9 + nI 1))) (nM (S 0)) j_8 e22 hF.n12 hq) gT_drops hd_drops rfl ⟨Nat.le_of_ble_eq_true rfl, Nat.le_of_ble_eq_true rfl⟩ ⟨Nat.le_refl _, Nat.le_refl _⟩ hW hA rfl (Nat.le_of_ble_eq_true rfl) dX10_voteIt_138 (fun S_138 H locs hq hW => ?_)
              subst hq
              refine lv_iload_n hx hb dX10_voteIt_141 rfl (lv_at hl 3 rfl) ?_
              refine r_bI_eq hx hb (b := b) (tgt := 150) dX10_voteIt_142 (by decide) (fun c_142 => ?_) (fun c_142 => ?_)
              · exact absurd c_142 (by rw [c_91]; decide)
              · refine lv_bipush (v := nI 118) hx hb dX10_voteIt_145 (by decide) ?_
                refine lv_goto (tgt := 162) hx hb dX10_voteIt_147 (by decide) ?_
                exact md_iret C hr hlocks rfl hW (Or.inr (Or.inr ⟨j_8, c_8, Nat.pos_of_ne_zero c_23, c_31, by rw [(votF_v (by rw [← c_91, hv, show i = hM (S 0) by omega])).1], by rw [(votF_v (by rw [← c_91, hv, show i = hM (S 0) by omega])).2, sr_sr]; rfl⟩)) dX10_voteIt_162
            · exact absurd c_128 (by decide)
          · refine lv_iconst (v := nI 2) hx hb dX10_voteIt_94 (by decide) ?_
            refine lv_aload_n hx hb dX10_voteIt_95 rfl (lv_at hl 0 rfl) ?_
            refine lv_iload_n hx hb dX10_voteIt_96 rfl (lv_at hl 1 rfl) ?_
            refine md_callg C hml hl.1 (As := [.int (nI j_8)]) (rest := [.int (nI 2)]) (m_favour l D aT ad (sr S 0 mm) (hM mm) (lvM mm) (thM mm) (taM mm) hw (nM (S 0)) (idM (S 0)) (prM (S 0)) (tnM (S 0)) hFm j_8 (hq)) gT_favour hd_favour rfl ⟨Nat.le_of_ble_eq_true rfl, Nat.le_of_ble_eq_true rfl⟩ ⟨Nat.le_refl _, Nat.le_refl _⟩ hW hA rfl (Nat.le_of_ble_eq_true rfl) dX10_voteIt_97 (fun r_97 H locs hq hW => ?_)
            subst hq
            refine r_imulN hx hb (a := 2) (b := (fav (lvM mm) (taM mm) ((tnM (S 0)) j_8) (hM mm))) dX10_voteIt_100 ?_
            refine lv_aload_n hx hb dX10_voteIt_101 rfl (lv_at hl 0 rfl) ?_
            refine md_callg C hml hl.1 (As := []) (rest := [.int (nI (2 * (fav (lvM mm) (taM mm) ((tnM (S 0)) j_8) (hM mm))))]) (m_leavesAll l D aT ad (sr S 0 mm) (hM mm) (lvM mm) (thM mm) (taM mm) hw) gT_leavesAll hd_leavesAll rfl ⟨Nat.le_of_ble_eq_true rfl, Nat.le_of_ble_eq_true rfl⟩ ⟨Nat.le_refl _, Nat.le_refl _⟩ hW hA rfl (Nat.le_of_ble_eq_true rfl) dX10_voteIt_102 (fun r_102 H locs hq hW => ?_)
            subst hq
            refine r_leN hx hb (a := 2 * (fav (lvM mm) (taM mm) ((tnM (S 0)) j_8) (hM mm))) (b := (sml (lvM mm) (hM mm))) (by have h99 := fun k hk => ((hw.2.2.1 k hk).2).2; have := sml_le (lv := lvM mm) (i := hM mm) h99; have := fav_le (lv := lvM mm) (ta := taM mm) (t := (tnM (S 0) j_8)) (i := hM mm) h99; rw [hhm] at *; omega) (by have h99 := fun k hk => ((hw.2.2.1 k hk).2).2; have := sml_le (lv := lvM mm) (i := hM mm) h99; have := fav_le (lv := lvM mm) (ta := taM mm) (t := (tnM (S 0) j_8)) (i := hM mm) h99; rw [hhm] at *; omega) (tgt := 112) dX10_voteIt_105 (by decide) (fun c_105 => ?_) (fun c_105 => ?_)
            · refine lv_iconst (v := nI 0) hx hb dX10_voteIt_112 (by decide) ?_
              refine lv_istore (lv' := [(4, .int (nI 0)), (0, .ref (ad 0)), (2, .int (nI j_8)), (3, .int (bI b))]) hx hb dX10_voteIt_113 hl (by decide) rfl (fun ls hl => ?_)
              refine lv_aload_n hx hb dX10_voteIt_115 rfl (lv_at hl 1 rfl) ?_
              refine md_geta_m C hW dX10_voteIt_116 ?_
              refine lv_bipush (v := nI 9) hx hb dX10_voteIt_119 (by decide) ?_
              refine lv_dup2_11 hx hb dX10_voteIt_121 rfl rfl ?_
              refine md_ald_m C hW (i := 9) (by omega) dX10_voteIt_122 ?_
              refine r_eq (y := (mm 9)) (rfl) ?_
              refine lv_iconst (v := nI 1) hx hb dX10_voteIt_123 (by decide) ?_
              refine lv_iadd hx hb dX10_voteIt_124 ?_
              refine md_ast_m C hW (i := 9) (by omega) dX10_voteIt_125 (fun H locs hW => ?_)
              have hW : MdB D aT ad (sr S 0 (upd mm 9 (mm 9 + nI 1))) A s.heap H locs := by rw [sr_sr] at hW; exact hW
              refine lv_iload hx hb dX10_voteIt_126 (lv_at hl 0 rfl) ?_
              refine r_ifeqN hx hb (a := 0) (by omega) (tgt := 136) dX10_voteIt_128 (by decide) (fun c_128 => ?_) (fun c_128 => ?_)
              · refine lv_aload_n hx hb dX10_voteIt_136 rfl (lv_at hl 1 rfl) ?_
                refine lv_iload_n hx hb dX10_voteIt_137 rfl (lv_at hl 2 rfl) ?_
                refine md_callv C hml hl.1 (As := [.int (nI j_8)]) (rest := []) (m_drops l D aT ad (sr S 0 (upd mm 9 (mm 9 + nI 1))) (nM (S 0)) j_8 e22 hF.n12 hq) gT_drops hd_drops rfl ⟨Nat.le_of_ble_eq_true rfl, Nat.le_of_ble_eq_true rfl⟩ ⟨Nat.le_refl _, Nat.le_refl _⟩ hW hA rfl (Nat.le_of_ble_eq_true rfl) dX10_voteIt_138 (fun S_138 H locs hq hW => ?_)
                subst hq
                refine lv_iload_n hx hb dX10_voteIt_141 rfl (lv_at hl 3 rfl) ?_
                refine r_bI_eq hx hb (b := b) (tgt := 150) dX10_voteIt_142 (by decide) (fun c_142 => ?_) (fun c_142 => ?_)
                · refine lv_iload hx hb dX10_voteIt_150 (lv_at hl 0 rfl) ?_
                  refine r_ifeqN hx hb (a := 0) (by omega) (tgt := 160) dX10_voteIt_152 (by decide) (fun c_152 => ?_) (fun c_152 => ?_)
                  · refine lv_bipush (v := nI 114) hx hb dX10_voteIt_160 (by decide) ?_
                    exact md_iret C hr hlocks rfl hW (Or.inr (Or.inr ⟨j_8, c_8, Nat.pos_of_ne_zero c_23, c_31, by rw [(votF_r (by rw [← c_91, hv, show i = hM (S 0) by omega]) (decide_eq_false (by omega))).1], by rw [(votF_r (by rw [← c_91, hv, show i = hM (S 0) by omega]) (decide_eq_false (by omega))).2, sr_sr]; rfl⟩)) dX10_voteIt_162
                  · exact absurd c_152 (by decide)
                · exact absurd c_142 (by rw [c_91]; decide)
              · exact absurd c_128 (by decide)
            · refine lv_iconst (v := nI 1) hx hb dX10_voteIt_108 (by decide) ?_
              refine lv_goto (tgt := 113) hx hb dX10_voteIt_109 (by decide) ?_
              refine lv_istore (lv' := [(4, .int (nI 1)), (0, .ref (ad 0)), (2, .int (nI j_8)), (3, .int (bI b))]) hx hb dX10_voteIt_113 hl (by decide) rfl (fun ls hl => ?_)
              refine lv_aload_n hx hb dX10_voteIt_115 rfl (lv_at hl 1 rfl) ?_
              refine md_geta_m C hW dX10_voteIt_116 ?_
              refine lv_bipush (v := nI 9) hx hb dX10_voteIt_119 (by decide) ?_
              refine lv_dup2_11 hx hb dX10_voteIt_121 rfl rfl ?_
              refine md_ald_m C hW (i := 9) (by omega) dX10_voteIt_122 ?_
              refine r_eq (y := (mm 9)) (rfl) ?_
              refine lv_iconst (v := nI 1) hx hb dX10_voteIt_123 (by decide) ?_
              refine lv_iadd hx hb dX10_voteIt_124 ?_
              refine md_ast_m C hW (i := 9) (by omega) dX10_voteIt_125 (fun H locs hW => ?_)
              have hW : MdB D aT ad (sr S 0 (upd mm 9 (mm 9 + nI 1))) A s.heap H locs := by rw [sr_sr] at hW; exact hW
              refine lv_iload hx hb dX10_voteIt_126 (lv_at hl 0 rfl) ?_
              refine r_ifeqN hx hb (a := 1) (by omega) (tgt := 136) dX10_voteIt_128 (by decide) (fun c_128 => ?_) (fun c_128 => ?_)
              · exact absurd c_128 (by decide)
              · refine lv_aload_n hx hb dX10_voteIt_131 rfl (lv_at hl 1 rfl) ?_
                refine lv_iload_n hx hb dX10_voteIt_132 rfl (lv_at hl 2 rfl) ?_
                refine md_callv C hml hl.1 (As := [.int (nI j_8)]) (rest := []) (m_carries l D aT ad (sr S 0 (upd mm 9 (mm 9 + nI 1))) j_8 s0 hF2.w hq2 e23 hs4) gT_carries hd_carries rfl ⟨Nat.le_of_ble_eq_true rfl, Nat.le_of_ble_eq_true rfl⟩ ⟨Nat.le_refl _, Nat.le_refl _⟩ hW hA rfl (Nat.le_of_ble_eq_true rfl) dX10_voteIt_133 (fun S_133 H locs hq hW => ?_)
                subst hq
                have hW : MdB D aT ad (sr S 0 (carF (upd mm 9 (mm 9 + nI 1)) j_8)) A s.heap H locs := by rw [sr_sr] at hW; exact hW
                refine lv_aload_n hx hb dX10_voteIt_136 rfl (lv_at hl 1 rfl) ?_
                refine lv_iload_n hx hb dX10_voteIt_137 rfl (lv_at hl 2 rfl) ?_
                refine md_callv C hml hl.1 (As := [.int (nI j_8)]) (rest := []) (m_drops l D aT ad (sr S 0 (carF (upd mm 9 (mm 9 + nI 1)) j_8)) (nM (S 0)) j_8 ec2 hF.n12 hq) gT_drops hd_drops rfl ⟨Nat.le_of_ble_eq_true rfl, Nat.le_of_ble_eq_true rfl⟩ ⟨Nat.le_refl _, Nat.le_refl _⟩ hW hA rfl (Nat.le_of_ble_eq_true rfl) dX10_voteIt_138 (fun S_138 H locs hq hW => ?_)
                subst hq
                refine lv_iload_n hx hb dX10_voteIt_141 rfl (lv_at hl 3 rfl) ?_
                refine r_bI_eq hx hb (b := b) (tgt := 150) dX10_voteIt_142 (by decide) (fun c_142 => ?_) (fun c_142 => ?_)
                · refine lv_iload hx hb dX10_voteIt_150 (lv_at hl 0 rfl) ?_
                  refine r_ifeqN hx hb (a := 1) (by omega) (tgt := 160) dX10_voteIt_152 (by decide) (fun c_152 => ?_) (fun c_152 => ?_)
                  · exact absurd c_152 (by decide)
                  · refine lv_bipush (v := nI 99) hx hb dX10_voteIt_155 (by decide) ?_
                    refine lv_goto (tgt := 162) hx hb dX10_voteIt_157 (by decide) ?_
                    exact md_iret C hr hlocks rfl hW (Or.inr (Or.inr ⟨j_8, c_8, Nat.pos_of_ne_zero c_23, c_31, by rw [(votF_c (by rw [← c_91, hv, show i = hM (S 0) by omega]) (decide_eq_true (by omega))).1], by rw [(votF_c (by rw [← c_91, hv, show i = hM (S 0) by omega]) (decide_eq_true (by omega))).2, sr_sr]; rfl⟩)) dX10_voteIt_162
                · exact absurd c_142 (by rw [c_91]; decide)
        · refine lv_aload_n hx hb dX10_voteIt_56 rfl (lv_at hl 0 rfl) ?_
          refine lv_iload hx hb dX10_voteIt_57 (lv_at hl 3 rfl) ?_
          refine lv_iload_n hx hb dX10_voteIt_59 rfl (lv_at hl 1 rfl) ?_
          refine md_callg C hml hl.1 (As := [.int (nI i), .int (nI j_8)]) (rest := []) (m_vetoes l D aT ad (sr S 0 mm) (hM mm) (lvM mm) (thM mm) (taM mm) hw (nM (S 0)) (idM (S 0)) (prM (S 0)) (tnM (S 0)) hFm i j_8 (by rw [hhm]; omega) (hq)) gT_vetoes hd_vetoes rfl ⟨Nat.le_of_ble_eq_true rfl, Nat.le_of_ble_eq_true rfl⟩ ⟨Nat.le_refl _, Nat.le_refl _⟩ hW hA rfl (Nat.le_of_ble_eq_true rfl) dX10_voteIt_60 (fun r_60 H locs hq hW => ?_)
          subst hq
          refine r_bI_eq hx hb (b := (vetB (dif ((taM mm) i) ((tnM (S 0)) j_8)) ((thM mm) i))) (tgt := 84) dX10_voteIt_63 (by decide) (fun c_63 => ?_) (fun c_63 => ?_)
          · refine lv_iinc (v := (nI (i + 1))) (lv' := [(4, .int (nI (i + 1))), (0, .ref (ad 0)), (2, .int (nI j_8)), (3, .int (bI b))]) hx hb dX10_voteIt_84 hl (k := 3) rfl (nI_1 _) (by decide) rfl (fun ls hl => ?_)
            refine lv_goto (tgt := 45) hx hb dX10_voteIt_87 (by decide) ?_
            exact ih_45 (mm, b, (i + 1)) _ _ _ (by dsimp only; omega) ⟨_, rfl, lv_sub hl [1, 2, 3, 0] rfl, hW, ⟨vtF_no hv c_63, by (try dsimp only); omega⟩⟩
          · have hth := of_decide_eq_true c_63
            refine lv_aload_n hx hb dX10_voteIt_66 rfl (lv_at hl 0 rfl) ?_
            refine md_geta_m C hW dX10_voteIt_67 ?_
            refine lv_iload hx hb dX10_voteIt_70 (lv_at hl 3 rfl) ?_
            refine md_calls C hml hl.1 (As := [.int (nI i)]) (rest := [.ref (ad 1)]) (m_hedgeAt l i) gT_hedgeAt hd_hedgeAt rfl ⟨Nat.le_of_ble_eq_true rfl, Nat.le_of_ble_eq_true rfl⟩ ⟨Nat.le_refl _, Nat.le_refl _⟩ rfl (Nat.le_of_ble_eq_true rfl) dX10_voteIt_72 (fun r_72 hq => ?_)
            subst hq
            refine lv_iconst (v := nI 1) hx hb dX10_voteIt_75 (by decide) ?_
            refine r_iaddN hx hb (a := (11 + 3 * i)) (b := 1) dX10_voteIt_76 ?_
            refine lv_dup2_11 hx hb dX10_voteIt_77 rfl rfl ?_
            refine md_ald_m C hW (i := 11 + 3 * i + 1) (by omega) dX10_voteIt_78 ?_
            refine r_eq (y := (nI (thM mm i))) (by show mm _ = _; exact (hw.2.2.2.1 i (by rw [hhm]; omega)).1) ?_
            refine lv_iconst (v := nI 1) hx hb dX10_voteIt_79 (by decide) ?_
            refine r_isubN hx hb (a := (thM mm i)) (b := 1) (by omega) dX10_voteIt_80 ?_
            refine md_ast_m C hW (i := 11 + 3 * i + 1) (by omega) dX10_voteIt_81 (fun H locs hW => ?_)
            refine lv_iconst (v := nI 1) hx hb dX10_voteIt_82 (by decide) ?_
            refine lv_istore_n (lv' := [(3, .int (nI 1)), (0, .ref (ad 0)), (2, .int (nI j_8)), (4, .int (nI i))]) hx hb dX10_voteIt_83 rfl hl (by decide) rfl (fun ls hl => ?_)
            refine lv_iinc (v := (nI (i + 1))) (lv' := [(4, .int (nI (i + 1))), (3, .int (nI 1)), (0, .ref (ad 0)), (2, .int (nI j_8))]) hx hb dX10_voteIt_84 hl (k := 3) rfl (nI_1 _) (by decide) rfl (fun ls hl => ?_)
            refine lv_goto (tgt := 45) hx hb dX10_voteIt_87 (by decide) ?_
            exact ih_45 ((upd mm (11 + 3 * i + 1) (nI (thM mm i - 1))), true, (i + 1)) _ _ _ (by dsimp only; omega) ⟨_, rfl, lv_sub hl [2, 3, 1, 0] rfl, (by rw [sr_sr] at hW; exact hW), ⟨vtF_yes hv c_63, by (try dsimp only); omega⟩⟩
      · refine lv_aload_n hx hb dX10_voteIt_34 rfl (lv_at hl 1 rfl) ?_
        refine lv_iconst (v := nI 2) hx hb dX10_voteIt_35 (by decide) ?_
        refine md_calli C hml hl.1 (As := [.int (nI 2)]) (rest := []) (m_throwing l D aT ad S 2) gT_throwing hd_throwing rfl ⟨Nat.le_of_ble_eq_true rfl, Nat.le_of_ble_eq_true rfl⟩ ⟨Nat.le_refl _, Nat.le_refl _⟩ hW hA rfl (Nat.le_of_ble_eq_true rfl) dX10_voteIt_36 (fun r_36 S_36 H locs hq hW => ?_)
        obtain ⟨rfl, rfl⟩ := hq
        exact md_iret C hr hlocks rfl hW (Or.inr (Or.inl ⟨j_8, c_8, Or.inr c_31, rfl, rfl⟩)) dX10_voteIt_39
  · have hl : lv_has ls 5 [(2, .int (-1)), (0, .ref (ad 0)), (1, .int x)] := by rw [c_8] at hl; exact hl
    refine lv_aload_n hx hb dX10_voteIt_11 rfl (lv_at hl 1 rfl) ?_
    refine lv_iconst (v := nI 1) hx hb dX10_voteIt_12 (by decide) ?_
    refine md_calli C hml hl.1 (As := [.int (nI 1)]) (rest := []) (m_throwing l D aT ad S 1) gT_throwing hd_throwing rfl ⟨Nat.le_of_ble_eq_true rfl, Nat.le_of_ble_eq_true rfl⟩ ⟨Nat.le_refl _, Nat.le_refl _⟩ hW hA rfl (Nat.le_of_ble_eq_true rfl) dX10_voteIt_13 (fun r_13 S_13 H locs hq hW => ?_)
    obtain ⟨rfl, rfl⟩ := hq
    exact md_iret C hr hlocks rfl hW (Or.inl ⟨c_8, rfl, rfl⟩) dX10_voteIt_16
theorem gT_seasonIt : GoodIn gw (wsV RX10 163 RX10 yX10_seasonIt (Cond.code yX10_seasonIt cX10_seasonIt 3 (some .int) :: gw)) := gdV gw_1835 gw_1837 gw_44 gw_81 gw_1838
theorem hd_seasonIt : yX10_seasonIt.cls = RX10 ∧ yX10_seasonIt.cls ≠ "java/lang/invoke/MethodHandle" ∧ yX10_seasonIt.cls ≠ "java/lang/invoke/VarHandle" ∧ (parseMethodDescriptor yX10_seasonIt.desc).map (fun d => d.parameters.length) = some 0 := ⟨rfl, by decide +kernel, by decide +kernel, by decide +kernel⟩
theorem dX10_seasonIt_0 : decode cX10_seasonIt 0 = .ok (.aload_n 0, 1) := by decide +kernel
theorem dX10_seasonIt_1 : decode cX10_seasonIt 1 = .ok (.getfield 9, 3) := by decide +kernel
theorem dX10_seasonIt_4 : decode cX10_seasonIt 4 = .ok (.iconst 3, 1) := by decide +kernel
theorem dX10_seasonIt_5 : decode cX10_seasonIt 5 = .ok (.aload_n 0, 1) := by decide +kernel
theorem dX10_seasonIt_6 : decode cX10_seasonIt 6 = .ok (.getfield 9, 3) := by decide +kernel
theorem dX10_seasonIt_9 : decode cX10_seasonIt 9 = .ok (.iconst 3, 1) := by decide +kernel
theorem dX10_seasonIt_10 : decode cX10_seasonIt 10 = .ok (.iaload, 1) := by decide +kernel
theorem dX10_seasonIt_11 : decode cX10_seasonIt 11 = .ok (.iconst 1, 1) := by decide +kernel
theorem dX10_seasonIt_12 : decode cX10_seasonIt 12 = .ok (.iadd, 1) := by decide +kernel
theorem dX10_seasonIt_13 : decode cX10_seasonIt 13 = .ok (.iconst 4, 1) := by decide +kernel
theorem dX10_seasonIt_14 : decode cX10_seasonIt 14 = .ok (.irem, 1) := by decide +kernel
theorem dX10_seasonIt_15 : decode cX10_seasonIt 15 = .ok (.iastore, 1) := by decide +kernel
theorem dX10_seasonIt_16 : decode cX10_seasonIt 16 = .ok (.aload_n 0, 1) := by decide +kernel
theorem dX10_seasonIt_17 : decode cX10_seasonIt 17 = .ok (.getfield 9, 3) := by decide +kernel
theorem dX10_seasonIt_20 : decode cX10_seasonIt 20 = .ok (.iconst 3, 1) := by decide +kernel
theorem dX10_seasonIt_21 : decode cX10_seasonIt 21 = .ok (.iaload, 1) := by decide +kernel
theorem dX10_seasonIt_22 : decode cX10_seasonIt 22 = .ok (.ifCond .ne 7, 3) := by decide +kernel
theorem dX10_seasonIt_25 : decode cX10_seasonIt 25 = .ok (.iconst 4, 1) := by decide +kernel
theorem dX10_seasonIt_26 : decode cX10_seasonIt 26 = .ok (.goto 34, 3) := by decide +kernel
theorem dX10_seasonIt_29 : decode cX10_seasonIt 29 = .ok (.aload_n 0, 1) := by decide +kernel
theorem dX10_seasonIt_30 : decode cX10_seasonIt 30 = .ok (.getfield 9, 3) := by decide +kernel
theorem dX10_seasonIt_33 : decode cX10_seasonIt 33 = .ok (.iconst 3, 1) := by decide +kernel
theorem dX10_seasonIt_34 : decode cX10_seasonIt 34 = .ok (.iaload, 1) := by decide +kernel
theorem dX10_seasonIt_35 : decode cX10_seasonIt 35 = .ok (.iconst 1, 1) := by decide +kernel
theorem dX10_seasonIt_36 : decode cX10_seasonIt 36 = .ok (.if_icmp .ne 7, 3) := by decide +kernel
theorem dX10_seasonIt_39 : decode cX10_seasonIt 39 = .ok (.iconst 2, 1) := by decide +kernel
theorem dX10_seasonIt_40 : decode cX10_seasonIt 40 = .ok (.goto 20, 3) := by decide +kernel
theorem dX10_seasonIt_43 : decode cX10_seasonIt 43 = .ok (.aload_n 0, 1) := by decide +kernel
theorem dX10_seasonIt_44 : decode cX10_seasonIt 44 = .ok (.getfield 9, 3) := by decide +kernel
theorem dX10_seasonIt_47 : decode cX10_seasonIt 47 = .ok (.iconst 3, 1) := by decide +kernel
theorem dX10_seasonIt_48 : decode cX10_seasonIt 48 = .ok (.iaload, 1) := by decide +kernel
theorem dX10_seasonIt_49 : decode cX10_seasonIt 49 = .ok (.iconst 2, 1) := by decide +kernel
theorem dX10_seasonIt_50 : decode cX10_seasonIt 50 = .ok (.if_icmp .ne 8, 3) := by decide +kernel
theorem dX10_seasonIt_53 : decode cX10_seasonIt 53 = .ok (.bipush (-2), 2) := by decide +kernel
theorem dX10_seasonIt_55 : decode cX10_seasonIt 55 = .ok (.goto 5, 3) := by decide +kernel
theorem dX10_seasonIt_58 : decode cX10_seasonIt 58 = .ok (.bipush (-4), 2) := by decide +kernel
theorem dX10_seasonIt_60 : decode cX10_seasonIt 60 = .ok (.istore_n 1, 1) := by decide +kernel
theorem dX10_seasonIt_61 : decode cX10_seasonIt 61 = .ok (.iconst 0, 1) := by decide +kernel
theorem dX10_seasonIt_62 : decode cX10_seasonIt 62 = .ok (.istore_n 2, 1) := by decide +kernel
theorem dX10_seasonIt_63 : decode cX10_seasonIt 63 = .ok (.iload_n 2, 1) := by decide +kernel
theorem dX10_seasonIt_64 : decode cX10_seasonIt 64 = .ok (.aload_n 0, 1) := by decide +kernel
theorem dX10_seasonIt_65 : decode cX10_seasonIt 65 = .ok (.getfield 9, 3) := by decide +kernel
theorem dX10_seasonIt_68 : decode cX10_seasonIt 68 = .ok (.iconst 0, 1) := by decide +kernel
theorem dX10_seasonIt_69 : decode cX10_seasonIt 69 = .ok (.iaload, 1) := by decide +kernel
theorem dX10_seasonIt_70 : decode cX10_seasonIt 70 = .ok (.if_icmp .ge 82, 3) := by decide +kernel
theorem dX10_seasonIt_73 : decode cX10_seasonIt 73 = .ok (.aload_n 0, 1) := by decide +kernel
theorem dX10_seasonIt_74 : decode cX10_seasonIt 74 = .ok (.getfield 9, 3) := by decide +kernel
theorem dX10_seasonIt_77 : decode cX10_seasonIt 77 = .ok (.iload_n 2, 1) := by decide +kernel
theorem dX10_seasonIt_78 : decode cX10_seasonIt 78 = .ok (.invokestatic 86, 3) := by decide +kernel
theorem dX10_seasonIt_81 : decode cX10_seasonIt 81 = .ok (.iconst 1, 1) := by decide +kernel
theorem dX10_seasonIt_82 : decode cX10_seasonIt 82 = .ok (.bipush 99, 2) := by decide +kernel
theorem dX10_seasonIt_84 : decode cX10_seasonIt 84 = .ok (.aload_n 0, 1) := by decide +kernel
theorem dX10_seasonIt_85 : decode cX10_seasonIt 85 = .ok (.getfield 9, 3) := by decide +kernel
theorem dX10_seasonIt_88 : decode cX10_seasonIt 88 = .ok (.iload_n 2, 1) := by decide +kernel
theorem dX10_seasonIt_89 : decode cX10_seasonIt 89 = .ok (.invokestatic 86, 3) := by decide +kernel
theorem dX10_seasonIt_92 : decode cX10_seasonIt 92 = .ok (.iaload, 1) := by decide +kernel
theorem dX10_seasonIt_93 : decode cX10_seasonIt 93 = .ok (.iload_n 1, 1) := by decide +kernel
theorem dX10_seasonIt_94 : decode cX10_seasonIt 94 = .ok (.iadd, 1) := by decide +kernel
theorem dX10_seasonIt_95 : decode cX10_seasonIt 95 = .ok (.invokestatic 160, 3) := by decide +kernel
theorem dX10_seasonIt_98 : decode cX10_seasonIt 98 = .ok (.invokestatic 138, 3) := by decide +kernel
theorem dX10_seasonIt_101 : decode cX10_seasonIt 101 = .ok (.iastore, 1) := by decide +kernel
theorem dX10_seasonIt_102 : decode cX10_seasonIt 102 = .ok (.aload_n 0, 1) := by decide +kernel
theorem dX10_seasonIt_103 : decode cX10_seasonIt 103 = .ok (.getfield 9, 3) := by decide +kernel
theorem dX10_seasonIt_106 : decode cX10_seasonIt 106 = .ok (.iload_n 2, 1) := by decide +kernel
theorem dX10_seasonIt_107 : decode cX10_seasonIt 107 = .ok (.invokestatic 86, 3) := by decide +kernel
theorem dX10_seasonIt_110 : decode cX10_seasonIt 110 = .ok (.iconst 1, 1) := by decide +kernel
theorem dX10_seasonIt_111 : decode cX10_seasonIt 111 = .ok (.iadd, 1) := by decide +kernel
theorem dX10_seasonIt_112 : decode cX10_seasonIt 112 = .ok (.dup2, 1) := by decide +kernel
theorem dX10_seasonIt_113 : decode cX10_seasonIt 113 = .ok (.iaload, 1) := by decide +kernel
theorem dX10_seasonIt_114 : decode cX10_seasonIt 114 = .ok (.aload_n 0, 1) := by decide +kernel
theorem dX10_seasonIt_115 : decode cX10_seasonIt 115 = .ok (.getfield 9, 3) := by decide +kernel
theorem dX10_seasonIt_118 : decode cX10_seasonIt 118 = .ok (.iconst 3, 1) := by decide +kernel
theorem dX10_seasonIt_119 : decode cX10_seasonIt 119 = .ok (.iaload, 1) := by decide +kernel
theorem dX10_seasonIt_120 : decode cX10_seasonIt 120 = .ok (.ifCond .ne 23, 3) := by decide +kernel
theorem dX10_seasonIt_123 : decode cX10_seasonIt 123 = .ok (.aload_n 0, 1) := by decide +kernel
theorem dX10_seasonIt_124 : decode cX10_seasonIt 124 = .ok (.getfield 9, 3) := by decide +kernel
theorem dX10_seasonIt_127 : decode cX10_seasonIt 127 = .ok (.iload_n 2, 1) := by decide +kernel
theorem dX10_seasonIt_128 : decode cX10_seasonIt 128 = .ok (.invokestatic 86, 3) := by decide +kernel
theorem dX10_seasonIt_131 : decode cX10_seasonIt 131 = .ok (.iconst 1, 1) := by decide +kernel
theorem dX10_seasonIt_132 : decode cX10_seasonIt 132 = .ok (.iadd, 1) := by decide +kernel
theorem dX10_seasonIt_133 : decode cX10_seasonIt 133 = .ok (.iaload, 1) := by decide +kernel
theorem dX10_seasonIt_134 : decode cX10_seasonIt 134 = .ok (.bipush 9, 2) := by decide +kernel
theorem dX10_seasonIt_136 : decode cX10_seasonIt 136 = .ok (.if_icmp .ge 7, 3) := by decide +kernel
theorem dX10_seasonIt_139 : decode cX10_seasonIt 139 = .ok (.iconst 1, 1) := by decide +kernel
theorem dX10_seasonIt_140 : decode cX10_seasonIt 140 = .ok (.goto 4, 3) := by decide +kernel
theorem dX10_seasonIt_143 : decode cX10_seasonIt 143 = .ok (.iconst 0, 1) := by decide +kernel
theorem dX10_seasonIt_144 : decode cX10_seasonIt 144 = .ok (.iadd, 1) := by decide +kernel
theorem dX10_seasonIt_145 : decode cX10_seasonIt 145 = .ok (.iastore, 1) := by decide +kernel
theorem dX10_seasonIt_146 : decode cX10_seasonIt 146 = .ok (.iinc 2 1, 3) := by decide +kernel
theorem dX10_seasonIt_149 : decode cX10_seasonIt 149 = .ok (.goto (-86), 3) := by decide +kernel
theorem dX10_seasonIt_152 : decode cX10_seasonIt 152 = .ok (.aload_n 0, 1) := by decide +kernel
theorem dX10_seasonIt_153 : decode cX10_seasonIt 153 = .ok (.getfield 9, 3) := by decide +kernel
theorem dX10_seasonIt_156 : decode cX10_seasonIt 156 = .ok (.iconst 3, 1) := by decide +kernel
theorem dX10_seasonIt_157 : decode cX10_seasonIt 157 = .ok (.iaload, 1) := by decide +kernel
theorem dX10_seasonIt_158 : decode cX10_seasonIt 158 = .ok (.ireturn, 1) := by decide +kernel
set_option maxHeartbeats 4000000 in
set_option maxRecDepth 20000 in
theorem m_seasonIt (l : Launch) (D : va_G) (aT : Nat → ClassId) (ad : Nat → Nat) (S : MSt) (s0 : Nat) (hH : HeW (S 0)) (hs : S 0 3 = nI s0) (hs4 : s0 < 4) : MdI l yX10_seasonIt cX10_seasonIt 3 .int 1 24 D aT ad [.ref (ad 0)] S (fun r S1 => r = nI ((s0 + 1) % 4) ∧ S1 = sr S 0 (seaF ((s0 + 1) % 4) (upd (S 0) 3 (nI ((s0 + 1) % 4))) (hM (S 0)))) := by
  have hx31 := hH.2.1
  have hH0 : HeR (upd (S 0) 3 (nI ((s0 + 1) % 4))) (hM (S 0)) (lvM (S 0)) (thM (S 0)) (taM (S 0)) := HeR.cong hH (fun j hj => pk_un (by omega))
  have hH1 : HeW (upd (S 0) 3 (nI ((s0 + 1) % 4))) := hH0.w
  have hh1 : hM (upd (S 0) 3 (nI ((s0 + 1) % 4))) = hM (S 0) := hH0.eqs.1
  refine MdI.of (by decide +kernel) rfl (Nat.le_of_ble_eq_true rfl) ?_
  intro p e s m below meth c A ls C hml hl hA hr hlocks hW
  have hl : lv_has ls 3 [(0, .ref (ad 0))] := hl
  have hx := C.1
  have hb := C.2.1
  refine lv_aload_n hx hb dX10_seasonIt_0 rfl (lv_at hl 0 rfl) ?_
  refine md_geta_m C hW dX10_seasonIt_1 ?_
  refine lv_iconst (v := nI 3) hx hb dX10_seasonIt_4 (by decide) ?_
  refine lv_aload_n hx hb dX10_seasonIt_5 rfl (lv_at hl 0 rfl) ?_
  refine md_geta_m C hW dX10_seasonIt_6 ?_
  refine lv_iconst (v := nI 3) hx hb dX10_seasonIt_9 (by decide) ?_
  refine md_ald_m C hW (i := 3) (by omega) dX10_seasonIt_10 ?_
  refine r_eq (y := (nI s0)) (hs) ?_
  refine lv_iconst (v := nI 1) hx hb dX10_seasonIt_11 (by decide) ?_
  refine r_iaddN hx hb (a := s0) (b := 1) dX10_seasonIt_12 ?_
  refine lv_iconst (v := nI 4) hx hb dX10_seasonIt_13 (by decide) ?_
  refine lv_irem hx hb dX10_seasonIt_14 (by decide) ?_
  refine r_eq (y := (nI ((s0 + 1) % 4))) (pk_rem (by omega) (by decide) (by decide)) ?_
  refine md_ast_m C hW (i := 3) (by omega) dX10_seasonIt_15 (fun H locs hW => ?_)
  refine lv_aload_n hx hb dX10_seasonIt_16 rfl (lv_at hl 0 rfl) ?_
  refine md_geta_m C hW dX10_seasonIt_17 ?_
  refine lv_iconst (v := nI 3) hx hb dX10_seasonIt_20 (by decide) ?_
  refine md_ald_m C hW (i := 3) (by omega) dX10_seasonIt_21 ?_
  refine r_eq (y := (nI ((s0 + 1) % 4))) (by simp only [sr, upd, ↓reduceIte]; (repeat rw [if_neg (by omega)]); first | done | rfl) ?_
  refine r_ifneN hx hb (a := ((s0 + 1) % 4)) (by omega) (tgt := 29) dX10_seasonIt_22 (by decide) (fun c_22 => ?_) (fun c_22 => ?_)
  · refine lv_aload_n hx hb dX10_seasonIt_29 rfl (lv_at hl 0 rfl) ?_
    refine md_geta_m C hW dX10_seasonIt_30 ?_
    refine lv_iconst (v := nI 3) hx hb dX10_seasonIt_33 (by decide) ?_
    refine md_ald_m C hW (i := 3) (by omega) dX10_seasonIt_34 ?_
    refine r_eq (y := (nI ((s0 + 1) % 4))) (by simp only [sr, upd, ↓reduceIte]; (repeat rw [if_neg (by omega)]); first | done | rfl) ?_
    refine lv_iconst (v := nI 1) hx hb dX10_seasonIt_35 (by decide) ?_
    refine r_neN hx hb (a := ((s0 + 1) % 4)) (b := 1) (by omega) (by omega) (tgt := 43) dX10_seasonIt_36 (by decide) (fun c_36 => ?_) (fun c_36 => ?_)
    · refine lv_aload_n hx hb dX10_seasonIt_43 rfl (lv_at hl 0 rfl) ?_
      refine md_geta_m C hW dX10_seasonIt_44 ?_
      refine lv_iconst (v := nI 3) hx hb dX10_seasonIt_47 (by decide) ?_
      refine md_ald_m C hW (i := 3) (by omega) dX10_seasonIt_48 ?_
      refine r_eq (y := (nI ((s0 + 1) % 4))) (by simp only [sr, upd, ↓reduceIte]; (repeat rw [if_neg (by omega)]); first | done | rfl) ?_
      refine lv_iconst (v := nI 2) hx hb dX10_seasonIt_49 (by decide) ?_
      refine r_neN hx hb (a := ((s0 + 1) % 4)) (b := 2) (by omega) (by omega) (tgt := 58) dX10_seasonIt_50 (by decide) (fun c_50 => ?_) (fun c_50 => ?_)
      · refine lv_bipush (v := (-4)) hx hb dX10_seasonIt_58 (by decide) ?_
        refine r_eq (y := byF ((s0 + 1) % 4)) (by unfold byF; rw [if_neg c_22, if_neg c_36, if_neg c_50]) ?_
        refine lv_istore_n (lv' := [(1, .int (byF ((s0 + 1) % 4))), (0, .ref (ad 0))]) hx hb dX10_seasonIt_60 rfl hl (by decide) rfl (fun ls hl => ?_)
        refine lv_iconst (v := nI 0) hx hb dX10_seasonIt_61 (by decide) ?_
        refine lv_istore_n (lv' := [(2, .int (nI 0)), (1, .int (byF ((s0 + 1) % 4))), (0, .ref (ad 0))]) hx hb dX10_seasonIt_62 rfl hl (by decide) rfl (fun ls hl => ?_)
        refine W_loopH (σ := (Nat → Int32) × Nat) (fun z_ => hM (S 0) - z_.2) (fun z_ H locs g => ∃ ls, g = F0 m 63 ls [] ∧ lv_has ls 3 [(0, .ref (ad 0)), (1, .int (byF ((s0 + 1) % 4))), (2, .int (nI z_.2))] ∧ MdB D aT ad (sr S 0 z_.1) A s.heap H locs ∧ (z_.1 = seaF ((s0 + 1) % 4) (upd (S 0) 3 (nI ((s0 + 1) % 4))) z_.2 ∧ z_.2 ≤ hM (S 0))) ?_ ((upd (S 0) 3 (nI ((s0 + 1) % 4))), 0) _ ⟨_, rfl, lv_sub hl [2, 1, 0] rfl, (by rw [show nI ((s0 + 1) % 4) = nI ((s0 + 1) % 4) from rfl] at hW; exact hW), ⟨rfl, Nat.zero_le _⟩⟩
        clear hW hl
        rintro ⟨mm, i⟩ H locs g ⟨ls, rfl, hl, hW, hv, hih⟩ ih_63
        dsimp only at hl hW hv hih ⊢
        obtain ⟨hw, hhm, hfix⟩ : seaOk (upd (S 0) 3 (nI ((s0 + 1) % 4))) mm := by rw [hv]; exact seaF_ok hH1 i (by rw [hh1]; exact hih)
        rw [hh1] at hhm
        have e3 : mm 3 = nI ((s0 + 1) % 4) := by rw [hfix 3 (by omega), pk_us]
        have h6 : hM (S 0) ≤ 6 := hH.2.1
        refine lv_iload_n hx hb dX10_seasonIt_63 rfl (lv_at hl 2 rfl) ?_
        refine lv_aload_n hx hb dX10_seasonIt_64 rfl (lv_at hl 0 rfl) ?_
        refine md_geta_m C hW dX10_seasonIt_65 ?_
        refine lv_iconst (v := nI 0) hx hb dX10_seasonIt_68 (by decide) ?_
        refine md_ald_m C hW (i := 0) (by omega) dX10_seasonIt_69 ?_
        refine r_eq (y := (nI (hM (S 0)))) (by show mm 0 = _; rw [← hhm]; exact hw.1) ?_
        refine r_geN hx hb (a := i) (b := (hM (S 0))) (by omega) (by omega) (tgt := 152) dX10_seasonIt_70 (by decide) (fun c_70 => ?_) (fun c_70 => ?_)
        · refine lv_aload_n hx hb dX10_seasonIt_152 rfl (lv_at hl 0 rfl) ?_
          refine md_geta_m C hW dX10_seasonIt_153 ?_
          refine lv_iconst (v := nI 3) hx hb dX10_seasonIt_156 (by decide) ?_
          refine md_ald_m C hW (i := 3) (by omega) dX10_seasonIt_157 ?_
          refine r_eq (y := (nI ((s0 + 1) % 4))) (by show mm 3 = _; exact e3) ?_
          exact md_iret C hr hlocks rfl hW (⟨rfl, by rw [hv, show i = hM (S 0) by omega]⟩) dX10_seasonIt_158
        · refine lv_aload_n hx hb dX10_seasonIt_73 rfl (lv_at hl 0 rfl) ?_
          refine md_geta_m C hW dX10_seasonIt_74 ?_
          refine lv_iload_n hx hb dX10_seasonIt_77 rfl (lv_at hl 2 rfl) ?_
          refine md_calls C hml hl.1 (As := [.int (nI i)]) (rest := [.ref (ad 1)]) (m_hedgeAt l i) gT_hedgeAt hd_hedgeAt rfl ⟨Nat.le_of_ble_eq_true rfl, Nat.le_of_ble_eq_true rfl⟩ ⟨Nat.le_refl _, Nat.le_refl _⟩ rfl (Nat.le_of_ble_eq_true rfl) dX10_seasonIt_78 (fun r_78 hq => ?_)
          subst hq
          refine lv_iconst (v := nI 1) hx hb dX10_seasonIt_81 (by decide) ?_
          refine lv_bipush (v := nI 99) hx hb dX10_seasonIt_82 (by decide) ?_
          refine lv_aload_n hx hb dX10_seasonIt_84 rfl (lv_at hl 0 rfl) ?_
          refine md_geta_m C hW dX10_seasonIt_85 ?_
          refine lv_iload_n hx hb dX10_seasonIt_88 rfl (lv_at hl 2 rfl) ?_
          refine md_calls C hml hl.1 (As := [.int (nI i)]) (rest := [.ref (ad 1), .int (nI 99), .int (nI 1), .int (nI (11 + 3 * i)), .ref (ad 1)]) (m_hedgeAt l i) gT_hedgeAt hd_hedgeAt rfl ⟨Nat.le_of_ble_eq_true rfl, Nat.le_of_ble_eq_true rfl⟩ ⟨Nat.le_refl _, Nat.le_refl _⟩ rfl (Nat.le_of_ble_eq_true rfl) dX10_seasonIt_89 (fun r_89 hq => ?_)
          subst hq
          refine md_ald_m C hW (i := (11 + 3 * i)) (by omega) dX10_seasonIt_92 ?_
          refine r_eq (y := (nI (lvM mm i))) (by show mm _ = _; exact (hw.2.2.1 i (by rw [hhm]; omega)).1) ?_
          refine lv_iload_n hx hb dX10_seasonIt_93 rfl (lv_at hl 1 rfl) ?_
          refine lv_iadd hx hb dX10_seasonIt_94 ?_
          refine md_min C hml hl.1 gk_min ⟨Nat.le_of_ble_eq_true rfl, Nat.le_of_ble_eq_true rfl, Nat.le_of_ble_eq_true rfl⟩ ⟨Nat.le_refl _, Nat.le_refl _⟩ dX10_seasonIt_95 ?_
          refine md_max C hml hl.1 gk_max ⟨Nat.le_of_ble_eq_true rfl, Nat.le_of_ble_eq_true rfl, Nat.le_of_ble_eq_true rfl⟩ ⟨Nat.le_refl _, Nat.le_refl _⟩ dX10_seasonIt_98 ?_
          refine r_eq (y := (nI (leafN ((s0 + 1) % 4) (lvM mm i)))) (clp_eq _ (by omega) _ (by have := ((hw.2.2.1 i (by rw [hhm]; omega)).2).2; omega) ((hw.2.2.1 i (by rw [hhm]; omega)).2).1) ?_
          refine md_ast_m C hW (i := (11 + 3 * i)) (by omega) dX10_seasonIt_101 (fun H locs hW => ?_)
          refine lv_aload_n hx hb dX10_seasonIt_102 rfl (lv_at hl 0 rfl) ?_
          refine md_geta_m C hW dX10_seasonIt_103 ?_
          refine lv_iload_n hx hb dX10_seasonIt_106 rfl (lv_at hl 2 rfl) ?_
          refine md_calls C hml hl.1 (As := [.int (nI i)]) (rest := [.ref (ad 1)]) (m_hedgeAt l i) gT_hedgeAt hd_hedgeAt rfl ⟨Nat.le_of_ble_eq_true rfl, Nat.le_of_ble_eq_true rfl⟩ ⟨Nat.le_refl _, Nat.le_refl _⟩ rfl (Nat.le_of_ble_eq_true rfl) dX10_seasonIt_107 (fun r_107 hq => ?_)
          subst hq
          refine lv_iconst (v := nI 1) hx hb dX10_seasonIt_110 (by decide) ?_
          refine r_iaddN hx hb (a := (11 + 3 * i)) (b := 1) dX10_seasonIt_111 ?_
          refine lv_dup2_11 hx hb dX10_seasonIt_112 rfl rfl ?_
          refine md_ald_m C hW (i := 11 + 3 * i + 1) (by omega) dX10_seasonIt_113 ?_
          refine r_eq (y := (nI (thM mm i))) (by show upd mm _ _ _ = _; rw [pk_un (by omega)]; exact (hw.2.2.2.1 i (by rw [hhm]; omega)).1) ?_
          refine lv_aload_n hx hb dX10_seasonIt_114 rfl (lv_at hl 0 rfl) ?_
          refine md_geta_m C hW dX10_seasonIt_115 ?_
          refine lv_iconst (v := nI 3) hx hb dX10_seasonIt_118 (by decide) ?_
          refine md_ald_m C hW (i := 3) (by omega) dX10_seasonIt_119 ?_
          refine r_eq (y := (nI ((s0 + 1) % 4))) (by show upd mm _ _ _ = _; rw [pk_un (by omega)]; exact e3) ?_
          refine r_ifneN hx hb (a := ((s0 + 1) % 4)) (by omega) (tgt := 143) dX10_seasonIt_120 (by decide) (fun c_120 => ?_) (fun c_120 => ?_)
          · refine lv_iconst (v := nI 0) hx hb dX10_seasonIt_143 (by decide) ?_
            refine r_iaddN hx hb (a := (thM mm i)) (b := 0) dX10_seasonIt_144 ?_
            refine md_ast_m C hW (i := 11 + 3 * i + 1) (by omega) dX10_seasonIt_145 (fun H locs hW => ?_)
            refine lv_iinc (v := (nI (i + 1))) (lv' := [(2, .int (nI (i + 1))), (0, .ref (ad 0)), (1, .int (byF ((s0 + 1) % 4)))]) hx hb dX10_seasonIt_146 hl (k := 2) rfl (nI_1 _) (by decide) rfl (fun ls hl => ?_)
            refine lv_goto (tgt := 63) hx hb dX10_seasonIt_149 (by decide) ?_
            exact ih_63 ((seaF ((s0 + 1) % 4) (upd (S 0) 3 (nI ((s0 + 1) % 4))) (i + 1)), (i + 1)) _ _ _ (by dsimp only; omega) ⟨_, rfl, lv_sub hl [1, 2, 0] rfl, (by rw [sr_sr, sr_sr] at hW; unfold seaF; rw [← hv]; unfold taddN; rw [if_neg (fun z => c_120 z.1)]; exact hW), ⟨rfl, by (try dsimp only); omega⟩⟩
          · refine lv_aload_n hx hb dX10_seasonIt_123 rfl (lv_at hl 0 rfl) ?_
            refine md_geta_m C hW dX10_seasonIt_124 ?_
            refine lv_iload_n hx hb dX10_seasonIt_127 rfl (lv_at hl 2 rfl) ?_
            refine md_calls C hml hl.1 (As := [.int (nI i)]) (rest := [.ref (ad 1), .int (nI (thM mm i)), .int (nI (11 + 3 * i + 1)), .ref (ad 1)]) (m_hedgeAt l i) gT_hedgeAt hd_hedgeAt rfl ⟨Nat.le_of_ble_eq_true rfl, Nat.le_of_ble_eq_true rfl⟩ ⟨Nat.le_refl _, Nat.le_refl _⟩ rfl (Nat.le_of_ble_eq_true rfl) dX10_seasonIt_128 (fun r_128 hq => ?_)
            subst hq
            refine lv_iconst (v := nI 1) hx hb dX10_seasonIt_131 (by decide) ?_
            refine r_iaddN hx hb (a := (11 + 3 * i)) (b := 1) dX10_seasonIt_132 ?_
            refine md_ald_m C hW (i := 11 + 3 * i + 1) (by omega) dX10_seasonIt_133 ?_
            refine r_eq (y := (nI (thM mm i))) (by show upd mm _ _ _ = _; rw [pk_un (by omega)]; exact (hw.2.2.2.1 i (by rw [hhm]; omega)).1) ?_
            refine lv_bipush (v := nI 9) hx hb dX10_seasonIt_134 (by decide) ?_
            refine r_geN hx hb (a := (thM mm i)) (b := 9) (by have := (hw.2.2.2.1 i (by rw [hhm]; omega)).2; omega) (by have := (hw.2.2.2.1 i (by rw [hhm]; omega)).2; omega) (tgt := 143) dX10_seasonIt_136 (by decide) (fun c_136 => ?_) (fun c_136 => ?_)
            · refine lv_iconst (v := nI 0) hx hb dX10_seasonIt_143 (by decide) ?_
              refine r_iaddN hx hb (a := (thM mm i)) (b := 0) dX10_seasonIt_144 ?_
              refine md_ast_m C hW (i := 11 + 3 * i + 1) (by omega) dX10_seasonIt_145 (fun H locs hW => ?_)
              refine lv_iinc (v := (nI (i + 1))) (lv' := [(2, .int (nI (i + 1))), (0, .ref (ad 0)), (1, .int (byF ((s0 + 1) % 4)))]) hx hb dX10_seasonIt_146 hl (k := 2) rfl (nI_1 _) (by decide) rfl (fun ls hl => ?_)
              refine lv_goto (tgt := 63) hx hb dX10_seasonIt_149 (by decide) ?_
              exact ih_63 ((seaF ((s0 + 1) % 4) (upd (S 0) 3 (nI ((s0 + 1) % 4))) (i + 1)), (i + 1)) _ _ _ (by dsimp only; omega) ⟨_, rfl, lv_sub hl [1, 2, 0] rfl, (by rw [sr_sr, sr_sr] at hW; unfold seaF; rw [← hv]; unfold taddN; rw [if_neg (fun z => by have := z.2; omega)]; exact hW), ⟨rfl, by (try dsimp only); omega⟩⟩
            · refine lv_iconst (v := nI 1) hx hb dX10_seasonIt_139 (by decide) ?_
              refine lv_goto (tgt := 144) hx hb dX10_seasonIt_140 (by decide) ?_
              refine r_iaddN hx hb (a := (thM mm i)) (b := 1) dX10_seasonIt_144 ?_
              refine md_ast_m C hW (i := 11 + 3 * i + 1) (by omega) dX10_seasonIt_145 (fun H locs hW => ?_)
              refine lv_iinc (v := (nI (i + 1))) (lv' := [(2, .int (nI (i + 1))), (0, .ref (ad 0)), (1, .int (byF ((s0 + 1) % 4)))]) hx hb dX10_seasonIt_146 hl (k := 2) rfl (nI_1 _) (by decide) rfl (fun ls hl => ?_)
              refine lv_goto (tgt := 63) hx hb dX10_seasonIt_149 (by decide) ?_
              exact ih_63 ((seaF ((s0 + 1) % 4) (upd (S 0) 3 (nI ((s0 + 1) % 4))) (i + 1)), (i + 1)) _ _ _ (by dsimp only; omega) ⟨_, rfl, lv_sub hl [1, 2, 0] rfl, (by rw [sr_sr, sr_sr] at hW; unfold seaF; rw [← hv]; unfold taddN; rw [if_pos ⟨c_120, by omega⟩]; exact hW), ⟨rfl, by (try dsimp only); omega⟩⟩
      · refine lv_bipush (v := (-2)) hx hb dX10_seasonIt_53 (by decide) ?_
        refine lv_goto (tgt := 60) hx hb dX10_seasonIt_55 (by decide) ?_
        refine r_eq (y := byF ((s0 + 1) % 4)) (by unfold byF; rw [if_neg c_22, if_neg c_36, if_pos c_50]) ?_
        refine lv_istore_n (lv' := [(1, .int (byF ((s0 + 1) % 4))), (0, .ref (ad 0))]) hx hb dX10_seasonIt_60 rfl hl (by decide) rfl (fun ls hl => ?_)
        refine lv_iconst (v := nI 0) hx hb dX10_seasonIt_61 (by decide) ?_
        refine lv_istore_n (lv' := [(2, .int (nI 0)), (1, .int (byF ((s0 + 1) % 4))), (0, .ref (ad 0))]) hx hb dX10_seasonIt_62 rfl hl (by decide) rfl (fun ls hl => ?_)
        refine W_loopH (σ := (Nat → Int32) × Nat) (fun z_ => hM (S 0) - z_.2) (fun z_ H locs g => ∃ ls, g = F0 m 63 ls [] ∧ lv_has ls 3 [(0, .ref (ad 0)), (1, .int (byF ((s0 + 1) % 4))), (2, .int (nI z_.2))] ∧ MdB D aT ad (sr S 0 z_.1) A s.heap H locs ∧ (z_.1 = seaF ((s0 + 1) % 4) (upd (S 0) 3 (nI ((s0 + 1) % 4))) z_.2 ∧ z_.2 ≤ hM (S 0))) ?_ ((upd (S 0) 3 (nI ((s0 + 1) % 4))), 0) _ ⟨_, rfl, lv_sub hl [2, 1, 0] rfl, (by rw [show nI ((s0 + 1) % 4) = nI ((s0 + 1) % 4) from rfl] at hW; exact hW), ⟨rfl, Nat.zero_le _⟩⟩
        clear hW hl
        rintro ⟨mm, i⟩ H locs g ⟨ls, rfl, hl, hW, hv, hih⟩ ih_63
        dsimp only at hl hW hv hih ⊢
        obtain ⟨hw, hhm, hfix⟩ : seaOk (upd (S 0) 3 (nI ((s0 + 1) % 4))) mm := by rw [hv]; exact seaF_ok hH1 i (by rw [hh1]; exact hih)
        rw [hh1] at hhm
        have e3 : mm 3 = nI ((s0 + 1) % 4) := by rw [hfix 3 (by omega), pk_us]
        have h6 : hM (S 0) ≤ 6 := hH.2.1
        refine lv_iload_n hx hb dX10_seasonIt_63 rfl (lv_at hl 2 rfl) ?_
        refine lv_aload_n hx hb dX10_seasonIt_64 rfl (lv_at hl 0 rfl) ?_
        refine md_geta_m C hW dX10_seasonIt_65 ?_
        refine lv_iconst (v := nI 0) hx hb dX10_seasonIt_68 (by decide) ?_
        refine md_ald_m C hW (i := 0) (by omega) dX10_seasonIt_69 ?_
        refine r_eq (y := (nI (hM (S 0)))) (by show mm 0 = _; rw [← hhm]; exact hw.1) ?_
        refine r_geN hx hb (a := i) (b := (hM (S 0))) (by omega) (by omega) (tgt := 152) dX10_seasonIt_70 (by decide) (fun c_70 => ?_) (fun c_70 => ?_)
        · refine lv_aload_n hx hb dX10_seasonIt_152 rfl (lv_at hl 0 rfl) ?_
          refine md_geta_m C hW dX10_seasonIt_153 ?_
          refine lv_iconst (v := nI 3) hx hb dX10_seasonIt_156 (by decide) ?_
          refine md_ald_m C hW (i := 3) (by omega) dX10_seasonIt_157 ?_
          refine r_eq (y := (nI ((s0 + 1) % 4))) (by show mm 3 = _; exact e3) ?_
          exact md_iret C hr hlocks rfl hW (⟨rfl, by rw [hv, show i = hM (S 0) by omega]⟩) dX10_seasonIt_158
        · refine lv_aload_n hx hb dX10_seasonIt_73 rfl (lv_at hl 0 rfl) ?_
          refine md_geta_m C hW dX10_seasonIt_74 ?_
          refine lv_iload_n hx hb dX10_seasonIt_77 rfl (lv_at hl 2 rfl) ?_
          refine md_calls C hml hl.1 (As := [.int (nI i)]) (rest := [.ref (ad 1)]) (m_hedgeAt l i) gT_hedgeAt hd_hedgeAt rfl ⟨Nat.le_of_ble_eq_true rfl, Nat.le_of_ble_eq_true rfl⟩ ⟨Nat.le_refl _, Nat.le_refl _⟩ rfl (Nat.le_of_ble_eq_true rfl) dX10_seasonIt_78 (fun r_78 hq => ?_)
          subst hq
          refine lv_iconst (v := nI 1) hx hb dX10_seasonIt_81 (by decide) ?_
          refine lv_bipush (v := nI 99) hx hb dX10_seasonIt_82 (by decide) ?_
          refine lv_aload_n hx hb dX10_seasonIt_84 rfl (lv_at hl 0 rfl) ?_
          refine md_geta_m C hW dX10_seasonIt_85 ?_
          refine lv_iload_n hx hb dX10_seasonIt_88 rfl (lv_at hl 2 rfl) ?_
          refine md_calls C hml hl.1 (As := [.int (nI i)]) (rest := [.ref (ad 1), .int (nI 99), .int (nI 1), .int (nI (11 + 3 * i)), .ref (ad 1)]) (m_hedgeAt l i) gT_hedgeAt hd_hedgeAt rfl ⟨Nat.le_of_ble_eq_true rfl, Nat.le_of_ble_eq_true rfl⟩ ⟨Nat.le_refl _, Nat.le_refl _⟩ rfl (Nat.le_of_ble_eq_true rfl) dX10_seasonIt_89 (fun r_89 hq => ?_)
          subst hq
          refine md_ald_m C hW (i := (11 + 3 * i)) (by omega) dX10_seasonIt_92 ?_
          refine r_eq (y := (nI (lvM mm i))) (by show mm _ = _; exact (hw.2.2.1 i (by rw [hhm]; omega)).1) ?_
          refine lv_iload_n hx hb dX10_seasonIt_93 rfl (lv_at hl 1 rfl) ?_
          refine lv_iadd hx hb dX10_seasonIt_94 ?_
          refine md_min C hml hl.1 gk_min ⟨Nat.le_of_ble_eq_true rfl, Nat.le_of_ble_eq_true rfl, Nat.le_of_ble_eq_true rfl⟩ ⟨Nat.le_refl _, Nat.le_refl _⟩ dX10_seasonIt_95 ?_
          refine md_max C hml hl.1 gk_max ⟨Nat.le_of_ble_eq_true rfl, Nat.le_of_ble_eq_true rfl, Nat.le_of_ble_eq_true rfl⟩ ⟨Nat.le_refl _, Nat.le_refl _⟩ dX10_seasonIt_98 ?_
          refine r_eq (y := (nI (leafN ((s0 + 1) % 4) (lvM mm i)))) (clp_eq _ (by omega) _ (by have := ((hw.2.2.1 i (by rw [hhm]; omega)).2).2; omega) ((hw.2.2.1 i (by rw [hhm]; omega)).2).1) ?_
          refine md_ast_m C hW (i := (11 + 3 * i)) (by omega) dX10_seasonIt_101 (fun H locs hW => ?_)
          refine lv_aload_n hx hb dX10_seasonIt_102 rfl (lv_at hl 0 rfl) ?_
          refine md_geta_m C hW dX10_seasonIt_103 ?_
          refine lv_iload_n hx hb dX10_seasonIt_106 rfl (lv_at hl 2 rfl) ?_
          refine md_calls C hml hl.1 (As := [.int (nI i)]) (rest := [.ref (ad 1)]) (m_hedgeAt l i) gT_hedgeAt hd_hedgeAt rfl ⟨Nat.le_of_ble_eq_true rfl, Nat.le_of_ble_eq_true rfl⟩ ⟨Nat.le_refl _, Nat.le_refl _⟩ rfl (Nat.le_of_ble_eq_true rfl) dX10_seasonIt_107 (fun r_107 hq => ?_)
          subst hq
          refine lv_iconst (v := nI 1) hx hb dX10_seasonIt_110 (by decide) ?_
          refine r_iaddN hx hb (a := (11 + 3 * i)) (b := 1) dX10_seasonIt_111 ?_
          refine lv_dup2_11 hx hb dX10_seasonIt_112 rfl rfl ?_
          refine md_ald_m C hW (i := 11 + 3 * i + 1) (by omega) dX10_seasonIt_113 ?_
          refine r_eq (y := (nI (thM mm i))) (by show upd mm _ _ _ = _; rw [pk_un (by omega)]; exact (hw.2.2.2.1 i (by rw [hhm]; omega)).1) ?_
          refine lv_aload_n hx hb dX10_seasonIt_114 rfl (lv_at hl 0 rfl) ?_
          refine md_geta_m C hW dX10_seasonIt_115 ?_
          refine lv_iconst (v := nI 3) hx hb dX10_seasonIt_118 (by decide) ?_
          refine md_ald_m C hW (i := 3) (by omega) dX10_seasonIt_119 ?_
          refine r_eq (y := (nI ((s0 + 1) % 4))) (by show upd mm _ _ _ = _; rw [pk_un (by omega)]; exact e3) ?_
          refine r_ifneN hx hb (a := ((s0 + 1) % 4)) (by omega) (tgt := 143) dX10_seasonIt_120 (by decide) (fun c_120 => ?_) (fun c_120 => ?_)
          · refine lv_iconst (v := nI 0) hx hb dX10_seasonIt_143 (by decide) ?_
            refine r_iaddN hx hb (a := (thM mm i)) (b := 0) dX10_seasonIt_144 ?_
            refine md_ast_m C hW (i := 11 + 3 * i + 1) (by omega) dX10_seasonIt_145 (fun H locs hW => ?_)
            refine lv_iinc (v := (nI (i + 1))) (lv' := [(2, .int (nI (i + 1))), (0, .ref (ad 0)), (1, .int (byF ((s0 + 1) % 4)))]) hx hb dX10_seasonIt_146 hl (k := 2) rfl (nI_1 _) (by decide) rfl (fun ls hl => ?_)
            refine lv_goto (tgt := 63) hx hb dX10_seasonIt_149 (by decide) ?_
            exact ih_63 ((seaF ((s0 + 1) % 4) (upd (S 0) 3 (nI ((s0 + 1) % 4))) (i + 1)), (i + 1)) _ _ _ (by dsimp only; omega) ⟨_, rfl, lv_sub hl [1, 2, 0] rfl, (by rw [sr_sr, sr_sr] at hW; unfold seaF; rw [← hv]; unfold taddN; rw [if_neg (fun z => c_120 z.1)]; exact hW), ⟨rfl, by (try dsimp only); omega⟩⟩
          · refine lv_aload_n hx hb dX10_seasonIt_123 rfl (lv_at hl 0 rfl) ?_
            refine md_geta_m C hW dX10_seasonIt_124 ?_
            refine lv_iload_n hx hb dX10_seasonIt_127 rfl (lv_at hl 2 rfl) ?_
            refine md_calls C hml hl.1 (As := [.int (nI i)]) (rest := [.ref (ad 1), .int (nI (thM mm i)), .int (nI (11 + 3 * i + 1)), .ref (ad 1)]) (m_hedgeAt l i) gT_hedgeAt hd_hedgeAt rfl ⟨Nat.le_of_ble_eq_true rfl, Nat.le_of_ble_eq_true rfl⟩ ⟨Nat.le_refl _, Nat.le_refl _⟩ rfl (Nat.le_of_ble_eq_true rfl) dX10_seasonIt_128 (fun r_128 hq => ?_)
            subst hq
            refine lv_iconst (v := nI 1) hx hb dX10_seasonIt_131 (by decide) ?_
            refine r_iaddN hx hb (a := (11 + 3 * i)) (b := 1) dX10_seasonIt_132 ?_
            refine md_ald_m C hW (i := 11 + 3 * i + 1) (by omega) dX10_seasonIt_133 ?_
            refine r_eq (y := (nI (thM mm i))) (by show upd mm _ _ _ = _; rw [pk_un (by omega)]; exact (hw.2.2.2.1 i (by rw [hhm]; omega)).1) ?_
            refine lv_bipush (v := nI 9) hx hb dX10_seasonIt_134 (by decide) ?_
            refine r_geN hx hb (a := (thM mm i)) (b := 9) (by have := (hw.2.2.2.1 i (by rw [hhm]; omega)).2; omega) (by have := (hw.2.2.2.1 i (by rw [hhm]; omega)).2; omega) (tgt := 143) dX10_seasonIt_136 (by decide) (fun c_136 => ?_) (fun c_136 => ?_)
            · refine lv_iconst (v := nI 0) hx hb dX10_seasonIt_143 (by decide) ?_
              refine r_iaddN hx hb (a := (thM mm i)) (b := 0) dX10_seasonIt_144 ?_
              refine md_ast_m C hW (i := 11 + 3 * i + 1) (by omega) dX10_seasonIt_145 (fun H locs hW => ?_)
              refine lv_iinc (v := (nI (i + 1))) (lv' := [(2, .int (nI (i + 1))), (0, .ref (ad 0)), (1, .int (byF ((s0 + 1) % 4)))]) hx hb dX10_seasonIt_146 hl (k := 2) rfl (nI_1 _) (by decide) rfl (fun ls hl => ?_)
              refine lv_goto (tgt := 63) hx hb dX10_seasonIt_149 (by decide) ?_
              exact ih_63 ((seaF ((s0 + 1) % 4) (upd (S 0) 3 (nI ((s0 + 1) % 4))) (i + 1)), (i + 1)) _ _ _ (by dsimp only; omega) ⟨_, rfl, lv_sub hl [1, 2, 0] rfl, (by rw [sr_sr, sr_sr] at hW; unfold seaF; rw [← hv]; unfold taddN; rw [if_neg (fun z => by have := z.2; omega)]; exact hW), ⟨rfl, by (try dsimp only); omega⟩⟩
            · refine lv_iconst (v := nI 1) hx hb dX10_seasonIt_139 (by decide) ?_
              refine lv_goto (tgt := 144) hx hb dX10_seasonIt_140 (by decide) ?_
              refine r_iaddN hx hb (a := (thM mm i)) (b := 1) dX10_seasonIt_144 ?_
              refine md_ast_m C hW (i := 11 + 3 * i + 1) (by omega) dX10_seasonIt_145 (fun H locs hW => ?_)
              refine lv_iinc (v := (nI (i + 1))) (lv' := [(2, .int (nI (i + 1))), (0, .ref (ad 0)), (1, .int (byF ((s0 + 1) % 4)))]) hx hb dX10_seasonIt_146 hl (k := 2) rfl (nI_1 _) (by decide) rfl (fun ls hl => ?_)
              refine lv_goto (tgt := 63) hx hb dX10_seasonIt_149 (by decide) ?_
              exact ih_63 ((seaF ((s0 + 1) % 4) (upd (S 0) 3 (nI ((s0 + 1) % 4))) (i + 1)), (i + 1)) _ _ _ (by dsimp only; omega) ⟨_, rfl, lv_sub hl [1, 2, 0] rfl, (by rw [sr_sr, sr_sr] at hW; unfold seaF; rw [← hv]; unfold taddN; rw [if_pos ⟨c_120, by omega⟩]; exact hW), ⟨rfl, by (try dsimp only); omega⟩⟩
    · refine lv_iconst (v := nI 2) hx hb dX10_seasonIt_39 (by decide) ?_
      refine lv_goto (tgt := 60) hx hb dX10_seasonIt_40 (by decide) ?_
      refine r_eq (y := byF ((s0 + 1) % 4)) (by unfold byF; rw [if_neg c_22, if_pos c_36]) ?_
      refine lv_istore_n (lv' := [(1, .int (byF ((s0 + 1) % 4))), (0, .ref (ad 0))]) hx hb dX10_seasonIt_60 rfl hl (by decide) rfl (fun ls hl => ?_)
      refine lv_iconst (v := nI 0) hx hb dX10_seasonIt_61 (by decide) ?_
      refine lv_istore_n (lv' := [(2, .int (nI 0)), (1, .int (byF ((s0 + 1) % 4))), (0, .ref (ad 0))]) hx hb dX10_seasonIt_62 rfl hl (by decide) rfl (fun ls hl => ?_)
      refine W_loopH (σ := (Nat → Int32) × Nat) (fun z_ => hM (S 0) - z_.2) (fun z_ H locs g => ∃ ls, g = F0 m 63 ls [] ∧ lv_has ls 3 [(0, .ref (ad 0)), (1, .int (byF ((s0 + 1) % 4))), (2, .int (nI z_.2))] ∧ MdB D aT ad (sr S 0 z_.1) A s.heap H locs ∧ (z_.1 = seaF ((s0 + 1) % 4) (upd (S 0) 3 (nI ((s0 + 1) % 4))) z_.2 ∧ z_.2 ≤ hM (S 0))) ?_ ((upd (S 0) 3 (nI ((s0 + 1) % 4))), 0) _ ⟨_, rfl, lv_sub hl [2, 1, 0] rfl, (by rw [show nI ((s0 + 1) % 4) = nI ((s0 + 1) % 4) from rfl] at hW; exact hW), ⟨rfl, Nat.zero_le _⟩⟩
      clear hW hl
      rintro ⟨mm, i⟩ H locs g ⟨ls, rfl, hl, hW, hv, hih⟩ ih_63
      dsimp only at hl hW hv hih ⊢
      obtain ⟨hw, hhm, hfix⟩ : seaOk (upd (S 0) 3 (nI ((s0 + 1) % 4))) mm := by rw [hv]; exact seaF_ok hH1 i (by rw [hh1]; exact hih)
      rw [hh1] at hhm
      have e3 : mm 3 = nI ((s0 + 1) % 4) := by rw [hfix 3 (by omega), pk_us]
      have h6 : hM (S 0) ≤ 6 := hH.2.1
      refine lv_iload_n hx hb dX10_seasonIt_63 rfl (lv_at hl 2 rfl) ?_
      refine lv_aload_n hx hb dX10_seasonIt_64 rfl (lv_at hl 0 rfl) ?_
      refine md_geta_m C hW dX10_seasonIt_65 ?_
      refine lv_iconst (v := nI 0) hx hb dX10_seasonIt_68 (by decide) ?_
      refine md_ald_m C hW (i := 0) (by omega) dX10_seasonIt_69 ?_
      refine r_eq (y := (nI (hM (S 0)))) (by show mm 0 = _; rw [← hhm]; exact hw.1) ?_
      refine r_geN hx hb (a := i) (b := (hM (S 0))) (by omega) (by omega) (tgt := 152) dX10_seasonIt_70 (by decide) (fun c_70 => ?_) (fun c_70 => ?_)
      · refine lv_aload_n hx hb dX10_seasonIt_152 rfl (lv_at hl 0 rfl) ?_
        refine md_geta_m C hW dX10_seasonIt_153 ?_
        refine lv_iconst (v := nI 3) hx hb dX10_seasonIt_156 (by decide) ?_
        refine md_ald_m C hW (i := 3) (by omega) dX10_seasonIt_157 ?_
        refine r_eq (y := (nI ((s0 + 1) % 4))) (by show mm 3 = _; exact e3) ?_
        exact md_iret C hr hlocks rfl hW (⟨rfl, by rw [hv, show i = hM (S 0) by omega]⟩) dX10_seasonIt_158
      · refine lv_aload_n hx hb dX10_seasonIt_73 rfl (lv_at hl 0 rfl) ?_
        refine md_geta_m C hW dX10_seasonIt_74 ?_
        refine lv_iload_n hx hb dX10_seasonIt_77 rfl (lv_at hl 2 rfl) ?_
        refine md_calls C hml hl.1 (As := [.int (nI i)]) (rest := [.ref (ad 1)]) (m_hedgeAt l i) gT_hedgeAt hd_hedgeAt rfl ⟨Nat.le_of_ble_eq_true rfl, Nat.le_of_ble_eq_true rfl⟩ ⟨Nat.le_refl _, Nat.le_refl _⟩ rfl (Nat.le_of_ble_eq_true rfl) dX10_seasonIt_78 (fun r_78 hq => ?_)
        subst hq
        refine lv_iconst (v := nI 1) hx hb dX10_seasonIt_81 (by decide) ?_
        refine lv_bipush (v := nI 99) hx hb dX10_seasonIt_82 (by decide) ?_
        refine lv_aload_n hx hb dX10_seasonIt_84 rfl (lv_at hl 0 rfl) ?_
        refine md_geta_m C hW dX10_seasonIt_85 ?_
        refine lv_iload_n hx hb dX10_seasonIt_88 rfl (lv_at hl 2 rfl) ?_
        refine md_calls C hml hl.1 (As := [.int (nI i)]) (rest := [.ref (ad 1), .int (nI 99), .int (nI 1), .int (nI (11 + 3 * i)), .ref (ad 1)]) (m_hedgeAt l i) gT_hedgeAt hd_hedgeAt rfl ⟨Nat.le_of_ble_eq_true rfl, Nat.le_of_ble_eq_true rfl⟩ ⟨Nat.le_refl _, Nat.le_refl _⟩ rfl (Nat.le_of_ble_eq_true rfl) dX10_seasonIt_89 (fun r_89 hq => ?_)
        subst hq
        refine md_ald_m C hW (i := (11 + 3 * i)) (by omega) dX10_seasonIt_92 ?_
        refine r_eq (y := (nI (lvM mm i))) (by show mm _ = _; exact (hw.2.2.1 i (by rw [hhm]; omega)).1) ?_
        refine lv_iload_n hx hb dX10_seasonIt_93 rfl (lv_at hl 1 rfl) ?_
        refine lv_iadd hx hb dX10_seasonIt_94 ?_
        refine md_min C hml hl.1 gk_min ⟨Nat.le_of_ble_eq_true rfl, Nat.le_of_ble_eq_true rfl, Nat.le_of_ble_eq_true rfl⟩ ⟨Nat.le_refl _, Nat.le_refl _⟩ dX10_seasonIt_95 ?_
        refine md_max C hml hl.1 gk_max ⟨Nat.le_of_ble_eq_true rfl, Nat.le_of_ble_eq_true rfl, Nat.le_of_ble_eq_true rfl⟩ ⟨Nat.le_refl _, Nat.le_refl _⟩ dX10_seasonIt_98 ?_
        refine r_eq (y := (nI (leafN ((s0 + 1) % 4) (lvM mm i)))) (clp_eq _ (by omega) _ (by have := ((hw.2.2.1 i (by rw [hhm]; omega)).2).2; omega) ((hw.2.2.1 i (by rw [hhm]; omega)).2).1) ?_
        refine md_ast_m C hW (i := (11 + 3 * i)) (by omega) dX10_seasonIt_101 (fun H locs hW => ?_)
        refine lv_aload_n hx hb dX10_seasonIt_102 rfl (lv_at hl 0 rfl) ?_
        refine md_geta_m C hW dX10_seasonIt_103 ?_
        refine lv_iload_n hx hb dX10_seasonIt_106 rfl (lv_at hl 2 rfl) ?_
        refine md_calls C hml hl.1 (As := [.int (nI i)]) (rest := [.ref (ad 1)]) (m_hedgeAt l i) gT_hedgeAt hd_hedgeAt rfl ⟨Nat.le_of_ble_eq_true rfl, Nat.le_of_ble_eq_true rfl⟩ ⟨Nat.le_refl _, Nat.le_refl _⟩ rfl (Nat.le_of_ble_eq_true rfl) dX10_seasonIt_107 (fun r_107 hq => ?_)
        subst hq
        refine lv_iconst (v := nI 1) hx hb dX10_seasonIt_110 (by decide) ?_
        refine r_iaddN hx hb (a := (11 + 3 * i)) (b := 1) dX10_seasonIt_111 ?_
        refine lv_dup2_11 hx hb dX10_seasonIt_112 rfl rfl ?_
        refine md_ald_m C hW (i := 11 + 3 * i + 1) (by omega) dX10_seasonIt_113 ?_
        refine r_eq (y := (nI (thM mm i))) (by show upd mm _ _ _ = _; rw [pk_un (by omega)]; exact (hw.2.2.2.1 i (by rw [hhm]; omega)).1) ?_
        refine lv_aload_n hx hb dX10_seasonIt_114 rfl (lv_at hl 0 rfl) ?_
        refine md_geta_m C hW dX10_seasonIt_115 ?_
        refine lv_iconst (v := nI 3) hx hb dX10_seasonIt_118 (by decide) ?_
        refine md_ald_m C hW (i := 3) (by omega) dX10_seasonIt_119 ?_
        refine r_eq (y := (nI ((s0 + 1) % 4))) (by show upd mm _ _ _ = _; rw [pk_un (by omega)]; exact e3) ?_
        refine r_ifneN hx hb (a := ((s0 + 1) % 4)) (by omega) (tgt := 143) dX10_seasonIt_120 (by decide) (fun c_120 => ?_) (fun c_120 => ?_)
        · refine lv_iconst (v := nI 0) hx hb dX10_seasonIt_143 (by decide) ?_
          refine r_iaddN hx hb (a := (thM mm i)) (b := 0) dX10_seasonIt_144 ?_
          refine md_ast_m C hW (i := 11 + 3 * i + 1) (by omega) dX10_seasonIt_145 (fun H locs hW => ?_)
          refine lv_iinc (v := (nI (i + 1))) (lv' := [(2, .int (nI (i + 1))), (0, .ref (ad 0)), (1, .int (byF ((s0 + 1) % 4)))]) hx hb dX10_seasonIt_146 hl (k := 2) rfl (nI_1 _) (by decide) rfl (fun ls hl => ?_)
          refine lv_goto (tgt := 63) hx hb dX10_seasonIt_149 (by decide) ?_
          exact ih_63 ((seaF ((s0 + 1) % 4) (upd (S 0) 3 (nI ((s0 + 1) % 4))) (i + 1)), (i + 1)) _ _ _ (by dsimp only; omega) ⟨_, rfl, lv_sub hl [1, 2, 0] rfl, (by rw [sr_sr, sr_sr] at hW; unfold seaF; rw [← hv]; unfold taddN; rw [if_neg (fun z => c_120 z.1)]; exact hW), ⟨rfl, by (try dsimp only); omega⟩⟩
        · refine lv_aload_n hx hb dX10_seasonIt_123 rfl (lv_at hl 0 rfl) ?_
          refine md_geta_m C hW dX10_seasonIt_124 ?_
          refine lv_iload_n hx hb dX10_seasonIt_127 rfl (lv_at hl 2 rfl) ?_
          refine md_calls C hml hl.1 (As := [.int (nI i)]) (rest := [.ref (ad 1), .int (nI (thM mm i)), .int (nI (11 + 3 * i + 1)), .ref (ad 1)]) (m_hedgeAt l i) gT_hedgeAt hd_hedgeAt rfl ⟨Nat.le_of_ble_eq_true rfl, Nat.le_of_ble_eq_true rfl⟩ ⟨Nat.le_refl _, Nat.le_refl _⟩ rfl (Nat.le_of_ble_eq_true rfl) dX10_seasonIt_128 (fun r_128 hq => ?_)
          subst hq
          refine lv_iconst (v := nI 1) hx hb dX10_seasonIt_131 (by decide) ?_
          refine r_iaddN hx hb (a := (11 + 3 * i)) (b := 1) dX10_seasonIt_132 ?_
          refine md_ald_m C hW (i := 11 + 3 * i + 1) (by omega) dX10_seasonIt_133 ?_
          refine r_eq (y := (nI (thM mm i))) (by show upd mm _ _ _ = _; rw [pk_un (by omega)]; exact (hw.2.2.2.1 i (by rw [hhm]; omega)).1) ?_
          refine lv_bipush (v := nI 9) hx hb dX10_seasonIt_134 (by decide) ?_
          refine r_geN hx hb (a := (thM mm i)) (b := 9) (by have := (hw.2.2.2.1 i (by rw [hhm]; omega)).2; omega) (by have := (hw.2.2.2.1 i (by rw [hhm]; omega)).2; omega) (tgt := 143) dX10_seasonIt_136 (by decide) (fun c_136 => ?_) (fun c_136 => ?_)
          · refine lv_iconst (v := nI 0) hx hb dX10_seasonIt_143 (by decide) ?_
            refine r_iaddN hx hb (a := (thM mm i)) (b := 0) dX10_seasonIt_144 ?_
            refine md_ast_m C hW (i := 11 + 3 * i + 1) (by omega) dX10_seasonIt_145 (fun H locs hW => ?_)
            refine lv_iinc (v := (nI (i + 1))) (lv' := [(2, .int (nI (i + 1))), (0, .ref (ad 0)), (1, .int (byF ((s0 + 1) % 4)))]) hx hb dX10_seasonIt_146 hl (k := 2) rfl (nI_1 _) (by decide) rfl (fun ls hl => ?_)
            refine lv_goto (tgt := 63) hx hb dX10_seasonIt_149 (by decide) ?_
            exact ih_63 ((seaF ((s0 + 1) % 4) (upd (S 0) 3 (nI ((s0 + 1) % 4))) (i + 1)), (i + 1)) _ _ _ (by dsimp only; omega) ⟨_, rfl, lv_sub hl [1, 2, 0] rfl, (by rw [sr_sr, sr_sr] at hW; unfold seaF; rw [← hv]; unfold taddN; rw [if_neg (fun z => by have := z.2; omega)]; exact hW), ⟨rfl, by (try dsimp only); omega⟩⟩
          · refine lv_iconst (v := nI 1) hx hb dX10_seasonIt_139 (by decide) ?_
            refine lv_goto (tgt := 144) hx hb dX10_seasonIt_140 (by decide) ?_
            refine r_iaddN hx hb (a := (thM mm i)) (b := 1) dX10_seasonIt_144 ?_
            refine md_ast_m C hW (i := 11 + 3 * i + 1) (by omega) dX10_seasonIt_145 (fun H locs hW => ?_)
            refine lv_iinc (v := (nI (i + 1))) (lv' := [(2, .int (nI (i + 1))), (0, .ref (ad 0)), (1, .int (byF ((s0 + 1) % 4)))]) hx hb dX10_seasonIt_146 hl (k := 2) rfl (nI_1 _) (by decide) rfl (fun ls hl => ?_)
            refine lv_goto (tgt := 63) hx hb dX10_seasonIt_149 (by decide) ?_
            exact ih_63 ((seaF ((s0 + 1) % 4) (upd (S 0) 3 (nI ((s0 + 1) % 4))) (i + 1)), (i + 1)) _ _ _ (by dsimp only; omega) ⟨_, rfl, lv_sub hl [1, 2, 0] rfl, (by rw [sr_sr, sr_sr] at hW; unfold seaF; rw [← hv]; unfold taddN; rw [if_pos ⟨c_120, by omega⟩]; exact hW), ⟨rfl, by (try dsimp only); omega⟩⟩
  · refine lv_iconst (v := nI 4) hx hb dX10_seasonIt_25 (by decide) ?_
    refine lv_goto (tgt := 60) hx hb dX10_seasonIt_26 (by decide) ?_
    refine r_eq (y := byF ((s0 + 1) % 4)) (by unfold byF; rw [if_pos c_22]) ?_
    refine lv_istore_n (lv' := [(1, .int (byF ((s0 + 1) % 4))), (0, .ref (ad 0))]) hx hb dX10_seasonIt_60 rfl hl (by decide) rfl (fun ls hl => ?_)
    refine lv_iconst (v := nI 0) hx hb dX10_seasonIt_61 (by decide) ?_
    refine lv_istore_n (lv' := [(2, .int (nI 0)), (1, .int (byF ((s0 + 1) % 4))), (0, .ref (ad 0))]) hx hb dX10_seasonIt_62 rfl hl (by decide) rfl (fun ls hl => ?_)
    refine W_loopH (σ := (Nat → Int32) × Nat) (fun z_ => hM (S 0) - z_.2) (fun z_ H locs g => ∃ ls, g = F0 m 63 ls [] ∧ lv_has ls 3 [(0, .ref (ad 0)), (1, .int (byF ((s0 + 1) % 4))), (2, .int (nI z_.2))] ∧ MdB D aT ad (sr S 0 z_.1) A s.heap H locs ∧ (z_.1 = seaF ((s0 + 1) % 4) (upd (S 0) 3 (nI ((s0 + 1) % 4))) z_.2 ∧ z_.2 ≤ hM (S 0))) ?_ ((upd (S 0) 3 (nI ((s0 + 1) % 4))), 0) _ ⟨_, rfl, lv_sub hl [2, 1, 0] rfl, (by rw [show nI ((s0 + 1) % 4) = nI ((s0 + 1) % 4) from rfl] at hW; exact hW), ⟨rfl, Nat.zero_le _⟩⟩
    clear hW hl
    rintro ⟨mm, i⟩ H locs g ⟨ls, rfl, hl, hW, hv, hih⟩ ih_63
    dsimp only at hl hW hv hih ⊢
    obtain ⟨hw, hhm, hfix⟩ : seaOk (upd (S 0) 3 (nI ((s0 + 1) % 4))) mm := by rw [hv]; exact seaF_ok hH1 i (by rw [hh1]; exact hih)
    rw [hh1] at hhm
    have e3 : mm 3 = nI ((s0 + 1) % 4) := by rw [hfix 3 (by omega), pk_us]
    have h6 : hM (S 0) ≤ 6 := hH.2.1
    refine lv_iload_n hx hb dX10_seasonIt_63 rfl (lv_at hl 2 rfl) ?_
    refine lv_aload_n hx hb dX10_seasonIt_64 rfl (lv_at hl 0 rfl) ?_
    refine md_geta_m C hW dX10_seasonIt_65 ?_
    refine lv_iconst (v := nI 0) hx hb dX10_seasonIt_68 (by decide) ?_
    refine md_ald_m C hW (i := 0) (by omega) dX10_seasonIt_69 ?_
    refine r_eq (y := (nI (hM (S 0)))) (by show mm 0 = _; rw [← hhm]; exact hw.1) ?_
    refine r_geN hx hb (a := i) (b := (hM (S 0))) (by omega) (by omega) (tgt := 152) dX10_seasonIt_70 (by decide) (fun c_70 => ?_) (fun c_70 => ?_)
    · refine lv_aload_n hx hb dX10_seasonIt_152 rfl (lv_at hl 0 rfl) ?_
      refine md_geta_m C hW dX10_seasonIt_153 ?_
      refine lv_iconst (v := nI 3) hx hb dX10_seasonIt_156 (by decide) ?_
      refine md_ald_m C hW (i := 3) (by omega) dX10_seasonIt_157 ?_
      refine r_eq (y := (nI ((s0 + 1) % 4))) (by show mm 3 = _; exact e3) ?_
      exact md_iret C hr hlocks rfl hW (⟨rfl, by rw [hv, show i = hM (S 0) by omega]⟩) dX10_seasonIt_158
    · refine lv_aload_n hx hb dX10_seasonIt_73 rfl (lv_at hl 0 rfl) ?_
      refine md_geta_m C hW dX10_seasonIt_74 ?_
      refine lv_iload_n hx hb dX10_seasonIt_77 rfl (lv_at hl 2 rfl) ?_
      refine md_calls C hml hl.1 (As := [.int (nI i)]) (rest := [.ref (ad 1)]) (m_hedgeAt l i) gT_hedgeAt hd_hedgeAt rfl ⟨Nat.le_of_ble_eq_true rfl, Nat.le_of_ble_eq_true rfl⟩ ⟨Nat.le_refl _, Nat.le_refl _⟩ rfl (Nat.le_of_ble_eq_true rfl) dX10_seasonIt_78 (fun r_78 hq => ?_)
      subst hq
      refine lv_iconst (v := nI 1) hx hb dX10_seasonIt_81 (by decide) ?_
      refine lv_bipush (v := nI 99) hx hb dX10_seasonIt_82 (by decide) ?_
      refine lv_aload_n hx hb dX10_seasonIt_84 rfl (lv_at hl 0 rfl) ?_
      refine md_geta_m C hW dX10_seasonIt_85 ?_
      refine lv_iload_n hx hb dX10_seasonIt_88 rfl (lv_at hl 2 rfl) ?_
      refine md_calls C hml hl.1 (As := [.int (nI i)]) (rest := [.ref (ad 1), .int (nI 99), .int (nI 1), .int (nI (11 + 3 * i)), .ref (ad 1)]) (m_hedgeAt l i) gT_hedgeAt hd_hedgeAt rfl ⟨Nat.le_of_ble_eq_true rfl, Nat.le_of_ble_eq_true rfl⟩ ⟨Nat.le_refl _, Nat.le_refl _⟩ rfl (Nat.le_of_ble_eq_true rfl) dX10_seasonIt_89 (fun r_89 hq => ?_)
      subst hq
      refine md_ald_m C hW (i := (11 + 3 * i)) (by omega) dX10_seasonIt_92 ?_
      refine r_eq (y := (nI (lvM mm i))) (by show mm _ = _; exact (hw.2.2.1 i (by rw [hhm]; omega)).1) ?_
      refine lv_iload_n hx hb dX10_seasonIt_93 rfl (lv_at hl 1 rfl) ?_
      refine lv_iadd hx hb dX10_seasonIt_94 ?_
      refine md_min C hml hl.1 gk_min ⟨Nat.le_of_ble_eq_true rfl, Nat.le_of_ble_eq_true rfl, Nat.le_of_ble_eq_true rfl⟩ ⟨Nat.le_refl _, Nat.le_refl _⟩ dX10_seasonIt_95 ?_
      refine md_max C hml hl.1 gk_max ⟨Nat.le_of_ble_eq_true rfl, Nat.le_of_ble_eq_true rfl, Nat.le_of_ble_eq_true rfl⟩ ⟨Nat.le_refl _, Nat.le_refl _⟩ dX10_seasonIt_98 ?_
      refine r_eq (y := (nI (leafN ((s0 + 1) % 4) (lvM mm i)))) (clp_eq _ (by omega) _ (by have := ((hw.2.2.1 i (by rw [hhm]; omega)).2).2; omega) ((hw.2.2.1 i (by rw [hhm]; omega)).2).1) ?_
      refine md_ast_m C hW (i := (11 + 3 * i)) (by omega) dX10_seasonIt_101 (fun H locs hW => ?_)
      refine lv_aload_n hx hb dX10_seasonIt_102 rfl (lv_at hl 0 rfl) ?_
      refine md_geta_m C hW dX10_seasonIt_103 ?_
      refine lv_iload_n hx hb dX10_seasonIt_106 rfl (lv_at hl 2 rfl) ?_
      refine md_calls C hml hl.1 (As := [.int (nI i)]) (rest := [.ref (ad 1)]) (m_hedgeAt l i) gT_hedgeAt hd_hedgeAt rfl ⟨Nat.le_of_ble_eq_true rfl, Nat.le_of_ble_eq_true rfl⟩ ⟨Nat.le_refl _, Nat.le_refl _⟩ rfl (Nat.le_of_ble_eq_true rfl) dX10_seasonIt_107 (fun r_107 hq => ?_)
      subst hq
      refine lv_iconst (v := nI 1) hx hb dX10_seasonIt_110 (by decide) ?_
      refine r_iaddN hx hb (a := (11 + 3 * i)) (b := 1) dX10_seasonIt_111 ?_
      refine lv_dup2_11 hx hb dX10_seasonIt_112 rfl rfl ?_
      refine md_ald_m C hW (i := 11 + 3 * i + 1) (by omega) dX10_seasonIt_113 ?_
      refine r_eq (y := (nI (thM mm i))) (by show upd mm _ _ _ = _; rw [pk_un (by omega)]; exact (hw.2.2.2.1 i (by rw [hhm]; omega)).1) ?_
      refine lv_aload_n hx hb dX10_seasonIt_114 rfl (lv_at hl 0 rfl) ?_
      refine md_geta_m C hW dX10_seasonIt_115 ?_
      refine lv_iconst (v := nI 3) hx hb dX10_seasonIt_118 (by decide) ?_
      refine md_ald_m C hW (i := 3) (by omega) dX10_seasonIt_119 ?_
      refine r_eq (y := (nI ((s0 + 1) % 4))) (by show upd mm _ _ _ = _; rw [pk_un (by omega)]; exact e3) ?_
      refine r_ifneN hx hb (a := ((s0 + 1) % 4)) (by omega) (tgt := 143) dX10_seasonIt_120 (by decide) (fun c_120 => ?_) (fun c_120 => ?_)
      · refine lv_iconst (v := nI 0) hx hb dX10_seasonIt_143 (by decide) ?_
        refine r_iaddN hx hb (a := (thM mm i)) (b := 0) dX10_seasonIt_144 ?_
        refine md_ast_m C hW (i := 11 + 3 * i + 1) (by omega) dX10_seasonIt_145 (fun H locs hW => ?_)
        refine lv_iinc (v := (nI (i + 1))) (lv' := [(2, .int (nI (i + 1))), (0, .ref (ad 0)), (1, .int (byF ((s0 + 1) % 4)))]) hx hb dX10_seasonIt_146 hl (k := 2) rfl (nI_1 _) (by decide) rfl (fun ls hl => ?_)
        refine lv_goto (tgt := 63) hx hb dX10_seasonIt_149 (by decide) ?_
        exact ih_63 ((seaF ((s0 + 1) % 4) (upd (S 0) 3 (nI ((s0 + 1) % 4))) (i + 1)), (i + 1)) _ _ _ (by dsimp only; omega) ⟨_, rfl, lv_sub hl [1, 2, 0] rfl, (by rw [sr_sr, sr_sr] at hW; unfold seaF; rw [← hv]; unfold taddN; rw [if_neg (fun z => c_120 z.1)]; exact hW), ⟨rfl, by (try dsimp only); omega⟩⟩
      · refine lv_aload_n hx hb dX10_seasonIt_123 rfl (lv_at hl 0 rfl) ?_
        refine md_geta_m C hW dX10_seasonIt_124 ?_
        refine lv_iload_n hx hb dX10_seasonIt_127 rfl (lv_at hl 2 rfl) ?_
        refine md_calls C hml hl.1 (As := [.int (nI i)]) (rest := [.ref (ad 1), .int (nI (thM mm i)), .int (nI (11 + 3 * i + 1)), .ref (ad 1)]) (m_hedgeAt l i) gT_hedgeAt hd_hedgeAt rfl ⟨Nat.le_of_ble_eq_true rfl, Nat.le_of_ble_eq_true rfl⟩ ⟨Nat.le_refl _, Nat.le_refl _⟩ rfl (Nat.le_of_ble_eq_true rfl) dX10_seasonIt_128 (fun r_128 hq => ?_)
        subst hq
        refine lv_iconst (v := nI 1) hx hb dX10_seasonIt_131 (by decide) ?_
        refine r_iaddN hx hb (a := (11 + 3 * i)) (b := 1) dX10_seasonIt_132 ?_
        refine md_ald_m C hW (i := 11 + 3 * i + 1) (by omega) dX10_seasonIt_133 ?_
        refine r_eq (y := (nI (thM mm i))) (by show upd mm _ _ _ = _; rw [pk_un (by omega)]; exact (hw.2.2.2.1 i (by rw [hhm]; omega)).1) ?_
        refine lv_bipush (v := nI 9) hx hb dX10_seasonIt_134 (by decide) ?_
        refine r_geN hx hb (a := (thM mm i)) (b := 9) (by have := (hw.2.2.2.1 i (by rw [hhm]; omega)).2; omega) (by have := (hw.2.2.2.1 i (by rw [hhm]; omega)).2; omega) (tgt := 143) dX10_seasonIt_136 (by decide) (fun c_136 => ?_) (fun c_136 => ?_)
        · refine lv_iconst (v := nI 0) hx hb dX10_seasonIt_143 (by decide) ?_
          refine r_iaddN hx hb (a := (thM mm i)) (b := 0) dX10_seasonIt_144 ?_
          refine md_ast_m C hW (i := 11 + 3 * i + 1) (by omega) dX10_seasonIt_145 (fun H locs hW => ?_)
          refine lv_iinc (v := (nI (i + 1))) (lv' := [(2, .int (nI (i + 1))), (0, .ref (ad 0)), (1, .int (byF ((s0 + 1) % 4)))]) hx hb dX10_seasonIt_146 hl (k := 2) rfl (nI_1 _) (by decide) rfl (fun ls hl => ?_)
          refine lv_goto (tgt := 63) hx hb dX10_seasonIt_149 (by decide) ?_
          exact ih_63 ((seaF ((s0 + 1) % 4) (upd (S 0) 3 (nI ((s0 + 1) % 4))) (i + 1)), (i + 1)) _ _ _ (by dsimp only; omega) ⟨_, rfl, lv_sub hl [1, 2, 0] rfl, (by rw [sr_sr, sr_sr] at hW; unfold seaF; rw [← hv]; unfold taddN; rw [if_neg (fun z => by have := z.2; omega)]; exact hW), ⟨rfl, by (try dsimp only); omega⟩⟩
        · refine lv_iconst (v := nI 1) hx hb dX10_seasonIt_139 (by decide) ?_
          refine lv_goto (tgt := 144) hx hb dX10_seasonIt_140 (by decide) ?_
          refine r_iaddN hx hb (a := (thM mm i)) (b := 1) dX10_seasonIt_144 ?_
          refine md_ast_m C hW (i := 11 + 3 * i + 1) (by omega) dX10_seasonIt_145 (fun H locs hW => ?_)
          refine lv_iinc (v := (nI (i + 1))) (lv' := [(2, .int (nI (i + 1))), (0, .ref (ad 0)), (1, .int (byF ((s0 + 1) % 4)))]) hx hb dX10_seasonIt_146 hl (k := 2) rfl (nI_1 _) (by decide) rfl (fun ls hl => ?_)
          refine lv_goto (tgt := 63) hx hb dX10_seasonIt_149 (by decide) ?_
          exact ih_63 ((seaF ((s0 + 1) % 4) (upd (S 0) 3 (nI ((s0 + 1) % 4))) (i + 1)), (i + 1)) _ _ _ (by dsimp only; omega) ⟨_, rfl, lv_sub hl [1, 2, 0] rfl, (by rw [sr_sr, sr_sr] at hW; unfold seaF; rw [← hv]; unfold taddN; rw [if_pos ⟨c_120, by omega⟩]; exact hW), ⟨rfl, by (try dsimp only); omega⟩⟩
