section
def byF (s : Nat) : Int32 := if s = 0 then nI 4 else if s = 1 then nI 2 else if s = 2 then -2 else -4
/-- a hedge's leaves when a season begins -/
def leafN (s lv : Nat) : Nat := if s = 0 then min 99 (lv + 4) else if s = 1 then min 99 (lv + 2) else if s = 2 then max 1 (lv - 2) else max 1 (lv - 4)
def taddN (s th : Nat) : Nat := if s = 0 ∧ th < 9 then 1 else 0
def clpF (x : Int32) : Int32 := if nI 1 < (if x < nI 99 then x else nI 99) then (if x < nI 99 then x else nI 99) else nI 1
theorem clp_eq : ∀ s, s < 4 → ∀ lv, lv < 100 → 1 ≤ lv → clpF (nI lv + byF s) = nI (leafN s lv) := by decide +kernel
theorem leafN_in {s lv : Nat} (h1 : 1 ≤ lv) (h2 : lv ≤ 99) : 1 ≤ leafN s lv ∧ leafN s lv ≤ 99 := by
  unfold leafN; split
  · omega
  · split
    · omega
    · split <;> omega
theorem taddN_in {s th : Nat} (h : th ≤ 9) : th + taddN s th ≤ 9 := by unfold taddN; split <;> omega
/-- the row when a season has begun, of the first i hedges -/
def seaF (s : Nat) (m : Nat → Int32) : Nat → Nat → Int32
  | 0 => m
  | i + 1 => upd (upd (seaF s m i) (11 + 3 * i) (nI (leafN s (lvM (seaF s m i) i)))) (11 + 3 * i + 1) (nI (thM (seaF s m i) i + taddN s (thM (seaF s m i) i)))
def seaOk (m m' : Nat → Int32) : Prop := HeW m' ∧ hM m' = hM m ∧ ∀ j, (j < 11 ∨ 29 ≤ j) → m' j = m j
theorem HeW.grow {m : Nat → Int32} (H : HeW m) {i a b : Nat} (hi : i < hM m) (ha : 1 ≤ a ∧ a ≤ 99) (hb : b ≤ 9) : HeW (upd (upd m (11 + 3 * i) (nI a)) (11 + 3 * i + 1) (nI b)) ∧ hM (upd (upd m (11 + 3 * i) (nI a)) (11 + 3 * i + 1) (nI b)) = hM m := by
  obtain ⟨h1, h2, h3, h4, h5⟩ := id H
  have key : HeR (upd (upd m (11 + 3 * i) (nI a)) (11 + 3 * i + 1) (nI b)) (hM m) (fun k => if k = i then a else lvM m k) (fun k => if k = i then b else thM m k) (taM m) := by
    refine ⟨by rw [pk_un (by omega), pk_un (by omega)]; exact h1, h2, fun k hk => ?_, fun k hk => ?_, fun k hk => by rw [pk_un (by omega), pk_un (by omega)]; exact h5 k hk⟩
    · by_cases hki : k = i
      · subst hki; dsimp only; rw [pk_un (by omega), pk_us, if_pos rfl]; exact ⟨rfl, ha⟩
      · dsimp only; rw [pk_un (by omega), pk_un (by omega), if_neg hki]; exact h3 k hk
    · by_cases hki : k = i
      · subst hki; dsimp only; rw [pk_us, if_pos rfl]; exact ⟨rfl, hb⟩
      · dsimp only; rw [pk_un (by omega), pk_un (by omega), if_neg hki]; exact h4 k hk
  exact ⟨key.w, key.eqs.1⟩
theorem seaF_ok {s : Nat} {m : Nat → Int32} (H : HeW m) : ∀ i, i ≤ hM m → seaOk m (seaF s m i) := by
  intro i
  induction i with
  | zero => intro _; exact ⟨H, rfl, fun _ _ => rfl⟩
  | succ i ih =>
    intro hi
    obtain ⟨a1, a2, a3⟩ := ih (by omega)
    have h6 := H.2.1
    have hl := (a1.2.2.1 i (by rw [a2]; omega)).2
    have ht := (a1.2.2.2.1 i (by rw [a2]; omega)).2
    obtain ⟨b1, b2⟩ := a1.grow (i := i) (by rw [a2]; omega) (leafN_in (s := s) hl.1 hl.2) (taddN_in (s := s) ht)
    unfold seaF
    exact ⟨b1, by rw [b2, a2], fun j hj => by rw [pk_un (by omega), pk_un (by omega)]; exact a3 j hj⟩
theorem gT_voteIt : GoodIn gw (wsV RX10 157 RX10 yX10_voteIt (Cond.code yX10_voteIt cX10_voteIt 5 (some .int) :: gw)) := gdV gw_1808 gw_1810 gw_38 gw_81 gw_1811
theorem hd_voteIt : yX10_voteIt.cls = RX10 ∧ yX10_voteIt.cls ≠ "java/lang/invoke/MethodHandle" ∧ yX10_voteIt.cls ≠ "java/lang/invoke/VarHandle" ∧ (parseMethodDescriptor yX10_voteIt.desc).map (fun d => d.parameters.length) = some 1 := ⟨rfl, by decide +kernel, by decide +kernel, by decide +kernel⟩
theorem dX10_voteIt_0 : decode cX10_voteIt 0 = .ok (.aload_n 0, 1) := by decide +kernel
theorem dX10_voteIt_1 : decode cX10_voteIt 1 = .ok (.iload_n 1, 1) := by decide +kernel
theorem dX10_voteIt_2 : decode cX10_voteIt 2 = .ok (.invokevirtual 71, 3) := by decide +kernel
theorem dX10_voteIt_5 : decode cX10_voteIt 5 = .ok (.istore_n 2, 1) := by decide +kernel
theorem dX10_voteIt_6 : decode cX10_voteIt 6 = .ok (.iload_n 2, 1) := by decide +kernel
theorem dX10_voteIt_7 : decode cX10_voteIt 7 = .ok (.iconst (-1), 1) := by decide +kernel
theorem dX10_voteIt_8 : decode cX10_voteIt 8 = .ok (.if_icmp .ne 9, 3) := by decide +kernel
theorem dX10_voteIt_11 : decode cX10_voteIt 11 = .ok (.aload_n 0, 1) := by decide +kernel
theorem dX10_voteIt_12 : decode cX10_voteIt 12 = .ok (.iconst 1, 1) := by decide +kernel
theorem dX10_voteIt_13 : decode cX10_voteIt 13 = .ok (.invokevirtual 101, 3) := by decide +kernel
theorem dX10_voteIt_16 : decode cX10_voteIt 16 = .ok (.ireturn, 1) := by decide +kernel
theorem dX10_voteIt_17 : decode cX10_voteIt 17 = .ok (.aload_n 0, 1) := by decide +kernel
theorem dX10_voteIt_18 : decode cX10_voteIt 18 = .ok (.getfield 9, 3) := by decide +kernel
theorem dX10_voteIt_21 : decode cX10_voteIt 21 = .ok (.iconst 0, 1) := by decide +kernel
theorem dX10_voteIt_22 : decode cX10_voteIt 22 = .ok (.iaload, 1) := by decide +kernel
theorem dX10_voteIt_23 : decode cX10_voteIt 23 = .ok (.ifCond .eq 11, 3) := by decide +kernel
theorem dX10_voteIt_26 : decode cX10_voteIt 26 = .ok (.aload_n 0, 1) := by decide +kernel
theorem dX10_voteIt_27 : decode cX10_voteIt 27 = .ok (.iload_n 2, 1) := by decide +kernel
theorem dX10_voteIt_28 : decode cX10_voteIt 28 = .ok (.invokevirtual 82, 3) := by decide +kernel
theorem dX10_voteIt_31 : decode cX10_voteIt 31 = .ok (.ifCond .ne 9, 3) := by decide +kernel
theorem dX10_voteIt_34 : decode cX10_voteIt 34 = .ok (.aload_n 0, 1) := by decide +kernel
theorem dX10_voteIt_35 : decode cX10_voteIt 35 = .ok (.iconst 2, 1) := by decide +kernel
theorem dX10_voteIt_36 : decode cX10_voteIt 36 = .ok (.invokevirtual 101, 3) := by decide +kernel
theorem dX10_voteIt_39 : decode cX10_voteIt 39 = .ok (.ireturn, 1) := by decide +kernel
theorem dX10_voteIt_40 : decode cX10_voteIt 40 = .ok (.iconst 0, 1) := by decide +kernel
theorem dX10_voteIt_41 : decode cX10_voteIt 41 = .ok (.istore_n 3, 1) := by decide +kernel
theorem dX10_voteIt_42 : decode cX10_voteIt 42 = .ok (.iconst 0, 1) := by decide +kernel
theorem dX10_voteIt_43 : decode cX10_voteIt 43 = .ok (.istore 4, 2) := by decide +kernel
theorem dX10_voteIt_45 : decode cX10_voteIt 45 = .ok (.iload 4, 2) := by decide +kernel
theorem dX10_voteIt_47 : decode cX10_voteIt 47 = .ok (.aload_n 0, 1) := by decide +kernel
theorem dX10_voteIt_48 : decode cX10_voteIt 48 = .ok (.getfield 9, 3) := by decide +kernel
theorem dX10_voteIt_51 : decode cX10_voteIt 51 = .ok (.iconst 0, 1) := by decide +kernel
theorem dX10_voteIt_52 : decode cX10_voteIt 52 = .ok (.iaload, 1) := by decide +kernel
theorem dX10_voteIt_53 : decode cX10_voteIt 53 = .ok (.if_icmp .ge 37, 3) := by decide +kernel
theorem dX10_voteIt_56 : decode cX10_voteIt 56 = .ok (.aload_n 0, 1) := by decide +kernel
theorem dX10_voteIt_57 : decode cX10_voteIt 57 = .ok (.iload 4, 2) := by decide +kernel
theorem dX10_voteIt_59 : decode cX10_voteIt 59 = .ok (.iload_n 2, 1) := by decide +kernel
theorem dX10_voteIt_60 : decode cX10_voteIt 60 = .ok (.invokevirtual 144, 3) := by decide +kernel
theorem dX10_voteIt_63 : decode cX10_voteIt 63 = .ok (.ifCond .eq 21, 3) := by decide +kernel
theorem dX10_voteIt_66 : decode cX10_voteIt 66 = .ok (.aload_n 0, 1) := by decide +kernel
theorem dX10_voteIt_67 : decode cX10_voteIt 67 = .ok (.getfield 9, 3) := by decide +kernel
theorem dX10_voteIt_70 : decode cX10_voteIt 70 = .ok (.iload 4, 2) := by decide +kernel
theorem dX10_voteIt_72 : decode cX10_voteIt 72 = .ok (.invokestatic 86, 3) := by decide +kernel
theorem dX10_voteIt_75 : decode cX10_voteIt 75 = .ok (.iconst 1, 1) := by decide +kernel
theorem dX10_voteIt_76 : decode cX10_voteIt 76 = .ok (.iadd, 1) := by decide +kernel
theorem dX10_voteIt_77 : decode cX10_voteIt 77 = .ok (.dup2, 1) := by decide +kernel
theorem dX10_voteIt_78 : decode cX10_voteIt 78 = .ok (.iaload, 1) := by decide +kernel
theorem dX10_voteIt_79 : decode cX10_voteIt 79 = .ok (.iconst 1, 1) := by decide +kernel
theorem dX10_voteIt_80 : decode cX10_voteIt 80 = .ok (.isub, 1) := by decide +kernel
theorem dX10_voteIt_81 : decode cX10_voteIt 81 = .ok (.iastore, 1) := by decide +kernel
theorem dX10_voteIt_82 : decode cX10_voteIt 82 = .ok (.iconst 1, 1) := by decide +kernel
theorem dX10_voteIt_83 : decode cX10_voteIt 83 = .ok (.istore_n 3, 1) := by decide +kernel
theorem dX10_voteIt_84 : decode cX10_voteIt 84 = .ok (.iinc 4 1, 3) := by decide +kernel
theorem dX10_voteIt_87 : decode cX10_voteIt 87 = .ok (.goto (-42), 3) := by decide +kernel
theorem dX10_voteIt_90 : decode cX10_voteIt 90 = .ok (.iload_n 3, 1) := by decide +kernel
theorem dX10_voteIt_91 : decode cX10_voteIt 91 = .ok (.ifCond .ne 21, 3) := by decide +kernel
theorem dX10_voteIt_94 : decode cX10_voteIt 94 = .ok (.iconst 2, 1) := by decide +kernel
theorem dX10_voteIt_95 : decode cX10_voteIt 95 = .ok (.aload_n 0, 1) := by decide +kernel
theorem dX10_voteIt_96 : decode cX10_voteIt 96 = .ok (.iload_n 2, 1) := by decide +kernel
theorem dX10_voteIt_97 : decode cX10_voteIt 97 = .ok (.invokevirtual 147, 3) := by decide +kernel
theorem dX10_voteIt_100 : decode cX10_voteIt 100 = .ok (.imul, 1) := by decide +kernel
theorem dX10_voteIt_101 : decode cX10_voteIt 101 = .ok (.aload_n 0, 1) := by decide +kernel
theorem dX10_voteIt_102 : decode cX10_voteIt 102 = .ok (.invokevirtual 150, 3) := by decide +kernel
theorem dX10_voteIt_105 : decode cX10_voteIt 105 = .ok (.if_icmp .le 7, 3) := by decide +kernel
theorem dX10_voteIt_108 : decode cX10_voteIt 108 = .ok (.iconst 1, 1) := by decide +kernel
theorem dX10_voteIt_109 : decode cX10_voteIt 109 = .ok (.goto 4, 3) := by decide +kernel
theorem dX10_voteIt_112 : decode cX10_voteIt 112 = .ok (.iconst 0, 1) := by decide +kernel
theorem dX10_voteIt_113 : decode cX10_voteIt 113 = .ok (.istore 4, 2) := by decide +kernel
theorem dX10_voteIt_115 : decode cX10_voteIt 115 = .ok (.aload_n 0, 1) := by decide +kernel
theorem dX10_voteIt_116 : decode cX10_voteIt 116 = .ok (.getfield 9, 3) := by decide +kernel
theorem dX10_voteIt_119 : decode cX10_voteIt 119 = .ok (.bipush 9, 2) := by decide +kernel
theorem dX10_voteIt_121 : decode cX10_voteIt 121 = .ok (.dup2, 1) := by decide +kernel
theorem dX10_voteIt_122 : decode cX10_voteIt 122 = .ok (.iaload, 1) := by decide +kernel
theorem dX10_voteIt_123 : decode cX10_voteIt 123 = .ok (.iconst 1, 1) := by decide +kernel
theorem dX10_voteIt_124 : decode cX10_voteIt 124 = .ok (.iadd, 1) := by decide +kernel
theorem dX10_voteIt_125 : decode cX10_voteIt 125 = .ok (.iastore, 1) := by decide +kernel
theorem dX10_voteIt_126 : decode cX10_voteIt 126 = .ok (.iload 4, 2) := by decide +kernel
theorem dX10_voteIt_128 : decode cX10_voteIt 128 = .ok (.ifCond .eq 8, 3) := by decide +kernel
theorem dX10_voteIt_131 : decode cX10_voteIt 131 = .ok (.aload_n 0, 1) := by decide +kernel
theorem dX10_voteIt_132 : decode cX10_voteIt 132 = .ok (.iload_n 2, 1) := by decide +kernel
theorem dX10_voteIt_133 : decode cX10_voteIt 133 = .ok (.invokevirtual 154, 3) := by decide +kernel
theorem dX10_voteIt_136 : decode cX10_voteIt 136 = .ok (.aload_n 0, 1) := by decide +kernel
theorem dX10_voteIt_137 : decode cX10_voteIt 137 = .ok (.iload_n 2, 1) := by decide +kernel
theorem dX10_voteIt_138 : decode cX10_voteIt 138 = .ok (.invokevirtual 128, 3) := by decide +kernel
theorem dX10_voteIt_141 : decode cX10_voteIt 141 = .ok (.iload_n 3, 1) := by decide +kernel
theorem dX10_voteIt_142 : decode cX10_voteIt 142 = .ok (.ifCond .eq 8, 3) := by decide +kernel
theorem dX10_voteIt_145 : decode cX10_voteIt 145 = .ok (.bipush 118, 2) := by decide +kernel
theorem dX10_voteIt_147 : decode cX10_voteIt 147 = .ok (.goto 15, 3) := by decide +kernel
theorem dX10_voteIt_150 : decode cX10_voteIt 150 = .ok (.iload 4, 2) := by decide +kernel
theorem dX10_voteIt_152 : decode cX10_voteIt 152 = .ok (.ifCond .eq 8, 3) := by decide +kernel
theorem dX10_voteIt_155 : decode cX10_voteIt 155 = .ok (.bipush 99, 2) := by decide +kernel
theorem dX10_voteIt_157 : decode cX10_voteIt 157 = .ok (.goto 5, 3) := by decide +kernel
theorem dX10_voteIt_160 : decode cX10_voteIt 160 = .ok (.bipush 114, 2) := by decide +kernel
theorem dX10_voteIt_162 : decode cX10_voteIt 162 = .ok (.ireturn, 1) := by decide +kernel
set_option maxHeartbeats 4000000 in
set_option maxRecDepth 20000 in
theorem m_voteIt (l : Launch) (D : va_G) (aT : Nat → ClassId) (ad : Nat → Nat) (S : MSt) (x : Int32) (s0 : Nat) (hF : FoW (S 0)) (hH : HeW (S 0)) (hs : S 0 3 = nI s0) (hs4 : s0 < 4) : MdI l yX10_voteIt cX10_voteIt 5 .int 4 88 D aT ad [.ref (ad 0), .int x] S (fun r S1 => (fnd (fun k => S 0 (29 + 4 * k)) x (nM (S 0)) = none ∧ r = -1 ∧ S1 = ss S 8 (nI 1)) ∨ (∃ q, fnd (fun k => S 0 (29 + 4 * k)) x (nM (S 0)) = some q ∧ (hM (S 0) = 0 ∨ tipB (prM (S 0)) q (nM (S 0)) = false) ∧ r = -1 ∧ S1 = ss S 8 (nI 2)) ∨ (∃ q, fnd (fun k => S 0 (29 + 4 * k)) x (nM (S 0)) = some q ∧ 0 < hM (S 0) ∧ tipB (prM (S 0)) q (nM (S 0)) = true ∧ r = nI (votC (S 0) q) ∧ S1 = sr S 0 (votF (S 0) q))) := by
  refine MdI.of (by decide +kernel) rfl (Nat.le_of_ble_eq_true rfl) ?_
  intro p e s m below meth c A ls C hml hl hA hr hlocks hW
  have hl : lv_has ls 5 [(0, .ref (ad 0)), (1, .int x)] := hl
  have hx := C.1
  have hb := C.2.1
  refine lv_aload_n hx hb dX10_voteIt_0 rfl (lv_at hl 0 rfl) ?_
  refine lv_iload_n hx hb dX10_voteIt_1 rfl (lv_at hl 1 rfl) ?_
  refine md_callg C hml hl.1 (As := [.int x]) (rest := []) (m_find l D aT ad S (x) (nM (S 0)) hF.1 hF.2.1) gT_find hd_find rfl ⟨Nat.le_of_ble_eq_true rfl, Nat.le_of_ble_eq_true rfl⟩ ⟨Nat.le_refl _, Nat.le_refl _⟩ hW hA rfl (Nat.le_of_ble_eq_true rfl) dX10_voteIt_2 (fun r_2 H locs hq hW => ?_)
  subst hq
  refine lv_istore_n (lv' := [(2, .int (oi (fnd (fun k => S 0 (29 + 4 * k)) (x) (nM (S 0))))), (0, .ref (ad 0)), (1, .int x)]) hx hb dX10_voteIt_5 rfl hl (by decide) rfl (fun ls hl => ?_)
  refine lv_iload_n hx hb dX10_voteIt_6 rfl (lv_at hl 0 rfl) ?_
  refine lv_iconst (v := (-1)) hx hb dX10_voteIt_7 (by decide) ?_
  refine r_oi_ne hx hb (o := (fnd (fun k => S 0 (29 + 4 * k)) (x) (nM (S 0)))) (fun j hj => by have := (fnd_some hj).1; have := hF.n12; omega) (tgt := 17) dX10_voteIt_8 (by decide) (fun j_8 c_8 => ?_) (fun c_8 => ?_)
  · have hl : lv_has ls 5 [(2, .int (nI j_8)), (0, .ref (ad 0)), (1, .int x)] := by rw [c_8] at hl; exact hl
    have hq := (fnd_some c_8).1
    have h12 := hF.n12
    refine lv_aload_n hx hb dX10_voteIt_17 rfl (lv_at hl 1 rfl) ?_
    refine md_geta_m C hW dX10_voteIt_18 ?_
    refine lv_iconst (v := nI 0) hx hb dX10_voteIt_21 (by decide) ?_
    refine md_ald_m C hW (i := 0) (by omega) dX10_voteIt_22 ?_
    refine r_eq (y := (nI (hM (S 0)))) (hH.1) ?_
    refine r_ifeqN hx hb (a := (hM (S 0))) (by have := hH.2.1; omega) (tgt := 34) dX10_voteIt_23 (by decide) (fun c_23 => ?_) (fun c_23 => ?_)
    · refine lv_aload_n hx hb dX10_voteIt_34 rfl (lv_at hl 1 rfl) ?_
      refine lv_iconst (v := nI 2) hx hb dX10_voteIt_35 (by decide) ?_
      refine md_calli C hml hl.1 (As := [.int (nI 2)]) (rest := []) (m_throwing l D aT ad S 2) gT_throwing hd_throwing rfl ⟨Nat.le_of_ble_eq_true rfl, Nat.le_of_ble_eq_true rfl⟩ ⟨Nat.le_refl _, Nat.le_refl _⟩ hW hA rfl (Nat.le_of_ble_eq_true rfl) dX10_voteIt_36 (fun r_36 S_36 H locs hq hW => ?_)
      obtain ⟨rfl, rfl⟩ := hq
      exact md_iret C hr hlocks rfl hW (Or.inr (Or.inl ⟨j_8, c_8, Or.inl c_23, rfl, rfl⟩)) dX10_voteIt_39
    · refine lv_aload_n hx hb dX10_voteIt_26 rfl (lv_at hl 1 rfl) ?_
      refine lv_iload_n hx hb dX10_voteIt_27 rfl (lv_at hl 0 rfl) ?_
      refine md_callg C hml hl.1 (As := [.int (nI j_8)]) (rest := []) (m_isTipAt l D aT ad S (nM (S 0)) (idM (S 0)) (prM (S 0)) (tnM (S 0)) hF j_8 (hq)) gT_isTipAt hd_isTipAt rfl ⟨Nat.le_of_ble_eq_true rfl, Nat.le_of_ble_eq_true rfl⟩ ⟨Nat.le_refl _, Nat.le_refl _⟩ hW hA rfl (Nat.le_of_ble_eq_true rfl) dX10_voteIt_28 (fun r_28 H locs hq hW => ?_)
      subst hq
      refine r_bI_ne hx hb (b := (tipB (prM (S 0)) j_8 (nM (S 0)))) (tgt := 40) dX10_voteIt_31 (by decide) (fun c_31 => ?_) (fun c_31 => ?_)
      · refine lv_iconst (v := nI 0) hx hb dX10_voteIt_40 (by decide) ?_
        refine lv_istore_n (lv' := [(3, .int (nI 0)), (2, .int (nI j_8)), (0, .ref (ad 0)), (1, .int x)]) hx hb dX10_voteIt_41 rfl hl (by decide) rfl (fun ls hl => ?_)
        refine lv_iconst (v := nI 0) hx hb dX10_voteIt_42 (by decide) ?_
        refine lv_istore (lv' := [(4, .int (nI 0)), (3, .int (nI 0)), (2, .int (nI j_8)), (0, .ref (ad 0)), (1, .int x)]) hx hb dX10_voteIt_43 hl (by decide) rfl (fun ls hl => ?_)
        refine W_loopH (σ := (Nat → Int32) × Bool × Nat) (fun z_ => hM (S 0) - z_.2.2) (fun z_ H locs g => ∃ ls, g = F0 m 45 ls [] ∧ lv_has ls 5 [(0, .ref (ad 0)), (2, .int (nI j_8)), (3, .int (bI z_.2.1)), (4, .int (nI z_.2.2))] ∧ MdB D aT ad (sr S 0 z_.1) A s.heap H locs ∧ ((z_.1, z_.2.1) = vtF (tnM (S 0) j_8) (S 0) z_.2.2 ∧ z_.2.2 ≤ hM (S 0))) ?_ ((S 0), false, 0) _ ⟨_, rfl, lv_sub hl [3, 2, 1, 0] rfl, (by rw [sr_self]; exact hW), ⟨rfl, Nat.zero_le _⟩⟩
        clear hW hl
        rintro ⟨mm, b, i⟩ H locs g ⟨ls, rfl, hl, hW, hv, hih⟩ ih_45
        dsimp only at hl hW hv hih ⊢
        obtain ⟨hw, hhm, hfix, hlv, hta⟩ : vtOk (S 0) mm := by have h9 := vtF_ok (t := (tnM (S 0) j_8)) hH i hih; rw [← hv] at h9; exact h9
        have hFm : FoR mm (nM (S 0)) (idM (S 0)) (prM (S 0)) (tnM (S 0)) := FoR.he hF (fun j hj => hfix j (by omega))
        have h6 : hM (S 0) ≤ 6 := hH.2.1
        refine lv_iload hx hb dX10_voteIt_45 (lv_at hl 3 rfl) ?_
        refine lv_aload_n hx hb dX10_voteIt_47 rfl (lv_at hl 0 rfl) ?_
        refine md_geta_m C hW dX10_voteIt_48 ?_
        refine lv_iconst (v := nI 0) hx hb dX10_voteIt_51 (by decide) ?_
        refine md_ald_m C hW (i := 0) (by omega) dX10_voteIt_52 ?_
        refine r_eq (y := (nI (hM (S 0)))) (by show mm 0 = _; rw [← hhm]; exact hw.1) ?_
        refine r_geN hx hb (a := i) (b := (hM (S 0))) (by omega) (by omega) (tgt := 90) dX10_voteIt_53 (by decide) (fun c_53 => ?_) (fun c_53 => ?_)
        · have e23 : (upd mm 9 (mm 9 + nI 1)) 3 = nI s0 := by rw [pk_un (by decide), hfix 3 (by omega)]; exact hs
          have e22 : (upd mm 9 (mm 9 + nI 1)) 2 = nI (nM (S 0)) := by rw [pk_un (by decide), hfix 2 (by omega)]; exact hF.1
          have hF2 : FoR (upd mm 9 (mm 9 + nI 1)) (nM (S 0)) (idM (S 0)) (prM (S 0)) (tnM (S 0)) := hFm.he (fun j hj => pk_un (by omega))
          have ec2 : carF (upd mm 9 (mm 9 + nI 1)) j_8 2 = nI (nM (S 0)) := by rw [carF_o (by decide) (Or.inl (by decide)) (by decide) (Or.inl (by decide)) (by rw [snM_eq e23 hs4]; exact hs4)]; exact e22
          have hq2 : j_8 < nM (upd mm 9 (mm 9 + nI 1)) := by rw [hF2.n_eq]; exact hq
          refine lv_iload_n hx hb dX10_voteIt_90 rfl (lv_at hl 2 rfl) ?_
          refine r_bI_ne hx hb (b := b) (tgt := 112) dX10_voteIt_91 (by decide) (fun c_91 => ?_) (fun c_91 => ?_)
          · refine lv_iconst (v := nI 0) hx hb dX10_voteIt_112 (by decide) ?_
            refine lv_istore (lv' := [(4, .int (nI 0)), (0, .ref (ad 0)), (2, .int (nI j_8)), (3, .int (bI b))]) hx hb dX10_voteIt_113 hl (by decide) rfl (fun ls hl => ?_)
            refine lv_aload_n hx hb dX10_voteIt_115 rfl (lv_at hl 1 rfl) ?_
            refine md_geta_m C hW dX10_voteIt_116 ?_
            refine lv_bipush (v := nI 9) hx hb dX10_voteIt_119 (by decide) ?_
            refine lv_dup2_11 hx hb dX10_voteIt_121 rfl rfl ?_
            refine md_ald_m C hW (i := 9) (by omega) dX10_voteIt_122 ?_
            refine r_eq (y := (mm 9)) (rfl) ?_
            refine lv_iconst (v := nI 1) hx hb dX10_voteIt_123 (by decide) ?_
            refine lv_iadd hx hb dX10_voteIt_124 ?_
            refine md_ast_m C hW (i := 9) (by omega) dX10_voteIt_125 (fun H locs hW => ?_)
            have hW : MdB D aT ad (sr S 0 (upd mm 9 (mm 9 + nI 1))) A s.heap H locs := by rw [sr_sr] at hW; exact hW
            refine lv_iload hx hb dX10_voteIt_126 (lv_at hl 0 rfl) ?_
            refine r_ifeqN hx hb (a := 0) (by omega) (tgt := 136) dX10_voteIt_128 (by decide) (fun c_128 => ?_) (fun c_128 => ?_)
            · refine lv_aload_n hx hb dX10_voteIt_136 rfl (lv_at hl 1 rfl) ?_
              refine lv_iload_n hx hb dX10_voteIt_137 rfl (lv_at hl 2 rfl) ?_
              refine md_callv C hml hl.1 (As := [.int (nI j_8)]) (rest := []) (m_drops l D aT ad (sr S 0 (upd mm 9 (mm 9 + nI 1))) (nM (S 0)) j_8 e22 hF.n12 hq) gT_drops hd_drops rfl ⟨Nat.le_of_ble_eq_true rfl, Nat.le_of_ble_eq_true rfl⟩ ⟨Nat.le_refl _, Nat.le_refl _⟩ hW hA rfl (Nat.le_of_ble_eq_true rfl) dX10_voteIt_138 (fun S_138 H locs hq hW => ?_)
              subst hq
              refine lv_iload_n hx hb dX10_voteIt_141 rfl (lv_at hl 3 rfl) ?_
              refine r_bI_eq hx hb (b := b) (tgt := 150) dX10_voteIt_142 (by decide) (fun c_142 => ?_) (fun c_142 => ?_)
              · exact absurd c_142 (by rw [c_91]; decide)
              · refine lv_bipush (v := nI 118) hx hb dX10_voteIt_145 (by decide) ?_
                refine lv_goto (tgt := 162) hx hb dX10_voteIt_147 (by decide) ?_
                exact md_iret C hr hlocks rfl hW (Or.inr (Or.inr ⟨j_8, c_8, Nat.pos_of_ne_zero c_23, c_31, by rw [(votF_v (by rw [← c_91, hv, show i = hM (S 0) by omega])).1], by rw [(votF_v (by rw [← c_91, hv, show i = hM (S 0) by omega])).2, sr_sr]; rfl⟩)) dX10_voteIt_162
            · exact absurd c_128 (by decide)
          · refine lv_iconst (v := nI 2) hx hb dX10_voteIt_94 (by decide) ?_
            refine lv_aload_n hx hb dX10_voteIt_95 rfl (lv_at hl 0 rfl) ?_
            refine lv_iload_n hx hb dX10_voteIt_96 rfl (lv_at hl 1 rfl) ?_
            refine md_callg C hml hl.1 (As := [.int (nI j_8)]) (rest := [.int (nI 2)]) (m_favour l D aT ad (sr S 0 mm) (hM mm) (lvM mm) (thM mm) (taM mm) hw (nM (S 0)) (idM (S 0)) (prM (S 0)) (tnM (S 0)) hFm j_8 (hq)) gT_favour hd_favour rfl ⟨Nat.le_of_ble_eq_true rfl, Nat.le_of_ble_eq_true rfl⟩ ⟨Nat.le_refl _, Nat.le_refl _⟩ hW hA rfl (Nat.le_of_ble_eq_true rfl) dX10_voteIt_97 (fun r_97 H locs hq hW => ?_)
            subst hq
            refine r_imulN hx hb (a := 2) (b := (fav (lvM mm) (taM mm) ((tnM (S 0)) j_8) (hM mm))) dX10_voteIt_100 ?_
            refine lv_aload_n hx hb dX10_voteIt_101 rfl (lv_at hl 0 rfl) ?_
            refine md_callg C hml hl.1 (As := []) (rest := [.int (nI (2 * (fav (lvM mm) (taM mm) ((tnM (S 0)) j_8) (hM mm))))]) (m_leavesAll l D aT ad (sr S 0 mm) (hM mm) (lvM mm) (thM mm) (taM mm) hw) gT_leavesAll hd_leavesAll rfl ⟨Nat.le_of_ble_eq_true rfl, Nat.le_of_ble_eq_true rfl⟩ ⟨Nat.le_refl _, Nat.le_refl _⟩ hW hA rfl (Nat.le_of_ble_eq_true rfl) dX10_voteIt_102 (fun r_102 H locs hq hW => ?_)
            subst hq
            refine r_leN hx hb (a := 2 * (fav (lvM mm) (taM mm) ((tnM (S 0)) j_8) (hM mm))) (b := (sml (lvM mm) (hM mm))) (by have h99 := fun k hk => ((hw.2.2.1 k hk).2).2; have := sml_le (lv := lvM mm) (i := hM mm) h99; have := fav_le (lv := lvM mm) (ta := taM mm) (t := (tnM (S 0) j_8)) (i := hM mm) h99; rw [hhm] at *; omega) (by have h99 := fun k hk => ((hw.2.2.1 k hk).2).2; have := sml_le (lv := lvM mm) (i := hM mm) h99; have := fav_le (lv := lvM mm) (ta := taM mm) (t := (tnM (S 0) j_8)) (i := hM mm) h99; rw [hhm] at *; omega) (tgt := 112) dX10_voteIt_105 (by decide) (fun c_105 => ?_) (fun c_105 => ?_)
            · refine lv_iconst (v := nI 0) hx hb dX10_voteIt_112 (by decide) ?_
              refine lv_istore (lv' := [(4, .int (nI 0)), (0, .ref (ad 0)), (2, .int (nI j_8)), (3, .int (bI b))]) hx hb dX10_voteIt_113 hl (by decide) rfl (fun ls hl => ?_)
              refine lv_aload_n hx hb dX10_voteIt_115 rfl (lv_at hl 1 rfl) ?_
              refine md_geta_m C hW dX10_voteIt_116 ?_
              refine lv_bipush (v := nI 9) hx hb dX10_voteIt_119 (by decide) ?_
              refine lv_dup2_11 hx hb dX10_voteIt_121 rfl rfl ?_
              refine md_ald_m C hW (i := 9) (by omega) dX10_voteIt_122 ?_
              refine r_eq (y := (mm 9)) (rfl) ?_
              refine lv_iconst (v := nI 1) hx hb dX10_voteIt_123 (by decide) ?_
              refine lv_iadd hx hb dX10_voteIt_124 ?_
              refine md_ast_m C hW (i := 9) (by omega) dX10_voteIt_125 (fun H locs hW => ?_)
              have hW : MdB D aT ad (sr S 0 (upd mm 9 (mm 9 + nI 1))) A s.heap H locs := by rw [sr_sr] at hW; exact hW
              refine lv_iload hx hb dX10_voteIt_126 (lv_at hl 0 rfl) ?_
              refine r_ifeqN hx hb (a := 0) (by omega) (tgt := 136) dX10_voteIt_128 (by decide) (fun c_128 => ?_) (fun c_128 => ?_)
              · refine lv_aload_n hx hb dX10_voteIt_136 rfl (lv_at hl 1 rfl) ?_
                refine lv_iload_n hx hb dX10_voteIt_137 rfl (lv_at hl 2 rfl) ?_
                refine md_callv C hml hl.1 (As := [.int (nI j_8)]) (rest := []) (m_drops l D aT ad (sr S 0 (upd mm 9 (mm 9 + nI 1))) (nM (S 0)) j_8 e22 hF.n12 hq) gT_drops hd_drops rfl ⟨Nat.le_of_ble_eq_true rfl, Nat.le_of_ble_eq_true rfl⟩ ⟨Nat.le_refl _, Nat.le_refl _⟩ hW hA rfl (Nat.le_of_ble_eq_true rfl) dX10_voteIt_138 (fun S_138 H locs hq hW => ?_)
                subst hq
                refine lv_iload_n hx hb dX10_voteIt_141 rfl (lv_at hl 3 rfl) ?_
                refine r_bI_eq hx hb (b := b) (tgt := 150) dX10_voteIt_142 (by decide) (fun c_142 => ?_) (fun c_142 => ?_)
                · refine lv_iload hx hb dX10_voteIt_150 (lv_at hl 0 rfl) ?_
                  refine r_ifeqN hx hb (a := 0) (by omega) (tgt := 160) dX10_voteIt_152 (by decide) (fun c_152 => ?_) (fun c_152 => ?_)
                  · refine lv_bipush (v := nI 114) hx hb dX10_voteIt_160 (by decide) ?_
                    exact md_iret C hr hlocks rfl hW (Or.inr (Or.inr ⟨j_8, c_8, Nat.pos_of_ne_zero c_23, c_31, by rw [(votF_r (by rw [← c_91, hv, show i = hM (S 0) by omega]) (decide_eq_false (by omega))).1], by rw [(votF_r (by rw [← c_91, hv, show i = hM (S 0) by omega]) (decide_eq_false (by omega))).2, sr_sr]; rfl⟩)) dX10_voteIt_162
                  · exact absurd c_152 (by decide)
                · exact absurd c_142 (by rw [c_91]; decide)
              · exact absurd c_128 (by decide)
            · refine lv_iconst (v := nI 1) hx hb dX10_voteIt_108 (by decide) ?_
              refine lv_goto (tgt := 113) hx hb dX10_voteIt_109 (by decide) ?_
              refine lv_istore (lv' := [(4, .int (nI 1)), (0, .ref (ad 0)), (2, .int (nI j_8)), (3, .int (bI b))]) hx hb dX10_voteIt_113 hl (by decide) rfl (fun ls hl => ?_)
              refine lv_aload_n hx hb dX10_voteIt_115 rfl (lv_at hl 1 rfl) ?_
              refine md_geta_m C hW dX10_voteIt_116 ?_
              refine lv_bipush (v := nI 9) hx hb dX10_voteIt_119 (by decide) ?_
              refine lv_dup2_11 hx hb dX10_voteIt_121 rfl rfl ?_
              refine md_ald_m C hW (i := 9) (by omega) dX10_voteIt_122 ?_
              refine r_eq (y := (mm 9)) (rfl) ?_
              refine lv_iconst (v := nI 1) hx hb dX10_voteIt_123 (by decide) ?_
              refine lv_iadd hx hb dX10_voteIt_124 ?_
              refine md_ast_m C hW (i := 9) (by omega) dX10_voteIt_125 (fun H locs hW => ?_)
              have hW : MdB D aT ad (sr S 0 (upd mm 9 (mm 9 + nI 1))) A s.heap H locs := by rw [sr_sr] at hW; exact hW
              refine lv_iload hx hb dX10_voteIt_126 (lv_at hl 0 rfl) ?_
              refine r_ifeqN hx hb (a := 1) (by omega) (tgt := 136) dX10_voteIt_128 (by decide) (fun c_128 => ?_) (fun c_128 => ?_)
              · exact absurd c_128 (by decide)
              · refine lv_aload_n hx hb dX10_voteIt_131 rfl (lv_at hl 1 rfl) ?_
                refine lv_iload_n hx hb dX10_voteIt_132 rfl (lv_at hl 2 rfl) ?_
                refine md_callv C hml hl.1 (As := [.int (nI j_8)]) (rest := []) (m_carries l D aT ad (sr S 0 (upd mm 9 (mm 9 + nI 1))) j_8 s0 hF2.w hq2 e23 hs4) gT_carries hd_carries rfl ⟨Nat.le_of_ble_eq_true rfl, Nat.le_of_ble_eq_true rfl⟩ ⟨Nat.le_refl _, Nat.le_refl _⟩ hW hA rfl (Nat.le_of_ble_eq_true rfl) dX10_voteIt_133 (fun S_133 H locs hq hW => ?_)
                subst hq
                have hW : MdB D aT ad (sr S 0 (carF (upd mm 9 (mm 9 + nI 1)) j_8)) A s.heap H locs := by rw [sr_sr] at hW; exact hW
                refine lv_aload_n hx hb dX10_voteIt_136 rfl (lv_at hl 1 rfl) ?_
                refine lv_iload_n hx hb dX10_voteIt_137 rfl (lv_at hl 2 rfl) ?_
                refine md_callv C hml hl.1 (As := [.int (nI j_8)]) (rest := []) (m_drops l D aT ad (sr S 0 (carF (upd mm 9 (mm 9 + nI 1)) j_8)) (nM (S 0)) j_8 ec2 hF.n12 hq) gT_drops hd_drops rfl ⟨Nat.le_of_ble_eq_true rfl, Nat.le_of_ble_eq_true rfl⟩ ⟨Nat.le_refl _, Nat.le_refl _⟩ hW hA rfl (Nat.le_of_ble_eq_true rfl) dX10_voteIt_138 (fun S_138 H locs hq hW => ?_)
                subst hq
                refine lv_iload_n hx hb dX10_voteIt_141 rfl (lv_at hl 3 rfl) ?_
                refine r_bI_eq hx hb (b := b) (tgt := 150) dX10_voteIt_142 (by decide) (fun c_142 => ?_) (fun c_142 => ?_)
                · refine lv_iload hx hb dX10_voteIt_150 (lv_at hl 0 rfl) ?_
                  refine r_ifeqN hx hb (a := 1) (by omega) (tgt := 160) dX10_voteIt_152 (by decide) (fun c_152 => ?_) (fun c_152 => ?_)
                  · exact absurd c_152 (by decide)
                  · refine lv_bipush (v := nI 99) hx hb dX10_voteIt_155 (by decide) ?_
                    refine lv_goto (tgt := 162) hx hb dX10_voteIt_157 (by decide) ?_
                    exact md_iret C hr hlocks rfl hW (Or.inr (Or.inr ⟨j_8, c_8, Nat.pos_of_ne_zero c_23, c_31, by rw [(votF_c (by rw [← c_91, hv, show i = hM (S 0) by omega]) (decide_eq_true (by omega))).1], by rw [(votF_c (by rw [← c_91, hv, show i = hM (S 0) by omega]) (decide_eq_true (by omega))).2, sr_sr]; rfl⟩)) dX10_voteIt_162
                · exact absurd c_142 (by rw [c_91]; decide)
        · refine lv_aload_n hx hb dX10_voteIt_56 rfl (lv_at hl 0 rfl) ?_
          refine lv_iload hx hb dX10_voteIt_57 (lv_at hl 3 rfl) ?_
          refine lv_iload_n hx hb dX10_voteIt_59 rfl (lv_at hl 1 rfl) ?_
          refine md_callg C hml hl.1 (As := [.int (nI i), .int (nI j_8)]) (rest := []) (m_vetoes l D aT ad (sr S 0 mm) (hM mm) (lvM mm) (thM mm) (taM mm) hw (nM (S 0)) (idM (S 0)) (prM (S 0)) (tnM (S 0)) hFm i j_8 (by rw [hhm]; omega) (hq)) gT_vetoes hd_vetoes rfl ⟨Nat.le_of_ble_eq_true rfl, Nat.le_of_ble_eq_true rfl⟩ ⟨Nat.le_refl _, Nat.le_refl _⟩ hW hA rfl (Nat.le_of_ble_eq_true rfl) dX10_voteIt_60 (fun r_60 H locs hq hW => ?_)
          subst hq
          refine r_bI_eq hx hb (b := (vetB (dif ((taM mm) i) ((tnM (S 0)) j_8)) ((thM mm) i))) (tgt := 84) dX10_voteIt_63 (by decide) (fun c_63 => ?_) (fun c_63 => ?_)
          · refine lv_iinc (v := (nI (i + 1))) (lv' := [(4, .int (nI (i + 1))), (0, .ref (ad 0)), (2, .int (nI j_8)), (3, .int (bI b))]) hx hb dX10_voteIt_84 hl (k := 3) rfl (nI_1 _) (by decide) rfl (fun ls hl => ?_)
            refine lv_goto (tgt := 45) hx hb dX10_voteIt_87 (by decide) ?_
            exact ih_45 (mm, b, (i + 1)) _ _ _ (by dsimp only; omega) ⟨_, rfl, lv_sub hl [1, 2, 3, 0] rfl, hW, ⟨vtF_no hv c_63, by (try dsimp only); omega⟩⟩
          · have hth := of_decide_eq_true c_63
            refine lv_aload_n hx hb dX10_voteIt_66 rfl (lv_at hl 0 rfl) ?_
            refine md_geta_m C hW dX10_voteIt_67 ?_
            refine lv_iload hx hb dX10_voteIt_70 (lv_at hl 3 rfl) ?_
            refine md_calls C hml hl.1 (As := [.int (nI i)]) (rest := [.ref (ad 1)]) (m_hedgeAt l i) gT_hedgeAt hd_hedgeAt rfl ⟨Nat.le_of_ble_eq_true rfl, Nat.le_of_ble_eq_true rfl⟩ ⟨Nat.le_refl _, Nat.le_refl _⟩ rfl (Nat.le_of_ble_eq_true rfl) dX10_voteIt_72 (fun r_72 hq => ?_)
            subst hq
            refine lv_iconst (v := nI 1) hx hb dX10_voteIt_75 (by decide) ?_
            refine r_iaddN hx hb (a := (11 + 3 * i)) (b := 1) dX10_voteIt_76 ?_
            refine lv_dup2_11 hx hb dX10_voteIt_77 rfl rfl ?_
            refine md_ald_m C hW (i := 11 + 3 * i + 1) (by omega) dX10_voteIt_78 ?_
            refine r_eq (y := (nI (thM mm i))) (by show mm _ = _; exact (hw.2.2.2.1 i (by rw [hhm]; omega)).1) ?_
            refine lv_iconst (v := nI 1) hx hb dX10_voteIt_79 (by decide) ?_
            refine r_isubN hx hb (a := (thM mm i)) (b := 1) (by omega) dX10_voteIt_80 ?_
            refine md_ast_m C hW (i := 11 + 3 * i + 1) (by omega) dX10_voteIt_81 (fun H locs hW => ?_)
            refine lv_iconst (v := nI 1) hx hb dX10_voteIt_82 (by decide) ?_
            refine lv_istore_n (lv' := [(3, .int (nI 1)), (0, .ref (ad 0)), (2, .int (nI j_8)), (4, .int (nI i))]) hx hb dX10_voteIt_83 rfl hl (by decide) rfl (fun ls hl => ?_)
            refine lv_iinc (v := (nI (i + 1))) (lv' := [(4, .int (nI (i + 1))), (3, .int (nI 1)), (0, .ref (ad 0)), (2, .int (nI j_8))]) hx hb dX10_voteIt_84 hl (k := 3) rfl (nI_1 _) (by decide) rfl (fun ls hl => ?_)
            refine lv_goto (tgt := 45) hx hb dX10_voteIt_87 (by decide) ?_
            exact ih_45 ((upd mm (11 + 3 * i + 1) (nI (thM mm i - 1))), true, (i + 1)) _ _ _ (by dsimp only; omega) ⟨_, rfl, lv_sub hl [2, 3, 1, 0] rfl, (by rw [sr_sr] at hW; exact hW), ⟨vtF_yes hv c_63, by (try dsimp only); omega⟩⟩
      · refine lv_aload_n hx hb dX10_voteIt_34 rfl (lv_at hl 1 rfl) ?_
        refine lv_iconst (v := nI 2) hx hb dX10_voteIt_35 (by decide) ?_
        refine md_calli C hml hl.1 (As := [.int (nI 2)]) (rest := []) (m_throwing l D aT ad S 2) gT_throwing hd_throwing rfl ⟨Nat.le_of_ble_eq_true rfl, Nat.le_of_ble_eq_true rfl⟩ ⟨Nat.le_refl _, Nat.le_refl _⟩ hW hA rfl (Nat.le_of_ble_eq_true rfl) dX10_voteIt_36 (fun r_36 S_36 H locs hq hW => ?_)
        obtain ⟨rfl, rfl⟩ := hq
        exact md_iret C hr hlocks rfl hW (Or.inr (Or.inl ⟨j_8, c_8, Or.inr c_31, rfl, rfl⟩)) dX10_voteIt_39
  · have hl : lv_has ls 5 [(2, .int (-1)), (0, .ref (ad 0)), (1, .int x)] := by rw [c_8] at hl; exact hl
    refine lv_aload_n hx hb dX10_voteIt_11 rfl (lv_at hl 1 rfl) ?_
    refine lv_iconst (v := nI 1) hx hb dX10_voteIt_12 (by decide) ?_
    refine md_calli C hml hl.1 (As := [.int (nI 1)]) (rest := []) (m_throwing l D aT ad S 1) gT_throwing hd_throwing rfl ⟨Nat.le_of_ble_eq_true rfl, Nat.le_of_ble_eq_true rfl⟩ ⟨Nat.le_refl _, Nat.le_refl _⟩ hW hA rfl (Nat.le_of_ble_eq_true rfl) dX10_voteIt_13 (fun r_13 S_13 H locs hq hW => ?_)
    obtain ⟨rfl, rfl⟩ := hq
    exact md_iret C hr hlocks rfl hW (Or.inl ⟨c_8, rfl, rfl⟩) dX10_voteIt_16
theorem gT_seasonIt : GoodIn gw (wsV RX10 163 RX10 yX10_seasonIt (Cond.code yX10_seasonIt cX10_seasonIt 3 (some .int) :: gw)) := gdV gw_1839 gw_1841 gw_44 gw_81 gw_1842
theorem hd_seasonIt : yX10_seasonIt.cls = RX10 ∧ yX10_seasonIt.cls ≠ "java/lang/invoke/MethodHandle" ∧ yX10_seasonIt.cls ≠ "java/lang/invoke/VarHandle" ∧ (parseMethodDescriptor yX10_seasonIt.desc).map (fun d => d.parameters.length) = some 0 := ⟨rfl, by decide +kernel, by decide +kernel, by decide +kernel⟩
theorem dX10_seasonIt_0 : decode cX10_seasonIt 0 = .ok (.aload_n 0, 1) := by decide +kernel
theorem dX10_seasonIt_1 : decode cX10_seasonIt 1 = .ok (.getfield 9, 3) := by decide +kernel
theorem dX10_seasonIt_4 : decode cX10_seasonIt 4 = .ok (.iconst 3, 1) := by decide +kernel
theorem dX10_seasonIt_5 : decode cX10_seasonIt 5 = .ok (.aload_n 0, 1) := by decide +kernel
theorem dX10_seasonIt_6 : decode cX10_seasonIt 6 = .ok (.getfield 9, 3) := by decide +kernel
theorem dX10_seasonIt_9 : decode cX10_seasonIt 9 = .ok (.iconst 3, 1) := by decide +kernel
theorem dX10_seasonIt_10 : decode cX10_seasonIt 10 = .ok (.iaload, 1) := by decide +kernel
theorem dX10_seasonIt_11 : decode cX10_seasonIt 11 = .ok (.iconst 1, 1) := by decide +kernel
theorem dX10_seasonIt_12 : decode cX10_seasonIt 12 = .ok (.iadd, 1) := by decide +kernel
theorem dX10_seasonIt_13 : decode cX10_seasonIt 13 = .ok (.iconst 4, 1) := by decide +kernel
theorem dX10_seasonIt_14 : decode cX10_seasonIt 14 = .ok (.irem, 1) := by decide +kernel
theorem dX10_seasonIt_15 : decode cX10_seasonIt 15 = .ok (.iastore, 1) := by decide +kernel
theorem dX10_seasonIt_16 : decode cX10_seasonIt 16 = .ok (.aload_n 0, 1) := by decide +kernel
theorem dX10_seasonIt_17 : decode cX10_seasonIt 17 = .ok (.getfield 9, 3) := by decide +kernel
theorem dX10_seasonIt_20 : decode cX10_seasonIt 20 = .ok (.iconst 3, 1) := by decide +kernel
theorem dX10_seasonIt_21 : decode cX10_seasonIt 21 = .ok (.iaload, 1) := by decide +kernel
theorem dX10_seasonIt_22 : decode cX10_seasonIt 22 = .ok (.ifCond .ne 7, 3) := by decide +kernel
theorem dX10_seasonIt_25 : decode cX10_seasonIt 25 = .ok (.iconst 4, 1) := by decide +kernel
theorem dX10_seasonIt_26 : decode cX10_seasonIt 26 = .ok (.goto 34, 3) := by decide +kernel
theorem dX10_seasonIt_29 : decode cX10_seasonIt 29 = .ok (.aload_n 0, 1) := by decide +kernel
theorem dX10_seasonIt_30 : decode cX10_seasonIt 30 = .ok (.getfield 9, 3) := by decide +kernel
theorem dX10_seasonIt_33 : decode cX10_seasonIt 33 = .ok (.iconst 3, 1) := by decide +kernel
theorem dX10_seasonIt_34 : decode cX10_seasonIt 34 = .ok (.iaload, 1) := by decide +kernel
theorem dX10_seasonIt_35 : decode cX10_seasonIt 35 = .ok (.iconst 1, 1) := by decide +kernel
theorem dX10_seasonIt_36 : decode cX10_seasonIt 36 = .ok (.if_icmp .ne 7, 3) := by decide +kernel
theorem dX10_seasonIt_39 : decode cX10_seasonIt 39 = .ok (.iconst 2, 1) := by decide +kernel
theorem dX10_seasonIt_40 : decode cX10_seasonIt 40 = .ok (.goto 20, 3) := by decide +kernel
theorem dX10_seasonIt_43 : decode cX10_seasonIt 43 = .ok (.aload_n 0, 1) := by decide +kernel
theorem dX10_seasonIt_44 : decode cX10_seasonIt 44 = .ok (.getfield 9, 3) := by decide +kernel
theorem dX10_seasonIt_47 : decode cX10_seasonIt 47 = .ok (.iconst 3, 1) := by decide +kernel
theorem dX10_seasonIt_48 : decode cX10_seasonIt 48 = .ok (.iaload, 1) := by decide +kernel
theorem dX10_seasonIt_49 : decode cX10_seasonIt 49 = .ok (.iconst 2, 1) := by decide +kernel
theorem dX10_seasonIt_50 : decode cX10_seasonIt 50 = .ok (.if_icmp .ne 8, 3) := by decide +kernel
theorem dX10_seasonIt_53 : decode cX10_seasonIt 53 = .ok (.bipush (-2), 2) := by decide +kernel
theorem dX10_seasonIt_55 : decode cX10_seasonIt 55 = .ok (.goto 5, 3) := by decide +kernel
theorem dX10_seasonIt_58 : decode cX10_seasonIt 58 = .ok (.bipush (-4), 2) := by decide +kernel
theorem dX10_seasonIt_60 : decode cX10_seasonIt 60 = .ok (.istore_n 1, 1) := by decide +kernel
theorem dX10_seasonIt_61 : decode cX10_seasonIt 61 = .ok (.iconst 0, 1) := by decide +kernel
theorem dX10_seasonIt_62 : decode cX10_seasonIt 62 = .ok (.istore_n 2, 1) := by decide +kernel
theorem dX10_seasonIt_63 : decode cX10_seasonIt 63 = .ok (.iload_n 2, 1) := by decide +kernel
theorem dX10_seasonIt_64 : decode cX10_seasonIt 64 = .ok (.aload_n 0, 1) := by decide +kernel
theorem dX10_seasonIt_65 : decode cX10_seasonIt 65 = .ok (.getfield 9, 3) := by decide +kernel
theorem dX10_seasonIt_68 : decode cX10_seasonIt 68 = .ok (.iconst 0, 1) := by decide +kernel
theorem dX10_seasonIt_69 : decode cX10_seasonIt 69 = .ok (.iaload, 1) := by decide +kernel
theorem dX10_seasonIt_70 : decode cX10_seasonIt 70 = .ok (.if_icmp .ge 82, 3) := by decide +kernel
theorem dX10_seasonIt_73 : decode cX10_seasonIt 73 = .ok (.aload_n 0, 1) := by decide +kernel
theorem dX10_seasonIt_74 : decode cX10_seasonIt 74 = .ok (.getfield 9, 3) := by decide +kernel
theorem dX10_seasonIt_77 : decode cX10_seasonIt 77 = .ok (.iload_n 2, 1) := by decide +kernel
theorem dX10_seasonIt_78 : decode cX10_seasonIt 78 = .ok (.invokestatic 86, 3) := by decide +kernel
theorem dX10_seasonIt_81 : decode cX10_seasonIt 81 = .ok (.iconst 1, 1) := by decide +kernel
theorem dX10_seasonIt_82 : decode cX10_seasonIt 82 = .ok (.bipush 99, 2) := by decide +kernel
theorem dX10_seasonIt_84 : decode cX10_seasonIt 84 = .ok (.aload_n 0, 1) := by decide +kernel
theorem dX10_seasonIt_85 : decode cX10_seasonIt 85 = .ok (.getfield 9, 3) := by decide +kernel
theorem dX10_seasonIt_88 : decode cX10_seasonIt 88 = .ok (.iload_n 2, 1) := by decide +kernel
theorem dX10_seasonIt_89 : decode cX10_seasonIt 89 = .ok (.invokestatic 86, 3) := by decide +kernel
theorem dX10_seasonIt_92 : decode cX10_seasonIt 92 = .ok (.iaload, 1) := by decide +kernel
theorem dX10_seasonIt_93 : decode cX10_seasonIt 93 = .ok (.iload_n 1, 1) := by decide +kernel
theorem dX10_seasonIt_94 : decode cX10_seasonIt 94 = .ok (.iadd, 1) := by decide +kernel
theorem dX10_seasonIt_95 : decode cX10_seasonIt 95 = .ok (.invokestatic 160, 3) := by decide +kernel
theorem dX10_seasonIt_98 : decode cX10_seasonIt 98 = .ok (.invokestatic 138, 3) := by decide +kernel
theorem dX10_seasonIt_101 : decode cX10_seasonIt 101 = .ok (.iastore, 1) := by decide +kernel
theorem dX10_seasonIt_102 : decode cX10_seasonIt 102 = .ok (.aload_n 0, 1) := by decide +kernel
theorem dX10_seasonIt_103 : decode cX10_seasonIt 103 = .ok (.getfield 9, 3) := by decide +kernel
theorem dX10_seasonIt_106 : decode cX10_seasonIt 106 = .ok (.iload_n 2, 1) := by decide +kernel
theorem dX10_seasonIt_107 : decode cX10_seasonIt 107 = .ok (.invokestatic 86, 3) := by decide +kernel
theorem dX10_seasonIt_110 : decode cX10_seasonIt 110 = .ok (.iconst 1, 1) := by decide +kernel
theorem dX10_seasonIt_111 : decode cX10_seasonIt 111 = .ok (.iadd, 1) := by decide +kernel
theorem dX10_seasonIt_112 : decode cX10_seasonIt 112 = .ok (.dup2, 1) := by decide +kernel
theorem dX10_seasonIt_113 : decode cX10_seasonIt 113 = .ok (.iaload, 1) := by decide +kernel
theorem dX10_seasonIt_114 : decode cX10_seasonIt 114 = .ok (.aload_n 0, 1) := by decide +kernel
theorem dX10_seasonIt_115 : decode cX10_seasonIt 115 = .ok (.getfield 9, 3) := by decide +kernel
theorem dX10_seasonIt_118 : decode cX10_seasonIt 118 = .ok (.iconst 3, 1) := by decide +kernel
theorem dX10_seasonIt_119 : decode cX10_seasonIt 119 = .ok (.iaload, 1) := by decide +kernel
theorem dX10_seasonIt_120 : decode cX10_seasonIt 120 = .ok (.ifCond .ne 23, 3) := by decide +kernel
theorem dX10_seasonIt_123 : decode cX10_seasonIt 123 = .ok (.aload_n 0, 1) := by decide +kernel
theorem dX10_seasonIt_124 : decode cX10_seasonIt 124 = .ok (.getfield 9, 3) := by decide +kernel
theorem dX10_seasonIt_127 : decode cX10_seasonIt 127 = .ok (.iload_n 2, 1) := by decide +kernel
theorem dX10_seasonIt_128 : decode cX10_seasonIt 128 = .ok (.invokestatic 86, 3) := by decide +kernel
theorem dX10_seasonIt_131 : decode cX10_seasonIt 131 = .ok (.iconst 1, 1) := by decide +kernel
theorem dX10_seasonIt_132 : decode cX10_seasonIt 132 = .ok (.iadd, 1) := by decide +kernel
theorem dX10_seasonIt_133 : decode cX10_seasonIt 133 = .ok (.iaload, 1) := by decide +kernel
theorem dX10_seasonIt_134 : decode cX10_seasonIt 134 = .ok (.bipush 9, 2) := by decide +kernel
theorem dX10_seasonIt_136 : decode cX10_seasonIt 136 = .ok (.if_icmp .ge 7, 3) := by decide +kernel
theorem dX10_seasonIt_139 : decode cX10_seasonIt 139 = .ok (.iconst 1, 1) := by decide +kernel
theorem dX10_seasonIt_140 : decode cX10_seasonIt 140 = .ok (.goto 4, 3) := by decide +kernel
theorem dX10_seasonIt_143 : decode cX10_seasonIt 143 = .ok (.iconst 0, 1) := by decide +kernel
theorem dX10_seasonIt_144 : decode cX10_seasonIt 144 = .ok (.iadd, 1) := by decide +kernel
theorem dX10_seasonIt_145 : decode cX10_seasonIt 145 = .ok (.iastore, 1) := by decide +kernel
theorem dX10_seasonIt_146 : decode cX10_seasonIt 146 = .ok (.iinc 2 1, 3) := by decide +kernel
theorem dX10_seasonIt_149 : decode cX10_seasonIt 149 = .ok (.goto (-86), 3) := by decide +kernel
theorem dX10_seasonIt_152 : decode cX10_seasonIt 152 = .ok (.aload_n 0, 1) := by decide +kernel
theorem dX10_seasonIt_153 : decode cX10_seasonIt 153 = .ok (.getfield 9, 3) := by decide +kernel
theorem dX10_seasonIt_156 : decode cX10_seasonIt 156 = .ok (.iconst 3, 1) := by decide +kernel
theorem dX10_seasonIt_157 : decode cX10_seasonIt 157 = .ok (.iaload, 1) := by decide +kernel
theorem dX10_seasonIt_158 : decode cX10_seasonIt 158 = .ok (.ireturn, 1) := by decide +kernel
set_option maxHeartbeats 4000000 in
set_option maxRecDepth 20000 in
theorem m_seasonIt (l : Launch) (D : va_G) (aT : Nat → ClassId) (ad : Nat → Nat) (S : MSt) (s0 : Nat) (hH : HeW (S 0)) (hs : S 0 3 = nI s0) (hs4 : s0 < 4) : MdI l yX10_seasonIt cX10_seasonIt 3 .int 1 24 D aT ad [.ref (ad 0)] S (fun r S1 => r = nI ((s0 + 1) % 4) ∧ S1 = sr S 0 (seaF ((s0 + 1) % 4) (upd (S 0) 3 (nI ((s0 + 1) % 4))) (hM (S 0)))) := by
  have hx31 := hH.2.1
  have hH0 : HeR (upd (S 0) 3 (nI ((s0 + 1) % 4))) (hM (S 0)) (lvM (S 0)) (thM (S 0)) (taM (S 0)) := HeR.cong hH (fun j hj => pk_un (by omega))
  have hH1 : HeW (upd (S 0) 3 (nI ((s0 + 1) % 4))) := hH0.w
  have hh1 : hM (upd (S 0) 3 (nI ((s0 + 1) % 4))) = hM (S 0) := hH0.eqs.1
  refine MdI.of (by decide +kernel) rfl (Nat.le_of_ble_eq_true rfl) ?_
  intro p e s m below meth c A ls C hml hl hA hr hlocks hW
  have hl : lv_has ls 3 [(0, .ref (ad 0))] := hl
  have hx := C.1
  have hb := C.2.1
  refine lv_aload_n hx hb dX10_seasonIt_0 rfl (lv_at hl 0 rfl) ?_
  refine md_geta_m C hW dX10_seasonIt_1 ?_
  refine lv_iconst (v := nI 3) hx hb dX10_seasonIt_4 (by decide) ?_
  refine lv_aload_n hx hb dX10_seasonIt_5 rfl (lv_at hl 0 rfl) ?_
  refine md_geta_m C hW dX10_seasonIt_6 ?_
  refine lv_iconst (v := nI 3) hx hb dX10_seasonIt_9 (by decide) ?_
  refine md_ald_m C hW (i := 3) (by omega) dX10_seasonIt_10 ?_
  refine r_eq (y := (nI s0)) (hs) ?_
  refine lv_iconst (v := nI 1) hx hb dX10_seasonIt_11 (by decide) ?_
  refine r_iaddN hx hb (a := s0) (b := 1) dX10_seasonIt_12 ?_
  refine lv_iconst (v := nI 4) hx hb dX10_seasonIt_13 (by decide) ?_
  refine lv_irem hx hb dX10_seasonIt_14 (by decide) ?_
  refine r_eq (y := (nI ((s0 + 1) % 4))) (pk_rem (by omega) (by decide) (by decide)) ?_
  refine md_ast_m C hW (i := 3) (by omega) dX10_seasonIt_15 (fun H locs hW => ?_)
  refine lv_aload_n hx hb dX10_seasonIt_16 rfl (lv_at hl 0 rfl) ?_
  refine md_geta_m C hW dX10_seasonIt_17 ?_
  refine lv_iconst (v := nI 3) hx hb dX10_seasonIt_20 (by decide) ?_
  refine md_ald_m C hW (i := 3) (by omega) dX10_seasonIt_21 ?_
  refine r_eq (y := (nI ((s0 + 1) % 4))) (by simp only [sr, upd, ↓reduceIte]; (repeat rw [if_neg (by omega)]); first | done | rfl) ?_
  refine r_ifneN hx hb (a := ((s0 + 1) % 4)) (by omega) (tgt := 29) dX10_seasonIt_22 (by decide) (fun c_22 => ?_) (fun c_22 => ?_)
  · refine lv_aload_n hx hb dX10_seasonIt_29 rfl (lv_at hl 0 rfl) ?_
    refine md_geta_m C hW dX10_seasonIt_30 ?_
    refine lv_iconst (v := nI 3) hx hb dX10_seasonIt_33 (by decide) ?_
    refine md_ald_m C hW (i := 3) (by omega) dX10_seasonIt_34 ?_
    refine r_eq (y := (nI ((s0 + 1) % 4))) (by simp only [sr, upd, ↓reduceIte]; (repeat rw [if_neg (by omega)]); first | done | rfl) ?_
    refine lv_iconst (v := nI 1) hx hb dX10_seasonIt_35 (by decide) ?_
    refine r_neN hx hb (a := ((s0 + 1) % 4)) (b := 1) (by omega) (by omega) (tgt := 43) dX10_seasonIt_36 (by decide) (fun c_36 => ?_) (fun c_36 => ?_)
    · refine lv_aload_n hx hb dX10_seasonIt_43 rfl (lv_at hl 0 rfl) ?_
      refine md_geta_m C hW dX10_seasonIt_44 ?_
      refine lv_iconst (v := nI 3) hx hb dX10_seasonIt_47 (by decide) ?_
      refine md_ald_m C hW (i := 3) (by omega) dX10_seasonIt_48 ?_
      refine r_eq (y := (nI ((s0 + 1) % 4))) (by simp only [sr, upd, ↓reduceIte]; (repeat rw [if_neg (by omega)]); first | done | rfl) ?_
      refine lv_iconst (v := nI 2) hx hb dX10_seasonIt_49 (by decide) ?_
      refine r_neN hx hb (a := ((s0 + 1) % 4)) (b := 2) (by omega) (by omega) (tgt := 58) dX10_seasonIt_50 (by decide) (fun c_50 => ?_) (fun c_50 => ?_)
      · refine lv_bipush (v := (-4)) hx hb dX10_seasonIt_58 (by decide) ?_
        refine r_eq (y := byF ((s0 + 1) % 4)) (by unfold byF; rw [if_neg c_22, if_neg c_36, if_neg c_50]) ?_
        refine lv_istore_n (lv' := [(1, .int (byF ((s0 + 1) % 4))), (0, .ref (ad 0))]) hx hb dX10_seasonIt_60 rfl hl (by decide) rfl (fun ls hl => ?_)
        refine lv_iconst (v := nI 0) hx hb dX10_seasonIt_61 (by decide) ?_
        refine lv_istore_n (lv' := [(2, .int (nI 0)), (1, .int (byF ((s0 + 1) % 4))), (0, .ref (ad 0))]) hx hb dX10_seasonIt_62 rfl hl (by decide) rfl (fun ls hl => ?_)
        refine W_loopH (σ := (Nat → Int32) × Nat) (fun z_ => hM (S 0) - z_.2) (fun z_ H locs g => ∃ ls, g = F0 m 63 ls [] ∧ lv_has ls 3 [(0, .ref (ad 0)), (1, .int (byF ((s0 + 1) % 4))), (2, .int (nI z_.2))] ∧ MdB D aT ad (sr S 0 z_.1) A s.heap H locs ∧ (z_.1 = seaF ((s0 + 1) % 4) (upd (S 0) 3 (nI ((s0 + 1) % 4))) z_.2 ∧ z_.2 ≤ hM (S 0))) ?_ ((upd (S 0) 3 (nI ((s0 + 1) % 4))), 0) _ ⟨_, rfl, lv_sub hl [2, 1, 0] rfl, (by rw [show nI ((s0 + 1) % 4) = nI ((s0 + 1) % 4) from rfl] at hW; exact hW), ⟨rfl, Nat.zero_le _⟩⟩
        clear hW hl
        rintro ⟨mm, i⟩ H locs g ⟨ls, rfl, hl, hW, hv, hih⟩ ih_63
        dsimp only at hl hW hv hih ⊢
        obtain ⟨hw, hhm, hfix⟩ : seaOk (upd (S 0) 3 (nI ((s0 + 1) % 4))) mm := by rw [hv]; exact seaF_ok hH1 i (by rw [hh1]; exact hih)
        rw [hh1] at hhm
        have e3 : mm 3 = nI ((s0 + 1) % 4) := by rw [hfix 3 (by omega), pk_us]
        have h6 : hM (S 0) ≤ 6 := hH.2.1
        refine lv_iload_n hx hb dX10_seasonIt_63 rfl (lv_at hl 2 rfl) ?_
        refine lv_aload_n hx hb dX10_seasonIt_64 rfl (lv_at hl 0 rfl) ?_
        refine md_geta_m C hW dX10_seasonIt_65 ?_
        refine lv_iconst (v := nI 0) hx hb dX10_seasonIt_68 (by decide) ?_
        refine md_ald_m C hW (i := 0) (by omega) dX10_seasonIt_69 ?_
        refine r_eq (y := (nI (hM (S 0)))) (by show mm 0 = _; rw [← hhm]; exact hw.1) ?_
        refine r_geN hx hb (a := i) (b := (hM (S 0))) (by omega) (by omega) (tgt := 152) dX10_seasonIt_70 (by decide) (fun c_70 => ?_) (fun c_70 => ?_)
        · refine lv_aload_n hx hb dX10_seasonIt_152 rfl (lv_at hl 0 rfl) ?_
          refine md_geta_m C hW dX10_seasonIt_153 ?_
          refine lv_iconst (v := nI 3) hx hb dX10_seasonIt_156 (by decide) ?_
          refine md_ald_m C hW (i := 3) (by omega) dX10_seasonIt_157 ?_
          refine r_eq (y := (nI ((s0 + 1) % 4))) (by show mm 3 = _; exact e3) ?_
          exact md_iret C hr hlocks rfl hW (⟨rfl, by rw [hv, show i = hM (S 0) by omega]⟩) dX10_seasonIt_158
        · refine lv_aload_n hx hb dX10_seasonIt_73 rfl (lv_at hl 0 rfl) ?_
          refine md_geta_m C hW dX10_seasonIt_74 ?_
          refine lv_iload_n hx hb dX10_seasonIt_77 rfl (lv_at hl 2 rfl) ?_
          refine md_calls C hml hl.1 (As := [.int (nI i)]) (rest := [.ref (ad 1)]) (m_hedgeAt l i) gT_hedgeAt hd_hedgeAt rfl ⟨Nat.le_of_ble_eq_true rfl, Nat.le_of_ble_eq_true rfl⟩ ⟨Nat.le_refl _, Nat.le_refl _⟩ rfl (Nat.le_of_ble_eq_true rfl) dX10_seasonIt_78 (fun r_78 hq => ?_)
          subst hq
          refine lv_iconst (v := nI 1) hx hb dX10_seasonIt_81 (by decide) ?_
          refine lv_bipush (v := nI 99) hx hb dX10_seasonIt_82 (by decide) ?_
          refine lv_aload_n hx hb dX10_seasonIt_84 rfl (lv_at hl 0 rfl) ?_
          refine md_geta_m C hW dX10_seasonIt_85 ?_
          refine lv_iload_n hx hb dX10_seasonIt_88 rfl (lv_at hl 2 rfl) ?_
          refine md_calls C hml hl.1 (As := [.int (nI i)]) (rest := [.ref (ad 1), .int (nI 99), .int (nI 1), .int (nI (11 + 3 * i)), .ref (ad 1)]) (m_hedgeAt l i) gT_hedgeAt hd_hedgeAt rfl ⟨Nat.le_of_ble_eq_true rfl, Nat.le_of_ble_eq_true rfl⟩ ⟨Nat.le_refl _, Nat.le_refl _⟩ rfl (Nat.le_of_ble_eq_true rfl) dX10_seasonIt_89 (fun r_89 hq => ?_)
          subst hq
          refine md_ald_m C hW (i := (11 + 3 * i)) (by omega) dX10_seasonIt_92 ?_
          refine r_eq (y := (nI (lvM mm i))) (by show mm _ = _; exact (hw.2.2.1 i (by rw [hhm]; omega)).1) ?_
          refine lv_iload_n hx hb dX10_seasonIt_93 rfl (lv_at hl 1 rfl) ?_
          refine lv_iadd hx hb dX10_seasonIt_94 ?_
          refine md_min C hml hl.1 gk_min ⟨Nat.le_of_ble_eq_true rfl, Nat.le_of_ble_eq_true rfl, Nat.le_of_ble_eq_true rfl⟩ ⟨Nat.le_refl _, Nat.le_refl _⟩ dX10_seasonIt_95 ?_
          refine md_max C hml hl.1 gk_max ⟨Nat.le_of_ble_eq_true rfl, Nat.le_of_ble_eq_true rfl, Nat.le_of_ble_eq_true rfl⟩ ⟨Nat.le_refl _, Nat.le_refl _⟩ dX10_seasonIt_98 ?_
          refine r_eq (y := (nI (leafN ((s0 + 1) % 4) (lvM mm i)))) (clp_eq _ (by omega) _ (by have := ((hw.2.2.1 i (by rw [hhm]; omega)).2).2; omega) ((hw.2.2.1 i (by rw [hhm]; omega)).2).1) ?_
          refine md_ast_m C hW (i := (11 + 3 * i)) (by omega) dX10_seasonIt_101 (fun H locs hW => ?_)
          refine lv_aload_n hx hb dX10_seasonIt_102 rfl (lv_at hl 0 rfl) ?_
          refine md_geta_m C hW dX10_seasonIt_103 ?_
          refine lv_iload_n hx hb dX10_seasonIt_106 rfl (lv_at hl 2 rfl) ?_
          refine md_calls C hml hl.1 (As := [.int (nI i)]) (rest := [.ref (ad 1)]) (m_hedgeAt l i) gT_hedgeAt hd_hedgeAt rfl ⟨Nat.le_of_ble_eq_true rfl, Nat.le_of_ble_eq_true rfl⟩ ⟨Nat.le_refl _, Nat.le_refl _⟩ rfl (Nat.le_of_ble_eq_true rfl) dX10_seasonIt_107 (fun r_107 hq => ?_)
          subst hq
          refine lv_iconst (v := nI 1) hx hb dX10_seasonIt_110 (by decide) ?_
          refine r_iaddN hx hb (a := (11 + 3 * i)) (b := 1) dX10_seasonIt_111 ?_
          refine lv_dup2_11 hx hb dX10_seasonIt_112 rfl rfl ?_
          refine md_ald_m C hW (i := 11 + 3 * i + 1) (by omega) dX10_seasonIt_113 ?_
          refine r_eq (y := (nI (thM mm i))) (by show upd mm _ _ _ = _; rw [pk_un (by omega)]; exact (hw.2.2.2.1 i (by rw [hhm]; omega)).1) ?_
          refine lv_aload_n hx hb dX10_seasonIt_114 rfl (lv_at hl 0 rfl) ?_
          refine md_geta_m C hW dX10_seasonIt_115 ?_
          refine lv_iconst (v := nI 3) hx hb dX10_seasonIt_118 (by decide) ?_
          refine md_ald_m C hW (i := 3) (by omega) dX10_seasonIt_119 ?_
          refine r_eq (y := (nI ((s0 + 1) % 4))) (by show upd mm _ _ _ = _; rw [pk_un (by omega)]; exact e3) ?_
          refine r_ifneN hx hb (a := ((s0 + 1) % 4)) (by omega) (tgt := 143) dX10_seasonIt_120 (by decide) (fun c_120 => ?_) (fun c_120 => ?_)
          · refine lv_iconst (v := nI 0) hx hb dX10_seasonIt_143 (by decide) ?_
            refine r_iaddN hx hb (a := (thM mm i)) (b := 0) dX10_seasonIt_144 ?_
            refine md_ast_m C hW (i := 11 + 3 * i + 1) (by omega) dX10_seasonIt_145 (fun H locs hW => ?_)
            refine lv_iinc (v := (nI (i + 1))) (lv' := [(2, .int (nI (i + 1))), (0, .ref (ad 0)), (1, .int (byF ((s0 + 1) % 4)))]) hx hb dX10_seasonIt_146 hl (k := 2) rfl (nI_1 _) (by decide) rfl (fun ls hl => ?_)
            refine lv_goto (tgt := 63) hx hb dX10_seasonIt_149 (by decide) ?_
            exact ih_63 ((seaF ((s0 + 1) % 4) (upd (S 0) 3 (nI ((s0 + 1) % 4))) (i + 1)), (i + 1)) _ _ _ (by dsimp only; omega) ⟨_, rfl, lv_sub hl [1, 2, 0] rfl, (by rw [sr_sr, sr_sr] at hW; unfold seaF; rw [← hv]; unfold taddN; rw [if_neg (fun z => c_120 z.1)]; exact hW), ⟨rfl, by (try dsimp only); omega⟩⟩
          · refine lv_aload_n hx hb dX10_seasonIt_123 rfl (lv_at hl 0 rfl) ?_
            refine md_geta_m C hW dX10_seasonIt_124 ?_
            refine lv_iload_n hx hb dX10_seasonIt_127 rfl (lv_at hl 2 rfl) ?_
            refine md_calls C hml hl.1 (As := [.int (nI i)]) (rest := [.ref (ad 1), .int (nI (thM mm i)), .int (nI (11 + 3 * i + 1)), .ref (ad 1)]) (m_hedgeAt l i) gT_hedgeAt hd_hedgeAt rfl ⟨Nat.le_of_ble_eq_true rfl, Nat.le_of_ble_eq_true rfl⟩ ⟨Nat.le_refl _, Nat.le_refl _⟩ rfl (Nat.le_of_ble_eq_true rfl) dX10_seasonIt_128 (fun r_128 hq => ?_)
            subst hq
            refine lv_iconst (v := nI 1) hx hb dX10_seasonIt_131 (by decide) ?_
            refine r_iaddN hx hb (a := (11 + 3 * i)) (b := 1) dX10_seasonIt_132 ?_
            refine md_ald_m C hW (i := 11 + 3 * i + 1) (by omega) dX10_seasonIt_133 ?_
            refine r_eq (y := (nI (thM mm i))) (by show upd mm _ _ _ = _; rw [pk_un (by omega)]; exact (hw.2.2.2.1 i (by rw [hhm]; omega)).1) ?_
            refine lv_bipush (v := nI 9) hx hb dX10_seasonIt_134 (by decide) ?_
            refine r_geN hx hb (a := (thM mm i)) (b := 9) (by have := (hw.2.2.2.1 i (by rw [hhm]; omega)).2; omega) (by have := (hw.2.2.2.1 i (by rw [hhm]; omega)).2; omega) (tgt := 143) dX10_seasonIt_136 (by decide) (fun c_136 => ?_) (fun c_136 => ?_)
            · refine lv_iconst (v := nI 0) hx hb dX10_seasonIt_143 (by decide) ?_
              refine r_iaddN hx hb (a := (thM mm i)) (b := 0) dX10_seasonIt_144 ?_
              refine md_ast_m C hW (i := 11 + 3 * i + 1) (by omega) dX10_seasonIt_145 (fun H locs hW => ?_)
              refine lv_iinc (v := (nI (i + 1))) (lv' := [(2, .int (nI (i + 1))), (0, .ref (ad 0)), (1, .int (byF ((s0 + 1) % 4)))]) hx hb dX10_seasonIt_146 hl (k := 2) rfl (nI_1 _) (by decide) rfl (fun ls hl => ?_)
              refine lv_goto (tgt := 63) hx hb dX10_seasonIt_149 (by decide) ?_
              exact ih_63 ((seaF ((s0 + 1) % 4) (upd (S 0) 3 (nI ((s0 + 1) % 4))) (i + 1)), (i + 1)) _ _ _ (by dsimp only; omega) ⟨_, rfl, lv_sub hl [1, 2, 0] rfl, (by rw [sr_sr, sr_sr] at hW; unfold seaF; rw [← hv]; unfold taddN; rw [if_neg (fun z => by have := z.2; omega)]; exact hW), ⟨rfl, by (try dsimp only); omega⟩⟩
            · refine lv_iconst (v := nI 1) hx hb dX10_seasonIt_139 (by decide) ?_
              refine lv_goto (tgt := 144) hx hb dX10_seasonIt_140 (by decide) ?_
              refine r_iaddN hx hb (a := (thM mm i)) (b := 1) dX10_seasonIt_144 ?_
              refine md_ast_m C hW (i := 11 + 3 * i + 1) (by omega) dX10_seasonIt_145 (fun H locs hW => ?_)
              refine lv_iinc (v := (nI (i + 1))) (lv' := [(2, .int (nI (i + 1))), (0, .ref (ad 0)), (1, .int (byF ((s0 + 1) % 4)))]) hx hb dX10_seasonIt_146 hl (k := 2) rfl (nI_1 _) (by decide) rfl (fun ls hl => ?_)
              refine lv_goto (tgt := 63) hx hb dX10_seasonIt_149 (by decide) ?_
              exact ih_63 ((seaF ((s0 + 1) % 4) (upd (S 0) 3 (nI ((s0 + 1) % 4))) (i + 1)), (i + 1)) _ _ _ (by dsimp only; omega) ⟨_, rfl, lv_sub hl [1, 2, 0] rfl, (by rw [sr_sr, sr_sr] at hW; unfold seaF; rw [← hv]; unfold taddN; rw [if_pos ⟨c_120, by omega⟩]; exact hW), ⟨rfl, by (try dsimp only); omega⟩⟩
      · refine lv_bipush (v := (-2)) hx hb dX10_seasonIt_53 (by decide) ?_
        refine lv_goto (tgt := 60) hx hb dX10_seasonIt_55 (by decide) ?_
        refine r_eq (y := byF ((s0 + 1) % 4)) (by unfold byF; rw [if_neg c_22, if_neg c_36, if_pos c_50]) ?_
        refine lv_istore_n (lv' := [(1, .int (byF ((s0 + 1) % 4))), (0, .ref (ad 0))]) hx hb dX10_seasonIt_60 rfl hl (by decide) rfl (fun ls hl => ?_)
        refine lv_iconst (v := nI 0) hx hb dX10_seasonIt_61 (by decide) ?_
        refine lv_istore_n (lv' := [(2, .int (nI 0)), (1, .int (byF ((s0 + 1) % 4))), (0, .ref (ad 0))]) hx hb dX10_seasonIt_62 rfl hl (by decide) rfl (fun ls hl => ?_)
        refine W_loopH (σ := (Nat → Int32) × Nat) (fun z_ => hM (S 0) - z_.2) (fun z_ H locs g => ∃ ls, g = F0 m 63 ls [] ∧ lv_has ls 3 [(0, .ref (ad 0)), (1, .int (byF ((s0 + 1) % 4))), (2, .int (nI z_.2))] ∧ MdB D aT ad (sr S 0 z_.1) A s.heap H locs ∧ (z_.1 = seaF ((s0 + 1) % 4) (upd (S 0) 3 (nI ((s0 + 1) % 4))) z_.2 ∧ z_.2 ≤ hM (S 0))) ?_ ((upd (S 0) 3 (nI ((s0 + 1) % 4))), 0) _ ⟨_, rfl, lv_sub hl [2, 1, 0] rfl, (by rw [show nI ((s0 + 1) % 4) = nI ((s0 + 1) % 4) from rfl] at hW; exact hW), ⟨rfl, Nat.zero_le _⟩⟩
        clear hW hl
        rintro ⟨mm, i⟩ H locs g ⟨ls, rfl, hl, hW, hv, hih⟩ ih_63
        dsimp only at hl hW hv hih ⊢
        obtain ⟨hw, hhm, hfix⟩ : seaOk (upd (S 0) 3 (nI ((s0 + 1) % 4))) mm := by rw [hv]; exact seaF_ok hH1 i (by rw [hh1]; exact hih)
        rw [hh1] at hhm
        have e3 : mm 3 = nI ((s0 + 1) % 4) := by rw [hfix 3 (by omega), pk_us]
        have h6 : hM (S 0) ≤ 6 := hH.2.1
        refine lv_iload_n hx hb dX10_seasonIt_63 rfl (lv_at hl 2 rfl) ?_
        refine lv_aload_n hx hb dX10_seasonIt_64 rfl (lv_at hl 0 rfl) ?_
        refine md_geta_m C hW dX10_seasonIt_65 ?_
        refine lv_iconst (v := nI 0) hx hb dX10_seasonIt_68 (by decide) ?_
        refine md_ald_m C hW (i := 0) (by omega) dX10_seasonIt_69 ?_
        refine r_eq (y := (nI (hM (S 0)))) (by show mm 0 = _; rw [← hhm]; exact hw.1) ?_
        refine r_geN hx hb (a := i) (b := (hM (S 0))) (by omega) (by omega) (tgt := 152) dX10_seasonIt_70 (by decide) (fun c_70 => ?_) (fun c_70 => ?_)
        · refine lv_aload_n hx hb dX10_seasonIt_152 rfl (lv_at hl 0 rfl) ?_
          refine md_geta_m C hW dX10_seasonIt_153 ?_
          refine lv_iconst (v := nI 3) hx hb dX10_seasonIt_156 (by decide) ?_
          refine md_ald_m C hW (i := 3) (by omega) dX10_seasonIt_157 ?_
          refine r_eq (y := (nI ((s0 + 1) % 4))) (by show mm 3 = _; exact e3) ?_
          exact md_iret C hr hlocks rfl hW (⟨rfl, by rw [hv, show i = hM (S 0) by omega]⟩) dX10_seasonIt_158
        · refine lv_aload_n hx hb dX10_seasonIt_73 rfl (lv_at hl 0 rfl) ?_
          refine md_geta_m C hW dX10_seasonIt_74 ?_
          refine lv_iload_n hx hb dX10_seasonIt_77 rfl (lv_at hl 2 rfl) ?_
          refine md_calls C hml hl.1 (As := [.int (nI i)]) (rest := [.ref (ad 1)]) (m_hedgeAt l i) gT_hedgeAt hd_hedgeAt rfl ⟨Nat.le_of_ble_eq_true rfl, Nat.le_of_ble_eq_true rfl⟩ ⟨Nat.le_refl _, Nat.le_refl _⟩ rfl (Nat.le_of_ble_eq_true rfl) dX10_seasonIt_78 (fun r_78 hq => ?_)
          subst hq
          refine lv_iconst (v := nI 1) hx hb dX10_seasonIt_81 (by decide) ?_
          refine lv_bipush (v := nI 99) hx hb dX10_seasonIt_82 (by decide) ?_
          refine lv_aload_n hx hb dX10_seasonIt_84 rfl (lv_at hl 0 rfl) ?_
          refine md_geta_m C hW dX10_seasonIt_85 ?_
          refine lv_iload_n hx hb dX10_seasonIt_88 rfl (lv_at hl 2 rfl) ?_
          refine md_calls C hml hl.1 (As := [.int (nI i)]) (rest := [.ref (ad 1), .int (nI 99), .int (nI 1), .int (nI (11 + 3 * i)), .ref (ad 1)]) (m_hedgeAt l i) gT_hedgeAt hd_hedgeAt rfl ⟨Nat.le_of_ble_eq_true rfl, Nat.le_of_ble_eq_true rfl⟩ ⟨Nat.le_refl _, Nat.le_refl _⟩ rfl (Nat.le_of_ble_eq_true rfl) dX10_seasonIt_89 (fun r_89 hq => ?_)
          subst hq
          refine md_ald_m C hW (i := (11 + 3 * i)) (by omega) dX10_seasonIt_92 ?_
          refine r_eq (y := (nI (lvM mm i))) (by show mm _ = _; exact (hw.2.2.1 i (by rw [hhm]; omega)).1) ?_
          refine lv_iload_n hx hb dX10_seasonIt_93 rfl (lv_at hl 1 rfl) ?_
          refine lv_iadd hx hb dX10_seasonIt_94 ?_
          refine md_min C hml hl.1 gk_min ⟨Nat.le_of_ble_eq_true rfl, Nat.le_of_ble_eq_true rfl, Nat.le_of_ble_eq_true rfl⟩ ⟨Nat.le_refl _, Nat.le_refl _⟩ dX10_seasonIt_95 ?_
          refine md_max C hml hl.1 gk_max ⟨Nat.le_of_ble_eq_true rfl, Nat.le_of_ble_eq_true rfl, Nat.le_of_ble_eq_true rfl⟩ ⟨Nat.le_refl _, Nat.le_refl _⟩ dX10_seasonIt_98 ?_
          refine r_eq (y := (nI (leafN ((s0 + 1) % 4) (lvM mm i)))) (clp_eq _ (by omega) _ (by have := ((hw.2.2.1 i (by rw [hhm]; omega)).2).2; omega) ((hw.2.2.1 i (by rw [hhm]; omega)).2).1) ?_
          refine md_ast_m C hW (i := (11 + 3 * i)) (by omega) dX10_seasonIt_101 (fun H locs hW => ?_)
          refine lv_aload_n hx hb dX10_seasonIt_102 rfl (lv_at hl 0 rfl) ?_
          refine md_geta_m C hW dX10_seasonIt_103 ?_
          refine lv_iload_n hx hb dX10_seasonIt_106 rfl (lv_at hl 2 rfl) ?_
          refine md_calls C hml hl.1 (As := [.int (nI i)]) (rest := [.ref (ad 1)]) (m_hedgeAt l i) gT_hedgeAt hd_hedgeAt rfl ⟨Nat.le_of_ble_eq_true rfl, Nat.le_of_ble_eq_true rfl⟩ ⟨Nat.le_refl _, Nat.le_refl _⟩ rfl (Nat.le_of_ble_eq_true rfl) dX10_seasonIt_107 (fun r_107 hq => ?_)
          subst hq
          refine lv_iconst (v := nI 1) hx hb dX10_seasonIt_110 (by decide) ?_
          refine r_iaddN hx hb (a := (11 + 3 * i)) (b := 1) dX10_seasonIt_111 ?_
          refine lv_dup2_11 hx hb dX10_seasonIt_112 rfl rfl ?_
          refine md_ald_m C hW (i := 11 + 3 * i + 1) (by omega) dX10_seasonIt_113 ?_
          refine r_eq (y := (nI (thM mm i))) (by show upd mm _ _ _ = _; rw [pk_un (by omega)]; exact (hw.2.2.2.1 i (by rw [hhm]; omega)).1) ?_
          refine lv_aload_n hx hb dX10_seasonIt_114 rfl (lv_at hl 0 rfl) ?_
          refine md_geta_m C hW dX10_seasonIt_115 ?_
          refine lv_iconst (v := nI 3) hx hb dX10_seasonIt_118 (by decide) ?_
          refine md_ald_m C hW (i := 3) (by omega) dX10_seasonIt_119 ?_
          refine r_eq (y := (nI ((s0 + 1) % 4))) (by show upd mm _ _ _ = _; rw [pk_un (by omega)]; exact e3) ?_
          refine r_ifneN hx hb (a := ((s0 + 1) % 4)) (by omega) (tgt := 143) dX10_seasonIt_120 (by decide) (fun c_120 => ?_) (fun c_120 => ?_)
          · refine lv_iconst (v := nI 0) hx hb dX10_seasonIt_143 (by decide) ?_
            refine r_iaddN hx hb (a := (thM mm i)) (b := 0) dX10_seasonIt_144 ?_
            refine md_ast_m C hW (i := 11 + 3 * i + 1) (by omega) dX10_seasonIt_145 (fun H locs hW => ?_)
            refine lv_iinc (v := (nI (i + 1))) (lv' := [(2, .int (nI (i + 1))), (0, .ref (ad 0)), (1, .int (byF ((s0 + 1) % 4)))]) hx hb dX10_seasonIt_146 hl (k := 2) rfl (nI_1 _) (by decide) rfl (fun ls hl => ?_)
            refine lv_goto (tgt := 63) hx hb dX10_seasonIt_149 (by decide) ?_
            exact ih_63 ((seaF ((s0 + 1) % 4) (upd (S 0) 3 (nI ((s0 + 1) % 4))) (i + 1)), (i + 1)) _ _ _ (by dsimp only; omega) ⟨_, rfl, lv_sub hl [1, 2, 0] rfl, (by rw [sr_sr, sr_sr] at hW; unfold seaF; rw [← hv]; unfold taddN; rw [if_neg (fun z => c_120 z.1)]; exact hW), ⟨rfl, by (try dsimp only); omega⟩⟩
          · refine lv_aload_n hx hb dX10_seasonIt_123 rfl (lv_at hl 0 rfl) ?_
            refine md_geta_m C hW dX10_seasonIt_124 ?_
            refine lv_iload_n hx hb dX10_seasonIt_127 rfl (lv_at hl 2 rfl) ?_
            refine md_calls C hml hl.1 (As := [.int (nI i)]) (rest := [.ref (ad 1), .int (nI (thM mm i)), .int (nI (11 + 3 * i + 1)), .ref (ad 1)]) (m_hedgeAt l i) gT_hedgeAt hd_hedgeAt rfl ⟨Nat.le_of_ble_eq_true rfl, Nat.le_of_ble_eq_true rfl⟩ ⟨Nat.le_refl _, Nat.le_refl _⟩ rfl (Nat.le_of_ble_eq_true rfl) dX10_seasonIt_128 (fun r_128 hq => ?_)
            subst hq
            refine lv_iconst (v := nI 1) hx hb dX10_seasonIt_131 (by decide) ?_
            refine r_iaddN hx hb (a := (11 + 3 * i)) (b := 1) dX10_seasonIt_132 ?_
            refine md_ald_m C hW (i := 11 + 3 * i + 1) (by omega) dX10_seasonIt_133 ?_
            refine r_eq (y := (nI (thM mm i))) (by show upd mm _ _ _ = _; rw [pk_un (by omega)]; exact (hw.2.2.2.1 i (by rw [hhm]; omega)).1) ?_
            refine lv_bipush (v := nI 9) hx hb dX10_seasonIt_134 (by decide) ?_
            refine r_geN hx hb (a := (thM mm i)) (b := 9) (by have := (hw.2.2.2.1 i (by rw [hhm]; omega)).2; omega) (by have := (hw.2.2.2.1 i (by rw [hhm]; omega)).2; omega) (tgt := 143) dX10_seasonIt_136 (by decide) (fun c_136 => ?_) (fun c_136 => ?_)
            · refine lv_iconst (v := nI 0) hx hb dX10_seasonIt_143 (by decide) ?_
              refine r_iaddN hx hb (a := (thM mm i)) (b := 0) dX10_seasonIt_144 ?_
              refine md_ast_m C hW (i := 11 + 3 * i + 1) (by omega) dX10_seasonIt_145 (fun H locs hW => ?_)
              refine lv_iinc (v := (nI (i + 1))) (lv' := [(2, .int (nI (i + 1))), (0, .ref (ad 0)), (1, .int (byF ((s0 + 1) % 4)))]) hx hb dX10_seasonIt_146 hl (k := 2) rfl (nI_1 _) (by decide) rfl (fun ls hl => ?_)
              refine lv_goto (tgt := 63) hx hb dX10_seasonIt_149 (by decide) ?_
              exact ih_63 ((seaF ((s0 + 1) % 4) (upd (S 0) 3 (nI ((s0 + 1) % 4))) (i + 1)), (i + 1)) _ _ _ (by dsimp only; omega) ⟨_, rfl, lv_sub hl [1, 2, 0] rfl, (by rw [sr_sr, sr_sr] at hW; unfold seaF; rw [← hv]; unfold taddN; rw [if_neg (fun z => by have := z.2; omega)]; exact hW), ⟨rfl, by (try dsimp only); omega⟩⟩
            · refine lv_iconst (v := nI 1) hx hb dX10_seasonIt_139 (by decide) ?_
              refine lv_goto (tgt := 144) hx hb dX10_seasonIt_140 (by decide) ?_
              refine r_iaddN hx hb (a := (thM mm i)) (b := 1) dX10_seasonIt_144 ?_
              refine md_ast_m C hW (i := 11 + 3 * i + 1) (by omega) dX10_seasonIt_145 (fun H locs hW => ?_)
              refine lv_iinc (v := (nI (i + 1))) (lv' := [(2, .int (nI (i + 1))), (0, .ref (ad 0)), (1, .int (byF ((s0 + 1) % 4)))]) hx hb dX10_seasonIt_146 hl (k := 2) rfl (nI_1 _) (by decide) rfl (fun ls hl => ?_)
              refine lv_goto (tgt := 63) hx hb dX10_seasonIt_149 (by decide) ?_
              exact ih_63 ((seaF ((s0 + 1) % 4) (upd (S 0) 3 (nI ((s0 + 1) % 4))) (i + 1)), (i + 1)) _ _ _ (by dsimp only; omega) ⟨_, rfl, lv_sub hl [1, 2, 0] rfl, (by rw [sr_sr, sr_sr] at hW; unfold seaF; rw [← hv]; unfold taddN; rw [if_pos ⟨c_120, by omega⟩]; exact hW), ⟨rfl, by (try dsimp only); omega⟩⟩
    · refine lv_iconst (v := nI 2) hx hb dX10_seasonIt_39 (by decide) ?_
      refine lv_goto (tgt := 60) hx hb dX10_seasonIt_40 (by decide) ?_
      refine r_eq (y := byF ((s0 + 1) % 4)) (by unfold byF; rw [if_neg c_22, if_pos c_36]) ?_
      refine lv_istore_n (lv' := [(1, .int (byF ((s0 + 1) % 4))), (0, .ref (ad 0))]) hx hb dX10_seasonIt_60 rfl hl (by decide) rfl (fun ls hl => ?_)
      refine lv_iconst (v := nI 0) hx hb dX10_seasonIt_61 (by decide) ?_
      refine lv_istore_n (lv' := [(2, .int (nI 0)), (1, .int (byF ((s0 + 1) % 4))), (0, .ref (ad 0))]) hx hb dX10_seasonIt_62 rfl hl (by decide) rfl (fun ls hl => ?_)
      refine W_loopH (σ := (Nat → Int32) × Nat) (fun z_ => hM (S 0) - z_.2) (fun z_ H locs g => ∃ ls, g = F0 m 63 ls [] ∧ lv_has ls 3 [(0, .ref (ad 0)), (1, .int (byF ((s0 + 1) % 4))), (2, .int (nI z_.2))] ∧ MdB D aT ad (sr S 0 z_.1) A s.heap H locs ∧ (z_.1 = seaF ((s0 + 1) % 4) (upd (S 0) 3 (nI ((s0 + 1) % 4))) z_.2 ∧ z_.2 ≤ hM (S 0))) ?_ ((upd (S 0) 3 (nI ((s0 + 1) % 4))), 0) _ ⟨_, rfl, lv_sub hl [2, 1, 0] rfl, (by rw [show nI ((s0 + 1) % 4) = nI ((s0 + 1) % 4) from rfl] at hW; exact hW), ⟨rfl, Nat.zero_le _⟩⟩
      clear hW hl
      rintro ⟨mm, i⟩ H locs g ⟨ls, rfl, hl, hW, hv, hih⟩ ih_63
      dsimp only at hl hW hv hih ⊢
      obtain ⟨hw, hhm, hfix⟩ : seaOk (upd (S 0) 3 (nI ((s0 + 1) % 4))) mm := by rw [hv]; exact seaF_ok hH1 i (by rw [hh1]; exact hih)
      rw [hh1] at hhm
      have e3 : mm 3 = nI ((s0 + 1) % 4) := by rw [hfix 3 (by omega), pk_us]
      have h6 : hM (S 0) ≤ 6 := hH.2.1
      refine lv_iload_n hx hb dX10_seasonIt_63 rfl (lv_at hl 2 rfl) ?_
      refine lv_aload_n hx hb dX10_seasonIt_64 rfl (lv_at hl 0 rfl) ?_
      refine md_geta_m C hW dX10_seasonIt_65 ?_
      refine lv_iconst (v := nI 0) hx hb dX10_seasonIt_68 (by decide) ?_
      refine md_ald_m C hW (i := 0) (by omega) dX10_seasonIt_69 ?_
      refine r_eq (y := (nI (hM (S 0)))) (by show mm 0 = _; rw [← hhm]; exact hw.1) ?_
      refine r_geN hx hb (a := i) (b := (hM (S 0))) (by omega) (by omega) (tgt := 152) dX10_seasonIt_70 (by decide) (fun c_70 => ?_) (fun c_70 => ?_)
      · refine lv_aload_n hx hb dX10_seasonIt_152 rfl (lv_at hl 0 rfl) ?_
        refine md_geta_m C hW dX10_seasonIt_153 ?_
        refine lv_iconst (v := nI 3) hx hb dX10_seasonIt_156 (by decide) ?_
        refine md_ald_m C hW (i := 3) (by omega) dX10_seasonIt_157 ?_
        refine r_eq (y := (nI ((s0 + 1) % 4))) (by show mm 3 = _; exact e3) ?_
        exact md_iret C hr hlocks rfl hW (⟨rfl, by rw [hv, show i = hM (S 0) by omega]⟩) dX10_seasonIt_158
      · refine lv_aload_n hx hb dX10_seasonIt_73 rfl (lv_at hl 0 rfl) ?_
        refine md_geta_m C hW dX10_seasonIt_74 ?_
        refine lv_iload_n hx hb dX10_seasonIt_77 rfl (lv_at hl 2 rfl) ?_
        refine md_calls C hml hl.1 (As := [.int (nI i)]) (rest := [.ref (ad 1)]) (m_hedgeAt l i) gT_hedgeAt hd_hedgeAt rfl ⟨Nat.le_of_ble_eq_true rfl, Nat.le_of_ble_eq_true rfl⟩ ⟨Nat.le_refl _, Nat.le_refl _⟩ rfl (Nat.le_of_ble_eq_true rfl) dX10_seasonIt_78 (fun r_78 hq => ?_)
        subst hq
        refine lv_iconst (v := nI 1) hx hb dX10_seasonIt_81 (by decide) ?_
        refine lv_bipush (v := nI 99) hx hb dX10_seasonIt_82 (by decide) ?_
        refine lv_aload_n hx hb dX10_seasonIt_84 rfl (lv_at hl 0 rfl) ?_
        refine md_geta_m C hW dX10_seasonIt_85 ?_
        refine lv_iload_n hx hb dX10_seasonIt_88 rfl (lv_at hl 2 rfl) ?_
        refine md_calls C hml hl.1 (As := [.int (nI i)]) (rest := [.ref (ad 1), .int (nI 99), .int (nI 1), .int (nI (11 + 3 * i)), .ref (ad 1)]) (m_hedgeAt l i) gT_hedgeAt hd_hedgeAt rfl ⟨Nat.le_of_ble_eq_true rfl, Nat.le_of_ble_eq_true rfl⟩ ⟨Nat.le_refl _, Nat.le_refl _⟩ rfl (Nat.le_of_ble_eq_true rfl) dX10_seasonIt_89 (fun r_89 hq => ?_)
        subst hq
        refine md_ald_m C hW (i := (11 + 3 * i)) (by omega) dX10_seasonIt_92 ?_
        refine r_eq (y := (nI (lvM mm i))) (by show mm _ = _; exact (hw.2.2.1 i (by rw [hhm]; omega)).1) ?_
        refine lv_iload_n hx hb dX10_seasonIt_93 rfl (lv_at hl 1 rfl) ?_
        refine lv_iadd hx hb dX10_seasonIt_94 ?_
        refine md_min C hml hl.1 gk_min ⟨Nat.le_of_ble_eq_true rfl, Nat.le_of_ble_eq_true rfl, Nat.le_of_ble_eq_true rfl⟩ ⟨Nat.le_refl _, Nat.le_refl _⟩ dX10_seasonIt_95 ?_
        refine md_max C hml hl.1 gk_max ⟨Nat.le_of_ble_eq_true rfl, Nat.le_of_ble_eq_true rfl, Nat.le_of_ble_eq_true rfl⟩ ⟨Nat.le_refl _, Nat.le_refl _⟩ dX10_seasonIt_98 ?_
        refine r_eq (y := (nI (leafN ((s0 + 1) % 4) (lvM mm i)))) (clp_eq _ (by omega) _ (by have := ((hw.2.2.1 i (by rw [hhm]; omega)).2).2; omega) ((hw.2.2.1 i (by rw [hhm]; omega)).2).1) ?_
        refine md_ast_m C hW (i := (11 + 3 * i)) (by omega) dX10_seasonIt_101 (fun H locs hW => ?_)
        refine lv_aload_n hx hb dX10_seasonIt_102 rfl (lv_at hl 0 rfl) ?_
        refine md_geta_m C hW dX10_seasonIt_103 ?_
        refine lv_iload_n hx hb dX10_seasonIt_106 rfl (lv_at hl 2 rfl) ?_
        refine md_calls C hml hl.1 (As := [.int (nI i)]) (rest := [.ref (ad 1)]) (m_hedgeAt l i) gT_hedgeAt hd_hedgeAt rfl ⟨Nat.le_of_ble_eq_true rfl, Nat.le_of_ble_eq_true rfl⟩ ⟨Nat.le_refl _, Nat.le_refl _⟩ rfl (Nat.le_of_ble_eq_true rfl) dX10_seasonIt_107 (fun r_107 hq => ?_)
        subst hq
        refine lv_iconst (v := nI 1) hx hb dX10_seasonIt_110 (by decide) ?_
        refine r_iaddN hx hb (a := (11 + 3 * i)) (b := 1) dX10_seasonIt_111 ?_
        refine lv_dup2_11 hx hb dX10_seasonIt_112 rfl rfl ?_
        refine md_ald_m C hW (i := 11 + 3 * i + 1) (by omega) dX10_seasonIt_113 ?_
        refine r_eq (y := (nI (thM mm i))) (by show upd mm _ _ _ = _; rw [pk_un (by omega)]; exact (hw.2.2.2.1 i (by rw [hhm]; omega)).1) ?_
        refine lv_aload_n hx hb dX10_seasonIt_114 rfl (lv_at hl 0 rfl) ?_
        refine md_geta_m C hW dX10_seasonIt_115 ?_
        refine lv_iconst (v := nI 3) hx hb dX10_seasonIt_118 (by decide) ?_
        refine md_ald_m C hW (i := 3) (by omega) dX10_seasonIt_119 ?_
        refine r_eq (y := (nI ((s0 + 1) % 4))) (by show upd mm _ _ _ = _; rw [pk_un (by omega)]; exact e3) ?_
        refine r_ifneN hx hb (a := ((s0 + 1) % 4)) (by omega) (tgt := 143) dX10_seasonIt_120 (by decide) (fun c_120 => ?_) (fun c_120 => ?_)
        · refine lv_iconst (v := nI 0) hx hb dX10_seasonIt_143 (by decide) ?_
          refine r_iaddN hx hb (a := (thM mm i)) (b := 0) dX10_seasonIt_144 ?_
          refine md_ast_m C hW (i := 11 + 3 * i + 1) (by omega) dX10_seasonIt_145 (fun H locs hW => ?_)
          refine lv_iinc (v := (nI (i + 1))) (lv' := [(2, .int (nI (i + 1))), (0, .ref (ad 0)), (1, .int (byF ((s0 + 1) % 4)))]) hx hb dX10_seasonIt_146 hl (k := 2) rfl (nI_1 _) (by decide) rfl (fun ls hl => ?_)
          refine lv_goto (tgt := 63) hx hb dX10_seasonIt_149 (by decide) ?_
          exact ih_63 ((seaF ((s0 + 1) % 4) (upd (S 0) 3 (nI ((s0 + 1) % 4))) (i + 1)), (i + 1)) _ _ _ (by dsimp only; omega) ⟨_, rfl, lv_sub hl [1, 2, 0] rfl, (by rw [sr_sr, sr_sr] at hW; unfold seaF; rw [← hv]; unfold taddN; rw [if_neg (fun z => c_120 z.1)]; exact hW), ⟨rfl, by (try dsimp only); omega⟩⟩
        · refine lv_aload_n hx hb dX10_seasonIt_123 rfl (lv_at hl 0 rfl) ?_
          refine md_geta_m C hW dX10_seasonIt_124 ?_
          refine lv_iload_n hx hb dX10_seasonIt_127 rfl (lv_at hl 2 rfl) ?_
          refine md_calls C hml hl.1 (As := [.int (nI i)]) (rest := [.ref (ad 1), .int (nI (thM mm i)), .int (nI (11 + 3 * i + 1)), .ref (ad 1)]) (m_hedgeAt l i) gT_hedgeAt hd_hedgeAt rfl ⟨Nat.le_of_ble_eq_true rfl, Nat.le_of_ble_eq_true rfl⟩ ⟨Nat.le_refl _, Nat.le_refl _⟩ rfl (Nat.le_of_ble_eq_true rfl) dX10_seasonIt_128 (fun r_128 hq => ?_)
          subst hq
          refine lv_iconst (v := nI 1) hx hb dX10_seasonIt_131 (by decide) ?_
          refine r_iaddN hx hb (a := (11 + 3 * i)) (b := 1) dX10_seasonIt_132 ?_
          refine md_ald_m C hW (i := 11 + 3 * i + 1) (by omega) dX10_seasonIt_133 ?_
          refine r_eq (y := (nI (thM mm i))) (by show upd mm _ _ _ = _; rw [pk_un (by omega)]; exact (hw.2.2.2.1 i (by rw [hhm]; omega)).1) ?_
          refine lv_bipush (v := nI 9) hx hb dX10_seasonIt_134 (by decide) ?_
          refine r_geN hx hb (a := (thM mm i)) (b := 9) (by have := (hw.2.2.2.1 i (by rw [hhm]; omega)).2; omega) (by have := (hw.2.2.2.1 i (by rw [hhm]; omega)).2; omega) (tgt := 143) dX10_seasonIt_136 (by decide) (fun c_136 => ?_) (fun c_136 => ?_)
          · refine lv_iconst (v := nI 0) hx hb dX10_seasonIt_143 (by decide) ?_
            refine r_iaddN hx hb (a := (thM mm i)) (b := 0) dX10_seasonIt_144 ?_
            refine md_ast_m C hW (i := 11 + 3 * i + 1) (by omega) dX10_seasonIt_145 (fun H locs hW => ?_)
            refine lv_iinc (v := (nI (i + 1))) (lv' := [(2, .int (nI (i + 1))), (0, .ref (ad 0)), (1, .int (byF ((s0 + 1) % 4)))]) hx hb dX10_seasonIt_146 hl (k := 2) rfl (nI_1 _) (by decide) rfl (fun ls hl => ?_)
            refine lv_goto (tgt := 63) hx hb dX10_seasonIt_149 (by decide) ?_
            exact ih_63 ((seaF ((s0 + 1) % 4) (upd (S 0) 3 (nI ((s0 + 1) % 4))) (i + 1)), (i + 1)) _ _ _ (by dsimp only; omega) ⟨_, rfl, lv_sub hl [1, 2, 0] rfl, (by rw [sr_sr, sr_sr] at hW; unfold seaF; rw [← hv]; unfold taddN; rw [if_neg (fun z => by have := z.2; omega)]; exact hW), ⟨rfl, by (try dsimp only); omega⟩⟩
          · refine lv_iconst (v := nI 1) hx hb dX10_seasonIt_139 (by decide) ?_
            refine lv_goto (tgt := 144) hx hb dX10_seasonIt_140 (by decide) ?_
            refine r_iaddN hx hb (a := (thM mm i)) (b := 1) dX10_seasonIt_144 ?_
            refine md_ast_m C hW (i := 11 + 3 * i + 1) (by omega) dX10_seasonIt_145 (fun H locs hW => ?_)
            refine lv_iinc (v := (nI (i + 1))) (lv' := [(2, .int (nI (i + 1))), (0, .ref (ad 0)), (1, .int (byF ((s0 + 1) % 4)))]) hx hb dX10_seasonIt_146 hl (k := 2) rfl (nI_1 _) (by decide) rfl (fun ls hl => ?_)
            refine lv_goto (tgt := 63) hx hb dX10_seasonIt_149 (by decide) ?_
            exact ih_63 ((seaF ((s0 + 1) % 4) (upd (S 0) 3 (nI ((s0 + 1) % 4))) (i + 1)), (i + 1)) _ _ _ (by dsimp only; omega) ⟨_, rfl, lv_sub hl [1, 2, 0] rfl, (by rw [sr_sr, sr_sr] at hW; unfold seaF; rw [← hv]; unfold taddN; rw [if_pos ⟨c_120, by omega⟩]; exact hW), ⟨rfl, by (try dsimp only); omega⟩⟩
  · refine lv_iconst (v := nI 4) hx hb dX10_seasonIt_25 (by decide) ?_
    refine lv_goto (tgt := 60) hx hb dX10_seasonIt_26 (by decide) ?_
    refine r_eq (y := byF ((s0 + 1) % 4)) (by unfold byF; rw [if_pos c_22]) ?_
    refine lv_istore_n (lv' := [(1, .int (byF ((s0 + 1) % 4))), (0, .ref (ad 0))]) hx hb dX10_seasonIt_60 rfl hl (by decide) rfl (fun ls hl => ?_)
    refine lv_iconst (v := nI 0) hx hb dX10_seasonIt_61 (by decide) ?_
    refine lv_istore_n (lv' := [(2, .int (nI 0)), (1, .int (byF ((s0 + 1) % 4))), (0, .ref (ad 0))]) hx hb dX10_seasonIt_62 rfl hl (by decide) rfl (fun ls hl => ?_)
    refine W_loopH (σ := (Nat → Int32) × Nat) (fun z_ => hM (S 0) - z_.2) (fun z_ H locs g => ∃ ls, g = F0 m 63 ls [] ∧ lv_has ls 3 [(0, .ref (ad 0)), (1, .int (byF ((s0 + 1) % 4))), (2, .int (nI z_.2))] ∧ MdB D aT ad (sr S 0 z_.1) A s.heap H locs ∧ (z_.1 = seaF ((s0 + 1) % 4) (upd (S 0) 3 (nI ((s0 + 1) % 4))) z_.2 ∧ z_.2 ≤ hM (S 0))) ?_ ((upd (S 0) 3 (nI ((s0 + 1) % 4))), 0) _ ⟨_, rfl, lv_sub hl [2, 1, 0] rfl, (by rw [show nI ((s0 + 1) % 4) = nI ((s0 + 1) % 4) from rfl] at hW; exact hW), ⟨rfl, Nat.zero_le _⟩⟩
    clear hW hl
    rintro ⟨mm, i⟩ H locs g ⟨ls, rfl, hl, hW, hv, hih⟩ ih_63
    dsimp only at hl hW hv hih ⊢
    obtain ⟨hw, hhm, hfix⟩ : seaOk (upd (S 0) 3 (nI ((s0 + 1) % 4))) mm := by rw [hv]; exact seaF_ok hH1 i (by rw [hh1]; exact hih)
    rw [hh1] at hhm
    have e3 : mm 3 = nI ((s0 + 1) % 4) := by rw [hfix 3 (by omega), pk_us]
    have h6 : hM (S 0) ≤ 6 := hH.2.1
    refine lv_iload_n hx hb dX10_seasonIt_63 rfl (lv_at hl 2 rfl) ?_
    refine lv_aload_n hx hb dX10_seasonIt_64 rfl (lv_at hl 0 rfl) ?_
    refine md_geta_m C hW dX10_seasonIt_65 ?_
    refine lv_iconst (v := nI 0) hx hb dX10_seasonIt_68 (by decide) ?_
    refine md_ald_m C hW (i := 0) (by omega) dX10_seasonIt_69 ?_
    refine r_eq (y := (nI (hM (S 0)))) (by show mm 0 = _; rw [← hhm]; exact hw.1) ?_
    refine r_geN hx hb (a := i) (b := (hM (S 0))) (by omega) (by omega) (tgt := 152) dX10_seasonIt_70 (by decide) (fun c_70 => ?_) (fun c_70 => ?_)
    · refine lv_aload_n hx hb dX10_seasonIt_152 rfl (lv_at hl 0 rfl) ?_
      refine md_geta_m C hW dX10_seasonIt_153 ?_
      refine lv_iconst (v := nI 3) hx hb dX10_seasonIt_156 (by decide) ?_
      refine md_ald_m C hW (i := 3) (by omega) dX10_seasonIt_157 ?_
      refine r_eq (y := (nI ((s0 + 1) % 4))) (by show mm 3 = _; exact e3) ?_
      exact md_iret C hr hlocks rfl hW (⟨rfl, by rw [hv, show i = hM (S 0) by omega]⟩) dX10_seasonIt_158
    · refine lv_aload_n hx hb dX10_seasonIt_73 rfl (lv_at hl 0 rfl) ?_
      refine md_geta_m C hW dX10_seasonIt_74 ?_
      refine lv_iload_n hx hb dX10_seasonIt_77 rfl (lv_at hl 2 rfl) ?_
      refine md_calls C hml hl.1 (As := [.int (nI i)]) (rest := [.ref (ad 1)]) (m_hedgeAt l i) gT_hedgeAt hd_hedgeAt rfl ⟨Nat.le_of_ble_eq_true rfl, Nat.le_of_ble_eq_true rfl⟩ ⟨Nat.le_refl _, Nat.le_refl _⟩ rfl (Nat.le_of_ble_eq_true rfl) dX10_seasonIt_78 (fun r_78 hq => ?_)
      subst hq
      refine lv_iconst (v := nI 1) hx hb dX10_seasonIt_81 (by decide) ?_
      refine lv_bipush (v := nI 99) hx hb dX10_seasonIt_82 (by decide) ?_
      refine lv_aload_n hx hb dX10_seasonIt_84 rfl (lv_at hl 0 rfl) ?_
      refine md_geta_m C hW dX10_seasonIt_85 ?_
      refine lv_iload_n hx hb dX10_seasonIt_88 rfl (lv_at hl 2 rfl) ?_
      refine md_calls C hml hl.1 (As := [.int (nI i)]) (rest := [.ref (ad 1), .int (nI 99), .int (nI 1), .int (nI (11 + 3 * i)), .ref (ad 1)]) (m_hedgeAt l i) gT_hedgeAt hd_hedgeAt rfl ⟨Nat.le_of_ble_eq_true rfl, Nat.le_of_ble_eq_true rfl⟩ ⟨Nat.le_refl _, Nat.le_refl _⟩ rfl (Nat.le_of_ble_eq_true rfl) dX10_seasonIt_89 (fun r_89 hq => ?_)
      subst hq
      refine md_ald_m C hW (i := (11 + 3 * i)) (by omega) dX10_seasonIt_92 ?_
      refine r_eq (y := (nI (lvM mm i))) (by show mm _ = _; exact (hw.2.2.1 i (by rw [hhm]; omega)).1) ?_
      refine lv_iload_n hx hb dX10_seasonIt_93 rfl (lv_at hl 1 rfl) ?_
      refine lv_iadd hx hb dX10_seasonIt_94 ?_
      refine md_min C hml hl.1 gk_min ⟨Nat.le_of_ble_eq_true rfl, Nat.le_of_ble_eq_true rfl, Nat.le_of_ble_eq_true rfl⟩ ⟨Nat.le_refl _, Nat.le_refl _⟩ dX10_seasonIt_95 ?_
      refine md_max C hml hl.1 gk_max ⟨Nat.le_of_ble_eq_true rfl, Nat.le_of_ble_eq_true rfl, Nat.le_of_ble_eq_true rfl⟩ ⟨Nat.le_refl _, Nat.le_refl _⟩ dX10_seasonIt_98 ?_
      refine r_eq (y := (nI (leafN ((s0 + 1) % 4) (lvM mm i)))) (clp_eq _ (by omega) _ (by have := ((hw.2.2.1 i (by rw [hhm]; omega)).2).2; omega) ((hw.2.2.1 i (by rw [hhm]; omega)).2).1) ?_
      refine md_ast_m C hW (i := (11 + 3 * i)) (by omega) dX10_seasonIt_101 (fun H locs hW => ?_)
      refine lv_aload_n hx hb dX10_seasonIt_102 rfl (lv_at hl 0 rfl) ?_
      refine md_geta_m C hW dX10_seasonIt_103 ?_
      refine lv_iload_n hx hb dX10_seasonIt_106 rfl (lv_at hl 2 rfl) ?_
      refine md_calls C hml hl.1 (As := [.int (nI i)]) (rest := [.ref (ad 1)]) (m_hedgeAt l i) gT_hedgeAt hd_hedgeAt rfl ⟨Nat.le_of_ble_eq_true rfl, Nat.le_of_ble_eq_true rfl⟩ ⟨Nat.le_refl _, Nat.le_refl _⟩ rfl (Nat.le_of_ble_eq_true rfl) dX10_seasonIt_107 (fun r_107 hq => ?_)
      subst hq
      refine lv_iconst (v := nI 1) hx hb dX10_seasonIt_110 (by decide) ?_
      refine r_iaddN hx hb (a := (11 + 3 * i)) (b := 1) dX10_seasonIt_111 ?_
      refine lv_dup2_11 hx hb dX10_seasonIt_112 rfl rfl ?_
      refine md_ald_m C hW (i := 11 + 3 * i + 1) (by omega) dX10_seasonIt_113 ?_
      refine r_eq (y := (nI (thM mm i))) (by show upd mm _ _ _ = _; rw [pk_un (by omega)]; exact (hw.2.2.2.1 i (by rw [hhm]; omega)).1) ?_
      refine lv_aload_n hx hb dX10_seasonIt_114 rfl (lv_at hl 0 rfl) ?_
      refine md_geta_m C hW dX10_seasonIt_115 ?_
      refine lv_iconst (v := nI 3) hx hb dX10_seasonIt_118 (by decide) ?_
      refine md_ald_m C hW (i := 3) (by omega) dX10_seasonIt_119 ?_
      refine r_eq (y := (nI ((s0 + 1) % 4))) (by show upd mm _ _ _ = _; rw [pk_un (by omega)]; exact e3) ?_
      refine r_ifneN hx hb (a := ((s0 + 1) % 4)) (by omega) (tgt := 143) dX10_seasonIt_120 (by decide) (fun c_120 => ?_) (fun c_120 => ?_)
      · refine lv_iconst (v := nI 0) hx hb dX10_seasonIt_143 (by decide) ?_
        refine r_iaddN hx hb (a := (thM mm i)) (b := 0) dX10_seasonIt_144 ?_
        refine md_ast_m C hW (i := 11 + 3 * i + 1) (by omega) dX10_seasonIt_145 (fun H locs hW => ?_)
        refine lv_iinc (v := (nI (i + 1))) (lv' := [(2, .int (nI (i + 1))), (0, .ref (ad 0)), (1, .int (byF ((s0 + 1) % 4)))]) hx hb dX10_seasonIt_146 hl (k := 2) rfl (nI_1 _) (by decide) rfl (fun ls hl => ?_)
        refine lv_goto (tgt := 63) hx hb dX10_seasonIt_149 (by decide) ?_
        exact ih_63 ((seaF ((s0 + 1) % 4) (upd (S 0) 3 (nI ((s0 + 1) % 4))) (i + 1)), (i + 1)) _ _ _ (by dsimp only; omega) ⟨_, rfl, lv_sub hl [1, 2, 0] rfl, (by rw [sr_sr, sr_sr] at hW; unfold seaF; rw [← hv]; unfold taddN; rw [if_neg (fun z => c_120 z.1)]; exact hW), ⟨rfl, by (try dsimp only); omega⟩⟩
      · refine lv_aload_n hx hb dX10_seasonIt_123 rfl (lv_at hl 0 rfl) ?_
        refine md_geta_m C hW dX10_seasonIt_124 ?_
        refine lv_iload_n hx hb dX10_seasonIt_127 rfl (lv_at hl 2 rfl) ?_
        refine md_calls C hml hl.1 (As := [.int (nI i)]) (rest := [.ref (ad 1), .int (nI (thM mm i)), .int (nI (11 + 3 * i + 1)), .ref (ad 1)]) (m_hedgeAt l i) gT_hedgeAt hd_hedgeAt rfl ⟨Nat.le_of_ble_eq_true rfl, Nat.le_of_ble_eq_true rfl⟩ ⟨Nat.le_refl _, Nat.le_refl _⟩ rfl (Nat.le_of_ble_eq_true rfl) dX10_seasonIt_128 (fun r_128 hq => ?_)
        subst hq
        refine lv_iconst (v := nI 1) hx hb dX10_seasonIt_131 (by decide) ?_
        refine r_iaddN hx hb (a := (11 + 3 * i)) (b := 1) dX10_seasonIt_132 ?_
        refine md_ald_m C hW (i := 11 + 3 * i + 1) (by omega) dX10_seasonIt_133 ?_
        refine r_eq (y := (nI (thM mm i))) (by show upd mm _ _ _ = _; rw [pk_un (by omega)]; exact (hw.2.2.2.1 i (by rw [hhm]; omega)).1) ?_
        refine lv_bipush (v := nI 9) hx hb dX10_seasonIt_134 (by decide) ?_
        refine r_geN hx hb (a := (thM mm i)) (b := 9) (by have := (hw.2.2.2.1 i (by rw [hhm]; omega)).2; omega) (by have := (hw.2.2.2.1 i (by rw [hhm]; omega)).2; omega) (tgt := 143) dX10_seasonIt_136 (by decide) (fun c_136 => ?_) (fun c_136 => ?_)
        · refine lv_iconst (v := nI 0) hx hb dX10_seasonIt_143 (by decide) ?_
          refine r_iaddN hx hb (a := (thM mm i)) (b := 0) dX10_seasonIt_144 ?_
          refine md_ast_m C hW (i := 11 + 3 * i + 1) (by omega) dX10_seasonIt_145 (fun H locs hW => ?_)
          refine lv_iinc (v := (nI (i + 1))) (lv' := [(2, .int (nI (i + 1))), (0, .ref (ad 0)), (1, .int (byF ((s0 + 1) % 4)))]) hx hb dX10_seasonIt_146 hl (k := 2) rfl (nI_1 _) (by decide) rfl (fun ls hl => ?_)
          refine lv_goto (tgt := 63) hx hb dX10_seasonIt_149 (by decide) ?_
          exact ih_63 ((seaF ((s0 + 1) % 4) (upd (S 0) 3 (nI ((s0 + 1) % 4))) (i + 1)), (i + 1)) _ _ _ (by dsimp only; omega) ⟨_, rfl, lv_sub hl [1, 2, 0] rfl, (by rw [sr_sr, sr_sr] at hW; unfold seaF; rw [← hv]; unfold taddN; rw [if_neg (fun z => by have := z.2; omega)]; exact hW), ⟨rfl, by (try dsimp only); omega⟩⟩
        · refine lv_iconst (v := nI 1) hx hb dX10_seasonIt_139 (by decide) ?_
          refine lv_goto (tgt := 144) hx hb dX10_seasonIt_140 (by decide) ?_
          refine r_iaddN hx hb (a := (thM mm i)) (b := 1) dX10_seasonIt_144 ?_
          refine md_ast_m C hW (i := 11 + 3 * i + 1) (by omega) dX10_seasonIt_145 (fun H locs hW => ?_)
          refine lv_iinc (v := (nI (i + 1))) (lv' := [(2, .int (nI (i + 1))), (0, .ref (ad 0)), (1, .int (byF ((s0 + 1) % 4)))]) hx hb dX10_seasonIt_146 hl (k := 2) rfl (nI_1 _) (by decide) rfl (fun ls hl => ?_)
          refine lv_goto (tgt := 63) hx hb dX10_seasonIt_149 (by decide) ?_
          exact ih_63 ((seaF ((s0 + 1) % 4) (upd (S 0) 3 (nI ((s0 + 1) % 4))) (i + 1)), (i + 1)) _ _ _ (by dsimp only; omega) ⟨_, rfl, lv_sub hl [1, 2, 0] rfl, (by rw [sr_sr, sr_sr] at hW; unfold seaF; rw [← hv]; unfold taddN; rw [if_pos ⟨c_120, by omega⟩]; exact hW), ⟨rfl, by (try dsimp only); omega⟩⟩
end
section
/-- the state when a changing call begins; when it has failed; when it has changed the row -/
def begS (S : MSt) : MSt := sr (ss S 8 (nI 0)) 1 (cpyF (S 1) (S 0) 77)
def faiS (S : MSt) (t : Nat) : MSt := ss (begS S) 8 (nI t)
def chgS (S : MSt) (m : Nat → Int32) (ch : Nat) : MSt := ss (sr (sr (begS S) 0 m) 3 (pstF (S 3) (begS S 1) ch)) 5 (nI (min ch 7 + 1))
def c16 (x : Int32) : Int32 := (x.toUInt32 % 65536).toInt32
theorem dX10_addHedge_0 : decode cX10_addHedge 0 = .ok (.aload_n 0, 1) := by decide +kernel
theorem dX10_addHedge_1 : decode cX10_addHedge 1 = .ok (.invokevirtual 104, 3) := by decide +kernel
theorem dX10_addHedge_4 : decode cX10_addHedge 4 = .ok (.aload_n 0, 1) := by decide +kernel
theorem dX10_addHedge_5 : decode cX10_addHedge 5 = .ok (.aload_n 0, 1) := by decide +kernel
theorem dX10_addHedge_6 : decode cX10_addHedge 6 = .ok (.iload_n 1, 1) := by decide +kernel
theorem dX10_addHedge_7 : decode cX10_addHedge 7 = .ok (.iload_n 2, 1) := by decide +kernel
theorem dX10_addHedge_8 : decode cX10_addHedge 8 = .ok (.iload_n 3, 1) := by decide +kernel
theorem dX10_addHedge_9 : decode cX10_addHedge 9 = .ok (.invokevirtual 107, 3) := by decide +kernel
theorem dX10_addHedge_12 : decode cX10_addHedge 12 = .ok (.invokevirtual 111, 3) := by decide +kernel
theorem dX10_addHedge_15 : decode cX10_addHedge 15 = .ok (.ireturn, 1) := by decide +kernel
set_option maxHeartbeats 1000000 in
set_option maxRecDepth 20000 in
theorem m_addHedge (l : Launch) (D : va_G) (aT : Nat → ClassId) (ad : Nat → Nat) (S : MSt) (x y z : Int32) (h : Nat) (hn : S 0 0 = nI h) (h6 : h ≤ 6) (ch : Nat) (hch : S 13 5 = nI ch) (hc8 : ch ≤ 8) : MdI l yX10_addHedge cX10_addHedge 4 .int 2 49 D aT ad [.ref (ad 0), .int x, .int y, .int z] S (fun r S1 => ((rgB 1 99 x && rgB 0 9 y && rgB 0 9 z) = false ∧ r = -1 ∧ S1 = faiS S 1) ∨ ((rgB 1 99 x && rgB 0 9 y && rgB 0 9 z) = true ∧ h = 6 ∧ r = -1 ∧ S1 = faiS S 2) ∨ ((rgB 1 99 x && rgB 0 9 y && rgB 0 9 z) = true ∧ h < 6 ∧ r = nI h ∧ S1 = chgS S (hedgeF (S 0) h x y z) ch)) := by
  refine MdI.of (by decide +kernel) rfl (Nat.le_of_ble_eq_true rfl) ?_
  intro p e s m below meth c A ls C hml hl hA hr hlocks hW
  have hl : lv_has ls 4 [(0, .ref (ad 0)), (1, .int x), (2, .int y), (3, .int z)] := hl
  have hx := C.1
  have hb := C.2.1
  refine lv_aload_n hx hb dX10_addHedge_0 rfl (lv_at hl 0 rfl) ?_
  refine md_callv C hml hl.1 (As := []) (rest := []) (m_starts l D aT ad S) gT_starts hd_starts rfl ⟨Nat.le_of_ble_eq_true rfl, Nat.le_of_ble_eq_true rfl⟩ ⟨Nat.le_refl _, Nat.le_refl _⟩ hW hA rfl (Nat.le_of_ble_eq_true rfl) dX10_addHedge_1 (fun S_1 H locs hq hW => ?_)
  subst hq
  have hW : MdB D aT ad (begS S) A s.heap H locs := hW
  refine lv_aload_n hx hb dX10_addHedge_4 rfl (lv_at hl 0 rfl) ?_
  refine lv_aload_n hx hb dX10_addHedge_5 rfl (lv_at hl 0 rfl) ?_
  refine lv_iload_n hx hb dX10_addHedge_6 rfl (lv_at hl 1 rfl) ?_
  refine lv_iload_n hx hb dX10_addHedge_7 rfl (lv_at hl 2 rfl) ?_
  refine lv_iload_n hx hb dX10_addHedge_8 rfl (lv_at hl 3 rfl) ?_
  refine md_calli C hml hl.1 (As := [.int x, .int y, .int z]) (rest := [.ref (ad 0)]) (m_hedgeIt l D aT ad (begS S) x y z h hn h6) gT_hedgeIt hd_hedgeIt rfl ⟨Nat.le_of_ble_eq_true rfl, Nat.le_of_ble_eq_true rfl⟩ ⟨Nat.le_refl _, Nat.le_refl _⟩ hW hA rfl (Nat.le_of_ble_eq_true rfl) dX10_addHedge_9 (fun r_9 S_9 H locs hq hW => ?_)
  rcases hq with ⟨h1, rfl, rfl⟩ | ⟨h1, h2, rfl, rfl⟩ | ⟨h1, h2, rfl, rfl⟩
  · refine md_calli C hml hl.1 (As := [.int (-1)]) (rest := []) (m_changed l D aT ad (ss (begS S) 8 (nI 1)) ((-1)) 1 ch (ss_s _ _ _) (by decide) hch hc8) gT_changed hd_changed rfl ⟨Nat.le_of_ble_eq_true rfl, Nat.le_of_ble_eq_true rfl⟩ ⟨Nat.le_refl _, Nat.le_refl _⟩ hW hA rfl (Nat.le_of_ble_eq_true rfl) dX10_addHedge_12 (fun r_12 S_12 H locs hq hW => ?_)
    obtain ⟨rfl, rfl⟩ := hq
    have hW : MdB D aT ad (faiS S 1) A s.heap H locs := by rw [if_neg (by decide)] at hW; exact hW
    exact md_iret C hr hlocks rfl hW (Or.inl ⟨h1, rfl, rfl⟩) dX10_addHedge_15
  · refine md_calli C hml hl.1 (As := [.int (-1)]) (rest := []) (m_changed l D aT ad (ss (begS S) 8 (nI 2)) ((-1)) 2 ch (ss_s _ _ _) (by decide) hch hc8) gT_changed hd_changed rfl ⟨Nat.le_of_ble_eq_true rfl, Nat.le_of_ble_eq_true rfl⟩ ⟨Nat.le_refl _, Nat.le_refl _⟩ hW hA rfl (Nat.le_of_ble_eq_true rfl) dX10_addHedge_12 (fun r_12 S_12 H locs hq hW => ?_)
    obtain ⟨rfl, rfl⟩ := hq
    have hW : MdB D aT ad (faiS S 2) A s.heap H locs := by rw [if_neg (by decide)] at hW; exact hW
    exact md_iret C hr hlocks rfl hW (Or.inr (Or.inl ⟨h1, h2, rfl, rfl⟩)) dX10_addHedge_15
  · refine md_calli C hml hl.1 (As := [.int (nI h)]) (rest := []) (m_changed l D aT ad (sr (begS S) 0 (hedgeF (S 0) h x y z)) ((nI h)) 0 ch (rfl) (by decide) hch hc8) gT_changed hd_changed rfl ⟨Nat.le_of_ble_eq_true rfl, Nat.le_of_ble_eq_true rfl⟩ ⟨Nat.le_refl _, Nat.le_refl _⟩ hW hA rfl (Nat.le_of_ble_eq_true rfl) dX10_addHedge_12 (fun r_12 S_12 H locs hq hW => ?_)
    obtain ⟨rfl, rfl⟩ := hq
    have hW : MdB D aT ad (chgS S (hedgeF (S 0) h x y z) ch) A s.heap H locs := by rw [if_pos rfl] at hW; exact hW
    exact md_iret C hr hlocks rfl hW (Or.inr (Or.inr ⟨h1, h2, rfl, rfl⟩)) dX10_addHedge_15
theorem dX10_propose_0 : decode cX10_propose 0 = .ok (.aload_n 0, 1) := by decide +kernel
theorem dX10_propose_1 : decode cX10_propose 1 = .ok (.invokevirtual 104, 3) := by decide +kernel
theorem dX10_propose_4 : decode cX10_propose 4 = .ok (.aload_n 0, 1) := by decide +kernel
theorem dX10_propose_5 : decode cX10_propose 5 = .ok (.aload_n 0, 1) := by decide +kernel
theorem dX10_propose_6 : decode cX10_propose 6 = .ok (.iload_n 1, 1) := by decide +kernel
theorem dX10_propose_7 : decode cX10_propose 7 = .ok (.iload_n 2, 1) := by decide +kernel
theorem dX10_propose_8 : decode cX10_propose 8 = .ok (.invokevirtual 119, 3) := by decide +kernel
theorem dX10_propose_11 : decode cX10_propose 11 = .ok (.invokevirtual 111, 3) := by decide +kernel
theorem dX10_propose_14 : decode cX10_propose 14 = .ok (.ireturn, 1) := by decide +kernel
set_option maxHeartbeats 1000000 in
set_option maxRecDepth 20000 in
theorem m_propose (l : Launch) (D : va_G) (aT : Nat → ClassId) (ad : Nat → Nat) (S : MSt) (x y : Int32) (n : Nat) (hn : S 0 2 = nI n) (h12 : n ≤ 12) (ch : Nat) (hch : S 13 5 = nI ch) (hc8 : ch ≤ 8) : MdI l yX10_propose cX10_propose 3 .int 2 47 D aT ad [.ref (ad 0), .int x, .int y] S (fun r S1 => ((rgB 0 9 x && rgB 1 20 y) = false ∧ r = -1 ∧ S1 = faiS S 1) ∨ ((rgB 0 9 x && rgB 1 20 y) = true ∧ n = 12 ∧ r = -1 ∧ S1 = faiS S 2) ∨ ((rgB 0 9 x && rgB 1 20 y) = true ∧ n < 12 ∧ r = S 0 1 ∧ S1 = chgS S (addF (S 0) n (-1) x y) ch)) := by
  refine MdI.of (by decide +kernel) rfl (Nat.le_of_ble_eq_true rfl) ?_
  intro p e s m below meth c A ls C hml hl hA hr hlocks hW
  have hl : lv_has ls 3 [(0, .ref (ad 0)), (1, .int x), (2, .int y)] := hl
  have hx := C.1
  have hb := C.2.1
  refine lv_aload_n hx hb dX10_propose_0 rfl (lv_at hl 0 rfl) ?_
  refine md_callv C hml hl.1 (As := []) (rest := []) (m_starts l D aT ad S) gT_starts hd_starts rfl ⟨Nat.le_of_ble_eq_true rfl, Nat.le_of_ble_eq_true rfl⟩ ⟨Nat.le_refl _, Nat.le_refl _⟩ hW hA rfl (Nat.le_of_ble_eq_true rfl) dX10_propose_1 (fun S_1 H locs hq hW => ?_)
  subst hq
  have hW : MdB D aT ad (begS S) A s.heap H locs := hW
  refine lv_aload_n hx hb dX10_propose_4 rfl (lv_at hl 0 rfl) ?_
  refine lv_aload_n hx hb dX10_propose_5 rfl (lv_at hl 0 rfl) ?_
  refine lv_iload_n hx hb dX10_propose_6 rfl (lv_at hl 1 rfl) ?_
  refine lv_iload_n hx hb dX10_propose_7 rfl (lv_at hl 2 rfl) ?_
  refine md_calli C hml hl.1 (As := [.int x, .int y]) (rest := [.ref (ad 0)]) (m_mainIt l D aT ad (begS S) x y n hn h12) gT_mainIt hd_mainIt rfl ⟨Nat.le_of_ble_eq_true rfl, Nat.le_of_ble_eq_true rfl⟩ ⟨Nat.le_refl _, Nat.le_refl _⟩ hW hA rfl (Nat.le_of_ble_eq_true rfl) dX10_propose_8 (fun r_8 S_8 H locs hq hW => ?_)
  rcases hq with ⟨h1, rfl, rfl⟩ | ⟨h1, h2, rfl, rfl⟩ | ⟨h1, h2, rfl, rfl⟩
  · refine md_calli C hml hl.1 (As := [.int (-1)]) (rest := []) (m_changed l D aT ad (ss (begS S) 8 (nI 1)) ((-1)) 1 ch (ss_s _ _ _) (by decide) hch hc8) gT_changed hd_changed rfl ⟨Nat.le_of_ble_eq_true rfl, Nat.le_of_ble_eq_true rfl⟩ ⟨Nat.le_refl _, Nat.le_refl _⟩ hW hA rfl (Nat.le_of_ble_eq_true rfl) dX10_propose_11 (fun r_11 S_11 H locs hq hW => ?_)
    obtain ⟨rfl, rfl⟩ := hq
    have hW : MdB D aT ad (faiS S 1) A s.heap H locs := by rw [if_neg (by decide)] at hW; exact hW
    exact md_iret C hr hlocks rfl hW (Or.inl ⟨h1, rfl, rfl⟩) dX10_propose_14
  · refine md_calli C hml hl.1 (As := [.int (-1)]) (rest := []) (m_changed l D aT ad (ss (begS S) 8 (nI 2)) ((-1)) 2 ch (ss_s _ _ _) (by decide) hch hc8) gT_changed hd_changed rfl ⟨Nat.le_of_ble_eq_true rfl, Nat.le_of_ble_eq_true rfl⟩ ⟨Nat.le_refl _, Nat.le_refl _⟩ hW hA rfl (Nat.le_of_ble_eq_true rfl) dX10_propose_11 (fun r_11 S_11 H locs hq hW => ?_)
    obtain ⟨rfl, rfl⟩ := hq
    have hW : MdB D aT ad (faiS S 2) A s.heap H locs := by rw [if_neg (by decide)] at hW; exact hW
    exact md_iret C hr hlocks rfl hW (Or.inr (Or.inl ⟨h1, h2, rfl, rfl⟩)) dX10_propose_14
  · refine md_calli C hml hl.1 (As := [.int (S 0 1)]) (rest := []) (m_changed l D aT ad (sr (begS S) 0 (addF (S 0) n (-1) x y)) ((S 0 1)) 0 ch (rfl) (by decide) hch hc8) gT_changed hd_changed rfl ⟨Nat.le_of_ble_eq_true rfl, Nat.le_of_ble_eq_true rfl⟩ ⟨Nat.le_refl _, Nat.le_refl _⟩ hW hA rfl (Nat.le_of_ble_eq_true rfl) dX10_propose_11 (fun r_11 S_11 H locs hq hW => ?_)
    obtain ⟨rfl, rfl⟩ := hq
    have hW : MdB D aT ad (chgS S (addF (S 0) n (-1) x y) ch) A s.heap H locs := by rw [if_pos rfl] at hW; exact hW
    exact md_iret C hr hlocks rfl hW (Or.inr (Or.inr ⟨h1, h2, rfl, rfl⟩)) dX10_propose_14
theorem dX10_amend_0 : decode cX10_amend 0 = .ok (.aload_n 0, 1) := by decide +kernel
theorem dX10_amend_1 : decode cX10_amend 1 = .ok (.invokevirtual 104, 3) := by decide +kernel
theorem dX10_amend_4 : decode cX10_amend 4 = .ok (.aload_n 0, 1) := by decide +kernel
theorem dX10_amend_5 : decode cX10_amend 5 = .ok (.aload_n 0, 1) := by decide +kernel
theorem dX10_amend_6 : decode cX10_amend 6 = .ok (.iload_n 1, 1) := by decide +kernel
theorem dX10_amend_7 : decode cX10_amend 7 = .ok (.iload_n 2, 1) := by decide +kernel
theorem dX10_amend_8 : decode cX10_amend 8 = .ok (.iload_n 3, 1) := by decide +kernel
theorem dX10_amend_9 : decode cX10_amend 9 = .ok (.invokevirtual 122, 3) := by decide +kernel
theorem dX10_amend_12 : decode cX10_amend 12 = .ok (.invokevirtual 111, 3) := by decide +kernel
theorem dX10_amend_15 : decode cX10_amend 15 = .ok (.ireturn, 1) := by decide +kernel
set_option maxHeartbeats 1000000 in
set_option maxRecDepth 20000 in
theorem m_amend (l : Launch) (D : va_G) (aT : Nat → ClassId) (ad : Nat → Nat) (S : MSt) (x y z : Int32) (n : Nat) (hn : S 0 2 = nI n) (h12 : n ≤ 12) (ch : Nat) (hch : S 13 5 = nI ch) (hc8 : ch ≤ 8) : MdI l yX10_amend cX10_amend 4 .int 3 67 D aT ad [.ref (ad 0), .int x, .int y, .int z] S (fun r S1 => (fnd (fun k => S 0 (29 + 4 * k)) x n = none ∧ r = -1 ∧ S1 = faiS S 1) ∨ (∃ q, fnd (fun k => S 0 (29 + 4 * k)) x n = some q ∧ (rgB 0 9 y && rgB 1 20 z) = false ∧ r = -1 ∧ S1 = faiS S 2) ∨ (∃ q, fnd (fun k => S 0 (29 + 4 * k)) x n = some q ∧ (rgB 0 9 y && rgB 1 20 z) = true ∧ n = 12 ∧ r = -1 ∧ S1 = faiS S 3) ∨ (∃ q, fnd (fun k => S 0 (29 + 4 * k)) x n = some q ∧ (rgB 0 9 y && rgB 1 20 z) = true ∧ n < 12 ∧ r = S 0 1 ∧ S1 = chgS S (addF (S 0) n x y z) ch)) := by
  refine MdI.of (by decide +kernel) rfl (Nat.le_of_ble_eq_true rfl) ?_
  intro p e s m below meth c A ls C hml hl hA hr hlocks hW
  have hl : lv_has ls 4 [(0, .ref (ad 0)), (1, .int x), (2, .int y), (3, .int z)] := hl
  have hx := C.1
  have hb := C.2.1
  refine lv_aload_n hx hb dX10_amend_0 rfl (lv_at hl 0 rfl) ?_
  refine md_callv C hml hl.1 (As := []) (rest := []) (m_starts l D aT ad S) gT_starts hd_starts rfl ⟨Nat.le_of_ble_eq_true rfl, Nat.le_of_ble_eq_true rfl⟩ ⟨Nat.le_refl _, Nat.le_refl _⟩ hW hA rfl (Nat.le_of_ble_eq_true rfl) dX10_amend_1 (fun S_1 H locs hq hW => ?_)
  subst hq
  have hW : MdB D aT ad (begS S) A s.heap H locs := hW
  refine lv_aload_n hx hb dX10_amend_4 rfl (lv_at hl 0 rfl) ?_
  refine lv_aload_n hx hb dX10_amend_5 rfl (lv_at hl 0 rfl) ?_
  refine lv_iload_n hx hb dX10_amend_6 rfl (lv_at hl 1 rfl) ?_
  refine lv_iload_n hx hb dX10_amend_7 rfl (lv_at hl 2 rfl) ?_
  refine lv_iload_n hx hb dX10_amend_8 rfl (lv_at hl 3 rfl) ?_
  refine md_calli C hml hl.1 (As := [.int x, .int y, .int z]) (rest := [.ref (ad 0)]) (m_amendIt l D aT ad (begS S) x y z n hn h12) gT_amendIt hd_amendIt rfl ⟨Nat.le_of_ble_eq_true rfl, Nat.le_of_ble_eq_true rfl⟩ ⟨Nat.le_refl _, Nat.le_refl _⟩ hW hA rfl (Nat.le_of_ble_eq_true rfl) dX10_amend_9 (fun r_9 S_9 H locs hq hW => ?_)
  rcases hq with ⟨h1, rfl, rfl⟩ | ⟨q, h1, h2, rfl, rfl⟩ | ⟨q, h1, h2, h3, rfl, rfl⟩ | ⟨q, h1, h2, h3, rfl, rfl⟩
  · refine md_calli C hml hl.1 (As := [.int (-1)]) (rest := []) (m_changed l D aT ad (ss (begS S) 8 (nI 1)) ((-1)) 1 ch (ss_s _ _ _) (by decide) hch hc8) gT_changed hd_changed rfl ⟨Nat.le_of_ble_eq_true rfl, Nat.le_of_ble_eq_true rfl⟩ ⟨Nat.le_refl _, Nat.le_refl _⟩ hW hA rfl (Nat.le_of_ble_eq_true rfl) dX10_amend_12 (fun r_12 S_12 H locs hq hW => ?_)
    obtain ⟨rfl, rfl⟩ := hq
    have hW : MdB D aT ad (faiS S 1) A s.heap H locs := by rw [if_neg (by decide)] at hW; exact hW
    exact md_iret C hr hlocks rfl hW (Or.inl ⟨h1, rfl, rfl⟩) dX10_amend_15
  · refine md_calli C hml hl.1 (As := [.int (-1)]) (rest := []) (m_changed l D aT ad (ss (begS S) 8 (nI 2)) ((-1)) 2 ch (ss_s _ _ _) (by decide) hch hc8) gT_changed hd_changed rfl ⟨Nat.le_of_ble_eq_true rfl, Nat.le_of_ble_eq_true rfl⟩ ⟨Nat.le_refl _, Nat.le_refl _⟩ hW hA rfl (Nat.le_of_ble_eq_true rfl) dX10_amend_12 (fun r_12 S_12 H locs hq hW => ?_)
    obtain ⟨rfl, rfl⟩ := hq
    have hW : MdB D aT ad (faiS S 2) A s.heap H locs := by rw [if_neg (by decide)] at hW; exact hW
    exact md_iret C hr hlocks rfl hW (Or.inr (Or.inl ⟨q, h1, h2, rfl, rfl⟩)) dX10_amend_15
  · refine md_calli C hml hl.1 (As := [.int (-1)]) (rest := []) (m_changed l D aT ad (ss (begS S) 8 (nI 3)) ((-1)) 3 ch (ss_s _ _ _) (by decide) hch hc8) gT_changed hd_changed rfl ⟨Nat.le_of_ble_eq_true rfl, Nat.le_of_ble_eq_true rfl⟩ ⟨Nat.le_refl _, Nat.le_refl _⟩ hW hA rfl (Nat.le_of_ble_eq_true rfl) dX10_amend_12 (fun r_12 S_12 H locs hq hW => ?_)
    obtain ⟨rfl, rfl⟩ := hq
    have hW : MdB D aT ad (faiS S 3) A s.heap H locs := by rw [if_neg (by decide)] at hW; exact hW
    exact md_iret C hr hlocks rfl hW (Or.inr (Or.inr (Or.inl ⟨q, h1, h2, h3, rfl, rfl⟩))) dX10_amend_15
  · refine md_calli C hml hl.1 (As := [.int (S 0 1)]) (rest := []) (m_changed l D aT ad (sr (begS S) 0 (addF (S 0) n x y z)) ((S 0 1)) 0 ch (rfl) (by decide) hch hc8) gT_changed hd_changed rfl ⟨Nat.le_of_ble_eq_true rfl, Nat.le_of_ble_eq_true rfl⟩ ⟨Nat.le_refl _, Nat.le_refl _⟩ hW hA rfl (Nat.le_of_ble_eq_true rfl) dX10_amend_12 (fun r_12 S_12 H locs hq hW => ?_)
    obtain ⟨rfl, rfl⟩ := hq
    have hW : MdB D aT ad (chgS S (addF (S 0) n x y z) ch) A s.heap H locs := by rw [if_pos rfl] at hW; exact hW
    exact md_iret C hr hlocks rfl hW (Or.inr (Or.inr (Or.inr ⟨q, h1, h2, h3, rfl, rfl⟩))) dX10_amend_15
theorem dX10_prune_0 : decode cX10_prune 0 = .ok (.aload_n 0, 1) := by decide +kernel
theorem dX10_prune_1 : decode cX10_prune 1 = .ok (.invokevirtual 104, 3) := by decide +kernel
theorem dX10_prune_4 : decode cX10_prune 4 = .ok (.aload_n 0, 1) := by decide +kernel
theorem dX10_prune_5 : decode cX10_prune 5 = .ok (.aload_n 0, 1) := by decide +kernel
theorem dX10_prune_6 : decode cX10_prune 6 = .ok (.iload_n 1, 1) := by decide +kernel
theorem dX10_prune_7 : decode cX10_prune 7 = .ok (.iload_n 2, 1) := by decide +kernel
theorem dX10_prune_8 : decode cX10_prune 8 = .ok (.invokevirtual 132, 3) := by decide +kernel
theorem dX10_prune_11 : decode cX10_prune 11 = .ok (.invokevirtual 111, 3) := by decide +kernel
theorem dX10_prune_14 : decode cX10_prune 14 = .ok (.ireturn, 1) := by decide +kernel
set_option maxHeartbeats 1000000 in
set_option maxRecDepth 20000 in
theorem m_prune (l : Launch) (D : va_G) (aT : Nat → ClassId) (ad : Nat → Nat) (S : MSt) (x y : Int32) (hF : FoW (S 0)) (ch : Nat) (hch : S 13 5 = nI ch) (hc8 : ch ≤ 8) : MdI l yX10_prune cX10_prune 3 .int 5 114 D aT ad [.ref (ad 0), .int x, .int y] S (fun r S1 => (fnd (fun k => S 0 (29 + 4 * k)) x (nM (S 0)) = none ∧ r = -1 ∧ S1 = faiS S 1) ∨ (∃ q, fnd (fun k => S 0 (29 + 4 * k)) x (nM (S 0)) = some q ∧ rgB 0 9 y = false ∧ r = -1 ∧ S1 = faiS S 2) ∨ (∃ q v, fnd (fun k => S 0 (29 + 4 * k)) x (nM (S 0)) = some q ∧ y = nI v ∧ v ≤ 9 ∧ rgB 0 9 y = true ∧ r = nI (prnR (S 0) q v).2 ∧ S1 = chgS S (prnR (S 0) q v).1 ch)) := by
  refine MdI.of (by decide +kernel) rfl (Nat.le_of_ble_eq_true rfl) ?_
  intro p e s m below meth c A ls C hml hl hA hr hlocks hW
  have hl : lv_has ls 3 [(0, .ref (ad 0)), (1, .int x), (2, .int y)] := hl
  have hx := C.1
  have hb := C.2.1
  refine lv_aload_n hx hb dX10_prune_0 rfl (lv_at hl 0 rfl) ?_
  refine md_callv C hml hl.1 (As := []) (rest := []) (m_starts l D aT ad S) gT_starts hd_starts rfl ⟨Nat.le_of_ble_eq_true rfl, Nat.le_of_ble_eq_true rfl⟩ ⟨Nat.le_refl _, Nat.le_refl _⟩ hW hA rfl (Nat.le_of_ble_eq_true rfl) dX10_prune_1 (fun S_1 H locs hq hW => ?_)
  subst hq
  have hW : MdB D aT ad (begS S) A s.heap H locs := hW
  refine lv_aload_n hx hb dX10_prune_4 rfl (lv_at hl 0 rfl) ?_
  refine lv_aload_n hx hb dX10_prune_5 rfl (lv_at hl 0 rfl) ?_
  refine lv_iload_n hx hb dX10_prune_6 rfl (lv_at hl 1 rfl) ?_
  refine lv_iload_n hx hb dX10_prune_7 rfl (lv_at hl 2 rfl) ?_
  refine md_calli C hml hl.1 (As := [.int x, .int y]) (rest := [.ref (ad 0)]) (m_pruneIt l D aT ad (begS S) x y hF) gT_pruneIt hd_pruneIt rfl ⟨Nat.le_of_ble_eq_true rfl, Nat.le_of_ble_eq_true rfl⟩ ⟨Nat.le_refl _, Nat.le_refl _⟩ hW hA rfl (Nat.le_of_ble_eq_true rfl) dX10_prune_8 (fun r_8 S_8 H locs hq hW => ?_)
  rcases hq with ⟨h1, rfl, rfl⟩ | ⟨q, h1, h2, rfl, rfl⟩ | ⟨q, v, h1, h2, h9, h3, rfl, rfl⟩
  · refine md_calli C hml hl.1 (As := [.int (-1)]) (rest := []) (m_changed l D aT ad (ss (begS S) 8 (nI 1)) ((-1)) 1 ch (ss_s _ _ _) (by decide) hch hc8) gT_changed hd_changed rfl ⟨Nat.le_of_ble_eq_true rfl, Nat.le_of_ble_eq_true rfl⟩ ⟨Nat.le_refl _, Nat.le_refl _⟩ hW hA rfl (Nat.le_of_ble_eq_true rfl) dX10_prune_11 (fun r_11 S_11 H locs hq hW => ?_)
    obtain ⟨rfl, rfl⟩ := hq
    have hW : MdB D aT ad (faiS S 1) A s.heap H locs := by rw [if_neg (by decide)] at hW; exact hW
    exact md_iret C hr hlocks rfl hW (Or.inl ⟨h1, rfl, rfl⟩) dX10_prune_14
  · refine md_calli C hml hl.1 (As := [.int (-1)]) (rest := []) (m_changed l D aT ad (ss (begS S) 8 (nI 2)) ((-1)) 2 ch (ss_s _ _ _) (by decide) hch hc8) gT_changed hd_changed rfl ⟨Nat.le_of_ble_eq_true rfl, Nat.le_of_ble_eq_true rfl⟩ ⟨Nat.le_refl _, Nat.le_refl _⟩ hW hA rfl (Nat.le_of_ble_eq_true rfl) dX10_prune_11 (fun r_11 S_11 H locs hq hW => ?_)
    obtain ⟨rfl, rfl⟩ := hq
    have hW : MdB D aT ad (faiS S 2) A s.heap H locs := by rw [if_neg (by decide)] at hW; exact hW
    exact md_iret C hr hlocks rfl hW (Or.inr (Or.inl ⟨q, h1, h2, rfl, rfl⟩)) dX10_prune_14
  · refine md_calli C hml hl.1 (As := [.int (nI ((prnR (S 0) q v).2))]) (rest := []) (m_changed l D aT ad (sr (begS S) 0 ((prnR (S 0) q v).1)) ((nI ((prnR (S 0) q v).2))) 0 ch (rfl) (by decide) hch hc8) gT_changed hd_changed rfl ⟨Nat.le_of_ble_eq_true rfl, Nat.le_of_ble_eq_true rfl⟩ ⟨Nat.le_refl _, Nat.le_refl _⟩ hW hA rfl (Nat.le_of_ble_eq_true rfl) dX10_prune_11 (fun r_11 S_11 H locs hq hW => ?_)
    obtain ⟨rfl, rfl⟩ := hq
    have hW : MdB D aT ad (chgS S ((prnR (S 0) q v).1) ch) A s.heap H locs := by rw [if_pos rfl] at hW; exact hW
    exact md_iret C hr hlocks rfl hW (Or.inr (Or.inr ⟨q, v, h1, h2, h9, h3, rfl, rfl⟩)) dX10_prune_14
theorem dX10_regrow_0 : decode cX10_regrow 0 = .ok (.aload_n 0, 1) := by decide +kernel
theorem dX10_regrow_1 : decode cX10_regrow 1 = .ok (.invokevirtual 104, 3) := by decide +kernel
theorem dX10_regrow_4 : decode cX10_regrow 4 = .ok (.aload_n 0, 1) := by decide +kernel
theorem dX10_regrow_5 : decode cX10_regrow 5 = .ok (.aload_n 0, 1) := by decide +kernel
theorem dX10_regrow_6 : decode cX10_regrow 6 = .ok (.iload_n 1, 1) := by decide +kernel
theorem dX10_regrow_7 : decode cX10_regrow 7 = .ok (.invokevirtual 141, 3) := by decide +kernel
theorem dX10_regrow_10 : decode cX10_regrow 10 = .ok (.invokevirtual 111, 3) := by decide +kernel
theorem dX10_regrow_13 : decode cX10_regrow 13 = .ok (.ireturn, 1) := by decide +kernel
set_option maxHeartbeats 1000000 in
set_option maxRecDepth 20000 in
theorem m_regrow (l : Launch) (D : va_G) (aT : Nat → ClassId) (ad : Nat → Nat) (S : MSt) (x : Int32) (hF : FoW (S 0)) (ch : Nat) (hch : S 13 5 = nI ch) (hc8 : ch ≤ 8) : MdI l yX10_regrow cX10_regrow 2 .int 6 134 D aT ad [.ref (ad 0), .int x] S (fun r S1 => (fnd (fun k => S 0 (29 + 4 * k)) x (nM (S 0)) = none ∧ r = -1 ∧ S1 = faiS S 1) ∨ (∃ q, fnd (fun k => S 0 (29 + 4 * k)) x (nM (S 0)) = some q ∧ nM (S 0) = 12 ∧ r = -1 ∧ S1 = faiS S 2) ∨ (∃ q t, fnd (fun k => S 0 (29 + 4 * k)) x (nM (S 0)) = some q ∧ nM (S 0) < 12 ∧ ltp (prM (S 0)) (nM (S 0)) q (nM (S 0)) = some t ∧ r = S 0 1 ∧ S1 = chgS S (addF (S 0) (nM (S 0)) (S 0 (29 + 4 * t)) (nI ((tnM (S 0) t + 1) % 10)) (hlfF (S 0 (29 + 4 * t + 3)))) ch)) := by
  refine MdI.of (by decide +kernel) rfl (Nat.le_of_ble_eq_true rfl) ?_
  intro p e s m below meth c A ls C hml hl hA hr hlocks hW
  have hl : lv_has ls 2 [(0, .ref (ad 0)), (1, .int x)] := hl
  have hx := C.1
  have hb := C.2.1
  refine lv_aload_n hx hb dX10_regrow_0 rfl (lv_at hl 0 rfl) ?_
  refine md_callv C hml hl.1 (As := []) (rest := []) (m_starts l D aT ad S) gT_starts hd_starts rfl ⟨Nat.le_of_ble_eq_true rfl, Nat.le_of_ble_eq_true rfl⟩ ⟨Nat.le_refl _, Nat.le_refl _⟩ hW hA rfl (Nat.le_of_ble_eq_true rfl) dX10_regrow_1 (fun S_1 H locs hq hW => ?_)
  subst hq
  have hW : MdB D aT ad (begS S) A s.heap H locs := hW
  refine lv_aload_n hx hb dX10_regrow_4 rfl (lv_at hl 0 rfl) ?_
  refine lv_aload_n hx hb dX10_regrow_5 rfl (lv_at hl 0 rfl) ?_
  refine lv_iload_n hx hb dX10_regrow_6 rfl (lv_at hl 1 rfl) ?_
  refine md_calli C hml hl.1 (As := [.int x]) (rest := [.ref (ad 0)]) (m_regrowIt l D aT ad (begS S) x hF) gT_regrowIt hd_regrowIt rfl ⟨Nat.le_of_ble_eq_true rfl, Nat.le_of_ble_eq_true rfl⟩ ⟨Nat.le_refl _, Nat.le_refl _⟩ hW hA rfl (Nat.le_of_ble_eq_true rfl) dX10_regrow_7 (fun r_7 S_7 H locs hq hW => ?_)
  rcases hq with ⟨h1, rfl, rfl⟩ | ⟨q, h1, h2, rfl, rfl⟩ | ⟨q, t, h1, h2, h3, rfl, rfl⟩
  · refine md_calli C hml hl.1 (As := [.int (-1)]) (rest := []) (m_changed l D aT ad (ss (begS S) 8 (nI 1)) ((-1)) 1 ch (ss_s _ _ _) (by decide) hch hc8) gT_changed hd_changed rfl ⟨Nat.le_of_ble_eq_true rfl, Nat.le_of_ble_eq_true rfl⟩ ⟨Nat.le_refl _, Nat.le_refl _⟩ hW hA rfl (Nat.le_of_ble_eq_true rfl) dX10_regrow_10 (fun r_10 S_10 H locs hq hW => ?_)
    obtain ⟨rfl, rfl⟩ := hq
    have hW : MdB D aT ad (faiS S 1) A s.heap H locs := by rw [if_neg (by decide)] at hW; exact hW
    exact md_iret C hr hlocks rfl hW (Or.inl ⟨h1, rfl, rfl⟩) dX10_regrow_13
  · refine md_calli C hml hl.1 (As := [.int (-1)]) (rest := []) (m_changed l D aT ad (ss (begS S) 8 (nI 2)) ((-1)) 2 ch (ss_s _ _ _) (by decide) hch hc8) gT_changed hd_changed rfl ⟨Nat.le_of_ble_eq_true rfl, Nat.le_of_ble_eq_true rfl⟩ ⟨Nat.le_refl _, Nat.le_refl _⟩ hW hA rfl (Nat.le_of_ble_eq_true rfl) dX10_regrow_10 (fun r_10 S_10 H locs hq hW => ?_)
    obtain ⟨rfl, rfl⟩ := hq
    have hW : MdB D aT ad (faiS S 2) A s.heap H locs := by rw [if_neg (by decide)] at hW; exact hW
    exact md_iret C hr hlocks rfl hW (Or.inr (Or.inl ⟨q, h1, h2, rfl, rfl⟩)) dX10_regrow_13
  · refine md_calli C hml hl.1 (As := [.int (S 0 1)]) (rest := []) (m_changed l D aT ad (sr (begS S) 0 (addF (S 0) (nM (S 0)) (S 0 (29 + 4 * t)) (nI ((tnM (S 0) t + 1) % 10)) (hlfF (S 0 (29 + 4 * t + 3))))) ((S 0 1)) 0 ch (rfl) (by decide) hch hc8) gT_changed hd_changed rfl ⟨Nat.le_of_ble_eq_true rfl, Nat.le_of_ble_eq_true rfl⟩ ⟨Nat.le_refl _, Nat.le_refl _⟩ hW hA rfl (Nat.le_of_ble_eq_true rfl) dX10_regrow_10 (fun r_10 S_10 H locs hq hW => ?_)
    obtain ⟨rfl, rfl⟩ := hq
    have hW : MdB D aT ad (chgS S (addF (S 0) (nM (S 0)) (S 0 (29 + 4 * t)) (nI ((tnM (S 0) t + 1) % 10)) (hlfF (S 0 (29 + 4 * t + 3)))) ch) A s.heap H locs := by rw [if_pos rfl] at hW; exact hW
    exact md_iret C hr hlocks rfl hW (Or.inr (Or.inr ⟨q, t, h1, h2, h3, rfl, rfl⟩)) dX10_regrow_13
theorem dX10_vote_0 : decode cX10_vote 0 = .ok (.aload_n 0, 1) := by decide +kernel
theorem dX10_vote_1 : decode cX10_vote 1 = .ok (.invokevirtual 104, 3) := by decide +kernel
theorem dX10_vote_4 : decode cX10_vote 4 = .ok (.aload_n 0, 1) := by decide +kernel
theorem dX10_vote_5 : decode cX10_vote 5 = .ok (.aload_n 0, 1) := by decide +kernel
theorem dX10_vote_6 : decode cX10_vote 6 = .ok (.iload_n 1, 1) := by decide +kernel
theorem dX10_vote_7 : decode cX10_vote 7 = .ok (.invokevirtual 157, 3) := by decide +kernel
theorem dX10_vote_10 : decode cX10_vote 10 = .ok (.invokevirtual 111, 3) := by decide +kernel
theorem dX10_vote_13 : decode cX10_vote 13 = .ok (.i2c, 1) := by decide +kernel
theorem dX10_vote_14 : decode cX10_vote 14 = .ok (.ireturn, 1) := by decide +kernel
set_option maxHeartbeats 1000000 in
set_option maxRecDepth 20000 in
theorem m_vote (l : Launch) (D : va_G) (aT : Nat → ClassId) (ad : Nat → Nat) (S : MSt) (x : Int32) (s0 : Nat) (hF : FoW (S 0)) (hH : HeW (S 0)) (hs : S 0 3 = nI s0) (hs4 : s0 < 4) (ch : Nat) (hch : S 13 5 = nI ch) (hc8 : ch ≤ 8) : MdI l yX10_vote cX10_vote 2 .char 5 112 D aT ad [.ref (ad 0), .int x] S (fun r S1 => (fnd (fun k => S 0 (29 + 4 * k)) x (nM (S 0)) = none ∧ r = c16 (-1) ∧ S1 = faiS S 1) ∨ (∃ q, fnd (fun k => S 0 (29 + 4 * k)) x (nM (S 0)) = some q ∧ (hM (S 0) = 0 ∨ tipB (prM (S 0)) q (nM (S 0)) = false) ∧ r = c16 (-1) ∧ S1 = faiS S 2) ∨ (∃ q, fnd (fun k => S 0 (29 + 4 * k)) x (nM (S 0)) = some q ∧ 0 < hM (S 0) ∧ tipB (prM (S 0)) q (nM (S 0)) = true ∧ r = c16 (nI (votC (S 0) q)) ∧ S1 = chgS S (votF (S 0) q) ch)) := by
  refine MdI.of (by decide +kernel) rfl (Nat.le_of_ble_eq_true rfl) ?_
  intro p e s m below meth c A ls C hml hl hA hr hlocks hW
  have hl : lv_has ls 2 [(0, .ref (ad 0)), (1, .int x)] := hl
  have hx := C.1
  have hb := C.2.1
  refine lv_aload_n hx hb dX10_vote_0 rfl (lv_at hl 0 rfl) ?_
  refine md_callv C hml hl.1 (As := []) (rest := []) (m_starts l D aT ad S) gT_starts hd_starts rfl ⟨Nat.le_of_ble_eq_true rfl, Nat.le_of_ble_eq_true rfl⟩ ⟨Nat.le_refl _, Nat.le_refl _⟩ hW hA rfl (Nat.le_of_ble_eq_true rfl) dX10_vote_1 (fun S_1 H locs hq hW => ?_)
  subst hq
  have hW : MdB D aT ad (begS S) A s.heap H locs := hW
  refine lv_aload_n hx hb dX10_vote_4 rfl (lv_at hl 0 rfl) ?_
  refine lv_aload_n hx hb dX10_vote_5 rfl (lv_at hl 0 rfl) ?_
  refine lv_iload_n hx hb dX10_vote_6 rfl (lv_at hl 1 rfl) ?_
  refine md_calli C hml hl.1 (As := [.int x]) (rest := [.ref (ad 0)]) (m_voteIt l D aT ad (begS S) x s0 hF hH hs hs4) gT_voteIt hd_voteIt rfl ⟨Nat.le_of_ble_eq_true rfl, Nat.le_of_ble_eq_true rfl⟩ ⟨Nat.le_refl _, Nat.le_refl _⟩ hW hA rfl (Nat.le_of_ble_eq_true rfl) dX10_vote_7 (fun r_7 S_7 H locs hq hW => ?_)
  rcases hq with ⟨h1, rfl, rfl⟩ | ⟨q, h1, h2, rfl, rfl⟩ | ⟨q, h1, h2, h3, rfl, rfl⟩
  · refine md_calli C hml hl.1 (As := [.int (-1)]) (rest := []) (m_changed l D aT ad (ss (begS S) 8 (nI 1)) ((-1)) 1 ch (ss_s _ _ _) (by decide) hch hc8) gT_changed hd_changed rfl ⟨Nat.le_of_ble_eq_true rfl, Nat.le_of_ble_eq_true rfl⟩ ⟨Nat.le_refl _, Nat.le_refl _⟩ hW hA rfl (Nat.le_of_ble_eq_true rfl) dX10_vote_10 (fun r_10 S_10 H locs hq hW => ?_)
    obtain ⟨rfl, rfl⟩ := hq
    have hW : MdB D aT ad (faiS S 1) A s.heap H locs := by rw [if_neg (by decide)] at hW; exact hW
    refine lv_i2c (v := c16 (-1)) hx hb dX10_vote_13 (rfl) ?_
    exact md_iret C hr hlocks (pk_nc _) hW (Or.inl ⟨h1, rfl, rfl⟩) dX10_vote_14
  · refine md_calli C hml hl.1 (As := [.int (-1)]) (rest := []) (m_changed l D aT ad (ss (begS S) 8 (nI 2)) ((-1)) 2 ch (ss_s _ _ _) (by decide) hch hc8) gT_changed hd_changed rfl ⟨Nat.le_of_ble_eq_true rfl, Nat.le_of_ble_eq_true rfl⟩ ⟨Nat.le_refl _, Nat.le_refl _⟩ hW hA rfl (Nat.le_of_ble_eq_true rfl) dX10_vote_10 (fun r_10 S_10 H locs hq hW => ?_)
    obtain ⟨rfl, rfl⟩ := hq
    have hW : MdB D aT ad (faiS S 2) A s.heap H locs := by rw [if_neg (by decide)] at hW; exact hW
    refine lv_i2c (v := c16 (-1)) hx hb dX10_vote_13 (rfl) ?_
    exact md_iret C hr hlocks (pk_nc _) hW (Or.inr (Or.inl ⟨q, h1, h2, rfl, rfl⟩)) dX10_vote_14
  · refine md_calli C hml hl.1 (As := [.int (nI (votC (S 0) q))]) (rest := []) (m_changed l D aT ad (sr (begS S) 0 (votF (S 0) q)) ((nI (votC (S 0) q))) 0 ch (rfl) (by decide) hch hc8) gT_changed hd_changed rfl ⟨Nat.le_of_ble_eq_true rfl, Nat.le_of_ble_eq_true rfl⟩ ⟨Nat.le_refl _, Nat.le_refl _⟩ hW hA rfl (Nat.le_of_ble_eq_true rfl) dX10_vote_10 (fun r_10 S_10 H locs hq hW => ?_)
    obtain ⟨rfl, rfl⟩ := hq
    have hW : MdB D aT ad (chgS S (votF (S 0) q) ch) A s.heap H locs := by rw [if_pos rfl] at hW; exact hW
    refine lv_i2c (v := c16 (nI (votC (S 0) q))) hx hb dX10_vote_13 (rfl) ?_
    exact md_iret C hr hlocks (pk_nc _) hW (Or.inr (Or.inr ⟨q, h1, h2, h3, rfl, rfl⟩)) dX10_vote_14
theorem dX10_passSeason_0 : decode cX10_passSeason 0 = .ok (.aload_n 0, 1) := by decide +kernel
theorem dX10_passSeason_1 : decode cX10_passSeason 1 = .ok (.invokevirtual 104, 3) := by decide +kernel
theorem dX10_passSeason_4 : decode cX10_passSeason 4 = .ok (.aload_n 0, 1) := by decide +kernel
theorem dX10_passSeason_5 : decode cX10_passSeason 5 = .ok (.aload_n 0, 1) := by decide +kernel
theorem dX10_passSeason_6 : decode cX10_passSeason 6 = .ok (.invokevirtual 163, 3) := by decide +kernel
theorem dX10_passSeason_9 : decode cX10_passSeason 9 = .ok (.invokevirtual 111, 3) := by decide +kernel
theorem dX10_passSeason_12 : decode cX10_passSeason 12 = .ok (.ireturn, 1) := by decide +kernel
set_option maxHeartbeats 1000000 in
set_option maxRecDepth 20000 in
theorem m_passSeason (l : Launch) (D : va_G) (aT : Nat → ClassId) (ad : Nat → Nat) (S : MSt) (s0 : Nat) (hH : HeW (S 0)) (hs : S 0 3 = nI s0) (hs4 : s0 < 4) (ch : Nat) (hch : S 13 5 = nI ch) (hc8 : ch ≤ 8) : MdI l yX10_passSeason cX10_passSeason 1 .int 2 46 D aT ad [.ref (ad 0)] S (fun r S1 => r = nI ((s0 + 1) % 4) ∧ S1 = chgS S (seaF ((s0 + 1) % 4) (upd (S 0) 3 (nI ((s0 + 1) % 4))) (hM (S 0))) ch) := by
  refine MdI.of (by decide +kernel) rfl (Nat.le_of_ble_eq_true rfl) ?_
  intro p e s m below meth c A ls C hml hl hA hr hlocks hW
  have hl : lv_has ls 1 [(0, .ref (ad 0))] := hl
  have hx := C.1
  have hb := C.2.1
  refine lv_aload_n hx hb dX10_passSeason_0 rfl (lv_at hl 0 rfl) ?_
  refine md_callv C hml hl.1 (As := []) (rest := []) (m_starts l D aT ad S) gT_starts hd_starts rfl ⟨Nat.le_of_ble_eq_true rfl, Nat.le_of_ble_eq_true rfl⟩ ⟨Nat.le_refl _, Nat.le_refl _⟩ hW hA rfl (Nat.le_of_ble_eq_true rfl) dX10_passSeason_1 (fun S_1 H locs hq hW => ?_)
  subst hq
  have hW : MdB D aT ad (begS S) A s.heap H locs := hW
  refine lv_aload_n hx hb dX10_passSeason_4 rfl (lv_at hl 0 rfl) ?_
  refine lv_aload_n hx hb dX10_passSeason_5 rfl (lv_at hl 0 rfl) ?_
  refine md_calli C hml hl.1 (As := []) (rest := [.ref (ad 0)]) (m_seasonIt l D aT ad (begS S) s0 hH hs hs4) gT_seasonIt hd_seasonIt rfl ⟨Nat.le_of_ble_eq_true rfl, Nat.le_of_ble_eq_true rfl⟩ ⟨Nat.le_refl _, Nat.le_refl _⟩ hW hA rfl (Nat.le_of_ble_eq_true rfl) dX10_passSeason_6 (fun r_6 S_6 H locs hq hW => ?_)
  rcases hq with ⟨rfl, rfl⟩
  · refine md_calli C hml hl.1 (As := [.int (nI ((s0 + 1) % 4))]) (rest := []) (m_changed l D aT ad (sr (begS S) 0 (seaF ((s0 + 1) % 4) (upd (S 0) 3 (nI ((s0 + 1) % 4))) (hM (S 0)))) ((nI ((s0 + 1) % 4))) 0 ch (rfl) (by decide) hch hc8) gT_changed hd_changed rfl ⟨Nat.le_of_ble_eq_true rfl, Nat.le_of_ble_eq_true rfl⟩ ⟨Nat.le_refl _, Nat.le_refl _⟩ hW hA rfl (Nat.le_of_ble_eq_true rfl) dX10_passSeason_9 (fun r_9 S_9 H locs hq hW => ?_)
    obtain ⟨rfl, rfl⟩ := hq
    have hW : MdB D aT ad (chgS S (seaF ((s0 + 1) % 4) (upd (S 0) 3 (nI ((s0 + 1) % 4))) (hM (S 0))) ch) A s.heap H locs := by rw [if_pos rfl] at hW; exact hW
    exact md_iret C hr hlocks rfl hW (⟨rfl, rfl⟩) dX10_passSeason_12
end
section
/-- whether a number is a place before h -/
def isHB (h : Nat) (x : Int32) : Bool := decide (0 ≤ x.toInt ∧ x.toInt < h)
theorem isH_eq {h : Nat} (hh : h < 1024) (x : Int32) : rgB 0 (nI h - nI 1).toInt64 x = isHB h x := by
  unfold rgB isHB
  have e : (nI h - nI 1).toInt = (h : Int) - (1 : Nat) := pk_sub_toInt (by omega) (by omega)
  have e0 : (0 : Int64).toInt = 0 := by decide
  congr 1
  rw [Int64.le_iff_toInt_le, Int64.le_iff_toInt_le, Int32.toInt_toInt64, Int32.toInt_toInt64, e, e0]
  apply propext
  constructor <;> intro h <;> omega
theorem isHB_nat {h : Nat} {x : Int32} (e : isHB h x = true) (hh : h < 1024) : ∃ i, i < h ∧ x = nI i := by
  have h1 := of_decide_eq_true e
  refine ⟨x.toInt.toNat, by omega, ?_⟩
  apply Int32.toInt_inj.mp
  rw [nI_toInt (by omega)]
  omega
theorem dz_eq {a b : Nat} (ha : a < 1024) (hb : b < 1024) : nI a - nI b = 0 ↔ a = b := by
  have e := pk_sub_toInt (a := a) (b := b) (by omega) (by omega)
  have h0 : (0 : Int32).toInt = 0 := by decide
  rw [← Int32.toInt_inj, e, h0]; omega
theorem dz_lt {a b : Nat} (ha : a < 1024) (hb : b < 1024) : 0 < nI a - nI b ↔ b < a := by
  have e := pk_sub_toInt (a := a) (b := b) (by omega) (by omega)
  have h0 : (0 : Int32).toInt = 0 := by decide
  rw [Int32.lt_iff_toInt_lt, e, h0]; omega
section IFD
variable {p : Program} {l : Launch} {e : Env} {R : Room} {s : State} {m : MethodId} {args : Array Value} {below : List Frame} {meth : Method} {c : Code} {H : Heap} {locs : List Loc} {cells slots : Nat} {Q : State → Prop} {cc : ByteArray} {pc : Nat} {ls : Array Slot} {rest : List Value}
theorem r_ifneD (hx : p.tables.exec = Jvm.exec) (hb : c.code = cc) {a b : Nat} (ha : a < 1024) (hb' : b < 1024) {off : Int} {tgt : Nat} (hdg : decode cc pc = .ok (.ifCond .ne off, 3)) (ht : (pc : Int) + off = (tgt : Int)) (kt : a ≠ b → W p l e R s m args below meth c H locs cells slots Q (F0 m tgt ls rest)) (kf : a = b → W p l e R s m args below meth c H locs cells slots Q (F0 m (pc + 3) ls rest)) : W p l e R s m args below meth c H locs cells slots Q (F0 m pc ls (.int (nI a - nI b) :: rest)) :=
  lv_if_ne hx hb hdg ht (fun h => kt (fun z => h ((dz_eq ha hb').mpr z))) (fun h => kf ((dz_eq ha hb').mp h))
theorem r_ifgtD (hx : p.tables.exec = Jvm.exec) (hb : c.code = cc) {a b : Nat} (ha : a < 1024) (hb' : b < 1024) {off : Int} {tgt : Nat} (hdg : decode cc pc = .ok (.ifCond .gt off, 3)) (ht : (pc : Int) + off = (tgt : Int)) (kt : b < a → W p l e R s m args below meth c H locs cells slots Q (F0 m tgt ls rest)) (kf : a ≤ b → W p l e R s m args below meth c H locs cells slots Q (F0 m (pc + 3) ls rest)) : W p l e R s m args below meth c H locs cells slots Q (F0 m pc ls (.int (nI a - nI b) :: rest)) :=
  lv_if_gt hx hb hdg ht (fun h => kt ((dz_lt ha hb').mp h)) (fun h => kf (Nat.not_lt.mp (fun z => h ((dz_lt ha hb').mpr z))))
end IFD
/-- whether one hedge ranks ahead of another -/
def hAh (lv th : Nat → Nat) (a b : Nat) : Bool := decide (lv b < lv a ∨ (lv a = lv b ∧ (th b < th a ∨ (th a = th b ∧ a < b))))
/-- how many of the first o are ahead of k -/
def rkN (ah : Nat → Nat → Bool) (k : Nat) : Nat → Nat
  | 0 => 0
  | o + 1 => rkN ah k o + if ah o k then 1 else 0
theorem rkN_le {ah : Nat → Nat → Bool} {k : Nat} : ∀ {o : Nat}, rkN ah k o ≤ o := by
  intro o
  induction o with
  | zero => exact Nat.le_refl _
  | succ o ih => unfold rkN; split <;> omega
/-- how many of the first i places lie in the branch of r -/
def brs (pr : Nat → Option Nat) (r : Nat) : Nat → Nat
  | 0 => 0
  | i + 1 => brs pr r i + if anc pr r i then 1 else 0
/-- the sum of the first weights -/
def smw (m : Nat → Int32) : Nat → Int32
  | 0 => nI 0
  | i + 1 => smw m i + m (29 + 4 * i + 3)
theorem dX10_thrown_0 : decode cX10_thrown 0 = .ok (.aload_n 0, 1) := by decide +kernel
theorem dX10_thrown_1 : decode cX10_thrown 1 = .ok (.getfield 57, 3) := by decide +kernel
theorem dX10_thrown_4 : decode cX10_thrown 4 = .ok (.ireturn, 1) := by decide +kernel
set_option maxHeartbeats 1000000 in
set_option maxRecDepth 20000 in
theorem m_thrown (l : Launch) (D : va_G) (aT : Nat → ClassId) (ad : Nat → Nat) (S : MSt) : MdG l yX10_thrown cX10_thrown 1 .int 0 0 D aT ad [.ref (ad 0)] S (fun r => r = S 13 8) := by
  refine MdI.of (by decide +kernel) rfl (Nat.le_of_ble_eq_true rfl) ?_
  intro p e s m below meth c A ls C hml hl hA hr hlocks hW
  have hl : lv_has ls 1 [(0, .ref (ad 0))] := hl
  have hx := C.1
  have hb := C.2.1
  refine lv_aload_n hx hb dX10_thrown_0 rfl (lv_at hl 0 rfl) ?_
  refine md_get_thrown C hW dX10_thrown_1 ?_
  exact md_iret C hr hlocks rfl hW (⟨rfl, rfl⟩) dX10_thrown_4
theorem gT_isHedge : GoodIn gw (wsV RX10 166 RX10 yX10_isHedge (Cond.code yX10_isHedge cX10_isHedge 2 (some .boolean) :: gw)) := gdV gw_1852 gw_1854 gw_45 gw_81 gw_1855
theorem hd_isHedge : yX10_isHedge.cls = RX10 ∧ yX10_isHedge.cls ≠ "java/lang/invoke/MethodHandle" ∧ yX10_isHedge.cls ≠ "java/lang/invoke/VarHandle" ∧ (parseMethodDescriptor yX10_isHedge.desc).map (fun d => d.parameters.length) = some 1 := ⟨rfl, by decide +kernel, by decide +kernel, by decide +kernel⟩
theorem dX10_isHedge_0 : decode cX10_isHedge 0 = .ok (.iload_n 1, 1) := by decide +kernel
theorem dX10_isHedge_1 : decode cX10_isHedge 1 = .ok (.i2l, 1) := by decide +kernel
theorem dX10_isHedge_2 : decode cX10_isHedge 2 = .ok (.lconst 0, 1) := by decide +kernel
theorem dX10_isHedge_3 : decode cX10_isHedge 3 = .ok (.aload_n 0, 1) := by decide +kernel
theorem dX10_isHedge_4 : decode cX10_isHedge 4 = .ok (.getfield 9, 3) := by decide +kernel
theorem dX10_isHedge_7 : decode cX10_isHedge 7 = .ok (.iconst 0, 1) := by decide +kernel
theorem dX10_isHedge_8 : decode cX10_isHedge 8 = .ok (.iaload, 1) := by decide +kernel
theorem dX10_isHedge_9 : decode cX10_isHedge 9 = .ok (.iconst 1, 1) := by decide +kernel
theorem dX10_isHedge_10 : decode cX10_isHedge 10 = .ok (.isub, 1) := by decide +kernel
theorem dX10_isHedge_11 : decode cX10_isHedge 11 = .ok (.i2l, 1) := by decide +kernel
theorem dX10_isHedge_12 : decode cX10_isHedge 12 = .ok (.invokestatic 63, 3) := by decide +kernel
theorem dX10_isHedge_15 : decode cX10_isHedge 15 = .ok (.ireturn, 1) := by decide +kernel
set_option maxHeartbeats 1000000 in
set_option maxRecDepth 20000 in
theorem m_isHedge (l : Launch) (D : va_G) (aT : Nat → ClassId) (ad : Nat → Nat) (S : MSt) (x : Int32) (hH : HeW (S 0)) : MdG l yX10_isHedge cX10_isHedge 2 .boolean 1 25 D aT ad [.ref (ad 0), .int x] S (fun r => r = bI (isHB (hM (S 0)) x)) := by
  refine MdI.of (by decide +kernel) rfl (Nat.le_of_ble_eq_true rfl) ?_
  intro p e s m below meth c A ls C hml hl hA hr hlocks hW
  have hl : lv_has ls 2 [(0, .ref (ad 0)), (1, .int x)] := hl
  have hx := C.1
  have hb := C.2.1
  refine lv_iload_n hx hb dX10_isHedge_0 rfl (lv_at hl 1 rfl) ?_
  refine lv_i2l (v := (x).toInt64) hx hb dX10_isHedge_1 rfl ?_
  refine lv_lconst (v := 0) hx hb dX10_isHedge_2 (by decide) ?_
  refine lv_aload_n hx hb dX10_isHedge_3 rfl (lv_at hl 0 rfl) ?_
  refine md_geta_m C hW dX10_isHedge_4 ?_
  refine lv_iconst (v := nI 0) hx hb dX10_isHedge_7 (by decide) ?_
  refine md_ald_m C hW (i := 0) (by omega) dX10_isHedge_8 ?_
  refine r_eq (y := (nI (hM (S 0)))) (hH.1) ?_
  refine lv_iconst (v := nI 1) hx hb dX10_isHedge_9 (by decide) ?_
  refine lv_isub hx hb dX10_isHedge_10 ?_
  refine lv_i2l (v := ((nI (hM (S 0)) - nI 1)).toInt64) hx hb dX10_isHedge_11 rfl ?_
  refine md_calls C hml hl.1 (As := [.long ((x).toInt64), .long 0, .long (((nI (hM (S 0)) - nI 1)).toInt64)]) (rest := []) (m_in l ((x).toInt64) 0 (((nI (hM (S 0)) - nI 1)).toInt64)) gT_in hd_in rfl ⟨Nat.le_of_ble_eq_true rfl, Nat.le_of_ble_eq_true rfl⟩ ⟨Nat.le_refl _, Nat.le_refl _⟩ rfl (Nat.le_of_ble_eq_true rfl) dX10_isHedge_12 (fun r_12 hq => ?_)
  subst hq
  refine r_eq (y := (bI (isHB (hM (S 0)) x))) (congrArg bI (isH_eq (by have := hH.2.1; omega) x)) ?_
  exact md_iret C hr hlocks (bI_nar _) hW (⟨rfl, rfl⟩) dX10_isHedge_15
theorem dX10_hedgeCount_0 : decode cX10_hedgeCount 0 = .ok (.aload_n 0, 1) := by decide +kernel
theorem dX10_hedgeCount_1 : decode cX10_hedgeCount 1 = .ok (.iconst 0, 1) := by decide +kernel
theorem dX10_hedgeCount_2 : decode cX10_hedgeCount 2 = .ok (.putfield 57, 3) := by decide +kernel
theorem dX10_hedgeCount_5 : decode cX10_hedgeCount 5 = .ok (.aload_n 0, 1) := by decide +kernel
theorem dX10_hedgeCount_6 : decode cX10_hedgeCount 6 = .ok (.getfield 9, 3) := by decide +kernel
theorem dX10_hedgeCount_9 : decode cX10_hedgeCount 9 = .ok (.iconst 0, 1) := by decide +kernel
theorem dX10_hedgeCount_10 : decode cX10_hedgeCount 10 = .ok (.iaload, 1) := by decide +kernel
theorem dX10_hedgeCount_11 : decode cX10_hedgeCount 11 = .ok (.ireturn, 1) := by decide +kernel
set_option maxHeartbeats 1000000 in
set_option maxRecDepth 20000 in
theorem m_hedgeCount (l : Launch) (D : va_G) (aT : Nat → ClassId) (ad : Nat → Nat) (S : MSt) (hH : HeW (S 0)) : MdI l yX10_hedgeCount cX10_hedgeCount 1 .int 0 0 D aT ad [.ref (ad 0)] S (fun r S1 => r = nI (hM (S 0)) ∧ S1 = ss S 8 (nI 0)) := by
  refine MdI.of (by decide +kernel) rfl (Nat.le_of_ble_eq_true rfl) ?_
  intro p e s m below meth c A ls C hml hl hA hr hlocks hW
  have hl : lv_has ls 1 [(0, .ref (ad 0))] := hl
  have hx := C.1
  have hb := C.2.1
  refine lv_aload_n hx hb dX10_hedgeCount_0 rfl (lv_at hl 0 rfl) ?_
  refine lv_iconst (v := nI 0) hx hb dX10_hedgeCount_1 (by decide) ?_
  refine md_put_thrown C hW dX10_hedgeCount_2 (fun H locs hW => ?_)
  refine lv_aload_n hx hb dX10_hedgeCount_5 rfl (lv_at hl 0 rfl) ?_
  refine md_geta_m C hW dX10_hedgeCount_6 ?_
  refine lv_iconst (v := nI 0) hx hb dX10_hedgeCount_9 (by decide) ?_
  refine md_ald_m C hW (i := 0) (by omega) dX10_hedgeCount_10 ?_
  refine r_eq (y := (nI (hM (S 0)))) (hH.1) ?_
  exact md_iret C hr hlocks rfl hW (⟨rfl, rfl⟩) dX10_hedgeCount_11
theorem dX10_leaves_0 : decode cX10_leaves 0 = .ok (.aload_n 0, 1) := by decide +kernel
theorem dX10_leaves_1 : decode cX10_leaves 1 = .ok (.iconst 0, 1) := by decide +kernel
theorem dX10_leaves_2 : decode cX10_leaves 2 = .ok (.putfield 57, 3) := by decide +kernel
theorem dX10_leaves_5 : decode cX10_leaves 5 = .ok (.aload_n 0, 1) := by decide +kernel
theorem dX10_leaves_6 : decode cX10_leaves 6 = .ok (.iload_n 1, 1) := by decide +kernel
theorem dX10_leaves_7 : decode cX10_leaves 7 = .ok (.invokevirtual 166, 3) := by decide +kernel
theorem dX10_leaves_10 : decode cX10_leaves 10 = .ok (.ifCond .eq 15, 3) := by decide +kernel
theorem dX10_leaves_13 : decode cX10_leaves 13 = .ok (.aload_n 0, 1) := by decide +kernel
theorem dX10_leaves_14 : decode cX10_leaves 14 = .ok (.getfield 9, 3) := by decide +kernel
theorem dX10_leaves_17 : decode cX10_leaves 17 = .ok (.iload_n 1, 1) := by decide +kernel
theorem dX10_leaves_18 : decode cX10_leaves 18 = .ok (.invokestatic 86, 3) := by decide +kernel
theorem dX10_leaves_21 : decode cX10_leaves 21 = .ok (.iaload, 1) := by decide +kernel
theorem dX10_leaves_22 : decode cX10_leaves 22 = .ok (.goto 8, 3) := by decide +kernel
theorem dX10_leaves_25 : decode cX10_leaves 25 = .ok (.aload_n 0, 1) := by decide +kernel
theorem dX10_leaves_26 : decode cX10_leaves 26 = .ok (.iconst 1, 1) := by decide +kernel
theorem dX10_leaves_27 : decode cX10_leaves 27 = .ok (.invokevirtual 101, 3) := by decide +kernel
theorem dX10_leaves_30 : decode cX10_leaves 30 = .ok (.ireturn, 1) := by decide +kernel
set_option maxHeartbeats 1000000 in
set_option maxRecDepth 20000 in
theorem m_leaves (l : Launch) (D : va_G) (aT : Nat → ClassId) (ad : Nat → Nat) (S : MSt) (x : Int32) (hH : HeW (S 0)) : MdI l yX10_leaves cX10_leaves 2 .int 2 46 D aT ad [.ref (ad 0), .int x] S (fun r S1 => (isHB (hM (S 0)) x = false ∧ r = -1 ∧ S1 = ss S 8 (nI 1)) ∨ (∃ i, i < hM (S 0) ∧ x = nI i ∧ r = nI (lvM (S 0) i) ∧ S1 = ss S 8 (nI 0))) := by
  refine MdI.of (by decide +kernel) rfl (Nat.le_of_ble_eq_true rfl) ?_
  intro p e s m below meth c A ls C hml hl hA hr hlocks hW
  have hl : lv_has ls 2 [(0, .ref (ad 0)), (1, .int x)] := hl
  have hx := C.1
  have hb := C.2.1
  refine lv_aload_n hx hb dX10_leaves_0 rfl (lv_at hl 0 rfl) ?_
  refine lv_iconst (v := nI 0) hx hb dX10_leaves_1 (by decide) ?_
  refine md_put_thrown C hW dX10_leaves_2 (fun H locs hW => ?_)
  refine lv_aload_n hx hb dX10_leaves_5 rfl (lv_at hl 0 rfl) ?_
  refine lv_iload_n hx hb dX10_leaves_6 rfl (lv_at hl 1 rfl) ?_
  refine md_callg C hml hl.1 (As := [.int x]) (rest := []) (m_isHedge l D aT ad (ss S 8 (nI 0)) (x) hH) gT_isHedge hd_isHedge rfl ⟨Nat.le_of_ble_eq_true rfl, Nat.le_of_ble_eq_true rfl⟩ ⟨Nat.le_refl _, Nat.le_refl _⟩ hW hA rfl (Nat.le_of_ble_eq_true rfl) dX10_leaves_7 (fun r_7 H locs hq hW => ?_)
  subst hq
  refine r_bI_eq hx hb (b := (isHB (hM (S 0)) x)) (tgt := 25) dX10_leaves_10 (by decide) (fun c_10 => ?_) (fun c_10 => ?_)
  · refine lv_aload_n hx hb dX10_leaves_25 rfl (lv_at hl 0 rfl) ?_
    refine lv_iconst (v := nI 1) hx hb dX10_leaves_26 (by decide) ?_
    refine md_calli C hml hl.1 (As := [.int (nI 1)]) (rest := []) (m_throwing l D aT ad (ss S 8 (nI 0)) 1) gT_throwing hd_throwing rfl ⟨Nat.le_of_ble_eq_true rfl, Nat.le_of_ble_eq_true rfl⟩ ⟨Nat.le_refl _, Nat.le_refl _⟩ hW hA rfl (Nat.le_of_ble_eq_true rfl) dX10_leaves_27 (fun r_27 S_27 H locs hq hW => ?_)
    obtain ⟨rfl, rfl⟩ := hq
    exact md_iret C hr hlocks rfl hW (Or.inl ⟨c_10, rfl, ss_ss _ _ _ _⟩) dX10_leaves_30
  · obtain ⟨i, hi, rfl⟩ := isHB_nat c_10 (by have := hH.2.1; omega)
    have h6 := hH.2.1
    refine lv_aload_n hx hb dX10_leaves_13 rfl (lv_at hl 0 rfl) ?_
    refine md_geta_m C hW dX10_leaves_14 ?_
    refine lv_iload_n hx hb dX10_leaves_17 rfl (lv_at hl 1 rfl) ?_
    refine md_calls C hml hl.1 (As := [.int (nI i)]) (rest := [.ref (ad 1)]) (m_hedgeAt l i) gT_hedgeAt hd_hedgeAt rfl ⟨Nat.le_of_ble_eq_true rfl, Nat.le_of_ble_eq_true rfl⟩ ⟨Nat.le_refl _, Nat.le_refl _⟩ rfl (Nat.le_of_ble_eq_true rfl) dX10_leaves_18 (fun r_18 hq => ?_)
    subst hq
    refine md_ald_m C hW (i := (11 + 3 * i)) (by omega) dX10_leaves_21 ?_
    refine r_eq (y := (nI (lvM (S 0) i))) ((hH.2.2.1 i (by omega)).1) ?_
    refine lv_goto (tgt := 30) hx hb dX10_leaves_22 (by decide) ?_
    exact md_iret C hr hlocks rfl hW (Or.inr ⟨i, hi, rfl, rfl, rfl⟩) dX10_leaves_30
theorem dX10_thorns_0 : decode cX10_thorns 0 = .ok (.aload_n 0, 1) := by decide +kernel
theorem dX10_thorns_1 : decode cX10_thorns 1 = .ok (.iconst 0, 1) := by decide +kernel
theorem dX10_thorns_2 : decode cX10_thorns 2 = .ok (.putfield 57, 3) := by decide +kernel
theorem dX10_thorns_5 : decode cX10_thorns 5 = .ok (.aload_n 0, 1) := by decide +kernel
theorem dX10_thorns_6 : decode cX10_thorns 6 = .ok (.iload_n 1, 1) := by decide +kernel
theorem dX10_thorns_7 : decode cX10_thorns 7 = .ok (.invokevirtual 166, 3) := by decide +kernel
theorem dX10_thorns_10 : decode cX10_thorns 10 = .ok (.ifCond .eq 17, 3) := by decide +kernel
theorem dX10_thorns_13 : decode cX10_thorns 13 = .ok (.aload_n 0, 1) := by decide +kernel
theorem dX10_thorns_14 : decode cX10_thorns 14 = .ok (.getfield 9, 3) := by decide +kernel
theorem dX10_thorns_17 : decode cX10_thorns 17 = .ok (.iload_n 1, 1) := by decide +kernel
theorem dX10_thorns_18 : decode cX10_thorns 18 = .ok (.invokestatic 86, 3) := by decide +kernel
theorem dX10_thorns_21 : decode cX10_thorns 21 = .ok (.iconst 1, 1) := by decide +kernel
theorem dX10_thorns_22 : decode cX10_thorns 22 = .ok (.iadd, 1) := by decide +kernel
theorem dX10_thorns_23 : decode cX10_thorns 23 = .ok (.iaload, 1) := by decide +kernel
theorem dX10_thorns_24 : decode cX10_thorns 24 = .ok (.goto 8, 3) := by decide +kernel
theorem dX10_thorns_27 : decode cX10_thorns 27 = .ok (.aload_n 0, 1) := by decide +kernel
theorem dX10_thorns_28 : decode cX10_thorns 28 = .ok (.iconst 1, 1) := by decide +kernel
theorem dX10_thorns_29 : decode cX10_thorns 29 = .ok (.invokevirtual 101, 3) := by decide +kernel
theorem dX10_thorns_32 : decode cX10_thorns 32 = .ok (.ireturn, 1) := by decide +kernel
set_option maxHeartbeats 1000000 in
set_option maxRecDepth 20000 in
theorem m_thorns (l : Launch) (D : va_G) (aT : Nat → ClassId) (ad : Nat → Nat) (S : MSt) (x : Int32) (hH : HeW (S 0)) : MdI l yX10_thorns cX10_thorns 2 .int 2 46 D aT ad [.ref (ad 0), .int x] S (fun r S1 => (isHB (hM (S 0)) x = false ∧ r = -1 ∧ S1 = ss S 8 (nI 1)) ∨ (∃ i, i < hM (S 0) ∧ x = nI i ∧ r = nI (thM (S 0) i) ∧ S1 = ss S 8 (nI 0))) := by
  refine MdI.of (by decide +kernel) rfl (Nat.le_of_ble_eq_true rfl) ?_
  intro p e s m below meth c A ls C hml hl hA hr hlocks hW
  have hl : lv_has ls 2 [(0, .ref (ad 0)), (1, .int x)] := hl
  have hx := C.1
  have hb := C.2.1
  refine lv_aload_n hx hb dX10_thorns_0 rfl (lv_at hl 0 rfl) ?_
  refine lv_iconst (v := nI 0) hx hb dX10_thorns_1 (by decide) ?_
  refine md_put_thrown C hW dX10_thorns_2 (fun H locs hW => ?_)
  refine lv_aload_n hx hb dX10_thorns_5 rfl (lv_at hl 0 rfl) ?_
  refine lv_iload_n hx hb dX10_thorns_6 rfl (lv_at hl 1 rfl) ?_
  refine md_callg C hml hl.1 (As := [.int x]) (rest := []) (m_isHedge l D aT ad (ss S 8 (nI 0)) (x) hH) gT_isHedge hd_isHedge rfl ⟨Nat.le_of_ble_eq_true rfl, Nat.le_of_ble_eq_true rfl⟩ ⟨Nat.le_refl _, Nat.le_refl _⟩ hW hA rfl (Nat.le_of_ble_eq_true rfl) dX10_thorns_7 (fun r_7 H locs hq hW => ?_)
  subst hq
  refine r_bI_eq hx hb (b := (isHB (hM (S 0)) x)) (tgt := 27) dX10_thorns_10 (by decide) (fun c_10 => ?_) (fun c_10 => ?_)
  · refine lv_aload_n hx hb dX10_thorns_27 rfl (lv_at hl 0 rfl) ?_
    refine lv_iconst (v := nI 1) hx hb dX10_thorns_28 (by decide) ?_
    refine md_calli C hml hl.1 (As := [.int (nI 1)]) (rest := []) (m_throwing l D aT ad (ss S 8 (nI 0)) 1) gT_throwing hd_throwing rfl ⟨Nat.le_of_ble_eq_true rfl, Nat.le_of_ble_eq_true rfl⟩ ⟨Nat.le_refl _, Nat.le_refl _⟩ hW hA rfl (Nat.le_of_ble_eq_true rfl) dX10_thorns_29 (fun r_29 S_29 H locs hq hW => ?_)
    obtain ⟨rfl, rfl⟩ := hq
    exact md_iret C hr hlocks rfl hW (Or.inl ⟨c_10, rfl, ss_ss _ _ _ _⟩) dX10_thorns_32
  · obtain ⟨i, hi, rfl⟩ := isHB_nat c_10 (by have := hH.2.1; omega)
    have h6 := hH.2.1
    refine lv_aload_n hx hb dX10_thorns_13 rfl (lv_at hl 0 rfl) ?_
    refine md_geta_m C hW dX10_thorns_14 ?_
    refine lv_iload_n hx hb dX10_thorns_17 rfl (lv_at hl 1 rfl) ?_
    refine md_calls C hml hl.1 (As := [.int (nI i)]) (rest := [.ref (ad 1)]) (m_hedgeAt l i) gT_hedgeAt hd_hedgeAt rfl ⟨Nat.le_of_ble_eq_true rfl, Nat.le_of_ble_eq_true rfl⟩ ⟨Nat.le_refl _, Nat.le_refl _⟩ rfl (Nat.le_of_ble_eq_true rfl) dX10_thorns_18 (fun r_18 hq => ?_)
    subst hq
    refine lv_iconst (v := nI 1) hx hb dX10_thorns_21 (by decide) ?_
    refine r_iaddN hx hb (a := (11 + 3 * i)) (b := 1) dX10_thorns_22 ?_
    refine md_ald_m C hW (i := 11 + 3 * i + 1) (by omega) dX10_thorns_23 ?_
    refine r_eq (y := (nI (thM (S 0) i))) ((hH.2.2.2.1 i (by omega)).1) ?_
    refine lv_goto (tgt := 32) hx hb dX10_thorns_24 (by decide) ?_
    exact md_iret C hr hlocks rfl hW (Or.inr ⟨i, hi, rfl, rfl, rfl⟩) dX10_thorns_32
theorem gT_isHedgeAhead : GoodIn gw (wsV RX10 169 RX10 yX10_isHedgeAhead (Cond.code yX10_isHedgeAhead cX10_isHedgeAhead 4 (some .boolean) :: gw)) := gdV gw_1864 gw_1866 gw_46 gw_81 gw_1867
theorem hd_isHedgeAhead : yX10_isHedgeAhead.cls = RX10 ∧ yX10_isHedgeAhead.cls ≠ "java/lang/invoke/MethodHandle" ∧ yX10_isHedgeAhead.cls ≠ "java/lang/invoke/VarHandle" ∧ (parseMethodDescriptor yX10_isHedgeAhead.desc).map (fun d => d.parameters.length) = some 2 := ⟨rfl, by decide +kernel, by decide +kernel, by decide +kernel⟩
theorem dX10_isHedgeAhead_0 : decode cX10_isHedgeAhead 0 = .ok (.aload_n 0, 1) := by decide +kernel
theorem dX10_isHedgeAhead_1 : decode cX10_isHedgeAhead 1 = .ok (.getfield 9, 3) := by decide +kernel
theorem dX10_isHedgeAhead_4 : decode cX10_isHedgeAhead 4 = .ok (.iload_n 1, 1) := by decide +kernel
theorem dX10_isHedgeAhead_5 : decode cX10_isHedgeAhead 5 = .ok (.invokestatic 86, 3) := by decide +kernel
theorem dX10_isHedgeAhead_8 : decode cX10_isHedgeAhead 8 = .ok (.iaload, 1) := by decide +kernel
theorem dX10_isHedgeAhead_9 : decode cX10_isHedgeAhead 9 = .ok (.aload_n 0, 1) := by decide +kernel
theorem dX10_isHedgeAhead_10 : decode cX10_isHedgeAhead 10 = .ok (.getfield 9, 3) := by decide +kernel
theorem dX10_isHedgeAhead_13 : decode cX10_isHedgeAhead 13 = .ok (.iload_n 2, 1) := by decide +kernel
theorem dX10_isHedgeAhead_14 : decode cX10_isHedgeAhead 14 = .ok (.invokestatic 86, 3) := by decide +kernel
theorem dX10_isHedgeAhead_17 : decode cX10_isHedgeAhead 17 = .ok (.iaload, 1) := by decide +kernel
theorem dX10_isHedgeAhead_18 : decode cX10_isHedgeAhead 18 = .ok (.isub, 1) := by decide +kernel
theorem dX10_isHedgeAhead_19 : decode cX10_isHedgeAhead 19 = .ok (.istore_n 3, 1) := by decide +kernel
theorem dX10_isHedgeAhead_20 : decode cX10_isHedgeAhead 20 = .ok (.iload_n 3, 1) := by decide +kernel
theorem dX10_isHedgeAhead_21 : decode cX10_isHedgeAhead 21 = .ok (.ifCond .ne 29, 3) := by decide +kernel
theorem dX10_isHedgeAhead_24 : decode cX10_isHedgeAhead 24 = .ok (.aload_n 0, 1) := by decide +kernel
theorem dX10_isHedgeAhead_25 : decode cX10_isHedgeAhead 25 = .ok (.getfield 9, 3) := by decide +kernel
theorem dX10_isHedgeAhead_28 : decode cX10_isHedgeAhead 28 = .ok (.iload_n 1, 1) := by decide +kernel
theorem dX10_isHedgeAhead_29 : decode cX10_isHedgeAhead 29 = .ok (.invokestatic 86, 3) := by decide +kernel
theorem dX10_isHedgeAhead_32 : decode cX10_isHedgeAhead 32 = .ok (.iconst 1, 1) := by decide +kernel
theorem dX10_isHedgeAhead_33 : decode cX10_isHedgeAhead 33 = .ok (.iadd, 1) := by decide +kernel
theorem dX10_isHedgeAhead_34 : decode cX10_isHedgeAhead 34 = .ok (.iaload, 1) := by decide +kernel
theorem dX10_isHedgeAhead_35 : decode cX10_isHedgeAhead 35 = .ok (.aload_n 0, 1) := by decide +kernel
theorem dX10_isHedgeAhead_36 : decode cX10_isHedgeAhead 36 = .ok (.getfield 9, 3) := by decide +kernel
theorem dX10_isHedgeAhead_39 : decode cX10_isHedgeAhead 39 = .ok (.iload_n 2, 1) := by decide +kernel
theorem dX10_isHedgeAhead_40 : decode cX10_isHedgeAhead 40 = .ok (.invokestatic 86, 3) := by decide +kernel
theorem dX10_isHedgeAhead_43 : decode cX10_isHedgeAhead 43 = .ok (.iconst 1, 1) := by decide +kernel
theorem dX10_isHedgeAhead_44 : decode cX10_isHedgeAhead 44 = .ok (.iadd, 1) := by decide +kernel
theorem dX10_isHedgeAhead_45 : decode cX10_isHedgeAhead 45 = .ok (.iaload, 1) := by decide +kernel
theorem dX10_isHedgeAhead_46 : decode cX10_isHedgeAhead 46 = .ok (.isub, 1) := by decide +kernel
theorem dX10_isHedgeAhead_47 : decode cX10_isHedgeAhead 47 = .ok (.goto 4, 3) := by decide +kernel
theorem dX10_isHedgeAhead_50 : decode cX10_isHedgeAhead 50 = .ok (.iload_n 3, 1) := by decide +kernel
theorem dX10_isHedgeAhead_51 : decode cX10_isHedgeAhead 51 = .ok (.istore_n 3, 1) := by decide +kernel
theorem dX10_isHedgeAhead_52 : decode cX10_isHedgeAhead 52 = .ok (.iload_n 3, 1) := by decide +kernel
theorem dX10_isHedgeAhead_53 : decode cX10_isHedgeAhead 53 = .ok (.ifCond .gt 12, 3) := by decide +kernel
theorem dX10_isHedgeAhead_56 : decode cX10_isHedgeAhead 56 = .ok (.iload_n 3, 1) := by decide +kernel
theorem dX10_isHedgeAhead_57 : decode cX10_isHedgeAhead 57 = .ok (.ifCond .ne 12, 3) := by decide +kernel
theorem dX10_isHedgeAhead_60 : decode cX10_isHedgeAhead 60 = .ok (.iload_n 1, 1) := by decide +kernel
theorem dX10_isHedgeAhead_61 : decode cX10_isHedgeAhead 61 = .ok (.iload_n 2, 1) := by decide +kernel
theorem dX10_isHedgeAhead_62 : decode cX10_isHedgeAhead 62 = .ok (.if_icmp .ge 7, 3) := by decide +kernel
theorem dX10_isHedgeAhead_65 : decode cX10_isHedgeAhead 65 = .ok (.iconst 1, 1) := by decide +kernel
theorem dX10_isHedgeAhead_66 : decode cX10_isHedgeAhead 66 = .ok (.goto 4, 3) := by decide +kernel
theorem dX10_isHedgeAhead_69 : decode cX10_isHedgeAhead 69 = .ok (.iconst 0, 1) := by decide +kernel
theorem dX10_isHedgeAhead_70 : decode cX10_isHedgeAhead 70 = .ok (.ireturn, 1) := by decide +kernel
set_option maxHeartbeats 1000000 in
set_option maxRecDepth 20000 in
theorem m_isHedgeAhead (l : Launch) (D : va_G) (aT : Nat → ClassId) (ad : Nat → Nat) (S : MSt) (a b : Nat) (hH : HeW (S 0)) (ha : a < hM (S 0)) (hb2 : b < hM (S 0)) : MdG l yX10_isHedgeAhead cX10_isHedgeAhead 4 .boolean 1 20 D aT ad [.ref (ad 0), .int (nI a), .int (nI b)] S (fun r => r = bI (hAh (lvM (S 0)) (thM (S 0)) a b)) := by
  refine MdI.of (by decide +kernel) rfl (Nat.le_of_ble_eq_true rfl) ?_
  intro p e s m below meth c A ls C hml hl hA hr hlocks hW
  have hl : lv_has ls 4 [(0, .ref (ad 0)), (1, .int (nI a)), (2, .int (nI b))] := hl
  have hx := C.1
  have hb := C.2.1
  refine lv_aload_n hx hb dX10_isHedgeAhead_0 rfl (lv_at hl 0 rfl) ?_
  refine md_geta_m C hW dX10_isHedgeAhead_1 ?_
  refine lv_iload_n hx hb dX10_isHedgeAhead_4 rfl (lv_at hl 1 rfl) ?_
  refine md_calls C hml hl.1 (As := [.int (nI a)]) (rest := [.ref (ad 1)]) (m_hedgeAt l a) gT_hedgeAt hd_hedgeAt rfl ⟨Nat.le_of_ble_eq_true rfl, Nat.le_of_ble_eq_true rfl⟩ ⟨Nat.le_refl _, Nat.le_refl _⟩ rfl (Nat.le_of_ble_eq_true rfl) dX10_isHedgeAhead_5 (fun r_5 hq => ?_)
  subst hq
  refine md_ald_m C hW (i := (11 + 3 * a)) (by have := hH.2.1; omega) dX10_isHedgeAhead_8 ?_
  refine r_eq (y := (nI (lvM (S 0) a))) ((hH.2.2.1 a (by omega)).1) ?_
  refine lv_aload_n hx hb dX10_isHedgeAhead_9 rfl (lv_at hl 0 rfl) ?_
  refine md_geta_m C hW dX10_isHedgeAhead_10 ?_
  refine lv_iload_n hx hb dX10_isHedgeAhead_13 rfl (lv_at hl 2 rfl) ?_
  refine md_calls C hml hl.1 (As := [.int (nI b)]) (rest := [.ref (ad 1), .int (nI (lvM (S 0) a))]) (m_hedgeAt l b) gT_hedgeAt hd_hedgeAt rfl ⟨Nat.le_of_ble_eq_true rfl, Nat.le_of_ble_eq_true rfl⟩ ⟨Nat.le_refl _, Nat.le_refl _⟩ rfl (Nat.le_of_ble_eq_true rfl) dX10_isHedgeAhead_14 (fun r_14 hq => ?_)
  subst hq
  refine md_ald_m C hW (i := (11 + 3 * b)) (by have := hH.2.1; omega) dX10_isHedgeAhead_17 ?_
  refine r_eq (y := (nI (lvM (S 0) b))) ((hH.2.2.1 b (by omega)).1) ?_
  refine lv_isub hx hb dX10_isHedgeAhead_18 ?_
  refine lv_istore_n (lv' := [(3, .int (nI (lvM (S 0) a) - nI (lvM (S 0) b))), (0, .ref (ad 0)), (1, .int (nI a)), (2, .int (nI b))]) hx hb dX10_isHedgeAhead_19 rfl hl (by decide) rfl (fun ls hl => ?_)
  refine lv_iload_n hx hb dX10_isHedgeAhead_20 rfl (lv_at hl 0 rfl) ?_
  refine r_ifneD hx hb (a := (lvM (S 0) a)) (b := (lvM (S 0) b)) (by first | exact Nat.lt_of_le_of_lt (hH.2.2.1 a (by omega)).2.2 (by decide) | exact Nat.lt_of_le_of_lt (hH.2.2.1 b (by omega)).2.2 (by decide) | exact Nat.lt_of_le_of_lt (hH.2.2.2.1 a (by omega)).2 (by decide) | exact Nat.lt_of_le_of_lt (hH.2.2.2.1 b (by omega)).2 (by decide) | (have := hH.2.1; omega)) (by first | exact Nat.lt_of_le_of_lt (hH.2.2.1 a (by omega)).2.2 (by decide) | exact Nat.lt_of_le_of_lt (hH.2.2.1 b (by omega)).2.2 (by decide) | exact Nat.lt_of_le_of_lt (hH.2.2.2.1 a (by omega)).2 (by decide) | exact Nat.lt_of_le_of_lt (hH.2.2.2.1 b (by omega)).2 (by decide) | (have := hH.2.1; omega)) (tgt := 50) dX10_isHedgeAhead_21 (by decide) (fun c_21 => ?_) (fun c_21 => ?_)
  · refine lv_iload_n hx hb dX10_isHedgeAhead_50 rfl (lv_at hl 0 rfl) ?_
    refine lv_istore_n (lv' := [(3, .int (nI (lvM (S 0) a) - nI (lvM (S 0) b))), (0, .ref (ad 0)), (1, .int (nI a)), (2, .int (nI b))]) hx hb dX10_isHedgeAhead_51 rfl hl (by decide) rfl (fun ls hl => ?_)
    refine lv_iload_n hx hb dX10_isHedgeAhead_52 rfl (lv_at hl 0 rfl) ?_
    refine r_ifgtD hx hb (a := (lvM (S 0) a)) (b := (lvM (S 0) b)) (by first | exact Nat.lt_of_le_of_lt (hH.2.2.1 a (by omega)).2.2 (by decide) | exact Nat.lt_of_le_of_lt (hH.2.2.1 b (by omega)).2.2 (by decide) | exact Nat.lt_of_le_of_lt (hH.2.2.2.1 a (by omega)).2 (by decide) | exact Nat.lt_of_le_of_lt (hH.2.2.2.1 b (by omega)).2 (by decide) | (have := hH.2.1; omega)) (by first | exact Nat.lt_of_le_of_lt (hH.2.2.1 a (by omega)).2.2 (by decide) | exact Nat.lt_of_le_of_lt (hH.2.2.1 b (by omega)).2.2 (by decide) | exact Nat.lt_of_le_of_lt (hH.2.2.2.1 a (by omega)).2 (by decide) | exact Nat.lt_of_le_of_lt (hH.2.2.2.1 b (by omega)).2 (by decide) | (have := hH.2.1; omega)) (tgt := 65) dX10_isHedgeAhead_53 (by decide) (fun c_53 => ?_) (fun c_53 => ?_)
    · refine lv_iconst (v := nI 1) hx hb dX10_isHedgeAhead_65 (by decide) ?_
      refine lv_goto (tgt := 70) hx hb dX10_isHedgeAhead_66 (by decide) ?_
      exact md_iret C hr hlocks (by decide) hW (⟨by rw [show hAh _ _ a b = true from decide_eq_true (by omega)]; rfl, rfl⟩) dX10_isHedgeAhead_70
    · refine lv_iload_n hx hb dX10_isHedgeAhead_56 rfl (lv_at hl 0 rfl) ?_
      refine r_ifneD hx hb (a := (lvM (S 0) a)) (b := (lvM (S 0) b)) (by first | exact Nat.lt_of_le_of_lt (hH.2.2.1 a (by omega)).2.2 (by decide) | exact Nat.lt_of_le_of_lt (hH.2.2.1 b (by omega)).2.2 (by decide) | exact Nat.lt_of_le_of_lt (hH.2.2.2.1 a (by omega)).2 (by decide) | exact Nat.lt_of_le_of_lt (hH.2.2.2.1 b (by omega)).2 (by decide) | (have := hH.2.1; omega)) (by first | exact Nat.lt_of_le_of_lt (hH.2.2.1 a (by omega)).2.2 (by decide) | exact Nat.lt_of_le_of_lt (hH.2.2.1 b (by omega)).2.2 (by decide) | exact Nat.lt_of_le_of_lt (hH.2.2.2.1 a (by omega)).2 (by decide) | exact Nat.lt_of_le_of_lt (hH.2.2.2.1 b (by omega)).2 (by decide) | (have := hH.2.1; omega)) (tgt := 69) dX10_isHedgeAhead_57 (by decide) (fun c_57 => ?_) (fun c_57 => ?_)
      · refine lv_iconst (v := nI 0) hx hb dX10_isHedgeAhead_69 (by decide) ?_
        exact md_iret C hr hlocks (by decide) hW (⟨by rw [show hAh _ _ a b = false from decide_eq_false (by omega)]; rfl, rfl⟩) dX10_isHedgeAhead_70
      · refine lv_iload_n hx hb dX10_isHedgeAhead_60 rfl (lv_at hl 2 rfl) ?_
        refine lv_iload_n hx hb dX10_isHedgeAhead_61 rfl (lv_at hl 3 rfl) ?_
        refine r_geN hx hb (a := a) (b := b) (by first | exact Nat.lt_of_le_of_lt (hH.2.2.1 a (by omega)).2.2 (by decide) | exact Nat.lt_of_le_of_lt (hH.2.2.1 b (by omega)).2.2 (by decide) | exact Nat.lt_of_le_of_lt (hH.2.2.2.1 a (by omega)).2 (by decide) | exact Nat.lt_of_le_of_lt (hH.2.2.2.1 b (by omega)).2 (by decide) | (have := hH.2.1; omega)) (by first | exact Nat.lt_of_le_of_lt (hH.2.2.1 a (by omega)).2.2 (by decide) | exact Nat.lt_of_le_of_lt (hH.2.2.1 b (by omega)).2.2 (by decide) | exact Nat.lt_of_le_of_lt (hH.2.2.2.1 a (by omega)).2 (by decide) | exact Nat.lt_of_le_of_lt (hH.2.2.2.1 b (by omega)).2 (by decide) | (have := hH.2.1; omega)) (tgt := 69) dX10_isHedgeAhead_62 (by decide) (fun c_62 => ?_) (fun c_62 => ?_)
        · refine lv_iconst (v := nI 0) hx hb dX10_isHedgeAhead_69 (by decide) ?_
          exact md_iret C hr hlocks (by decide) hW (⟨by rw [show hAh _ _ a b = false from decide_eq_false (by omega)]; rfl, rfl⟩) dX10_isHedgeAhead_70
        · refine lv_iconst (v := nI 1) hx hb dX10_isHedgeAhead_65 (by decide) ?_
          refine lv_goto (tgt := 70) hx hb dX10_isHedgeAhead_66 (by decide) ?_
          exact md_iret C hr hlocks (by decide) hW (⟨by rw [show hAh _ _ a b = true from decide_eq_true (by omega)]; rfl, rfl⟩) dX10_isHedgeAhead_70
  · refine lv_aload_n hx hb dX10_isHedgeAhead_24 rfl (lv_at hl 1 rfl) ?_
    refine md_geta_m C hW dX10_isHedgeAhead_25 ?_
    refine lv_iload_n hx hb dX10_isHedgeAhead_28 rfl (lv_at hl 2 rfl) ?_
    refine md_calls C hml hl.1 (As := [.int (nI a)]) (rest := [.ref (ad 1)]) (m_hedgeAt l a) gT_hedgeAt hd_hedgeAt rfl ⟨Nat.le_of_ble_eq_true rfl, Nat.le_of_ble_eq_true rfl⟩ ⟨Nat.le_refl _, Nat.le_refl _⟩ rfl (Nat.le_of_ble_eq_true rfl) dX10_isHedgeAhead_29 (fun r_29 hq => ?_)
    subst hq
    refine lv_iconst (v := nI 1) hx hb dX10_isHedgeAhead_32 (by decide) ?_
    refine r_iaddN hx hb (a := (11 + 3 * a)) (b := 1) dX10_isHedgeAhead_33 ?_
    refine md_ald_m C hW (i := 11 + 3 * a + 1) (by have := hH.2.1; omega) dX10_isHedgeAhead_34 ?_
    refine r_eq (y := (nI (thM (S 0) a))) ((hH.2.2.2.1 a (by omega)).1) ?_
    refine lv_aload_n hx hb dX10_isHedgeAhead_35 rfl (lv_at hl 1 rfl) ?_
    refine md_geta_m C hW dX10_isHedgeAhead_36 ?_
    refine lv_iload_n hx hb dX10_isHedgeAhead_39 rfl (lv_at hl 3 rfl) ?_
    refine md_calls C hml hl.1 (As := [.int (nI b)]) (rest := [.ref (ad 1), .int (nI (thM (S 0) a))]) (m_hedgeAt l b) gT_hedgeAt hd_hedgeAt rfl ⟨Nat.le_of_ble_eq_true rfl, Nat.le_of_ble_eq_true rfl⟩ ⟨Nat.le_refl _, Nat.le_refl _⟩ rfl (Nat.le_of_ble_eq_true rfl) dX10_isHedgeAhead_40 (fun r_40 hq => ?_)
    subst hq
    refine lv_iconst (v := nI 1) hx hb dX10_isHedgeAhead_43 (by decide) ?_
    refine r_iaddN hx hb (a := (11 + 3 * b)) (b := 1) dX10_isHedgeAhead_44 ?_
    refine md_ald_m C hW (i := 11 + 3 * b + 1) (by have := hH.2.1; omega) dX10_isHedgeAhead_45 ?_
    refine r_eq (y := (nI (thM (S 0) b))) ((hH.2.2.2.1 b (by omega)).1) ?_
    refine lv_isub hx hb dX10_isHedgeAhead_46 ?_
    refine lv_goto (tgt := 51) hx hb dX10_isHedgeAhead_47 (by decide) ?_
    refine lv_istore_n (lv' := [(3, .int (nI (thM (S 0) a) - nI (thM (S 0) b))), (0, .ref (ad 0)), (1, .int (nI a)), (2, .int (nI b))]) hx hb dX10_isHedgeAhead_51 rfl hl (by decide) rfl (fun ls hl => ?_)
    refine lv_iload_n hx hb dX10_isHedgeAhead_52 rfl (lv_at hl 0 rfl) ?_
    refine r_ifgtD hx hb (a := (thM (S 0) a)) (b := (thM (S 0) b)) (by first | exact Nat.lt_of_le_of_lt (hH.2.2.1 a (by omega)).2.2 (by decide) | exact Nat.lt_of_le_of_lt (hH.2.2.1 b (by omega)).2.2 (by decide) | exact Nat.lt_of_le_of_lt (hH.2.2.2.1 a (by omega)).2 (by decide) | exact Nat.lt_of_le_of_lt (hH.2.2.2.1 b (by omega)).2 (by decide) | (have := hH.2.1; omega)) (by first | exact Nat.lt_of_le_of_lt (hH.2.2.1 a (by omega)).2.2 (by decide) | exact Nat.lt_of_le_of_lt (hH.2.2.1 b (by omega)).2.2 (by decide) | exact Nat.lt_of_le_of_lt (hH.2.2.2.1 a (by omega)).2 (by decide) | exact Nat.lt_of_le_of_lt (hH.2.2.2.1 b (by omega)).2 (by decide) | (have := hH.2.1; omega)) (tgt := 65) dX10_isHedgeAhead_53 (by decide) (fun c_53 => ?_) (fun c_53 => ?_)
    · refine lv_iconst (v := nI 1) hx hb dX10_isHedgeAhead_65 (by decide) ?_
      refine lv_goto (tgt := 70) hx hb dX10_isHedgeAhead_66 (by decide) ?_
      exact md_iret C hr hlocks (by decide) hW (⟨by rw [show hAh _ _ a b = true from decide_eq_true (by omega)]; rfl, rfl⟩) dX10_isHedgeAhead_70
    · refine lv_iload_n hx hb dX10_isHedgeAhead_56 rfl (lv_at hl 0 rfl) ?_
      refine r_ifneD hx hb (a := (thM (S 0) a)) (b := (thM (S 0) b)) (by first | exact Nat.lt_of_le_of_lt (hH.2.2.1 a (by omega)).2.2 (by decide) | exact Nat.lt_of_le_of_lt (hH.2.2.1 b (by omega)).2.2 (by decide) | exact Nat.lt_of_le_of_lt (hH.2.2.2.1 a (by omega)).2 (by decide) | exact Nat.lt_of_le_of_lt (hH.2.2.2.1 b (by omega)).2 (by decide) | (have := hH.2.1; omega)) (by first | exact Nat.lt_of_le_of_lt (hH.2.2.1 a (by omega)).2.2 (by decide) | exact Nat.lt_of_le_of_lt (hH.2.2.1 b (by omega)).2.2 (by decide) | exact Nat.lt_of_le_of_lt (hH.2.2.2.1 a (by omega)).2 (by decide) | exact Nat.lt_of_le_of_lt (hH.2.2.2.1 b (by omega)).2 (by decide) | (have := hH.2.1; omega)) (tgt := 69) dX10_isHedgeAhead_57 (by decide) (fun c_57 => ?_) (fun c_57 => ?_)
      · refine lv_iconst (v := nI 0) hx hb dX10_isHedgeAhead_69 (by decide) ?_
        exact md_iret C hr hlocks (by decide) hW (⟨by rw [show hAh _ _ a b = false from decide_eq_false (by omega)]; rfl, rfl⟩) dX10_isHedgeAhead_70
      · refine lv_iload_n hx hb dX10_isHedgeAhead_60 rfl (lv_at hl 2 rfl) ?_
        refine lv_iload_n hx hb dX10_isHedgeAhead_61 rfl (lv_at hl 3 rfl) ?_
        refine r_geN hx hb (a := a) (b := b) (by first | exact Nat.lt_of_le_of_lt (hH.2.2.1 a (by omega)).2.2 (by decide) | exact Nat.lt_of_le_of_lt (hH.2.2.1 b (by omega)).2.2 (by decide) | exact Nat.lt_of_le_of_lt (hH.2.2.2.1 a (by omega)).2 (by decide) | exact Nat.lt_of_le_of_lt (hH.2.2.2.1 b (by omega)).2 (by decide) | (have := hH.2.1; omega)) (by first | exact Nat.lt_of_le_of_lt (hH.2.2.1 a (by omega)).2.2 (by decide) | exact Nat.lt_of_le_of_lt (hH.2.2.1 b (by omega)).2.2 (by decide) | exact Nat.lt_of_le_of_lt (hH.2.2.2.1 a (by omega)).2 (by decide) | exact Nat.lt_of_le_of_lt (hH.2.2.2.1 b (by omega)).2 (by decide) | (have := hH.2.1; omega)) (tgt := 69) dX10_isHedgeAhead_62 (by decide) (fun c_62 => ?_) (fun c_62 => ?_)
        · refine lv_iconst (v := nI 0) hx hb dX10_isHedgeAhead_69 (by decide) ?_
          exact md_iret C hr hlocks (by decide) hW (⟨by rw [show hAh _ _ a b = false from decide_eq_false (by omega)]; rfl, rfl⟩) dX10_isHedgeAhead_70
        · refine lv_iconst (v := nI 1) hx hb dX10_isHedgeAhead_65 (by decide) ?_
          refine lv_goto (tgt := 70) hx hb dX10_isHedgeAhead_66 (by decide) ?_
          exact md_iret C hr hlocks (by decide) hW (⟨by rw [show hAh _ _ a b = true from decide_eq_true (by omega)]; rfl, rfl⟩) dX10_isHedgeAhead_70
theorem dX10_hedgeAtRank_0 : decode cX10_hedgeAtRank 0 = .ok (.aload_n 0, 1) := by decide +kernel
theorem dX10_hedgeAtRank_1 : decode cX10_hedgeAtRank 1 = .ok (.iconst 0, 1) := by decide +kernel
theorem dX10_hedgeAtRank_2 : decode cX10_hedgeAtRank 2 = .ok (.putfield 57, 3) := by decide +kernel
theorem dX10_hedgeAtRank_5 : decode cX10_hedgeAtRank 5 = .ok (.iconst 0, 1) := by decide +kernel
theorem dX10_hedgeAtRank_6 : decode cX10_hedgeAtRank 6 = .ok (.istore_n 2, 1) := by decide +kernel
theorem dX10_hedgeAtRank_7 : decode cX10_hedgeAtRank 7 = .ok (.iload_n 2, 1) := by decide +kernel
theorem dX10_hedgeAtRank_8 : decode cX10_hedgeAtRank 8 = .ok (.aload_n 0, 1) := by decide +kernel
theorem dX10_hedgeAtRank_9 : decode cX10_hedgeAtRank 9 = .ok (.getfield 9, 3) := by decide +kernel
theorem dX10_hedgeAtRank_12 : decode cX10_hedgeAtRank 12 = .ok (.iconst 0, 1) := by decide +kernel
theorem dX10_hedgeAtRank_13 : decode cX10_hedgeAtRank 13 = .ok (.iaload, 1) := by decide +kernel
theorem dX10_hedgeAtRank_14 : decode cX10_hedgeAtRank 14 = .ok (.if_icmp .ge 56, 3) := by decide +kernel
theorem dX10_hedgeAtRank_17 : decode cX10_hedgeAtRank 17 = .ok (.iconst 0, 1) := by decide +kernel
theorem dX10_hedgeAtRank_18 : decode cX10_hedgeAtRank 18 = .ok (.istore_n 3, 1) := by decide +kernel
theorem dX10_hedgeAtRank_19 : decode cX10_hedgeAtRank 19 = .ok (.iconst 0, 1) := by decide +kernel
theorem dX10_hedgeAtRank_20 : decode cX10_hedgeAtRank 20 = .ok (.istore 4, 2) := by decide +kernel
theorem dX10_hedgeAtRank_22 : decode cX10_hedgeAtRank 22 = .ok (.iload 4, 2) := by decide +kernel
theorem dX10_hedgeAtRank_24 : decode cX10_hedgeAtRank 24 = .ok (.aload_n 0, 1) := by decide +kernel
theorem dX10_hedgeAtRank_25 : decode cX10_hedgeAtRank 25 = .ok (.getfield 9, 3) := by decide +kernel
theorem dX10_hedgeAtRank_28 : decode cX10_hedgeAtRank 28 = .ok (.iconst 0, 1) := by decide +kernel
theorem dX10_hedgeAtRank_29 : decode cX10_hedgeAtRank 29 = .ok (.iaload, 1) := by decide +kernel
theorem dX10_hedgeAtRank_30 : decode cX10_hedgeAtRank 30 = .ok (.if_icmp .ge 27, 3) := by decide +kernel
theorem dX10_hedgeAtRank_33 : decode cX10_hedgeAtRank 33 = .ok (.iload_n 3, 1) := by decide +kernel
theorem dX10_hedgeAtRank_34 : decode cX10_hedgeAtRank 34 = .ok (.aload_n 0, 1) := by decide +kernel
theorem dX10_hedgeAtRank_35 : decode cX10_hedgeAtRank 35 = .ok (.iload 4, 2) := by decide +kernel
theorem dX10_hedgeAtRank_37 : decode cX10_hedgeAtRank 37 = .ok (.iload_n 2, 1) := by decide +kernel
theorem dX10_hedgeAtRank_38 : decode cX10_hedgeAtRank 38 = .ok (.invokevirtual 169, 3) := by decide +kernel
theorem dX10_hedgeAtRank_41 : decode cX10_hedgeAtRank 41 = .ok (.ifCond .eq 7, 3) := by decide +kernel
theorem dX10_hedgeAtRank_44 : decode cX10_hedgeAtRank 44 = .ok (.iconst 1, 1) := by decide +kernel
theorem dX10_hedgeAtRank_45 : decode cX10_hedgeAtRank 45 = .ok (.goto 4, 3) := by decide +kernel
theorem dX10_hedgeAtRank_48 : decode cX10_hedgeAtRank 48 = .ok (.iconst 0, 1) := by decide +kernel
theorem dX10_hedgeAtRank_49 : decode cX10_hedgeAtRank 49 = .ok (.iadd, 1) := by decide +kernel
theorem dX10_hedgeAtRank_50 : decode cX10_hedgeAtRank 50 = .ok (.istore_n 3, 1) := by decide +kernel
theorem dX10_hedgeAtRank_51 : decode cX10_hedgeAtRank 51 = .ok (.iinc 4 1, 3) := by decide +kernel
theorem dX10_hedgeAtRank_54 : decode cX10_hedgeAtRank 54 = .ok (.goto (-32), 3) := by decide +kernel
theorem dX10_hedgeAtRank_57 : decode cX10_hedgeAtRank 57 = .ok (.iload_n 3, 1) := by decide +kernel
theorem dX10_hedgeAtRank_58 : decode cX10_hedgeAtRank 58 = .ok (.iload_n 1, 1) := by decide +kernel
theorem dX10_hedgeAtRank_59 : decode cX10_hedgeAtRank 59 = .ok (.if_icmp .ne 5, 3) := by decide +kernel
theorem dX10_hedgeAtRank_62 : decode cX10_hedgeAtRank 62 = .ok (.iload_n 2, 1) := by decide +kernel
theorem dX10_hedgeAtRank_63 : decode cX10_hedgeAtRank 63 = .ok (.ireturn, 1) := by decide +kernel
theorem dX10_hedgeAtRank_64 : decode cX10_hedgeAtRank 64 = .ok (.iinc 2 1, 3) := by decide +kernel
theorem dX10_hedgeAtRank_67 : decode cX10_hedgeAtRank 67 = .ok (.goto (-60), 3) := by decide +kernel
theorem dX10_hedgeAtRank_70 : decode cX10_hedgeAtRank 70 = .ok (.aload_n 0, 1) := by decide +kernel
theorem dX10_hedgeAtRank_71 : decode cX10_hedgeAtRank 71 = .ok (.iconst 1, 1) := by decide +kernel
theorem dX10_hedgeAtRank_72 : decode cX10_hedgeAtRank 72 = .ok (.invokevirtual 101, 3) := by decide +kernel
theorem dX10_hedgeAtRank_75 : decode cX10_hedgeAtRank 75 = .ok (.ireturn, 1) := by decide +kernel
set_option maxHeartbeats 2000000 in
set_option maxRecDepth 20000 in
theorem m_hedgeAtRank (l : Launch) (D : va_G) (aT : Nat → ClassId) (ad : Nat → Nat) (S : MSt) (x : Int32) (hH : HeW (S 0)) : MdI l yX10_hedgeAtRank cX10_hedgeAtRank 5 .int 2 43 D aT ad [.ref (ad 0), .int x] S (fun r S1 => (fnd (fun k => nI (rkN (hAh (lvM (S 0)) (thM (S 0))) k (hM (S 0)))) x (hM (S 0)) = none ∧ r = -1 ∧ S1 = ss S 8 (nI 1)) ∨ (∃ k, fnd (fun k => nI (rkN (hAh (lvM (S 0)) (thM (S 0))) k (hM (S 0)))) x (hM (S 0)) = some k ∧ r = nI k ∧ S1 = ss S 8 (nI 0))) := by
  refine MdI.of (by decide +kernel) rfl (Nat.le_of_ble_eq_true rfl) ?_
  intro p e s m below meth c A ls C hml hl hA hr hlocks hW
  have hl : lv_has ls 5 [(0, .ref (ad 0)), (1, .int x)] := hl
  have hx := C.1
  have hb := C.2.1
  refine lv_aload_n hx hb dX10_hedgeAtRank_0 rfl (lv_at hl 0 rfl) ?_
  refine lv_iconst (v := nI 0) hx hb dX10_hedgeAtRank_1 (by decide) ?_
  refine md_put_thrown C hW dX10_hedgeAtRank_2 (fun H locs hW => ?_)
  refine lv_iconst (v := nI 0) hx hb dX10_hedgeAtRank_5 (by decide) ?_
  refine lv_istore_n (lv' := [(2, .int (nI 0)), (0, .ref (ad 0)), (1, .int x)]) hx hb dX10_hedgeAtRank_6 rfl hl (by decide) rfl (fun ls hl => ?_)
  refine W_loopH (σ := Nat) (fun z_ => hM (S 0) - z_) (fun z_ H locs g => ∃ ls, g = F0 m 7 ls [] ∧ lv_has ls 5 [(0, .ref (ad 0)), (1, .int x), (2, .int (nI z_))] ∧ MdB D aT ad (ss S 8 (nI 0)) A s.heap H locs ∧ (fnd (fun k => nI (rkN (hAh (lvM (S 0)) (thM (S 0))) k (hM (S 0)))) x z_ = none ∧ z_ ≤ hM (S 0))) ?_ 0 _ ⟨_, rfl, lv_sub hl [1, 2, 0] rfl, hW, ⟨rfl, Nat.zero_le _⟩⟩
  clear hW hl
  rintro k H locs g ⟨ls, rfl, hl, hW, hk, hkh⟩ ih_7
  have h6 := hH.2.1
  refine lv_iload_n hx hb dX10_hedgeAtRank_7 rfl (lv_at hl 2 rfl) ?_
  refine lv_aload_n hx hb dX10_hedgeAtRank_8 rfl (lv_at hl 0 rfl) ?_
  refine md_geta_m C hW dX10_hedgeAtRank_9 ?_
  refine lv_iconst (v := nI 0) hx hb dX10_hedgeAtRank_12 (by decide) ?_
  refine md_ald_m C hW (i := 0) (by omega) dX10_hedgeAtRank_13 ?_
  refine r_eq (y := (nI (hM (S 0)))) (hH.1) ?_
  refine r_geN hx hb (a := k) (b := (hM (S 0))) (by omega) (by omega) (tgt := 70) dX10_hedgeAtRank_14 (by decide) (fun c_14 => ?_) (fun c_14 => ?_)
  · refine lv_aload_n hx hb dX10_hedgeAtRank_70 rfl (lv_at hl 0 rfl) ?_
    refine lv_iconst (v := nI 1) hx hb dX10_hedgeAtRank_71 (by decide) ?_
    refine md_calli C hml hl.1 (As := [.int (nI 1)]) (rest := []) (m_throwing l D aT ad (ss S 8 (nI 0)) 1) gT_throwing hd_throwing rfl ⟨Nat.le_of_ble_eq_true rfl, Nat.le_of_ble_eq_true rfl⟩ ⟨Nat.le_refl _, Nat.le_refl _⟩ hW hA rfl (Nat.le_of_ble_eq_true rfl) dX10_hedgeAtRank_72 (fun r_72 S_72 H locs hq hW => ?_)
    obtain ⟨rfl, rfl⟩ := hq
    exact md_iret C hr hlocks rfl hW (Or.inl ⟨(show k = hM (S 0) by omega) ▸ hk, rfl, ss_ss _ _ _ _⟩) dX10_hedgeAtRank_75
  · refine lv_iconst (v := nI 0) hx hb dX10_hedgeAtRank_17 (by decide) ?_
    refine lv_istore_n (lv' := [(3, .int (nI 0)), (0, .ref (ad 0)), (1, .int x), (2, .int (nI k))]) hx hb dX10_hedgeAtRank_18 rfl hl (by decide) rfl (fun ls hl => ?_)
    refine lv_iconst (v := nI 0) hx hb dX10_hedgeAtRank_19 (by decide) ?_
    refine lv_istore (lv' := [(4, .int (nI 0)), (3, .int (nI 0)), (0, .ref (ad 0)), (1, .int x), (2, .int (nI k))]) hx hb dX10_hedgeAtRank_20 hl (by decide) rfl (fun ls hl => ?_)
    refine W_loopH (σ := Nat × Nat) (fun z_ => hM (S 0) - z_.2) (fun z_ H locs g => ∃ ls, g = F0 m 22 ls [] ∧ lv_has ls 5 [(0, .ref (ad 0)), (1, .int x), (2, .int (nI k)), (3, .int (nI z_.1)), (4, .int (nI z_.2))] ∧ MdB D aT ad (ss S 8 (nI 0)) A s.heap H locs ∧ (z_.1 = (rkN (hAh (lvM (S 0)) (thM (S 0))) k z_.2) ∧ z_.2 ≤ hM (S 0))) ?_ (0, 0) _ ⟨_, rfl, lv_sub hl [2, 3, 4, 1, 0] rfl, hW, ⟨rfl, Nat.zero_le _⟩⟩
    clear hW hl
    rintro ⟨bf, o⟩ H locs g ⟨ls, rfl, hl, hW, hb2, hoh⟩ ih_22
    dsimp only at hl hW hb2 hoh ⊢
    refine lv_iload hx hb dX10_hedgeAtRank_22 (lv_at hl 4 rfl) ?_
    refine lv_aload_n hx hb dX10_hedgeAtRank_24 rfl (lv_at hl 0 rfl) ?_
    refine md_geta_m C hW dX10_hedgeAtRank_25 ?_
    refine lv_iconst (v := nI 0) hx hb dX10_hedgeAtRank_28 (by decide) ?_
    refine md_ald_m C hW (i := 0) (by omega) dX10_hedgeAtRank_29 ?_
    refine r_eq (y := (nI (hM (S 0)))) (hH.1) ?_
    refine r_geN hx hb (a := o) (b := (hM (S 0))) (by omega) (by omega) (tgt := 57) dX10_hedgeAtRank_30 (by decide) (fun c_30 => ?_) (fun c_30 => ?_)
    · refine lv_iload_n hx hb dX10_hedgeAtRank_57 rfl (lv_at hl 3 rfl) ?_
      refine lv_iload_n hx hb dX10_hedgeAtRank_58 rfl (lv_at hl 1 rfl) ?_
      refine lv_icmp_ne hx hb (x := (nI bf)) (y := x) (tgt := 64) dX10_hedgeAtRank_59 (by decide) (fun c_59 => ?_) (fun c_59 => ?_)
      · refine lv_iinc (v := (nI (k + 1))) (lv' := [(2, .int (nI (k + 1))), (0, .ref (ad 0)), (1, .int x), (3, .int (nI bf)), (4, .int (nI o))]) hx hb dX10_hedgeAtRank_64 hl (k := 2) rfl (nI_1 _) (by decide) rfl (fun ls hl => ?_)
        refine lv_goto (tgt := 7) hx hb dX10_hedgeAtRank_67 (by decide) ?_
        exact ih_7 (k + 1) _ _ _ (by omega) ⟨_, rfl, lv_sub hl [1, 2, 0] rfl, hW, ⟨fnd_step hk (fun z => c_59 (by rw [hb2, show o = hM (S 0) by omega]; exact z)), by omega⟩⟩
      · refine lv_iload_n hx hb dX10_hedgeAtRank_62 rfl (lv_at hl 2 rfl) ?_
        exact md_iret C hr hlocks rfl hW (Or.inr ⟨k, fnd_hit hk (by rw [hb2, show o = hM (S 0) by omega] at c_59; exact c_59) (by omega), rfl, rfl⟩) dX10_hedgeAtRank_63
    · refine lv_iload_n hx hb dX10_hedgeAtRank_33 rfl (lv_at hl 3 rfl) ?_
      refine lv_aload_n hx hb dX10_hedgeAtRank_34 rfl (lv_at hl 0 rfl) ?_
      refine lv_iload hx hb dX10_hedgeAtRank_35 (lv_at hl 4 rfl) ?_
      refine lv_iload_n hx hb dX10_hedgeAtRank_37 rfl (lv_at hl 2 rfl) ?_
      refine md_callg C hml hl.1 (As := [.int (nI o), .int (nI k)]) (rest := [.int (nI bf)]) (m_isHedgeAhead l D aT ad (ss S 8 (nI 0)) o k hH (show o < hM (S 0) by omega) (show k < hM (S 0) by omega)) gT_isHedgeAhead hd_isHedgeAhead rfl ⟨Nat.le_of_ble_eq_true rfl, Nat.le_of_ble_eq_true rfl⟩ ⟨Nat.le_refl _, Nat.le_refl _⟩ hW hA rfl (Nat.le_of_ble_eq_true rfl) dX10_hedgeAtRank_38 (fun r_38 H locs hq hW => ?_)
      subst hq
      refine r_bI_eq hx hb (b := (hAh (lvM (S 0)) (thM (S 0)) o k)) (tgt := 48) dX10_hedgeAtRank_41 (by decide) (fun c_41 => ?_) (fun c_41 => ?_)
      · refine lv_iconst (v := nI 0) hx hb dX10_hedgeAtRank_48 (by decide) ?_
        refine r_iaddN hx hb (a := bf) (b := 0) dX10_hedgeAtRank_49 ?_
        refine lv_istore_n (lv' := [(3, .int (nI (bf + 0))), (0, .ref (ad 0)), (1, .int x), (2, .int (nI k)), (4, .int (nI o))]) hx hb dX10_hedgeAtRank_50 rfl hl (by decide) rfl (fun ls hl => ?_)
        refine lv_iinc (v := (nI (o + 1))) (lv' := [(4, .int (nI (o + 1))), (3, .int (nI (bf + 0))), (0, .ref (ad 0)), (1, .int x), (2, .int (nI k))]) hx hb dX10_hedgeAtRank_51 hl (k := 4) rfl (nI_1 _) (by decide) rfl (fun ls hl => ?_)
        refine lv_goto (tgt := 22) hx hb dX10_hedgeAtRank_54 (by decide) ?_
        exact ih_22 (bf + 0, (o + 1)) _ _ _ (by dsimp only; omega) ⟨_, rfl, lv_sub hl [2, 3, 4, 1, 0] rfl, hW, ⟨by rw [rkN, c_41, ← hb2]; rfl, by (try dsimp only); omega⟩⟩
      · refine lv_iconst (v := nI 1) hx hb dX10_hedgeAtRank_44 (by decide) ?_
        refine lv_goto (tgt := 49) hx hb dX10_hedgeAtRank_45 (by decide) ?_
        refine r_iaddN hx hb (a := bf) (b := 1) dX10_hedgeAtRank_49 ?_
        refine lv_istore_n (lv' := [(3, .int (nI (bf + 1))), (0, .ref (ad 0)), (1, .int x), (2, .int (nI k)), (4, .int (nI o))]) hx hb dX10_hedgeAtRank_50 rfl hl (by decide) rfl (fun ls hl => ?_)
        refine lv_iinc (v := (nI (o + 1))) (lv' := [(4, .int (nI (o + 1))), (3, .int (nI (bf + 1))), (0, .ref (ad 0)), (1, .int x), (2, .int (nI k))]) hx hb dX10_hedgeAtRank_51 hl (k := 4) rfl (nI_1 _) (by decide) rfl (fun ls hl => ?_)
        refine lv_goto (tgt := 22) hx hb dX10_hedgeAtRank_54 (by decide) ?_
        exact ih_22 (bf + 1, (o + 1)) _ _ _ (by dsimp only; omega) ⟨_, rfl, lv_sub hl [2, 3, 4, 1, 0] rfl, hW, ⟨by rw [rkN, c_41, ← hb2]; rfl, by (try dsimp only); omega⟩⟩
theorem dX10_leavesInFavour_0 : decode cX10_leavesInFavour 0 = .ok (.aload_n 0, 1) := by decide +kernel
theorem dX10_leavesInFavour_1 : decode cX10_leavesInFavour 1 = .ok (.iconst 0, 1) := by decide +kernel
theorem dX10_leavesInFavour_2 : decode cX10_leavesInFavour 2 = .ok (.putfield 57, 3) := by decide +kernel
theorem dX10_leavesInFavour_5 : decode cX10_leavesInFavour 5 = .ok (.aload_n 0, 1) := by decide +kernel
theorem dX10_leavesInFavour_6 : decode cX10_leavesInFavour 6 = .ok (.iload_n 1, 1) := by decide +kernel
theorem dX10_leavesInFavour_7 : decode cX10_leavesInFavour 7 = .ok (.invokevirtual 71, 3) := by decide +kernel
theorem dX10_leavesInFavour_10 : decode cX10_leavesInFavour 10 = .ok (.istore_n 2, 1) := by decide +kernel
theorem dX10_leavesInFavour_11 : decode cX10_leavesInFavour 11 = .ok (.iload_n 2, 1) := by decide +kernel
theorem dX10_leavesInFavour_12 : decode cX10_leavesInFavour 12 = .ok (.iconst (-1), 1) := by decide +kernel
theorem dX10_leavesInFavour_13 : decode cX10_leavesInFavour 13 = .ok (.if_icmp .ne 11, 3) := by decide +kernel
theorem dX10_leavesInFavour_16 : decode cX10_leavesInFavour 16 = .ok (.aload_n 0, 1) := by decide +kernel
theorem dX10_leavesInFavour_17 : decode cX10_leavesInFavour 17 = .ok (.iconst 1, 1) := by decide +kernel
theorem dX10_leavesInFavour_18 : decode cX10_leavesInFavour 18 = .ok (.invokevirtual 101, 3) := by decide +kernel
theorem dX10_leavesInFavour_21 : decode cX10_leavesInFavour 21 = .ok (.goto 8, 3) := by decide +kernel
theorem dX10_leavesInFavour_24 : decode cX10_leavesInFavour 24 = .ok (.aload_n 0, 1) := by decide +kernel
theorem dX10_leavesInFavour_25 : decode cX10_leavesInFavour 25 = .ok (.iload_n 2, 1) := by decide +kernel
theorem dX10_leavesInFavour_26 : decode cX10_leavesInFavour 26 = .ok (.invokevirtual 147, 3) := by decide +kernel
theorem dX10_leavesInFavour_29 : decode cX10_leavesInFavour 29 = .ok (.ireturn, 1) := by decide +kernel
set_option maxHeartbeats 1000000 in
set_option maxRecDepth 20000 in
theorem m_leavesInFavour (l : Launch) (D : va_G) (aT : Nat → ClassId) (ad : Nat → Nat) (S : MSt) (x : Int32) (hF : FoW (S 0)) (hH : HeW (S 0)) : MdI l yX10_leavesInFavour cX10_leavesInFavour 3 .int 3 69 D aT ad [.ref (ad 0), .int x] S (fun r S1 => (fnd (fun k => S 0 (29 + 4 * k)) x (nM (S 0)) = none ∧ r = -1 ∧ S1 = ss S 8 (nI 1)) ∨ (∃ q, fnd (fun k => S 0 (29 + 4 * k)) x (nM (S 0)) = some q ∧ r = nI (fav (lvM (S 0)) (taM (S 0)) (tnM (S 0) q) (hM (S 0))) ∧ S1 = ss S 8 (nI 0))) := by
  refine MdI.of (by decide +kernel) rfl (Nat.le_of_ble_eq_true rfl) ?_
  intro p e s m below meth c A ls C hml hl hA hr hlocks hW
  have hl : lv_has ls 3 [(0, .ref (ad 0)), (1, .int x)] := hl
  have hx := C.1
  have hb := C.2.1
  refine lv_aload_n hx hb dX10_leavesInFavour_0 rfl (lv_at hl 0 rfl) ?_
  refine lv_iconst (v := nI 0) hx hb dX10_leavesInFavour_1 (by decide) ?_
  refine md_put_thrown C hW dX10_leavesInFavour_2 (fun H locs hW => ?_)
  refine lv_aload_n hx hb dX10_leavesInFavour_5 rfl (lv_at hl 0 rfl) ?_
  refine lv_iload_n hx hb dX10_leavesInFavour_6 rfl (lv_at hl 1 rfl) ?_
  refine md_callg C hml hl.1 (As := [.int x]) (rest := []) (m_find l D aT ad (ss S 8 (nI 0)) (x) (nM (S 0)) hF.1 hF.2.1) gT_find hd_find rfl ⟨Nat.le_of_ble_eq_true rfl, Nat.le_of_ble_eq_true rfl⟩ ⟨Nat.le_refl _, Nat.le_refl _⟩ hW hA rfl (Nat.le_of_ble_eq_true rfl) dX10_leavesInFavour_7 (fun r_7 H locs hq hW => ?_)
  subst hq
  refine lv_istore_n (lv' := [(2, .int (oi (fnd (fun k => (ss S 8 (nI 0)) 0 (29 + 4 * k)) (x) (nM (S 0))))), (0, .ref (ad 0)), (1, .int x)]) hx hb dX10_leavesInFavour_10 rfl hl (by decide) rfl (fun ls hl => ?_)
  refine lv_iload_n hx hb dX10_leavesInFavour_11 rfl (lv_at hl 0 rfl) ?_
  refine lv_iconst (v := (-1)) hx hb dX10_leavesInFavour_12 (by decide) ?_
  refine r_oi_ne hx hb (o := (fnd (fun k => (ss S 8 (nI 0)) 0 (29 + 4 * k)) (x) (nM (S 0)))) (fun j hj => by have := (fnd_some hj).1; have := hF.n12; omega) (tgt := 24) dX10_leavesInFavour_13 (by decide) (fun j_13 c_13 => ?_) (fun c_13 => ?_)
  · have hl : lv_has ls 3 [(2, .int (nI j_13)), (0, .ref (ad 0)), (1, .int x)] := by rw [c_13] at hl; exact hl
    have hq0 := (fnd_some c_13).1
    have h12 := hF.n12
    refine lv_aload_n hx hb dX10_leavesInFavour_24 rfl (lv_at hl 1 rfl) ?_
    refine lv_iload_n hx hb dX10_leavesInFavour_25 rfl (lv_at hl 0 rfl) ?_
    refine md_callg C hml hl.1 (As := [.int (nI j_13)]) (rest := []) (m_favour l D aT ad (ss S 8 (nI 0)) (hM (S 0)) (lvM (S 0)) (thM (S 0)) (taM (S 0)) hH (nM (S 0)) (idM (S 0)) (prM (S 0)) (tnM (S 0)) hF j_13 (hq0)) gT_favour hd_favour rfl ⟨Nat.le_of_ble_eq_true rfl, Nat.le_of_ble_eq_true rfl⟩ ⟨Nat.le_refl _, Nat.le_refl _⟩ hW hA rfl (Nat.le_of_ble_eq_true rfl) dX10_leavesInFavour_26 (fun r_26 H locs hq hW => ?_)
    subst hq
    exact md_iret C hr hlocks rfl hW (Or.inr ⟨j_13, c_13, rfl, rfl⟩) dX10_leavesInFavour_29
  · have hl : lv_has ls 3 [(2, .int (-1)), (0, .ref (ad 0)), (1, .int x)] := by rw [c_13] at hl; exact hl
    refine lv_aload_n hx hb dX10_leavesInFavour_16 rfl (lv_at hl 1 rfl) ?_
    refine lv_iconst (v := nI 1) hx hb dX10_leavesInFavour_17 (by decide) ?_
    refine md_calli C hml hl.1 (As := [.int (nI 1)]) (rest := []) (m_throwing l D aT ad (ss S 8 (nI 0)) 1) gT_throwing hd_throwing rfl ⟨Nat.le_of_ble_eq_true rfl, Nat.le_of_ble_eq_true rfl⟩ ⟨Nat.le_refl _, Nat.le_refl _⟩ hW hA rfl (Nat.le_of_ble_eq_true rfl) dX10_leavesInFavour_18 (fun r_18 S_18 H locs hq hW => ?_)
    obtain ⟨rfl, rfl⟩ := hq
    refine lv_goto (tgt := 29) hx hb dX10_leavesInFavour_21 (by decide) ?_
    exact md_iret C hr hlocks rfl hW (Or.inl ⟨c_13, rfl, ss_ss _ _ _ _⟩) dX10_leavesInFavour_29
theorem dX10_motionCount_0 : decode cX10_motionCount 0 = .ok (.aload_n 0, 1) := by decide +kernel
theorem dX10_motionCount_1 : decode cX10_motionCount 1 = .ok (.iconst 0, 1) := by decide +kernel
theorem dX10_motionCount_2 : decode cX10_motionCount 2 = .ok (.putfield 57, 3) := by decide +kernel
theorem dX10_motionCount_5 : decode cX10_motionCount 5 = .ok (.aload_n 0, 1) := by decide +kernel
theorem dX10_motionCount_6 : decode cX10_motionCount 6 = .ok (.getfield 9, 3) := by decide +kernel
theorem dX10_motionCount_9 : decode cX10_motionCount 9 = .ok (.iconst 2, 1) := by decide +kernel
theorem dX10_motionCount_10 : decode cX10_motionCount 10 = .ok (.iaload, 1) := by decide +kernel
theorem dX10_motionCount_11 : decode cX10_motionCount 11 = .ok (.ireturn, 1) := by decide +kernel
set_option maxHeartbeats 1000000 in
set_option maxRecDepth 20000 in
theorem m_motionCount (l : Launch) (D : va_G) (aT : Nat → ClassId) (ad : Nat → Nat) (S : MSt) (hF : FoW (S 0)) : MdI l yX10_motionCount cX10_motionCount 1 .int 0 0 D aT ad [.ref (ad 0)] S (fun r S1 => r = nI (nM (S 0)) ∧ S1 = ss S 8 (nI 0)) := by
  refine MdI.of (by decide +kernel) rfl (Nat.le_of_ble_eq_true rfl) ?_
  intro p e s m below meth c A ls C hml hl hA hr hlocks hW
  have hl : lv_has ls 1 [(0, .ref (ad 0))] := hl
  have hx := C.1
  have hb := C.2.1
  refine lv_aload_n hx hb dX10_motionCount_0 rfl (lv_at hl 0 rfl) ?_
  refine lv_iconst (v := nI 0) hx hb dX10_motionCount_1 (by decide) ?_
  refine md_put_thrown C hW dX10_motionCount_2 (fun H locs hW => ?_)
  refine lv_aload_n hx hb dX10_motionCount_5 rfl (lv_at hl 0 rfl) ?_
  refine md_geta_m C hW dX10_motionCount_6 ?_
  refine lv_iconst (v := nI 2) hx hb dX10_motionCount_9 (by decide) ?_
  refine md_ald_m C hW (i := 2) (by omega) dX10_motionCount_10 ?_
  refine r_eq (y := (nI (nM (S 0)))) (hF.1) ?_
  exact md_iret C hr hlocks rfl hW (⟨rfl, rfl⟩) dX10_motionCount_11
theorem dX10_motionAt_0 : decode cX10_motionAt 0 = .ok (.aload_n 0, 1) := by decide +kernel
theorem dX10_motionAt_1 : decode cX10_motionAt 1 = .ok (.iconst 0, 1) := by decide +kernel
theorem dX10_motionAt_2 : decode cX10_motionAt 2 = .ok (.putfield 57, 3) := by decide +kernel
theorem dX10_motionAt_5 : decode cX10_motionAt 5 = .ok (.iload_n 1, 1) := by decide +kernel
theorem dX10_motionAt_6 : decode cX10_motionAt 6 = .ok (.i2l, 1) := by decide +kernel
theorem dX10_motionAt_7 : decode cX10_motionAt 7 = .ok (.lconst 0, 1) := by decide +kernel
theorem dX10_motionAt_8 : decode cX10_motionAt 8 = .ok (.aload_n 0, 1) := by decide +kernel
theorem dX10_motionAt_9 : decode cX10_motionAt 9 = .ok (.getfield 9, 3) := by decide +kernel
theorem dX10_motionAt_12 : decode cX10_motionAt 12 = .ok (.iconst 2, 1) := by decide +kernel
theorem dX10_motionAt_13 : decode cX10_motionAt 13 = .ok (.iaload, 1) := by decide +kernel
theorem dX10_motionAt_14 : decode cX10_motionAt 14 = .ok (.iconst 1, 1) := by decide +kernel
theorem dX10_motionAt_15 : decode cX10_motionAt 15 = .ok (.isub, 1) := by decide +kernel
theorem dX10_motionAt_16 : decode cX10_motionAt 16 = .ok (.i2l, 1) := by decide +kernel
theorem dX10_motionAt_17 : decode cX10_motionAt 17 = .ok (.invokestatic 63, 3) := by decide +kernel
theorem dX10_motionAt_20 : decode cX10_motionAt 20 = .ok (.ifCond .eq 12, 3) := by decide +kernel
theorem dX10_motionAt_23 : decode cX10_motionAt 23 = .ok (.aload_n 0, 1) := by decide +kernel
theorem dX10_motionAt_24 : decode cX10_motionAt 24 = .ok (.iload_n 1, 1) := by decide +kernel
theorem dX10_motionAt_25 : decode cX10_motionAt 25 = .ok (.iconst 0, 1) := by decide +kernel
theorem dX10_motionAt_26 : decode cX10_motionAt 26 = .ok (.invokevirtual 67, 3) := by decide +kernel
theorem dX10_motionAt_29 : decode cX10_motionAt 29 = .ok (.goto 8, 3) := by decide +kernel
theorem dX10_motionAt_32 : decode cX10_motionAt 32 = .ok (.aload_n 0, 1) := by decide +kernel
theorem dX10_motionAt_33 : decode cX10_motionAt 33 = .ok (.iconst 1, 1) := by decide +kernel
theorem dX10_motionAt_34 : decode cX10_motionAt 34 = .ok (.invokevirtual 101, 3) := by decide +kernel
theorem dX10_motionAt_37 : decode cX10_motionAt 37 = .ok (.ireturn, 1) := by decide +kernel
set_option maxHeartbeats 1000000 in
set_option maxRecDepth 20000 in
theorem m_motionAt (l : Launch) (D : va_G) (aT : Nat → ClassId) (ad : Nat → Nat) (S : MSt) (x : Int32) (hF : FoW (S 0)) : MdI l yX10_motionAt cX10_motionAt 2 .int 1 25 D aT ad [.ref (ad 0), .int x] S (fun r S1 => (isHB (nM (S 0)) x = false ∧ r = -1 ∧ S1 = ss S 8 (nI 1)) ∨ (∃ i, i < nM (S 0) ∧ x = nI i ∧ r = S 0 (29 + 4 * i) ∧ S1 = ss S 8 (nI 0))) := by
  refine MdI.of (by decide +kernel) rfl (Nat.le_of_ble_eq_true rfl) ?_
  intro p e s m below meth c A ls C hml hl hA hr hlocks hW
  have hl : lv_has ls 2 [(0, .ref (ad 0)), (1, .int x)] := hl
  have hx := C.1
  have hb := C.2.1
  refine lv_aload_n hx hb dX10_motionAt_0 rfl (lv_at hl 0 rfl) ?_
  refine lv_iconst (v := nI 0) hx hb dX10_motionAt_1 (by decide) ?_
  refine md_put_thrown C hW dX10_motionAt_2 (fun H locs hW => ?_)
  refine lv_iload_n hx hb dX10_motionAt_5 rfl (lv_at hl 1 rfl) ?_
  refine lv_i2l (v := (x).toInt64) hx hb dX10_motionAt_6 rfl ?_
  refine lv_lconst (v := 0) hx hb dX10_motionAt_7 (by decide) ?_
  refine lv_aload_n hx hb dX10_motionAt_8 rfl (lv_at hl 0 rfl) ?_
  refine md_geta_m C hW dX10_motionAt_9 ?_
  refine lv_iconst (v := nI 2) hx hb dX10_motionAt_12 (by decide) ?_
  refine md_ald_m C hW (i := 2) (by omega) dX10_motionAt_13 ?_
  refine r_eq (y := (nI (nM (S 0)))) (hF.1) ?_
  refine lv_iconst (v := nI 1) hx hb dX10_motionAt_14 (by decide) ?_
  refine lv_isub hx hb dX10_motionAt_15 ?_
  refine lv_i2l (v := ((nI (nM (S 0)) - nI 1)).toInt64) hx hb dX10_motionAt_16 rfl ?_
  refine md_calls C hml hl.1 (As := [.long ((x).toInt64), .long 0, .long (((nI (nM (S 0)) - nI 1)).toInt64)]) (rest := []) (m_in l ((x).toInt64) 0 (((nI (nM (S 0)) - nI 1)).toInt64)) gT_in hd_in rfl ⟨Nat.le_of_ble_eq_true rfl, Nat.le_of_ble_eq_true rfl⟩ ⟨Nat.le_refl _, Nat.le_refl _⟩ rfl (Nat.le_of_ble_eq_true rfl) dX10_motionAt_17 (fun r_17 hq => ?_)
  subst hq
  refine r_eq (y := (bI (isHB (nM (S 0)) x))) (congrArg bI (isH_eq (by have := hF.n12; omega) x)) ?_
  refine r_bI_eq hx hb (b := (isHB (nM (S 0)) x)) (tgt := 32) dX10_motionAt_20 (by decide) (fun c_20 => ?_) (fun c_20 => ?_)
  · refine lv_aload_n hx hb dX10_motionAt_32 rfl (lv_at hl 0 rfl) ?_
    refine lv_iconst (v := nI 1) hx hb dX10_motionAt_33 (by decide) ?_
    refine md_calli C hml hl.1 (As := [.int (nI 1)]) (rest := []) (m_throwing l D aT ad (ss S 8 (nI 0)) 1) gT_throwing hd_throwing rfl ⟨Nat.le_of_ble_eq_true rfl, Nat.le_of_ble_eq_true rfl⟩ ⟨Nat.le_refl _, Nat.le_refl _⟩ hW hA rfl (Nat.le_of_ble_eq_true rfl) dX10_motionAt_34 (fun r_34 S_34 H locs hq hW => ?_)
    obtain ⟨rfl, rfl⟩ := hq
    exact md_iret C hr hlocks rfl hW (Or.inl ⟨c_20, rfl, ss_ss _ _ _ _⟩) dX10_motionAt_37
  · obtain ⟨i, hi, rfl⟩ := isHB_nat c_20 (by have := hF.n12; omega)
    have h12 := hF.n12
    refine lv_aload_n hx hb dX10_motionAt_23 rfl (lv_at hl 0 rfl) ?_
    refine lv_iload_n hx hb dX10_motionAt_24 rfl (lv_at hl 1 rfl) ?_
    refine lv_iconst (v := nI 0) hx hb dX10_motionAt_25 (by decide) ?_
    refine md_callg C hml hl.1 (As := [.int (nI i), .int (nI 0)]) (rest := []) (m_of l D aT ad (ss S 8 (nI 0)) i 0 (by omega)) gT_of hd_of rfl ⟨Nat.le_of_ble_eq_true rfl, Nat.le_of_ble_eq_true rfl⟩ ⟨Nat.le_refl _, Nat.le_refl _⟩ hW hA rfl (Nat.le_of_ble_eq_true rfl) dX10_motionAt_26 (fun r_26 H locs hq hW => ?_)
    subst hq
    refine r_eq (y := (S 0 (29 + 4 * i + 0))) (rfl) ?_
    refine lv_goto (tgt := 37) hx hb dX10_motionAt_29 (by decide) ?_
    exact md_iret C hr hlocks rfl hW (Or.inr ⟨i, hi, rfl, rfl, rfl⟩) dX10_motionAt_37
theorem gT_ofMotion : GoodIn gw (wsV RX10 172 RX10 yX10_ofMotion (Cond.code yX10_ofMotion cX10_ofMotion 3 (some .int) :: gw)) := gdV gw_1888 gw_1890 gw_47 gw_81 gw_1891
theorem hd_ofMotion : yX10_ofMotion.cls = RX10 ∧ yX10_ofMotion.cls ≠ "java/lang/invoke/MethodHandle" ∧ yX10_ofMotion.cls ≠ "java/lang/invoke/VarHandle" ∧ (parseMethodDescriptor yX10_ofMotion.desc).map (fun d => d.parameters.length) = some 2 := ⟨rfl, by decide +kernel, by decide +kernel, by decide +kernel⟩
theorem dX10_ofMotion_0 : decode cX10_ofMotion 0 = .ok (.aload_n 0, 1) := by decide +kernel
theorem dX10_ofMotion_1 : decode cX10_ofMotion 1 = .ok (.iconst 0, 1) := by decide +kernel
theorem dX10_ofMotion_2 : decode cX10_ofMotion 2 = .ok (.putfield 57, 3) := by decide +kernel
theorem dX10_ofMotion_5 : decode cX10_ofMotion 5 = .ok (.aload_n 0, 1) := by decide +kernel
theorem dX10_ofMotion_6 : decode cX10_ofMotion 6 = .ok (.iload_n 1, 1) := by decide +kernel
theorem dX10_ofMotion_7 : decode cX10_ofMotion 7 = .ok (.invokevirtual 71, 3) := by decide +kernel
theorem dX10_ofMotion_10 : decode cX10_ofMotion 10 = .ok (.iconst (-1), 1) := by decide +kernel
theorem dX10_ofMotion_11 : decode cX10_ofMotion 11 = .ok (.if_icmp .ne 11, 3) := by decide +kernel
theorem dX10_ofMotion_14 : decode cX10_ofMotion 14 = .ok (.aload_n 0, 1) := by decide +kernel
theorem dX10_ofMotion_15 : decode cX10_ofMotion 15 = .ok (.iconst 1, 1) := by decide +kernel
theorem dX10_ofMotion_16 : decode cX10_ofMotion 16 = .ok (.invokevirtual 101, 3) := by decide +kernel
theorem dX10_ofMotion_19 : decode cX10_ofMotion 19 = .ok (.goto 13, 3) := by decide +kernel
theorem dX10_ofMotion_22 : decode cX10_ofMotion 22 = .ok (.aload_n 0, 1) := by decide +kernel
theorem dX10_ofMotion_23 : decode cX10_ofMotion 23 = .ok (.aload_n 0, 1) := by decide +kernel
theorem dX10_ofMotion_24 : decode cX10_ofMotion 24 = .ok (.iload_n 1, 1) := by decide +kernel
theorem dX10_ofMotion_25 : decode cX10_ofMotion 25 = .ok (.invokevirtual 71, 3) := by decide +kernel
theorem dX10_ofMotion_28 : decode cX10_ofMotion 28 = .ok (.iload_n 2, 1) := by decide +kernel
theorem dX10_ofMotion_29 : decode cX10_ofMotion 29 = .ok (.invokevirtual 67, 3) := by decide +kernel
theorem dX10_ofMotion_32 : decode cX10_ofMotion 32 = .ok (.ireturn, 1) := by decide +kernel
set_option maxHeartbeats 1000000 in
set_option maxRecDepth 20000 in
theorem m_ofMotion (l : Launch) (D : va_G) (aT : Nat → ClassId) (ad : Nat → Nat) (S : MSt) (x : Int32) (w : Nat) (hw4 : w < 4) (hF : FoW (S 0)) : MdI l yX10_ofMotion cX10_ofMotion 3 .int 2 44 D aT ad [.ref (ad 0), .int x, .int (nI w)] S (fun r S1 => (fnd (fun k => S 0 (29 + 4 * k)) x (nM (S 0)) = none ∧ r = -1 ∧ S1 = ss S 8 (nI 1)) ∨ (∃ q, fnd (fun k => S 0 (29 + 4 * k)) x (nM (S 0)) = some q ∧ r = S 0 (29 + 4 * q + w) ∧ S1 = ss S 8 (nI 0))) := by
  refine MdI.of (by decide +kernel) rfl (Nat.le_of_ble_eq_true rfl) ?_
  intro p e s m below meth c A ls C hml hl hA hr hlocks hW
  have hl : lv_has ls 3 [(0, .ref (ad 0)), (1, .int x), (2, .int (nI w))] := hl
  have hx := C.1
  have hb := C.2.1
  refine lv_aload_n hx hb dX10_ofMotion_0 rfl (lv_at hl 0 rfl) ?_
  refine lv_iconst (v := nI 0) hx hb dX10_ofMotion_1 (by decide) ?_
  refine md_put_thrown C hW dX10_ofMotion_2 (fun H locs hW => ?_)
  refine lv_aload_n hx hb dX10_ofMotion_5 rfl (lv_at hl 0 rfl) ?_
  refine lv_iload_n hx hb dX10_ofMotion_6 rfl (lv_at hl 1 rfl) ?_
  refine md_callg C hml hl.1 (As := [.int x]) (rest := []) (m_find l D aT ad (ss S 8 (nI 0)) (x) (nM (S 0)) hF.1 hF.2.1) gT_find hd_find rfl ⟨Nat.le_of_ble_eq_true rfl, Nat.le_of_ble_eq_true rfl⟩ ⟨Nat.le_refl _, Nat.le_refl _⟩ hW hA rfl (Nat.le_of_ble_eq_true rfl) dX10_ofMotion_7 (fun r_7 H locs hq hW => ?_)
  subst hq
  refine lv_iconst (v := (-1)) hx hb dX10_ofMotion_10 (by decide) ?_
  refine r_oi_ne hx hb (o := (fnd (fun k => (ss S 8 (nI 0)) 0 (29 + 4 * k)) (x) (nM (S 0)))) (fun j hj => by have := (fnd_some hj).1; have := hF.n12; omega) (tgt := 22) dX10_ofMotion_11 (by decide) (fun j_11 c_11 => ?_) (fun c_11 => ?_)
  · have hq0 := (fnd_some c_11).1
    have h12 := hF.n12
    refine lv_aload_n hx hb dX10_ofMotion_22 rfl (lv_at hl 0 rfl) ?_
    refine lv_aload_n hx hb dX10_ofMotion_23 rfl (lv_at hl 0 rfl) ?_
    refine lv_iload_n hx hb dX10_ofMotion_24 rfl (lv_at hl 1 rfl) ?_
    refine md_callg C hml hl.1 (As := [.int x]) (rest := [.ref (ad 0)]) (m_find l D aT ad (ss S 8 (nI 0)) (x) (nM (S 0)) hF.1 hF.2.1) gT_find hd_find rfl ⟨Nat.le_of_ble_eq_true rfl, Nat.le_of_ble_eq_true rfl⟩ ⟨Nat.le_refl _, Nat.le_refl _⟩ hW hA rfl (Nat.le_of_ble_eq_true rfl) dX10_ofMotion_25 (fun r_25 H locs hq hW => ?_)
    subst hq
    refine r_eq (y := (nI j_11)) (by rw [c_11]; rfl) ?_
    refine lv_iload_n hx hb dX10_ofMotion_28 rfl (lv_at hl 2 rfl) ?_
    refine md_callg C hml hl.1 (As := [.int (nI j_11), .int (nI w)]) (rest := []) (m_of l D aT ad (ss S 8 (nI 0)) j_11 w (by omega)) gT_of hd_of rfl ⟨Nat.le_of_ble_eq_true rfl, Nat.le_of_ble_eq_true rfl⟩ ⟨Nat.le_refl _, Nat.le_refl _⟩ hW hA rfl (Nat.le_of_ble_eq_true rfl) dX10_ofMotion_29 (fun r_29 H locs hq hW => ?_)
    subst hq
    exact md_iret C hr hlocks rfl hW (Or.inr ⟨j_11, c_11, rfl, rfl⟩) dX10_ofMotion_32
  · refine lv_aload_n hx hb dX10_ofMotion_14 rfl (lv_at hl 0 rfl) ?_
    refine lv_iconst (v := nI 1) hx hb dX10_ofMotion_15 (by decide) ?_
    refine md_calli C hml hl.1 (As := [.int (nI 1)]) (rest := []) (m_throwing l D aT ad (ss S 8 (nI 0)) 1) gT_throwing hd_throwing rfl ⟨Nat.le_of_ble_eq_true rfl, Nat.le_of_ble_eq_true rfl⟩ ⟨Nat.le_refl _, Nat.le_refl _⟩ hW hA rfl (Nat.le_of_ble_eq_true rfl) dX10_ofMotion_16 (fun r_16 S_16 H locs hq hW => ?_)
    obtain ⟨rfl, rfl⟩ := hq
    refine lv_goto (tgt := 32) hx hb dX10_ofMotion_19 (by decide) ?_
    exact md_iret C hr hlocks rfl hW (Or.inl ⟨c_11, rfl, ss_ss _ _ _ _⟩) dX10_ofMotion_32
theorem dX10_tone_0 : decode cX10_tone 0 = .ok (.aload_n 0, 1) := by decide +kernel
theorem dX10_tone_1 : decode cX10_tone 1 = .ok (.iload_n 1, 1) := by decide +kernel
theorem dX10_tone_2 : decode cX10_tone 2 = .ok (.iconst 2, 1) := by decide +kernel
theorem dX10_tone_3 : decode cX10_tone 3 = .ok (.invokevirtual 172, 3) := by decide +kernel
theorem dX10_tone_6 : decode cX10_tone 6 = .ok (.ireturn, 1) := by decide +kernel
set_option maxHeartbeats 1000000 in
set_option maxRecDepth 20000 in
theorem m_tone (l : Launch) (D : va_G) (aT : Nat → ClassId) (ad : Nat → Nat) (S : MSt) (x : Int32) (hF : FoW (S 0)) : MdI l yX10_tone cX10_tone 2 .int 3 66 D aT ad [.ref (ad 0), .int x] S (fun r S1 => (fnd (fun k => S 0 (29 + 4 * k)) x (nM (S 0)) = none ∧ r = -1 ∧ S1 = ss S 8 (nI 1)) ∨ (∃ q, fnd (fun k => S 0 (29 + 4 * k)) x (nM (S 0)) = some q ∧ r = S 0 (29 + 4 * q + 2) ∧ S1 = ss S 8 (nI 0))) := by
  refine MdI.of (by decide +kernel) rfl (Nat.le_of_ble_eq_true rfl) ?_
  intro p e s m below meth c A ls C hml hl hA hr hlocks hW
  have hl : lv_has ls 2 [(0, .ref (ad 0)), (1, .int x)] := hl
  have hx := C.1
  have hb := C.2.1
  refine lv_aload_n hx hb dX10_tone_0 rfl (lv_at hl 0 rfl) ?_
  refine lv_iload_n hx hb dX10_tone_1 rfl (lv_at hl 1 rfl) ?_
  refine lv_iconst (v := nI 2) hx hb dX10_tone_2 (by decide) ?_
  refine md_calli C hml hl.1 (As := [.int x, .int (nI 2)]) (rest := []) (m_ofMotion l D aT ad S (x) 2 (by decide) hF) gT_ofMotion hd_ofMotion rfl ⟨Nat.le_of_ble_eq_true rfl, Nat.le_of_ble_eq_true rfl⟩ ⟨Nat.le_refl _, Nat.le_refl _⟩ hW hA rfl (Nat.le_of_ble_eq_true rfl) dX10_tone_3 (fun r_3 S_3 H locs hq hW => ?_)
  rcases hq with ⟨h1, rfl, rfl⟩ | ⟨q, h1, rfl, rfl⟩
  · exact md_iret C hr hlocks rfl hW (Or.inl ⟨h1, rfl, rfl⟩) dX10_tone_6
  · exact md_iret C hr hlocks rfl hW (Or.inr ⟨q, h1, rfl, rfl⟩) dX10_tone_6
theorem dX10_weight_0 : decode cX10_weight 0 = .ok (.aload_n 0, 1) := by decide +kernel
theorem dX10_weight_1 : decode cX10_weight 1 = .ok (.iload_n 1, 1) := by decide +kernel
theorem dX10_weight_2 : decode cX10_weight 2 = .ok (.iconst 3, 1) := by decide +kernel
theorem dX10_weight_3 : decode cX10_weight 3 = .ok (.invokevirtual 172, 3) := by decide +kernel
theorem dX10_weight_6 : decode cX10_weight 6 = .ok (.ireturn, 1) := by decide +kernel
set_option maxHeartbeats 1000000 in
set_option maxRecDepth 20000 in
theorem m_weight (l : Launch) (D : va_G) (aT : Nat → ClassId) (ad : Nat → Nat) (S : MSt) (x : Int32) (hF : FoW (S 0)) : MdI l yX10_weight cX10_weight 2 .int 3 66 D aT ad [.ref (ad 0), .int x] S (fun r S1 => (fnd (fun k => S 0 (29 + 4 * k)) x (nM (S 0)) = none ∧ r = -1 ∧ S1 = ss S 8 (nI 1)) ∨ (∃ q, fnd (fun k => S 0 (29 + 4 * k)) x (nM (S 0)) = some q ∧ r = S 0 (29 + 4 * q + 3) ∧ S1 = ss S 8 (nI 0))) := by
  refine MdI.of (by decide +kernel) rfl (Nat.le_of_ble_eq_true rfl) ?_
  intro p e s m below meth c A ls C hml hl hA hr hlocks hW
  have hl : lv_has ls 2 [(0, .ref (ad 0)), (1, .int x)] := hl
  have hx := C.1
  have hb := C.2.1
  refine lv_aload_n hx hb dX10_weight_0 rfl (lv_at hl 0 rfl) ?_
  refine lv_iload_n hx hb dX10_weight_1 rfl (lv_at hl 1 rfl) ?_
  refine lv_iconst (v := nI 3) hx hb dX10_weight_2 (by decide) ?_
  refine md_calli C hml hl.1 (As := [.int x, .int (nI 3)]) (rest := []) (m_ofMotion l D aT ad S (x) 3 (by decide) hF) gT_ofMotion hd_ofMotion rfl ⟨Nat.le_of_ble_eq_true rfl, Nat.le_of_ble_eq_true rfl⟩ ⟨Nat.le_refl _, Nat.le_refl _⟩ hW hA rfl (Nat.le_of_ble_eq_true rfl) dX10_weight_3 (fun r_3 S_3 H locs hq hW => ?_)
  rcases hq with ⟨h1, rfl, rfl⟩ | ⟨q, h1, rfl, rfl⟩
  · exact md_iret C hr hlocks rfl hW (Or.inl ⟨h1, rfl, rfl⟩) dX10_weight_6
  · exact md_iret C hr hlocks rfl hW (Or.inr ⟨q, h1, rfl, rfl⟩) dX10_weight_6
theorem dX10_depth_0 : decode cX10_depth 0 = .ok (.aload_n 0, 1) := by decide +kernel
theorem dX10_depth_1 : decode cX10_depth 1 = .ok (.iconst 0, 1) := by decide +kernel
theorem dX10_depth_2 : decode cX10_depth 2 = .ok (.putfield 57, 3) := by decide +kernel
theorem dX10_depth_5 : decode cX10_depth 5 = .ok (.aload_n 0, 1) := by decide +kernel
theorem dX10_depth_6 : decode cX10_depth 6 = .ok (.iload_n 1, 1) := by decide +kernel
theorem dX10_depth_7 : decode cX10_depth 7 = .ok (.invokevirtual 71, 3) := by decide +kernel
theorem dX10_depth_10 : decode cX10_depth 10 = .ok (.iconst (-1), 1) := by decide +kernel
theorem dX10_depth_11 : decode cX10_depth 11 = .ok (.if_icmp .ne 11, 3) := by decide +kernel
theorem dX10_depth_14 : decode cX10_depth 14 = .ok (.aload_n 0, 1) := by decide +kernel
theorem dX10_depth_15 : decode cX10_depth 15 = .ok (.iconst 1, 1) := by decide +kernel
theorem dX10_depth_16 : decode cX10_depth 16 = .ok (.invokevirtual 101, 3) := by decide +kernel
theorem dX10_depth_19 : decode cX10_depth 19 = .ok (.goto 12, 3) := by decide +kernel
theorem dX10_depth_22 : decode cX10_depth 22 = .ok (.aload_n 0, 1) := by decide +kernel
theorem dX10_depth_23 : decode cX10_depth 23 = .ok (.aload_n 0, 1) := by decide +kernel
theorem dX10_depth_24 : decode cX10_depth 24 = .ok (.iload_n 1, 1) := by decide +kernel
theorem dX10_depth_25 : decode cX10_depth 25 = .ok (.invokevirtual 71, 3) := by decide +kernel
theorem dX10_depth_28 : decode cX10_depth 28 = .ok (.invokevirtual 125, 3) := by decide +kernel
theorem dX10_depth_31 : decode cX10_depth 31 = .ok (.ireturn, 1) := by decide +kernel
set_option maxHeartbeats 1000000 in
set_option maxRecDepth 20000 in
theorem m_depth (l : Launch) (D : va_G) (aT : Nat → ClassId) (ad : Nat → Nat) (S : MSt) (x : Int32) (hF : FoW (S 0)) : MdI l yX10_depth cX10_depth 2 .int 4 88 D aT ad [.ref (ad 0), .int x] S (fun r S1 => (fnd (fun k => S 0 (29 + 4 * k)) x (nM (S 0)) = none ∧ r = -1 ∧ S1 = ss S 8 (nI 1)) ∨ (∃ q, fnd (fun k => S 0 (29 + 4 * k)) x (nM (S 0)) = some q ∧ r = nI (dep (prM (S 0)) q) ∧ S1 = ss S 8 (nI 0))) := by
  refine MdI.of (by decide +kernel) rfl (Nat.le_of_ble_eq_true rfl) ?_
  intro p e s m below meth c A ls C hml hl hA hr hlocks hW
  have hl : lv_has ls 2 [(0, .ref (ad 0)), (1, .int x)] := hl
  have hx := C.1
  have hb := C.2.1
  refine lv_aload_n hx hb dX10_depth_0 rfl (lv_at hl 0 rfl) ?_
  refine lv_iconst (v := nI 0) hx hb dX10_depth_1 (by decide) ?_
  refine md_put_thrown C hW dX10_depth_2 (fun H locs hW => ?_)
  refine lv_aload_n hx hb dX10_depth_5 rfl (lv_at hl 0 rfl) ?_
  refine lv_iload_n hx hb dX10_depth_6 rfl (lv_at hl 1 rfl) ?_
  refine md_callg C hml hl.1 (As := [.int x]) (rest := []) (m_find l D aT ad (ss S 8 (nI 0)) (x) (nM (S 0)) hF.1 hF.2.1) gT_find hd_find rfl ⟨Nat.le_of_ble_eq_true rfl, Nat.le_of_ble_eq_true rfl⟩ ⟨Nat.le_refl _, Nat.le_refl _⟩ hW hA rfl (Nat.le_of_ble_eq_true rfl) dX10_depth_7 (fun r_7 H locs hq hW => ?_)
  subst hq
  refine lv_iconst (v := (-1)) hx hb dX10_depth_10 (by decide) ?_
  refine r_oi_ne hx hb (o := (fnd (fun k => (ss S 8 (nI 0)) 0 (29 + 4 * k)) (x) (nM (S 0)))) (fun j hj => by have := (fnd_some hj).1; have := hF.n12; omega) (tgt := 22) dX10_depth_11 (by decide) (fun j_11 c_11 => ?_) (fun c_11 => ?_)
  · have hq0 := (fnd_some c_11).1
    have h12 := hF.n12
    refine lv_aload_n hx hb dX10_depth_22 rfl (lv_at hl 0 rfl) ?_
    refine lv_aload_n hx hb dX10_depth_23 rfl (lv_at hl 0 rfl) ?_
    refine lv_iload_n hx hb dX10_depth_24 rfl (lv_at hl 1 rfl) ?_
    refine md_callg C hml hl.1 (As := [.int x]) (rest := [.ref (ad 0)]) (m_find l D aT ad (ss S 8 (nI 0)) (x) (nM (S 0)) hF.1 hF.2.1) gT_find hd_find rfl ⟨Nat.le_of_ble_eq_true rfl, Nat.le_of_ble_eq_true rfl⟩ ⟨Nat.le_refl _, Nat.le_refl _⟩ hW hA rfl (Nat.le_of_ble_eq_true rfl) dX10_depth_25 (fun r_25 H locs hq hW => ?_)
    subst hq
    refine r_eq (y := (nI j_11)) (by rw [c_11]; rfl) ?_
    refine md_callg C hml hl.1 (As := [.int (nI j_11)]) (rest := []) (m_deep l D aT ad (ss S 8 (nI 0)) (nM (S 0)) (idM (S 0)) (prM (S 0)) (tnM (S 0)) hF j_11 (hq0)) gT_deep hd_deep rfl ⟨Nat.le_of_ble_eq_true rfl, Nat.le_of_ble_eq_true rfl⟩ ⟨Nat.le_refl _, Nat.le_refl _⟩ hW hA rfl (Nat.le_of_ble_eq_true rfl) dX10_depth_28 (fun r_28 H locs hq hW => ?_)
    subst hq
    exact md_iret C hr hlocks rfl hW (Or.inr ⟨j_11, c_11, rfl, rfl⟩) dX10_depth_31
  · refine lv_aload_n hx hb dX10_depth_14 rfl (lv_at hl 0 rfl) ?_
    refine lv_iconst (v := nI 1) hx hb dX10_depth_15 (by decide) ?_
    refine md_calli C hml hl.1 (As := [.int (nI 1)]) (rest := []) (m_throwing l D aT ad (ss S 8 (nI 0)) 1) gT_throwing hd_throwing rfl ⟨Nat.le_of_ble_eq_true rfl, Nat.le_of_ble_eq_true rfl⟩ ⟨Nat.le_refl _, Nat.le_refl _⟩ hW hA rfl (Nat.le_of_ble_eq_true rfl) dX10_depth_16 (fun r_16 S_16 H locs hq hW => ?_)
    obtain ⟨rfl, rfl⟩ := hq
    refine lv_goto (tgt := 31) hx hb dX10_depth_19 (by decide) ?_
    exact md_iret C hr hlocks rfl hW (Or.inl ⟨c_11, rfl, ss_ss _ _ _ _⟩) dX10_depth_31
theorem dX10_isTip_0 : decode cX10_isTip 0 = .ok (.aload_n 0, 1) := by decide +kernel
theorem dX10_isTip_1 : decode cX10_isTip 1 = .ok (.iconst 0, 1) := by decide +kernel
theorem dX10_isTip_2 : decode cX10_isTip 2 = .ok (.putfield 57, 3) := by decide +kernel
theorem dX10_isTip_5 : decode cX10_isTip 5 = .ok (.aload_n 0, 1) := by decide +kernel
theorem dX10_isTip_6 : decode cX10_isTip 6 = .ok (.iload_n 1, 1) := by decide +kernel
theorem dX10_isTip_7 : decode cX10_isTip 7 = .ok (.invokevirtual 71, 3) := by decide +kernel
theorem dX10_isTip_10 : decode cX10_isTip 10 = .ok (.iconst (-1), 1) := by decide +kernel
theorem dX10_isTip_11 : decode cX10_isTip 11 = .ok (.if_icmp .ne 11, 3) := by decide +kernel
theorem dX10_isTip_14 : decode cX10_isTip 14 = .ok (.aload_n 0, 1) := by decide +kernel
theorem dX10_isTip_15 : decode cX10_isTip 15 = .ok (.iconst 1, 1) := by decide +kernel
theorem dX10_isTip_16 : decode cX10_isTip 16 = .ok (.invokevirtual 101, 3) := by decide +kernel
theorem dX10_isTip_19 : decode cX10_isTip 19 = .ok (.pop, 1) := by decide +kernel
theorem dX10_isTip_20 : decode cX10_isTip 20 = .ok (.iconst 0, 1) := by decide +kernel
theorem dX10_isTip_21 : decode cX10_isTip 21 = .ok (.ireturn, 1) := by decide +kernel
theorem dX10_isTip_22 : decode cX10_isTip 22 = .ok (.aload_n 0, 1) := by decide +kernel
theorem dX10_isTip_23 : decode cX10_isTip 23 = .ok (.aload_n 0, 1) := by decide +kernel
theorem dX10_isTip_24 : decode cX10_isTip 24 = .ok (.iload_n 1, 1) := by decide +kernel
theorem dX10_isTip_25 : decode cX10_isTip 25 = .ok (.invokevirtual 71, 3) := by decide +kernel
theorem dX10_isTip_28 : decode cX10_isTip 28 = .ok (.invokevirtual 82, 3) := by decide +kernel
theorem dX10_isTip_31 : decode cX10_isTip 31 = .ok (.ireturn, 1) := by decide +kernel
set_option maxHeartbeats 1000000 in
set_option maxRecDepth 20000 in
theorem m_isTip (l : Launch) (D : va_G) (aT : Nat → ClassId) (ad : Nat → Nat) (S : MSt) (x : Int32) (hF : FoW (S 0)) : MdI l yX10_isTip cX10_isTip 2 .boolean 4 88 D aT ad [.ref (ad 0), .int x] S (fun r S1 => (fnd (fun k => S 0 (29 + 4 * k)) x (nM (S 0)) = none ∧ r = nI 0 ∧ S1 = ss S 8 (nI 1)) ∨ (∃ q, fnd (fun k => S 0 (29 + 4 * k)) x (nM (S 0)) = some q ∧ r = bI (tipB (prM (S 0)) q (nM (S 0))) ∧ S1 = ss S 8 (nI 0))) := by
  refine MdI.of (by decide +kernel) rfl (Nat.le_of_ble_eq_true rfl) ?_
  intro p e s m below meth c A ls C hml hl hA hr hlocks hW
  have hl : lv_has ls 2 [(0, .ref (ad 0)), (1, .int x)] := hl
  have hx := C.1
  have hb := C.2.1
  refine lv_aload_n hx hb dX10_isTip_0 rfl (lv_at hl 0 rfl) ?_
  refine lv_iconst (v := nI 0) hx hb dX10_isTip_1 (by decide) ?_
  refine md_put_thrown C hW dX10_isTip_2 (fun H locs hW => ?_)
  refine lv_aload_n hx hb dX10_isTip_5 rfl (lv_at hl 0 rfl) ?_
  refine lv_iload_n hx hb dX10_isTip_6 rfl (lv_at hl 1 rfl) ?_
  refine md_callg C hml hl.1 (As := [.int x]) (rest := []) (m_find l D aT ad (ss S 8 (nI 0)) (x) (nM (S 0)) hF.1 hF.2.1) gT_find hd_find rfl ⟨Nat.le_of_ble_eq_true rfl, Nat.le_of_ble_eq_true rfl⟩ ⟨Nat.le_refl _, Nat.le_refl _⟩ hW hA rfl (Nat.le_of_ble_eq_true rfl) dX10_isTip_7 (fun r_7 H locs hq hW => ?_)
  subst hq
  refine lv_iconst (v := (-1)) hx hb dX10_isTip_10 (by decide) ?_
  refine r_oi_ne hx hb (o := (fnd (fun k => (ss S 8 (nI 0)) 0 (29 + 4 * k)) (x) (nM (S 0)))) (fun j hj => by have := (fnd_some hj).1; have := hF.n12; omega) (tgt := 22) dX10_isTip_11 (by decide) (fun j_11 c_11 => ?_) (fun c_11 => ?_)
  · have hq0 := (fnd_some c_11).1
    have h12 := hF.n12
    refine lv_aload_n hx hb dX10_isTip_22 rfl (lv_at hl 0 rfl) ?_
    refine lv_aload_n hx hb dX10_isTip_23 rfl (lv_at hl 0 rfl) ?_
    refine lv_iload_n hx hb dX10_isTip_24 rfl (lv_at hl 1 rfl) ?_
    refine md_callg C hml hl.1 (As := [.int x]) (rest := [.ref (ad 0)]) (m_find l D aT ad (ss S 8 (nI 0)) (x) (nM (S 0)) hF.1 hF.2.1) gT_find hd_find rfl ⟨Nat.le_of_ble_eq_true rfl, Nat.le_of_ble_eq_true rfl⟩ ⟨Nat.le_refl _, Nat.le_refl _⟩ hW hA rfl (Nat.le_of_ble_eq_true rfl) dX10_isTip_25 (fun r_25 H locs hq hW => ?_)
    subst hq
    refine r_eq (y := (nI j_11)) (by rw [c_11]; rfl) ?_
    refine md_callg C hml hl.1 (As := [.int (nI j_11)]) (rest := []) (m_isTipAt l D aT ad (ss S 8 (nI 0)) (nM (S 0)) (idM (S 0)) (prM (S 0)) (tnM (S 0)) hF j_11 (hq0)) gT_isTipAt hd_isTipAt rfl ⟨Nat.le_of_ble_eq_true rfl, Nat.le_of_ble_eq_true rfl⟩ ⟨Nat.le_refl _, Nat.le_refl _⟩ hW hA rfl (Nat.le_of_ble_eq_true rfl) dX10_isTip_28 (fun r_28 H locs hq hW => ?_)
    subst hq
    exact md_iret C hr hlocks (bI_nar _) hW (Or.inr ⟨j_11, c_11, rfl, rfl⟩) dX10_isTip_31
  · refine lv_aload_n hx hb dX10_isTip_14 rfl (lv_at hl 0 rfl) ?_
    refine lv_iconst (v := nI 1) hx hb dX10_isTip_15 (by decide) ?_
    refine md_calli C hml hl.1 (As := [.int (nI 1)]) (rest := []) (m_throwing l D aT ad (ss S 8 (nI 0)) 1) gT_throwing hd_throwing rfl ⟨Nat.le_of_ble_eq_true rfl, Nat.le_of_ble_eq_true rfl⟩ ⟨Nat.le_refl _, Nat.le_refl _⟩ hW hA rfl (Nat.le_of_ble_eq_true rfl) dX10_isTip_16 (fun r_16 S_16 H locs hq hW => ?_)
    obtain ⟨rfl, rfl⟩ := hq
    refine lv_pop hx hb dX10_isTip_19 rfl ?_
    refine lv_iconst (v := nI 0) hx hb dX10_isTip_20 (by decide) ?_
    exact md_iret C hr hlocks (by decide) hW (Or.inl ⟨c_11, rfl, ss_ss _ _ _ _⟩) dX10_isTip_21
theorem dX10_lastTip_0 : decode cX10_lastTip 0 = .ok (.aload_n 0, 1) := by decide +kernel
theorem dX10_lastTip_1 : decode cX10_lastTip 1 = .ok (.iconst 0, 1) := by decide +kernel
theorem dX10_lastTip_2 : decode cX10_lastTip 2 = .ok (.putfield 57, 3) := by decide +kernel
theorem dX10_lastTip_5 : decode cX10_lastTip 5 = .ok (.aload_n 0, 1) := by decide +kernel
theorem dX10_lastTip_6 : decode cX10_lastTip 6 = .ok (.iload_n 1, 1) := by decide +kernel
theorem dX10_lastTip_7 : decode cX10_lastTip 7 = .ok (.invokevirtual 71, 3) := by decide +kernel
theorem dX10_lastTip_10 : decode cX10_lastTip 10 = .ok (.istore_n 2, 1) := by decide +kernel
theorem dX10_lastTip_11 : decode cX10_lastTip 11 = .ok (.iload_n 2, 1) := by decide +kernel
theorem dX10_lastTip_12 : decode cX10_lastTip 12 = .ok (.iconst (-1), 1) := by decide +kernel
theorem dX10_lastTip_13 : decode cX10_lastTip 13 = .ok (.if_icmp .ne 11, 3) := by decide +kernel
theorem dX10_lastTip_16 : decode cX10_lastTip 16 = .ok (.aload_n 0, 1) := by decide +kernel
theorem dX10_lastTip_17 : decode cX10_lastTip 17 = .ok (.iconst 1, 1) := by decide +kernel
theorem dX10_lastTip_18 : decode cX10_lastTip 18 = .ok (.invokevirtual 101, 3) := by decide +kernel
theorem dX10_lastTip_21 : decode cX10_lastTip 21 = .ok (.goto 13, 3) := by decide +kernel
theorem dX10_lastTip_24 : decode cX10_lastTip 24 = .ok (.aload_n 0, 1) := by decide +kernel
theorem dX10_lastTip_25 : decode cX10_lastTip 25 = .ok (.aload_n 0, 1) := by decide +kernel
theorem dX10_lastTip_26 : decode cX10_lastTip 26 = .ok (.iload_n 2, 1) := by decide +kernel
theorem dX10_lastTip_27 : decode cX10_lastTip 27 = .ok (.invokevirtual 135, 3) := by decide +kernel
theorem dX10_lastTip_30 : decode cX10_lastTip 30 = .ok (.iconst 0, 1) := by decide +kernel
theorem dX10_lastTip_31 : decode cX10_lastTip 31 = .ok (.invokevirtual 67, 3) := by decide +kernel
theorem dX10_lastTip_34 : decode cX10_lastTip 34 = .ok (.ireturn, 1) := by decide +kernel
set_option maxHeartbeats 1000000 in
set_option maxRecDepth 20000 in
theorem m_lastTip (l : Launch) (D : va_G) (aT : Nat → ClassId) (ad : Nat → Nat) (S : MSt) (x : Int32) (hF : FoW (S 0)) : MdI l yX10_lastTip cX10_lastTip 3 .int 5 111 D aT ad [.ref (ad 0), .int x] S (fun r S1 => (fnd (fun k => S 0 (29 + 4 * k)) x (nM (S 0)) = none ∧ r = -1 ∧ S1 = ss S 8 (nI 1)) ∨ (∃ q t, fnd (fun k => S 0 (29 + 4 * k)) x (nM (S 0)) = some q ∧ ltp (prM (S 0)) (nM (S 0)) q (nM (S 0)) = some t ∧ r = S 0 (29 + 4 * t) ∧ S1 = ss S 8 (nI 0))) := by
  refine MdI.of (by decide +kernel) rfl (Nat.le_of_ble_eq_true rfl) ?_
  intro p e s m below meth c A ls C hml hl hA hr hlocks hW
  have hl : lv_has ls 3 [(0, .ref (ad 0)), (1, .int x)] := hl
  have hx := C.1
  have hb := C.2.1
  refine lv_aload_n hx hb dX10_lastTip_0 rfl (lv_at hl 0 rfl) ?_
  refine lv_iconst (v := nI 0) hx hb dX10_lastTip_1 (by decide) ?_
  refine md_put_thrown C hW dX10_lastTip_2 (fun H locs hW => ?_)
  refine lv_aload_n hx hb dX10_lastTip_5 rfl (lv_at hl 0 rfl) ?_
  refine lv_iload_n hx hb dX10_lastTip_6 rfl (lv_at hl 1 rfl) ?_
  refine md_callg C hml hl.1 (As := [.int x]) (rest := []) (m_find l D aT ad (ss S 8 (nI 0)) (x) (nM (S 0)) hF.1 hF.2.1) gT_find hd_find rfl ⟨Nat.le_of_ble_eq_true rfl, Nat.le_of_ble_eq_true rfl⟩ ⟨Nat.le_refl _, Nat.le_refl _⟩ hW hA rfl (Nat.le_of_ble_eq_true rfl) dX10_lastTip_7 (fun r_7 H locs hq hW => ?_)
  subst hq
  refine lv_istore_n (lv' := [(2, .int (oi (fnd (fun k => (ss S 8 (nI 0)) 0 (29 + 4 * k)) (x) (nM (S 0))))), (0, .ref (ad 0)), (1, .int x)]) hx hb dX10_lastTip_10 rfl hl (by decide) rfl (fun ls hl => ?_)
  refine lv_iload_n hx hb dX10_lastTip_11 rfl (lv_at hl 0 rfl) ?_
  refine lv_iconst (v := (-1)) hx hb dX10_lastTip_12 (by decide) ?_
  refine r_oi_ne hx hb (o := (fnd (fun k => (ss S 8 (nI 0)) 0 (29 + 4 * k)) (x) (nM (S 0)))) (fun j hj => by have := (fnd_some hj).1; have := hF.n12; omega) (tgt := 24) dX10_lastTip_13 (by decide) (fun j_13 c_13 => ?_) (fun c_13 => ?_)
  · have hl : lv_has ls 3 [(2, .int (nI j_13)), (0, .ref (ad 0)), (1, .int x)] := by rw [c_13] at hl; exact hl
    have hq0 := (fnd_some c_13).1
    have h12 := hF.n12
    refine lv_aload_n hx hb dX10_lastTip_24 rfl (lv_at hl 1 rfl) ?_
    refine lv_aload_n hx hb dX10_lastTip_25 rfl (lv_at hl 1 rfl) ?_
    refine lv_iload_n hx hb dX10_lastTip_26 rfl (lv_at hl 0 rfl) ?_
    obtain ⟨t, ht, htn⟩ := ltp_ex hF.ok hq0
    refine md_callg C hml hl.1 (As := [.int (nI j_13)]) (rest := [.ref (ad 0)]) (m_lastTipAt l D aT ad (ss S 8 (nI 0)) (nM (S 0)) (idM (S 0)) (prM (S 0)) (tnM (S 0)) hF j_13 (hq0)) gT_lastTipAt hd_lastTipAt rfl ⟨Nat.le_of_ble_eq_true rfl, Nat.le_of_ble_eq_true rfl⟩ ⟨Nat.le_refl _, Nat.le_refl _⟩ hW hA rfl (Nat.le_of_ble_eq_true rfl) dX10_lastTip_27 (fun r_27 H locs hq hW => ?_)
    subst hq
    refine r_eq (y := (nI t)) (by rw [ht]; rfl) ?_
    refine lv_iconst (v := nI 0) hx hb dX10_lastTip_30 (by decide) ?_
    refine md_callg C hml hl.1 (As := [.int (nI t), .int (nI 0)]) (rest := []) (m_of l D aT ad (ss S 8 (nI 0)) t 0 (by omega)) gT_of hd_of rfl ⟨Nat.le_of_ble_eq_true rfl, Nat.le_of_ble_eq_true rfl⟩ ⟨Nat.le_refl _, Nat.le_refl _⟩ hW hA rfl (Nat.le_of_ble_eq_true rfl) dX10_lastTip_31 (fun r_31 H locs hq hW => ?_)
    subst hq
    exact md_iret C hr hlocks rfl hW (Or.inr ⟨j_13, t, c_13, ht, rfl, rfl⟩) dX10_lastTip_34
  · have hl : lv_has ls 3 [(2, .int (-1)), (0, .ref (ad 0)), (1, .int x)] := by rw [c_13] at hl; exact hl
    refine lv_aload_n hx hb dX10_lastTip_16 rfl (lv_at hl 1 rfl) ?_
    refine lv_iconst (v := nI 1) hx hb dX10_lastTip_17 (by decide) ?_
    refine md_calli C hml hl.1 (As := [.int (nI 1)]) (rest := []) (m_throwing l D aT ad (ss S 8 (nI 0)) 1) gT_throwing hd_throwing rfl ⟨Nat.le_of_ble_eq_true rfl, Nat.le_of_ble_eq_true rfl⟩ ⟨Nat.le_refl _, Nat.le_refl _⟩ hW hA rfl (Nat.le_of_ble_eq_true rfl) dX10_lastTip_18 (fun r_18 S_18 H locs hq hW => ?_)
    obtain ⟨rfl, rfl⟩ := hq
    refine lv_goto (tgt := 34) hx hb dX10_lastTip_21 (by decide) ?_
    exact md_iret C hr hlocks rfl hW (Or.inl ⟨c_13, rfl, ss_ss _ _ _ _⟩) dX10_lastTip_34
theorem dX10_branchSize_0 : decode cX10_branchSize 0 = .ok (.aload_n 0, 1) := by decide +kernel
theorem dX10_branchSize_1 : decode cX10_branchSize 1 = .ok (.iconst 0, 1) := by decide +kernel
theorem dX10_branchSize_2 : decode cX10_branchSize 2 = .ok (.putfield 57, 3) := by decide +kernel
theorem dX10_branchSize_5 : decode cX10_branchSize 5 = .ok (.aload_n 0, 1) := by decide +kernel
theorem dX10_branchSize_6 : decode cX10_branchSize 6 = .ok (.iload_n 1, 1) := by decide +kernel
theorem dX10_branchSize_7 : decode cX10_branchSize 7 = .ok (.invokevirtual 71, 3) := by decide +kernel
theorem dX10_branchSize_10 : decode cX10_branchSize 10 = .ok (.istore_n 2, 1) := by decide +kernel
theorem dX10_branchSize_11 : decode cX10_branchSize 11 = .ok (.iload_n 2, 1) := by decide +kernel
theorem dX10_branchSize_12 : decode cX10_branchSize 12 = .ok (.iconst (-1), 1) := by decide +kernel
theorem dX10_branchSize_13 : decode cX10_branchSize 13 = .ok (.if_icmp .ne 9, 3) := by decide +kernel
theorem dX10_branchSize_16 : decode cX10_branchSize 16 = .ok (.aload_n 0, 1) := by decide +kernel
theorem dX10_branchSize_17 : decode cX10_branchSize 17 = .ok (.iconst 1, 1) := by decide +kernel
theorem dX10_branchSize_18 : decode cX10_branchSize 18 = .ok (.invokevirtual 101, 3) := by decide +kernel
theorem dX10_branchSize_21 : decode cX10_branchSize 21 = .ok (.ireturn, 1) := by decide +kernel
theorem dX10_branchSize_22 : decode cX10_branchSize 22 = .ok (.iconst 0, 1) := by decide +kernel
theorem dX10_branchSize_23 : decode cX10_branchSize 23 = .ok (.istore_n 3, 1) := by decide +kernel
theorem dX10_branchSize_24 : decode cX10_branchSize 24 = .ok (.iconst 0, 1) := by decide +kernel
theorem dX10_branchSize_25 : decode cX10_branchSize 25 = .ok (.istore 4, 2) := by decide +kernel
theorem dX10_branchSize_27 : decode cX10_branchSize 27 = .ok (.iload 4, 2) := by decide +kernel
theorem dX10_branchSize_29 : decode cX10_branchSize 29 = .ok (.aload_n 0, 1) := by decide +kernel
theorem dX10_branchSize_30 : decode cX10_branchSize 30 = .ok (.getfield 9, 3) := by decide +kernel
theorem dX10_branchSize_33 : decode cX10_branchSize 33 = .ok (.iconst 2, 1) := by decide +kernel
theorem dX10_branchSize_34 : decode cX10_branchSize 34 = .ok (.iaload, 1) := by decide +kernel
theorem dX10_branchSize_35 : decode cX10_branchSize 35 = .ok (.if_icmp .ge 27, 3) := by decide +kernel
theorem dX10_branchSize_38 : decode cX10_branchSize 38 = .ok (.iload_n 3, 1) := by decide +kernel
theorem dX10_branchSize_39 : decode cX10_branchSize 39 = .ok (.aload_n 0, 1) := by decide +kernel
theorem dX10_branchSize_40 : decode cX10_branchSize 40 = .ok (.iload 4, 2) := by decide +kernel
theorem dX10_branchSize_42 : decode cX10_branchSize 42 = .ok (.iload_n 2, 1) := by decide +kernel
theorem dX10_branchSize_43 : decode cX10_branchSize 43 = .ok (.invokevirtual 78, 3) := by decide +kernel
theorem dX10_branchSize_46 : decode cX10_branchSize 46 = .ok (.ifCond .eq 7, 3) := by decide +kernel
theorem dX10_branchSize_49 : decode cX10_branchSize 49 = .ok (.iconst 1, 1) := by decide +kernel
theorem dX10_branchSize_50 : decode cX10_branchSize 50 = .ok (.goto 4, 3) := by decide +kernel
theorem dX10_branchSize_53 : decode cX10_branchSize 53 = .ok (.iconst 0, 1) := by decide +kernel
theorem dX10_branchSize_54 : decode cX10_branchSize 54 = .ok (.iadd, 1) := by decide +kernel
theorem dX10_branchSize_55 : decode cX10_branchSize 55 = .ok (.istore_n 3, 1) := by decide +kernel
theorem dX10_branchSize_56 : decode cX10_branchSize 56 = .ok (.iinc 4 1, 3) := by decide +kernel
theorem dX10_branchSize_59 : decode cX10_branchSize 59 = .ok (.goto (-32), 3) := by decide +kernel
theorem dX10_branchSize_62 : decode cX10_branchSize 62 = .ok (.iload_n 3, 1) := by decide +kernel
theorem dX10_branchSize_63 : decode cX10_branchSize 63 = .ok (.ireturn, 1) := by decide +kernel
set_option maxHeartbeats 1000000 in
set_option maxRecDepth 20000 in
theorem m_branchSize (l : Launch) (D : va_G) (aT : Nat → ClassId) (ad : Nat → Nat) (S : MSt) (x : Int32) (hF : FoW (S 0)) : MdI l yX10_branchSize cX10_branchSize 5 .int 4 88 D aT ad [.ref (ad 0), .int x] S (fun r S1 => (fnd (fun k => S 0 (29 + 4 * k)) x (nM (S 0)) = none ∧ r = -1 ∧ S1 = ss S 8 (nI 1)) ∨ (∃ q, fnd (fun k => S 0 (29 + 4 * k)) x (nM (S 0)) = some q ∧ r = nI (brs (prM (S 0)) q (nM (S 0))) ∧ S1 = ss S 8 (nI 0))) := by
  refine MdI.of (by decide +kernel) rfl (Nat.le_of_ble_eq_true rfl) ?_
  intro p e s m below meth c A ls C hml hl hA hr hlocks hW
  have hl : lv_has ls 5 [(0, .ref (ad 0)), (1, .int x)] := hl
  have hx := C.1
  have hb := C.2.1
  refine lv_aload_n hx hb dX10_branchSize_0 rfl (lv_at hl 0 rfl) ?_
  refine lv_iconst (v := nI 0) hx hb dX10_branchSize_1 (by decide) ?_
  refine md_put_thrown C hW dX10_branchSize_2 (fun H locs hW => ?_)
  refine lv_aload_n hx hb dX10_branchSize_5 rfl (lv_at hl 0 rfl) ?_
  refine lv_iload_n hx hb dX10_branchSize_6 rfl (lv_at hl 1 rfl) ?_
  refine md_callg C hml hl.1 (As := [.int x]) (rest := []) (m_find l D aT ad (ss S 8 (nI 0)) (x) (nM (S 0)) hF.1 hF.2.1) gT_find hd_find rfl ⟨Nat.le_of_ble_eq_true rfl, Nat.le_of_ble_eq_true rfl⟩ ⟨Nat.le_refl _, Nat.le_refl _⟩ hW hA rfl (Nat.le_of_ble_eq_true rfl) dX10_branchSize_7 (fun r_7 H locs hq hW => ?_)
  subst hq
  refine lv_istore_n (lv' := [(2, .int (oi (fnd (fun k => (ss S 8 (nI 0)) 0 (29 + 4 * k)) (x) (nM (S 0))))), (0, .ref (ad 0)), (1, .int x)]) hx hb dX10_branchSize_10 rfl hl (by decide) rfl (fun ls hl => ?_)
  refine lv_iload_n hx hb dX10_branchSize_11 rfl (lv_at hl 0 rfl) ?_
  refine lv_iconst (v := (-1)) hx hb dX10_branchSize_12 (by decide) ?_
  refine r_oi_ne hx hb (o := (fnd (fun k => (ss S 8 (nI 0)) 0 (29 + 4 * k)) (x) (nM (S 0)))) (fun j hj => by have := (fnd_some hj).1; have := hF.n12; omega) (tgt := 22) dX10_branchSize_13 (by decide) (fun j_13 c_13 => ?_) (fun c_13 => ?_)
  · have hl : lv_has ls 5 [(2, .int (nI j_13)), (0, .ref (ad 0)), (1, .int x)] := by rw [c_13] at hl; exact hl
    have hq0 := (fnd_some c_13).1
    have h12 := hF.n12
    refine lv_iconst (v := nI 0) hx hb dX10_branchSize_22 (by decide) ?_
    refine lv_istore_n (lv' := [(3, .int (nI 0)), (2, .int (nI j_13)), (0, .ref (ad 0)), (1, .int x)]) hx hb dX10_branchSize_23 rfl hl (by decide) rfl (fun ls hl => ?_)
    refine lv_iconst (v := nI 0) hx hb dX10_branchSize_24 (by decide) ?_
    refine lv_istore (lv' := [(4, .int (nI 0)), (3, .int (nI 0)), (2, .int (nI j_13)), (0, .ref (ad 0)), (1, .int x)]) hx hb dX10_branchSize_25 hl (by decide) rfl (fun ls hl => ?_)
    refine W_loopH (σ := Nat × Nat) (fun z_ => nM (S 0) - z_.2) (fun z_ H locs g => ∃ ls, g = F0 m 27 ls [] ∧ lv_has ls 5 [(0, .ref (ad 0)), (2, .int (nI j_13)), (3, .int (nI z_.1)), (4, .int (nI z_.2))] ∧ MdB D aT ad (ss S 8 (nI 0)) A s.heap H locs ∧ (z_.1 = brs (prM (S 0)) j_13 z_.2 ∧ z_.2 ≤ nM (S 0))) ?_ (0, 0) _ ⟨_, rfl, lv_sub hl [3, 2, 1, 0] rfl, hW, ⟨rfl, Nat.zero_le _⟩⟩
    clear hW hl
    rintro ⟨a, i⟩ H locs g ⟨ls, rfl, hl, hW, ha, hin⟩ ih_27
    dsimp only at hl hW ha hin ⊢
    refine lv_iload hx hb dX10_branchSize_27 (lv_at hl 3 rfl) ?_
    refine lv_aload_n hx hb dX10_branchSize_29 rfl (lv_at hl 0 rfl) ?_
    refine md_geta_m C hW dX10_branchSize_30 ?_
    refine lv_iconst (v := nI 2) hx hb dX10_branchSize_33 (by decide) ?_
    refine md_ald_m C hW (i := 2) (by omega) dX10_branchSize_34 ?_
    refine r_eq (y := (nI (nM (S 0)))) (hF.1) ?_
    refine r_geN hx hb (a := i) (b := (nM (S 0))) (by omega) (by omega) (tgt := 62) dX10_branchSize_35 (by decide) (fun c_35 => ?_) (fun c_35 => ?_)
    · refine lv_iload_n hx hb dX10_branchSize_62 rfl (lv_at hl 2 rfl) ?_
      exact md_iret C hr hlocks rfl hW (Or.inr ⟨j_13, c_13, by rw [ha, show nM (S 0) = i by omega], rfl⟩) dX10_branchSize_63
    · refine lv_iload_n hx hb dX10_branchSize_38 rfl (lv_at hl 2 rfl) ?_
      refine lv_aload_n hx hb dX10_branchSize_39 rfl (lv_at hl 0 rfl) ?_
      refine lv_iload hx hb dX10_branchSize_40 (lv_at hl 3 rfl) ?_
      refine lv_iload_n hx hb dX10_branchSize_42 rfl (lv_at hl 1 rfl) ?_
      refine md_callg C hml hl.1 (As := [.int (nI i), .int (nI j_13)]) (rest := [.int (nI a)]) (m_isIn l D aT ad (ss S 8 (nI 0)) (nM (S 0)) (idM (S 0)) (prM (S 0)) (tnM (S 0)) hF i j_13 (by omega) (hq0)) gT_isIn hd_isIn rfl ⟨Nat.le_of_ble_eq_true rfl, Nat.le_of_ble_eq_true rfl⟩ ⟨Nat.le_refl _, Nat.le_refl _⟩ hW hA rfl (Nat.le_of_ble_eq_true rfl) dX10_branchSize_43 (fun r_43 H locs hq hW => ?_)
      subst hq
      refine r_bI_eq hx hb (b := (anc (prM (S 0)) j_13 i)) (tgt := 53) dX10_branchSize_46 (by decide) (fun c_46 => ?_) (fun c_46 => ?_)
      · refine lv_iconst (v := nI 0) hx hb dX10_branchSize_53 (by decide) ?_
        refine r_iaddN hx hb (a := a) (b := 0) dX10_branchSize_54 ?_
        refine lv_istore_n (lv' := [(3, .int (nI (a + 0))), (0, .ref (ad 0)), (2, .int (nI j_13)), (4, .int (nI i))]) hx hb dX10_branchSize_55 rfl hl (by decide) rfl (fun ls hl => ?_)
        refine lv_iinc (v := (nI (i + 1))) (lv' := [(4, .int (nI (i + 1))), (3, .int (nI (a + 0))), (0, .ref (ad 0)), (2, .int (nI j_13))]) hx hb dX10_branchSize_56 hl (k := 3) rfl (nI_1 _) (by decide) rfl (fun ls hl => ?_)
        refine lv_goto (tgt := 27) hx hb dX10_branchSize_59 (by decide) ?_
        exact ih_27 (a + 0, (i + 1)) _ _ _ (by dsimp only; omega) ⟨_, rfl, lv_sub hl [2, 3, 1, 0] rfl, hW, ⟨by rw [brs, c_46, ← ha]; rfl, by (try dsimp only); omega⟩⟩
      · refine lv_iconst (v := nI 1) hx hb dX10_branchSize_49 (by decide) ?_
        refine lv_goto (tgt := 54) hx hb dX10_branchSize_50 (by decide) ?_
        refine r_iaddN hx hb (a := a) (b := 1) dX10_branchSize_54 ?_
        refine lv_istore_n (lv' := [(3, .int (nI (a + 1))), (0, .ref (ad 0)), (2, .int (nI j_13)), (4, .int (nI i))]) hx hb dX10_branchSize_55 rfl hl (by decide) rfl (fun ls hl => ?_)
        refine lv_iinc (v := (nI (i + 1))) (lv' := [(4, .int (nI (i + 1))), (3, .int (nI (a + 1))), (0, .ref (ad 0)), (2, .int (nI j_13))]) hx hb dX10_branchSize_56 hl (k := 3) rfl (nI_1 _) (by decide) rfl (fun ls hl => ?_)
        refine lv_goto (tgt := 27) hx hb dX10_branchSize_59 (by decide) ?_
        exact ih_27 (a + 1, (i + 1)) _ _ _ (by dsimp only; omega) ⟨_, rfl, lv_sub hl [2, 3, 1, 0] rfl, hW, ⟨by rw [brs, c_46, ← ha]; rfl, by (try dsimp only); omega⟩⟩
  · have hl : lv_has ls 5 [(2, .int (-1)), (0, .ref (ad 0)), (1, .int x)] := by rw [c_13] at hl; exact hl
    refine lv_aload_n hx hb dX10_branchSize_16 rfl (lv_at hl 1 rfl) ?_
    refine lv_iconst (v := nI 1) hx hb dX10_branchSize_17 (by decide) ?_
    refine md_calli C hml hl.1 (As := [.int (nI 1)]) (rest := []) (m_throwing l D aT ad (ss S 8 (nI 0)) 1) gT_throwing hd_throwing rfl ⟨Nat.le_of_ble_eq_true rfl, Nat.le_of_ble_eq_true rfl⟩ ⟨Nat.le_refl _, Nat.le_refl _⟩ hW hA rfl (Nat.le_of_ble_eq_true rfl) dX10_branchSize_18 (fun r_18 S_18 H locs hq hW => ?_)
    obtain ⟨rfl, rfl⟩ := hq
    exact md_iret C hr hlocks rfl hW (Or.inl ⟨c_13, rfl, ss_ss _ _ _ _⟩) dX10_branchSize_21
theorem dX10_season_0 : decode cX10_season 0 = .ok (.aload_n 0, 1) := by decide +kernel
theorem dX10_season_1 : decode cX10_season 1 = .ok (.iconst 0, 1) := by decide +kernel
theorem dX10_season_2 : decode cX10_season 2 = .ok (.putfield 57, 3) := by decide +kernel
theorem dX10_season_5 : decode cX10_season 5 = .ok (.aload_n 0, 1) := by decide +kernel
theorem dX10_season_6 : decode cX10_season 6 = .ok (.getfield 9, 3) := by decide +kernel
theorem dX10_season_9 : decode cX10_season 9 = .ok (.iconst 3, 1) := by decide +kernel
theorem dX10_season_10 : decode cX10_season 10 = .ok (.iaload, 1) := by decide +kernel
theorem dX10_season_11 : decode cX10_season 11 = .ok (.ireturn, 1) := by decide +kernel
set_option maxHeartbeats 1000000 in
set_option maxRecDepth 20000 in
theorem m_season (l : Launch) (D : va_G) (aT : Nat → ClassId) (ad : Nat → Nat) (S : MSt) : MdI l yX10_season cX10_season 1 .int 0 0 D aT ad [.ref (ad 0)] S (fun r S1 => r = S 0 3 ∧ S1 = ss S 8 (nI 0)) := by
  refine MdI.of (by decide +kernel) rfl (Nat.le_of_ble_eq_true rfl) ?_
  intro p e s m below meth c A ls C hml hl hA hr hlocks hW
  have hl : lv_has ls 1 [(0, .ref (ad 0))] := hl
  have hx := C.1
  have hb := C.2.1
  refine lv_aload_n hx hb dX10_season_0 rfl (lv_at hl 0 rfl) ?_
  refine lv_iconst (v := nI 0) hx hb dX10_season_1 (by decide) ?_
  refine md_put_thrown C hW dX10_season_2 (fun H locs hW => ?_)
  refine lv_aload_n hx hb dX10_season_5 rfl (lv_at hl 0 rfl) ?_
  refine md_geta_m C hW dX10_season_6 ?_
  refine lv_iconst (v := nI 3) hx hb dX10_season_9 (by decide) ?_
  refine md_ald_m C hW (i := 3) (by omega) dX10_season_10 ?_
  refine r_eq (y := (S 0 3)) (rfl) ?_
  exact md_iret C hr hlocks rfl hW (⟨rfl, rfl⟩) dX10_season_11
theorem dX10_adoptedWeight_0 : decode cX10_adoptedWeight 0 = .ok (.aload_n 0, 1) := by decide +kernel
theorem dX10_adoptedWeight_1 : decode cX10_adoptedWeight 1 = .ok (.iconst 0, 1) := by decide +kernel
theorem dX10_adoptedWeight_2 : decode cX10_adoptedWeight 2 = .ok (.putfield 57, 3) := by decide +kernel
theorem dX10_adoptedWeight_5 : decode cX10_adoptedWeight 5 = .ok (.aload_n 0, 1) := by decide +kernel
theorem dX10_adoptedWeight_6 : decode cX10_adoptedWeight 6 = .ok (.getfield 9, 3) := by decide +kernel
theorem dX10_adoptedWeight_9 : decode cX10_adoptedWeight 9 = .ok (.bipush 8, 2) := by decide +kernel
theorem dX10_adoptedWeight_11 : decode cX10_adoptedWeight 11 = .ok (.iaload, 1) := by decide +kernel
theorem dX10_adoptedWeight_12 : decode cX10_adoptedWeight 12 = .ok (.ireturn, 1) := by decide +kernel
set_option maxHeartbeats 1000000 in
set_option maxRecDepth 20000 in
theorem m_adoptedWeight (l : Launch) (D : va_G) (aT : Nat → ClassId) (ad : Nat → Nat) (S : MSt) : MdI l yX10_adoptedWeight cX10_adoptedWeight 1 .int 0 0 D aT ad [.ref (ad 0)] S (fun r S1 => r = S 0 8 ∧ S1 = ss S 8 (nI 0)) := by
  refine MdI.of (by decide +kernel) rfl (Nat.le_of_ble_eq_true rfl) ?_
  intro p e s m below meth c A ls C hml hl hA hr hlocks hW
  have hl : lv_has ls 1 [(0, .ref (ad 0))] := hl
  have hx := C.1
  have hb := C.2.1
  refine lv_aload_n hx hb dX10_adoptedWeight_0 rfl (lv_at hl 0 rfl) ?_
  refine lv_iconst (v := nI 0) hx hb dX10_adoptedWeight_1 (by decide) ?_
  refine md_put_thrown C hW dX10_adoptedWeight_2 (fun H locs hW => ?_)
  refine lv_aload_n hx hb dX10_adoptedWeight_5 rfl (lv_at hl 0 rfl) ?_
  refine md_geta_m C hW dX10_adoptedWeight_6 ?_
  refine lv_bipush (v := nI 8) hx hb dX10_adoptedWeight_9 (by decide) ?_
  refine md_ald_m C hW (i := 8) (by omega) dX10_adoptedWeight_11 ?_
  refine r_eq (y := (S 0 8)) (rfl) ?_
  exact md_iret C hr hlocks rfl hW (⟨rfl, rfl⟩) dX10_adoptedWeight_12
theorem dX10_isConsistent_0 : decode cX10_isConsistent 0 = .ok (.aload_n 0, 1) := by decide +kernel
theorem dX10_isConsistent_1 : decode cX10_isConsistent 1 = .ok (.iconst 0, 1) := by decide +kernel
theorem dX10_isConsistent_2 : decode cX10_isConsistent 2 = .ok (.putfield 57, 3) := by decide +kernel
theorem dX10_isConsistent_5 : decode cX10_isConsistent 5 = .ok (.iconst 1, 1) := by decide +kernel
theorem dX10_isConsistent_6 : decode cX10_isConsistent 6 = .ok (.ireturn, 1) := by decide +kernel
set_option maxHeartbeats 1000000 in
set_option maxRecDepth 20000 in
theorem m_isConsistent (l : Launch) (D : va_G) (aT : Nat → ClassId) (ad : Nat → Nat) (S : MSt) : MdI l yX10_isConsistent cX10_isConsistent 1 .boolean 0 0 D aT ad [.ref (ad 0)] S (fun r S1 => r = nI 1 ∧ S1 = ss S 8 (nI 0)) := by
  refine MdI.of (by decide +kernel) rfl (Nat.le_of_ble_eq_true rfl) ?_
  intro p e s m below meth c A ls C hml hl hA hr hlocks hW
  have hl : lv_has ls 1 [(0, .ref (ad 0))] := hl
  have hx := C.1
  have hb := C.2.1
  refine lv_aload_n hx hb dX10_isConsistent_0 rfl (lv_at hl 0 rfl) ?_
  refine lv_iconst (v := nI 0) hx hb dX10_isConsistent_1 (by decide) ?_
  refine md_put_thrown C hW dX10_isConsistent_2 (fun H locs hW => ?_)
  refine lv_iconst (v := nI 1) hx hb dX10_isConsistent_5 (by decide) ?_
  exact md_iret C hr hlocks (by decide) hW (⟨rfl, rfl⟩) dX10_isConsistent_6
theorem dX10_minutesIn_0 : decode cX10_minutesIn 0 = .ok (.aload_n 0, 1) := by decide +kernel
theorem dX10_minutesIn_1 : decode cX10_minutesIn 1 = .ok (.iconst 0, 1) := by decide +kernel
theorem dX10_minutesIn_2 : decode cX10_minutesIn 2 = .ok (.putfield 57, 3) := by decide +kernel
theorem dX10_minutesIn_5 : decode cX10_minutesIn 5 = .ok (.iload_n 1, 1) := by decide +kernel
theorem dX10_minutesIn_6 : decode cX10_minutesIn 6 = .ok (.i2l, 1) := by decide +kernel
theorem dX10_minutesIn_7 : decode cX10_minutesIn 7 = .ok (.lconst 0, 1) := by decide +kernel
theorem dX10_minutesIn_8 : decode cX10_minutesIn 8 = .ok (.ldc2_w 202, 3) := by decide +kernel
theorem dX10_minutesIn_11 : decode cX10_minutesIn 11 = .ok (.invokestatic 63, 3) := by decide +kernel
theorem dX10_minutesIn_14 : decode cX10_minutesIn 14 = .ok (.ifCond .eq 14, 3) := by decide +kernel
theorem dX10_minutesIn_17 : decode cX10_minutesIn 17 = .ok (.aload_n 0, 1) := by decide +kernel
theorem dX10_minutesIn_18 : decode cX10_minutesIn 18 = .ok (.getfield 9, 3) := by decide +kernel
theorem dX10_minutesIn_21 : decode cX10_minutesIn 21 = .ok (.iconst 4, 1) := by decide +kernel
theorem dX10_minutesIn_22 : decode cX10_minutesIn 22 = .ok (.iload_n 1, 1) := by decide +kernel
theorem dX10_minutesIn_23 : decode cX10_minutesIn 23 = .ok (.iadd, 1) := by decide +kernel
theorem dX10_minutesIn_24 : decode cX10_minutesIn 24 = .ok (.iaload, 1) := by decide +kernel
theorem dX10_minutesIn_25 : decode cX10_minutesIn 25 = .ok (.goto 8, 3) := by decide +kernel
theorem dX10_minutesIn_28 : decode cX10_minutesIn 28 = .ok (.aload_n 0, 1) := by decide +kernel
theorem dX10_minutesIn_29 : decode cX10_minutesIn 29 = .ok (.iconst 1, 1) := by decide +kernel
theorem dX10_minutesIn_30 : decode cX10_minutesIn 30 = .ok (.invokevirtual 101, 3) := by decide +kernel
theorem dX10_minutesIn_33 : decode cX10_minutesIn 33 = .ok (.ireturn, 1) := by decide +kernel
set_option maxHeartbeats 1000000 in
set_option maxRecDepth 20000 in
theorem m_minutesIn (l : Launch) (D : va_G) (aT : Nat → ClassId) (ad : Nat → Nat) (S : MSt) (x : Int32) : MdI l yX10_minutesIn cX10_minutesIn 2 .int 1 25 D aT ad [.ref (ad 0), .int x] S (fun r S1 => (rgB 0 3 x = false ∧ r = -1 ∧ S1 = ss S 8 (nI 1)) ∨ (∃ v, v ≤ 3 ∧ x = nI v ∧ r = S 0 (4 + v) ∧ S1 = ss S 8 (nI 0))) := by
  refine MdI.of (by decide +kernel) rfl (Nat.le_of_ble_eq_true rfl) ?_
  intro p e s m below meth c A ls C hml hl hA hr hlocks hW
  have hl : lv_has ls 2 [(0, .ref (ad 0)), (1, .int x)] := hl
  have hx := C.1
  have hb := C.2.1
  refine lv_aload_n hx hb dX10_minutesIn_0 rfl (lv_at hl 0 rfl) ?_
  refine lv_iconst (v := nI 0) hx hb dX10_minutesIn_1 (by decide) ?_
  refine md_put_thrown C hW dX10_minutesIn_2 (fun H locs hW => ?_)
  refine lv_iload_n hx hb dX10_minutesIn_5 rfl (lv_at hl 1 rfl) ?_
  refine lv_i2l (v := (x).toInt64) hx hb dX10_minutesIn_6 rfl ?_
  refine lv_lconst (v := 0) hx hb dX10_minutesIn_7 (by decide) ?_
  refine lv_ldc2 hx hb C.2.2.2.1 (C.2.2.1 _ gw_1979) dX10_minutesIn_8 ?_
  refine md_calls C hml hl.1 (As := [.long ((x).toInt64), .long 0, .long 3]) (rest := []) (m_in l ((x).toInt64) 0 3) gT_in hd_in rfl ⟨Nat.le_of_ble_eq_true rfl, Nat.le_of_ble_eq_true rfl⟩ ⟨Nat.le_refl _, Nat.le_refl _⟩ rfl (Nat.le_of_ble_eq_true rfl) dX10_minutesIn_11 (fun r_11 hq => ?_)
  subst hq
  refine r_bI_eq hx hb (b := (rgB 0 3 x)) (tgt := 28) dX10_minutesIn_14 (by decide) (fun c_14 => ?_) (fun c_14 => ?_)
  · refine lv_aload_n hx hb dX10_minutesIn_28 rfl (lv_at hl 0 rfl) ?_
    refine lv_iconst (v := nI 1) hx hb dX10_minutesIn_29 (by decide) ?_
    refine md_calli C hml hl.1 (As := [.int (nI 1)]) (rest := []) (m_throwing l D aT ad (ss S 8 (nI 0)) 1) gT_throwing hd_throwing rfl ⟨Nat.le_of_ble_eq_true rfl, Nat.le_of_ble_eq_true rfl⟩ ⟨Nat.le_refl _, Nat.le_refl _⟩ hW hA rfl (Nat.le_of_ble_eq_true rfl) dX10_minutesIn_30 (fun r_30 S_30 H locs hq hW => ?_)
    obtain ⟨rfl, rfl⟩ := hq
    exact md_iret C hr hlocks rfl hW (Or.inl ⟨c_14, rfl, ss_ss _ _ _ _⟩) dX10_minutesIn_33
  · obtain ⟨v, rfl, hv3, -⟩ := rg_nat c_14 (Or.inl (by decide)) (by decide)
    have hv3 : v ≤ 3 := by have : (3 : Int64).toInt = 3 := by decide
                           omega
    refine lv_aload_n hx hb dX10_minutesIn_17 rfl (lv_at hl 0 rfl) ?_
    refine md_geta_m C hW dX10_minutesIn_18 ?_
    refine lv_iconst (v := nI 4) hx hb dX10_minutesIn_21 (by decide) ?_
    refine lv_iload_n hx hb dX10_minutesIn_22 rfl (lv_at hl 1 rfl) ?_
    refine r_iaddN hx hb (a := 4) (b := v) dX10_minutesIn_23 ?_
    refine md_ald_m C hW (i := 4 + v) (by omega) dX10_minutesIn_24 ?_
    refine r_eq (y := (S 0 (4 + v))) (rfl) ?_
    refine lv_goto (tgt := 33) hx hb dX10_minutesIn_25 (by decide) ?_
    exact md_iret C hr hlocks rfl hW (Or.inr ⟨v, hv3, rfl, rfl, rfl⟩) dX10_minutesIn_33
theorem gT_weightTotal : GoodIn gw (wsV RX10 204 RX10 yX10_weightTotal (Cond.code yX10_weightTotal cX10_weightTotal 3 (some .int) :: gw)) := gdV gw_1992 gw_1985 gw_1986 gw_81 gw_1987
theorem hd_weightTotal : yX10_weightTotal.cls = RX10 ∧ yX10_weightTotal.cls ≠ "java/lang/invoke/MethodHandle" ∧ yX10_weightTotal.cls ≠ "java/lang/invoke/VarHandle" ∧ (parseMethodDescriptor yX10_weightTotal.desc).map (fun d => d.parameters.length) = some 0 := ⟨rfl, by decide +kernel, by decide +kernel, by decide +kernel⟩
theorem dX10_weightTotal_0 : decode cX10_weightTotal 0 = .ok (.aload_n 0, 1) := by decide +kernel
theorem dX10_weightTotal_1 : decode cX10_weightTotal 1 = .ok (.iconst 0, 1) := by decide +kernel
theorem dX10_weightTotal_2 : decode cX10_weightTotal 2 = .ok (.putfield 57, 3) := by decide +kernel
theorem dX10_weightTotal_5 : decode cX10_weightTotal 5 = .ok (.iconst 0, 1) := by decide +kernel
theorem dX10_weightTotal_6 : decode cX10_weightTotal 6 = .ok (.istore_n 1, 1) := by decide +kernel
theorem dX10_weightTotal_7 : decode cX10_weightTotal 7 = .ok (.iconst 0, 1) := by decide +kernel
theorem dX10_weightTotal_8 : decode cX10_weightTotal 8 = .ok (.istore_n 2, 1) := by decide +kernel
theorem dX10_weightTotal_9 : decode cX10_weightTotal 9 = .ok (.iload_n 2, 1) := by decide +kernel
theorem dX10_weightTotal_10 : decode cX10_weightTotal 10 = .ok (.aload_n 0, 1) := by decide +kernel
theorem dX10_weightTotal_11 : decode cX10_weightTotal 11 = .ok (.getfield 9, 3) := by decide +kernel
theorem dX10_weightTotal_14 : decode cX10_weightTotal 14 = .ok (.iconst 2, 1) := by decide +kernel
theorem dX10_weightTotal_15 : decode cX10_weightTotal 15 = .ok (.iaload, 1) := by decide +kernel
theorem dX10_weightTotal_16 : decode cX10_weightTotal 16 = .ok (.if_icmp .ge 18, 3) := by decide +kernel
theorem dX10_weightTotal_19 : decode cX10_weightTotal 19 = .ok (.iload_n 1, 1) := by decide +kernel
theorem dX10_weightTotal_20 : decode cX10_weightTotal 20 = .ok (.aload_n 0, 1) := by decide +kernel
theorem dX10_weightTotal_21 : decode cX10_weightTotal 21 = .ok (.iload_n 2, 1) := by decide +kernel
theorem dX10_weightTotal_22 : decode cX10_weightTotal 22 = .ok (.iconst 3, 1) := by decide +kernel
theorem dX10_weightTotal_23 : decode cX10_weightTotal 23 = .ok (.invokevirtual 67, 3) := by decide +kernel
theorem dX10_weightTotal_26 : decode cX10_weightTotal 26 = .ok (.iadd, 1) := by decide +kernel
theorem dX10_weightTotal_27 : decode cX10_weightTotal 27 = .ok (.istore_n 1, 1) := by decide +kernel
theorem dX10_weightTotal_28 : decode cX10_weightTotal 28 = .ok (.iinc 2 1, 3) := by decide +kernel
theorem dX10_weightTotal_31 : decode cX10_weightTotal 31 = .ok (.goto (-22), 3) := by decide +kernel
theorem dX10_weightTotal_34 : decode cX10_weightTotal 34 = .ok (.iload_n 1, 1) := by decide +kernel
theorem dX10_weightTotal_35 : decode cX10_weightTotal 35 = .ok (.ireturn, 1) := by decide +kernel
set_option maxHeartbeats 1000000 in
set_option maxRecDepth 20000 in
theorem m_weightTotal (l : Launch) (D : va_G) (aT : Nat → ClassId) (ad : Nat → Nat) (S : MSt) (hF : FoW (S 0)) : MdI l yX10_weightTotal cX10_weightTotal 3 .int 1 22 D aT ad [.ref (ad 0)] S (fun r S1 => r = smw (S 0) (nM (S 0)) ∧ S1 = ss S 8 (nI 0)) := by
  refine MdI.of (by decide +kernel) rfl (Nat.le_of_ble_eq_true rfl) ?_
  intro p e s m below meth c A ls C hml hl hA hr hlocks hW
  have hl : lv_has ls 3 [(0, .ref (ad 0))] := hl
  have hx := C.1
  have hb := C.2.1
  refine lv_aload_n hx hb dX10_weightTotal_0 rfl (lv_at hl 0 rfl) ?_
  refine lv_iconst (v := nI 0) hx hb dX10_weightTotal_1 (by decide) ?_
  refine md_put_thrown C hW dX10_weightTotal_2 (fun H locs hW => ?_)
  refine lv_iconst (v := nI 0) hx hb dX10_weightTotal_5 (by decide) ?_
  refine lv_istore_n (lv' := [(1, .int (nI 0)), (0, .ref (ad 0))]) hx hb dX10_weightTotal_6 rfl hl (by decide) rfl (fun ls hl => ?_)
  refine lv_iconst (v := nI 0) hx hb dX10_weightTotal_7 (by decide) ?_
  refine lv_istore_n (lv' := [(2, .int (nI 0)), (1, .int (nI 0)), (0, .ref (ad 0))]) hx hb dX10_weightTotal_8 rfl hl (by decide) rfl (fun ls hl => ?_)
  refine W_loopH (σ := Int32 × Nat) (fun z_ => nM (S 0) - z_.2) (fun z_ H locs g => ∃ ls, g = F0 m 9 ls [] ∧ lv_has ls 3 [(0, .ref (ad 0)), (1, .int z_.1), (2, .int (nI z_.2))] ∧ MdB D aT ad (ss S 8 (nI 0)) A s.heap H locs ∧ (z_.1 = smw (S 0) z_.2 ∧ z_.2 ≤ nM (S 0))) ?_ ((nI 0), 0) _ ⟨_, rfl, lv_sub hl [2, 1, 0] rfl, hW, ⟨rfl, Nat.zero_le _⟩⟩
  clear hW hl
  rintro ⟨a, i⟩ H locs g ⟨ls, rfl, hl, hW, ha, hin⟩ ih_9
  dsimp only at hl hW ha hin ⊢
  have h12 := hF.n12
  refine lv_iload_n hx hb dX10_weightTotal_9 rfl (lv_at hl 2 rfl) ?_
  refine lv_aload_n hx hb dX10_weightTotal_10 rfl (lv_at hl 0 rfl) ?_
  refine md_geta_m C hW dX10_weightTotal_11 ?_
  refine lv_iconst (v := nI 2) hx hb dX10_weightTotal_14 (by decide) ?_
  refine md_ald_m C hW (i := 2) (by omega) dX10_weightTotal_15 ?_
  refine r_eq (y := (nI (nM (S 0)))) (hF.1) ?_
  refine r_geN hx hb (a := i) (b := (nM (S 0))) (by omega) (by omega) (tgt := 34) dX10_weightTotal_16 (by decide) (fun c_16 => ?_) (fun c_16 => ?_)
  · refine lv_iload_n hx hb dX10_weightTotal_34 rfl (lv_at hl 1 rfl) ?_
    exact md_iret C hr hlocks rfl hW (⟨by rw [ha, show nM (S 0) = i by omega], rfl⟩) dX10_weightTotal_35
  · refine lv_iload_n hx hb dX10_weightTotal_19 rfl (lv_at hl 1 rfl) ?_
    refine lv_aload_n hx hb dX10_weightTotal_20 rfl (lv_at hl 0 rfl) ?_
    refine lv_iload_n hx hb dX10_weightTotal_21 rfl (lv_at hl 2 rfl) ?_
    refine lv_iconst (v := nI 3) hx hb dX10_weightTotal_22 (by decide) ?_
    refine md_callg C hml hl.1 (As := [.int (nI i), .int (nI 3)]) (rest := [.int a]) (m_of l D aT ad (ss S 8 (nI 0)) i 3 (by omega)) gT_of hd_of rfl ⟨Nat.le_of_ble_eq_true rfl, Nat.le_of_ble_eq_true rfl⟩ ⟨Nat.le_refl _, Nat.le_refl _⟩ hW hA rfl (Nat.le_of_ble_eq_true rfl) dX10_weightTotal_23 (fun r_23 H locs hq hW => ?_)
    subst hq
    refine r_eq (y := (S 0 (29 + 4 * i + 3))) (rfl) ?_
    refine lv_iadd hx hb dX10_weightTotal_26 ?_
    refine lv_istore_n (lv' := [(1, .int (a + (S 0 (29 + 4 * i + 3)))), (0, .ref (ad 0)), (2, .int (nI i))]) hx hb dX10_weightTotal_27 rfl hl (by decide) rfl (fun ls hl => ?_)
    refine lv_iinc (v := (nI (i + 1))) (lv' := [(2, .int (nI (i + 1))), (1, .int (a + (S 0 (29 + 4 * i + 3)))), (0, .ref (ad 0))]) hx hb dX10_weightTotal_28 hl (k := 2) rfl (nI_1 _) (by decide) rfl (fun ls hl => ?_)
    refine lv_goto (tgt := 9) hx hb dX10_weightTotal_31 (by decide) ?_
    exact ih_9 ((a + (S 0 (29 + 4 * i + 3))), (i + 1)) _ _ _ (by dsimp only; omega) ⟨_, rfl, lv_sub hl [2, 1, 0] rfl, hW, ⟨by rw [smw, ← ha], by (try dsimp only); omega⟩⟩
end
section
def mAh (m : Nat → Int32) (a b : Nat) : Bool := if m (29 + 4 * a + 3) - m (29 + 4 * b + 3) = 0 then decide (dep (prM m) a < dep (prM m) b ∨ (dep (prM m) a = dep (prM m) b ∧ a < b)) else decide (0 < m (29 + 4 * a + 3) - m (29 + 4 * b + 3))
def cmC (pr : Nat → Option Nat) (a b k : Nat) (o : Option Nat) : Bool := anc pr k a && anc pr k b && (match o with | none => true | some f => decide (dep pr f < dep pr k))
/-- the deepest of the first places whose branch has both a and b -/
def cmF (pr : Nat → Option Nat) (a b : Nat) : Nat → Option Nat
  | 0 => none
  | k + 1 => if cmC pr a b k (cmF pr a b k) then some k else cmF pr a b k
theorem cmF_no1 {pr : Nat → Option Nat} {a b k : Nat} (h : anc pr k a = false) : cmF pr a b (k + 1) = cmF pr a b k := by rw [cmF]; unfold cmC; rw [h]; rfl
theorem cmF_no2 {pr : Nat → Option Nat} {a b k : Nat} (h : anc pr k b = false) : cmF pr a b (k + 1) = cmF pr a b k := by rw [cmF]; unfold cmC; rw [h, Bool.and_false]; rfl
theorem cmF_y0 {pr : Nat → Option Nat} {a b k : Nat} (h1 : anc pr k a = true) (h2 : anc pr k b = true) (h : cmF pr a b k = none) : cmF pr a b (k + 1) = some k := by rw [cmF]; unfold cmC; rw [h1, h2, h]; rfl
theorem cmF_y1 {pr : Nat → Option Nat} {a b k f : Nat} (h1 : anc pr k a = true) (h2 : anc pr k b = true) (h : cmF pr a b k = some f) (h3 : dep pr f < dep pr k) : cmF pr a b (k + 1) = some k := by rw [cmF]; unfold cmC; rw [h1, h2, h]; simp [h3]
theorem cmF_no3 {pr : Nat → Option Nat} {a b k f : Nat} (h : cmF pr a b k = some f) (h3 : dep pr k ≤ dep pr f) : cmF pr a b (k + 1) = cmF pr a b k := by rw [cmF]; unfold cmC; rw [h]; simp [Nat.not_lt.mpr h3]
theorem cmF_at {pr : Nat → Option Nat} {a b : Nat} : ∀ {n k : Nat}, cmF pr a b n = some k → k < n ∧ anc pr k a = true ∧ anc pr k b = true := by
  intro n
  induction n with
  | zero => intro k h; cases h
  | succ n ih =>
    intro k h
    unfold cmF at h
    by_cases hc : cmC pr a b n (cmF pr a b n) = true
    · rw [if_pos hc] at h
      cases h
      unfold cmC at hc
      rw [Bool.and_eq_true, Bool.and_eq_true] at hc
      exact ⟨by omega, hc.1.1, hc.1.2⟩
    · rw [if_neg hc] at h
      obtain ⟨h1, h2, h3⟩ := ih h
      exact ⟨by omega, h2, h3⟩
theorem cmF_ex {pr : Nat → Option Nat} {a b r : Nat} (h1 : anc pr r a = true) (h2 : anc pr r b = true) : ∀ {n : Nat}, r < n → ∃ k, cmF pr a b n = some k := by
  intro n
  induction n with
  | zero => intro h; omega
  | succ n ih =>
    intro h
    unfold cmF
    by_cases hc : cmC pr a b n (cmF pr a b n) = true
    · rw [if_pos hc]; exact ⟨n, rfl⟩
    · rw [if_neg hc]
      rcases Nat.lt_or_ge r n with q | q
      · exact ih q
      · have e : r = n := by omega
        subst e
        cases hf : cmF pr a b r with
        | some f => exact ⟨f, rfl⟩
        | none => unfold cmC at hc; rw [h1, h2, hf] at hc; exact absurd rfl hc
theorem anc_dep {pr : Nat → Option Nat} {n r : Nat} (h : ParOk pr n) : ∀ k, k < n → anc pr r k = true → dep pr r ≤ dep pr k := by
  intro k
  induction k using Nat.strongRecOn with
  | _ k ih =>
    intro hk ha
    by_cases hr : k = r
    · subst hr; exact Nat.le_refl _
    · rw [anc_O h hk hr] at ha
      cases hq : pr k with
      | none => rw [hq] at ha; cases ha
      | some j =>
        rw [hq] at ha
        have hj := h k j hk hq
        have := ih j hj (by omega) ha
        rw [dep_some h hk hq]; omega
def stN (pr : Nat → Option Nat) (n a b : Nat) : Nat := match cmF pr a b n with
  | some k => dep pr a + dep pr b - 2 * dep pr k
  | none => 0
/-- the longest way from a to one of the first b places, in the branch of r, and at least most -/
def lpI (pr : Nat → Option Nat) (n r a most : Nat) : Nat → Nat
  | 0 => most
  | b + 1 => max (lpI pr n r a most b) (if anc pr r b then stN pr n a b else 0)
def lpO (pr : Nat → Option Nat) (n r : Nat) : Nat → Nat
  | 0 => 0
  | a + 1 => if anc pr r a then lpI pr n r a (lpO pr n r a) (a + 1) else lpO pr n r a
theorem max_nI {a b : Nat} (ha : a < 2 ^ 31) (hb : b < 2 ^ 31) : (if nI a < nI b then nI b else nI a) = nI (max a b) := by
  by_cases h : a < b
  · rw [if_pos ((nI_ltI ha hb).mpr h), Nat.max_eq_right (by omega)]
  · rw [if_neg (fun z => h ((nI_ltI ha hb).mp z)), Nat.max_eq_left (by omega)]
theorem stN_le {pr : Nat → Option Nat} {n a b : Nat} (h : ParOk pr n) (ha : a < n) (hb : b < n) : stN pr n a b ≤ 2 * n := by
  unfold stN
  have := dep_le h a ha
  have := dep_le h b hb
  split <;> omega
theorem lpI_le {pr : Nat → Option Nat} {n r a most B : Nat} (h : ParOk pr n) (ha : a < n) (hm : most ≤ B) (hB : 2 * n ≤ B) : ∀ b, b ≤ n → lpI pr n r a most b ≤ B := by
  intro b
  induction b with
  | zero => intro _; exact hm
  | succ b ih =>
    intro hb
    unfold lpI
    have h1 := ih (by omega)
    have h2 := stN_le h ha (show b < n by omega)
    split <;> omega
theorem lpO_le {pr : Nat → Option Nat} {n r : Nat} (h : ParOk pr n) : ∀ a, a ≤ n → lpO pr n r a ≤ 2 * n := by
  intro a
  induction a with
  | zero => intro _; exact Nat.zero_le _
  | succ a ih =>
    intro ha
    unfold lpO
    split
    · exact lpI_le h (by omega) (ih (by omega)) (Nat.le_refl _) _ (by omega)
    · exact ih (by omega)
/-- the first n places from the past -/
def getF (f g : Nat → Int32) (b n : Nat) : Nat → Int32 := fun j => if j < n then g (b + j) else f j
theorem getF_0 (f g : Nat → Int32) (b : Nat) : getF f g b 0 = f := by funext j; simp [getF]
theorem getF_1 (f g : Nat → Int32) (b i : Nat) : upd (getF f g b i) i (g (b + i)) = getF f g b (i + 1) := by
  funext j; unfold upd getF
  by_cases h1 : j = i
  · subst h1; rw [if_pos rfl, if_pos (by omega)]
  · rw [if_neg h1]
    by_cases h2 : j < i
    · rw [if_pos h2, if_pos (by omega)]
    · rw [if_neg h2, if_neg (by omega)]
theorem dX10_parent_0 : decode cX10_parent 0 = .ok (.aload_n 0, 1) := by decide +kernel
theorem dX10_parent_1 : decode cX10_parent 1 = .ok (.iload_n 1, 1) := by decide +kernel
theorem dX10_parent_2 : decode cX10_parent 2 = .ok (.iconst 1, 1) := by decide +kernel
theorem dX10_parent_3 : decode cX10_parent 3 = .ok (.invokevirtual 172, 3) := by decide +kernel
theorem dX10_parent_6 : decode cX10_parent 6 = .ok (.istore_n 2, 1) := by decide +kernel
theorem dX10_parent_7 : decode cX10_parent 7 = .ok (.iload_n 2, 1) := by decide +kernel
theorem dX10_parent_8 : decode cX10_parent 8 = .ok (.iconst (-1), 1) := by decide +kernel
theorem dX10_parent_9 : decode cX10_parent 9 = .ok (.if_icmp .ne 11, 3) := by decide +kernel
theorem dX10_parent_12 : decode cX10_parent 12 = .ok (.aload_n 0, 1) := by decide +kernel
theorem dX10_parent_13 : decode cX10_parent 13 = .ok (.iconst 1, 1) := by decide +kernel
theorem dX10_parent_14 : decode cX10_parent 14 = .ok (.invokevirtual 101, 3) := by decide +kernel
theorem dX10_parent_17 : decode cX10_parent 17 = .ok (.goto 4, 3) := by decide +kernel
theorem dX10_parent_20 : decode cX10_parent 20 = .ok (.iload_n 2, 1) := by decide +kernel
theorem dX10_parent_21 : decode cX10_parent 21 = .ok (.ireturn, 1) := by decide +kernel
set_option maxHeartbeats 1000000 in
set_option maxRecDepth 20000 in
theorem m_parent (l : Launch) (D : va_G) (aT : Nat → ClassId) (ad : Nat → Nat) (S : MSt) (x : Int32) (hF : FoW (S 0)) : MdI l yX10_parent cX10_parent 3 .int 3 66 D aT ad [.ref (ad 0), .int x] S (fun r S1 => (fnd (fun k => S 0 (29 + 4 * k)) x (nM (S 0)) = none ∧ r = -1 ∧ S1 = ss S 8 (nI 1)) ∨ (∃ q, fnd (fun k => S 0 (29 + 4 * k)) x (nM (S 0)) = some q ∧ prM (S 0) q = none ∧ r = -1 ∧ S1 = ss S 8 (nI 1)) ∨ (∃ q j, fnd (fun k => S 0 (29 + 4 * k)) x (nM (S 0)) = some q ∧ prM (S 0) q = some j ∧ r = nI (idM (S 0) j) ∧ S1 = ss S 8 (nI 0))) := by
  refine MdI.of (by decide +kernel) rfl (Nat.le_of_ble_eq_true rfl) ?_
  intro p e s m below meth c A ls C hml hl hA hr hlocks hW
  have hl : lv_has ls 3 [(0, .ref (ad 0)), (1, .int x)] := hl
  have hx := C.1
  have hb := C.2.1
  refine lv_aload_n hx hb dX10_parent_0 rfl (lv_at hl 0 rfl) ?_
  refine lv_iload_n hx hb dX10_parent_1 rfl (lv_at hl 1 rfl) ?_
  refine lv_iconst (v := nI 1) hx hb dX10_parent_2 (by decide) ?_
  refine md_calli C hml hl.1 (As := [.int x, .int (nI 1)]) (rest := []) (m_ofMotion l D aT ad S (x) 1 (by decide) hF) gT_ofMotion hd_ofMotion rfl ⟨Nat.le_of_ble_eq_true rfl, Nat.le_of_ble_eq_true rfl⟩ ⟨Nat.le_refl _, Nat.le_refl _⟩ hW hA rfl (Nat.le_of_ble_eq_true rfl) dX10_parent_3 (fun r_3 S_3 H locs hq hW => ?_)
  rcases hq with ⟨h1, rfl, rfl⟩ | ⟨q, h1, rfl, rfl⟩
  · refine lv_istore_n (lv' := [(2, .int (-1)), (0, .ref (ad 0)), (1, .int x)]) hx hb dX10_parent_6 rfl hl (by decide) rfl (fun ls hl => ?_)
    refine lv_iload_n hx hb dX10_parent_7 rfl (lv_at hl 0 rfl) ?_
    refine lv_iconst (v := (-1)) hx hb dX10_parent_8 (by decide) ?_
    refine lv_icmp_ne hx hb (x := (-1)) (y := (-1)) (tgt := 20) dX10_parent_9 (by decide) (fun c_9 => ?_) (fun c_9 => ?_)
    · exact absurd rfl c_9
    · refine lv_aload_n hx hb dX10_parent_12 rfl (lv_at hl 1 rfl) ?_
      refine lv_iconst (v := nI 1) hx hb dX10_parent_13 (by decide) ?_
      refine md_calli C hml hl.1 (As := [.int (nI 1)]) (rest := []) (m_throwing l D aT ad (ss S 8 (nI 1)) 1) gT_throwing hd_throwing rfl ⟨Nat.le_of_ble_eq_true rfl, Nat.le_of_ble_eq_true rfl⟩ ⟨Nat.le_refl _, Nat.le_refl _⟩ hW hA rfl (Nat.le_of_ble_eq_true rfl) dX10_parent_14 (fun r_14 S_14 H locs hq hW => ?_)
      obtain ⟨rfl, rfl⟩ := hq
      refine lv_goto (tgt := 21) hx hb dX10_parent_17 (by decide) ?_
      exact md_iret C hr hlocks rfl hW (Or.inl ⟨h1, rfl, ss_ss _ _ _ _⟩) dX10_parent_21
  · refine r_eq (y := (oi ((prM (S 0) q).map (idM (S 0))))) (hF.2.2.2.1 q (fnd_some h1).1) ?_
    refine lv_istore_n (lv' := [(2, .int (oi ((prM (S 0) q).map (idM (S 0))))), (0, .ref (ad 0)), (1, .int x)]) hx hb dX10_parent_6 rfl hl (by decide) rfl (fun ls hl => ?_)
    refine lv_iload_n hx hb dX10_parent_7 rfl (lv_at hl 0 rfl) ?_
    refine lv_iconst (v := (-1)) hx hb dX10_parent_8 (by decide) ?_
    refine r_oi_ne hx hb (o := ((prM (S 0) q).map (idM (S 0)))) (hF.pid (fnd_some h1).1) (tgt := 20) dX10_parent_9 (by decide) (fun j_9 c_9 => ?_) (fun c_9 => ?_)
    · have hl : lv_has ls 3 [(2, .int (nI j_9)), (0, .ref (ad 0)), (1, .int x)] := by rw [c_9] at hl; exact hl
      refine lv_iload_n hx hb dX10_parent_20 rfl (lv_at hl 0 rfl) ?_
      exact md_iret C hr hlocks rfl hW (Or.inr (Or.inr (by obtain ⟨j, hj1, hj2⟩ := Option.map_eq_some_iff.mp c_9; exact ⟨q, j, h1, hj1, by rw [hj2], rfl⟩))) dX10_parent_21
    · have hl : lv_has ls 3 [(2, .int (-1)), (0, .ref (ad 0)), (1, .int x)] := by rw [c_9] at hl; exact hl
      refine lv_aload_n hx hb dX10_parent_12 rfl (lv_at hl 1 rfl) ?_
      refine lv_iconst (v := nI 1) hx hb dX10_parent_13 (by decide) ?_
      refine md_calli C hml hl.1 (As := [.int (nI 1)]) (rest := []) (m_throwing l D aT ad (ss S 8 (nI 0)) 1) gT_throwing hd_throwing rfl ⟨Nat.le_of_ble_eq_true rfl, Nat.le_of_ble_eq_true rfl⟩ ⟨Nat.le_refl _, Nat.le_refl _⟩ hW hA rfl (Nat.le_of_ble_eq_true rfl) dX10_parent_14 (fun r_14 S_14 H locs hq hW => ?_)
      obtain ⟨rfl, rfl⟩ := hq
      refine lv_goto (tgt := 21) hx hb dX10_parent_17 (by decide) ?_
      exact md_iret C hr hlocks rfl hW (Or.inr (Or.inl ⟨q, h1, by simpa using c_9, rfl, ss_ss _ _ _ _⟩)) dX10_parent_21
theorem gT_isMotionAhead : GoodIn gw (wsV RX10 175 RX10 yX10_isMotionAhead (Cond.code yX10_isMotionAhead cX10_isMotionAhead 4 (some .boolean) :: gw)) := gdV gw_1920 gw_1922 gw_48 gw_81 gw_1923
theorem hd_isMotionAhead : yX10_isMotionAhead.cls = RX10 ∧ yX10_isMotionAhead.cls ≠ "java/lang/invoke/MethodHandle" ∧ yX10_isMotionAhead.cls ≠ "java/lang/invoke/VarHandle" ∧ (parseMethodDescriptor yX10_isMotionAhead.desc).map (fun d => d.parameters.length) = some 2 := ⟨rfl, by decide +kernel, by decide +kernel, by decide +kernel⟩
theorem dX10_isMotionAhead_0 : decode cX10_isMotionAhead 0 = .ok (.aload_n 0, 1) := by decide +kernel
theorem dX10_isMotionAhead_1 : decode cX10_isMotionAhead 1 = .ok (.iload_n 1, 1) := by decide +kernel
theorem dX10_isMotionAhead_2 : decode cX10_isMotionAhead 2 = .ok (.iconst 3, 1) := by decide +kernel
theorem dX10_isMotionAhead_3 : decode cX10_isMotionAhead 3 = .ok (.invokevirtual 67, 3) := by decide +kernel
theorem dX10_isMotionAhead_6 : decode cX10_isMotionAhead 6 = .ok (.aload_n 0, 1) := by decide +kernel
theorem dX10_isMotionAhead_7 : decode cX10_isMotionAhead 7 = .ok (.iload_n 2, 1) := by decide +kernel
theorem dX10_isMotionAhead_8 : decode cX10_isMotionAhead 8 = .ok (.iconst 3, 1) := by decide +kernel
theorem dX10_isMotionAhead_9 : decode cX10_isMotionAhead 9 = .ok (.invokevirtual 67, 3) := by decide +kernel
theorem dX10_isMotionAhead_12 : decode cX10_isMotionAhead 12 = .ok (.isub, 1) := by decide +kernel
theorem dX10_isMotionAhead_13 : decode cX10_isMotionAhead 13 = .ok (.istore_n 3, 1) := by decide +kernel
theorem dX10_isMotionAhead_14 : decode cX10_isMotionAhead 14 = .ok (.iload_n 3, 1) := by decide +kernel
theorem dX10_isMotionAhead_15 : decode cX10_isMotionAhead 15 = .ok (.ifCond .ne 17, 3) := by decide +kernel
theorem dX10_isMotionAhead_18 : decode cX10_isMotionAhead 18 = .ok (.aload_n 0, 1) := by decide +kernel
theorem dX10_isMotionAhead_19 : decode cX10_isMotionAhead 19 = .ok (.iload_n 2, 1) := by decide +kernel
theorem dX10_isMotionAhead_20 : decode cX10_isMotionAhead 20 = .ok (.invokevirtual 125, 3) := by decide +kernel
theorem dX10_isMotionAhead_23 : decode cX10_isMotionAhead 23 = .ok (.aload_n 0, 1) := by decide +kernel
theorem dX10_isMotionAhead_24 : decode cX10_isMotionAhead 24 = .ok (.iload_n 1, 1) := by decide +kernel
theorem dX10_isMotionAhead_25 : decode cX10_isMotionAhead 25 = .ok (.invokevirtual 125, 3) := by decide +kernel
theorem dX10_isMotionAhead_28 : decode cX10_isMotionAhead 28 = .ok (.isub, 1) := by decide +kernel
theorem dX10_isMotionAhead_29 : decode cX10_isMotionAhead 29 = .ok (.goto 4, 3) := by decide +kernel
theorem dX10_isMotionAhead_32 : decode cX10_isMotionAhead 32 = .ok (.iload_n 3, 1) := by decide +kernel
theorem dX10_isMotionAhead_33 : decode cX10_isMotionAhead 33 = .ok (.istore_n 3, 1) := by decide +kernel
theorem dX10_isMotionAhead_34 : decode cX10_isMotionAhead 34 = .ok (.iload_n 3, 1) := by decide +kernel
theorem dX10_isMotionAhead_35 : decode cX10_isMotionAhead 35 = .ok (.ifCond .gt 12, 3) := by decide +kernel
theorem dX10_isMotionAhead_38 : decode cX10_isMotionAhead 38 = .ok (.iload_n 3, 1) := by decide +kernel
theorem dX10_isMotionAhead_39 : decode cX10_isMotionAhead 39 = .ok (.ifCond .ne 12, 3) := by decide +kernel
theorem dX10_isMotionAhead_42 : decode cX10_isMotionAhead 42 = .ok (.iload_n 1, 1) := by decide +kernel
theorem dX10_isMotionAhead_43 : decode cX10_isMotionAhead 43 = .ok (.iload_n 2, 1) := by decide +kernel
theorem dX10_isMotionAhead_44 : decode cX10_isMotionAhead 44 = .ok (.if_icmp .ge 7, 3) := by decide +kernel
theorem dX10_isMotionAhead_47 : decode cX10_isMotionAhead 47 = .ok (.iconst 1, 1) := by decide +kernel
theorem dX10_isMotionAhead_48 : decode cX10_isMotionAhead 48 = .ok (.goto 4, 3) := by decide +kernel
theorem dX10_isMotionAhead_51 : decode cX10_isMotionAhead 51 = .ok (.iconst 0, 1) := by decide +kernel
theorem dX10_isMotionAhead_52 : decode cX10_isMotionAhead 52 = .ok (.ireturn, 1) := by decide +kernel
set_option maxHeartbeats 1000000 in
set_option maxRecDepth 20000 in
theorem m_isMotionAhead (l : Launch) (D : va_G) (aT : Nat → ClassId) (ad : Nat → Nat) (S : MSt) (a b : Nat) (hF : FoW (S 0)) (ha : a < nM (S 0)) (hb2 : b < nM (S 0)) : MdG l yX10_isMotionAhead cX10_isMotionAhead 4 .boolean 4 88 D aT ad [.ref (ad 0), .int (nI a), .int (nI b)] S (fun r => r = bI (mAh (S 0) a b)) := by
  refine MdI.of (by decide +kernel) rfl (Nat.le_of_ble_eq_true rfl) ?_
  intro p e s m below meth c A ls C hml hl hA hr hlocks hW
  have hl : lv_has ls 4 [(0, .ref (ad 0)), (1, .int (nI a)), (2, .int (nI b))] := hl
  have hx := C.1
  have hb := C.2.1
  refine lv_aload_n hx hb dX10_isMotionAhead_0 rfl (lv_at hl 0 rfl) ?_
  refine lv_iload_n hx hb dX10_isMotionAhead_1 rfl (lv_at hl 1 rfl) ?_
  refine lv_iconst (v := nI 3) hx hb dX10_isMotionAhead_2 (by decide) ?_
  refine md_callg C hml hl.1 (As := [.int (nI a), .int (nI 3)]) (rest := []) (m_of l D aT ad S a 3 (by have := hF.n12; omega)) gT_of hd_of rfl ⟨Nat.le_of_ble_eq_true rfl, Nat.le_of_ble_eq_true rfl⟩ ⟨Nat.le_refl _, Nat.le_refl _⟩ hW hA rfl (Nat.le_of_ble_eq_true rfl) dX10_isMotionAhead_3 (fun r_3 H locs hq hW => ?_)
  subst hq
  refine lv_aload_n hx hb dX10_isMotionAhead_6 rfl (lv_at hl 0 rfl) ?_
  refine lv_iload_n hx hb dX10_isMotionAhead_7 rfl (lv_at hl 2 rfl) ?_
  refine lv_iconst (v := nI 3) hx hb dX10_isMotionAhead_8 (by decide) ?_
  refine md_callg C hml hl.1 (As := [.int (nI b), .int (nI 3)]) (rest := [.int (S 0 (29 + 4 * a + 3))]) (m_of l D aT ad S b 3 (by have := hF.n12; omega)) gT_of hd_of rfl ⟨Nat.le_of_ble_eq_true rfl, Nat.le_of_ble_eq_true rfl⟩ ⟨Nat.le_refl _, Nat.le_refl _⟩ hW hA rfl (Nat.le_of_ble_eq_true rfl) dX10_isMotionAhead_9 (fun r_9 H locs hq hW => ?_)
  subst hq
  refine lv_isub hx hb dX10_isMotionAhead_12 ?_
  refine lv_istore_n (lv' := [(3, .int ((S 0 (29 + 4 * a + 3)) - (S 0 (29 + 4 * b + 3)))), (0, .ref (ad 0)), (1, .int (nI a)), (2, .int (nI b))]) hx hb dX10_isMotionAhead_13 rfl hl (by decide) rfl (fun ls hl => ?_)
  refine lv_iload_n hx hb dX10_isMotionAhead_14 rfl (lv_at hl 0 rfl) ?_
  refine lv_if_ne hx hb (x := ((S 0 (29 + 4 * a + 3)) - (S 0 (29 + 4 * b + 3)))) (tgt := 32) dX10_isMotionAhead_15 (by decide) (fun c_15 => ?_) (fun c_15 => ?_)
  · refine lv_iload_n hx hb dX10_isMotionAhead_32 rfl (lv_at hl 0 rfl) ?_
    refine lv_istore_n (lv' := [(3, .int ((S 0 (29 + 4 * a + 3)) - (S 0 (29 + 4 * b + 3)))), (0, .ref (ad 0)), (1, .int (nI a)), (2, .int (nI b))]) hx hb dX10_isMotionAhead_33 rfl hl (by decide) rfl (fun ls hl => ?_)
    refine lv_iload_n hx hb dX10_isMotionAhead_34 rfl (lv_at hl 0 rfl) ?_
    refine lv_if_gt hx hb (x := ((S 0 (29 + 4 * a + 3)) - (S 0 (29 + 4 * b + 3)))) (tgt := 47) dX10_isMotionAhead_35 (by decide) (fun c_35 => ?_) (fun c_35 => ?_)
    · refine lv_iconst (v := nI 1) hx hb dX10_isMotionAhead_47 (by decide) ?_
      refine lv_goto (tgt := 52) hx hb dX10_isMotionAhead_48 (by decide) ?_
      exact md_iret C hr hlocks (by decide) hW (⟨by unfold mAh; rw [if_neg c_15, decide_eq_true c_35]; rfl, rfl⟩) dX10_isMotionAhead_52
    · refine lv_iload_n hx hb dX10_isMotionAhead_38 rfl (lv_at hl 0 rfl) ?_
      refine lv_if_ne hx hb (x := ((S 0 (29 + 4 * a + 3)) - (S 0 (29 + 4 * b + 3)))) (tgt := 51) dX10_isMotionAhead_39 (by decide) (fun c_39 => ?_) (fun c_39 => ?_)
      · refine lv_iconst (v := nI 0) hx hb dX10_isMotionAhead_51 (by decide) ?_
        exact md_iret C hr hlocks (by decide) hW (⟨by unfold mAh; rw [if_neg c_15, decide_eq_false c_35]; rfl, rfl⟩) dX10_isMotionAhead_52
      · exact absurd c_39 c_15
  · refine lv_aload_n hx hb dX10_isMotionAhead_18 rfl (lv_at hl 1 rfl) ?_
    refine lv_iload_n hx hb dX10_isMotionAhead_19 rfl (lv_at hl 3 rfl) ?_
    refine md_callg C hml hl.1 (As := [.int (nI b)]) (rest := []) (m_deep l D aT ad S (nM (S 0)) (idM (S 0)) (prM (S 0)) (tnM (S 0)) hF b (hb2)) gT_deep hd_deep rfl ⟨Nat.le_of_ble_eq_true rfl, Nat.le_of_ble_eq_true rfl⟩ ⟨Nat.le_refl _, Nat.le_refl _⟩ hW hA rfl (Nat.le_of_ble_eq_true rfl) dX10_isMotionAhead_20 (fun r_20 H locs hq hW => ?_)
    subst hq
    refine lv_aload_n hx hb dX10_isMotionAhead_23 rfl (lv_at hl 1 rfl) ?_
    refine lv_iload_n hx hb dX10_isMotionAhead_24 rfl (lv_at hl 2 rfl) ?_
    refine md_callg C hml hl.1 (As := [.int (nI a)]) (rest := [.int (nI (dep (prM (S 0)) b))]) (m_deep l D aT ad S (nM (S 0)) (idM (S 0)) (prM (S 0)) (tnM (S 0)) hF a (ha)) gT_deep hd_deep rfl ⟨Nat.le_of_ble_eq_true rfl, Nat.le_of_ble_eq_true rfl⟩ ⟨Nat.le_refl _, Nat.le_refl _⟩ hW hA rfl (Nat.le_of_ble_eq_true rfl) dX10_isMotionAhead_25 (fun r_25 H locs hq hW => ?_)
    subst hq
    refine lv_isub hx hb dX10_isMotionAhead_28 ?_
    refine lv_goto (tgt := 33) hx hb dX10_isMotionAhead_29 (by decide) ?_
    refine lv_istore_n (lv' := [(3, .int (nI (dep (prM (S 0)) b) - nI (dep (prM (S 0)) a))), (0, .ref (ad 0)), (1, .int (nI a)), (2, .int (nI b))]) hx hb dX10_isMotionAhead_33 rfl hl (by decide) rfl (fun ls hl => ?_)
    refine lv_iload_n hx hb dX10_isMotionAhead_34 rfl (lv_at hl 0 rfl) ?_
    refine r_ifgtD hx hb (a := (dep (prM (S 0)) b)) (b := (dep (prM (S 0)) a)) (by first | exact Nat.lt_of_le_of_lt (dep_le hF.ok _ ha) (by have := hF.n12; omega) | exact Nat.lt_of_le_of_lt (dep_le hF.ok _ hb2) (by have := hF.n12; omega) | (have := hF.n12; omega)) (by first | exact Nat.lt_of_le_of_lt (dep_le hF.ok _ ha) (by have := hF.n12; omega) | exact Nat.lt_of_le_of_lt (dep_le hF.ok _ hb2) (by have := hF.n12; omega) | (have := hF.n12; omega)) (tgt := 47) dX10_isMotionAhead_35 (by decide) (fun c_35 => ?_) (fun c_35 => ?_)
    · refine lv_iconst (v := nI 1) hx hb dX10_isMotionAhead_47 (by decide) ?_
      refine lv_goto (tgt := 52) hx hb dX10_isMotionAhead_48 (by decide) ?_
      exact md_iret C hr hlocks (by decide) hW (⟨by unfold mAh; rw [if_pos c_15, show decide _ = true from decide_eq_true (by omega)]; rfl, rfl⟩) dX10_isMotionAhead_52
    · refine lv_iload_n hx hb dX10_isMotionAhead_38 rfl (lv_at hl 0 rfl) ?_
      refine r_ifneD hx hb (a := (dep (prM (S 0)) b)) (b := (dep (prM (S 0)) a)) (by first | exact Nat.lt_of_le_of_lt (dep_le hF.ok _ ha) (by have := hF.n12; omega) | exact Nat.lt_of_le_of_lt (dep_le hF.ok _ hb2) (by have := hF.n12; omega) | (have := hF.n12; omega)) (by first | exact Nat.lt_of_le_of_lt (dep_le hF.ok _ ha) (by have := hF.n12; omega) | exact Nat.lt_of_le_of_lt (dep_le hF.ok _ hb2) (by have := hF.n12; omega) | (have := hF.n12; omega)) (tgt := 51) dX10_isMotionAhead_39 (by decide) (fun c_39 => ?_) (fun c_39 => ?_)
      · refine lv_iconst (v := nI 0) hx hb dX10_isMotionAhead_51 (by decide) ?_
        exact md_iret C hr hlocks (by decide) hW (⟨by unfold mAh; rw [if_pos c_15, show decide _ = false from decide_eq_false (by omega)]; rfl, rfl⟩) dX10_isMotionAhead_52
      · refine lv_iload_n hx hb dX10_isMotionAhead_42 rfl (lv_at hl 2 rfl) ?_
        refine lv_iload_n hx hb dX10_isMotionAhead_43 rfl (lv_at hl 3 rfl) ?_
        refine r_geN hx hb (a := a) (b := b) (by first | exact Nat.lt_of_le_of_lt (dep_le hF.ok _ ha) (by have := hF.n12; omega) | exact Nat.lt_of_le_of_lt (dep_le hF.ok _ hb2) (by have := hF.n12; omega) | (have := hF.n12; omega)) (by first | exact Nat.lt_of_le_of_lt (dep_le hF.ok _ ha) (by have := hF.n12; omega) | exact Nat.lt_of_le_of_lt (dep_le hF.ok _ hb2) (by have := hF.n12; omega) | (have := hF.n12; omega)) (tgt := 51) dX10_isMotionAhead_44 (by decide) (fun c_44 => ?_) (fun c_44 => ?_)
        · refine lv_iconst (v := nI 0) hx hb dX10_isMotionAhead_51 (by decide) ?_
          exact md_iret C hr hlocks (by decide) hW (⟨by unfold mAh; rw [if_pos c_15, show decide _ = false from decide_eq_false (by omega)]; rfl, rfl⟩) dX10_isMotionAhead_52
        · refine lv_iconst (v := nI 1) hx hb dX10_isMotionAhead_47 (by decide) ?_
          refine lv_goto (tgt := 52) hx hb dX10_isMotionAhead_48 (by decide) ?_
          exact md_iret C hr hlocks (by decide) hW (⟨by unfold mAh; rw [if_pos c_15, show decide _ = true from decide_eq_true (by omega)]; rfl, rfl⟩) dX10_isMotionAhead_52
theorem dX10_motionAtRank_0 : decode cX10_motionAtRank 0 = .ok (.aload_n 0, 1) := by decide +kernel
theorem dX10_motionAtRank_1 : decode cX10_motionAtRank 1 = .ok (.iconst 0, 1) := by decide +kernel
theorem dX10_motionAtRank_2 : decode cX10_motionAtRank 2 = .ok (.putfield 57, 3) := by decide +kernel
theorem dX10_motionAtRank_5 : decode cX10_motionAtRank 5 = .ok (.iconst 0, 1) := by decide +kernel
theorem dX10_motionAtRank_6 : decode cX10_motionAtRank 6 = .ok (.istore_n 2, 1) := by decide +kernel
theorem dX10_motionAtRank_7 : decode cX10_motionAtRank 7 = .ok (.iload_n 2, 1) := by decide +kernel
theorem dX10_motionAtRank_8 : decode cX10_motionAtRank 8 = .ok (.aload_n 0, 1) := by decide +kernel
theorem dX10_motionAtRank_9 : decode cX10_motionAtRank 9 = .ok (.getfield 9, 3) := by decide +kernel
theorem dX10_motionAtRank_12 : decode cX10_motionAtRank 12 = .ok (.iconst 2, 1) := by decide +kernel
theorem dX10_motionAtRank_13 : decode cX10_motionAtRank 13 = .ok (.iaload, 1) := by decide +kernel
theorem dX10_motionAtRank_14 : decode cX10_motionAtRank 14 = .ok (.if_icmp .ge 61, 3) := by decide +kernel
theorem dX10_motionAtRank_17 : decode cX10_motionAtRank 17 = .ok (.iconst 0, 1) := by decide +kernel
theorem dX10_motionAtRank_18 : decode cX10_motionAtRank 18 = .ok (.istore_n 3, 1) := by decide +kernel
theorem dX10_motionAtRank_19 : decode cX10_motionAtRank 19 = .ok (.iconst 0, 1) := by decide +kernel
theorem dX10_motionAtRank_20 : decode cX10_motionAtRank 20 = .ok (.istore 4, 2) := by decide +kernel
theorem dX10_motionAtRank_22 : decode cX10_motionAtRank 22 = .ok (.iload 4, 2) := by decide +kernel
theorem dX10_motionAtRank_24 : decode cX10_motionAtRank 24 = .ok (.aload_n 0, 1) := by decide +kernel
theorem dX10_motionAtRank_25 : decode cX10_motionAtRank 25 = .ok (.getfield 9, 3) := by decide +kernel
theorem dX10_motionAtRank_28 : decode cX10_motionAtRank 28 = .ok (.iconst 2, 1) := by decide +kernel
theorem dX10_motionAtRank_29 : decode cX10_motionAtRank 29 = .ok (.iaload, 1) := by decide +kernel
theorem dX10_motionAtRank_30 : decode cX10_motionAtRank 30 = .ok (.if_icmp .ge 27, 3) := by decide +kernel
theorem dX10_motionAtRank_33 : decode cX10_motionAtRank 33 = .ok (.iload_n 3, 1) := by decide +kernel
theorem dX10_motionAtRank_34 : decode cX10_motionAtRank 34 = .ok (.aload_n 0, 1) := by decide +kernel
theorem dX10_motionAtRank_35 : decode cX10_motionAtRank 35 = .ok (.iload 4, 2) := by decide +kernel
theorem dX10_motionAtRank_37 : decode cX10_motionAtRank 37 = .ok (.iload_n 2, 1) := by decide +kernel
theorem dX10_motionAtRank_38 : decode cX10_motionAtRank 38 = .ok (.invokevirtual 175, 3) := by decide +kernel
theorem dX10_motionAtRank_41 : decode cX10_motionAtRank 41 = .ok (.ifCond .eq 7, 3) := by decide +kernel
theorem dX10_motionAtRank_44 : decode cX10_motionAtRank 44 = .ok (.iconst 1, 1) := by decide +kernel
theorem dX10_motionAtRank_45 : decode cX10_motionAtRank 45 = .ok (.goto 4, 3) := by decide +kernel
theorem dX10_motionAtRank_48 : decode cX10_motionAtRank 48 = .ok (.iconst 0, 1) := by decide +kernel
theorem dX10_motionAtRank_49 : decode cX10_motionAtRank 49 = .ok (.iadd, 1) := by decide +kernel
theorem dX10_motionAtRank_50 : decode cX10_motionAtRank 50 = .ok (.istore_n 3, 1) := by decide +kernel
theorem dX10_motionAtRank_51 : decode cX10_motionAtRank 51 = .ok (.iinc 4 1, 3) := by decide +kernel
theorem dX10_motionAtRank_54 : decode cX10_motionAtRank 54 = .ok (.goto (-32), 3) := by decide +kernel
theorem dX10_motionAtRank_57 : decode cX10_motionAtRank 57 = .ok (.iload_n 3, 1) := by decide +kernel
theorem dX10_motionAtRank_58 : decode cX10_motionAtRank 58 = .ok (.iload_n 1, 1) := by decide +kernel
theorem dX10_motionAtRank_59 : decode cX10_motionAtRank 59 = .ok (.if_icmp .ne 10, 3) := by decide +kernel
theorem dX10_motionAtRank_62 : decode cX10_motionAtRank 62 = .ok (.aload_n 0, 1) := by decide +kernel
theorem dX10_motionAtRank_63 : decode cX10_motionAtRank 63 = .ok (.iload_n 2, 1) := by decide +kernel
theorem dX10_motionAtRank_64 : decode cX10_motionAtRank 64 = .ok (.iconst 0, 1) := by decide +kernel
theorem dX10_motionAtRank_65 : decode cX10_motionAtRank 65 = .ok (.invokevirtual 67, 3) := by decide +kernel
theorem dX10_motionAtRank_68 : decode cX10_motionAtRank 68 = .ok (.ireturn, 1) := by decide +kernel
theorem dX10_motionAtRank_69 : decode cX10_motionAtRank 69 = .ok (.iinc 2 1, 3) := by decide +kernel
theorem dX10_motionAtRank_72 : decode cX10_motionAtRank 72 = .ok (.goto (-65), 3) := by decide +kernel
theorem dX10_motionAtRank_75 : decode cX10_motionAtRank 75 = .ok (.aload_n 0, 1) := by decide +kernel
theorem dX10_motionAtRank_76 : decode cX10_motionAtRank 76 = .ok (.iconst 1, 1) := by decide +kernel
theorem dX10_motionAtRank_77 : decode cX10_motionAtRank 77 = .ok (.invokevirtual 101, 3) := by decide +kernel
theorem dX10_motionAtRank_80 : decode cX10_motionAtRank 80 = .ok (.ireturn, 1) := by decide +kernel
set_option maxHeartbeats 2000000 in
set_option maxRecDepth 20000 in
theorem m_motionAtRank (l : Launch) (D : va_G) (aT : Nat → ClassId) (ad : Nat → Nat) (S : MSt) (x : Int32) (hF : FoW (S 0)) : MdI l yX10_motionAtRank cX10_motionAtRank 5 .int 5 111 D aT ad [.ref (ad 0), .int x] S (fun r S1 => (fnd (fun k => nI (rkN (mAh (S 0)) k (nM (S 0)))) x (nM (S 0)) = none ∧ r = -1 ∧ S1 = ss S 8 (nI 1)) ∨ (∃ k, fnd (fun k => nI (rkN (mAh (S 0)) k (nM (S 0)))) x (nM (S 0)) = some k ∧ r = S 0 (29 + 4 * k) ∧ S1 = ss S 8 (nI 0))) := by
  refine MdI.of (by decide +kernel) rfl (Nat.le_of_ble_eq_true rfl) ?_
  intro p e s m below meth c A ls C hml hl hA hr hlocks hW
  have hl : lv_has ls 5 [(0, .ref (ad 0)), (1, .int x)] := hl
  have hx := C.1
  have hb := C.2.1
  refine lv_aload_n hx hb dX10_motionAtRank_0 rfl (lv_at hl 0 rfl) ?_
  refine lv_iconst (v := nI 0) hx hb dX10_motionAtRank_1 (by decide) ?_
  refine md_put_thrown C hW dX10_motionAtRank_2 (fun H locs hW => ?_)
  refine lv_iconst (v := nI 0) hx hb dX10_motionAtRank_5 (by decide) ?_
  refine lv_istore_n (lv' := [(2, .int (nI 0)), (0, .ref (ad 0)), (1, .int x)]) hx hb dX10_motionAtRank_6 rfl hl (by decide) rfl (fun ls hl => ?_)
  refine W_loopH (σ := Nat) (fun z_ => nM (S 0) - z_) (fun z_ H locs g => ∃ ls, g = F0 m 7 ls [] ∧ lv_has ls 5 [(0, .ref (ad 0)), (1, .int x), (2, .int (nI z_))] ∧ MdB D aT ad (ss S 8 (nI 0)) A s.heap H locs ∧ (fnd (fun k => nI (rkN (mAh (S 0)) k (nM (S 0)))) x z_ = none ∧ z_ ≤ nM (S 0))) ?_ 0 _ ⟨_, rfl, lv_sub hl [1, 2, 0] rfl, hW, ⟨rfl, Nat.zero_le _⟩⟩
  clear hW hl
  rintro k H locs g ⟨ls, rfl, hl, hW, hk, hkh⟩ ih_7
  have h6 := hF.n12
  refine lv_iload_n hx hb dX10_motionAtRank_7 rfl (lv_at hl 2 rfl) ?_
  refine lv_aload_n hx hb dX10_motionAtRank_8 rfl (lv_at hl 0 rfl) ?_
  refine md_geta_m C hW dX10_motionAtRank_9 ?_
  refine lv_iconst (v := nI 2) hx hb dX10_motionAtRank_12 (by decide) ?_
  refine md_ald_m C hW (i := 2) (by omega) dX10_motionAtRank_13 ?_
  refine r_eq (y := (nI (nM (S 0)))) (hF.1) ?_
  refine r_geN hx hb (a := k) (b := (nM (S 0))) (by omega) (by omega) (tgt := 75) dX10_motionAtRank_14 (by decide) (fun c_14 => ?_) (fun c_14 => ?_)
  · refine lv_aload_n hx hb dX10_motionAtRank_75 rfl (lv_at hl 0 rfl) ?_
    refine lv_iconst (v := nI 1) hx hb dX10_motionAtRank_76 (by decide) ?_
    refine md_calli C hml hl.1 (As := [.int (nI 1)]) (rest := []) (m_throwing l D aT ad (ss S 8 (nI 0)) 1) gT_throwing hd_throwing rfl ⟨Nat.le_of_ble_eq_true rfl, Nat.le_of_ble_eq_true rfl⟩ ⟨Nat.le_refl _, Nat.le_refl _⟩ hW hA rfl (Nat.le_of_ble_eq_true rfl) dX10_motionAtRank_77 (fun r_77 S_77 H locs hq hW => ?_)
    obtain ⟨rfl, rfl⟩ := hq
    exact md_iret C hr hlocks rfl hW (Or.inl ⟨(show k = nM (S 0) by omega) ▸ hk, rfl, ss_ss _ _ _ _⟩) dX10_motionAtRank_80
  · refine lv_iconst (v := nI 0) hx hb dX10_motionAtRank_17 (by decide) ?_
    refine lv_istore_n (lv' := [(3, .int (nI 0)), (0, .ref (ad 0)), (1, .int x), (2, .int (nI k))]) hx hb dX10_motionAtRank_18 rfl hl (by decide) rfl (fun ls hl => ?_)
    refine lv_iconst (v := nI 0) hx hb dX10_motionAtRank_19 (by decide) ?_
    refine lv_istore (lv' := [(4, .int (nI 0)), (3, .int (nI 0)), (0, .ref (ad 0)), (1, .int x), (2, .int (nI k))]) hx hb dX10_motionAtRank_20 hl (by decide) rfl (fun ls hl => ?_)
    refine W_loopH (σ := Nat × Nat) (fun z_ => nM (S 0) - z_.2) (fun z_ H locs g => ∃ ls, g = F0 m 22 ls [] ∧ lv_has ls 5 [(0, .ref (ad 0)), (1, .int x), (2, .int (nI k)), (3, .int (nI z_.1)), (4, .int (nI z_.2))] ∧ MdB D aT ad (ss S 8 (nI 0)) A s.heap H locs ∧ (z_.1 = (rkN (mAh (S 0)) k z_.2) ∧ z_.2 ≤ nM (S 0))) ?_ (0, 0) _ ⟨_, rfl, lv_sub hl [2, 3, 4, 1, 0] rfl, hW, ⟨rfl, Nat.zero_le _⟩⟩
    clear hW hl
    rintro ⟨bf, o⟩ H locs g ⟨ls, rfl, hl, hW, hb2, hoh⟩ ih_22
    dsimp only at hl hW hb2 hoh ⊢
    refine lv_iload hx hb dX10_motionAtRank_22 (lv_at hl 4 rfl) ?_
    refine lv_aload_n hx hb dX10_motionAtRank_24 rfl (lv_at hl 0 rfl) ?_
    refine md_geta_m C hW dX10_motionAtRank_25 ?_
    refine lv_iconst (v := nI 2) hx hb dX10_motionAtRank_28 (by decide) ?_
    refine md_ald_m C hW (i := 2) (by omega) dX10_motionAtRank_29 ?_
    refine r_eq (y := (nI (nM (S 0)))) (hF.1) ?_
    refine r_geN hx hb (a := o) (b := (nM (S 0))) (by omega) (by omega) (tgt := 57) dX10_motionAtRank_30 (by decide) (fun c_30 => ?_) (fun c_30 => ?_)
    · refine lv_iload_n hx hb dX10_motionAtRank_57 rfl (lv_at hl 3 rfl) ?_
      refine lv_iload_n hx hb dX10_motionAtRank_58 rfl (lv_at hl 1 rfl) ?_
      refine lv_icmp_ne hx hb (x := (nI bf)) (y := x) (tgt := 69) dX10_motionAtRank_59 (by decide) (fun c_59 => ?_) (fun c_59 => ?_)
      · refine lv_iinc (v := (nI (k + 1))) (lv' := [(2, .int (nI (k + 1))), (0, .ref (ad 0)), (1, .int x), (3, .int (nI bf)), (4, .int (nI o))]) hx hb dX10_motionAtRank_69 hl (k := 2) rfl (nI_1 _) (by decide) rfl (fun ls hl => ?_)
        refine lv_goto (tgt := 7) hx hb dX10_motionAtRank_72 (by decide) ?_
        exact ih_7 (k + 1) _ _ _ (by omega) ⟨_, rfl, lv_sub hl [1, 2, 0] rfl, hW, ⟨fnd_step hk (fun z => c_59 (by rw [hb2, show o = nM (S 0) by omega]; exact z)), by omega⟩⟩
      · refine lv_aload_n hx hb dX10_motionAtRank_62 rfl (lv_at hl 0 rfl) ?_
        refine lv_iload_n hx hb dX10_motionAtRank_63 rfl (lv_at hl 2 rfl) ?_
        refine lv_iconst (v := nI 0) hx hb dX10_motionAtRank_64 (by decide) ?_
        refine md_callg C hml hl.1 (As := [.int (nI k), .int (nI 0)]) (rest := []) (m_of l D aT ad (ss S 8 (nI 0)) k 0 (by omega)) gT_of hd_of rfl ⟨Nat.le_of_ble_eq_true rfl, Nat.le_of_ble_eq_true rfl⟩ ⟨Nat.le_refl _, Nat.le_refl _⟩ hW hA rfl (Nat.le_of_ble_eq_true rfl) dX10_motionAtRank_65 (fun r_65 H locs hq hW => ?_)
        subst hq
        refine r_eq (y := (S 0 (29 + 4 * k + 0))) (rfl) ?_
        exact md_iret C hr hlocks rfl hW (Or.inr ⟨k, fnd_hit hk (by rw [hb2, show o = nM (S 0) by omega] at c_59; exact c_59) (by omega), rfl, rfl⟩) dX10_motionAtRank_68
    · refine lv_iload_n hx hb dX10_motionAtRank_33 rfl (lv_at hl 3 rfl) ?_
      refine lv_aload_n hx hb dX10_motionAtRank_34 rfl (lv_at hl 0 rfl) ?_
      refine lv_iload hx hb dX10_motionAtRank_35 (lv_at hl 4 rfl) ?_
      refine lv_iload_n hx hb dX10_motionAtRank_37 rfl (lv_at hl 2 rfl) ?_
      refine md_callg C hml hl.1 (As := [.int (nI o), .int (nI k)]) (rest := [.int (nI bf)]) (m_isMotionAhead l D aT ad (ss S 8 (nI 0)) o k hF (show o < nM (S 0) by omega) (show k < nM (S 0) by omega)) gT_isMotionAhead hd_isMotionAhead rfl ⟨Nat.le_of_ble_eq_true rfl, Nat.le_of_ble_eq_true rfl⟩ ⟨Nat.le_refl _, Nat.le_refl _⟩ hW hA rfl (Nat.le_of_ble_eq_true rfl) dX10_motionAtRank_38 (fun r_38 H locs hq hW => ?_)
      subst hq
      refine r_bI_eq hx hb (b := (mAh (S 0) o k)) (tgt := 48) dX10_motionAtRank_41 (by decide) (fun c_41 => ?_) (fun c_41 => ?_)
      · refine lv_iconst (v := nI 0) hx hb dX10_motionAtRank_48 (by decide) ?_
        refine r_iaddN hx hb (a := bf) (b := 0) dX10_motionAtRank_49 ?_
        refine lv_istore_n (lv' := [(3, .int (nI (bf + 0))), (0, .ref (ad 0)), (1, .int x), (2, .int (nI k)), (4, .int (nI o))]) hx hb dX10_motionAtRank_50 rfl hl (by decide) rfl (fun ls hl => ?_)
        refine lv_iinc (v := (nI (o + 1))) (lv' := [(4, .int (nI (o + 1))), (3, .int (nI (bf + 0))), (0, .ref (ad 0)), (1, .int x), (2, .int (nI k))]) hx hb dX10_motionAtRank_51 hl (k := 4) rfl (nI_1 _) (by decide) rfl (fun ls hl => ?_)
        refine lv_goto (tgt := 22) hx hb dX10_motionAtRank_54 (by decide) ?_
        exact ih_22 (bf + 0, (o + 1)) _ _ _ (by dsimp only; omega) ⟨_, rfl, lv_sub hl [2, 3, 4, 1, 0] rfl, hW, ⟨by rw [rkN, c_41, ← hb2]; rfl, by (try dsimp only); omega⟩⟩
      · refine lv_iconst (v := nI 1) hx hb dX10_motionAtRank_44 (by decide) ?_
        refine lv_goto (tgt := 49) hx hb dX10_motionAtRank_45 (by decide) ?_
        refine r_iaddN hx hb (a := bf) (b := 1) dX10_motionAtRank_49 ?_
        refine lv_istore_n (lv' := [(3, .int (nI (bf + 1))), (0, .ref (ad 0)), (1, .int x), (2, .int (nI k)), (4, .int (nI o))]) hx hb dX10_motionAtRank_50 rfl hl (by decide) rfl (fun ls hl => ?_)
        refine lv_iinc (v := (nI (o + 1))) (lv' := [(4, .int (nI (o + 1))), (3, .int (nI (bf + 1))), (0, .ref (ad 0)), (1, .int x), (2, .int (nI k))]) hx hb dX10_motionAtRank_51 hl (k := 4) rfl (nI_1 _) (by decide) rfl (fun ls hl => ?_)
        refine lv_goto (tgt := 22) hx hb dX10_motionAtRank_54 (by decide) ?_
        exact ih_22 (bf + 1, (o + 1)) _ _ _ (by dsimp only; omega) ⟨_, rfl, lv_sub hl [2, 3, 4, 1, 0] rfl, hW, ⟨by rw [rkN, c_41, ← hb2]; rfl, by (try dsimp only); omega⟩⟩
theorem gT_common : GoodIn gw (wsV RX10 178 RX10 yX10_common (Cond.code yX10_common cX10_common 5 (some .int) :: gw)) := gdV gw_1928 gw_1930 gw_49 gw_81 gw_1931
theorem hd_common : yX10_common.cls = RX10 ∧ yX10_common.cls ≠ "java/lang/invoke/MethodHandle" ∧ yX10_common.cls ≠ "java/lang/invoke/VarHandle" ∧ (parseMethodDescriptor yX10_common.desc).map (fun d => d.parameters.length) = some 2 := ⟨rfl, by decide +kernel, by decide +kernel, by decide +kernel⟩
theorem dX10_common_0 : decode cX10_common 0 = .ok (.iconst (-1), 1) := by decide +kernel
theorem dX10_common_1 : decode cX10_common 1 = .ok (.istore_n 3, 1) := by decide +kernel
theorem dX10_common_2 : decode cX10_common 2 = .ok (.iconst 0, 1) := by decide +kernel
theorem dX10_common_3 : decode cX10_common 3 = .ok (.istore 4, 2) := by decide +kernel
theorem dX10_common_5 : decode cX10_common 5 = .ok (.iload 4, 2) := by decide +kernel
theorem dX10_common_7 : decode cX10_common 7 = .ok (.aload_n 0, 1) := by decide +kernel
theorem dX10_common_8 : decode cX10_common 8 = .ok (.getfield 9, 3) := by decide +kernel
theorem dX10_common_11 : decode cX10_common 11 = .ok (.iconst 2, 1) := by decide +kernel
theorem dX10_common_12 : decode cX10_common 12 = .ok (.iaload, 1) := by decide +kernel
theorem dX10_common_13 : decode cX10_common 13 = .ok (.if_icmp .ge 55, 3) := by decide +kernel
theorem dX10_common_16 : decode cX10_common 16 = .ok (.aload_n 0, 1) := by decide +kernel
theorem dX10_common_17 : decode cX10_common 17 = .ok (.iload_n 1, 1) := by decide +kernel
theorem dX10_common_18 : decode cX10_common 18 = .ok (.iload 4, 2) := by decide +kernel
theorem dX10_common_20 : decode cX10_common 20 = .ok (.invokevirtual 78, 3) := by decide +kernel
theorem dX10_common_23 : decode cX10_common 23 = .ok (.ifCond .eq 37, 3) := by decide +kernel
theorem dX10_common_26 : decode cX10_common 26 = .ok (.aload_n 0, 1) := by decide +kernel
theorem dX10_common_27 : decode cX10_common 27 = .ok (.iload_n 2, 1) := by decide +kernel
theorem dX10_common_28 : decode cX10_common 28 = .ok (.iload 4, 2) := by decide +kernel
theorem dX10_common_30 : decode cX10_common 30 = .ok (.invokevirtual 78, 3) := by decide +kernel
theorem dX10_common_33 : decode cX10_common 33 = .ok (.ifCond .eq 27, 3) := by decide +kernel
theorem dX10_common_36 : decode cX10_common 36 = .ok (.iload_n 3, 1) := by decide +kernel
theorem dX10_common_37 : decode cX10_common 37 = .ok (.iconst (-1), 1) := by decide +kernel
theorem dX10_common_38 : decode cX10_common 38 = .ok (.if_icmp .eq 17, 3) := by decide +kernel
theorem dX10_common_41 : decode cX10_common 41 = .ok (.aload_n 0, 1) := by decide +kernel
theorem dX10_common_42 : decode cX10_common 42 = .ok (.iload 4, 2) := by decide +kernel
theorem dX10_common_44 : decode cX10_common 44 = .ok (.invokevirtual 125, 3) := by decide +kernel
theorem dX10_common_47 : decode cX10_common 47 = .ok (.aload_n 0, 1) := by decide +kernel
theorem dX10_common_48 : decode cX10_common 48 = .ok (.iload_n 3, 1) := by decide +kernel
theorem dX10_common_49 : decode cX10_common 49 = .ok (.invokevirtual 125, 3) := by decide +kernel
theorem dX10_common_52 : decode cX10_common 52 = .ok (.if_icmp .le 8, 3) := by decide +kernel
theorem dX10_common_55 : decode cX10_common 55 = .ok (.iload 4, 2) := by decide +kernel
theorem dX10_common_57 : decode cX10_common 57 = .ok (.goto 4, 3) := by decide +kernel
theorem dX10_common_60 : decode cX10_common 60 = .ok (.iload_n 3, 1) := by decide +kernel
theorem dX10_common_61 : decode cX10_common 61 = .ok (.istore_n 3, 1) := by decide +kernel
theorem dX10_common_62 : decode cX10_common 62 = .ok (.iinc 4 1, 3) := by decide +kernel
theorem dX10_common_65 : decode cX10_common 65 = .ok (.goto (-60), 3) := by decide +kernel
theorem dX10_common_68 : decode cX10_common 68 = .ok (.iload_n 3, 1) := by decide +kernel
theorem dX10_common_69 : decode cX10_common 69 = .ok (.ireturn, 1) := by decide +kernel
set_option maxHeartbeats 2000000 in
set_option maxRecDepth 20000 in
theorem m_common (l : Launch) (D : va_G) (aT : Nat → ClassId) (ad : Nat → Nat) (S : MSt) (n : Nat) (idn : Nat → Nat) (pr : Nat → Option Nat) (tn : Nat → Nat) (hF : FoR (S 0) n idn pr tn) (a b : Nat) (ha : a < n) (hb2 : b < n) : MdG l yX10_common cX10_common 5 .int 4 88 D aT ad [.ref (ad 0), .int (nI a), .int (nI b)] S (fun r => r = oi (cmF pr a b n)) := by
  refine MdI.of (by decide +kernel) rfl (Nat.le_of_ble_eq_true rfl) ?_
  intro p e s m below meth c A ls C hml hl hA hr hlocks hW
  have hl : lv_has ls 5 [(0, .ref (ad 0)), (1, .int (nI a)), (2, .int (nI b))] := hl
  have hx := C.1
  have hb := C.2.1
  refine lv_iconst (v := (-1)) hx hb dX10_common_0 (by decide) ?_
  refine lv_istore_n (lv' := [(3, .int (-1)), (0, .ref (ad 0)), (1, .int (nI a)), (2, .int (nI b))]) hx hb dX10_common_1 rfl hl (by decide) rfl (fun ls hl => ?_)
  refine lv_iconst (v := nI 0) hx hb dX10_common_2 (by decide) ?_
  refine lv_istore (lv' := [(4, .int (nI 0)), (3, .int (-1)), (0, .ref (ad 0)), (1, .int (nI a)), (2, .int (nI b))]) hx hb dX10_common_3 hl (by decide) rfl (fun ls hl => ?_)
  refine W_loopH (σ := Option Nat × Nat) (fun z_ => n - z_.2) (fun z_ H locs g => ∃ ls, g = F0 m 5 ls [] ∧ lv_has ls 5 [(0, .ref (ad 0)), (1, .int (nI a)), (2, .int (nI b)), (3, .int (oi z_.1)), (4, .int (nI z_.2))] ∧ MdB D aT ad S A s.heap H locs ∧ (z_.1 = cmF pr a b z_.2 ∧ (∀ j, z_.1 = some j → j < z_.2) ∧ z_.2 ≤ n)) ?_ (none, 0) _ ⟨_, rfl, lv_sub hl [2, 3, 4, 1, 0] rfl, hW, ⟨rfl, (fun j hj => by cases hj), Nat.zero_le _⟩⟩
  clear hW hl
  rintro ⟨f, k⟩ H locs g ⟨ls, rfl, hl, hW, hi, hlim, hkn⟩ ih_5
  dsimp only at hl hW hi hlim hkn ⊢
  have h12 := hF.2.1
  refine lv_iload hx hb dX10_common_5 (lv_at hl 4 rfl) ?_
  refine lv_aload_n hx hb dX10_common_7 rfl (lv_at hl 0 rfl) ?_
  refine md_geta_m C hW dX10_common_8 ?_
  refine lv_iconst (v := nI 2) hx hb dX10_common_11 (by decide) ?_
  refine md_ald_m C hW (i := 2) (by omega) dX10_common_12 ?_
  refine r_eq (y := (nI n)) (hF.1) ?_
  refine r_geN hx hb (a := k) (b := n) (by omega) (by omega) (tgt := 68) dX10_common_13 (by decide) (fun c_13 => ?_) (fun c_13 => ?_)
  · refine lv_iload_n hx hb dX10_common_68 rfl (lv_at hl 3 rfl) ?_
    exact md_iret C hr hlocks rfl hW (⟨by rw [hi, show k = n by omega], rfl⟩) dX10_common_69
  · refine lv_aload_n hx hb dX10_common_16 rfl (lv_at hl 0 rfl) ?_
    refine lv_iload_n hx hb dX10_common_17 rfl (lv_at hl 1 rfl) ?_
    refine lv_iload hx hb dX10_common_18 (lv_at hl 4 rfl) ?_
    refine md_callg C hml hl.1 (As := [.int (nI a), .int (nI k)]) (rest := []) (m_isIn l D aT ad S n idn pr tn hF a k (ha) (by omega)) gT_isIn hd_isIn rfl ⟨Nat.le_of_ble_eq_true rfl, Nat.le_of_ble_eq_true rfl⟩ ⟨Nat.le_refl _, Nat.le_refl _⟩ hW hA rfl (Nat.le_of_ble_eq_true rfl) dX10_common_20 (fun r_20 H locs hq hW => ?_)
    subst hq
    refine r_bI_eq hx hb (b := (anc pr k a)) (tgt := 60) dX10_common_23 (by decide) (fun c_23 => ?_) (fun c_23 => ?_)
    · refine lv_iload_n hx hb dX10_common_60 rfl (lv_at hl 3 rfl) ?_
      refine lv_istore_n (lv' := [(3, .int (oi f)), (0, .ref (ad 0)), (1, .int (nI a)), (2, .int (nI b)), (4, .int (nI k))]) hx hb dX10_common_61 rfl hl (by decide) rfl (fun ls hl => ?_)
      refine lv_iinc (v := (nI (k + 1))) (lv' := [(4, .int (nI (k + 1))), (3, .int (oi f)), (0, .ref (ad 0)), (1, .int (nI a)), (2, .int (nI b))]) hx hb dX10_common_62 hl (k := 4) rfl (nI_1 _) (by decide) rfl (fun ls hl => ?_)
      refine lv_goto (tgt := 5) hx hb dX10_common_65 (by decide) ?_
      exact ih_5 (f, (k + 1)) _ _ _ (by dsimp only; omega) ⟨_, rfl, lv_sub hl [2, 3, 4, 1, 0] rfl, hW, ⟨by rw [cmF_no1 c_23]; exact hi, by intro j hj; first | (have := hlim j hj; dsimp only; omega) | (cases hj; dsimp only; omega) | (have := hlim _ rfl; cases hj; dsimp only; omega), by (try dsimp only); omega⟩⟩
    · refine lv_aload_n hx hb dX10_common_26 rfl (lv_at hl 0 rfl) ?_
      refine lv_iload_n hx hb dX10_common_27 rfl (lv_at hl 2 rfl) ?_
      refine lv_iload hx hb dX10_common_28 (lv_at hl 4 rfl) ?_
      refine md_callg C hml hl.1 (As := [.int (nI b), .int (nI k)]) (rest := []) (m_isIn l D aT ad S n idn pr tn hF b k (hb2) (by omega)) gT_isIn hd_isIn rfl ⟨Nat.le_of_ble_eq_true rfl, Nat.le_of_ble_eq_true rfl⟩ ⟨Nat.le_refl _, Nat.le_refl _⟩ hW hA rfl (Nat.le_of_ble_eq_true rfl) dX10_common_30 (fun r_30 H locs hq hW => ?_)
      subst hq
      refine r_bI_eq hx hb (b := (anc pr k b)) (tgt := 60) dX10_common_33 (by decide) (fun c_33 => ?_) (fun c_33 => ?_)
      · refine lv_iload_n hx hb dX10_common_60 rfl (lv_at hl 3 rfl) ?_
        refine lv_istore_n (lv' := [(3, .int (oi f)), (0, .ref (ad 0)), (1, .int (nI a)), (2, .int (nI b)), (4, .int (nI k))]) hx hb dX10_common_61 rfl hl (by decide) rfl (fun ls hl => ?_)
        refine lv_iinc (v := (nI (k + 1))) (lv' := [(4, .int (nI (k + 1))), (3, .int (oi f)), (0, .ref (ad 0)), (1, .int (nI a)), (2, .int (nI b))]) hx hb dX10_common_62 hl (k := 4) rfl (nI_1 _) (by decide) rfl (fun ls hl => ?_)
        refine lv_goto (tgt := 5) hx hb dX10_common_65 (by decide) ?_
        exact ih_5 (f, (k + 1)) _ _ _ (by dsimp only; omega) ⟨_, rfl, lv_sub hl [2, 3, 4, 1, 0] rfl, hW, ⟨by rw [cmF_no2 c_33]; exact hi, by intro j hj; first | (have := hlim j hj; dsimp only; omega) | (cases hj; dsimp only; omega) | (have := hlim _ rfl; cases hj; dsimp only; omega), by (try dsimp only); omega⟩⟩
      · refine lv_iload_n hx hb dX10_common_36 rfl (lv_at hl 3 rfl) ?_
        refine lv_iconst (v := (-1)) hx hb dX10_common_37 (by decide) ?_
        refine r_oi_eq hx hb (o := f) (fun j hj => by have := hlim j hj; omega) (tgt := 55) dX10_common_38 (by decide) (fun c_38 => ?_) (fun j_38 c_38 => ?_)
        · subst c_38
          have hl : lv_has ls 5 [(0, .ref (ad 0)), (1, .int (nI a)), (2, .int (nI b)), (3, .int (-1)), (4, .int (nI k))] := hl
          refine lv_iload hx hb dX10_common_55 (lv_at hl 4 rfl) ?_
          refine lv_goto (tgt := 61) hx hb dX10_common_57 (by decide) ?_
          refine lv_istore_n (lv' := [(3, .int (nI k)), (0, .ref (ad 0)), (1, .int (nI a)), (2, .int (nI b)), (4, .int (nI k))]) hx hb dX10_common_61 rfl hl (by decide) rfl (fun ls hl => ?_)
          refine lv_iinc (v := (nI (k + 1))) (lv' := [(4, .int (nI (k + 1))), (3, .int (nI k)), (0, .ref (ad 0)), (1, .int (nI a)), (2, .int (nI b))]) hx hb dX10_common_62 hl (k := 4) rfl (nI_1 _) (by decide) rfl (fun ls hl => ?_)
          refine lv_goto (tgt := 5) hx hb dX10_common_65 (by decide) ?_
          exact ih_5 ((some k), (k + 1)) _ _ _ (by dsimp only; omega) ⟨_, rfl, lv_sub hl [2, 3, 4, 1, 0] rfl, hW, ⟨by rw [cmF_y0 c_23 c_33 hi.symm], by intro j hj; first | (have := hlim j hj; dsimp only; omega) | (cases hj; dsimp only; omega) | (have := hlim _ rfl; cases hj; dsimp only; omega), by (try dsimp only); omega⟩⟩
        · subst c_38
          have hl : lv_has ls 5 [(0, .ref (ad 0)), (1, .int (nI a)), (2, .int (nI b)), (3, .int (nI j_38)), (4, .int (nI k))] := hl
          refine lv_aload_n hx hb dX10_common_41 rfl (lv_at hl 0 rfl) ?_
          refine lv_iload hx hb dX10_common_42 (lv_at hl 4 rfl) ?_
          refine md_callg C hml hl.1 (As := [.int (nI k)]) (rest := []) (m_deep l D aT ad S n idn pr tn hF k (by omega)) gT_deep hd_deep rfl ⟨Nat.le_of_ble_eq_true rfl, Nat.le_of_ble_eq_true rfl⟩ ⟨Nat.le_refl _, Nat.le_refl _⟩ hW hA rfl (Nat.le_of_ble_eq_true rfl) dX10_common_44 (fun r_44 H locs hq hW => ?_)
          subst hq
          refine lv_aload_n hx hb dX10_common_47 rfl (lv_at hl 0 rfl) ?_
          refine lv_iload_n hx hb dX10_common_48 rfl (lv_at hl 3 rfl) ?_
          refine md_callg C hml hl.1 (As := [.int (nI j_38)]) (rest := [.int (nI (dep pr k))]) (m_deep l D aT ad S n idn pr tn hF j_38 (by have := hlim _ rfl; omega)) gT_deep hd_deep rfl ⟨Nat.le_of_ble_eq_true rfl, Nat.le_of_ble_eq_true rfl⟩ ⟨Nat.le_refl _, Nat.le_refl _⟩ hW hA rfl (Nat.le_of_ble_eq_true rfl) dX10_common_49 (fun r_49 H locs hq hW => ?_)
          subst hq
          refine r_leN hx hb (a := (dep pr k)) (b := (dep pr j_38)) (by first | exact Nat.lt_of_le_of_lt (dep_le hF.ok k (by omega)) (by omega) | exact Nat.lt_of_le_of_lt (dep_le hF.ok j_38 (by have := hlim _ rfl; omega)) (by have := hlim _ rfl; omega)) (by first | exact Nat.lt_of_le_of_lt (dep_le hF.ok k (by omega)) (by omega) | exact Nat.lt_of_le_of_lt (dep_le hF.ok j_38 (by have := hlim _ rfl; omega)) (by have := hlim _ rfl; omega)) (tgt := 60) dX10_common_52 (by decide) (fun c_52 => ?_) (fun c_52 => ?_)
          · refine lv_iload_n hx hb dX10_common_60 rfl (lv_at hl 3 rfl) ?_
            refine lv_istore_n (lv' := [(3, .int (nI j_38)), (0, .ref (ad 0)), (1, .int (nI a)), (2, .int (nI b)), (4, .int (nI k))]) hx hb dX10_common_61 rfl hl (by decide) rfl (fun ls hl => ?_)
            refine lv_iinc (v := (nI (k + 1))) (lv' := [(4, .int (nI (k + 1))), (3, .int (nI j_38)), (0, .ref (ad 0)), (1, .int (nI a)), (2, .int (nI b))]) hx hb dX10_common_62 hl (k := 4) rfl (nI_1 _) (by decide) rfl (fun ls hl => ?_)
            refine lv_goto (tgt := 5) hx hb dX10_common_65 (by decide) ?_
            exact ih_5 ((some j_38), (k + 1)) _ _ _ (by dsimp only; omega) ⟨_, rfl, lv_sub hl [2, 3, 4, 1, 0] rfl, hW, ⟨by rw [cmF_no3 hi.symm c_52]; exact hi, by intro j hj; first | (have := hlim j hj; dsimp only; omega) | (cases hj; dsimp only; omega) | (have := hlim _ rfl; cases hj; dsimp only; omega), by (try dsimp only); omega⟩⟩
          · refine lv_iload hx hb dX10_common_55 (lv_at hl 4 rfl) ?_
            refine lv_goto (tgt := 61) hx hb dX10_common_57 (by decide) ?_
            refine lv_istore_n (lv' := [(3, .int (nI k)), (0, .ref (ad 0)), (1, .int (nI a)), (2, .int (nI b)), (4, .int (nI k))]) hx hb dX10_common_61 rfl hl (by decide) rfl (fun ls hl => ?_)
            refine lv_iinc (v := (nI (k + 1))) (lv' := [(4, .int (nI (k + 1))), (3, .int (nI k)), (0, .ref (ad 0)), (1, .int (nI a)), (2, .int (nI b))]) hx hb dX10_common_62 hl (k := 4) rfl (nI_1 _) (by decide) rfl (fun ls hl => ?_)
            refine lv_goto (tgt := 5) hx hb dX10_common_65 (by decide) ?_
            exact ih_5 ((some k), (k + 1)) _ _ _ (by dsimp only; omega) ⟨_, rfl, lv_sub hl [2, 3, 4, 1, 0] rfl, hW, ⟨by rw [cmF_y1 c_23 c_33 hi.symm c_52], by intro j hj; first | (have := hlim j hj; dsimp only; omega) | (cases hj; dsimp only; omega) | (have := hlim _ rfl; cases hj; dsimp only; omega), by (try dsimp only); omega⟩⟩
theorem gT_commonMotion : GoodIn gw (wsV RX10 181 RX10 yX10_commonMotion (Cond.code yX10_commonMotion cX10_commonMotion 6 (some .int) :: gw)) := gdV gw_1936 gw_1925 gw_1926 gw_81 gw_1927
theorem hd_commonMotion : yX10_commonMotion.cls = RX10 ∧ yX10_commonMotion.cls ≠ "java/lang/invoke/MethodHandle" ∧ yX10_commonMotion.cls ≠ "java/lang/invoke/VarHandle" ∧ (parseMethodDescriptor yX10_commonMotion.desc).map (fun d => d.parameters.length) = some 2 := ⟨rfl, by decide +kernel, by decide +kernel, by decide +kernel⟩
theorem dX10_commonMotion_0 : decode cX10_commonMotion 0 = .ok (.aload_n 0, 1) := by decide +kernel
theorem dX10_commonMotion_1 : decode cX10_commonMotion 1 = .ok (.iconst 0, 1) := by decide +kernel
theorem dX10_commonMotion_2 : decode cX10_commonMotion 2 = .ok (.putfield 57, 3) := by decide +kernel
theorem dX10_commonMotion_5 : decode cX10_commonMotion 5 = .ok (.aload_n 0, 1) := by decide +kernel
theorem dX10_commonMotion_6 : decode cX10_commonMotion 6 = .ok (.iload_n 1, 1) := by decide +kernel
theorem dX10_commonMotion_7 : decode cX10_commonMotion 7 = .ok (.invokevirtual 71, 3) := by decide +kernel
theorem dX10_commonMotion_10 : decode cX10_commonMotion 10 = .ok (.istore_n 3, 1) := by decide +kernel
theorem dX10_commonMotion_11 : decode cX10_commonMotion 11 = .ok (.aload_n 0, 1) := by decide +kernel
theorem dX10_commonMotion_12 : decode cX10_commonMotion 12 = .ok (.iload_n 2, 1) := by decide +kernel
theorem dX10_commonMotion_13 : decode cX10_commonMotion 13 = .ok (.invokevirtual 71, 3) := by decide +kernel
theorem dX10_commonMotion_16 : decode cX10_commonMotion 16 = .ok (.istore 4, 2) := by decide +kernel
theorem dX10_commonMotion_18 : decode cX10_commonMotion 18 = .ok (.iload_n 3, 1) := by decide +kernel
theorem dX10_commonMotion_19 : decode cX10_commonMotion 19 = .ok (.iconst (-1), 1) := by decide +kernel
theorem dX10_commonMotion_20 : decode cX10_commonMotion 20 = .ok (.if_icmp .eq 9, 3) := by decide +kernel
theorem dX10_commonMotion_23 : decode cX10_commonMotion 23 = .ok (.iload 4, 2) := by decide +kernel
theorem dX10_commonMotion_25 : decode cX10_commonMotion 25 = .ok (.iconst (-1), 1) := by decide +kernel
theorem dX10_commonMotion_26 : decode cX10_commonMotion 26 = .ok (.if_icmp .ne 9, 3) := by decide +kernel
theorem dX10_commonMotion_29 : decode cX10_commonMotion 29 = .ok (.aload_n 0, 1) := by decide +kernel
theorem dX10_commonMotion_30 : decode cX10_commonMotion 30 = .ok (.iconst 1, 1) := by decide +kernel
theorem dX10_commonMotion_31 : decode cX10_commonMotion 31 = .ok (.invokevirtual 101, 3) := by decide +kernel
theorem dX10_commonMotion_34 : decode cX10_commonMotion 34 = .ok (.ireturn, 1) := by decide +kernel
theorem dX10_commonMotion_35 : decode cX10_commonMotion 35 = .ok (.aload_n 0, 1) := by decide +kernel
theorem dX10_commonMotion_36 : decode cX10_commonMotion 36 = .ok (.iload_n 3, 1) := by decide +kernel
theorem dX10_commonMotion_37 : decode cX10_commonMotion 37 = .ok (.iload 4, 2) := by decide +kernel
theorem dX10_commonMotion_39 : decode cX10_commonMotion 39 = .ok (.invokevirtual 178, 3) := by decide +kernel
theorem dX10_commonMotion_42 : decode cX10_commonMotion 42 = .ok (.istore 5, 2) := by decide +kernel
theorem dX10_commonMotion_44 : decode cX10_commonMotion 44 = .ok (.iload 5, 2) := by decide +kernel
theorem dX10_commonMotion_46 : decode cX10_commonMotion 46 = .ok (.iconst (-1), 1) := by decide +kernel
theorem dX10_commonMotion_47 : decode cX10_commonMotion 47 = .ok (.if_icmp .ne 11, 3) := by decide +kernel
theorem dX10_commonMotion_50 : decode cX10_commonMotion 50 = .ok (.aload_n 0, 1) := by decide +kernel
theorem dX10_commonMotion_51 : decode cX10_commonMotion 51 = .ok (.iconst 2, 1) := by decide +kernel
theorem dX10_commonMotion_52 : decode cX10_commonMotion 52 = .ok (.invokevirtual 101, 3) := by decide +kernel
theorem dX10_commonMotion_55 : decode cX10_commonMotion 55 = .ok (.goto 10, 3) := by decide +kernel
theorem dX10_commonMotion_58 : decode cX10_commonMotion 58 = .ok (.aload_n 0, 1) := by decide +kernel
theorem dX10_commonMotion_59 : decode cX10_commonMotion 59 = .ok (.iload 5, 2) := by decide +kernel
theorem dX10_commonMotion_61 : decode cX10_commonMotion 61 = .ok (.iconst 0, 1) := by decide +kernel
theorem dX10_commonMotion_62 : decode cX10_commonMotion 62 = .ok (.invokevirtual 67, 3) := by decide +kernel
theorem dX10_commonMotion_65 : decode cX10_commonMotion 65 = .ok (.ireturn, 1) := by decide +kernel
set_option maxHeartbeats 1000000 in
set_option maxRecDepth 20000 in
theorem m_commonMotion (l : Launch) (D : va_G) (aT : Nat → ClassId) (ad : Nat → Nat) (S : MSt) (x y : Int32) (hF : FoW (S 0)) : MdI l yX10_commonMotion cX10_commonMotion 6 .int 5 112 D aT ad [.ref (ad 0), .int x, .int y] S (fun r S1 => ((fnd (fun k => S 0 (29 + 4 * k)) x (nM (S 0)) = none ∨ fnd (fun k => S 0 (29 + 4 * k)) y (nM (S 0)) = none) ∧ r = -1 ∧ S1 = ss S 8 (nI 1)) ∨ (∃ a b, fnd (fun k => S 0 (29 + 4 * k)) x (nM (S 0)) = some a ∧ fnd (fun k => S 0 (29 + 4 * k)) y (nM (S 0)) = some b ∧ cmF (prM (S 0)) a b (nM (S 0)) = none ∧ r = -1 ∧ S1 = ss S 8 (nI 2)) ∨ (∃ a b k, fnd (fun k => S 0 (29 + 4 * k)) x (nM (S 0)) = some a ∧ fnd (fun k => S 0 (29 + 4 * k)) y (nM (S 0)) = some b ∧ cmF (prM (S 0)) a b (nM (S 0)) = some k ∧ r = S 0 (29 + 4 * k) ∧ S1 = ss S 8 (nI 0))) := by
  refine MdI.of (by decide +kernel) rfl (Nat.le_of_ble_eq_true rfl) ?_
  intro p e s m below meth c A ls C hml hl hA hr hlocks hW
  have hl : lv_has ls 6 [(0, .ref (ad 0)), (1, .int x), (2, .int y)] := hl
  have hx := C.1
  have hb := C.2.1
  refine lv_aload_n hx hb dX10_commonMotion_0 rfl (lv_at hl 0 rfl) ?_
  refine lv_iconst (v := nI 0) hx hb dX10_commonMotion_1 (by decide) ?_
  refine md_put_thrown C hW dX10_commonMotion_2 (fun H locs hW => ?_)
  refine lv_aload_n hx hb dX10_commonMotion_5 rfl (lv_at hl 0 rfl) ?_
  refine lv_iload_n hx hb dX10_commonMotion_6 rfl (lv_at hl 1 rfl) ?_
  refine md_callg C hml hl.1 (As := [.int x]) (rest := []) (m_find l D aT ad (ss S 8 (nI 0)) (x) (nM (S 0)) hF.1 hF.2.1) gT_find hd_find rfl ⟨Nat.le_of_ble_eq_true rfl, Nat.le_of_ble_eq_true rfl⟩ ⟨Nat.le_refl _, Nat.le_refl _⟩ hW hA rfl (Nat.le_of_ble_eq_true rfl) dX10_commonMotion_7 (fun r_7 H locs hq hW => ?_)
  subst hq
  refine lv_istore_n (lv' := [(3, .int (oi (fnd (fun k => (ss S 8 (nI 0)) 0 (29 + 4 * k)) (x) (nM (S 0))))), (0, .ref (ad 0)), (1, .int x), (2, .int y)]) hx hb dX10_commonMotion_10 rfl hl (by decide) rfl (fun ls hl => ?_)
  refine lv_aload_n hx hb dX10_commonMotion_11 rfl (lv_at hl 1 rfl) ?_
  refine lv_iload_n hx hb dX10_commonMotion_12 rfl (lv_at hl 3 rfl) ?_
  refine md_callg C hml hl.1 (As := [.int y]) (rest := []) (m_find l D aT ad (ss S 8 (nI 0)) (y) (nM (S 0)) hF.1 hF.2.1) gT_find hd_find rfl ⟨Nat.le_of_ble_eq_true rfl, Nat.le_of_ble_eq_true rfl⟩ ⟨Nat.le_refl _, Nat.le_refl _⟩ hW hA rfl (Nat.le_of_ble_eq_true rfl) dX10_commonMotion_13 (fun r_13 H locs hq hW => ?_)
  subst hq
  refine lv_istore (lv' := [(4, .int (oi (fnd (fun k => (ss S 8 (nI 0)) 0 (29 + 4 * k)) (y) (nM (S 0))))), (3, .int (oi (fnd (fun k => (ss S 8 (nI 0)) 0 (29 + 4 * k)) (x) (nM (S 0))))), (0, .ref (ad 0)), (1, .int x), (2, .int y)]) hx hb dX10_commonMotion_16 hl (by decide) rfl (fun ls hl => ?_)
  refine lv_iload_n hx hb dX10_commonMotion_18 rfl (lv_at hl 1 rfl) ?_
  refine lv_iconst (v := (-1)) hx hb dX10_commonMotion_19 (by decide) ?_
  refine r_oi_eq hx hb (o := (fnd (fun k => (ss S 8 (nI 0)) 0 (29 + 4 * k)) (x) (nM (S 0)))) (fun j hj => by have := (fnd_some hj).1; have := hF.n12; omega) (tgt := 29) dX10_commonMotion_20 (by decide) (fun c_20 => ?_) (fun j_20 c_20 => ?_)
  · have hl : lv_has ls 6 [(4, .int (oi (fnd (fun k => (ss S 8 (nI 0)) 0 (29 + 4 * k)) (y) (nM (S 0))))), (3, .int (-1)), (0, .ref (ad 0)), (1, .int x), (2, .int y)] := by rw [c_20] at hl; exact hl
    refine lv_aload_n hx hb dX10_commonMotion_29 rfl (lv_at hl 2 rfl) ?_
    refine lv_iconst (v := nI 1) hx hb dX10_commonMotion_30 (by decide) ?_
    refine md_calli C hml hl.1 (As := [.int (nI 1)]) (rest := []) (m_throwing l D aT ad (ss S 8 (nI 0)) 1) gT_throwing hd_throwing rfl ⟨Nat.le_of_ble_eq_true rfl, Nat.le_of_ble_eq_true rfl⟩ ⟨Nat.le_refl _, Nat.le_refl _⟩ hW hA rfl (Nat.le_of_ble_eq_true rfl) dX10_commonMotion_31 (fun r_31 S_31 H locs hq hW => ?_)
    obtain ⟨rfl, rfl⟩ := hq
    exact md_iret C hr hlocks rfl hW (Or.inl ⟨Or.inl c_20, rfl, ss_ss _ _ _ _⟩) dX10_commonMotion_34
  · have hl : lv_has ls 6 [(4, .int (oi (fnd (fun k => (ss S 8 (nI 0)) 0 (29 + 4 * k)) (y) (nM (S 0))))), (3, .int (nI j_20)), (0, .ref (ad 0)), (1, .int x), (2, .int y)] := by rw [c_20] at hl; exact hl
    have hq1 := (fnd_some c_20).1
    have h12 := hF.n12
    refine lv_iload hx hb dX10_commonMotion_23 (lv_at hl 0 rfl) ?_
    refine lv_iconst (v := (-1)) hx hb dX10_commonMotion_25 (by decide) ?_
    refine r_oi_ne hx hb (o := (fnd (fun k => (ss S 8 (nI 0)) 0 (29 + 4 * k)) (y) (nM (S 0)))) (fun j hj => by have := (fnd_some hj).1; have := hF.n12; omega) (tgt := 35) dX10_commonMotion_26 (by decide) (fun j_26 c_26 => ?_) (fun c_26 => ?_)
    · have hl : lv_has ls 6 [(4, .int (nI j_26)), (3, .int (nI j_20)), (0, .ref (ad 0)), (1, .int x), (2, .int y)] := by rw [c_26] at hl; exact hl
      have hq2 := (fnd_some c_26).1
      refine lv_aload_n hx hb dX10_commonMotion_35 rfl (lv_at hl 2 rfl) ?_
      refine lv_iload_n hx hb dX10_commonMotion_36 rfl (lv_at hl 1 rfl) ?_
      refine lv_iload hx hb dX10_commonMotion_37 (lv_at hl 0 rfl) ?_
      refine md_callg C hml hl.1 (As := [.int (nI j_20), .int (nI j_26)]) (rest := []) (m_common l D aT ad (ss S 8 (nI 0)) (nM (S 0)) (idM (S 0)) (prM (S 0)) (tnM (S 0)) hF j_20 j_26 (hq1) (hq2)) gT_common hd_common rfl ⟨Nat.le_of_ble_eq_true rfl, Nat.le_of_ble_eq_true rfl⟩ ⟨Nat.le_refl _, Nat.le_refl _⟩ hW hA rfl (Nat.le_of_ble_eq_true rfl) dX10_commonMotion_39 (fun r_39 H locs hq hW => ?_)
      subst hq
      refine lv_istore (lv' := [(5, .int (oi (cmF (prM (S 0)) j_20 j_26 (nM (S 0))))), (4, .int (nI j_26)), (3, .int (nI j_20)), (0, .ref (ad 0)), (1, .int x), (2, .int y)]) hx hb dX10_commonMotion_42 hl (by decide) rfl (fun ls hl => ?_)
      refine lv_iload hx hb dX10_commonMotion_44 (lv_at hl 0 rfl) ?_
      refine lv_iconst (v := (-1)) hx hb dX10_commonMotion_46 (by decide) ?_
      refine r_oi_ne hx hb (o := (cmF (prM (S 0)) j_20 j_26 (nM (S 0)))) (fun j hj => by have := (cmF_at hj).1; have := hF.n12; omega) (tgt := 58) dX10_commonMotion_47 (by decide) (fun j_47 c_47 => ?_) (fun c_47 => ?_)
      · have hl : lv_has ls 6 [(5, .int (nI j_47)), (4, .int (nI j_26)), (3, .int (nI j_20)), (0, .ref (ad 0)), (1, .int x), (2, .int y)] := by rw [c_47] at hl; exact hl
        have hq3 := (cmF_at c_47).1
        refine lv_aload_n hx hb dX10_commonMotion_58 rfl (lv_at hl 3 rfl) ?_
        refine lv_iload hx hb dX10_commonMotion_59 (lv_at hl 0 rfl) ?_
        refine lv_iconst (v := nI 0) hx hb dX10_commonMotion_61 (by decide) ?_
        refine md_callg C hml hl.1 (As := [.int (nI j_47), .int (nI 0)]) (rest := []) (m_of l D aT ad (ss S 8 (nI 0)) j_47 0 (by omega)) gT_of hd_of rfl ⟨Nat.le_of_ble_eq_true rfl, Nat.le_of_ble_eq_true rfl⟩ ⟨Nat.le_refl _, Nat.le_refl _⟩ hW hA rfl (Nat.le_of_ble_eq_true rfl) dX10_commonMotion_62 (fun r_62 H locs hq hW => ?_)
        subst hq
        refine r_eq (y := (S 0 (29 + 4 * j_47))) (rfl) ?_
        exact md_iret C hr hlocks rfl hW (Or.inr (Or.inr ⟨j_20, j_26, j_47, c_20, c_26, c_47, rfl, rfl⟩)) dX10_commonMotion_65
      · have hl : lv_has ls 6 [(5, .int (-1)), (4, .int (nI j_26)), (3, .int (nI j_20)), (0, .ref (ad 0)), (1, .int x), (2, .int y)] := by rw [c_47] at hl; exact hl
        refine lv_aload_n hx hb dX10_commonMotion_50 rfl (lv_at hl 3 rfl) ?_
        refine lv_iconst (v := nI 2) hx hb dX10_commonMotion_51 (by decide) ?_
        refine md_calli C hml hl.1 (As := [.int (nI 2)]) (rest := []) (m_throwing l D aT ad (ss S 8 (nI 0)) 2) gT_throwing hd_throwing rfl ⟨Nat.le_of_ble_eq_true rfl, Nat.le_of_ble_eq_true rfl⟩ ⟨Nat.le_refl _, Nat.le_refl _⟩ hW hA rfl (Nat.le_of_ble_eq_true rfl) dX10_commonMotion_52 (fun r_52 S_52 H locs hq hW => ?_)
        obtain ⟨rfl, rfl⟩ := hq
        refine lv_goto (tgt := 65) hx hb dX10_commonMotion_55 (by decide) ?_
        exact md_iret C hr hlocks rfl hW (Or.inr (Or.inl ⟨j_20, j_26, c_20, c_26, c_47, rfl, ss_ss _ _ _ _⟩)) dX10_commonMotion_65
    · have hl : lv_has ls 6 [(4, .int (-1)), (3, .int (nI j_20)), (0, .ref (ad 0)), (1, .int x), (2, .int y)] := by rw [c_26] at hl; exact hl
      refine lv_aload_n hx hb dX10_commonMotion_29 rfl (lv_at hl 2 rfl) ?_
      refine lv_iconst (v := nI 1) hx hb dX10_commonMotion_30 (by decide) ?_
      refine md_calli C hml hl.1 (As := [.int (nI 1)]) (rest := []) (m_throwing l D aT ad (ss S 8 (nI 0)) 1) gT_throwing hd_throwing rfl ⟨Nat.le_of_ble_eq_true rfl, Nat.le_of_ble_eq_true rfl⟩ ⟨Nat.le_refl _, Nat.le_refl _⟩ hW hA rfl (Nat.le_of_ble_eq_true rfl) dX10_commonMotion_31 (fun r_31 S_31 H locs hq hW => ?_)
      obtain ⟨rfl, rfl⟩ := hq
      exact md_iret C hr hlocks rfl hW (Or.inl ⟨Or.inr c_26, rfl, ss_ss _ _ _ _⟩) dX10_commonMotion_34
theorem dX10_commonMotionByRows_0 : decode cX10_commonMotionByRows 0 = .ok (.aload_n 0, 1) := by decide +kernel
theorem dX10_commonMotionByRows_1 : decode cX10_commonMotionByRows 1 = .ok (.iload_n 1, 1) := by decide +kernel
theorem dX10_commonMotionByRows_2 : decode cX10_commonMotionByRows 2 = .ok (.iload_n 2, 1) := by decide +kernel
theorem dX10_commonMotionByRows_3 : decode cX10_commonMotionByRows 3 = .ok (.invokevirtual 181, 3) := by decide +kernel
theorem dX10_commonMotionByRows_6 : decode cX10_commonMotionByRows 6 = .ok (.ireturn, 1) := by decide +kernel
set_option maxHeartbeats 1000000 in
set_option maxRecDepth 20000 in
theorem m_commonMotionByRows (l : Launch) (D : va_G) (aT : Nat → ClassId) (ad : Nat → Nat) (S : MSt) (x y : Int32) (hF : FoW (S 0)) : MdI l yX10_commonMotionByRows cX10_commonMotionByRows 3 .int 6 137 D aT ad [.ref (ad 0), .int x, .int y] S (fun r S1 => ((fnd (fun k => S 0 (29 + 4 * k)) x (nM (S 0)) = none ∨ fnd (fun k => S 0 (29 + 4 * k)) y (nM (S 0)) = none) ∧ r = -1 ∧ S1 = ss S 8 (nI 1)) ∨ (∃ a b, fnd (fun k => S 0 (29 + 4 * k)) x (nM (S 0)) = some a ∧ fnd (fun k => S 0 (29 + 4 * k)) y (nM (S 0)) = some b ∧ cmF (prM (S 0)) a b (nM (S 0)) = none ∧ r = -1 ∧ S1 = ss S 8 (nI 2)) ∨ (∃ a b k, fnd (fun k => S 0 (29 + 4 * k)) x (nM (S 0)) = some a ∧ fnd (fun k => S 0 (29 + 4 * k)) y (nM (S 0)) = some b ∧ cmF (prM (S 0)) a b (nM (S 0)) = some k ∧ r = S 0 (29 + 4 * k) ∧ S1 = ss S 8 (nI 0))) := by
  refine MdI.of (by decide +kernel) rfl (Nat.le_of_ble_eq_true rfl) ?_
  intro p e s m below meth c A ls C hml hl hA hr hlocks hW
  have hl : lv_has ls 3 [(0, .ref (ad 0)), (1, .int x), (2, .int y)] := hl
  have hx := C.1
  have hb := C.2.1
  refine lv_aload_n hx hb dX10_commonMotionByRows_0 rfl (lv_at hl 0 rfl) ?_
  refine lv_iload_n hx hb dX10_commonMotionByRows_1 rfl (lv_at hl 1 rfl) ?_
  refine lv_iload_n hx hb dX10_commonMotionByRows_2 rfl (lv_at hl 2 rfl) ?_
  refine md_calli C hml hl.1 (As := [.int x, .int y]) (rest := []) (m_commonMotion l D aT ad S (x) (y) hF) gT_commonMotion hd_commonMotion rfl ⟨Nat.le_of_ble_eq_true rfl, Nat.le_of_ble_eq_true rfl⟩ ⟨Nat.le_refl _, Nat.le_refl _⟩ hW hA rfl (Nat.le_of_ble_eq_true rfl) dX10_commonMotionByRows_3 (fun r_3 S_3 H locs hq hW => ?_)
  rcases hq with ⟨h1, rfl, rfl⟩ | ⟨a, b, h1, h2, h3, rfl, rfl⟩ | ⟨a, b, k, h1, h2, h3, rfl, rfl⟩
  · exact md_iret C hr hlocks rfl hW (Or.inl ⟨h1, rfl, rfl⟩) dX10_commonMotionByRows_6
  · exact md_iret C hr hlocks rfl hW (Or.inr (Or.inl ⟨a, b, h1, h2, h3, rfl, rfl⟩)) dX10_commonMotionByRows_6
  · exact md_iret C hr hlocks rfl hW (Or.inr (Or.inr ⟨a, b, k, h1, h2, h3, rfl, rfl⟩)) dX10_commonMotionByRows_6
theorem gT_steps : GoodIn gw (wsV RX10 184 RX10 yX10_steps (Cond.code yX10_steps cX10_steps 3 (some .int) :: gw)) := gdV gw_1941 gw_1943 gw_50 gw_81 gw_1944
theorem hd_steps : yX10_steps.cls = RX10 ∧ yX10_steps.cls ≠ "java/lang/invoke/MethodHandle" ∧ yX10_steps.cls ≠ "java/lang/invoke/VarHandle" ∧ (parseMethodDescriptor yX10_steps.desc).map (fun d => d.parameters.length) = some 2 := ⟨rfl, by decide +kernel, by decide +kernel, by decide +kernel⟩
theorem dX10_steps_0 : decode cX10_steps 0 = .ok (.aload_n 0, 1) := by decide +kernel
theorem dX10_steps_1 : decode cX10_steps 1 = .ok (.iload_n 1, 1) := by decide +kernel
theorem dX10_steps_2 : decode cX10_steps 2 = .ok (.invokevirtual 125, 3) := by decide +kernel
theorem dX10_steps_5 : decode cX10_steps 5 = .ok (.aload_n 0, 1) := by decide +kernel
theorem dX10_steps_6 : decode cX10_steps 6 = .ok (.iload_n 2, 1) := by decide +kernel
theorem dX10_steps_7 : decode cX10_steps 7 = .ok (.invokevirtual 125, 3) := by decide +kernel
theorem dX10_steps_10 : decode cX10_steps 10 = .ok (.iadd, 1) := by decide +kernel
theorem dX10_steps_11 : decode cX10_steps 11 = .ok (.iconst 2, 1) := by decide +kernel
theorem dX10_steps_12 : decode cX10_steps 12 = .ok (.aload_n 0, 1) := by decide +kernel
theorem dX10_steps_13 : decode cX10_steps 13 = .ok (.aload_n 0, 1) := by decide +kernel
theorem dX10_steps_14 : decode cX10_steps 14 = .ok (.iload_n 1, 1) := by decide +kernel
theorem dX10_steps_15 : decode cX10_steps 15 = .ok (.iload_n 2, 1) := by decide +kernel
theorem dX10_steps_16 : decode cX10_steps 16 = .ok (.invokevirtual 178, 3) := by decide +kernel
theorem dX10_steps_19 : decode cX10_steps 19 = .ok (.invokevirtual 125, 3) := by decide +kernel
theorem dX10_steps_22 : decode cX10_steps 22 = .ok (.imul, 1) := by decide +kernel
theorem dX10_steps_23 : decode cX10_steps 23 = .ok (.isub, 1) := by decide +kernel
theorem dX10_steps_24 : decode cX10_steps 24 = .ok (.ireturn, 1) := by decide +kernel
set_option maxHeartbeats 1000000 in
set_option maxRecDepth 20000 in
theorem m_steps (l : Launch) (D : va_G) (aT : Nat → ClassId) (ad : Nat → Nat) (S : MSt) (n : Nat) (idn : Nat → Nat) (pr : Nat → Option Nat) (tn : Nat → Nat) (hF : FoR (S 0) n idn pr tn) (a b k : Nat) (ha : a < n) (hb2 : b < n) (hk : cmF pr a b n = some k) : MdG l yX10_steps cX10_steps 3 .int 5 112 D aT ad [.ref (ad 0), .int (nI a), .int (nI b)] S (fun r => r = nI (stN pr n a b)) := by
  refine MdI.of (by decide +kernel) rfl (Nat.le_of_ble_eq_true rfl) ?_
  intro p e s m below meth c A ls C hml hl hA hr hlocks hW
  have hl : lv_has ls 3 [(0, .ref (ad 0)), (1, .int (nI a)), (2, .int (nI b))] := hl
  have hx := C.1
  have hb := C.2.1
  refine lv_aload_n hx hb dX10_steps_0 rfl (lv_at hl 0 rfl) ?_
  refine lv_iload_n hx hb dX10_steps_1 rfl (lv_at hl 1 rfl) ?_
  refine md_callg C hml hl.1 (As := [.int (nI a)]) (rest := []) (m_deep l D aT ad S n idn pr tn hF a (ha)) gT_deep hd_deep rfl ⟨Nat.le_of_ble_eq_true rfl, Nat.le_of_ble_eq_true rfl⟩ ⟨Nat.le_refl _, Nat.le_refl _⟩ hW hA rfl (Nat.le_of_ble_eq_true rfl) dX10_steps_2 (fun r_2 H locs hq hW => ?_)
  subst hq
  refine lv_aload_n hx hb dX10_steps_5 rfl (lv_at hl 0 rfl) ?_
  refine lv_iload_n hx hb dX10_steps_6 rfl (lv_at hl 2 rfl) ?_
  refine md_callg C hml hl.1 (As := [.int (nI b)]) (rest := [.int (nI (dep pr a))]) (m_deep l D aT ad S n idn pr tn hF b (hb2)) gT_deep hd_deep rfl ⟨Nat.le_of_ble_eq_true rfl, Nat.le_of_ble_eq_true rfl⟩ ⟨Nat.le_refl _, Nat.le_refl _⟩ hW hA rfl (Nat.le_of_ble_eq_true rfl) dX10_steps_7 (fun r_7 H locs hq hW => ?_)
  subst hq
  refine r_iaddN hx hb (a := (dep pr a)) (b := (dep pr b)) dX10_steps_10 ?_
  refine lv_iconst (v := nI 2) hx hb dX10_steps_11 (by decide) ?_
  refine lv_aload_n hx hb dX10_steps_12 rfl (lv_at hl 0 rfl) ?_
  refine lv_aload_n hx hb dX10_steps_13 rfl (lv_at hl 0 rfl) ?_
  refine lv_iload_n hx hb dX10_steps_14 rfl (lv_at hl 1 rfl) ?_
  refine lv_iload_n hx hb dX10_steps_15 rfl (lv_at hl 2 rfl) ?_
  refine md_callg C hml hl.1 (As := [.int (nI a), .int (nI b)]) (rest := [.ref (ad 0), .int (nI 2), .int (nI (dep pr a + (dep pr b)))]) (m_common l D aT ad S n idn pr tn hF a b (ha) (hb2)) gT_common hd_common rfl ⟨Nat.le_of_ble_eq_true rfl, Nat.le_of_ble_eq_true rfl⟩ ⟨Nat.le_refl _, Nat.le_refl _⟩ hW hA rfl (Nat.le_of_ble_eq_true rfl) dX10_steps_16 (fun r_16 H locs hq hW => ?_)
  subst hq
  refine r_eq (y := (nI k)) (by rw [hk]; rfl) ?_
  refine md_callg C hml hl.1 (As := [.int (nI k)]) (rest := [.int (nI 2), .int (nI (dep pr a + (dep pr b)))]) (m_deep l D aT ad S n idn pr tn hF k ((cmF_at hk).1)) gT_deep hd_deep rfl ⟨Nat.le_of_ble_eq_true rfl, Nat.le_of_ble_eq_true rfl⟩ ⟨Nat.le_refl _, Nat.le_refl _⟩ hW hA rfl (Nat.le_of_ble_eq_true rfl) dX10_steps_19 (fun r_19 H locs hq hW => ?_)
  subst hq
  refine r_imulN hx hb (a := 2) (b := (dep pr k)) dX10_steps_22 ?_
  refine r_isubN hx hb (a := dep pr a + (dep pr b)) (b := 2 * (dep pr k)) (by have := anc_dep hF.ok a ha (cmF_at hk).2.1; have := anc_dep hF.ok b hb2 (cmF_at hk).2.2; omega) dX10_steps_23 ?_
  exact md_iret C hr hlocks rfl hW (⟨by unfold stN; rw [hk], rfl⟩) dX10_steps_24
theorem dX10_pathSize_0 : decode cX10_pathSize 0 = .ok (.aload_n 0, 1) := by decide +kernel
theorem dX10_pathSize_1 : decode cX10_pathSize 1 = .ok (.iload_n 1, 1) := by decide +kernel
theorem dX10_pathSize_2 : decode cX10_pathSize 2 = .ok (.iload_n 2, 1) := by decide +kernel
theorem dX10_pathSize_3 : decode cX10_pathSize 3 = .ok (.invokevirtual 181, 3) := by decide +kernel
theorem dX10_pathSize_6 : decode cX10_pathSize 6 = .ok (.pop, 1) := by decide +kernel
theorem dX10_pathSize_7 : decode cX10_pathSize 7 = .ok (.aload_n 0, 1) := by decide +kernel
theorem dX10_pathSize_8 : decode cX10_pathSize 8 = .ok (.getfield 57, 3) := by decide +kernel
theorem dX10_pathSize_11 : decode cX10_pathSize 11 = .ok (.ifCond .le 7, 3) := by decide +kernel
theorem dX10_pathSize_14 : decode cX10_pathSize 14 = .ok (.iconst (-1), 1) := by decide +kernel
theorem dX10_pathSize_15 : decode cX10_pathSize 15 = .ok (.goto 19, 3) := by decide +kernel
theorem dX10_pathSize_18 : decode cX10_pathSize 18 = .ok (.aload_n 0, 1) := by decide +kernel
theorem dX10_pathSize_19 : decode cX10_pathSize 19 = .ok (.aload_n 0, 1) := by decide +kernel
theorem dX10_pathSize_20 : decode cX10_pathSize 20 = .ok (.iload_n 1, 1) := by decide +kernel
theorem dX10_pathSize_21 : decode cX10_pathSize 21 = .ok (.invokevirtual 71, 3) := by decide +kernel
theorem dX10_pathSize_24 : decode cX10_pathSize 24 = .ok (.aload_n 0, 1) := by decide +kernel
theorem dX10_pathSize_25 : decode cX10_pathSize 25 = .ok (.iload_n 2, 1) := by decide +kernel
theorem dX10_pathSize_26 : decode cX10_pathSize 26 = .ok (.invokevirtual 71, 3) := by decide +kernel
theorem dX10_pathSize_29 : decode cX10_pathSize 29 = .ok (.invokevirtual 184, 3) := by decide +kernel
theorem dX10_pathSize_32 : decode cX10_pathSize 32 = .ok (.iconst 1, 1) := by decide +kernel
theorem dX10_pathSize_33 : decode cX10_pathSize 33 = .ok (.iadd, 1) := by decide +kernel
theorem dX10_pathSize_34 : decode cX10_pathSize 34 = .ok (.ireturn, 1) := by decide +kernel
set_option maxHeartbeats 1000000 in
set_option maxRecDepth 20000 in
theorem m_pathSize (l : Launch) (D : va_G) (aT : Nat → ClassId) (ad : Nat → Nat) (S : MSt) (x y : Int32) (hF : FoW (S 0)) : MdI l yX10_pathSize cX10_pathSize 3 .int 6 137 D aT ad [.ref (ad 0), .int x, .int y] S (fun r S1 => ((fnd (fun k => S 0 (29 + 4 * k)) x (nM (S 0)) = none ∨ fnd (fun k => S 0 (29 + 4 * k)) y (nM (S 0)) = none) ∧ r = -1 ∧ S1 = ss S 8 (nI 1)) ∨ (∃ a b, fnd (fun k => S 0 (29 + 4 * k)) x (nM (S 0)) = some a ∧ fnd (fun k => S 0 (29 + 4 * k)) y (nM (S 0)) = some b ∧ cmF (prM (S 0)) a b (nM (S 0)) = none ∧ r = -1 ∧ S1 = ss S 8 (nI 2)) ∨ (∃ a b k, fnd (fun k => S 0 (29 + 4 * k)) x (nM (S 0)) = some a ∧ fnd (fun k => S 0 (29 + 4 * k)) y (nM (S 0)) = some b ∧ cmF (prM (S 0)) a b (nM (S 0)) = some k ∧ r = nI (stN (prM (S 0)) (nM (S 0)) a b + 1) ∧ S1 = ss S 8 (nI 0))) := by
  refine MdI.of (by decide +kernel) rfl (Nat.le_of_ble_eq_true rfl) ?_
  intro p e s m below meth c A ls C hml hl hA hr hlocks hW
  have hl : lv_has ls 3 [(0, .ref (ad 0)), (1, .int x), (2, .int y)] := hl
  have hx := C.1
  have hb := C.2.1
  refine lv_aload_n hx hb dX10_pathSize_0 rfl (lv_at hl 0 rfl) ?_
  refine lv_iload_n hx hb dX10_pathSize_1 rfl (lv_at hl 1 rfl) ?_
  refine lv_iload_n hx hb dX10_pathSize_2 rfl (lv_at hl 2 rfl) ?_
  refine md_calli C hml hl.1 (As := [.int x, .int y]) (rest := []) (m_commonMotion l D aT ad S (x) (y) hF) gT_commonMotion hd_commonMotion rfl ⟨Nat.le_of_ble_eq_true rfl, Nat.le_of_ble_eq_true rfl⟩ ⟨Nat.le_refl _, Nat.le_refl _⟩ hW hA rfl (Nat.le_of_ble_eq_true rfl) dX10_pathSize_3 (fun r_3 S_3 H locs hq hW => ?_)
  rcases hq with ⟨h1, rfl, rfl⟩ | ⟨a, b, h1, h2, h3, rfl, rfl⟩ | ⟨a, b, k, h1, h2, h3, rfl, rfl⟩
  · refine lv_pop hx hb dX10_pathSize_6 rfl ?_
    refine lv_aload_n hx hb dX10_pathSize_7 rfl (lv_at hl 0 rfl) ?_
    refine md_get_thrown C hW dX10_pathSize_8 ?_
    refine r_eq (y := (nI 1)) (ss_s _ _ _) ?_
    refine r_ifleN hx hb (a := 1) (by decide) (tgt := 18) dX10_pathSize_11 (by decide) (fun c_11 => ?_) (fun c_11 => ?_)
    · exact absurd c_11 (by decide)
    · refine lv_iconst (v := (-1)) hx hb dX10_pathSize_14 (by decide) ?_
      refine lv_goto (tgt := 34) hx hb dX10_pathSize_15 (by decide) ?_
      exact md_iret C hr hlocks rfl hW (Or.inl ⟨h1, rfl, rfl⟩) dX10_pathSize_34
  · refine lv_pop hx hb dX10_pathSize_6 rfl ?_
    refine lv_aload_n hx hb dX10_pathSize_7 rfl (lv_at hl 0 rfl) ?_
    refine md_get_thrown C hW dX10_pathSize_8 ?_
    refine r_eq (y := (nI 2)) (ss_s _ _ _) ?_
    refine r_ifleN hx hb (a := 2) (by decide) (tgt := 18) dX10_pathSize_11 (by decide) (fun c_11 => ?_) (fun c_11 => ?_)
    · exact absurd c_11 (by decide)
    · refine lv_iconst (v := (-1)) hx hb dX10_pathSize_14 (by decide) ?_
      refine lv_goto (tgt := 34) hx hb dX10_pathSize_15 (by decide) ?_
      exact md_iret C hr hlocks rfl hW (Or.inr (Or.inl ⟨a, b, h1, h2, h3, rfl, rfl⟩)) dX10_pathSize_34
  · refine lv_pop hx hb dX10_pathSize_6 rfl ?_
    refine lv_aload_n hx hb dX10_pathSize_7 rfl (lv_at hl 0 rfl) ?_
    refine md_get_thrown C hW dX10_pathSize_8 ?_
    refine r_eq (y := (nI 0)) (ss_s _ _ _) ?_
    refine r_ifleN hx hb (a := 0) (by decide) (tgt := 18) dX10_pathSize_11 (by decide) (fun c_11 => ?_) (fun c_11 => ?_)
    · refine lv_aload_n hx hb dX10_pathSize_18 rfl (lv_at hl 0 rfl) ?_
      refine lv_aload_n hx hb dX10_pathSize_19 rfl (lv_at hl 0 rfl) ?_
      refine lv_iload_n hx hb dX10_pathSize_20 rfl (lv_at hl 1 rfl) ?_
      refine md_callg C hml hl.1 (As := [.int x]) (rest := [.ref (ad 0)]) (m_find l D aT ad (ss S 8 (nI 0)) (x) (nM (S 0)) hF.1 hF.2.1) gT_find hd_find rfl ⟨Nat.le_of_ble_eq_true rfl, Nat.le_of_ble_eq_true rfl⟩ ⟨Nat.le_refl _, Nat.le_refl _⟩ hW hA rfl (Nat.le_of_ble_eq_true rfl) dX10_pathSize_21 (fun r_21 H locs hq hW => ?_)
      subst hq
      refine r_eq (y := (nI a)) (congrArg oi h1) ?_
      refine lv_aload_n hx hb dX10_pathSize_24 rfl (lv_at hl 0 rfl) ?_
      refine lv_iload_n hx hb dX10_pathSize_25 rfl (lv_at hl 2 rfl) ?_
      refine md_callg C hml hl.1 (As := [.int y]) (rest := [.int (nI a), .ref (ad 0)]) (m_find l D aT ad (ss S 8 (nI 0)) (y) (nM (S 0)) hF.1 hF.2.1) gT_find hd_find rfl ⟨Nat.le_of_ble_eq_true rfl, Nat.le_of_ble_eq_true rfl⟩ ⟨Nat.le_refl _, Nat.le_refl _⟩ hW hA rfl (Nat.le_of_ble_eq_true rfl) dX10_pathSize_26 (fun r_26 H locs hq hW => ?_)
      subst hq
      refine r_eq (y := (nI b)) (congrArg oi h2) ?_
      refine md_callg C hml hl.1 (As := [.int (nI a), .int (nI b)]) (rest := []) (m_steps l D aT ad (ss S 8 (nI 0)) (nM (S 0)) (idM (S 0)) (prM (S 0)) (tnM (S 0)) hF a b k (fnd_some h1).1 (fnd_some h2).1 h3) gT_steps hd_steps rfl ⟨Nat.le_of_ble_eq_true rfl, Nat.le_of_ble_eq_true rfl⟩ ⟨Nat.le_refl _, Nat.le_refl _⟩ hW hA rfl (Nat.le_of_ble_eq_true rfl) dX10_pathSize_29 (fun r_29 H locs hq hW => ?_)
      subst hq
      refine lv_iconst (v := nI 1) hx hb dX10_pathSize_32 (by decide) ?_
      refine r_iaddN hx hb (a := (stN (prM (S 0)) (nM (S 0)) a b)) (b := 1) dX10_pathSize_33 ?_
      exact md_iret C hr hlocks rfl hW (Or.inr (Or.inr ⟨a, b, k, h1, h2, h3, rfl, rfl⟩)) dX10_pathSize_34
    · exact absurd c_11 (by decide)
theorem dX10_append_0 : decode cX10_append 0 = .ok (.aload_n 0, 1) := by decide +kernel
theorem dX10_append_1 : decode cX10_append 1 = .ok (.iconst 0, 1) := by decide +kernel
theorem dX10_append_2 : decode cX10_append 2 = .ok (.putfield 57, 3) := by decide +kernel
theorem dX10_append_5 : decode cX10_append 5 = .ok (.aload_n 0, 1) := by decide +kernel
theorem dX10_append_6 : decode cX10_append 6 = .ok (.getfield 207, 3) := by decide +kernel
theorem dX10_append_9 : decode cX10_append 9 = .ok (.bipush 60, 2) := by decide +kernel
theorem dX10_append_11 : decode cX10_append 11 = .ok (.if_icmp .ne 9, 3) := by decide +kernel
theorem dX10_append_14 : decode cX10_append 14 = .ok (.aload_n 0, 1) := by decide +kernel
theorem dX10_append_15 : decode cX10_append 15 = .ok (.iconst 1, 1) := by decide +kernel
theorem dX10_append_16 : decode cX10_append 16 = .ok (.invokevirtual 101, 3) := by decide +kernel
theorem dX10_append_19 : decode cX10_append 19 = .ok (.ireturn, 1) := by decide +kernel
theorem dX10_append_20 : decode cX10_append 20 = .ok (.aload_n 0, 1) := by decide +kernel
theorem dX10_append_21 : decode cX10_append 21 = .ok (.getfield 29, 3) := by decide +kernel
theorem dX10_append_24 : decode cX10_append 24 = .ok (.aload_n 0, 1) := by decide +kernel
theorem dX10_append_25 : decode cX10_append 25 = .ok (.getfield 207, 3) := by decide +kernel
theorem dX10_append_28 : decode cX10_append 28 = .ok (.iload_n 1, 1) := by decide +kernel
theorem dX10_append_29 : decode cX10_append 29 = .ok (.iastore, 1) := by decide +kernel
theorem dX10_append_30 : decode cX10_append 30 = .ok (.aload_n 0, 1) := by decide +kernel
theorem dX10_append_31 : decode cX10_append 31 = .ok (.dup, 1) := by decide +kernel
theorem dX10_append_32 : decode cX10_append 32 = .ok (.getfield 207, 3) := by decide +kernel
theorem dX10_append_35 : decode cX10_append 35 = .ok (.iconst 1, 1) := by decide +kernel
theorem dX10_append_36 : decode cX10_append 36 = .ok (.iadd, 1) := by decide +kernel
theorem dX10_append_37 : decode cX10_append 37 = .ok (.putfield 207, 3) := by decide +kernel
theorem dX10_append_40 : decode cX10_append 40 = .ok (.aload_n 0, 1) := by decide +kernel
theorem dX10_append_41 : decode cX10_append 41 = .ok (.getfield 207, 3) := by decide +kernel
theorem dX10_append_44 : decode cX10_append 44 = .ok (.ireturn, 1) := by decide +kernel
set_option maxHeartbeats 1000000 in
set_option maxRecDepth 20000 in
theorem m_append (l : Launch) (D : va_G) (aT : Nat → ClassId) (ad : Nat → Nat) (S : MSt) (x : Int32) (im : Nat) (him : S 13 10 = nI im) (h60 : im ≤ 60) : MdI l yX10_append cX10_append 2 .int 1 21 D aT ad [.ref (ad 0), .int x] S (fun r S1 => (im = 60 ∧ r = -1 ∧ S1 = ss S 8 (nI 1)) ∨ (im < 60 ∧ r = nI (im + 1) ∧ S1 = ss (sr (ss S 8 (nI 0)) 4 (upd (S 4) im x)) 10 (nI (im + 1)))) := by
  refine MdI.of (by decide +kernel) rfl (Nat.le_of_ble_eq_true rfl) ?_
  intro p e s m below meth c A ls C hml hl hA hr hlocks hW
  have hl : lv_has ls 2 [(0, .ref (ad 0)), (1, .int x)] := hl
  have hx := C.1
  have hb := C.2.1
  refine lv_aload_n hx hb dX10_append_0 rfl (lv_at hl 0 rfl) ?_
  refine lv_iconst (v := nI 0) hx hb dX10_append_1 (by decide) ?_
  refine md_put_thrown C hW dX10_append_2 (fun H locs hW => ?_)
  refine lv_aload_n hx hb dX10_append_5 rfl (lv_at hl 0 rfl) ?_
  refine md_get_inputMany C hW dX10_append_6 ?_
  refine r_eq (y := (nI im)) (him) ?_
  refine lv_bipush (v := nI 60) hx hb dX10_append_9 (by decide) ?_
  refine r_neN hx hb (a := im) (b := 60) (by omega) (by omega) (tgt := 20) dX10_append_11 (by decide) (fun c_11 => ?_) (fun c_11 => ?_)
  · refine lv_aload_n hx hb dX10_append_20 rfl (lv_at hl 0 rfl) ?_
    refine md_geta_input C hW dX10_append_21 ?_
    refine lv_aload_n hx hb dX10_append_24 rfl (lv_at hl 0 rfl) ?_
    refine md_get_inputMany C hW dX10_append_25 ?_
    refine r_eq (y := (nI im)) (him) ?_
    refine lv_iload_n hx hb dX10_append_28 rfl (lv_at hl 1 rfl) ?_
    refine md_ast_input C hW (i := im) (by omega) dX10_append_29 (fun H locs hW => ?_)
    refine lv_aload_n hx hb dX10_append_30 rfl (lv_at hl 0 rfl) ?_
    refine lv_dup hx hb dX10_append_31 rfl ?_
    refine md_get_inputMany C hW dX10_append_32 ?_
    refine r_eq (y := (nI im)) (him) ?_
    refine lv_iconst (v := nI 1) hx hb dX10_append_35 (by decide) ?_
    refine r_iaddN hx hb (a := im) (b := 1) dX10_append_36 ?_
    refine md_put_inputMany C hW dX10_append_37 (fun H locs hW => ?_)
    refine lv_aload_n hx hb dX10_append_40 rfl (lv_at hl 0 rfl) ?_
    refine md_get_inputMany C hW dX10_append_41 ?_
    refine r_eq (y := (nI (im + 1))) (ss_s _ _ _) ?_
    exact md_iret C hr hlocks rfl hW (Or.inr ⟨by omega, rfl, rfl⟩) dX10_append_44
  · refine lv_aload_n hx hb dX10_append_14 rfl (lv_at hl 0 rfl) ?_
    refine lv_iconst (v := nI 1) hx hb dX10_append_15 (by decide) ?_
    refine md_calli C hml hl.1 (As := [.int (nI 1)]) (rest := []) (m_throwing l D aT ad (ss S 8 (nI 0)) 1) gT_throwing hd_throwing rfl ⟨Nat.le_of_ble_eq_true rfl, Nat.le_of_ble_eq_true rfl⟩ ⟨Nat.le_refl _, Nat.le_refl _⟩ hW hA rfl (Nat.le_of_ble_eq_true rfl) dX10_append_16 (fun r_16 S_16 H locs hq hW => ?_)
    obtain ⟨rfl, rfl⟩ := hq
    exact md_iret C hr hlocks rfl hW (Or.inl ⟨c_11, rfl, ss_ss _ _ _ _⟩) dX10_append_19
theorem dX10_errorPosition_0 : decode cX10_errorPosition 0 = .ok (.aload_n 0, 1) := by decide +kernel
theorem dX10_errorPosition_1 : decode cX10_errorPosition 1 = .ok (.iconst 0, 1) := by decide +kernel
theorem dX10_errorPosition_2 : decode cX10_errorPosition 2 = .ok (.putfield 57, 3) := by decide +kernel
theorem dX10_errorPosition_5 : decode cX10_errorPosition 5 = .ok (.aload_n 0, 1) := by decide +kernel
theorem dX10_errorPosition_6 : decode cX10_errorPosition 6 = .ok (.getfield 22, 3) := by decide +kernel
theorem dX10_errorPosition_9 : decode cX10_errorPosition 9 = .ok (.iconst (-1), 1) := by decide +kernel
theorem dX10_errorPosition_10 : decode cX10_errorPosition 10 = .ok (.if_icmp .ne 11, 3) := by decide +kernel
theorem dX10_errorPosition_13 : decode cX10_errorPosition 13 = .ok (.aload_n 0, 1) := by decide +kernel
theorem dX10_errorPosition_14 : decode cX10_errorPosition 14 = .ok (.iconst 1, 1) := by decide +kernel
theorem dX10_errorPosition_15 : decode cX10_errorPosition 15 = .ok (.invokevirtual 101, 3) := by decide +kernel
theorem dX10_errorPosition_18 : decode cX10_errorPosition 18 = .ok (.goto 7, 3) := by decide +kernel
theorem dX10_errorPosition_21 : decode cX10_errorPosition 21 = .ok (.aload_n 0, 1) := by decide +kernel
theorem dX10_errorPosition_22 : decode cX10_errorPosition 22 = .ok (.getfield 22, 3) := by decide +kernel
theorem dX10_errorPosition_25 : decode cX10_errorPosition 25 = .ok (.ireturn, 1) := by decide +kernel
set_option maxHeartbeats 1000000 in
set_option maxRecDepth 20000 in
theorem m_errorPosition (l : Launch) (D : va_G) (aT : Nat → ClassId) (ad : Nat → Nat) (S : MSt) : MdI l yX10_errorPosition cX10_errorPosition 1 .int 1 21 D aT ad [.ref (ad 0)] S (fun r S1 => (S 13 6 = -1 ∧ r = -1 ∧ S1 = ss S 8 (nI 1)) ∨ (S 13 6 ≠ -1 ∧ r = S 13 6 ∧ S1 = ss S 8 (nI 0))) := by
  refine MdI.of (by decide +kernel) rfl (Nat.le_of_ble_eq_true rfl) ?_
  intro p e s m below meth c A ls C hml hl hA hr hlocks hW
  have hl : lv_has ls 1 [(0, .ref (ad 0))] := hl
  have hx := C.1
  have hb := C.2.1
  refine lv_aload_n hx hb dX10_errorPosition_0 rfl (lv_at hl 0 rfl) ?_
  refine lv_iconst (v := nI 0) hx hb dX10_errorPosition_1 (by decide) ?_
  refine md_put_thrown C hW dX10_errorPosition_2 (fun H locs hW => ?_)
  refine lv_aload_n hx hb dX10_errorPosition_5 rfl (lv_at hl 0 rfl) ?_
  refine md_get_errorAt C hW dX10_errorPosition_6 ?_
  refine r_eq (y := (S 13 6)) (rfl) ?_
  refine lv_iconst (v := (-1)) hx hb dX10_errorPosition_9 (by decide) ?_
  refine lv_icmp_ne hx hb (x := (S 13 6)) (y := (-1)) (tgt := 21) dX10_errorPosition_10 (by decide) (fun c_10 => ?_) (fun c_10 => ?_)
  · refine lv_aload_n hx hb dX10_errorPosition_21 rfl (lv_at hl 0 rfl) ?_
    refine md_get_errorAt C hW dX10_errorPosition_22 ?_
    refine r_eq (y := (S 13 6)) (rfl) ?_
    exact md_iret C hr hlocks rfl hW (Or.inr ⟨c_10, rfl, rfl⟩) dX10_errorPosition_25
  · refine lv_aload_n hx hb dX10_errorPosition_13 rfl (lv_at hl 0 rfl) ?_
    refine lv_iconst (v := nI 1) hx hb dX10_errorPosition_14 (by decide) ?_
    refine md_calli C hml hl.1 (As := [.int (nI 1)]) (rest := []) (m_throwing l D aT ad (ss S 8 (nI 0)) 1) gT_throwing hd_throwing rfl ⟨Nat.le_of_ble_eq_true rfl, Nat.le_of_ble_eq_true rfl⟩ ⟨Nat.le_refl _, Nat.le_refl _⟩ hW hA rfl (Nat.le_of_ble_eq_true rfl) dX10_errorPosition_15 (fun r_15 S_15 H locs hq hW => ?_)
    obtain ⟨rfl, rfl⟩ := hq
    refine lv_goto (tgt := 25) hx hb dX10_errorPosition_18 (by decide) ?_
    exact md_iret C hr hlocks rfl hW (Or.inl ⟨c_10, rfl, ss_ss _ _ _ _⟩) dX10_errorPosition_25
theorem dX10_failedCommand_0 : decode cX10_failedCommand 0 = .ok (.aload_n 0, 1) := by decide +kernel
theorem dX10_failedCommand_1 : decode cX10_failedCommand 1 = .ok (.iconst 0, 1) := by decide +kernel
theorem dX10_failedCommand_2 : decode cX10_failedCommand 2 = .ok (.putfield 57, 3) := by decide +kernel
theorem dX10_failedCommand_5 : decode cX10_failedCommand 5 = .ok (.aload_n 0, 1) := by decide +kernel
theorem dX10_failedCommand_6 : decode cX10_failedCommand 6 = .ok (.getfield 26, 3) := by decide +kernel
theorem dX10_failedCommand_9 : decode cX10_failedCommand 9 = .ok (.iconst (-1), 1) := by decide +kernel
theorem dX10_failedCommand_10 : decode cX10_failedCommand 10 = .ok (.if_icmp .ne 11, 3) := by decide +kernel
theorem dX10_failedCommand_13 : decode cX10_failedCommand 13 = .ok (.aload_n 0, 1) := by decide +kernel
theorem dX10_failedCommand_14 : decode cX10_failedCommand 14 = .ok (.iconst 1, 1) := by decide +kernel
theorem dX10_failedCommand_15 : decode cX10_failedCommand 15 = .ok (.invokevirtual 101, 3) := by decide +kernel
theorem dX10_failedCommand_18 : decode cX10_failedCommand 18 = .ok (.goto 7, 3) := by decide +kernel
theorem dX10_failedCommand_21 : decode cX10_failedCommand 21 = .ok (.aload_n 0, 1) := by decide +kernel
theorem dX10_failedCommand_22 : decode cX10_failedCommand 22 = .ok (.getfield 26, 3) := by decide +kernel
theorem dX10_failedCommand_25 : decode cX10_failedCommand 25 = .ok (.ireturn, 1) := by decide +kernel
set_option maxHeartbeats 1000000 in
set_option maxRecDepth 20000 in
theorem m_failedCommand (l : Launch) (D : va_G) (aT : Nat → ClassId) (ad : Nat → Nat) (S : MSt) : MdI l yX10_failedCommand cX10_failedCommand 1 .int 1 21 D aT ad [.ref (ad 0)] S (fun r S1 => (S 13 7 = -1 ∧ r = -1 ∧ S1 = ss S 8 (nI 1)) ∨ (S 13 7 ≠ -1 ∧ r = S 13 7 ∧ S1 = ss S 8 (nI 0))) := by
  refine MdI.of (by decide +kernel) rfl (Nat.le_of_ble_eq_true rfl) ?_
  intro p e s m below meth c A ls C hml hl hA hr hlocks hW
  have hl : lv_has ls 1 [(0, .ref (ad 0))] := hl
  have hx := C.1
  have hb := C.2.1
  refine lv_aload_n hx hb dX10_failedCommand_0 rfl (lv_at hl 0 rfl) ?_
  refine lv_iconst (v := nI 0) hx hb dX10_failedCommand_1 (by decide) ?_
  refine md_put_thrown C hW dX10_failedCommand_2 (fun H locs hW => ?_)
  refine lv_aload_n hx hb dX10_failedCommand_5 rfl (lv_at hl 0 rfl) ?_
  refine md_get_failed C hW dX10_failedCommand_6 ?_
  refine r_eq (y := (S 13 7)) (rfl) ?_
  refine lv_iconst (v := (-1)) hx hb dX10_failedCommand_9 (by decide) ?_
  refine lv_icmp_ne hx hb (x := (S 13 7)) (y := (-1)) (tgt := 21) dX10_failedCommand_10 (by decide) (fun c_10 => ?_) (fun c_10 => ?_)
  · refine lv_aload_n hx hb dX10_failedCommand_21 rfl (lv_at hl 0 rfl) ?_
    refine md_get_failed C hW dX10_failedCommand_22 ?_
    refine r_eq (y := (S 13 7)) (rfl) ?_
    exact md_iret C hr hlocks rfl hW (Or.inr ⟨c_10, rfl, rfl⟩) dX10_failedCommand_25
  · refine lv_aload_n hx hb dX10_failedCommand_13 rfl (lv_at hl 0 rfl) ?_
    refine lv_iconst (v := nI 1) hx hb dX10_failedCommand_14 (by decide) ?_
    refine md_calli C hml hl.1 (As := [.int (nI 1)]) (rest := []) (m_throwing l D aT ad (ss S 8 (nI 0)) 1) gT_throwing hd_throwing rfl ⟨Nat.le_of_ble_eq_true rfl, Nat.le_of_ble_eq_true rfl⟩ ⟨Nat.le_refl _, Nat.le_refl _⟩ hW hA rfl (Nat.le_of_ble_eq_true rfl) dX10_failedCommand_15 (fun r_15 S_15 H locs hq hW => ?_)
    obtain ⟨rfl, rfl⟩ := hq
    refine lv_goto (tgt := 25) hx hb dX10_failedCommand_18 (by decide) ?_
    exact md_iret C hr hlocks rfl hW (Or.inl ⟨c_10, rfl, ss_ss _ _ _ _⟩) dX10_failedCommand_25
theorem dX10_outputAt_0 : decode cX10_outputAt 0 = .ok (.aload_n 0, 1) := by decide +kernel
theorem dX10_outputAt_1 : decode cX10_outputAt 1 = .ok (.iconst 0, 1) := by decide +kernel
theorem dX10_outputAt_2 : decode cX10_outputAt 2 = .ok (.putfield 57, 3) := by decide +kernel
theorem dX10_outputAt_5 : decode cX10_outputAt 5 = .ok (.iload_n 1, 1) := by decide +kernel
theorem dX10_outputAt_6 : decode cX10_outputAt 6 = .ok (.i2l, 1) := by decide +kernel
theorem dX10_outputAt_7 : decode cX10_outputAt 7 = .ok (.lconst 0, 1) := by decide +kernel
theorem dX10_outputAt_8 : decode cX10_outputAt 8 = .ok (.aload_n 0, 1) := by decide +kernel
theorem dX10_outputAt_9 : decode cX10_outputAt 9 = .ok (.getfield 258, 3) := by decide +kernel
theorem dX10_outputAt_12 : decode cX10_outputAt 12 = .ok (.iconst 1, 1) := by decide +kernel
theorem dX10_outputAt_13 : decode cX10_outputAt 13 = .ok (.isub, 1) := by decide +kernel
theorem dX10_outputAt_14 : decode cX10_outputAt 14 = .ok (.i2l, 1) := by decide +kernel
theorem dX10_outputAt_15 : decode cX10_outputAt 15 = .ok (.invokestatic 63, 3) := by decide +kernel
theorem dX10_outputAt_18 : decode cX10_outputAt 18 = .ok (.ifCond .eq 13, 3) := by decide +kernel
theorem dX10_outputAt_21 : decode cX10_outputAt 21 = .ok (.aload_n 0, 1) := by decide +kernel
theorem dX10_outputAt_22 : decode cX10_outputAt 22 = .ok (.getfield 54, 3) := by decide +kernel
theorem dX10_outputAt_25 : decode cX10_outputAt 25 = .ok (.iload_n 1, 1) := by decide +kernel
theorem dX10_outputAt_26 : decode cX10_outputAt 26 = .ok (.iaload, 1) := by decide +kernel
theorem dX10_outputAt_27 : decode cX10_outputAt 27 = .ok (.i2c, 1) := by decide +kernel
theorem dX10_outputAt_28 : decode cX10_outputAt 28 = .ok (.goto 9, 3) := by decide +kernel
theorem dX10_outputAt_31 : decode cX10_outputAt 31 = .ok (.aload_n 0, 1) := by decide +kernel
theorem dX10_outputAt_32 : decode cX10_outputAt 32 = .ok (.iconst 1, 1) := by decide +kernel
theorem dX10_outputAt_33 : decode cX10_outputAt 33 = .ok (.invokevirtual 101, 3) := by decide +kernel
theorem dX10_outputAt_36 : decode cX10_outputAt 36 = .ok (.i2c, 1) := by decide +kernel
theorem dX10_outputAt_37 : decode cX10_outputAt 37 = .ok (.ireturn, 1) := by decide +kernel
set_option maxHeartbeats 1000000 in
set_option maxRecDepth 20000 in
theorem m_outputAt (l : Launch) (D : va_G) (aT : Nat → ClassId) (ad : Nat → Nat) (S : MSt) (x : Int32) (lm : Nat) (hlm : S 13 25 = nI lm) (h400 : lm ≤ 400) : MdI l yX10_outputAt cX10_outputAt 2 .char 1 25 D aT ad [.ref (ad 0), .int x] S (fun r S1 => (isHB lm x = false ∧ r = c16 (-1) ∧ S1 = ss S 8 (nI 1)) ∨ (∃ i, i < lm ∧ x = nI i ∧ r = c16 (S 12 i) ∧ S1 = ss S 8 (nI 0))) := by
  refine MdI.of (by decide +kernel) rfl (Nat.le_of_ble_eq_true rfl) ?_
  intro p e s m below meth c A ls C hml hl hA hr hlocks hW
  have hl : lv_has ls 2 [(0, .ref (ad 0)), (1, .int x)] := hl
  have hx := C.1
  have hb := C.2.1
  refine lv_aload_n hx hb dX10_outputAt_0 rfl (lv_at hl 0 rfl) ?_
  refine lv_iconst (v := nI 0) hx hb dX10_outputAt_1 (by decide) ?_
  refine md_put_thrown C hW dX10_outputAt_2 (fun H locs hW => ?_)
  refine lv_iload_n hx hb dX10_outputAt_5 rfl (lv_at hl 1 rfl) ?_
  refine lv_i2l (v := (x).toInt64) hx hb dX10_outputAt_6 rfl ?_
  refine lv_lconst (v := 0) hx hb dX10_outputAt_7 (by decide) ?_
  refine lv_aload_n hx hb dX10_outputAt_8 rfl (lv_at hl 0 rfl) ?_
  refine md_get_lineMany C hW dX10_outputAt_9 ?_
  refine r_eq (y := (nI lm)) (hlm) ?_
  refine lv_iconst (v := nI 1) hx hb dX10_outputAt_12 (by decide) ?_
  refine lv_isub hx hb dX10_outputAt_13 ?_
  refine lv_i2l (v := ((nI lm - nI 1)).toInt64) hx hb dX10_outputAt_14 rfl ?_
  refine md_calls C hml hl.1 (As := [.long ((x).toInt64), .long 0, .long (((nI lm - nI 1)).toInt64)]) (rest := []) (m_in l ((x).toInt64) 0 (((nI lm - nI 1)).toInt64)) gT_in hd_in rfl ⟨Nat.le_of_ble_eq_true rfl, Nat.le_of_ble_eq_true rfl⟩ ⟨Nat.le_refl _, Nat.le_refl _⟩ rfl (Nat.le_of_ble_eq_true rfl) dX10_outputAt_15 (fun r_15 hq => ?_)
  subst hq
  refine r_eq (y := (bI (isHB lm x))) (congrArg bI (isH_eq (by omega) x)) ?_
  refine r_bI_eq hx hb (b := (isHB lm x)) (tgt := 31) dX10_outputAt_18 (by decide) (fun c_18 => ?_) (fun c_18 => ?_)
  · refine lv_aload_n hx hb dX10_outputAt_31 rfl (lv_at hl 0 rfl) ?_
    refine lv_iconst (v := nI 1) hx hb dX10_outputAt_32 (by decide) ?_
    refine md_calli C hml hl.1 (As := [.int (nI 1)]) (rest := []) (m_throwing l D aT ad (ss S 8 (nI 0)) 1) gT_throwing hd_throwing rfl ⟨Nat.le_of_ble_eq_true rfl, Nat.le_of_ble_eq_true rfl⟩ ⟨Nat.le_refl _, Nat.le_refl _⟩ hW hA rfl (Nat.le_of_ble_eq_true rfl) dX10_outputAt_33 (fun r_33 S_33 H locs hq hW => ?_)
    obtain ⟨rfl, rfl⟩ := hq
    refine lv_i2c (v := c16 (-1)) hx hb dX10_outputAt_36 (rfl) ?_
    exact md_iret C hr hlocks (pk_nc _) hW (Or.inl ⟨c_18, rfl, ss_ss _ _ _ _⟩) dX10_outputAt_37
  · obtain ⟨i, hi, rfl⟩ := isHB_nat c_18 (by omega)
    refine lv_aload_n hx hb dX10_outputAt_21 rfl (lv_at hl 0 rfl) ?_
    refine md_geta_line C hW dX10_outputAt_22 ?_
    refine lv_iload_n hx hb dX10_outputAt_25 rfl (lv_at hl 1 rfl) ?_
    refine md_ald_line C hW (i := i) (by omega) dX10_outputAt_26 ?_
    refine r_eq (y := (S 12 i)) (rfl) ?_
    refine lv_i2c (v := c16 (S 12 i)) hx hb dX10_outputAt_27 (rfl) ?_
    refine lv_goto (tgt := 37) hx hb dX10_outputAt_28 (by decide) ?_
    exact md_iret C hr hlocks (pk_nc _) hW (Or.inr ⟨i, hi, rfl, rfl, rfl⟩) dX10_outputAt_37
theorem dX10_undo_0 : decode cX10_undo 0 = .ok (.aload_n 0, 1) := by decide +kernel
theorem dX10_undo_1 : decode cX10_undo 1 = .ok (.iconst 0, 1) := by decide +kernel
theorem dX10_undo_2 : decode cX10_undo 2 = .ok (.putfield 57, 3) := by decide +kernel
theorem dX10_undo_5 : decode cX10_undo 5 = .ok (.aload_n 0, 1) := by decide +kernel
theorem dX10_undo_6 : decode cX10_undo 6 = .ok (.getfield 60, 3) := by decide +kernel
theorem dX10_undo_9 : decode cX10_undo 9 = .ok (.ifCond .ne 9, 3) := by decide +kernel
theorem dX10_undo_12 : decode cX10_undo 12 = .ok (.aload_n 0, 1) := by decide +kernel
theorem dX10_undo_13 : decode cX10_undo 13 = .ok (.iconst 1, 1) := by decide +kernel
theorem dX10_undo_14 : decode cX10_undo 14 = .ok (.invokevirtual 101, 3) := by decide +kernel
theorem dX10_undo_17 : decode cX10_undo 17 = .ok (.ireturn, 1) := by decide +kernel
theorem dX10_undo_18 : decode cX10_undo 18 = .ok (.aload_n 0, 1) := by decide +kernel
theorem dX10_undo_19 : decode cX10_undo 19 = .ok (.dup, 1) := by decide +kernel
theorem dX10_undo_20 : decode cX10_undo 20 = .ok (.getfield 60, 3) := by decide +kernel
theorem dX10_undo_23 : decode cX10_undo 23 = .ok (.iconst 1, 1) := by decide +kernel
theorem dX10_undo_24 : decode cX10_undo 24 = .ok (.isub, 1) := by decide +kernel
theorem dX10_undo_25 : decode cX10_undo 25 = .ok (.putfield 60, 3) := by decide +kernel
theorem dX10_undo_28 : decode cX10_undo 28 = .ok (.iconst 0, 1) := by decide +kernel
theorem dX10_undo_29 : decode cX10_undo 29 = .ok (.istore_n 1, 1) := by decide +kernel
theorem dX10_undo_30 : decode cX10_undo 30 = .ok (.iload_n 1, 1) := by decide +kernel
theorem dX10_undo_31 : decode cX10_undo 31 = .ok (.bipush 77, 2) := by decide +kernel
theorem dX10_undo_33 : decode cX10_undo 33 = .ok (.if_icmp .ge 29, 3) := by decide +kernel
theorem dX10_undo_36 : decode cX10_undo 36 = .ok (.aload_n 0, 1) := by decide +kernel
theorem dX10_undo_37 : decode cX10_undo 37 = .ok (.getfield 9, 3) := by decide +kernel
theorem dX10_undo_40 : decode cX10_undo 40 = .ok (.iload_n 1, 1) := by decide +kernel
theorem dX10_undo_41 : decode cX10_undo 41 = .ok (.aload_n 0, 1) := by decide +kernel
theorem dX10_undo_42 : decode cX10_undo 42 = .ok (.getfield 19, 3) := by decide +kernel
theorem dX10_undo_45 : decode cX10_undo 45 = .ok (.bipush 77, 2) := by decide +kernel
theorem dX10_undo_47 : decode cX10_undo 47 = .ok (.aload_n 0, 1) := by decide +kernel
theorem dX10_undo_48 : decode cX10_undo 48 = .ok (.getfield 60, 3) := by decide +kernel
theorem dX10_undo_51 : decode cX10_undo 51 = .ok (.imul, 1) := by decide +kernel
theorem dX10_undo_52 : decode cX10_undo 52 = .ok (.iload_n 1, 1) := by decide +kernel
theorem dX10_undo_53 : decode cX10_undo 53 = .ok (.iadd, 1) := by decide +kernel
theorem dX10_undo_54 : decode cX10_undo 54 = .ok (.iaload, 1) := by decide +kernel
theorem dX10_undo_55 : decode cX10_undo 55 = .ok (.iastore, 1) := by decide +kernel
theorem dX10_undo_56 : decode cX10_undo 56 = .ok (.iinc 1 1, 3) := by decide +kernel
theorem dX10_undo_59 : decode cX10_undo 59 = .ok (.goto (-29), 3) := by decide +kernel
theorem dX10_undo_62 : decode cX10_undo 62 = .ok (.aload_n 0, 1) := by decide +kernel
theorem dX10_undo_63 : decode cX10_undo 63 = .ok (.getfield 60, 3) := by decide +kernel
theorem dX10_undo_66 : decode cX10_undo 66 = .ok (.ireturn, 1) := by decide +kernel
set_option maxHeartbeats 1000000 in
set_option maxRecDepth 20000 in
theorem m_undo (l : Launch) (D : va_G) (aT : Nat → ClassId) (ad : Nat → Nat) (S : MSt) (ch : Nat) (hch : S 13 5 = nI ch) (hc8 : ch ≤ 8) : MdI l yX10_undo cX10_undo 2 .int 1 21 D aT ad [.ref (ad 0)] S (fun r S1 => (ch = 0 ∧ r = -1 ∧ S1 = ss S 8 (nI 1)) ∨ (0 < ch ∧ r = nI (ch - 1) ∧ S1 = sr (ss (ss S 8 (nI 0)) 5 (nI (ch - 1))) 0 (getF (S 0) (S 3) (77 * (ch - 1)) 77))) := by
  refine MdI.of (by decide +kernel) rfl (Nat.le_of_ble_eq_true rfl) ?_
  intro p e s m below meth c A ls C hml hl hA hr hlocks hW
  have hl : lv_has ls 2 [(0, .ref (ad 0))] := hl
  have hx := C.1
  have hb := C.2.1
  refine lv_aload_n hx hb dX10_undo_0 rfl (lv_at hl 0 rfl) ?_
  refine lv_iconst (v := nI 0) hx hb dX10_undo_1 (by decide) ?_
  refine md_put_thrown C hW dX10_undo_2 (fun H locs hW => ?_)
  refine lv_aload_n hx hb dX10_undo_5 rfl (lv_at hl 0 rfl) ?_
  refine md_get_changes C hW dX10_undo_6 ?_
  refine r_eq (y := (nI ch)) (hch) ?_
  refine r_ifneN hx hb (a := ch) (by omega) (tgt := 18) dX10_undo_9 (by decide) (fun c_9 => ?_) (fun c_9 => ?_)
  · refine lv_aload_n hx hb dX10_undo_18 rfl (lv_at hl 0 rfl) ?_
    refine lv_dup hx hb dX10_undo_19 rfl ?_
    refine md_get_changes C hW dX10_undo_20 ?_
    refine r_eq (y := (nI ch)) (hch) ?_
    refine lv_iconst (v := nI 1) hx hb dX10_undo_23 (by decide) ?_
    refine r_isubN hx hb (a := ch) (b := 1) (by omega) dX10_undo_24 ?_
    refine md_put_changes C hW dX10_undo_25 (fun H locs hW => ?_)
    refine lv_iconst (v := nI 0) hx hb dX10_undo_28 (by decide) ?_
    refine lv_istore_n (lv' := [(1, .int (nI 0)), (0, .ref (ad 0))]) hx hb dX10_undo_29 rfl hl (by decide) rfl (fun ls hl => ?_)
    refine W_loopH (σ := Nat) (fun z_ => 77 - z_) (fun z_ H locs g => ∃ ls, g = F0 m 30 ls [] ∧ lv_has ls 2 [(0, .ref (ad 0)), (1, .int (nI z_))] ∧ MdB D aT ad (sr (ss (ss S 8 (nI 0)) 5 (nI (ch - 1))) 0 (getF (S 0) (S 3) (77 * (ch - 1)) z_)) A s.heap H locs ∧ (z_ ≤ 77)) ?_ 0 _ ⟨_, rfl, lv_sub hl [1, 0] rfl, (by rw [getF_0, show S 0 = (ss (ss S 8 (nI 0)) 5 (nI (ch - 1))) 0 from rfl, sr_self]; exact hW), Nat.zero_le _⟩
    clear hW hl
    rintro i H locs g ⟨ls, rfl, hl, hW, hi⟩ ih_30
    refine lv_iload_n hx hb dX10_undo_30 rfl (lv_at hl 1 rfl) ?_
    refine lv_bipush (v := nI 77) hx hb dX10_undo_31 (by decide) ?_
    refine r_geN hx hb (a := i) (b := 77) (by omega) (by omega) (tgt := 62) dX10_undo_33 (by decide) (fun c_33 => ?_) (fun c_33 => ?_)
    · refine lv_aload_n hx hb dX10_undo_62 rfl (lv_at hl 0 rfl) ?_
      refine md_get_changes C hW dX10_undo_63 ?_
      refine r_eq (y := (nI (ch - 1))) (rfl) ?_
      exact md_iret C hr hlocks rfl hW (Or.inr ⟨by omega, rfl, by rw [show i = 77 by omega]⟩) dX10_undo_66
    · refine lv_aload_n hx hb dX10_undo_36 rfl (lv_at hl 0 rfl) ?_
      refine md_geta_m C hW dX10_undo_37 ?_
      refine lv_iload_n hx hb dX10_undo_40 rfl (lv_at hl 1 rfl) ?_
      refine lv_aload_n hx hb dX10_undo_41 rfl (lv_at hl 0 rfl) ?_
      refine md_geta_past C hW dX10_undo_42 ?_
      refine lv_bipush (v := nI 77) hx hb dX10_undo_45 (by decide) ?_
      refine lv_aload_n hx hb dX10_undo_47 rfl (lv_at hl 0 rfl) ?_
      refine md_get_changes C hW dX10_undo_48 ?_
      refine r_eq (y := (nI (ch - 1))) (rfl) ?_
      refine r_imulN hx hb (a := 77) (b := (ch - 1)) dX10_undo_51 ?_
      refine lv_iload_n hx hb dX10_undo_52 rfl (lv_at hl 1 rfl) ?_
      refine r_iaddN hx hb (a := 77 * (ch - 1)) (b := i) dX10_undo_53 ?_
      refine md_ald_past C hW (i := (77 * (ch - 1)) + i) (by omega) dX10_undo_54 ?_
      refine r_eq (y := (S 3 (77 * (ch - 1) + i))) (rfl) ?_
      refine md_ast_m C hW (i := i) (by omega) dX10_undo_55 (fun H locs hW => ?_)
      refine lv_iinc (v := (nI (i + 1))) (lv' := [(1, .int (nI (i + 1))), (0, .ref (ad 0))]) hx hb dX10_undo_56 hl (k := 1) rfl (nI_1 _) (by decide) rfl (fun ls hl => ?_)
      refine lv_goto (tgt := 30) hx hb dX10_undo_59 (by decide) ?_
      exact ih_30 (i + 1) _ _ _ (by omega) ⟨_, rfl, lv_sub hl [1, 0] rfl, (by rw [sr_sr, sr_s, getF_1] at hW; exact hW), (by omega)⟩
  · refine lv_aload_n hx hb dX10_undo_12 rfl (lv_at hl 0 rfl) ?_
    refine lv_iconst (v := nI 1) hx hb dX10_undo_13 (by decide) ?_
    refine md_calli C hml hl.1 (As := [.int (nI 1)]) (rest := []) (m_throwing l D aT ad (ss S 8 (nI 0)) 1) gT_throwing hd_throwing rfl ⟨Nat.le_of_ble_eq_true rfl, Nat.le_of_ble_eq_true rfl⟩ ⟨Nat.le_refl _, Nat.le_refl _⟩ hW hA rfl (Nat.le_of_ble_eq_true rfl) dX10_undo_14 (fun r_14 S_14 H locs hq hW => ?_)
    obtain ⟨rfl, rfl⟩ := hq
    exact md_iret C hr hlocks rfl hW (Or.inl ⟨c_9, rfl, ss_ss _ _ _ _⟩) dX10_undo_17
theorem dX10_save_0 : decode cX10_save 0 = .ok (.aload_n 0, 1) := by decide +kernel
theorem dX10_save_1 : decode cX10_save 1 = .ok (.iconst 0, 1) := by decide +kernel
theorem dX10_save_2 : decode cX10_save 2 = .ok (.putfield 57, 3) := by decide +kernel
theorem dX10_save_5 : decode cX10_save 5 = .ok (.iconst 0, 1) := by decide +kernel
theorem dX10_save_6 : decode cX10_save 6 = .ok (.istore_n 1, 1) := by decide +kernel
theorem dX10_save_7 : decode cX10_save 7 = .ok (.iload_n 1, 1) := by decide +kernel
theorem dX10_save_8 : decode cX10_save 8 = .ok (.bipush 77, 2) := by decide +kernel
theorem dX10_save_10 : decode cX10_save 10 = .ok (.if_icmp .ge 21, 3) := by decide +kernel
theorem dX10_save_13 : decode cX10_save 13 = .ok (.aload_n 0, 1) := by decide +kernel
theorem dX10_save_14 : decode cX10_save 14 = .ok (.getfield 16, 3) := by decide +kernel
theorem dX10_save_17 : decode cX10_save 17 = .ok (.iload_n 1, 1) := by decide +kernel
theorem dX10_save_18 : decode cX10_save 18 = .ok (.aload_n 0, 1) := by decide +kernel
theorem dX10_save_19 : decode cX10_save 19 = .ok (.getfield 9, 3) := by decide +kernel
theorem dX10_save_22 : decode cX10_save 22 = .ok (.iload_n 1, 1) := by decide +kernel
theorem dX10_save_23 : decode cX10_save 23 = .ok (.iaload, 1) := by decide +kernel
theorem dX10_save_24 : decode cX10_save 24 = .ok (.iastore, 1) := by decide +kernel
theorem dX10_save_25 : decode cX10_save 25 = .ok (.iinc 1 1, 3) := by decide +kernel
theorem dX10_save_28 : decode cX10_save 28 = .ok (.goto (-21), 3) := by decide +kernel
theorem dX10_save_31 : decode cX10_save 31 = .ok (.aload_n 0, 1) := by decide +kernel
theorem dX10_save_32 : decode cX10_save 32 = .ok (.iconst 1, 1) := by decide +kernel
theorem dX10_save_33 : decode cX10_save 33 = .ok (.putfield 273, 3) := by decide +kernel
theorem dX10_save_36 : decode cX10_save 36 = .ok (.return_, 1) := by decide +kernel
set_option maxHeartbeats 1000000 in
set_option maxRecDepth 20000 in
theorem m_save (l : Launch) (D : va_G) (aT : Nat → ClassId) (ad : Nat → Nat) (S : MSt) : MdV l yX10_save cX10_save 2 0 0 D aT ad [.ref (ad 0)] S (fun S1 => S1 = ss (sr (ss S 8 (nI 0)) 2 (cpyF (S 2) (S 0) 77)) 3 (nI 1)) := by
  refine MdV.of (by decide +kernel) rfl (Nat.le_of_ble_eq_true rfl) ?_
  intro p e s m below meth c A ls C hml hl hA hr hlocks hW
  have hl : lv_has ls 2 [(0, .ref (ad 0))] := hl
  have hx := C.1
  have hb := C.2.1
  refine lv_aload_n hx hb dX10_save_0 rfl (lv_at hl 0 rfl) ?_
  refine lv_iconst (v := nI 0) hx hb dX10_save_1 (by decide) ?_
  refine md_put_thrown C hW dX10_save_2 (fun H locs hW => ?_)
  refine lv_iconst (v := nI 0) hx hb dX10_save_5 (by decide) ?_
  refine lv_istore_n (lv' := [(1, .int (nI 0)), (0, .ref (ad 0))]) hx hb dX10_save_6 rfl hl (by decide) rfl (fun ls hl => ?_)
  refine W_loopH (σ := Nat) (fun z_ => 77 - z_) (fun z_ H locs g => ∃ ls, g = F0 m 7 ls [] ∧ lv_has ls 2 [(0, .ref (ad 0)), (1, .int (nI z_))] ∧ MdB D aT ad (sr (ss S 8 (nI 0)) 2 (cpyF (S 2) (S 0) z_)) A s.heap H locs ∧ (z_ ≤ 77)) ?_ 0 _ ⟨_, rfl, lv_sub hl [1, 0] rfl, (by rw [cpyF_0, show S 2 = (ss S 8 (nI 0)) 2 from rfl, sr_self]; exact hW), Nat.zero_le _⟩
  clear hW hl
  rintro i H locs g ⟨ls, rfl, hl, hW, hi⟩ ih_7
  refine lv_iload_n hx hb dX10_save_7 rfl (lv_at hl 1 rfl) ?_
  refine lv_bipush (v := nI 77) hx hb dX10_save_8 (by decide) ?_
  refine r_geN hx hb (a := i) (b := 77) (by omega) (by omega) (tgt := 31) dX10_save_10 (by decide) (fun c_10 => ?_) (fun c_10 => ?_)
  · refine lv_aload_n hx hb dX10_save_31 rfl (lv_at hl 0 rfl) ?_
    refine lv_iconst (v := nI 1) hx hb dX10_save_32 (by decide) ?_
    refine md_put_isSaved C hW (by decide) (by decide) dX10_save_33 (fun H locs hW => ?_)
    exact md_vret C hr hlocks hW (by rw [show i = 77 by omega]) dX10_save_36
  · refine lv_aload_n hx hb dX10_save_13 rfl (lv_at hl 0 rfl) ?_
    refine md_geta_saved C hW dX10_save_14 ?_
    refine lv_iload_n hx hb dX10_save_17 rfl (lv_at hl 1 rfl) ?_
    refine lv_aload_n hx hb dX10_save_18 rfl (lv_at hl 0 rfl) ?_
    refine md_geta_m C hW dX10_save_19 ?_
    refine lv_iload_n hx hb dX10_save_22 rfl (lv_at hl 1 rfl) ?_
    refine md_ald_m C hW (i := i) (by omega) dX10_save_23 ?_
    refine r_eq (y := (S 0 i)) (rfl) ?_
    refine md_ast_saved C hW (i := i) (by omega) dX10_save_24 (fun H locs hW => ?_)
    refine lv_iinc (v := (nI (i + 1))) (lv' := [(1, .int (nI (i + 1))), (0, .ref (ad 0))]) hx hb dX10_save_25 hl (k := 1) rfl (nI_1 _) (by decide) rfl (fun ls hl => ?_)
    refine lv_goto (tgt := 7) hx hb dX10_save_28 (by decide) ?_
    exact ih_7 (i + 1) _ _ _ (by omega) ⟨_, rfl, lv_sub hl [1, 0] rfl, (by rw [sr_sr, sr_s, cpyF_1] at hW; exact hW), (by omega)⟩
theorem dX10_restore_0 : decode cX10_restore 0 = .ok (.aload_n 0, 1) := by decide +kernel
theorem dX10_restore_1 : decode cX10_restore 1 = .ok (.iconst 0, 1) := by decide +kernel
theorem dX10_restore_2 : decode cX10_restore 2 = .ok (.putfield 57, 3) := by decide +kernel
theorem dX10_restore_5 : decode cX10_restore 5 = .ok (.aload_n 0, 1) := by decide +kernel
theorem dX10_restore_6 : decode cX10_restore 6 = .ok (.getfield 273, 3) := by decide +kernel
theorem dX10_restore_9 : decode cX10_restore 9 = .ok (.ifCond .ne 10, 3) := by decide +kernel
theorem dX10_restore_12 : decode cX10_restore 12 = .ok (.aload_n 0, 1) := by decide +kernel
theorem dX10_restore_13 : decode cX10_restore 13 = .ok (.iconst 1, 1) := by decide +kernel
theorem dX10_restore_14 : decode cX10_restore 14 = .ok (.invokevirtual 101, 3) := by decide +kernel
theorem dX10_restore_17 : decode cX10_restore 17 = .ok (.pop, 1) := by decide +kernel
theorem dX10_restore_18 : decode cX10_restore 18 = .ok (.return_, 1) := by decide +kernel
theorem dX10_restore_19 : decode cX10_restore 19 = .ok (.iconst 0, 1) := by decide +kernel
theorem dX10_restore_20 : decode cX10_restore 20 = .ok (.istore_n 1, 1) := by decide +kernel
theorem dX10_restore_21 : decode cX10_restore 21 = .ok (.iload_n 1, 1) := by decide +kernel
theorem dX10_restore_22 : decode cX10_restore 22 = .ok (.bipush 77, 2) := by decide +kernel
theorem dX10_restore_24 : decode cX10_restore 24 = .ok (.if_icmp .ge 21, 3) := by decide +kernel
theorem dX10_restore_27 : decode cX10_restore 27 = .ok (.aload_n 0, 1) := by decide +kernel
theorem dX10_restore_28 : decode cX10_restore 28 = .ok (.getfield 9, 3) := by decide +kernel
theorem dX10_restore_31 : decode cX10_restore 31 = .ok (.iload_n 1, 1) := by decide +kernel
theorem dX10_restore_32 : decode cX10_restore 32 = .ok (.aload_n 0, 1) := by decide +kernel
theorem dX10_restore_33 : decode cX10_restore 33 = .ok (.getfield 16, 3) := by decide +kernel
theorem dX10_restore_36 : decode cX10_restore 36 = .ok (.iload_n 1, 1) := by decide +kernel
theorem dX10_restore_37 : decode cX10_restore 37 = .ok (.iaload, 1) := by decide +kernel
theorem dX10_restore_38 : decode cX10_restore 38 = .ok (.iastore, 1) := by decide +kernel
theorem dX10_restore_39 : decode cX10_restore 39 = .ok (.iinc 1 1, 3) := by decide +kernel
theorem dX10_restore_42 : decode cX10_restore 42 = .ok (.goto (-21), 3) := by decide +kernel
theorem dX10_restore_45 : decode cX10_restore 45 = .ok (.aload_n 0, 1) := by decide +kernel
theorem dX10_restore_46 : decode cX10_restore 46 = .ok (.iconst 0, 1) := by decide +kernel
theorem dX10_restore_47 : decode cX10_restore 47 = .ok (.putfield 60, 3) := by decide +kernel
theorem dX10_restore_50 : decode cX10_restore 50 = .ok (.return_, 1) := by decide +kernel
set_option maxHeartbeats 1000000 in
set_option maxRecDepth 20000 in
theorem m_restore (l : Launch) (D : va_G) (aT : Nat → ClassId) (ad : Nat → Nat) (S : MSt) (sv : Bool) (hsv : S 13 3 = bI sv) : MdV l yX10_restore cX10_restore 2 1 21 D aT ad [.ref (ad 0)] S (fun S1 => (sv = false ∧ S1 = ss S 8 (nI 1)) ∨ (sv = true ∧ S1 = ss (sr (ss S 8 (nI 0)) 0 (cpyF (S 0) (S 2) 77)) 5 (nI 0))) := by
  refine MdV.of (by decide +kernel) rfl (Nat.le_of_ble_eq_true rfl) ?_
  intro p e s m below meth c A ls C hml hl hA hr hlocks hW
  have hl : lv_has ls 2 [(0, .ref (ad 0))] := hl
  have hx := C.1
  have hb := C.2.1
  refine lv_aload_n hx hb dX10_restore_0 rfl (lv_at hl 0 rfl) ?_
  refine lv_iconst (v := nI 0) hx hb dX10_restore_1 (by decide) ?_
  refine md_put_thrown C hW dX10_restore_2 (fun H locs hW => ?_)
  refine lv_aload_n hx hb dX10_restore_5 rfl (lv_at hl 0 rfl) ?_
  refine md_get_isSaved C hW dX10_restore_6 ?_
  refine r_eq (y := (bI sv)) (hsv) ?_
  refine r_bI_ne hx hb (b := sv) (tgt := 19) dX10_restore_9 (by decide) (fun c_9 => ?_) (fun c_9 => ?_)
  · refine lv_iconst (v := nI 0) hx hb dX10_restore_19 (by decide) ?_
    refine lv_istore_n (lv' := [(1, .int (nI 0)), (0, .ref (ad 0))]) hx hb dX10_restore_20 rfl hl (by decide) rfl (fun ls hl => ?_)
    refine W_loopH (σ := Nat) (fun z_ => 77 - z_) (fun z_ H locs g => ∃ ls, g = F0 m 21 ls [] ∧ lv_has ls 2 [(0, .ref (ad 0)), (1, .int (nI z_))] ∧ MdB D aT ad (sr (ss S 8 (nI 0)) 0 (cpyF (S 0) (S 2) z_)) A s.heap H locs ∧ (z_ ≤ 77)) ?_ 0 _ ⟨_, rfl, lv_sub hl [1, 0] rfl, (by rw [cpyF_0, show S 0 = (ss S 8 (nI 0)) 0 from rfl, sr_self]; exact hW), Nat.zero_le _⟩
    clear hW hl
    rintro i H locs g ⟨ls, rfl, hl, hW, hi⟩ ih_21
    refine lv_iload_n hx hb dX10_restore_21 rfl (lv_at hl 1 rfl) ?_
    refine lv_bipush (v := nI 77) hx hb dX10_restore_22 (by decide) ?_
    refine r_geN hx hb (a := i) (b := 77) (by omega) (by omega) (tgt := 45) dX10_restore_24 (by decide) (fun c_24 => ?_) (fun c_24 => ?_)
    · refine lv_aload_n hx hb dX10_restore_45 rfl (lv_at hl 0 rfl) ?_
      refine lv_iconst (v := nI 0) hx hb dX10_restore_46 (by decide) ?_
      refine md_put_changes C hW dX10_restore_47 (fun H locs hW => ?_)
      exact md_vret C hr hlocks hW (Or.inr ⟨c_9, by rw [show i = 77 by omega]⟩) dX10_restore_50
    · refine lv_aload_n hx hb dX10_restore_27 rfl (lv_at hl 0 rfl) ?_
      refine md_geta_m C hW dX10_restore_28 ?_
      refine lv_iload_n hx hb dX10_restore_31 rfl (lv_at hl 1 rfl) ?_
      refine lv_aload_n hx hb dX10_restore_32 rfl (lv_at hl 0 rfl) ?_
      refine md_geta_saved C hW dX10_restore_33 ?_
      refine lv_iload_n hx hb dX10_restore_36 rfl (lv_at hl 1 rfl) ?_
      refine md_ald_saved C hW (i := i) (by omega) dX10_restore_37 ?_
      refine r_eq (y := (S 2 i)) (rfl) ?_
      refine md_ast_m C hW (i := i) (by omega) dX10_restore_38 (fun H locs hW => ?_)
      refine lv_iinc (v := (nI (i + 1))) (lv' := [(1, .int (nI (i + 1))), (0, .ref (ad 0))]) hx hb dX10_restore_39 hl (k := 1) rfl (nI_1 _) (by decide) rfl (fun ls hl => ?_)
      refine lv_goto (tgt := 21) hx hb dX10_restore_42 (by decide) ?_
      exact ih_21 (i + 1) _ _ _ (by omega) ⟨_, rfl, lv_sub hl [1, 0] rfl, (by rw [sr_sr, sr_s, cpyF_1] at hW; exact hW), (by omega)⟩
  · refine lv_aload_n hx hb dX10_restore_12 rfl (lv_at hl 0 rfl) ?_
    refine lv_iconst (v := nI 1) hx hb dX10_restore_13 (by decide) ?_
    refine md_calli C hml hl.1 (As := [.int (nI 1)]) (rest := []) (m_throwing l D aT ad (ss S 8 (nI 0)) 1) gT_throwing hd_throwing rfl ⟨Nat.le_of_ble_eq_true rfl, Nat.le_of_ble_eq_true rfl⟩ ⟨Nat.le_refl _, Nat.le_refl _⟩ hW hA rfl (Nat.le_of_ble_eq_true rfl) dX10_restore_14 (fun r_14 S_14 H locs hq hW => ?_)
    obtain ⟨rfl, rfl⟩ := hq
    refine lv_pop hx hb dX10_restore_17 rfl ?_
    exact md_vret C hr hlocks hW (Or.inl ⟨c_9, ss_ss _ _ _ _⟩) dX10_restore_18
end
section
def mxF (a b : Int32) : Int32 := if a < b then b else a
/-- the state with the rows and sums of the measuring -/
def stT (S : MSt) (w wo sw so : Nat → Int32) (wa sa : Int32) : MSt := fun r => if r = 5 then w else if r = 6 then wo else if r = 7 then sw else if r = 8 then so else if r = 13 then upd (upd (S 13) 15 wa) 16 sa else S r
theorem stT_0 (S : MSt) (a b : Int32) : ss (ss S 15 a) 16 b = stT S (S 5) (S 6) (S 7) (S 8) a b := by
  funext r
  unfold ss sr stT
  by_cases h : r = 13
  · subst h; simp
  · simp only [h, if_false]
    split
    · rename_i z; rw [z]
    · split
      · rename_i z; rw [z]
      · split
        · rename_i z; rw [z]
        · split
          · rename_i z; rw [z]
          · rfl
theorem stT_5 (S : MSt) (w wo sw so f : Nat → Int32) (wa sa : Int32) : sr (stT S w wo sw so wa sa) 5 f = stT S f wo sw so wa sa := by
  funext r; unfold sr stT; by_cases h : r = 5 <;> simp [h]
theorem stT_6 (S : MSt) (w wo sw so f : Nat → Int32) (wa sa : Int32) : sr (stT S w wo sw so wa sa) 6 f = stT S w f sw so wa sa := by
  funext r; unfold sr stT; by_cases h : r = 6 <;> simp [h]
theorem stT_7 (S : MSt) (w wo sw so f : Nat → Int32) (wa sa : Int32) : sr (stT S w wo sw so wa sa) 7 f = stT S w wo f so wa sa := by
  funext r; unfold sr stT; by_cases h : r = 7 <;> simp [h]
theorem stT_8 (S : MSt) (w wo sw so f : Nat → Int32) (wa sa : Int32) : sr (stT S w wo sw so wa sa) 8 f = stT S w wo sw f wa sa := by
  funext r; unfold sr stT; by_cases h : r = 8 <;> simp [h]
theorem stT_wa (S : MSt) (w wo sw so : Nat → Int32) (wa sa x : Int32) : ss (stT S w wo sw so wa sa) 15 x = stT S w wo sw so x sa := by
  funext r j; unfold ss sr stT; by_cases h : r = 13
  · subst h
    by_cases h1 : j = 15
    · subst h1; simp [upd]
    · by_cases h2 : j = 16
      · subst h2; simp [upd]
      · simp [upd, h1, h2]
  · simp [h]
theorem stT_sa (S : MSt) (w wo sw so : Nat → Int32) (wa sa x : Int32) : ss (stT S w wo sw so wa sa) 16 x = stT S w wo sw so wa x := by
  funext r j; unfold ss sr stT; by_cases h : r = 13
  · subst h
    by_cases h2 : j = 16
    · subst h2; simp [upd]
    · simp [upd, h2]
  · simp [h]
abbrev MeT : Type := (Nat → Int32) × (Nat → Int32) × (Nat → Int32) × (Nat → Int32) × Int32 × Int32
/-- one motion measured -/
def meaS (m : Nat → Int32) (k : Nat) (T : MeT) : MeT := match prM m k with
  | none => (T.1, T.2.1, T.2.2.1, T.2.2.2.1, T.2.2.2.2.1 + mxF (T.1 k) (T.2.1 k), T.2.2.2.2.2 * (T.2.2.1 k + T.2.2.2.1 k))
  | some p => (upd T.1 p (T.1 p + T.2.1 k), upd T.2.1 p (T.2.1 p + mxF (T.1 k) (T.2.1 k)), upd T.2.2.1 p (T.2.2.1 p * T.2.2.2.1 k), upd T.2.2.2.1 p (T.2.2.2.1 p * (T.2.2.1 k + T.2.2.2.1 k)), T.2.2.2.2.1, T.2.2.2.2.2)
def meaD (m : Nat → Int32) : Nat → MeT → MeT
  | 0, T => T
  | i + 1, T => meaD m i (meaS m i T)
def mea0 (S : MSt) : MeT := (cpyF (S 5) (fun j => S 0 (29 + 4 * j + 3)) (nM (S 0)), cpyF (S 6) (fun _ => nI 0) (nM (S 0)), cpyF (S 7) (fun _ => nI 1) (nM (S 0)), cpyF (S 8) (fun _ => nI 1) (nM (S 0)), nI 0, nI 1)
def meaR (S : MSt) : MeT := meaD (S 0) (nM (S 0)) (mea0 S)
def meaT (S : MSt) (T : MeT) : MSt := stT S T.1 T.2.1 T.2.2.1 T.2.2.2.1 T.2.2.2.2.1 T.2.2.2.2.2
theorem dm1 (i : Nat) : nI i + Int32.ofInt (-1) = nI i - nI 1 := by rw [Int32.sub_eq_add_neg]; rfl
theorem r_ifltD {p : Program} {l : Launch} {e : Env} {R : Room} {s : State} {m : MethodId} {args : Array Value} {below : List Frame} {meth : Method} {c : Code} {H : Heap} {locs : List Loc} {cells slots : Nat} {Q : State → Prop} {cc : ByteArray} {pc : Nat} {ls : Array Slot} {rest : List Value} (hx : p.tables.exec = Jvm.exec) (hb : c.code = cc) {a b : Nat} (ha : a < 1024) (hb' : b < 1024) {off : Int} {tgt : Nat} (hdg : decode cc pc = .ok (.ifCond .lt off, 3)) (ht : (pc : Int) + off = (tgt : Int)) (kt : a < b → W p l e R s m args below meth c H locs cells slots Q (F0 m tgt ls rest)) (kf : b ≤ a → W p l e R s m args below meth c H locs cells slots Q (F0 m (pc + 3) ls rest)) : W p l e R s m args below meth c H locs cells slots Q (F0 m pc ls (.int (nI a - nI b) :: rest)) := by
  have e := pk_sub_toInt (a := a) (b := b) (by omega) (by omega)
  have h0 : (0 : Int32).toInt = 0 := by decide
  have key : nI a - nI b < 0 ↔ a < b := by rw [Int32.lt_iff_toInt_lt, e, h0]; omega
  exact lv_if_lt hx hb hdg ht (fun h => kt (key.mp h)) (fun h => kf (Nat.not_lt.mp (fun z => h (key.mpr z))))
theorem dX10_wouldVeto_0 : decode cX10_wouldVeto 0 = .ok (.aload_n 0, 1) := by decide +kernel
theorem dX10_wouldVeto_1 : decode cX10_wouldVeto 1 = .ok (.iconst 0, 1) := by decide +kernel
theorem dX10_wouldVeto_2 : decode cX10_wouldVeto 2 = .ok (.putfield 57, 3) := by decide +kernel
theorem dX10_wouldVeto_5 : decode cX10_wouldVeto 5 = .ok (.aload_n 0, 1) := by decide +kernel
theorem dX10_wouldVeto_6 : decode cX10_wouldVeto 6 = .ok (.iload_n 2, 1) := by decide +kernel
theorem dX10_wouldVeto_7 : decode cX10_wouldVeto 7 = .ok (.invokevirtual 71, 3) := by decide +kernel
theorem dX10_wouldVeto_10 : decode cX10_wouldVeto 10 = .ok (.istore_n 3, 1) := by decide +kernel
theorem dX10_wouldVeto_11 : decode cX10_wouldVeto 11 = .ok (.aload_n 0, 1) := by decide +kernel
theorem dX10_wouldVeto_12 : decode cX10_wouldVeto 12 = .ok (.iload_n 1, 1) := by decide +kernel
theorem dX10_wouldVeto_13 : decode cX10_wouldVeto 13 = .ok (.invokevirtual 166, 3) := by decide +kernel
theorem dX10_wouldVeto_16 : decode cX10_wouldVeto 16 = .ok (.ifCond .eq 8, 3) := by decide +kernel
theorem dX10_wouldVeto_19 : decode cX10_wouldVeto 19 = .ok (.iload_n 3, 1) := by decide +kernel
theorem dX10_wouldVeto_20 : decode cX10_wouldVeto 20 = .ok (.iconst (-1), 1) := by decide +kernel
theorem dX10_wouldVeto_21 : decode cX10_wouldVeto 21 = .ok (.if_icmp .ne 23, 3) := by decide +kernel
theorem dX10_wouldVeto_24 : decode cX10_wouldVeto 24 = .ok (.aload_n 0, 1) := by decide +kernel
theorem dX10_wouldVeto_25 : decode cX10_wouldVeto 25 = .ok (.aload_n 0, 1) := by decide +kernel
theorem dX10_wouldVeto_26 : decode cX10_wouldVeto 26 = .ok (.iload_n 1, 1) := by decide +kernel
theorem dX10_wouldVeto_27 : decode cX10_wouldVeto 27 = .ok (.invokevirtual 166, 3) := by decide +kernel
theorem dX10_wouldVeto_30 : decode cX10_wouldVeto 30 = .ok (.ifCond .eq 7, 3) := by decide +kernel
theorem dX10_wouldVeto_33 : decode cX10_wouldVeto 33 = .ok (.iconst 2, 1) := by decide +kernel
theorem dX10_wouldVeto_34 : decode cX10_wouldVeto 34 = .ok (.goto 4, 3) := by decide +kernel
theorem dX10_wouldVeto_37 : decode cX10_wouldVeto 37 = .ok (.iconst 1, 1) := by decide +kernel
theorem dX10_wouldVeto_38 : decode cX10_wouldVeto 38 = .ok (.invokevirtual 101, 3) := by decide +kernel
theorem dX10_wouldVeto_41 : decode cX10_wouldVeto 41 = .ok (.pop, 1) := by decide +kernel
theorem dX10_wouldVeto_42 : decode cX10_wouldVeto 42 = .ok (.iconst 0, 1) := by decide +kernel
theorem dX10_wouldVeto_43 : decode cX10_wouldVeto 43 = .ok (.ireturn, 1) := by decide +kernel
theorem dX10_wouldVeto_44 : decode cX10_wouldVeto 44 = .ok (.aload_n 0, 1) := by decide +kernel
theorem dX10_wouldVeto_45 : decode cX10_wouldVeto 45 = .ok (.iload_n 1, 1) := by decide +kernel
theorem dX10_wouldVeto_46 : decode cX10_wouldVeto 46 = .ok (.iload_n 3, 1) := by decide +kernel
theorem dX10_wouldVeto_47 : decode cX10_wouldVeto 47 = .ok (.invokevirtual 144, 3) := by decide +kernel
theorem dX10_wouldVeto_50 : decode cX10_wouldVeto 50 = .ok (.ireturn, 1) := by decide +kernel
set_option maxHeartbeats 1000000 in
set_option maxRecDepth 20000 in
theorem m_wouldVeto (l : Launch) (D : va_G) (aT : Nat → ClassId) (ad : Nat → Nat) (S : MSt) (x y : Int32) (hF : FoW (S 0)) (hH : HeW (S 0)) : MdI l yX10_wouldVeto cX10_wouldVeto 4 .boolean 3 68 D aT ad [.ref (ad 0), .int x, .int y] S (fun r S1 => (isHB (hM (S 0)) x = false ∧ r = nI 0 ∧ S1 = ss S 8 (nI 1)) ∨ (isHB (hM (S 0)) x = true ∧ fnd (fun k => S 0 (29 + 4 * k)) y (nM (S 0)) = none ∧ r = nI 0 ∧ S1 = ss S 8 (nI 2)) ∨ (∃ i q, i < hM (S 0) ∧ x = nI i ∧ fnd (fun k => S 0 (29 + 4 * k)) y (nM (S 0)) = some q ∧ r = bI (vetB (dif (taM (S 0) i) (tnM (S 0) q)) (thM (S 0) i)) ∧ S1 = ss S 8 (nI 0))) := by
  refine MdI.of (by decide +kernel) rfl (Nat.le_of_ble_eq_true rfl) ?_
  intro p e s m below meth c A ls C hml hl hA hr hlocks hW
  have hl : lv_has ls 4 [(0, .ref (ad 0)), (1, .int x), (2, .int y)] := hl
  have hx := C.1
  have hb := C.2.1
  refine lv_aload_n hx hb dX10_wouldVeto_0 rfl (lv_at hl 0 rfl) ?_
  refine lv_iconst (v := nI 0) hx hb dX10_wouldVeto_1 (by decide) ?_
  refine md_put_thrown C hW dX10_wouldVeto_2 (fun H locs hW => ?_)
  refine lv_aload_n hx hb dX10_wouldVeto_5 rfl (lv_at hl 0 rfl) ?_
  refine lv_iload_n hx hb dX10_wouldVeto_6 rfl (lv_at hl 2 rfl) ?_
  refine md_callg C hml hl.1 (As := [.int y]) (rest := []) (m_find l D aT ad (ss S 8 (nI 0)) (y) (nM (S 0)) hF.1 hF.2.1) gT_find hd_find rfl ⟨Nat.le_of_ble_eq_true rfl, Nat.le_of_ble_eq_true rfl⟩ ⟨Nat.le_refl _, Nat.le_refl _⟩ hW hA rfl (Nat.le_of_ble_eq_true rfl) dX10_wouldVeto_7 (fun r_7 H locs hq hW => ?_)
  subst hq
  refine lv_istore_n (lv' := [(3, .int (oi (fnd (fun k => (ss S 8 (nI 0)) 0 (29 + 4 * k)) (y) (nM (S 0))))), (0, .ref (ad 0)), (1, .int x), (2, .int y)]) hx hb dX10_wouldVeto_10 rfl hl (by decide) rfl (fun ls hl => ?_)
  refine lv_aload_n hx hb dX10_wouldVeto_11 rfl (lv_at hl 1 rfl) ?_
  refine lv_iload_n hx hb dX10_wouldVeto_12 rfl (lv_at hl 2 rfl) ?_
  refine md_callg C hml hl.1 (As := [.int x]) (rest := []) (m_isHedge l D aT ad (ss S 8 (nI 0)) (x) hH) gT_isHedge hd_isHedge rfl ⟨Nat.le_of_ble_eq_true rfl, Nat.le_of_ble_eq_true rfl⟩ ⟨Nat.le_refl _, Nat.le_refl _⟩ hW hA rfl (Nat.le_of_ble_eq_true rfl) dX10_wouldVeto_13 (fun r_13 H locs hq hW => ?_)
  subst hq
  refine r_bI_eq hx hb (b := (isHB (hM (S 0)) x)) (tgt := 24) dX10_wouldVeto_16 (by decide) (fun c_16 => ?_) (fun c_16 => ?_)
  · refine lv_aload_n hx hb dX10_wouldVeto_24 rfl (lv_at hl 1 rfl) ?_
    refine lv_aload_n hx hb dX10_wouldVeto_25 rfl (lv_at hl 1 rfl) ?_
    refine lv_iload_n hx hb dX10_wouldVeto_26 rfl (lv_at hl 2 rfl) ?_
    refine md_callg C hml hl.1 (As := [.int x]) (rest := [.ref (ad 0)]) (m_isHedge l D aT ad (ss S 8 (nI 0)) (x) hH) gT_isHedge hd_isHedge rfl ⟨Nat.le_of_ble_eq_true rfl, Nat.le_of_ble_eq_true rfl⟩ ⟨Nat.le_refl _, Nat.le_refl _⟩ hW hA rfl (Nat.le_of_ble_eq_true rfl) dX10_wouldVeto_27 (fun r_27 H locs hq hW => ?_)
    subst hq
    refine r_bI_eq hx hb (b := (isHB (hM (S 0)) x)) (tgt := 37) dX10_wouldVeto_30 (by decide) (fun c_30 => ?_) (fun c_30 => ?_)
    · refine lv_iconst (v := nI 1) hx hb dX10_wouldVeto_37 (by decide) ?_
      refine md_calli C hml hl.1 (As := [.int (nI 1)]) (rest := []) (m_throwing l D aT ad (ss S 8 (nI 0)) 1) gT_throwing hd_throwing rfl ⟨Nat.le_of_ble_eq_true rfl, Nat.le_of_ble_eq_true rfl⟩ ⟨Nat.le_refl _, Nat.le_refl _⟩ hW hA rfl (Nat.le_of_ble_eq_true rfl) dX10_wouldVeto_38 (fun r_38 S_38 H locs hq hW => ?_)
      obtain ⟨rfl, rfl⟩ := hq
      refine lv_pop hx hb dX10_wouldVeto_41 rfl ?_
      refine lv_iconst (v := nI 0) hx hb dX10_wouldVeto_42 (by decide) ?_
      exact md_iret C hr hlocks (by decide) hW (Or.inl ⟨c_16, rfl, ss_ss _ _ _ _⟩) dX10_wouldVeto_43
    · exact absurd c_30 (by rw [c_16]; decide)
  · refine lv_iload_n hx hb dX10_wouldVeto_19 rfl (lv_at hl 0 rfl) ?_
    refine lv_iconst (v := (-1)) hx hb dX10_wouldVeto_20 (by decide) ?_
    refine r_oi_ne hx hb (o := (fnd (fun k => (ss S 8 (nI 0)) 0 (29 + 4 * k)) (y) (nM (S 0)))) (fun j hj => by have := (fnd_some hj).1; have := hF.n12; omega) (tgt := 44) dX10_wouldVeto_21 (by decide) (fun j_21 c_21 => ?_) (fun c_21 => ?_)
    · have hl : lv_has ls 4 [(3, .int (nI j_21)), (0, .ref (ad 0)), (1, .int x), (2, .int y)] := by rw [c_21] at hl; exact hl
      obtain ⟨i, hi, rfl⟩ := isHB_nat c_16 (by have := hH.2.1; omega)
      have hq0 := (fnd_some c_21).1
      refine lv_aload_n hx hb dX10_wouldVeto_44 rfl (lv_at hl 1 rfl) ?_
      refine lv_iload_n hx hb dX10_wouldVeto_45 rfl (lv_at hl 2 rfl) ?_
      refine lv_iload_n hx hb dX10_wouldVeto_46 rfl (lv_at hl 0 rfl) ?_
      refine md_callg C hml hl.1 (As := [.int (nI i), .int (nI j_21)]) (rest := []) (m_vetoes l D aT ad (ss S 8 (nI 0)) (hM (S 0)) (lvM (S 0)) (thM (S 0)) (taM (S 0)) hH (nM (S 0)) (idM (S 0)) (prM (S 0)) (tnM (S 0)) hF i j_21 (hi) (hq0)) gT_vetoes hd_vetoes rfl ⟨Nat.le_of_ble_eq_true rfl, Nat.le_of_ble_eq_true rfl⟩ ⟨Nat.le_refl _, Nat.le_refl _⟩ hW hA rfl (Nat.le_of_ble_eq_true rfl) dX10_wouldVeto_47 (fun r_47 H locs hq hW => ?_)
      subst hq
      exact md_iret C hr hlocks (bI_nar _) hW (Or.inr (Or.inr ⟨i, j_21, hi, rfl, c_21, rfl, rfl⟩)) dX10_wouldVeto_50
    · have hl : lv_has ls 4 [(3, .int (-1)), (0, .ref (ad 0)), (1, .int x), (2, .int y)] := by rw [c_21] at hl; exact hl
      refine lv_aload_n hx hb dX10_wouldVeto_24 rfl (lv_at hl 1 rfl) ?_
      refine lv_aload_n hx hb dX10_wouldVeto_25 rfl (lv_at hl 1 rfl) ?_
      refine lv_iload_n hx hb dX10_wouldVeto_26 rfl (lv_at hl 2 rfl) ?_
      refine md_callg C hml hl.1 (As := [.int x]) (rest := [.ref (ad 0)]) (m_isHedge l D aT ad (ss S 8 (nI 0)) (x) hH) gT_isHedge hd_isHedge rfl ⟨Nat.le_of_ble_eq_true rfl, Nat.le_of_ble_eq_true rfl⟩ ⟨Nat.le_refl _, Nat.le_refl _⟩ hW hA rfl (Nat.le_of_ble_eq_true rfl) dX10_wouldVeto_27 (fun r_27 H locs hq hW => ?_)
      subst hq
      refine r_bI_eq hx hb (b := (isHB (hM (S 0)) x)) (tgt := 37) dX10_wouldVeto_30 (by decide) (fun c_30 => ?_) (fun c_30 => ?_)
      · exact absurd c_30 (by rw [c_16]; decide)
      · refine lv_iconst (v := nI 2) hx hb dX10_wouldVeto_33 (by decide) ?_
        refine lv_goto (tgt := 38) hx hb dX10_wouldVeto_34 (by decide) ?_
        refine md_calli C hml hl.1 (As := [.int (nI 2)]) (rest := []) (m_throwing l D aT ad (ss S 8 (nI 0)) 2) gT_throwing hd_throwing rfl ⟨Nat.le_of_ble_eq_true rfl, Nat.le_of_ble_eq_true rfl⟩ ⟨Nat.le_refl _, Nat.le_refl _⟩ hW hA rfl (Nat.le_of_ble_eq_true rfl) dX10_wouldVeto_38 (fun r_38 S_38 H locs hq hW => ?_)
        obtain ⟨rfl, rfl⟩ := hq
        refine lv_pop hx hb dX10_wouldVeto_41 rfl ?_
        refine lv_iconst (v := nI 0) hx hb dX10_wouldVeto_42 (by decide) ?_
        exact md_iret C hr hlocks (by decide) hW (Or.inr (Or.inl ⟨c_16, c_21, rfl, ss_ss _ _ _ _⟩)) dX10_wouldVeto_43
theorem gT_longestPath : GoodIn gw (wsV RX10 187 RX10 yX10_longestPath (Cond.code yX10_longestPath cX10_longestPath 6 (some .int) :: gw)) := gdV gw_1953 gw_1946 gw_1947 gw_81 gw_1948
theorem hd_longestPath : yX10_longestPath.cls = RX10 ∧ yX10_longestPath.cls ≠ "java/lang/invoke/MethodHandle" ∧ yX10_longestPath.cls ≠ "java/lang/invoke/VarHandle" ∧ (parseMethodDescriptor yX10_longestPath.desc).map (fun d => d.parameters.length) = some 1 := ⟨rfl, by decide +kernel, by decide +kernel, by decide +kernel⟩
theorem dX10_longestPath_0 : decode cX10_longestPath 0 = .ok (.aload_n 0, 1) := by decide +kernel
theorem dX10_longestPath_1 : decode cX10_longestPath 1 = .ok (.iconst 0, 1) := by decide +kernel
theorem dX10_longestPath_2 : decode cX10_longestPath 2 = .ok (.putfield 57, 3) := by decide +kernel
theorem dX10_longestPath_5 : decode cX10_longestPath 5 = .ok (.aload_n 0, 1) := by decide +kernel
theorem dX10_longestPath_6 : decode cX10_longestPath 6 = .ok (.iload_n 1, 1) := by decide +kernel
theorem dX10_longestPath_7 : decode cX10_longestPath 7 = .ok (.invokevirtual 71, 3) := by decide +kernel
theorem dX10_longestPath_10 : decode cX10_longestPath 10 = .ok (.istore_n 2, 1) := by decide +kernel
theorem dX10_longestPath_11 : decode cX10_longestPath 11 = .ok (.iload_n 2, 1) := by decide +kernel
theorem dX10_longestPath_12 : decode cX10_longestPath 12 = .ok (.iconst (-1), 1) := by decide +kernel
theorem dX10_longestPath_13 : decode cX10_longestPath 13 = .ok (.if_icmp .ne 9, 3) := by decide +kernel
theorem dX10_longestPath_16 : decode cX10_longestPath 16 = .ok (.aload_n 0, 1) := by decide +kernel
theorem dX10_longestPath_17 : decode cX10_longestPath 17 = .ok (.iconst 1, 1) := by decide +kernel
theorem dX10_longestPath_18 : decode cX10_longestPath 18 = .ok (.invokevirtual 101, 3) := by decide +kernel
theorem dX10_longestPath_21 : decode cX10_longestPath 21 = .ok (.ireturn, 1) := by decide +kernel
theorem dX10_longestPath_22 : decode cX10_longestPath 22 = .ok (.iconst 0, 1) := by decide +kernel
theorem dX10_longestPath_23 : decode cX10_longestPath 23 = .ok (.istore_n 3, 1) := by decide +kernel
theorem dX10_longestPath_24 : decode cX10_longestPath 24 = .ok (.iconst 0, 1) := by decide +kernel
theorem dX10_longestPath_25 : decode cX10_longestPath 25 = .ok (.istore 4, 2) := by decide +kernel
theorem dX10_longestPath_27 : decode cX10_longestPath 27 = .ok (.iload 4, 2) := by decide +kernel
theorem dX10_longestPath_29 : decode cX10_longestPath 29 = .ok (.aload_n 0, 1) := by decide +kernel
theorem dX10_longestPath_30 : decode cX10_longestPath 30 = .ok (.getfield 9, 3) := by decide +kernel
theorem dX10_longestPath_33 : decode cX10_longestPath 33 = .ok (.iconst 2, 1) := by decide +kernel
theorem dX10_longestPath_34 : decode cX10_longestPath 34 = .ok (.iaload, 1) := by decide +kernel
theorem dX10_longestPath_35 : decode cX10_longestPath 35 = .ok (.if_icmp .ge 62, 3) := by decide +kernel
theorem dX10_longestPath_38 : decode cX10_longestPath 38 = .ok (.iconst 0, 1) := by decide +kernel
theorem dX10_longestPath_39 : decode cX10_longestPath 39 = .ok (.istore 5, 2) := by decide +kernel
theorem dX10_longestPath_41 : decode cX10_longestPath 41 = .ok (.iload 5, 2) := by decide +kernel
theorem dX10_longestPath_43 : decode cX10_longestPath 43 = .ok (.iload 4, 2) := by decide +kernel
theorem dX10_longestPath_45 : decode cX10_longestPath 45 = .ok (.if_icmp .gt 46, 3) := by decide +kernel
theorem dX10_longestPath_48 : decode cX10_longestPath 48 = .ok (.aload_n 0, 1) := by decide +kernel
theorem dX10_longestPath_49 : decode cX10_longestPath 49 = .ok (.iload 4, 2) := by decide +kernel
theorem dX10_longestPath_51 : decode cX10_longestPath 51 = .ok (.iload_n 2, 1) := by decide +kernel
theorem dX10_longestPath_52 : decode cX10_longestPath 52 = .ok (.invokevirtual 78, 3) := by decide +kernel
theorem dX10_longestPath_55 : decode cX10_longestPath 55 = .ok (.ifCond .eq 36, 3) := by decide +kernel
theorem dX10_longestPath_58 : decode cX10_longestPath 58 = .ok (.iload_n 3, 1) := by decide +kernel
theorem dX10_longestPath_59 : decode cX10_longestPath 59 = .ok (.aload_n 0, 1) := by decide +kernel
theorem dX10_longestPath_60 : decode cX10_longestPath 60 = .ok (.iload 5, 2) := by decide +kernel
theorem dX10_longestPath_62 : decode cX10_longestPath 62 = .ok (.iload_n 2, 1) := by decide +kernel
theorem dX10_longestPath_63 : decode cX10_longestPath 63 = .ok (.invokevirtual 78, 3) := by decide +kernel
theorem dX10_longestPath_66 : decode cX10_longestPath 66 = .ok (.ifCond .eq 14, 3) := by decide +kernel
theorem dX10_longestPath_69 : decode cX10_longestPath 69 = .ok (.aload_n 0, 1) := by decide +kernel
theorem dX10_longestPath_70 : decode cX10_longestPath 70 = .ok (.iload 4, 2) := by decide +kernel
theorem dX10_longestPath_72 : decode cX10_longestPath 72 = .ok (.iload 5, 2) := by decide +kernel
theorem dX10_longestPath_74 : decode cX10_longestPath 74 = .ok (.invokevirtual 184, 3) := by decide +kernel
theorem dX10_longestPath_77 : decode cX10_longestPath 77 = .ok (.goto 4, 3) := by decide +kernel
theorem dX10_longestPath_80 : decode cX10_longestPath 80 = .ok (.iconst 0, 1) := by decide +kernel
theorem dX10_longestPath_81 : decode cX10_longestPath 81 = .ok (.invokestatic 138, 3) := by decide +kernel
theorem dX10_longestPath_84 : decode cX10_longestPath 84 = .ok (.istore_n 3, 1) := by decide +kernel
theorem dX10_longestPath_85 : decode cX10_longestPath 85 = .ok (.iinc 5 1, 3) := by decide +kernel
theorem dX10_longestPath_88 : decode cX10_longestPath 88 = .ok (.goto (-47), 3) := by decide +kernel
theorem dX10_longestPath_91 : decode cX10_longestPath 91 = .ok (.iinc 4 1, 3) := by decide +kernel
theorem dX10_longestPath_94 : decode cX10_longestPath 94 = .ok (.goto (-67), 3) := by decide +kernel
theorem dX10_longestPath_97 : decode cX10_longestPath 97 = .ok (.iload_n 3, 1) := by decide +kernel
theorem dX10_longestPath_98 : decode cX10_longestPath 98 = .ok (.iconst 1, 1) := by decide +kernel
theorem dX10_longestPath_99 : decode cX10_longestPath 99 = .ok (.iadd, 1) := by decide +kernel
theorem dX10_longestPath_100 : decode cX10_longestPath 100 = .ok (.ireturn, 1) := by decide +kernel
set_option maxHeartbeats 2000000 in
set_option maxRecDepth 20000 in
theorem m_longestPath (l : Launch) (D : va_G) (aT : Nat → ClassId) (ad : Nat → Nat) (S : MSt) (x : Int32) (hF : FoW (S 0)) : MdI l yX10_longestPath cX10_longestPath 6 .int 6 134 D aT ad [.ref (ad 0), .int x] S (fun r S1 => (fnd (fun k => S 0 (29 + 4 * k)) x (nM (S 0)) = none ∧ r = -1 ∧ S1 = ss S 8 (nI 1)) ∨ (∃ q, fnd (fun k => S 0 (29 + 4 * k)) x (nM (S 0)) = some q ∧ r = nI (lpO (prM (S 0)) (nM (S 0)) q (nM (S 0)) + 1) ∧ S1 = ss S 8 (nI 0))) := by
  refine MdI.of (by decide +kernel) rfl (Nat.le_of_ble_eq_true rfl) ?_
  intro p e s m below meth c A ls C hml hl hA hr hlocks hW
  have hl : lv_has ls 6 [(0, .ref (ad 0)), (1, .int x)] := hl
  have hx := C.1
  have hb := C.2.1
  refine lv_aload_n hx hb dX10_longestPath_0 rfl (lv_at hl 0 rfl) ?_
  refine lv_iconst (v := nI 0) hx hb dX10_longestPath_1 (by decide) ?_
  refine md_put_thrown C hW dX10_longestPath_2 (fun H locs hW => ?_)
  refine lv_aload_n hx hb dX10_longestPath_5 rfl (lv_at hl 0 rfl) ?_
  refine lv_iload_n hx hb dX10_longestPath_6 rfl (lv_at hl 1 rfl) ?_
  refine md_callg C hml hl.1 (As := [.int x]) (rest := []) (m_find l D aT ad (ss S 8 (nI 0)) (x) (nM (S 0)) hF.1 hF.2.1) gT_find hd_find rfl ⟨Nat.le_of_ble_eq_true rfl, Nat.le_of_ble_eq_true rfl⟩ ⟨Nat.le_refl _, Nat.le_refl _⟩ hW hA rfl (Nat.le_of_ble_eq_true rfl) dX10_longestPath_7 (fun r_7 H locs hq hW => ?_)
  subst hq
  refine lv_istore_n (lv' := [(2, .int (oi (fnd (fun k => (ss S 8 (nI 0)) 0 (29 + 4 * k)) (x) (nM (S 0))))), (0, .ref (ad 0)), (1, .int x)]) hx hb dX10_longestPath_10 rfl hl (by decide) rfl (fun ls hl => ?_)
  refine lv_iload_n hx hb dX10_longestPath_11 rfl (lv_at hl 0 rfl) ?_
  refine lv_iconst (v := (-1)) hx hb dX10_longestPath_12 (by decide) ?_
  refine r_oi_ne hx hb (o := (fnd (fun k => (ss S 8 (nI 0)) 0 (29 + 4 * k)) (x) (nM (S 0)))) (fun j hj => by have := (fnd_some hj).1; have := hF.n12; omega) (tgt := 22) dX10_longestPath_13 (by decide) (fun j_13 c_13 => ?_) (fun c_13 => ?_)
  · have hl : lv_has ls 6 [(2, .int (nI j_13)), (0, .ref (ad 0)), (1, .int x)] := by rw [c_13] at hl; exact hl
    have hq0 := (fnd_some c_13).1
    have h12 := hF.n12
    refine lv_iconst (v := nI 0) hx hb dX10_longestPath_22 (by decide) ?_
    refine lv_istore_n (lv' := [(3, .int (nI 0)), (2, .int (nI j_13)), (0, .ref (ad 0)), (1, .int x)]) hx hb dX10_longestPath_23 rfl hl (by decide) rfl (fun ls hl => ?_)
    refine lv_iconst (v := nI 0) hx hb dX10_longestPath_24 (by decide) ?_
    refine lv_istore (lv' := [(4, .int (nI 0)), (3, .int (nI 0)), (2, .int (nI j_13)), (0, .ref (ad 0)), (1, .int x)]) hx hb dX10_longestPath_25 hl (by decide) rfl (fun ls hl => ?_)
    refine W_loopH (σ := Nat × Nat) (fun z_ => nM (S 0) - z_.2) (fun z_ H locs g => ∃ ls, g = F0 m 27 ls [] ∧ lv_has ls 6 [(0, .ref (ad 0)), (2, .int (nI j_13)), (3, .int (nI z_.1)), (4, .int (nI z_.2))] ∧ MdB D aT ad (ss S 8 (nI 0)) A s.heap H locs ∧ (z_.1 = lpO (prM (S 0)) (nM (S 0)) j_13 z_.2 ∧ z_.2 ≤ nM (S 0))) ?_ (0, 0) _ ⟨_, rfl, lv_sub hl [3, 2, 1, 0] rfl, hW, ⟨rfl, Nat.zero_le _⟩⟩
    clear hW hl
    rintro ⟨mo, a⟩ H locs g ⟨ls, rfl, hl, hW, hmo, han⟩ ih_27
    dsimp only at hl hW hmo han ⊢
    refine lv_iload hx hb dX10_longestPath_27 (lv_at hl 3 rfl) ?_
    refine lv_aload_n hx hb dX10_longestPath_29 rfl (lv_at hl 0 rfl) ?_
    refine md_geta_m C hW dX10_longestPath_30 ?_
    refine lv_iconst (v := nI 2) hx hb dX10_longestPath_33 (by decide) ?_
    refine md_ald_m C hW (i := 2) (by omega) dX10_longestPath_34 ?_
    refine r_eq (y := (nI (nM (S 0)))) (hF.1) ?_
    refine r_geN hx hb (a := a) (b := (nM (S 0))) (by omega) (by omega) (tgt := 97) dX10_longestPath_35 (by decide) (fun c_35 => ?_) (fun c_35 => ?_)
    · refine lv_iload_n hx hb dX10_longestPath_97 rfl (lv_at hl 2 rfl) ?_
      refine lv_iconst (v := nI 1) hx hb dX10_longestPath_98 (by decide) ?_
      refine r_iaddN hx hb (a := mo) (b := 1) dX10_longestPath_99 ?_
      exact md_iret C hr hlocks rfl hW (Or.inr ⟨j_13, c_13, by rw [hmo, show a = nM (S 0) by omega], rfl⟩) dX10_longestPath_100
    · refine lv_iconst (v := nI 0) hx hb dX10_longestPath_38 (by decide) ?_
      refine lv_istore (lv' := [(5, .int (nI 0)), (0, .ref (ad 0)), (2, .int (nI j_13)), (3, .int (nI mo)), (4, .int (nI a))]) hx hb dX10_longestPath_39 hl (by decide) rfl (fun ls hl => ?_)
      refine W_loopH (σ := Nat × Nat) (fun z_ => a + 1 - z_.2) (fun z_ H locs g => ∃ ls, g = F0 m 41 ls [] ∧ lv_has ls 6 [(0, .ref (ad 0)), (2, .int (nI j_13)), (3, .int (nI z_.1)), (4, .int (nI a)), (5, .int (nI z_.2))] ∧ MdB D aT ad (ss S 8 (nI 0)) A s.heap H locs ∧ (z_.1 = lpI (prM (S 0)) (nM (S 0)) j_13 a (lpO (prM (S 0)) (nM (S 0)) j_13 a) z_.2 ∧ z_.2 ≤ a + 1 ∧ (0 < z_.2 → anc (prM (S 0)) j_13 a = true))) ?_ (mo, 0) _ ⟨_, rfl, lv_sub hl [1, 2, 3, 4, 0] rfl, hW, ⟨hmo, Nat.zero_le _, fun z => absurd z (Nat.lt_irrefl _)⟩⟩
      clear hW hl
      rintro ⟨ms, b⟩ H locs g ⟨ls, rfl, hl, hW, hm, hba, hb3⟩ ih_41
      dsimp only at hl hW hm hba hb3 ⊢
      have hms := lpI_le (r := j_13) hF.ok (show a < nM (S 0) by omega) (lpO_le (r := j_13) hF.ok a (by omega)) (Nat.le_refl _) b (by omega)
      rw [← hm] at hms
      refine lv_iload hx hb dX10_longestPath_41 (lv_at hl 4 rfl) ?_
      refine lv_iload hx hb dX10_longestPath_43 (lv_at hl 3 rfl) ?_
      refine r_gtN hx hb (a := b) (b := a) (by omega) (by omega) (tgt := 91) dX10_longestPath_45 (by decide) (fun c_45 => ?_) (fun c_45 => ?_)
      · refine lv_iinc (v := (nI (a + 1))) (lv' := [(4, .int (nI (a + 1))), (0, .ref (ad 0)), (2, .int (nI j_13)), (3, .int (nI ms)), (5, .int (nI b))]) hx hb dX10_longestPath_91 hl (k := 3) rfl (nI_1 _) (by decide) rfl (fun ls hl => ?_)
        refine lv_goto (tgt := 27) hx hb dX10_longestPath_94 (by decide) ?_
        exact ih_27 (ms, (a + 1)) _ _ _ (by dsimp only; omega) ⟨_, rfl, lv_sub hl [1, 2, 3, 0] rfl, hW, ⟨by rw [lpO, if_pos (hb3 (by omega)), hm, show b = a + 1 by omega], by (try dsimp only); omega⟩⟩
      · refine lv_aload_n hx hb dX10_longestPath_48 rfl (lv_at hl 0 rfl) ?_
        refine lv_iload hx hb dX10_longestPath_49 (lv_at hl 3 rfl) ?_
        refine lv_iload_n hx hb dX10_longestPath_51 rfl (lv_at hl 1 rfl) ?_
        refine md_callg C hml hl.1 (As := [.int (nI a), .int (nI j_13)]) (rest := []) (m_isIn l D aT ad (ss S 8 (nI 0)) (nM (S 0)) (idM (S 0)) (prM (S 0)) (tnM (S 0)) hF a j_13 (by omega) (hq0)) gT_isIn hd_isIn rfl ⟨Nat.le_of_ble_eq_true rfl, Nat.le_of_ble_eq_true rfl⟩ ⟨Nat.le_refl _, Nat.le_refl _⟩ hW hA rfl (Nat.le_of_ble_eq_true rfl) dX10_longestPath_52 (fun r_52 H locs hq hW => ?_)
        subst hq
        refine r_bI_eq hx hb (b := (anc (prM (S 0)) j_13 a)) (tgt := 91) dX10_longestPath_55 (by decide) (fun c_55 => ?_) (fun c_55 => ?_)
        · refine lv_iinc (v := (nI (a + 1))) (lv' := [(4, .int (nI (a + 1))), (0, .ref (ad 0)), (2, .int (nI j_13)), (3, .int (nI ms)), (5, .int (nI b))]) hx hb dX10_longestPath_91 hl (k := 3) rfl (nI_1 _) (by decide) rfl (fun ls hl => ?_)
          refine lv_goto (tgt := 27) hx hb dX10_longestPath_94 (by decide) ?_
          exact ih_27 (ms, (a + 1)) _ _ _ (by dsimp only; omega) ⟨_, rfl, lv_sub hl [1, 2, 3, 0] rfl, hW, ⟨by rw [lpO, if_neg (by rw [c_55]; decide), hm, show b = 0 from (by rcases Nat.eq_zero_or_pos b with z | z; exact z; exact absurd (hb3 z) (by rw [c_55]; decide))]; rfl, by (try dsimp only); omega⟩⟩
        · refine lv_iload_n hx hb dX10_longestPath_58 rfl (lv_at hl 2 rfl) ?_
          refine lv_aload_n hx hb dX10_longestPath_59 rfl (lv_at hl 0 rfl) ?_
          refine lv_iload hx hb dX10_longestPath_60 (lv_at hl 4 rfl) ?_
          refine lv_iload_n hx hb dX10_longestPath_62 rfl (lv_at hl 1 rfl) ?_
          refine md_callg C hml hl.1 (As := [.int (nI b), .int (nI j_13)]) (rest := [.int (nI ms)]) (m_isIn l D aT ad (ss S 8 (nI 0)) (nM (S 0)) (idM (S 0)) (prM (S 0)) (tnM (S 0)) hF b j_13 (by omega) (hq0)) gT_isIn hd_isIn rfl ⟨Nat.le_of_ble_eq_true rfl, Nat.le_of_ble_eq_true rfl⟩ ⟨Nat.le_refl _, Nat.le_refl _⟩ hW hA rfl (Nat.le_of_ble_eq_true rfl) dX10_longestPath_63 (fun r_63 H locs hq hW => ?_)
          subst hq
          refine r_bI_eq hx hb (b := (anc (prM (S 0)) j_13 b)) (tgt := 80) dX10_longestPath_66 (by decide) (fun c_66 => ?_) (fun c_66 => ?_)
          · refine lv_iconst (v := nI 0) hx hb dX10_longestPath_80 (by decide) ?_
            refine md_max C hml hl.1 gk_max ⟨Nat.le_of_ble_eq_true rfl, Nat.le_of_ble_eq_true rfl, Nat.le_of_ble_eq_true rfl⟩ ⟨Nat.le_refl _, Nat.le_refl _⟩ dX10_longestPath_81 ?_
            refine r_eq (y := (nI (max ms 0))) (max_nI (by omega) (by have := stN_le hF.ok (show a < nM (S 0) by omega) (show b < nM (S 0) by omega); omega)) ?_
            refine lv_istore_n (lv' := [(3, .int (nI (max ms 0))), (0, .ref (ad 0)), (2, .int (nI j_13)), (4, .int (nI a)), (5, .int (nI b))]) hx hb dX10_longestPath_84 rfl hl (by decide) rfl (fun ls hl => ?_)
            refine lv_iinc (v := (nI (b + 1))) (lv' := [(5, .int (nI (b + 1))), (3, .int (nI (max ms 0))), (0, .ref (ad 0)), (2, .int (nI j_13)), (4, .int (nI a))]) hx hb dX10_longestPath_85 hl (k := 4) rfl (nI_1 _) (by decide) rfl (fun ls hl => ?_)
            refine lv_goto (tgt := 41) hx hb dX10_longestPath_88 (by decide) ?_
            exact ih_41 ((max ms 0), (b + 1)) _ _ _ (by dsimp only; omega) ⟨_, rfl, lv_sub hl [2, 3, 1, 4, 0] rfl, hW, ⟨by rw [lpI, if_neg (by rw [c_66]; decide), ← hm], by (try dsimp only); omega, fun _ => c_55⟩⟩
          · refine lv_aload_n hx hb dX10_longestPath_69 rfl (lv_at hl 0 rfl) ?_
            refine lv_iload hx hb dX10_longestPath_70 (lv_at hl 3 rfl) ?_
            refine lv_iload hx hb dX10_longestPath_72 (lv_at hl 4 rfl) ?_
            obtain ⟨kc, hkc⟩ := cmF_ex (n := nM (S 0)) c_55 c_66 hq0
            refine md_callg C hml hl.1 (As := [.int (nI a), .int (nI b)]) (rest := [.int (nI ms)]) (m_steps l D aT ad (ss S 8 (nI 0)) (nM (S 0)) (idM (S 0)) (prM (S 0)) (tnM (S 0)) hF a b kc (show a < nM (S 0) by omega) (show b < nM (S 0) by omega) hkc) gT_steps hd_steps rfl ⟨Nat.le_of_ble_eq_true rfl, Nat.le_of_ble_eq_true rfl⟩ ⟨Nat.le_refl _, Nat.le_refl _⟩ hW hA rfl (Nat.le_of_ble_eq_true rfl) dX10_longestPath_74 (fun r_74 H locs hq hW => ?_)
            subst hq
            refine lv_goto (tgt := 81) hx hb dX10_longestPath_77 (by decide) ?_
            refine md_max C hml hl.1 gk_max ⟨Nat.le_of_ble_eq_true rfl, Nat.le_of_ble_eq_true rfl, Nat.le_of_ble_eq_true rfl⟩ ⟨Nat.le_refl _, Nat.le_refl _⟩ dX10_longestPath_81 ?_
            refine r_eq (y := (nI (max ms (stN (prM (S 0)) (nM (S 0)) a b)))) (max_nI (by omega) (by have := stN_le hF.ok (show a < nM (S 0) by omega) (show b < nM (S 0) by omega); omega)) ?_
            refine lv_istore_n (lv' := [(3, .int (nI (max ms (stN (prM (S 0)) (nM (S 0)) a b)))), (0, .ref (ad 0)), (2, .int (nI j_13)), (4, .int (nI a)), (5, .int (nI b))]) hx hb dX10_longestPath_84 rfl hl (by decide) rfl (fun ls hl => ?_)
            refine lv_iinc (v := (nI (b + 1))) (lv' := [(5, .int (nI (b + 1))), (3, .int (nI (max ms (stN (prM (S 0)) (nM (S 0)) a b)))), (0, .ref (ad 0)), (2, .int (nI j_13)), (4, .int (nI a))]) hx hb dX10_longestPath_85 hl (k := 4) rfl (nI_1 _) (by decide) rfl (fun ls hl => ?_)
            refine lv_goto (tgt := 41) hx hb dX10_longestPath_88 (by decide) ?_
            exact ih_41 ((max ms (stN (prM (S 0)) (nM (S 0)) a b)), (b + 1)) _ _ _ (by dsimp only; omega) ⟨_, rfl, lv_sub hl [2, 3, 1, 4, 0] rfl, hW, ⟨by rw [lpI, if_pos c_66, ← hm], by (try dsimp only); omega, fun _ => c_55⟩⟩
  · have hl : lv_has ls 6 [(2, .int (-1)), (0, .ref (ad 0)), (1, .int x)] := by rw [c_13] at hl; exact hl
    refine lv_aload_n hx hb dX10_longestPath_16 rfl (lv_at hl 1 rfl) ?_
    refine lv_iconst (v := nI 1) hx hb dX10_longestPath_17 (by decide) ?_
    refine md_calli C hml hl.1 (As := [.int (nI 1)]) (rest := []) (m_throwing l D aT ad (ss S 8 (nI 0)) 1) gT_throwing hd_throwing rfl ⟨Nat.le_of_ble_eq_true rfl, Nat.le_of_ble_eq_true rfl⟩ ⟨Nat.le_refl _, Nat.le_refl _⟩ hW hA rfl (Nat.le_of_ble_eq_true rfl) dX10_longestPath_18 (fun r_18 S_18 H locs hq hW => ?_)
    obtain ⟨rfl, rfl⟩ := hq
    exact md_iret C hr hlocks rfl hW (Or.inl ⟨c_13, rfl, ss_ss _ _ _ _⟩) dX10_longestPath_21
theorem dX10_longestPathBySweeps_0 : decode cX10_longestPathBySweeps 0 = .ok (.aload_n 0, 1) := by decide +kernel
theorem dX10_longestPathBySweeps_1 : decode cX10_longestPathBySweeps 1 = .ok (.iload_n 1, 1) := by decide +kernel
theorem dX10_longestPathBySweeps_2 : decode cX10_longestPathBySweeps 2 = .ok (.invokevirtual 187, 3) := by decide +kernel
theorem dX10_longestPathBySweeps_5 : decode cX10_longestPathBySweeps 5 = .ok (.ireturn, 1) := by decide +kernel
set_option maxHeartbeats 1000000 in
set_option maxRecDepth 20000 in
theorem m_longestPathBySweeps (l : Launch) (D : va_G) (aT : Nat → ClassId) (ad : Nat → Nat) (S : MSt) (x : Int32) (hF : FoW (S 0)) : MdI l yX10_longestPathBySweeps cX10_longestPathBySweeps 2 .int 7 159 D aT ad [.ref (ad 0), .int x] S (fun r S1 => (fnd (fun k => S 0 (29 + 4 * k)) x (nM (S 0)) = none ∧ r = -1 ∧ S1 = ss S 8 (nI 1)) ∨ (∃ q, fnd (fun k => S 0 (29 + 4 * k)) x (nM (S 0)) = some q ∧ r = nI (lpO (prM (S 0)) (nM (S 0)) q (nM (S 0)) + 1) ∧ S1 = ss S 8 (nI 0))) := by
  refine MdI.of (by decide +kernel) rfl (Nat.le_of_ble_eq_true rfl) ?_
  intro p e s m below meth c A ls C hml hl hA hr hlocks hW
  have hl : lv_has ls 2 [(0, .ref (ad 0)), (1, .int x)] := hl
  have hx := C.1
  have hb := C.2.1
  refine lv_aload_n hx hb dX10_longestPathBySweeps_0 rfl (lv_at hl 0 rfl) ?_
  refine lv_iload_n hx hb dX10_longestPathBySweeps_1 rfl (lv_at hl 1 rfl) ?_
  refine md_calli C hml hl.1 (As := [.int x]) (rest := []) (m_longestPath l D aT ad S (x) hF) gT_longestPath hd_longestPath rfl ⟨Nat.le_of_ble_eq_true rfl, Nat.le_of_ble_eq_true rfl⟩ ⟨Nat.le_refl _, Nat.le_refl _⟩ hW hA rfl (Nat.le_of_ble_eq_true rfl) dX10_longestPathBySweeps_2 (fun r_2 S_2 H locs hq hW => ?_)
  rcases hq with ⟨h1, rfl, rfl⟩ | ⟨q, h1, rfl, rfl⟩
  · exact md_iret C hr hlocks rfl hW (Or.inl ⟨h1, rfl, rfl⟩) dX10_longestPathBySweeps_5
  · exact md_iret C hr hlocks rfl hW (Or.inr ⟨q, h1, rfl, rfl⟩) dX10_longestPathBySweeps_5
theorem gT_measures : GoodIn gw (wsV RX10 196 RX10 yX10_measures (Cond.code yX10_measures cX10_measures 5 (none) :: gw)) := gdV gw_1958 gw_1960 gw_51 gw_81 gw_1961
theorem hd_measures : yX10_measures.cls = RX10 ∧ yX10_measures.cls ≠ "java/lang/invoke/MethodHandle" ∧ yX10_measures.cls ≠ "java/lang/invoke/VarHandle" ∧ (parseMethodDescriptor yX10_measures.desc).map (fun d => d.parameters.length) = some 0 := ⟨rfl, by decide +kernel, by decide +kernel, by decide +kernel⟩
theorem dX10_measures_0 : decode cX10_measures 0 = .ok (.aload_n 0, 1) := by decide +kernel
theorem dX10_measures_1 : decode cX10_measures 1 = .ok (.iconst 0, 1) := by decide +kernel
theorem dX10_measures_2 : decode cX10_measures 2 = .ok (.putfield 190, 3) := by decide +kernel
theorem dX10_measures_5 : decode cX10_measures 5 = .ok (.aload_n 0, 1) := by decide +kernel
theorem dX10_measures_6 : decode cX10_measures 6 = .ok (.iconst 1, 1) := by decide +kernel
theorem dX10_measures_7 : decode cX10_measures 7 = .ok (.putfield 193, 3) := by decide +kernel
theorem dX10_measures_10 : decode cX10_measures 10 = .ok (.iconst 0, 1) := by decide +kernel
theorem dX10_measures_11 : decode cX10_measures 11 = .ok (.istore_n 1, 1) := by decide +kernel
theorem dX10_measures_12 : decode cX10_measures 12 = .ok (.iload_n 1, 1) := by decide +kernel
theorem dX10_measures_13 : decode cX10_measures 13 = .ok (.aload_n 0, 1) := by decide +kernel
theorem dX10_measures_14 : decode cX10_measures 14 = .ok (.getfield 9, 3) := by decide +kernel
theorem dX10_measures_17 : decode cX10_measures 17 = .ok (.iconst 2, 1) := by decide +kernel
theorem dX10_measures_18 : decode cX10_measures 18 = .ok (.iaload, 1) := by decide +kernel
theorem dX10_measures_19 : decode cX10_measures 19 = .ok (.if_icmp .ge 42, 3) := by decide +kernel
theorem dX10_measures_22 : decode cX10_measures 22 = .ok (.aload_n 0, 1) := by decide +kernel
theorem dX10_measures_23 : decode cX10_measures 23 = .ok (.getfield 32, 3) := by decide +kernel
theorem dX10_measures_26 : decode cX10_measures 26 = .ok (.iload_n 1, 1) := by decide +kernel
theorem dX10_measures_27 : decode cX10_measures 27 = .ok (.aload_n 0, 1) := by decide +kernel
theorem dX10_measures_28 : decode cX10_measures 28 = .ok (.iload_n 1, 1) := by decide +kernel
theorem dX10_measures_29 : decode cX10_measures 29 = .ok (.iconst 3, 1) := by decide +kernel
theorem dX10_measures_30 : decode cX10_measures 30 = .ok (.invokevirtual 67, 3) := by decide +kernel
theorem dX10_measures_33 : decode cX10_measures 33 = .ok (.iastore, 1) := by decide +kernel
theorem dX10_measures_34 : decode cX10_measures 34 = .ok (.aload_n 0, 1) := by decide +kernel
theorem dX10_measures_35 : decode cX10_measures 35 = .ok (.getfield 35, 3) := by decide +kernel
theorem dX10_measures_38 : decode cX10_measures 38 = .ok (.iload_n 1, 1) := by decide +kernel
theorem dX10_measures_39 : decode cX10_measures 39 = .ok (.iconst 0, 1) := by decide +kernel
theorem dX10_measures_40 : decode cX10_measures 40 = .ok (.iastore, 1) := by decide +kernel
theorem dX10_measures_41 : decode cX10_measures 41 = .ok (.aload_n 0, 1) := by decide +kernel
theorem dX10_measures_42 : decode cX10_measures 42 = .ok (.getfield 38, 3) := by decide +kernel
theorem dX10_measures_45 : decode cX10_measures 45 = .ok (.iload_n 1, 1) := by decide +kernel
theorem dX10_measures_46 : decode cX10_measures 46 = .ok (.iconst 1, 1) := by decide +kernel
theorem dX10_measures_47 : decode cX10_measures 47 = .ok (.iastore, 1) := by decide +kernel
theorem dX10_measures_48 : decode cX10_measures 48 = .ok (.aload_n 0, 1) := by decide +kernel
theorem dX10_measures_49 : decode cX10_measures 49 = .ok (.getfield 41, 3) := by decide +kernel
theorem dX10_measures_52 : decode cX10_measures 52 = .ok (.iload_n 1, 1) := by decide +kernel
theorem dX10_measures_53 : decode cX10_measures 53 = .ok (.iconst 1, 1) := by decide +kernel
theorem dX10_measures_54 : decode cX10_measures 54 = .ok (.iastore, 1) := by decide +kernel
theorem dX10_measures_55 : decode cX10_measures 55 = .ok (.iinc 1 1, 3) := by decide +kernel
theorem dX10_measures_58 : decode cX10_measures 58 = .ok (.goto (-46), 3) := by decide +kernel
theorem dX10_measures_61 : decode cX10_measures 61 = .ok (.aload_n 0, 1) := by decide +kernel
theorem dX10_measures_62 : decode cX10_measures 62 = .ok (.getfield 9, 3) := by decide +kernel
theorem dX10_measures_65 : decode cX10_measures 65 = .ok (.iconst 2, 1) := by decide +kernel
theorem dX10_measures_66 : decode cX10_measures 66 = .ok (.iaload, 1) := by decide +kernel
theorem dX10_measures_67 : decode cX10_measures 67 = .ok (.iconst 1, 1) := by decide +kernel
theorem dX10_measures_68 : decode cX10_measures 68 = .ok (.isub, 1) := by decide +kernel
theorem dX10_measures_69 : decode cX10_measures 69 = .ok (.istore_n 1, 1) := by decide +kernel
theorem dX10_measures_70 : decode cX10_measures 70 = .ok (.iload_n 1, 1) := by decide +kernel
theorem dX10_measures_71 : decode cX10_measures 71 = .ok (.ifCond .lt 129, 3) := by decide +kernel
theorem dX10_measures_74 : decode cX10_measures 74 = .ok (.aload_n 0, 1) := by decide +kernel
theorem dX10_measures_75 : decode cX10_measures 75 = .ok (.getfield 32, 3) := by decide +kernel
theorem dX10_measures_78 : decode cX10_measures 78 = .ok (.iload_n 1, 1) := by decide +kernel
theorem dX10_measures_79 : decode cX10_measures 79 = .ok (.iaload, 1) := by decide +kernel
theorem dX10_measures_80 : decode cX10_measures 80 = .ok (.aload_n 0, 1) := by decide +kernel
theorem dX10_measures_81 : decode cX10_measures 81 = .ok (.getfield 35, 3) := by decide +kernel
theorem dX10_measures_84 : decode cX10_measures 84 = .ok (.iload_n 1, 1) := by decide +kernel
theorem dX10_measures_85 : decode cX10_measures 85 = .ok (.iaload, 1) := by decide +kernel
theorem dX10_measures_86 : decode cX10_measures 86 = .ok (.invokestatic 138, 3) := by decide +kernel
theorem dX10_measures_89 : decode cX10_measures 89 = .ok (.istore_n 2, 1) := by decide +kernel
theorem dX10_measures_90 : decode cX10_measures 90 = .ok (.aload_n 0, 1) := by decide +kernel
theorem dX10_measures_91 : decode cX10_measures 91 = .ok (.getfield 38, 3) := by decide +kernel
theorem dX10_measures_94 : decode cX10_measures 94 = .ok (.iload_n 1, 1) := by decide +kernel
theorem dX10_measures_95 : decode cX10_measures 95 = .ok (.iaload, 1) := by decide +kernel
theorem dX10_measures_96 : decode cX10_measures 96 = .ok (.aload_n 0, 1) := by decide +kernel
theorem dX10_measures_97 : decode cX10_measures 97 = .ok (.getfield 41, 3) := by decide +kernel
theorem dX10_measures_100 : decode cX10_measures 100 = .ok (.iload_n 1, 1) := by decide +kernel
theorem dX10_measures_101 : decode cX10_measures 101 = .ok (.iaload, 1) := by decide +kernel
theorem dX10_measures_102 : decode cX10_measures 102 = .ok (.iadd, 1) := by decide +kernel
theorem dX10_measures_103 : decode cX10_measures 103 = .ok (.istore_n 3, 1) := by decide +kernel
theorem dX10_measures_104 : decode cX10_measures 104 = .ok (.aload_n 0, 1) := by decide +kernel
theorem dX10_measures_105 : decode cX10_measures 105 = .ok (.iload_n 1, 1) := by decide +kernel
theorem dX10_measures_106 : decode cX10_measures 106 = .ok (.invokevirtual 75, 3) := by decide +kernel
theorem dX10_measures_109 : decode cX10_measures 109 = .ok (.istore 4, 2) := by decide +kernel
theorem dX10_measures_111 : decode cX10_measures 111 = .ok (.iload 4, 2) := by decide +kernel
theorem dX10_measures_113 : decode cX10_measures 113 = .ok (.iconst (-1), 1) := by decide +kernel
theorem dX10_measures_114 : decode cX10_measures 114 = .ok (.if_icmp .ne 26, 3) := by decide +kernel
theorem dX10_measures_117 : decode cX10_measures 117 = .ok (.aload_n 0, 1) := by decide +kernel
theorem dX10_measures_118 : decode cX10_measures 118 = .ok (.dup, 1) := by decide +kernel
theorem dX10_measures_119 : decode cX10_measures 119 = .ok (.getfield 190, 3) := by decide +kernel
theorem dX10_measures_122 : decode cX10_measures 122 = .ok (.iload_n 2, 1) := by decide +kernel
theorem dX10_measures_123 : decode cX10_measures 123 = .ok (.iadd, 1) := by decide +kernel
theorem dX10_measures_124 : decode cX10_measures 124 = .ok (.putfield 190, 3) := by decide +kernel
theorem dX10_measures_127 : decode cX10_measures 127 = .ok (.aload_n 0, 1) := by decide +kernel
theorem dX10_measures_128 : decode cX10_measures 128 = .ok (.dup, 1) := by decide +kernel
theorem dX10_measures_129 : decode cX10_measures 129 = .ok (.getfield 193, 3) := by decide +kernel
theorem dX10_measures_132 : decode cX10_measures 132 = .ok (.iload_n 3, 1) := by decide +kernel
theorem dX10_measures_133 : decode cX10_measures 133 = .ok (.imul, 1) := by decide +kernel
theorem dX10_measures_134 : decode cX10_measures 134 = .ok (.putfield 193, 3) := by decide +kernel
theorem dX10_measures_137 : decode cX10_measures 137 = .ok (.goto 57, 3) := by decide +kernel
theorem dX10_measures_140 : decode cX10_measures 140 = .ok (.aload_n 0, 1) := by decide +kernel
theorem dX10_measures_141 : decode cX10_measures 141 = .ok (.getfield 32, 3) := by decide +kernel
theorem dX10_measures_144 : decode cX10_measures 144 = .ok (.iload 4, 2) := by decide +kernel
theorem dX10_measures_146 : decode cX10_measures 146 = .ok (.dup2, 1) := by decide +kernel
theorem dX10_measures_147 : decode cX10_measures 147 = .ok (.iaload, 1) := by decide +kernel
theorem dX10_measures_148 : decode cX10_measures 148 = .ok (.aload_n 0, 1) := by decide +kernel
theorem dX10_measures_149 : decode cX10_measures 149 = .ok (.getfield 35, 3) := by decide +kernel
theorem dX10_measures_152 : decode cX10_measures 152 = .ok (.iload_n 1, 1) := by decide +kernel
theorem dX10_measures_153 : decode cX10_measures 153 = .ok (.iaload, 1) := by decide +kernel
theorem dX10_measures_154 : decode cX10_measures 154 = .ok (.iadd, 1) := by decide +kernel
theorem dX10_measures_155 : decode cX10_measures 155 = .ok (.iastore, 1) := by decide +kernel
theorem dX10_measures_156 : decode cX10_measures 156 = .ok (.aload_n 0, 1) := by decide +kernel
theorem dX10_measures_157 : decode cX10_measures 157 = .ok (.getfield 35, 3) := by decide +kernel
theorem dX10_measures_160 : decode cX10_measures 160 = .ok (.iload 4, 2) := by decide +kernel
theorem dX10_measures_162 : decode cX10_measures 162 = .ok (.dup2, 1) := by decide +kernel
theorem dX10_measures_163 : decode cX10_measures 163 = .ok (.iaload, 1) := by decide +kernel
theorem dX10_measures_164 : decode cX10_measures 164 = .ok (.iload_n 2, 1) := by decide +kernel
theorem dX10_measures_165 : decode cX10_measures 165 = .ok (.iadd, 1) := by decide +kernel
theorem dX10_measures_166 : decode cX10_measures 166 = .ok (.iastore, 1) := by decide +kernel
theorem dX10_measures_167 : decode cX10_measures 167 = .ok (.aload_n 0, 1) := by decide +kernel
theorem dX10_measures_168 : decode cX10_measures 168 = .ok (.getfield 38, 3) := by decide +kernel
theorem dX10_measures_171 : decode cX10_measures 171 = .ok (.iload 4, 2) := by decide +kernel
theorem dX10_measures_173 : decode cX10_measures 173 = .ok (.dup2, 1) := by decide +kernel
theorem dX10_measures_174 : decode cX10_measures 174 = .ok (.iaload, 1) := by decide +kernel
theorem dX10_measures_175 : decode cX10_measures 175 = .ok (.aload_n 0, 1) := by decide +kernel
theorem dX10_measures_176 : decode cX10_measures 176 = .ok (.getfield 41, 3) := by decide +kernel
theorem dX10_measures_179 : decode cX10_measures 179 = .ok (.iload_n 1, 1) := by decide +kernel
theorem dX10_measures_180 : decode cX10_measures 180 = .ok (.iaload, 1) := by decide +kernel
theorem dX10_measures_181 : decode cX10_measures 181 = .ok (.imul, 1) := by decide +kernel
theorem dX10_measures_182 : decode cX10_measures 182 = .ok (.iastore, 1) := by decide +kernel
theorem dX10_measures_183 : decode cX10_measures 183 = .ok (.aload_n 0, 1) := by decide +kernel
theorem dX10_measures_184 : decode cX10_measures 184 = .ok (.getfield 41, 3) := by decide +kernel
theorem dX10_measures_187 : decode cX10_measures 187 = .ok (.iload 4, 2) := by decide +kernel
theorem dX10_measures_189 : decode cX10_measures 189 = .ok (.dup2, 1) := by decide +kernel
theorem dX10_measures_190 : decode cX10_measures 190 = .ok (.iaload, 1) := by decide +kernel
theorem dX10_measures_191 : decode cX10_measures 191 = .ok (.iload_n 3, 1) := by decide +kernel
theorem dX10_measures_192 : decode cX10_measures 192 = .ok (.imul, 1) := by decide +kernel
theorem dX10_measures_193 : decode cX10_measures 193 = .ok (.iastore, 1) := by decide +kernel
theorem dX10_measures_194 : decode cX10_measures 194 = .ok (.iinc 1 (-1), 3) := by decide +kernel
theorem dX10_measures_197 : decode cX10_measures 197 = .ok (.goto (-127), 3) := by decide +kernel
theorem dX10_measures_200 : decode cX10_measures 200 = .ok (.return_, 1) := by decide +kernel
set_option maxHeartbeats 4000000 in
set_option maxRecDepth 20000 in
theorem m_measures (l : Launch) (D : va_G) (aT : Nat → ClassId) (ad : Nat → Nat) (S : MSt) (hF : FoW (S 0)) : MdV l yX10_measures cX10_measures 5 3 65 D aT ad [.ref (ad 0)] S (fun S1 => S1 = meaT S (meaR S)) := by
  refine MdV.of (by decide +kernel) rfl (Nat.le_of_ble_eq_true rfl) ?_
  intro p e s m below meth c A ls C hml hl hA hr hlocks hW
  have hl : lv_has ls 5 [(0, .ref (ad 0))] := hl
  have hx := C.1
  have hb := C.2.1
  refine lv_aload_n hx hb dX10_measures_0 rfl (lv_at hl 0 rfl) ?_
  refine lv_iconst (v := nI 0) hx hb dX10_measures_1 (by decide) ?_
  refine md_put_worthAll C hW dX10_measures_2 (fun H locs hW => ?_)
  refine lv_aload_n hx hb dX10_measures_5 rfl (lv_at hl 0 rfl) ?_
  refine lv_iconst (v := nI 1) hx hb dX10_measures_6 (by decide) ?_
  refine md_put_setsAll C hW dX10_measures_7 (fun H locs hW => ?_)
  refine lv_iconst (v := nI 0) hx hb dX10_measures_10 (by decide) ?_
  refine lv_istore_n (lv' := [(1, .int (nI 0)), (0, .ref (ad 0))]) hx hb dX10_measures_11 rfl hl (by decide) rfl (fun ls hl => ?_)
  refine W_loopH (σ := Nat) (fun z_ => nM (S 0) - z_) (fun z_ H locs g => ∃ ls, g = F0 m 12 ls [] ∧ lv_has ls 5 [(0, .ref (ad 0)), (1, .int (nI z_))] ∧ MdB D aT ad (stT S (cpyF (S 5) (fun j => S 0 (29 + 4 * j + 3)) z_) (cpyF (S 6) (fun _ => nI 0) z_) (cpyF (S 7) (fun _ => nI 1) z_) (cpyF (S 8) (fun _ => nI 1) z_) (nI 0) (nI 1)) A s.heap H locs ∧ (z_ ≤ nM (S 0))) ?_ 0 _ ⟨_, rfl, lv_sub hl [1, 0] rfl, (by rw [cpyF_0, cpyF_0, cpyF_0, cpyF_0, ← stT_0]; exact hW), Nat.zero_le _⟩
  clear hW hl
  rintro k H locs g ⟨ls, rfl, hl, hW, hk⟩ ih_12
  have h12 := hF.n12
  refine lv_iload_n hx hb dX10_measures_12 rfl (lv_at hl 1 rfl) ?_
  refine lv_aload_n hx hb dX10_measures_13 rfl (lv_at hl 0 rfl) ?_
  refine md_geta_m C hW dX10_measures_14 ?_
  refine lv_iconst (v := nI 2) hx hb dX10_measures_17 (by decide) ?_
  refine md_ald_m C hW (i := 2) (by omega) dX10_measures_18 ?_
  refine r_eq (y := (nI (nM (S 0)))) (hF.1) ?_
  refine r_geN hx hb (a := k) (b := (nM (S 0))) (by omega) (by omega) (tgt := 61) dX10_measures_19 (by decide) (fun c_19 => ?_) (fun c_19 => ?_)
  · refine lv_aload_n hx hb dX10_measures_61 rfl (lv_at hl 0 rfl) ?_
    refine md_geta_m C hW dX10_measures_62 ?_
    refine lv_iconst (v := nI 2) hx hb dX10_measures_65 (by decide) ?_
    refine md_ald_m C hW (i := 2) (by omega) dX10_measures_66 ?_
    refine r_eq (y := (nI (nM (S 0)))) (hF.1) ?_
    refine lv_iconst (v := nI 1) hx hb dX10_measures_67 (by decide) ?_
    refine lv_isub hx hb dX10_measures_68 ?_
    refine lv_istore_n (lv' := [(1, .int (nI (nM (S 0)) - nI 1)), (0, .ref (ad 0))]) hx hb dX10_measures_69 rfl hl (by decide) rfl (fun ls hl => ?_)
    refine W_loopH (σ := (Nat → Int32) × (Nat → Int32) × (Nat → Int32) × (Nat → Int32) × Int32 × Int32 × Nat) (fun z_ => z_.2.2.2.2.2.2) (fun z_ H locs g => ∃ ls, g = F0 m 70 ls [] ∧ lv_has ls 5 [(0, .ref (ad 0)), (1, .int (nI z_.2.2.2.2.2.2 - nI 1))] ∧ MdB D aT ad (stT S z_.1 z_.2.1 z_.2.2.1 z_.2.2.2.1 z_.2.2.2.2.1 z_.2.2.2.2.2.1) A s.heap H locs ∧ (meaD (S 0) z_.2.2.2.2.2.2 (z_.1, z_.2.1, z_.2.2.1, z_.2.2.2.1, z_.2.2.2.2.1, z_.2.2.2.2.2.1) = meaR S ∧ z_.2.2.2.2.2.2 ≤ nM (S 0))) ?_ ((cpyF (S 5) (fun j => S 0 (29 + 4 * j + 3)) (nM (S 0))), (cpyF (S 6) (fun _ => nI 0) (nM (S 0))), (cpyF (S 7) (fun _ => nI 1) (nM (S 0))), (cpyF (S 8) (fun _ => nI 1) (nM (S 0))), (nI 0), (nI 1), (nM (S 0))) _ ⟨_, rfl, lv_sub hl [1, 0] rfl, (by rw [show k = nM (S 0) by omega] at hW; exact hW), ⟨rfl, Nat.le_refl _⟩⟩
    clear hW hl
    rintro ⟨w, wo, sw, so, wa, sa, i⟩ H locs g ⟨ls, rfl, hl, hW, he, hin⟩ ih_70
    dsimp only at hl hW he hin ⊢
    have h12 := hF.n12
    refine lv_iload_n hx hb dX10_measures_70 rfl (lv_at hl 1 rfl) ?_
    refine r_ifltD hx hb (a := i) (b := 1) (by omega) (by omega) (tgt := 200) dX10_measures_71 (by decide) (fun c_71 => ?_) (fun c_71 => ?_)
    · exact md_vret C hr hlocks hW (by rw [← he, show i = 0 by omega]; rfl) dX10_measures_200
    · obtain ⟨i, rfl⟩ : ∃ i2, i = i2 + 1 := ⟨i - 1, by omega⟩
      rw [pk_sub (by omega)] at hl
      have hl : lv_has ls 5 [(0, .ref (ad 0)), (1, .int (nI i))] := hl
      refine lv_aload_n hx hb dX10_measures_74 rfl (lv_at hl 0 rfl) ?_
      refine md_geta_with C hW dX10_measures_75 ?_
      refine lv_iload_n hx hb dX10_measures_78 rfl (lv_at hl 1 rfl) ?_
      refine md_ald_with C hW (i := i) (by omega) dX10_measures_79 ?_
      refine r_eq (y := (w i)) (rfl) ?_
      refine lv_aload_n hx hb dX10_measures_80 rfl (lv_at hl 0 rfl) ?_
      refine md_geta_without C hW dX10_measures_81 ?_
      refine lv_iload_n hx hb dX10_measures_84 rfl (lv_at hl 1 rfl) ?_
      refine md_ald_without C hW (i := i) (by omega) dX10_measures_85 ?_
      refine r_eq (y := (wo i)) (rfl) ?_
      refine md_max C hml hl.1 gk_max ⟨Nat.le_of_ble_eq_true rfl, Nat.le_of_ble_eq_true rfl, Nat.le_of_ble_eq_true rfl⟩ ⟨Nat.le_refl _, Nat.le_refl _⟩ dX10_measures_86 ?_
      refine r_eq (y := (mxF (w i) (wo i))) (rfl) ?_
      refine lv_istore_n (lv' := [(2, .int (mxF (w i) (wo i))), (0, .ref (ad 0)), (1, .int (nI i))]) hx hb dX10_measures_89 rfl hl (by decide) rfl (fun ls hl => ?_)
      refine lv_aload_n hx hb dX10_measures_90 rfl (lv_at hl 1 rfl) ?_
      refine md_geta_setsWith C hW dX10_measures_91 ?_
      refine lv_iload_n hx hb dX10_measures_94 rfl (lv_at hl 2 rfl) ?_
      refine md_ald_setsWith C hW (i := i) (by omega) dX10_measures_95 ?_
      refine r_eq (y := (sw i)) (rfl) ?_
      refine lv_aload_n hx hb dX10_measures_96 rfl (lv_at hl 1 rfl) ?_
      refine md_geta_setsWithout C hW dX10_measures_97 ?_
      refine lv_iload_n hx hb dX10_measures_100 rfl (lv_at hl 2 rfl) ?_
      refine md_ald_setsWithout C hW (i := i) (by omega) dX10_measures_101 ?_
      refine r_eq (y := (so i)) (rfl) ?_
      refine lv_iadd hx hb dX10_measures_102 ?_
      refine lv_istore_n (lv' := [(3, .int ((sw i) + (so i))), (2, .int (mxF (w i) (wo i))), (0, .ref (ad 0)), (1, .int (nI i))]) hx hb dX10_measures_103 rfl hl (by decide) rfl (fun ls hl => ?_)
      refine lv_aload_n hx hb dX10_measures_104 rfl (lv_at hl 2 rfl) ?_
      refine lv_iload_n hx hb dX10_measures_105 rfl (lv_at hl 3 rfl) ?_
      refine md_callg C hml hl.1 (As := [.int (nI i)]) (rest := []) (m_above l D aT ad (stT S w wo sw so wa sa) (nM (S 0)) (idM (S 0)) (prM (S 0)) (tnM (S 0)) hF i (show i < nM (S 0) by omega)) gT_above hd_above rfl ⟨Nat.le_of_ble_eq_true rfl, Nat.le_of_ble_eq_true rfl⟩ ⟨Nat.le_refl _, Nat.le_refl _⟩ hW hA rfl (Nat.le_of_ble_eq_true rfl) dX10_measures_106 (fun r_106 H locs hq hW => ?_)
      subst hq
      refine lv_istore (lv' := [(4, .int (oi ((prM (S 0)) i))), (3, .int ((sw i) + (so i))), (2, .int (mxF (w i) (wo i))), (0, .ref (ad 0)), (1, .int (nI i))]) hx hb dX10_measures_109 hl (by decide) rfl (fun ls hl => ?_)
      refine lv_iload hx hb dX10_measures_111 (lv_at hl 0 rfl) ?_
      refine lv_iconst (v := (-1)) hx hb dX10_measures_113 (by decide) ?_
      refine r_oi_ne hx hb (o := ((prM (S 0)) i)) (hF.plim (show i < nM (S 0) by omega)) (tgt := 140) dX10_measures_114 (by decide) (fun j_114 c_114 => ?_) (fun c_114 => ?_)
      · have hl : lv_has ls 5 [(4, .int (nI j_114)), (3, .int ((sw i) + (so i))), (2, .int (mxF (w i) (wo i))), (0, .ref (ad 0)), (1, .int (nI i))] := by rw [c_114] at hl; exact hl
        have hj := hF.ok _ _ (show i < nM (S 0) by omega) c_114
        refine lv_aload_n hx hb dX10_measures_140 rfl (lv_at hl 3 rfl) ?_
        refine md_geta_with C hW dX10_measures_141 ?_
        refine lv_iload hx hb dX10_measures_144 (lv_at hl 0 rfl) ?_
        refine lv_dup2_11 hx hb dX10_measures_146 rfl rfl ?_
        refine md_ald_with C hW (i := j_114) (by omega) dX10_measures_147 ?_
        refine r_eq (y := (w j_114)) (rfl) ?_
        refine lv_aload_n hx hb dX10_measures_148 rfl (lv_at hl 3 rfl) ?_
        refine md_geta_without C hW dX10_measures_149 ?_
        refine lv_iload_n hx hb dX10_measures_152 rfl (lv_at hl 4 rfl) ?_
        refine md_ald_without C hW (i := i) (by omega) dX10_measures_153 ?_
        refine r_eq (y := (wo i)) (rfl) ?_
        refine lv_iadd hx hb dX10_measures_154 ?_
        refine md_ast_with C hW (i := j_114) (by omega) dX10_measures_155 (fun H locs hW => ?_)
        have hW : MdB D aT ad (stT S (upd w j_114 (w j_114 + wo i)) wo sw so wa sa) A s.heap H locs := by rw [stT_5] at hW; exact hW
        refine lv_aload_n hx hb dX10_measures_156 rfl (lv_at hl 3 rfl) ?_
        refine md_geta_without C hW dX10_measures_157 ?_
        refine lv_iload hx hb dX10_measures_160 (lv_at hl 0 rfl) ?_
        refine lv_dup2_11 hx hb dX10_measures_162 rfl rfl ?_
        refine md_ald_without C hW (i := j_114) (by omega) dX10_measures_163 ?_
        refine r_eq (y := (wo j_114)) (rfl) ?_
        refine lv_iload_n hx hb dX10_measures_164 rfl (lv_at hl 2 rfl) ?_
        refine lv_iadd hx hb dX10_measures_165 ?_
        refine md_ast_without C hW (i := j_114) (by omega) dX10_measures_166 (fun H locs hW => ?_)
        have hW : MdB D aT ad (stT S (upd w j_114 (w j_114 + wo i)) (upd wo j_114 (wo j_114 + (mxF (w i) (wo i)))) sw so wa sa) A s.heap H locs := by rw [stT_6] at hW; exact hW
        refine lv_aload_n hx hb dX10_measures_167 rfl (lv_at hl 3 rfl) ?_
        refine md_geta_setsWith C hW dX10_measures_168 ?_
        refine lv_iload hx hb dX10_measures_171 (lv_at hl 0 rfl) ?_
        refine lv_dup2_11 hx hb dX10_measures_173 rfl rfl ?_
        refine md_ald_setsWith C hW (i := j_114) (by omega) dX10_measures_174 ?_
        refine r_eq (y := (sw j_114)) (rfl) ?_
        refine lv_aload_n hx hb dX10_measures_175 rfl (lv_at hl 3 rfl) ?_
        refine md_geta_setsWithout C hW dX10_measures_176 ?_
        refine lv_iload_n hx hb dX10_measures_179 rfl (lv_at hl 4 rfl) ?_
        refine md_ald_setsWithout C hW (i := i) (by omega) dX10_measures_180 ?_
        refine r_eq (y := (so i)) (rfl) ?_
        refine lv_imul hx hb dX10_measures_181 ?_
        refine md_ast_setsWith C hW (i := j_114) (by omega) dX10_measures_182 (fun H locs hW => ?_)
        have hW : MdB D aT ad (stT S (upd w j_114 (w j_114 + wo i)) (upd wo j_114 (wo j_114 + (mxF (w i) (wo i)))) (upd sw j_114 (sw j_114 * so i)) so wa sa) A s.heap H locs := by rw [stT_7] at hW; exact hW
        refine lv_aload_n hx hb dX10_measures_183 rfl (lv_at hl 3 rfl) ?_
        refine md_geta_setsWithout C hW dX10_measures_184 ?_
        refine lv_iload hx hb dX10_measures_187 (lv_at hl 0 rfl) ?_
        refine lv_dup2_11 hx hb dX10_measures_189 rfl rfl ?_
        refine md_ald_setsWithout C hW (i := j_114) (by omega) dX10_measures_190 ?_
        refine r_eq (y := (so j_114)) (rfl) ?_
        refine lv_iload_n hx hb dX10_measures_191 rfl (lv_at hl 1 rfl) ?_
        refine lv_imul hx hb dX10_measures_192 ?_
        refine md_ast_setsWithout C hW (i := j_114) (by omega) dX10_measures_193 (fun H locs hW => ?_)
        have hW : MdB D aT ad (stT S (upd w j_114 (w j_114 + wo i)) (upd wo j_114 (wo j_114 + (mxF (w i) (wo i)))) (upd sw j_114 (sw j_114 * so i)) (upd so j_114 (so j_114 * (sw i + so i))) wa sa) A s.heap H locs := by rw [stT_8] at hW; exact hW
        refine lv_iinc (v := (nI i - nI 1)) (lv' := [(1, .int (nI i - nI 1)), (4, .int (nI j_114)), (3, .int ((sw i) + (so i))), (2, .int (mxF (w i) (wo i))), (0, .ref (ad 0))]) hx hb dX10_measures_194 hl (k := 4) rfl (dm1 _) (by decide) rfl (fun ls hl => ?_)
        refine lv_goto (tgt := 70) hx hb dX10_measures_197 (by decide) ?_
        exact ih_70 ((upd w j_114 (w j_114 + wo i)), (upd wo j_114 (wo j_114 + (mxF (w i) (wo i)))), (upd sw j_114 (sw j_114 * so i)), (upd so j_114 (so j_114 * (sw i + so i))), wa, sa, i) _ _ _ (by dsimp only; omega) ⟨_, rfl, lv_sub hl [4, 0] rfl, hW, ⟨by rw [← he, meaD, meaS, c_114], by (try dsimp only); omega⟩⟩
      · have hl : lv_has ls 5 [(4, .int (-1)), (3, .int ((sw i) + (so i))), (2, .int (mxF (w i) (wo i))), (0, .ref (ad 0)), (1, .int (nI i))] := by rw [c_114] at hl; exact hl
        refine lv_aload_n hx hb dX10_measures_117 rfl (lv_at hl 3 rfl) ?_
        refine lv_dup hx hb dX10_measures_118 rfl ?_
        refine md_get_worthAll C hW dX10_measures_119 ?_
        refine r_eq (y := wa) (by simp [stT, upd]) ?_
        refine lv_iload_n hx hb dX10_measures_122 rfl (lv_at hl 2 rfl) ?_
        refine lv_iadd hx hb dX10_measures_123 ?_
        refine md_put_worthAll C hW dX10_measures_124 (fun H locs hW => ?_)
        have hW : MdB D aT ad (stT S w wo sw so (wa + (mxF (w i) (wo i))) sa) A s.heap H locs := by rw [stT_wa] at hW; exact hW
        refine lv_aload_n hx hb dX10_measures_127 rfl (lv_at hl 3 rfl) ?_
        refine lv_dup hx hb dX10_measures_128 rfl ?_
        refine md_get_setsAll C hW dX10_measures_129 ?_
        refine r_eq (y := sa) (by simp [stT, upd]) ?_
        refine lv_iload_n hx hb dX10_measures_132 rfl (lv_at hl 1 rfl) ?_
        refine lv_imul hx hb dX10_measures_133 ?_
        refine md_put_setsAll C hW dX10_measures_134 (fun H locs hW => ?_)
        have hW : MdB D aT ad (stT S w wo sw so (wa + (mxF (w i) (wo i))) (sa * (sw i + so i))) A s.heap H locs := by rw [stT_sa] at hW; exact hW
        refine lv_goto (tgt := 194) hx hb dX10_measures_137 (by decide) ?_
        refine lv_iinc (v := (nI i - nI 1)) (lv' := [(1, .int (nI i - nI 1)), (4, .int (-1)), (3, .int ((sw i) + (so i))), (2, .int (mxF (w i) (wo i))), (0, .ref (ad 0))]) hx hb dX10_measures_194 hl (k := 4) rfl (dm1 _) (by decide) rfl (fun ls hl => ?_)
        refine lv_goto (tgt := 70) hx hb dX10_measures_197 (by decide) ?_
        exact ih_70 (w, wo, sw, so, (wa + (mxF (w i) (wo i))), (sa * (sw i + so i)), i) _ _ _ (by dsimp only; omega) ⟨_, rfl, lv_sub hl [4, 0] rfl, hW, ⟨by rw [← he, meaD, meaS, c_114], by (try dsimp only); omega⟩⟩
  · refine lv_aload_n hx hb dX10_measures_22 rfl (lv_at hl 0 rfl) ?_
    refine md_geta_with C hW dX10_measures_23 ?_
    refine lv_iload_n hx hb dX10_measures_26 rfl (lv_at hl 1 rfl) ?_
    refine lv_aload_n hx hb dX10_measures_27 rfl (lv_at hl 0 rfl) ?_
    refine lv_iload_n hx hb dX10_measures_28 rfl (lv_at hl 1 rfl) ?_
    refine lv_iconst (v := nI 3) hx hb dX10_measures_29 (by decide) ?_
    refine md_callg C hml hl.1 (As := [.int (nI k), .int (nI 3)]) (rest := [.int (nI k), .ref (ad 6)]) (m_of l D aT ad (stT S (cpyF (S 5) (fun j => S 0 (29 + 4 * j + 3)) k) (cpyF (S 6) (fun _ => nI 0) k) (cpyF (S 7) (fun _ => nI 1) k) (cpyF (S 8) (fun _ => nI 1) k) (nI 0) (nI 1)) k 3 (by omega)) gT_of hd_of rfl ⟨Nat.le_of_ble_eq_true rfl, Nat.le_of_ble_eq_true rfl⟩ ⟨Nat.le_refl _, Nat.le_refl _⟩ hW hA rfl (Nat.le_of_ble_eq_true rfl) dX10_measures_30 (fun r_30 H locs hq hW => ?_)
    subst hq
    refine r_eq (y := (S 0 (29 + 4 * k + 3))) (rfl) ?_
    refine md_ast_with C hW (i := k) (by omega) dX10_measures_33 (fun H locs hW => ?_)
    have hW : MdB D aT ad (stT S (upd (cpyF (S 5) (fun j => S 0 (29 + 4 * j + 3)) k) k (S 0 (29 + 4 * k + 3))) (cpyF (S 6) (fun _ => nI 0) k) (cpyF (S 7) (fun _ => nI 1) k) (cpyF (S 8) (fun _ => nI 1) k) (nI 0) (nI 1)) A s.heap H locs := by rw [stT_5] at hW; exact hW
    refine lv_aload_n hx hb dX10_measures_34 rfl (lv_at hl 0 rfl) ?_
    refine md_geta_without C hW dX10_measures_35 ?_
    refine lv_iload_n hx hb dX10_measures_38 rfl (lv_at hl 1 rfl) ?_
    refine lv_iconst (v := nI 0) hx hb dX10_measures_39 (by decide) ?_
    refine md_ast_without C hW (i := k) (by omega) dX10_measures_40 (fun H locs hW => ?_)
    have hW : MdB D aT ad (stT S (upd (cpyF (S 5) (fun j => S 0 (29 + 4 * j + 3)) k) k (S 0 (29 + 4 * k + 3))) (upd (cpyF (S 6) (fun _ => nI 0) k) k (nI 0)) (cpyF (S 7) (fun _ => nI 1) k) (cpyF (S 8) (fun _ => nI 1) k) (nI 0) (nI 1)) A s.heap H locs := by rw [stT_6] at hW; exact hW
    refine lv_aload_n hx hb dX10_measures_41 rfl (lv_at hl 0 rfl) ?_
    refine md_geta_setsWith C hW dX10_measures_42 ?_
    refine lv_iload_n hx hb dX10_measures_45 rfl (lv_at hl 1 rfl) ?_
    refine lv_iconst (v := nI 1) hx hb dX10_measures_46 (by decide) ?_
    refine md_ast_setsWith C hW (i := k) (by omega) dX10_measures_47 (fun H locs hW => ?_)
    have hW : MdB D aT ad (stT S (upd (cpyF (S 5) (fun j => S 0 (29 + 4 * j + 3)) k) k (S 0 (29 + 4 * k + 3))) (upd (cpyF (S 6) (fun _ => nI 0) k) k (nI 0)) (upd (cpyF (S 7) (fun _ => nI 1) k) k (nI 1)) (cpyF (S 8) (fun _ => nI 1) k) (nI 0) (nI 1)) A s.heap H locs := by rw [stT_7] at hW; exact hW
    refine lv_aload_n hx hb dX10_measures_48 rfl (lv_at hl 0 rfl) ?_
    refine md_geta_setsWithout C hW dX10_measures_49 ?_
    refine lv_iload_n hx hb dX10_measures_52 rfl (lv_at hl 1 rfl) ?_
    refine lv_iconst (v := nI 1) hx hb dX10_measures_53 (by decide) ?_
    refine md_ast_setsWithout C hW (i := k) (by omega) dX10_measures_54 (fun H locs hW => ?_)
    have hW : MdB D aT ad (stT S (upd (cpyF (S 5) (fun j => S 0 (29 + 4 * j + 3)) k) k (S 0 (29 + 4 * k + 3))) (upd (cpyF (S 6) (fun _ => nI 0) k) k (nI 0)) (upd (cpyF (S 7) (fun _ => nI 1) k) k (nI 1)) (upd (cpyF (S 8) (fun _ => nI 1) k) k (nI 1)) (nI 0) (nI 1)) A s.heap H locs := by rw [stT_8] at hW; exact hW
    refine lv_iinc (v := (nI (k + 1))) (lv' := [(1, .int (nI (k + 1))), (0, .ref (ad 0))]) hx hb dX10_measures_55 hl (k := 1) rfl (nI_1 _) (by decide) rfl (fun ls hl => ?_)
    refine lv_goto (tgt := 12) hx hb dX10_measures_58 (by decide) ?_
    exact ih_12 (k + 1) _ _ _ (by omega) ⟨_, rfl, lv_sub hl [1, 0] rfl, (by rw [← cpyF_1 (S 5) _ k, ← cpyF_1 (S 6) _ k, ← cpyF_1 (S 7) _ k, ← cpyF_1 (S 8) _ k]; exact hW), (by omega)⟩
theorem gT_bestWorth : GoodIn gw (wsV RX10 199 RX10 yX10_bestWorth (Cond.code yX10_bestWorth cX10_bestWorth 1 (some .int) :: gw)) := gdV gw_1966 gw_1955 gw_1956 gw_81 gw_1957
theorem hd_bestWorth : yX10_bestWorth.cls = RX10 ∧ yX10_bestWorth.cls ≠ "java/lang/invoke/MethodHandle" ∧ yX10_bestWorth.cls ≠ "java/lang/invoke/VarHandle" ∧ (parseMethodDescriptor yX10_bestWorth.desc).map (fun d => d.parameters.length) = some 0 := ⟨rfl, by decide +kernel, by decide +kernel, by decide +kernel⟩
theorem dX10_bestWorth_0 : decode cX10_bestWorth 0 = .ok (.aload_n 0, 1) := by decide +kernel
theorem dX10_bestWorth_1 : decode cX10_bestWorth 1 = .ok (.iconst 0, 1) := by decide +kernel
theorem dX10_bestWorth_2 : decode cX10_bestWorth 2 = .ok (.putfield 57, 3) := by decide +kernel
theorem dX10_bestWorth_5 : decode cX10_bestWorth 5 = .ok (.aload_n 0, 1) := by decide +kernel
theorem dX10_bestWorth_6 : decode cX10_bestWorth 6 = .ok (.invokevirtual 196, 3) := by decide +kernel
theorem dX10_bestWorth_9 : decode cX10_bestWorth 9 = .ok (.aload_n 0, 1) := by decide +kernel
theorem dX10_bestWorth_10 : decode cX10_bestWorth 10 = .ok (.getfield 190, 3) := by decide +kernel
theorem dX10_bestWorth_13 : decode cX10_bestWorth 13 = .ok (.ireturn, 1) := by decide +kernel
set_option maxHeartbeats 1000000 in
set_option maxRecDepth 20000 in
theorem m_bestWorth (l : Launch) (D : va_G) (aT : Nat → ClassId) (ad : Nat → Nat) (S : MSt) (hF : FoW (S 0)) : MdI l yX10_bestWorth cX10_bestWorth 1 .int 4 89 D aT ad [.ref (ad 0)] S (fun r S1 => r = (meaR (ss S 8 (nI 0))).2.2.2.2.1 ∧ S1 = (meaT (ss S 8 (nI 0)) (meaR (ss S 8 (nI 0))))) := by
  refine MdI.of (by decide +kernel) rfl (Nat.le_of_ble_eq_true rfl) ?_
  intro p e s m below meth c A ls C hml hl hA hr hlocks hW
  have hl : lv_has ls 1 [(0, .ref (ad 0))] := hl
  have hx := C.1
  have hb := C.2.1
  refine lv_aload_n hx hb dX10_bestWorth_0 rfl (lv_at hl 0 rfl) ?_
  refine lv_iconst (v := nI 0) hx hb dX10_bestWorth_1 (by decide) ?_
  refine md_put_thrown C hW dX10_bestWorth_2 (fun H locs hW => ?_)
  refine lv_aload_n hx hb dX10_bestWorth_5 rfl (lv_at hl 0 rfl) ?_
  refine md_callv C hml hl.1 (As := []) (rest := []) (m_measures l D aT ad (ss S 8 (nI 0)) hF) gT_measures hd_measures rfl ⟨Nat.le_of_ble_eq_true rfl, Nat.le_of_ble_eq_true rfl⟩ ⟨Nat.le_refl _, Nat.le_refl _⟩ hW hA rfl (Nat.le_of_ble_eq_true rfl) dX10_bestWorth_6 (fun S_6 H locs hq hW => ?_)
  subst hq
  refine lv_aload_n hx hb dX10_bestWorth_9 rfl (lv_at hl 0 rfl) ?_
  refine md_get_worthAll C hW dX10_bestWorth_10 ?_
  refine r_eq (y := ((meaR (ss S 8 (nI 0))).2.2.2.2.1)) (by simp [meaT, stT, upd]) ?_
  exact md_iret C hr hlocks rfl hW (⟨rfl, rfl⟩) dX10_bestWorth_13
theorem dX10_goodSets_0 : decode cX10_goodSets 0 = .ok (.aload_n 0, 1) := by decide +kernel
theorem dX10_goodSets_1 : decode cX10_goodSets 1 = .ok (.iconst 0, 1) := by decide +kernel
theorem dX10_goodSets_2 : decode cX10_goodSets 2 = .ok (.putfield 57, 3) := by decide +kernel
theorem dX10_goodSets_5 : decode cX10_goodSets 5 = .ok (.aload_n 0, 1) := by decide +kernel
theorem dX10_goodSets_6 : decode cX10_goodSets 6 = .ok (.invokevirtual 196, 3) := by decide +kernel
theorem dX10_goodSets_9 : decode cX10_goodSets 9 = .ok (.aload_n 0, 1) := by decide +kernel
theorem dX10_goodSets_10 : decode cX10_goodSets 10 = .ok (.getfield 193, 3) := by decide +kernel
theorem dX10_goodSets_13 : decode cX10_goodSets 13 = .ok (.ireturn, 1) := by decide +kernel
set_option maxHeartbeats 1000000 in
set_option maxRecDepth 20000 in
theorem m_goodSets (l : Launch) (D : va_G) (aT : Nat → ClassId) (ad : Nat → Nat) (S : MSt) (hF : FoW (S 0)) : MdI l yX10_goodSets cX10_goodSets 1 .int 4 89 D aT ad [.ref (ad 0)] S (fun r S1 => r = (meaR (ss S 8 (nI 0))).2.2.2.2.2 ∧ S1 = (meaT (ss S 8 (nI 0)) (meaR (ss S 8 (nI 0))))) := by
  refine MdI.of (by decide +kernel) rfl (Nat.le_of_ble_eq_true rfl) ?_
  intro p e s m below meth c A ls C hml hl hA hr hlocks hW
  have hl : lv_has ls 1 [(0, .ref (ad 0))] := hl
  have hx := C.1
  have hb := C.2.1
  refine lv_aload_n hx hb dX10_goodSets_0 rfl (lv_at hl 0 rfl) ?_
  refine lv_iconst (v := nI 0) hx hb dX10_goodSets_1 (by decide) ?_
  refine md_put_thrown C hW dX10_goodSets_2 (fun H locs hW => ?_)
  refine lv_aload_n hx hb dX10_goodSets_5 rfl (lv_at hl 0 rfl) ?_
  refine md_callv C hml hl.1 (As := []) (rest := []) (m_measures l D aT ad (ss S 8 (nI 0)) hF) gT_measures hd_measures rfl ⟨Nat.le_of_ble_eq_true rfl, Nat.le_of_ble_eq_true rfl⟩ ⟨Nat.le_refl _, Nat.le_refl _⟩ hW hA rfl (Nat.le_of_ble_eq_true rfl) dX10_goodSets_6 (fun S_6 H locs hq hW => ?_)
  subst hq
  refine lv_aload_n hx hb dX10_goodSets_9 rfl (lv_at hl 0 rfl) ?_
  refine md_get_setsAll C hW dX10_goodSets_10 ?_
  refine r_eq (y := ((meaR (ss S 8 (nI 0))).2.2.2.2.2)) (by simp [meaT, stT, upd]) ?_
  exact md_iret C hr hlocks rfl hW (⟨rfl, rfl⟩) dX10_goodSets_13
theorem dX10_bestWorthBySets_0 : decode cX10_bestWorthBySets 0 = .ok (.aload_n 0, 1) := by decide +kernel
theorem dX10_bestWorthBySets_1 : decode cX10_bestWorthBySets 1 = .ok (.invokevirtual 199, 3) := by decide +kernel
theorem dX10_bestWorthBySets_4 : decode cX10_bestWorthBySets 4 = .ok (.ireturn, 1) := by decide +kernel
set_option maxHeartbeats 1000000 in
set_option maxRecDepth 20000 in
theorem m_bestWorthBySets (l : Launch) (D : va_G) (aT : Nat → ClassId) (ad : Nat → Nat) (S : MSt) (hF : FoW (S 0)) : MdI l yX10_bestWorthBySets cX10_bestWorthBySets 1 .int 5 109 D aT ad [.ref (ad 0)] S (fun r S1 => r = (meaR (ss S 8 (nI 0))).2.2.2.2.1 ∧ S1 = (meaT (ss S 8 (nI 0)) (meaR (ss S 8 (nI 0))))) := by
  refine MdI.of (by decide +kernel) rfl (Nat.le_of_ble_eq_true rfl) ?_
  intro p e s m below meth c A ls C hml hl hA hr hlocks hW
  have hl : lv_has ls 1 [(0, .ref (ad 0))] := hl
  have hx := C.1
  have hb := C.2.1
  refine lv_aload_n hx hb dX10_bestWorthBySets_0 rfl (lv_at hl 0 rfl) ?_
  refine md_calli C hml hl.1 (As := []) (rest := []) (m_bestWorth l D aT ad S hF) gT_bestWorth hd_bestWorth rfl ⟨Nat.le_of_ble_eq_true rfl, Nat.le_of_ble_eq_true rfl⟩ ⟨Nat.le_refl _, Nat.le_refl _⟩ hW hA rfl (Nat.le_of_ble_eq_true rfl) dX10_bestWorthBySets_1 (fun r_1 S_1 H locs hq hW => ?_)
  obtain ⟨rfl, rfl⟩ := hq
  exact md_iret C hr hlocks rfl hW (⟨rfl, rfl⟩) dX10_bestWorthBySets_4
theorem dX10_weightByAccounts_0 : decode cX10_weightByAccounts 0 = .ok (.aload_n 0, 1) := by decide +kernel
theorem dX10_weightByAccounts_1 : decode cX10_weightByAccounts 1 = .ok (.invokevirtual 204, 3) := by decide +kernel
theorem dX10_weightByAccounts_4 : decode cX10_weightByAccounts 4 = .ok (.ireturn, 1) := by decide +kernel
set_option maxHeartbeats 1000000 in
set_option maxRecDepth 20000 in
theorem m_weightByAccounts (l : Launch) (D : va_G) (aT : Nat → ClassId) (ad : Nat → Nat) (S : MSt) (hF : FoW (S 0)) : MdI l yX10_weightByAccounts cX10_weightByAccounts 1 .int 2 44 D aT ad [.ref (ad 0)] S (fun r S1 => r = smw (S 0) (nM (S 0)) ∧ S1 = ss S 8 (nI 0)) := by
  refine MdI.of (by decide +kernel) rfl (Nat.le_of_ble_eq_true rfl) ?_
  intro p e s m below meth c A ls C hml hl hA hr hlocks hW
  have hl : lv_has ls 1 [(0, .ref (ad 0))] := hl
  have hx := C.1
  have hb := C.2.1
  refine lv_aload_n hx hb dX10_weightByAccounts_0 rfl (lv_at hl 0 rfl) ?_
  refine md_calli C hml hl.1 (As := []) (rest := []) (m_weightTotal l D aT ad S hF) gT_weightTotal hd_weightTotal rfl ⟨Nat.le_of_ble_eq_true rfl, Nat.le_of_ble_eq_true rfl⟩ ⟨Nat.le_refl _, Nat.le_refl _⟩ hW hA rfl (Nat.le_of_ble_eq_true rfl) dX10_weightByAccounts_1 (fun r_1 S_1 H locs hq hW => ?_)
  obtain ⟨rfl, rfl⟩ := hq
  exact md_iret C hr hlocks rfl hW (⟨rfl, rfl⟩) dX10_weightByAccounts_4
end
section
/-- the sign at a place of the text, -1 behind its end -/
def hrF (f : Nat → Int32) (sz p : Nat) : Int32 := if p < sz then f p else -1
def isD (x : Int32) : Bool := rgB 48 57 x
/-- place and wrongness behind a sign that is due -/
def expP (f : Nat → Int32) (sz : Nat) (c : Int32) (s : Nat × Bool) : Nat × Bool := if s.2 = false ∧ hrF f sz s.1 = c then (s.1 + 1, false) else (s.1, true)
/-- a digit: its value, place and wrongness behind it -/
def digP (f : Nat → Int32) (sz : Nat) (s : Nat × Bool) : Int32 × Nat × Bool := if s.2 = false ∧ isD (hrF f sz s.1) = true then (hrF f sz s.1 - nI 48, s.1 + 1, false) else (nI 0, s.1, true)
def numP (f : Nat → Int32) (sz : Nat) (s : Nat × Bool) : Int32 × Nat × Bool := if (digP f sz s).2.2 = false ∧ isD (hrF f sz (digP f sz s).2.1) = true then (nI 10 * (digP f sz s).1 + (digP f sz (digP f sz s).2).1, (digP f sz (digP f sz s).2).2) else digP f sz s
/-- the state while a text is read: place, wrongness, commands -/
def psT (S : MSt) (p : Nat) (wr : Bool) (k : Nat) (cm : Nat → Int32) : MSt := fun r => if r = 11 then cm else if r = 13 then upd (upd (upd (S 13) 20 (nI k)) 21 (nI p)) 23 (bI wr) else S r
theorem psT_p (S : MSt) (p : Nat) (wr : Bool) (k : Nat) (cm : Nat → Int32) (q : Nat) : ss (psT S p wr k cm) 21 (nI q) = psT S q wr k cm := by
  funext r j; unfold ss sr psT; by_cases h : r = 13
  · subst h
    by_cases h1 : j = 21
    · subst h1; simp [upd]
    · by_cases h2 : j = 23
      · subst h2; simp [upd]
      · simp [upd, h1, h2]
  · simp [h]
theorem psT_w (S : MSt) (p : Nat) (wr : Bool) (k : Nat) (cm : Nat → Int32) (v : Bool) : ss (psT S p wr k cm) 23 (bI v) = psT S p v k cm := by
  funext r j; unfold ss sr psT; by_cases h : r = 13
  · subst h
    by_cases h2 : j = 23
    · subst h2; simp [upd]
    · simp [upd, h2]
  · simp [h]
theorem psT_k (S : MSt) (p : Nat) (wr : Bool) (k : Nat) (cm : Nat → Int32) (i : Nat) : ss (psT S p wr k cm) 20 (nI i) = psT S p wr i cm := by
  funext r j; unfold ss sr psT; by_cases h : r = 13
  · subst h
    by_cases h1 : j = 21
    · subst h1; simp [upd]
    · by_cases h2 : j = 23
      · subst h2; simp [upd]
      · by_cases h3 : j = 20
        · subst h3; simp [upd]
        · simp [upd, h1, h2, h3]
  · simp [h]
theorem psT_c (S : MSt) (p : Nat) (wr : Bool) (k : Nat) (cm f : Nat → Int32) : sr (psT S p wr k cm) 11 f = psT S p wr k f := by
  funext r; unfold sr psT; by_cases h : r = 11 <;> simp [h]
theorem expP_y {f : Nat → Int32} {sz p : Nat} {c : Int32} (h : hrF f sz p = c) : expP f sz c (p, false) = (p + 1, false) := by unfold expP; rw [if_pos ⟨rfl, h⟩]
theorem expP_n {f : Nat → Int32} {sz p : Nat} {c : Int32} {wr : Bool} (h : wr = true ∨ hrF f sz p ≠ c) : expP f sz c (p, wr) = (p, true) := by
  unfold expP; rw [if_neg]; rintro ⟨h1, h2⟩; rcases h with h | h
  · rw [h] at h1; cases h1
  · exact h h2
theorem digP_y {f : Nat → Int32} {sz p : Nat} (h : isD (hrF f sz p) = true) : digP f sz (p, false) = (hrF f sz p - nI 48, p + 1, false) := by unfold digP; rw [if_pos ⟨rfl, h⟩]
theorem digP_n {f : Nat → Int32} {sz p : Nat} {wr : Bool} (h : wr = true ∨ isD (hrF f sz p) = false) : digP f sz (p, wr) = (nI 0, p, true) := by
  unfold digP; rw [if_neg]; rintro ⟨h1, h2⟩; rcases h with h | h
  · rw [h] at h1; cases h1
  · dsimp only at h2; rw [h] at h2; cases h2
theorem hrF_in {f : Nat → Int32} {sz p : Nat} (h : isD (hrF f sz p) = true) : p < sz := by
  apply Decidable.byContradiction
  intro q
  unfold hrF at h
  rw [if_neg q] at h
  exact absurd h (by decide)
theorem expP_le {f : Nat → Int32} {sz : Nat} {c : Int32} {s : Nat × Bool} (hc : c ≠ -1) (h : s.1 ≤ sz) : (expP f sz c s).1 ≤ sz ∧ s.1 ≤ (expP f sz c s).1 := by
  unfold expP; split
  · rename_i z
    have : s.1 < sz := by
      apply Decidable.byContradiction
      intro q
      have z2 := z.2
      unfold hrF at z2
      rw [if_neg q] at z2
      exact hc z2.symm
    exact ⟨this, Nat.le_succ _⟩
  · exact ⟨h, Nat.le_refl _⟩
theorem digP_le {f : Nat → Int32} {sz : Nat} {s : Nat × Bool} (h : s.1 ≤ sz) : (digP f sz s).2.1 ≤ sz ∧ s.1 ≤ (digP f sz s).2.1 := by
  unfold digP; split
  · rename_i z; exact ⟨hrF_in z.2, Nat.le_succ _⟩
  · exact ⟨h, Nat.le_refl _⟩
theorem numP_le {f : Nat → Int32} {sz : Nat} {s : Nat × Bool} (h : s.1 ≤ sz) : (numP f sz s).2.1 ≤ sz ∧ s.1 ≤ (numP f sz s).2.1 := by
  have h1 := digP_le (f := f) h
  unfold numP; split
  · have h2 := digP_le (f := f) (s := (digP f sz s).2) h1.1
    exact ⟨h2.1, Nat.le_trans h1.2 h2.2⟩
  · exact h1
theorem gT_here : GoodIn gw (wsV RX10 220 RX10 yX10_here (Cond.code yX10_here cX10_here 1 (some .int) :: gw)) := gdV gw_2029 gw_2031 gw_56 gw_81 gw_2032
theorem hd_here : yX10_here.cls = RX10 ∧ yX10_here.cls ≠ "java/lang/invoke/MethodHandle" ∧ yX10_here.cls ≠ "java/lang/invoke/VarHandle" ∧ (parseMethodDescriptor yX10_here.desc).map (fun d => d.parameters.length) = some 0 := ⟨rfl, by decide +kernel, by decide +kernel, by decide +kernel⟩
theorem dX10_here_0 : decode cX10_here 0 = .ok (.aload_n 0, 1) := by decide +kernel
theorem dX10_here_1 : decode cX10_here 1 = .ok (.getfield 210, 3) := by decide +kernel
theorem dX10_here_4 : decode cX10_here 4 = .ok (.aload_n 0, 1) := by decide +kernel
theorem dX10_here_5 : decode cX10_here 5 = .ok (.getfield 213, 3) := by decide +kernel
theorem dX10_here_8 : decode cX10_here 8 = .ok (.if_icmp .ge 15, 3) := by decide +kernel
theorem dX10_here_11 : decode cX10_here 11 = .ok (.aload_n 0, 1) := by decide +kernel
theorem dX10_here_12 : decode cX10_here 12 = .ok (.getfield 29, 3) := by decide +kernel
theorem dX10_here_15 : decode cX10_here 15 = .ok (.aload_n 0, 1) := by decide +kernel
theorem dX10_here_16 : decode cX10_here 16 = .ok (.getfield 210, 3) := by decide +kernel
theorem dX10_here_19 : decode cX10_here 19 = .ok (.iaload, 1) := by decide +kernel
theorem dX10_here_20 : decode cX10_here 20 = .ok (.goto 4, 3) := by decide +kernel
theorem dX10_here_23 : decode cX10_here 23 = .ok (.iconst (-1), 1) := by decide +kernel
theorem dX10_here_24 : decode cX10_here 24 = .ok (.ireturn, 1) := by decide +kernel
set_option maxHeartbeats 1000000 in
set_option maxRecDepth 20000 in
theorem m_here (l : Launch) (D : va_G) (aT : Nat → ClassId) (ad : Nat → Nat) (S : MSt) (u sz k : Nat) (wr : Bool) (cm : Nat → Int32) (hsz : S 13 22 = nI sz) (h60 : sz ≤ 60) (hp : u ≤ sz) : MdG l yX10_here cX10_here 1 .int 0 0 D aT ad [.ref (ad 0)] (psT S u wr k cm) (fun r => r = hrF (S 4) sz u) := by
  refine MdI.of (by decide +kernel) rfl (Nat.le_of_ble_eq_true rfl) ?_
  intro p e s m below meth c A ls C hml hl hA hr hlocks hW
  have hl : lv_has ls 1 [(0, .ref (ad 0))] := hl
  have hx := C.1
  have hb := C.2.1
  refine lv_aload_n hx hb dX10_here_0 rfl (lv_at hl 0 rfl) ?_
  refine md_get_place0 C hW dX10_here_1 ?_
  refine r_eq (y := (nI u)) (rfl) ?_
  refine lv_aload_n hx hb dX10_here_4 rfl (lv_at hl 0 rfl) ?_
  refine md_get_size0 C hW dX10_here_5 ?_
  refine r_eq (y := (nI sz)) (hsz) ?_
  refine r_geN hx hb (a := u) (b := sz) (by omega) (by omega) (tgt := 23) dX10_here_8 (by decide) (fun c_8 => ?_) (fun c_8 => ?_)
  · refine lv_iconst (v := (-1)) hx hb dX10_here_23 (by decide) ?_
    exact md_iret C hr hlocks rfl hW (⟨by unfold hrF; rw [if_neg (by omega)], rfl⟩) dX10_here_24
  · refine lv_aload_n hx hb dX10_here_11 rfl (lv_at hl 0 rfl) ?_
    refine md_geta_input C hW dX10_here_12 ?_
    refine lv_aload_n hx hb dX10_here_15 rfl (lv_at hl 0 rfl) ?_
    refine md_get_place0 C hW dX10_here_16 ?_
    refine r_eq (y := (nI u)) (rfl) ?_
    refine md_ald_input C hW (i := u) (by omega) dX10_here_19 ?_
    refine r_eq (y := (S 4 u)) (rfl) ?_
    refine lv_goto (tgt := 24) hx hb dX10_here_20 (by decide) ?_
    exact md_iret C hr hlocks rfl hW (⟨by unfold hrF; rw [if_pos (by omega)], rfl⟩) dX10_here_24
theorem gT_expects : GoodIn gw (wsV RX10 230 RX10 yX10_expects (Cond.code yX10_expects cX10_expects 2 (none) :: gw)) := gdV gw_2043 gw_2045 gw_59 gw_81 gw_2046
theorem hd_expects : yX10_expects.cls = RX10 ∧ yX10_expects.cls ≠ "java/lang/invoke/MethodHandle" ∧ yX10_expects.cls ≠ "java/lang/invoke/VarHandle" ∧ (parseMethodDescriptor yX10_expects.desc).map (fun d => d.parameters.length) = some 1 := ⟨rfl, by decide +kernel, by decide +kernel, by decide +kernel⟩
theorem dX10_expects_0 : decode cX10_expects 0 = .ok (.aload_n 0, 1) := by decide +kernel
theorem dX10_expects_1 : decode cX10_expects 1 = .ok (.aload_n 0, 1) := by decide +kernel
theorem dX10_expects_2 : decode cX10_expects 2 = .ok (.getfield 216, 3) := by decide +kernel
theorem dX10_expects_5 : decode cX10_expects 5 = .ok (.ifCond .ne 11, 3) := by decide +kernel
theorem dX10_expects_8 : decode cX10_expects 8 = .ok (.aload_n 0, 1) := by decide +kernel
theorem dX10_expects_9 : decode cX10_expects 9 = .ok (.invokevirtual 220, 3) := by decide +kernel
theorem dX10_expects_12 : decode cX10_expects 12 = .ok (.iload_n 1, 1) := by decide +kernel
theorem dX10_expects_13 : decode cX10_expects 13 = .ok (.if_icmp .eq 7, 3) := by decide +kernel
theorem dX10_expects_16 : decode cX10_expects 16 = .ok (.iconst 1, 1) := by decide +kernel
theorem dX10_expects_17 : decode cX10_expects 17 = .ok (.goto 4, 3) := by decide +kernel
theorem dX10_expects_20 : decode cX10_expects 20 = .ok (.iconst 0, 1) := by decide +kernel
theorem dX10_expects_21 : decode cX10_expects 21 = .ok (.putfield 216, 3) := by decide +kernel
theorem dX10_expects_24 : decode cX10_expects 24 = .ok (.aload_n 0, 1) := by decide +kernel
theorem dX10_expects_25 : decode cX10_expects 25 = .ok (.dup, 1) := by decide +kernel
theorem dX10_expects_26 : decode cX10_expects 26 = .ok (.getfield 210, 3) := by decide +kernel
theorem dX10_expects_29 : decode cX10_expects 29 = .ok (.aload_n 0, 1) := by decide +kernel
theorem dX10_expects_30 : decode cX10_expects 30 = .ok (.getfield 216, 3) := by decide +kernel
theorem dX10_expects_33 : decode cX10_expects 33 = .ok (.ifCond .eq 7, 3) := by decide +kernel
theorem dX10_expects_36 : decode cX10_expects 36 = .ok (.iconst 0, 1) := by decide +kernel
theorem dX10_expects_37 : decode cX10_expects 37 = .ok (.goto 4, 3) := by decide +kernel
theorem dX10_expects_40 : decode cX10_expects 40 = .ok (.iconst 1, 1) := by decide +kernel
theorem dX10_expects_41 : decode cX10_expects 41 = .ok (.iadd, 1) := by decide +kernel
theorem dX10_expects_42 : decode cX10_expects 42 = .ok (.putfield 210, 3) := by decide +kernel
theorem dX10_expects_45 : decode cX10_expects 45 = .ok (.return_, 1) := by decide +kernel
set_option maxHeartbeats 1000000 in
set_option maxRecDepth 20000 in
theorem m_expects (l : Launch) (D : va_G) (aT : Nat → ClassId) (ad : Nat → Nat) (S : MSt) (u sz k : Nat) (wr : Bool) (cm : Nat → Int32) (hsz : S 13 22 = nI sz) (h60 : sz ≤ 60) (hp : u ≤ sz) (c0 : Int32) : MdV l yX10_expects cX10_expects 2 1 20 D aT ad [.ref (ad 0), .int c0] (psT S u wr k cm) (fun S1 => S1 = psT S (expP (S 4) sz c0 (u, wr)).1 (expP (S 4) sz c0 (u, wr)).2 k cm) := by
  refine MdV.of (by decide +kernel) rfl (Nat.le_of_ble_eq_true rfl) ?_
  intro p e s m below meth c A ls C hml hl hA hr hlocks hW
  have hl : lv_has ls 2 [(0, .ref (ad 0)), (1, .int c0)] := hl
  have hx := C.1
  have hb := C.2.1
  refine lv_aload_n hx hb dX10_expects_0 rfl (lv_at hl 0 rfl) ?_
  refine lv_aload_n hx hb dX10_expects_1 rfl (lv_at hl 0 rfl) ?_
  refine md_get_isWrong C hW dX10_expects_2 ?_
  refine r_eq (y := (bI wr)) (rfl) ?_
  refine r_bI_ne hx hb (b := wr) (tgt := 16) dX10_expects_5 (by decide) (fun c_5 => ?_) (fun c_5 => ?_)
  · refine lv_iconst (v := nI 1) hx hb dX10_expects_16 (by decide) ?_
    refine lv_goto (tgt := 21) hx hb dX10_expects_17 (by decide) ?_
    refine md_put_isWrong C hW (by decide) (by decide) dX10_expects_21 (fun H locs hW => ?_)
    have hW : MdB D aT ad (psT S u true k cm) A s.heap H locs := by rw [← psT_w S u wr k cm true]; exact hW
    refine lv_aload_n hx hb dX10_expects_24 rfl (lv_at hl 0 rfl) ?_
    refine lv_dup hx hb dX10_expects_25 rfl ?_
    refine md_get_place0 C hW dX10_expects_26 ?_
    refine r_eq (y := (nI u)) (rfl) ?_
    refine lv_aload_n hx hb dX10_expects_29 rfl (lv_at hl 0 rfl) ?_
    refine md_get_isWrong C hW dX10_expects_30 ?_
    refine r_eq (y := (bI true)) (rfl) ?_
    refine r_bI_eq hx hb (b := true) (tgt := 40) dX10_expects_33 (by decide) (fun c_33 => ?_) (fun c_33 => ?_)
    · exact absurd c_33 (by decide)
    · refine lv_iconst (v := nI 0) hx hb dX10_expects_36 (by decide) ?_
      refine lv_goto (tgt := 41) hx hb dX10_expects_37 (by decide) ?_
      refine r_iaddN hx hb (a := u) (b := 0) dX10_expects_41 ?_
      refine md_put_place0 C hW dX10_expects_42 (fun H locs hW => ?_)
      have hW : MdB D aT ad (psT S (u + 0) true k cm) A s.heap H locs := by rw [← psT_p S u true k cm (u + 0)]; exact hW
      exact md_vret C hr hlocks hW (by rw [expP_n (Or.inl c_5)]; try rfl) dX10_expects_45
  · refine lv_aload_n hx hb dX10_expects_8 rfl (lv_at hl 0 rfl) ?_
    refine md_callg C hml hl.1 (As := []) (rest := [.ref (ad 0)]) (m_here l D aT ad S u sz k wr cm hsz h60 (by omega)) gT_here hd_here rfl ⟨Nat.le_of_ble_eq_true rfl, Nat.le_of_ble_eq_true rfl⟩ ⟨Nat.le_refl _, Nat.le_refl _⟩ hW hA rfl (Nat.le_of_ble_eq_true rfl) dX10_expects_9 (fun r_9 H locs hq hW => ?_)
    subst hq
    refine lv_iload_n hx hb dX10_expects_12 rfl (lv_at hl 1 rfl) ?_
    refine lv_icmp_eq hx hb (x := (hrF (S 4) sz u)) (y := c0) (tgt := 20) dX10_expects_13 (by decide) (fun c_13 => ?_) (fun c_13 => ?_)
    · refine lv_iconst (v := nI 0) hx hb dX10_expects_20 (by decide) ?_
      refine md_put_isWrong C hW (by decide) (by decide) dX10_expects_21 (fun H locs hW => ?_)
      have hW : MdB D aT ad (psT S u false k cm) A s.heap H locs := by rw [← psT_w S u wr k cm false]; exact hW
      refine lv_aload_n hx hb dX10_expects_24 rfl (lv_at hl 0 rfl) ?_
      refine lv_dup hx hb dX10_expects_25 rfl ?_
      refine md_get_place0 C hW dX10_expects_26 ?_
      refine r_eq (y := (nI u)) (rfl) ?_
      refine lv_aload_n hx hb dX10_expects_29 rfl (lv_at hl 0 rfl) ?_
      refine md_get_isWrong C hW dX10_expects_30 ?_
      refine r_eq (y := (bI false)) (rfl) ?_
      refine r_bI_eq hx hb (b := false) (tgt := 40) dX10_expects_33 (by decide) (fun c_33 => ?_) (fun c_33 => ?_)
      · refine lv_iconst (v := nI 1) hx hb dX10_expects_40 (by decide) ?_
        refine r_iaddN hx hb (a := u) (b := 1) dX10_expects_41 ?_
        refine md_put_place0 C hW dX10_expects_42 (fun H locs hW => ?_)
        have hW : MdB D aT ad (psT S (u + 1) false k cm) A s.heap H locs := by rw [← psT_p S u false k cm (u + 1)]; exact hW
        exact md_vret C hr hlocks hW (by rw [c_5, expP_y c_13]; try rfl) dX10_expects_45
      · exact absurd c_33 (by decide)
    · refine lv_iconst (v := nI 1) hx hb dX10_expects_16 (by decide) ?_
      refine lv_goto (tgt := 21) hx hb dX10_expects_17 (by decide) ?_
      refine md_put_isWrong C hW (by decide) (by decide) dX10_expects_21 (fun H locs hW => ?_)
      have hW : MdB D aT ad (psT S u true k cm) A s.heap H locs := by rw [← psT_w S u wr k cm true]; exact hW
      refine lv_aload_n hx hb dX10_expects_24 rfl (lv_at hl 0 rfl) ?_
      refine lv_dup hx hb dX10_expects_25 rfl ?_
      refine md_get_place0 C hW dX10_expects_26 ?_
      refine r_eq (y := (nI u)) (rfl) ?_
      refine lv_aload_n hx hb dX10_expects_29 rfl (lv_at hl 0 rfl) ?_
      refine md_get_isWrong C hW dX10_expects_30 ?_
      refine r_eq (y := (bI true)) (rfl) ?_
      refine r_bI_eq hx hb (b := true) (tgt := 40) dX10_expects_33 (by decide) (fun c_33 => ?_) (fun c_33 => ?_)
      · exact absurd c_33 (by decide)
      · refine lv_iconst (v := nI 0) hx hb dX10_expects_36 (by decide) ?_
        refine lv_goto (tgt := 41) hx hb dX10_expects_37 (by decide) ?_
        refine r_iaddN hx hb (a := u) (b := 0) dX10_expects_41 ?_
        refine md_put_place0 C hW dX10_expects_42 (fun H locs hW => ?_)
        have hW : MdB D aT ad (psT S (u + 0) true k cm) A s.heap H locs := by rw [← psT_p S u true k cm (u + 0)]; exact hW
        exact md_vret C hr hlocks hW (by rw [expP_n (Or.inr c_13)]; try rfl) dX10_expects_45
theorem gT_digit : GoodIn gw (wsV RX10 227 RX10 yX10_digit (Cond.code yX10_digit cX10_digit 2 (some .int) :: gw)) := gdV gw_2025 gw_2027 gw_55 gw_81 gw_2028
theorem hd_digit : yX10_digit.cls = RX10 ∧ yX10_digit.cls ≠ "java/lang/invoke/MethodHandle" ∧ yX10_digit.cls ≠ "java/lang/invoke/VarHandle" ∧ (parseMethodDescriptor yX10_digit.desc).map (fun d => d.parameters.length) = some 0 := ⟨rfl, by decide +kernel, by decide +kernel, by decide +kernel⟩
theorem dX10_digit_0 : decode cX10_digit 0 = .ok (.aload_n 0, 1) := by decide +kernel
theorem dX10_digit_1 : decode cX10_digit 1 = .ok (.aload_n 0, 1) := by decide +kernel
theorem dX10_digit_2 : decode cX10_digit 2 = .ok (.getfield 216, 3) := by decide +kernel
theorem dX10_digit_5 : decode cX10_digit 5 = .ok (.ifCond .ne 20, 3) := by decide +kernel
theorem dX10_digit_8 : decode cX10_digit 8 = .ok (.aload_n 0, 1) := by decide +kernel
theorem dX10_digit_9 : decode cX10_digit 9 = .ok (.invokevirtual 220, 3) := by decide +kernel
theorem dX10_digit_12 : decode cX10_digit 12 = .ok (.i2l, 1) := by decide +kernel
theorem dX10_digit_13 : decode cX10_digit 13 = .ok (.ldc2_w 223, 3) := by decide +kernel
theorem dX10_digit_16 : decode cX10_digit 16 = .ok (.ldc2_w 225, 3) := by decide +kernel
theorem dX10_digit_19 : decode cX10_digit 19 = .ok (.invokestatic 63, 3) := by decide +kernel
theorem dX10_digit_22 : decode cX10_digit 22 = .ok (.ifCond .ne 7, 3) := by decide +kernel
theorem dX10_digit_25 : decode cX10_digit 25 = .ok (.iconst 1, 1) := by decide +kernel
theorem dX10_digit_26 : decode cX10_digit 26 = .ok (.goto 4, 3) := by decide +kernel
theorem dX10_digit_29 : decode cX10_digit 29 = .ok (.iconst 0, 1) := by decide +kernel
theorem dX10_digit_30 : decode cX10_digit 30 = .ok (.putfield 216, 3) := by decide +kernel
theorem dX10_digit_33 : decode cX10_digit 33 = .ok (.aload_n 0, 1) := by decide +kernel
theorem dX10_digit_34 : decode cX10_digit 34 = .ok (.getfield 216, 3) := by decide +kernel
theorem dX10_digit_37 : decode cX10_digit 37 = .ok (.ifCond .eq 7, 3) := by decide +kernel
theorem dX10_digit_40 : decode cX10_digit 40 = .ok (.iconst 0, 1) := by decide +kernel
theorem dX10_digit_41 : decode cX10_digit 41 = .ok (.goto 10, 3) := by decide +kernel
theorem dX10_digit_44 : decode cX10_digit 44 = .ok (.aload_n 0, 1) := by decide +kernel
theorem dX10_digit_45 : decode cX10_digit 45 = .ok (.invokevirtual 220, 3) := by decide +kernel
theorem dX10_digit_48 : decode cX10_digit 48 = .ok (.bipush 48, 2) := by decide +kernel
theorem dX10_digit_50 : decode cX10_digit 50 = .ok (.isub, 1) := by decide +kernel
theorem dX10_digit_51 : decode cX10_digit 51 = .ok (.istore_n 1, 1) := by decide +kernel
theorem dX10_digit_52 : decode cX10_digit 52 = .ok (.aload_n 0, 1) := by decide +kernel
theorem dX10_digit_53 : decode cX10_digit 53 = .ok (.dup, 1) := by decide +kernel
theorem dX10_digit_54 : decode cX10_digit 54 = .ok (.getfield 210, 3) := by decide +kernel
theorem dX10_digit_57 : decode cX10_digit 57 = .ok (.aload_n 0, 1) := by decide +kernel
theorem dX10_digit_58 : decode cX10_digit 58 = .ok (.getfield 216, 3) := by decide +kernel
theorem dX10_digit_61 : decode cX10_digit 61 = .ok (.ifCond .eq 7, 3) := by decide +kernel
theorem dX10_digit_64 : decode cX10_digit 64 = .ok (.iconst 0, 1) := by decide +kernel
theorem dX10_digit_65 : decode cX10_digit 65 = .ok (.goto 4, 3) := by decide +kernel
theorem dX10_digit_68 : decode cX10_digit 68 = .ok (.iconst 1, 1) := by decide +kernel
theorem dX10_digit_69 : decode cX10_digit 69 = .ok (.iadd, 1) := by decide +kernel
theorem dX10_digit_70 : decode cX10_digit 70 = .ok (.putfield 210, 3) := by decide +kernel
theorem dX10_digit_73 : decode cX10_digit 73 = .ok (.iload_n 1, 1) := by decide +kernel
theorem dX10_digit_74 : decode cX10_digit 74 = .ok (.ireturn, 1) := by decide +kernel
set_option maxHeartbeats 1000000 in
set_option maxRecDepth 20000 in
theorem m_digit (l : Launch) (D : va_G) (aT : Nat → ClassId) (ad : Nat → Nat) (S : MSt) (u sz k : Nat) (wr : Bool) (cm : Nat → Int32) (hsz : S 13 22 = nI sz) (h60 : sz ≤ 60) (hp : u ≤ sz) : MdI l yX10_digit cX10_digit 2 .int 1 25 D aT ad [.ref (ad 0)] (psT S u wr k cm) (fun r S1 => r = (digP (S 4) sz (u, wr)).1 ∧ S1 = psT S (digP (S 4) sz (u, wr)).2.1 (digP (S 4) sz (u, wr)).2.2 k cm) := by
  refine MdI.of (by decide +kernel) rfl (Nat.le_of_ble_eq_true rfl) ?_
  intro p e s m below meth c A ls C hml hl hA hr hlocks hW
  have hl : lv_has ls 2 [(0, .ref (ad 0))] := hl
  have hx := C.1
  have hb := C.2.1
  refine lv_aload_n hx hb dX10_digit_0 rfl (lv_at hl 0 rfl) ?_
  refine lv_aload_n hx hb dX10_digit_1 rfl (lv_at hl 0 rfl) ?_
  refine md_get_isWrong C hW dX10_digit_2 ?_
  refine r_eq (y := (bI wr)) (rfl) ?_
  refine r_bI_ne hx hb (b := wr) (tgt := 25) dX10_digit_5 (by decide) (fun c_5 => ?_) (fun c_5 => ?_)
  · refine lv_iconst (v := nI 1) hx hb dX10_digit_25 (by decide) ?_
    refine lv_goto (tgt := 30) hx hb dX10_digit_26 (by decide) ?_
    refine md_put_isWrong C hW (by decide) (by decide) dX10_digit_30 (fun H locs hW => ?_)
    have hW : MdB D aT ad (psT S u true k cm) A s.heap H locs := by rw [← psT_w S u wr k cm true]; exact hW
    refine lv_aload_n hx hb dX10_digit_33 rfl (lv_at hl 0 rfl) ?_
    refine md_get_isWrong C hW dX10_digit_34 ?_
    refine r_eq (y := (bI true)) (rfl) ?_
    refine r_bI_eq hx hb (b := true) (tgt := 44) dX10_digit_37 (by decide) (fun c_37 => ?_) (fun c_37 => ?_)
    · exact absurd c_37 (by decide)
    · refine lv_iconst (v := nI 0) hx hb dX10_digit_40 (by decide) ?_
      refine lv_goto (tgt := 51) hx hb dX10_digit_41 (by decide) ?_
      refine lv_istore_n (lv' := [(1, .int (nI 0)), (0, .ref (ad 0))]) hx hb dX10_digit_51 rfl hl (by decide) rfl (fun ls hl => ?_)
      refine lv_aload_n hx hb dX10_digit_52 rfl (lv_at hl 1 rfl) ?_
      refine lv_dup hx hb dX10_digit_53 rfl ?_
      refine md_get_place0 C hW dX10_digit_54 ?_
      refine r_eq (y := (nI u)) (rfl) ?_
      refine lv_aload_n hx hb dX10_digit_57 rfl (lv_at hl 1 rfl) ?_
      refine md_get_isWrong C hW dX10_digit_58 ?_
      refine r_eq (y := (bI true)) (rfl) ?_
      refine r_bI_eq hx hb (b := true) (tgt := 68) dX10_digit_61 (by decide) (fun c_61 => ?_) (fun c_61 => ?_)
      · exact absurd c_61 (by decide)
      · refine lv_iconst (v := nI 0) hx hb dX10_digit_64 (by decide) ?_
        refine lv_goto (tgt := 69) hx hb dX10_digit_65 (by decide) ?_
        refine r_iaddN hx hb (a := u) (b := 0) dX10_digit_69 ?_
        refine md_put_place0 C hW dX10_digit_70 (fun H locs hW => ?_)
        have hW : MdB D aT ad (psT S (u + 0) true k cm) A s.heap H locs := by rw [← psT_p S u true k cm (u + 0)]; exact hW
        refine lv_iload_n hx hb dX10_digit_73 rfl (lv_at hl 0 rfl) ?_
        exact md_iret C hr hlocks rfl hW (⟨by rw [digP_n (Or.inl c_5)]; try rfl, by rw [digP_n (Or.inl c_5)]; try rfl⟩) dX10_digit_74
  · refine lv_aload_n hx hb dX10_digit_8 rfl (lv_at hl 0 rfl) ?_
    refine md_callg C hml hl.1 (As := []) (rest := [.ref (ad 0)]) (m_here l D aT ad S u sz k wr cm hsz h60 (by omega)) gT_here hd_here rfl ⟨Nat.le_of_ble_eq_true rfl, Nat.le_of_ble_eq_true rfl⟩ ⟨Nat.le_refl _, Nat.le_refl _⟩ hW hA rfl (Nat.le_of_ble_eq_true rfl) dX10_digit_9 (fun r_9 H locs hq hW => ?_)
    subst hq
    refine lv_i2l (v := ((hrF (S 4) sz u)).toInt64) hx hb dX10_digit_12 rfl ?_
    refine lv_ldc2 hx hb C.2.2.2.1 (C.2.2.1 _ gw_2033) dX10_digit_13 ?_
    refine lv_ldc2 hx hb C.2.2.2.1 (C.2.2.1 _ gw_2034) dX10_digit_16 ?_
    refine md_calls C hml hl.1 (As := [.long (((hrF (S 4) sz u)).toInt64), .long 48, .long 57]) (rest := [.ref (ad 0)]) (m_in l (((hrF (S 4) sz u)).toInt64) 48 57) gT_in hd_in rfl ⟨Nat.le_of_ble_eq_true rfl, Nat.le_of_ble_eq_true rfl⟩ ⟨Nat.le_refl _, Nat.le_refl _⟩ rfl (Nat.le_of_ble_eq_true rfl) dX10_digit_19 (fun r_19 hq => ?_)
    subst hq
    refine r_bI_ne hx hb (b := (rgB 48 57 (hrF (S 4) sz u))) (tgt := 29) dX10_digit_22 (by decide) (fun c_22 => ?_) (fun c_22 => ?_)
    · refine lv_iconst (v := nI 0) hx hb dX10_digit_29 (by decide) ?_
      refine md_put_isWrong C hW (by decide) (by decide) dX10_digit_30 (fun H locs hW => ?_)
      have hW : MdB D aT ad (psT S u false k cm) A s.heap H locs := by rw [← psT_w S u wr k cm false]; exact hW
      refine lv_aload_n hx hb dX10_digit_33 rfl (lv_at hl 0 rfl) ?_
      refine md_get_isWrong C hW dX10_digit_34 ?_
      refine r_eq (y := (bI false)) (rfl) ?_
      refine r_bI_eq hx hb (b := false) (tgt := 44) dX10_digit_37 (by decide) (fun c_37 => ?_) (fun c_37 => ?_)
      · refine lv_aload_n hx hb dX10_digit_44 rfl (lv_at hl 0 rfl) ?_
        refine md_callg C hml hl.1 (As := []) (rest := []) (m_here l D aT ad S u sz k false cm hsz h60 (by omega)) gT_here hd_here rfl ⟨Nat.le_of_ble_eq_true rfl, Nat.le_of_ble_eq_true rfl⟩ ⟨Nat.le_refl _, Nat.le_refl _⟩ hW hA rfl (Nat.le_of_ble_eq_true rfl) dX10_digit_45 (fun r_45 H locs hq hW => ?_)
        subst hq
        refine lv_bipush (v := nI 48) hx hb dX10_digit_48 (by decide) ?_
        refine lv_isub hx hb dX10_digit_50 ?_
        refine lv_istore_n (lv' := [(1, .int ((hrF (S 4) sz u) - (nI 48))), (0, .ref (ad 0))]) hx hb dX10_digit_51 rfl hl (by decide) rfl (fun ls hl => ?_)
        refine lv_aload_n hx hb dX10_digit_52 rfl (lv_at hl 1 rfl) ?_
        refine lv_dup hx hb dX10_digit_53 rfl ?_
        refine md_get_place0 C hW dX10_digit_54 ?_
        refine r_eq (y := (nI u)) (rfl) ?_
        refine lv_aload_n hx hb dX10_digit_57 rfl (lv_at hl 1 rfl) ?_
        refine md_get_isWrong C hW dX10_digit_58 ?_
        refine r_eq (y := (bI false)) (rfl) ?_
        refine r_bI_eq hx hb (b := false) (tgt := 68) dX10_digit_61 (by decide) (fun c_61 => ?_) (fun c_61 => ?_)
        · refine lv_iconst (v := nI 1) hx hb dX10_digit_68 (by decide) ?_
          refine r_iaddN hx hb (a := u) (b := 1) dX10_digit_69 ?_
          refine md_put_place0 C hW dX10_digit_70 (fun H locs hW => ?_)
          have hW : MdB D aT ad (psT S (u + 1) false k cm) A s.heap H locs := by rw [← psT_p S u false k cm (u + 1)]; exact hW
          refine lv_iload_n hx hb dX10_digit_73 rfl (lv_at hl 0 rfl) ?_
          exact md_iret C hr hlocks rfl hW (⟨by rw [c_5, digP_y c_22]; try rfl, by rw [c_5, digP_y c_22]; try rfl⟩) dX10_digit_74
        · exact absurd c_61 (by decide)
      · exact absurd c_37 (by decide)
    · refine lv_iconst (v := nI 1) hx hb dX10_digit_25 (by decide) ?_
      refine lv_goto (tgt := 30) hx hb dX10_digit_26 (by decide) ?_
      refine md_put_isWrong C hW (by decide) (by decide) dX10_digit_30 (fun H locs hW => ?_)
      have hW : MdB D aT ad (psT S u true k cm) A s.heap H locs := by rw [← psT_w S u wr k cm true]; exact hW
      refine lv_aload_n hx hb dX10_digit_33 rfl (lv_at hl 0 rfl) ?_
      refine md_get_isWrong C hW dX10_digit_34 ?_
      refine r_eq (y := (bI true)) (rfl) ?_
      refine r_bI_eq hx hb (b := true) (tgt := 44) dX10_digit_37 (by decide) (fun c_37 => ?_) (fun c_37 => ?_)
      · exact absurd c_37 (by decide)
      · refine lv_iconst (v := nI 0) hx hb dX10_digit_40 (by decide) ?_
        refine lv_goto (tgt := 51) hx hb dX10_digit_41 (by decide) ?_
        refine lv_istore_n (lv' := [(1, .int (nI 0)), (0, .ref (ad 0))]) hx hb dX10_digit_51 rfl hl (by decide) rfl (fun ls hl => ?_)
        refine lv_aload_n hx hb dX10_digit_52 rfl (lv_at hl 1 rfl) ?_
        refine lv_dup hx hb dX10_digit_53 rfl ?_
        refine md_get_place0 C hW dX10_digit_54 ?_
        refine r_eq (y := (nI u)) (rfl) ?_
        refine lv_aload_n hx hb dX10_digit_57 rfl (lv_at hl 1 rfl) ?_
        refine md_get_isWrong C hW dX10_digit_58 ?_
        refine r_eq (y := (bI true)) (rfl) ?_
        refine r_bI_eq hx hb (b := true) (tgt := 68) dX10_digit_61 (by decide) (fun c_61 => ?_) (fun c_61 => ?_)
        · exact absurd c_61 (by decide)
        · refine lv_iconst (v := nI 0) hx hb dX10_digit_64 (by decide) ?_
          refine lv_goto (tgt := 69) hx hb dX10_digit_65 (by decide) ?_
          refine r_iaddN hx hb (a := u) (b := 0) dX10_digit_69 ?_
          refine md_put_place0 C hW dX10_digit_70 (fun H locs hW => ?_)
          have hW : MdB D aT ad (psT S (u + 0) true k cm) A s.heap H locs := by rw [← psT_p S u true k cm (u + 0)]; exact hW
          refine lv_iload_n hx hb dX10_digit_73 rfl (lv_at hl 0 rfl) ?_
          exact md_iret C hr hlocks rfl hW (⟨by rw [digP_n (Or.inr c_22)]; try rfl, by rw [digP_n (Or.inr c_22)]; try rfl⟩) dX10_digit_74
theorem gT_number : GoodIn gw (wsV RX10 233 RX10 yX10_number (Cond.code yX10_number cX10_number 2 (some .int) :: gw)) := gdV gw_2035 gw_2037 gw_57 gw_81 gw_2038
theorem hd_number : yX10_number.cls = RX10 ∧ yX10_number.cls ≠ "java/lang/invoke/MethodHandle" ∧ yX10_number.cls ≠ "java/lang/invoke/VarHandle" ∧ (parseMethodDescriptor yX10_number.desc).map (fun d => d.parameters.length) = some 0 := ⟨rfl, by decide +kernel, by decide +kernel, by decide +kernel⟩
theorem dX10_number_0 : decode cX10_number 0 = .ok (.aload_n 0, 1) := by decide +kernel
theorem dX10_number_1 : decode cX10_number 1 = .ok (.invokevirtual 227, 3) := by decide +kernel
theorem dX10_number_4 : decode cX10_number 4 = .ok (.istore_n 1, 1) := by decide +kernel
theorem dX10_number_5 : decode cX10_number 5 = .ok (.aload_n 0, 1) := by decide +kernel
theorem dX10_number_6 : decode cX10_number 6 = .ok (.getfield 216, 3) := by decide +kernel
theorem dX10_number_9 : decode cX10_number 9 = .ok (.ifCond .ne 32, 3) := by decide +kernel
theorem dX10_number_12 : decode cX10_number 12 = .ok (.aload_n 0, 1) := by decide +kernel
theorem dX10_number_13 : decode cX10_number 13 = .ok (.invokevirtual 220, 3) := by decide +kernel
theorem dX10_number_16 : decode cX10_number 16 = .ok (.i2l, 1) := by decide +kernel
theorem dX10_number_17 : decode cX10_number 17 = .ok (.ldc2_w 223, 3) := by decide +kernel
theorem dX10_number_20 : decode cX10_number 20 = .ok (.ldc2_w 225, 3) := by decide +kernel
theorem dX10_number_23 : decode cX10_number 23 = .ok (.invokestatic 63, 3) := by decide +kernel
theorem dX10_number_26 : decode cX10_number 26 = .ok (.ifCond .eq 15, 3) := by decide +kernel
theorem dX10_number_29 : decode cX10_number 29 = .ok (.bipush 10, 2) := by decide +kernel
theorem dX10_number_31 : decode cX10_number 31 = .ok (.iload_n 1, 1) := by decide +kernel
theorem dX10_number_32 : decode cX10_number 32 = .ok (.imul, 1) := by decide +kernel
theorem dX10_number_33 : decode cX10_number 33 = .ok (.aload_n 0, 1) := by decide +kernel
theorem dX10_number_34 : decode cX10_number 34 = .ok (.invokevirtual 227, 3) := by decide +kernel
theorem dX10_number_37 : decode cX10_number 37 = .ok (.iadd, 1) := by decide +kernel
theorem dX10_number_38 : decode cX10_number 38 = .ok (.goto 4, 3) := by decide +kernel
theorem dX10_number_41 : decode cX10_number 41 = .ok (.iload_n 1, 1) := by decide +kernel
theorem dX10_number_42 : decode cX10_number 42 = .ok (.ireturn, 1) := by decide +kernel
set_option maxHeartbeats 1000000 in
set_option maxRecDepth 20000 in
theorem m_number (l : Launch) (D : va_G) (aT : Nat → ClassId) (ad : Nat → Nat) (S : MSt) (u sz k : Nat) (wr : Bool) (cm : Nat → Int32) (hsz : S 13 22 = nI sz) (h60 : sz ≤ 60) (hp : u ≤ sz) : MdI l yX10_number cX10_number 2 .int 2 46 D aT ad [.ref (ad 0)] (psT S u wr k cm) (fun r S1 => r = (numP (S 4) sz (u, wr)).1 ∧ S1 = psT S (numP (S 4) sz (u, wr)).2.1 (numP (S 4) sz (u, wr)).2.2 k cm) := by
  refine MdI.of (by decide +kernel) rfl (Nat.le_of_ble_eq_true rfl) ?_
  intro p e s m below meth c A ls C hml hl hA hr hlocks hW
  have hl : lv_has ls 2 [(0, .ref (ad 0))] := hl
  have hx := C.1
  have hb := C.2.1
  refine lv_aload_n hx hb dX10_number_0 rfl (lv_at hl 0 rfl) ?_
  refine md_calli C hml hl.1 (As := []) (rest := []) (m_digit l D aT ad S u sz k wr cm hsz h60 (hp)) gT_digit hd_digit rfl ⟨Nat.le_of_ble_eq_true rfl, Nat.le_of_ble_eq_true rfl⟩ ⟨Nat.le_refl _, Nat.le_refl _⟩ hW hA rfl (Nat.le_of_ble_eq_true rfl) dX10_number_1 (fun r_1 S_1 H locs hq hW => ?_)
  obtain ⟨rfl, rfl⟩ := hq
  refine lv_istore_n (lv' := [(1, .int ((digP (S 4) sz (u, wr)).1)), (0, .ref (ad 0))]) hx hb dX10_number_4 rfl hl (by decide) rfl (fun ls hl => ?_)
  refine lv_aload_n hx hb dX10_number_5 rfl (lv_at hl 1 rfl) ?_
  refine md_get_isWrong C hW dX10_number_6 ?_
  refine r_eq (y := (bI ((digP (S 4) sz (u, wr)).2.2))) (rfl) ?_
  refine r_bI_ne hx hb (b := (digP (S 4) sz (u, wr)).2.2) (tgt := 41) dX10_number_9 (by decide) (fun c_9 => ?_) (fun c_9 => ?_)
  · refine lv_iload_n hx hb dX10_number_41 rfl (lv_at hl 0 rfl) ?_
    exact md_iret C hr hlocks rfl hW (⟨by unfold numP; rw [if_neg (by rintro ⟨z, -⟩; rw [c_9] at z; cases z)]; try rfl, by unfold numP; rw [if_neg (by rintro ⟨z, -⟩; rw [c_9] at z; cases z)]; try rfl⟩) dX10_number_42
  · refine lv_aload_n hx hb dX10_number_12 rfl (lv_at hl 1 rfl) ?_
    refine md_callg C hml hl.1 (As := []) (rest := []) (m_here l D aT ad S ((digP (S 4) sz (u, wr)).2.1) sz k ((digP (S 4) sz (u, wr)).2.2) cm hsz h60 ((digP_le hp).1)) gT_here hd_here rfl ⟨Nat.le_of_ble_eq_true rfl, Nat.le_of_ble_eq_true rfl⟩ ⟨Nat.le_refl _, Nat.le_refl _⟩ hW hA rfl (Nat.le_of_ble_eq_true rfl) dX10_number_13 (fun r_13 H locs hq hW => ?_)
    subst hq
    refine lv_i2l (v := ((hrF (S 4) sz ((digP (S 4) sz (u, wr)).2.1))).toInt64) hx hb dX10_number_16 rfl ?_
    refine lv_ldc2 hx hb C.2.2.2.1 (C.2.2.1 _ gw_2033) dX10_number_17 ?_
    refine lv_ldc2 hx hb C.2.2.2.1 (C.2.2.1 _ gw_2034) dX10_number_20 ?_
    refine md_calls C hml hl.1 (As := [.long (((hrF (S 4) sz ((digP (S 4) sz (u, wr)).2.1))).toInt64), .long 48, .long 57]) (rest := []) (m_in l (((hrF (S 4) sz ((digP (S 4) sz (u, wr)).2.1))).toInt64) 48 57) gT_in hd_in rfl ⟨Nat.le_of_ble_eq_true rfl, Nat.le_of_ble_eq_true rfl⟩ ⟨Nat.le_refl _, Nat.le_refl _⟩ rfl (Nat.le_of_ble_eq_true rfl) dX10_number_23 (fun r_23 hq => ?_)
    subst hq
    refine r_bI_eq hx hb (b := (rgB 48 57 (hrF (S 4) sz ((digP (S 4) sz (u, wr)).2.1)))) (tgt := 41) dX10_number_26 (by decide) (fun c_26 => ?_) (fun c_26 => ?_)
    · refine lv_iload_n hx hb dX10_number_41 rfl (lv_at hl 0 rfl) ?_
      exact md_iret C hr hlocks rfl hW (⟨by unfold numP; rw [if_neg (by rintro ⟨-, z⟩; exact absurd (c_26.symm.trans z) (by decide))]; try rfl, by unfold numP; rw [if_neg (by rintro ⟨-, z⟩; exact absurd (c_26.symm.trans z) (by decide))]; try rfl⟩) dX10_number_42
    · refine lv_bipush (v := nI 10) hx hb dX10_number_29 (by decide) ?_
      refine lv_iload_n hx hb dX10_number_31 rfl (lv_at hl 0 rfl) ?_
      refine lv_imul hx hb dX10_number_32 ?_
      refine lv_aload_n hx hb dX10_number_33 rfl (lv_at hl 1 rfl) ?_
      refine md_calli C hml hl.1 (As := []) (rest := [.int ((nI 10) * ((digP (S 4) sz (u, wr)).1))]) (m_digit l D aT ad S ((digP (S 4) sz (u, wr)).2.1) sz k ((digP (S 4) sz (u, wr)).2.2) cm hsz h60 ((digP_le hp).1)) gT_digit hd_digit rfl ⟨Nat.le_of_ble_eq_true rfl, Nat.le_of_ble_eq_true rfl⟩ ⟨Nat.le_refl _, Nat.le_refl _⟩ hW hA rfl (Nat.le_of_ble_eq_true rfl) dX10_number_34 (fun r_34 S_34 H locs hq hW => ?_)
      obtain ⟨rfl, rfl⟩ := hq
      refine lv_iadd hx hb dX10_number_37 ?_
      refine lv_goto (tgt := 42) hx hb dX10_number_38 (by decide) ?_
      exact md_iret C hr hlocks rfl hW (⟨by unfold numP; rw [if_pos ⟨c_9, c_26⟩]; try rfl, by unfold numP; rw [if_pos ⟨c_9, c_26⟩]; try rfl⟩) dX10_number_42
theorem gT_digitBehind : GoodIn gw (wsV RX10 236 RX10 yX10_digitBehind (Cond.code yX10_digitBehind cX10_digitBehind 1 (some .int) :: gw)) := gdV gw_2039 gw_2041 gw_58 gw_81 gw_2042
theorem hd_digitBehind : yX10_digitBehind.cls = RX10 ∧ yX10_digitBehind.cls ≠ "java/lang/invoke/MethodHandle" ∧ yX10_digitBehind.cls ≠ "java/lang/invoke/VarHandle" ∧ (parseMethodDescriptor yX10_digitBehind.desc).map (fun d => d.parameters.length) = some 0 := ⟨rfl, by decide +kernel, by decide +kernel, by decide +kernel⟩
theorem dX10_digitBehind_0 : decode cX10_digitBehind 0 = .ok (.aload_n 0, 1) := by decide +kernel
theorem dX10_digitBehind_1 : decode cX10_digitBehind 1 = .ok (.bipush 32, 2) := by decide +kernel
theorem dX10_digitBehind_3 : decode cX10_digitBehind 3 = .ok (.invokevirtual 230, 3) := by decide +kernel
theorem dX10_digitBehind_6 : decode cX10_digitBehind 6 = .ok (.aload_n 0, 1) := by decide +kernel
theorem dX10_digitBehind_7 : decode cX10_digitBehind 7 = .ok (.invokevirtual 227, 3) := by decide +kernel
theorem dX10_digitBehind_10 : decode cX10_digitBehind 10 = .ok (.ireturn, 1) := by decide +kernel
set_option maxHeartbeats 1000000 in
set_option maxRecDepth 20000 in
theorem m_digitBehind (l : Launch) (D : va_G) (aT : Nat → ClassId) (ad : Nat → Nat) (S : MSt) (u sz k : Nat) (wr : Bool) (cm : Nat → Int32) (hsz : S 13 22 = nI sz) (h60 : sz ≤ 60) (hp : u ≤ sz) : MdI l yX10_digitBehind cX10_digitBehind 1 .int 2 46 D aT ad [.ref (ad 0)] (psT S u wr k cm) (fun r S1 => r = (digP (S 4) sz (expP (S 4) sz (nI 32) (u, wr))).1 ∧ S1 = psT S (digP (S 4) sz (expP (S 4) sz (nI 32) (u, wr))).2.1 (digP (S 4) sz (expP (S 4) sz (nI 32) (u, wr))).2.2 k cm) := by
  refine MdI.of (by decide +kernel) rfl (Nat.le_of_ble_eq_true rfl) ?_
  intro p e s m below meth c A ls C hml hl hA hr hlocks hW
  have hl : lv_has ls 1 [(0, .ref (ad 0))] := hl
  have hx := C.1
  have hb := C.2.1
  refine lv_aload_n hx hb dX10_digitBehind_0 rfl (lv_at hl 0 rfl) ?_
  refine lv_bipush (v := nI 32) hx hb dX10_digitBehind_1 (by decide) ?_
  refine md_callv C hml hl.1 (As := [.int (nI 32)]) (rest := []) (m_expects l D aT ad S u sz k wr cm hsz h60 (hp) (nI 32)) gT_expects hd_expects rfl ⟨Nat.le_of_ble_eq_true rfl, Nat.le_of_ble_eq_true rfl⟩ ⟨Nat.le_refl _, Nat.le_refl _⟩ hW hA rfl (Nat.le_of_ble_eq_true rfl) dX10_digitBehind_3 (fun S_3 H locs hq hW => ?_)
  subst hq
  refine lv_aload_n hx hb dX10_digitBehind_6 rfl (lv_at hl 0 rfl) ?_
  refine md_calli C hml hl.1 (As := []) (rest := []) (m_digit l D aT ad S ((expP (S 4) sz (nI 32) (u, wr)).1) sz k ((expP (S 4) sz (nI 32) (u, wr)).2) cm hsz h60 ((expP_le (by decide) hp).1)) gT_digit hd_digit rfl ⟨Nat.le_of_ble_eq_true rfl, Nat.le_of_ble_eq_true rfl⟩ ⟨Nat.le_refl _, Nat.le_refl _⟩ hW hA rfl (Nat.le_of_ble_eq_true rfl) dX10_digitBehind_7 (fun r_7 S_7 H locs hq hW => ?_)
  obtain ⟨rfl, rfl⟩ := hq
  exact md_iret C hr hlocks rfl hW (⟨rfl, rfl⟩) dX10_digitBehind_10
theorem gT_numberBehind : GoodIn gw (wsV RX10 239 RX10 yX10_numberBehind (Cond.code yX10_numberBehind cX10_numberBehind 1 (some .int) :: gw)) := gdV gw_2047 gw_2049 gw_60 gw_81 gw_2050
theorem hd_numberBehind : yX10_numberBehind.cls = RX10 ∧ yX10_numberBehind.cls ≠ "java/lang/invoke/MethodHandle" ∧ yX10_numberBehind.cls ≠ "java/lang/invoke/VarHandle" ∧ (parseMethodDescriptor yX10_numberBehind.desc).map (fun d => d.parameters.length) = some 0 := ⟨rfl, by decide +kernel, by decide +kernel, by decide +kernel⟩
theorem dX10_numberBehind_0 : decode cX10_numberBehind 0 = .ok (.aload_n 0, 1) := by decide +kernel
theorem dX10_numberBehind_1 : decode cX10_numberBehind 1 = .ok (.bipush 32, 2) := by decide +kernel
theorem dX10_numberBehind_3 : decode cX10_numberBehind 3 = .ok (.invokevirtual 230, 3) := by decide +kernel
theorem dX10_numberBehind_6 : decode cX10_numberBehind 6 = .ok (.aload_n 0, 1) := by decide +kernel
theorem dX10_numberBehind_7 : decode cX10_numberBehind 7 = .ok (.invokevirtual 233, 3) := by decide +kernel
theorem dX10_numberBehind_10 : decode cX10_numberBehind 10 = .ok (.ireturn, 1) := by decide +kernel
set_option maxHeartbeats 1000000 in
set_option maxRecDepth 20000 in
theorem m_numberBehind (l : Launch) (D : va_G) (aT : Nat → ClassId) (ad : Nat → Nat) (S : MSt) (u sz k : Nat) (wr : Bool) (cm : Nat → Int32) (hsz : S 13 22 = nI sz) (h60 : sz ≤ 60) (hp : u ≤ sz) : MdI l yX10_numberBehind cX10_numberBehind 1 .int 3 67 D aT ad [.ref (ad 0)] (psT S u wr k cm) (fun r S1 => r = (numP (S 4) sz (expP (S 4) sz (nI 32) (u, wr))).1 ∧ S1 = psT S (numP (S 4) sz (expP (S 4) sz (nI 32) (u, wr))).2.1 (numP (S 4) sz (expP (S 4) sz (nI 32) (u, wr))).2.2 k cm) := by
  refine MdI.of (by decide +kernel) rfl (Nat.le_of_ble_eq_true rfl) ?_
  intro p e s m below meth c A ls C hml hl hA hr hlocks hW
  have hl : lv_has ls 1 [(0, .ref (ad 0))] := hl
  have hx := C.1
  have hb := C.2.1
  refine lv_aload_n hx hb dX10_numberBehind_0 rfl (lv_at hl 0 rfl) ?_
  refine lv_bipush (v := nI 32) hx hb dX10_numberBehind_1 (by decide) ?_
  refine md_callv C hml hl.1 (As := [.int (nI 32)]) (rest := []) (m_expects l D aT ad S u sz k wr cm hsz h60 (hp) (nI 32)) gT_expects hd_expects rfl ⟨Nat.le_of_ble_eq_true rfl, Nat.le_of_ble_eq_true rfl⟩ ⟨Nat.le_refl _, Nat.le_refl _⟩ hW hA rfl (Nat.le_of_ble_eq_true rfl) dX10_numberBehind_3 (fun S_3 H locs hq hW => ?_)
  subst hq
  refine lv_aload_n hx hb dX10_numberBehind_6 rfl (lv_at hl 0 rfl) ?_
  refine md_calli C hml hl.1 (As := []) (rest := []) (m_number l D aT ad S ((expP (S 4) sz (nI 32) (u, wr)).1) sz k ((expP (S 4) sz (nI 32) (u, wr)).2) cm hsz h60 ((expP_le (by decide) hp).1)) gT_number hd_number rfl ⟨Nat.le_of_ble_eq_true rfl, Nat.le_of_ble_eq_true rfl⟩ ⟨Nat.le_refl _, Nat.le_refl _⟩ hW hA rfl (Nat.le_of_ble_eq_true rfl) dX10_numberBehind_7 (fun r_7 S_7 H locs hq hW => ?_)
  obtain ⟨rfl, rfl⟩ := hq
  exact md_iret C hr hlocks rfl hW (⟨rfl, rfl⟩) dX10_numberBehind_10
end
section
def bgN (w : Nat) : Nat := [0, 6, 11, 17, 23, 30, 35, 41].getD w 41
def ltN (j : Nat) : Nat := [104, 101, 100, 103, 101, 32, 109, 97, 105, 110, 32, 97, 109, 101, 110, 100, 32, 112, 114, 117, 110, 101, 32, 114, 101, 103, 114, 111, 119, 32, 118, 111, 116, 101, 32, 115, 101, 97, 115, 111, 110].getD j 0
theorem bgN_in : ∀ w, w < 7 → bgN w + 5 ≤ bgN (w + 1) ∧ bgN (w + 1) ≤ 41 := by decide
/-- how many letters of a word stand at a place -/
def lkA (f : Nat → Int32) (sz u b : Nat) : Nat → Nat → Nat
  | 0, n => n
  | d + 1, n => if u + n < sz ∧ f (u + n) = nI (ltN (b + n)) then lkA f sz u b d (n + 1) else n
def lkF (f : Nat → Int32) (sz u w : Nat) : Nat := lkA f sz u (bgN w) (bgN (w + 1) - bgN w) 0
theorem lkA_le {f : Nat → Int32} {sz u b : Nat} : ∀ d n, lkA f sz u b d n ≤ n + d ∧ (u + n ≤ sz → u + lkA f sz u b d n ≤ sz) := by
  intro d
  induction d with
  | zero => intro n; exact ⟨Nat.le_refl _, fun h => h⟩
  | succ d ih =>
    intro n
    unfold lkA
    split
    · rename_i h
      have h1 := ih (n + 1)
      exact ⟨by omega, fun _ => h1.2 (by omega)⟩
    · exact ⟨by omega, fun h => h⟩
def digB (f : Nat → Int32) (sz : Nat) (s : Nat × Bool) : Int32 × Nat × Bool := digP f sz (expP f sz (nI 32) s)
def numB (f : Nat → Int32) (sz : Nat) (s : Nat × Bool) : Int32 × Nat × Bool := numP f sz (expP f sz (nI 32) s)
/-- the arguments of a word: place and wrongness behind them, the commands with them -/
def argP (f : Nat → Int32) (sz : Nat) (s : Nat × Bool) (t : Nat) (cm : Nat → Int32) : Nat → (Nat × Bool) × (Nat → Int32)
  | 0 => ((digB f sz (digB f sz (numP f sz s).2).2).2, upd (upd (upd cm t (numP f sz s).1) (t + 1) (digB f sz (numP f sz s).2).1) (t + 2) (digB f sz (digB f sz (numP f sz s).2).2).1)
  | 1 => ((numB f sz (digP f sz s).2).2, upd (upd cm t (digP f sz s).1) (t + 1) (numB f sz (digP f sz s).2).1)
  | 2 => ((numB f sz (digB f sz (numP f sz s).2).2).2, upd (upd (upd cm t (numP f sz s).1) (t + 1) (digB f sz (numP f sz s).2).1) (t + 2) (numB f sz (digB f sz (numP f sz s).2).2).1)
  | 3 => ((digB f sz (numP f sz s).2).2, upd (upd cm t (numP f sz s).1) (t + 1) (digB f sz (numP f sz s).2).1)
  | 4 => ((numP f sz s).2, upd cm t (numP f sz s).1)
  | 5 => ((numP f sz s).2, upd cm t (numP f sz s).1)
  | _ => (s, upd cm t (nI 0))
theorem digB_le {f : Nat → Int32} {sz : Nat} {s : Nat × Bool} (h : s.1 ≤ sz) : (digB f sz s).2.1 ≤ sz ∧ s.1 ≤ (digB f sz s).2.1 := by
  have h1 := expP_le (f := f) (c := nI 32) (s := s) (by decide) h
  have h2 := digP_le (f := f) h1.1
  exact ⟨h2.1, Nat.le_trans h1.2 h2.2⟩
theorem numB_le {f : Nat → Int32} {sz : Nat} {s : Nat × Bool} (h : s.1 ≤ sz) : (numB f sz s).2.1 ≤ sz ∧ s.1 ≤ (numB f sz s).2.1 := by
  have h1 := expP_le (f := f) (c := nI 32) (s := s) (by decide) h
  have h2 := numP_le (f := f) h1.1
  exact ⟨h2.1, Nat.le_trans h1.2 h2.2⟩
theorem argP_le {f : Nat → Int32} {sz : Nat} {s : Nat × Bool} {t : Nat} {cm : Nat → Int32} (h : s.1 ≤ sz) : ∀ w, w < 7 → (argP f sz s t cm w).1.1 ≤ sz ∧ s.1 ≤ (argP f sz s t cm w).1.1 := by
  intro w hw
  have n1 := numP_le (f := f) h
  have d1 := digP_le (f := f) h
  have n1d := digB_le (f := f) n1.1
  have d1n := numB_le (f := f) d1.1
  have n1dd := digB_le (f := f) n1d.1
  have n1dn := numB_le (f := f) n1d.1
  match w, hw with
  | 0, _ => exact ⟨n1dd.1, Nat.le_trans n1.2 (Nat.le_trans n1d.2 n1dd.2)⟩
  | 1, _ => exact ⟨d1n.1, Nat.le_trans d1.2 d1n.2⟩
  | 2, _ => exact ⟨n1dn.1, Nat.le_trans n1.2 (Nat.le_trans n1d.2 n1dn.2)⟩
  | 3, _ => exact ⟨n1d.1, Nat.le_trans n1.2 n1d.2⟩
  | 4, _ => exact n1
  | 5, _ => exact n1
  | 6, _ => exact ⟨h, Nat.le_refl _⟩
/-- the word that is most like the text at a place, of the first -/
def wdP (f : Nat → Int32) (sz u : Nat) : Nat → Nat
  | 0 => 0
  | j + 1 => if lkF f sz u (wdP f sz u j) < lkF f sz u (j + 1) then j + 1 else wdP f sz u j
theorem wdP_le {f : Nat → Int32} {sz u : Nat} : ∀ j, wdP f sz u j ≤ j := by
  intro j
  induction j with
  | zero => exact Nat.le_refl _
  | succ j ih => unfold wdP; split <;> omega
/-- a command read at a place: place and wrongness, how many commands, the commands -/
def cmdP (f : Nat → Int32) (sz k : Nat) (cm : Nat → Int32) (u : Nat) : (Nat × Bool) × Nat × (Nat → Int32) :=
  if lkF f sz u (wdP f sz u 6) < bgN (wdP f sz u 6 + 1) - bgN (wdP f sz u 6) then ((u + lkF f sz u (wdP f sz u 6), true), k, cm)
  else ((argP f sz (u + lkF f sz u (wdP f sz u 6), false) (4 * k + 1) (upd cm (4 * k) (nI (wdP f sz u 6))) (wdP f sz u 6)).1, k + 1, (argP f sz (u + lkF f sz u (wdP f sz u 6), false) (4 * k + 1) (upd cm (4 * k) (nI (wdP f sz u 6))) (wdP f sz u 6)).2)
def WdOk (S : MSt) : Prop := (∀ j, j < 8 → S 10 j = nI (bgN j)) ∧ ∀ j, j < 41 → S 9 j = nI (ltN j)
theorem gT_likeness : GoodIn gw (wsV RX10 245 RX10 yX10_likeness (Cond.code yX10_likeness cX10_likeness 4 (some .int) :: gw)) := gdV gw_2017 gw_2019 gw_53 gw_81 gw_2020
theorem hd_likeness : yX10_likeness.cls = RX10 ∧ yX10_likeness.cls ≠ "java/lang/invoke/MethodHandle" ∧ yX10_likeness.cls ≠ "java/lang/invoke/VarHandle" ∧ (parseMethodDescriptor yX10_likeness.desc).map (fun d => d.parameters.length) = some 1 := ⟨rfl, by decide +kernel, by decide +kernel, by decide +kernel⟩
theorem dX10_likeness_0 : decode cX10_likeness 0 = .ok (.iconst 0, 1) := by decide +kernel
theorem dX10_likeness_1 : decode cX10_likeness 1 = .ok (.istore_n 2, 1) := by decide +kernel
theorem dX10_likeness_2 : decode cX10_likeness 2 = .ok (.aload_n 0, 1) := by decide +kernel
theorem dX10_likeness_3 : decode cX10_likeness 3 = .ok (.getfield 48, 3) := by decide +kernel
theorem dX10_likeness_6 : decode cX10_likeness 6 = .ok (.iload_n 1, 1) := by decide +kernel
theorem dX10_likeness_7 : decode cX10_likeness 7 = .ok (.iconst 1, 1) := by decide +kernel
theorem dX10_likeness_8 : decode cX10_likeness 8 = .ok (.iadd, 1) := by decide +kernel
theorem dX10_likeness_9 : decode cX10_likeness 9 = .ok (.iaload, 1) := by decide +kernel
theorem dX10_likeness_10 : decode cX10_likeness 10 = .ok (.aload_n 0, 1) := by decide +kernel
theorem dX10_likeness_11 : decode cX10_likeness 11 = .ok (.getfield 48, 3) := by decide +kernel
theorem dX10_likeness_14 : decode cX10_likeness 14 = .ok (.iload_n 1, 1) := by decide +kernel
theorem dX10_likeness_15 : decode cX10_likeness 15 = .ok (.iaload, 1) := by decide +kernel
theorem dX10_likeness_16 : decode cX10_likeness 16 = .ok (.isub, 1) := by decide +kernel
theorem dX10_likeness_17 : decode cX10_likeness 17 = .ok (.istore_n 3, 1) := by decide +kernel
theorem dX10_likeness_18 : decode cX10_likeness 18 = .ok (.iload_n 2, 1) := by decide +kernel
theorem dX10_likeness_19 : decode cX10_likeness 19 = .ok (.iload_n 3, 1) := by decide +kernel
theorem dX10_likeness_20 : decode cX10_likeness 20 = .ok (.if_icmp .ge 49, 3) := by decide +kernel
theorem dX10_likeness_23 : decode cX10_likeness 23 = .ok (.aload_n 0, 1) := by decide +kernel
theorem dX10_likeness_24 : decode cX10_likeness 24 = .ok (.getfield 210, 3) := by decide +kernel
theorem dX10_likeness_27 : decode cX10_likeness 27 = .ok (.iload_n 2, 1) := by decide +kernel
theorem dX10_likeness_28 : decode cX10_likeness 28 = .ok (.iadd, 1) := by decide +kernel
theorem dX10_likeness_29 : decode cX10_likeness 29 = .ok (.aload_n 0, 1) := by decide +kernel
theorem dX10_likeness_30 : decode cX10_likeness 30 = .ok (.getfield 213, 3) := by decide +kernel
theorem dX10_likeness_33 : decode cX10_likeness 33 = .ok (.if_icmp .ge 36, 3) := by decide +kernel
theorem dX10_likeness_36 : decode cX10_likeness 36 = .ok (.aload_n 0, 1) := by decide +kernel
theorem dX10_likeness_37 : decode cX10_likeness 37 = .ok (.getfield 29, 3) := by decide +kernel
theorem dX10_likeness_40 : decode cX10_likeness 40 = .ok (.aload_n 0, 1) := by decide +kernel
theorem dX10_likeness_41 : decode cX10_likeness 41 = .ok (.getfield 210, 3) := by decide +kernel
theorem dX10_likeness_44 : decode cX10_likeness 44 = .ok (.iload_n 2, 1) := by decide +kernel
theorem dX10_likeness_45 : decode cX10_likeness 45 = .ok (.iadd, 1) := by decide +kernel
theorem dX10_likeness_46 : decode cX10_likeness 46 = .ok (.iaload, 1) := by decide +kernel
theorem dX10_likeness_47 : decode cX10_likeness 47 = .ok (.aload_n 0, 1) := by decide +kernel
theorem dX10_likeness_48 : decode cX10_likeness 48 = .ok (.getfield 44, 3) := by decide +kernel
theorem dX10_likeness_51 : decode cX10_likeness 51 = .ok (.aload_n 0, 1) := by decide +kernel
theorem dX10_likeness_52 : decode cX10_likeness 52 = .ok (.getfield 48, 3) := by decide +kernel
theorem dX10_likeness_55 : decode cX10_likeness 55 = .ok (.iload_n 1, 1) := by decide +kernel
theorem dX10_likeness_56 : decode cX10_likeness 56 = .ok (.iaload, 1) := by decide +kernel
theorem dX10_likeness_57 : decode cX10_likeness 57 = .ok (.iload_n 2, 1) := by decide +kernel
theorem dX10_likeness_58 : decode cX10_likeness 58 = .ok (.iadd, 1) := by decide +kernel
theorem dX10_likeness_59 : decode cX10_likeness 59 = .ok (.caload, 1) := by decide +kernel
theorem dX10_likeness_60 : decode cX10_likeness 60 = .ok (.if_icmp .ne 9, 3) := by decide +kernel
theorem dX10_likeness_63 : decode cX10_likeness 63 = .ok (.iinc 2 1, 3) := by decide +kernel
theorem dX10_likeness_66 : decode cX10_likeness 66 = .ok (.goto (-48), 3) := by decide +kernel
theorem dX10_likeness_69 : decode cX10_likeness 69 = .ok (.iload_n 2, 1) := by decide +kernel
theorem dX10_likeness_70 : decode cX10_likeness 70 = .ok (.ireturn, 1) := by decide +kernel
set_option maxHeartbeats 1000000 in
set_option maxRecDepth 20000 in
theorem m_likeness (l : Launch) (D : va_G) (aT : Nat → ClassId) (ad : Nat → Nat) (S : MSt) (u sz k : Nat) (wr : Bool) (cm : Nat → Int32) (hsz : S 13 22 = nI sz) (h60 : sz ≤ 60) (hp : u ≤ sz) (w : Nat) (hw7 : w < 7) (hwd : WdOk S) : MdG l yX10_likeness cX10_likeness 4 .int 0 0 D aT ad [.ref (ad 0), .int (nI w)] (psT S u wr k cm) (fun r => r = nI (lkF (S 4) sz u w)) := by
  refine MdI.of (by decide +kernel) rfl (Nat.le_of_ble_eq_true rfl) ?_
  intro p e s m below meth c A ls C hml hl hA hr hlocks hW
  have hl : lv_has ls 4 [(0, .ref (ad 0)), (1, .int (nI w))] := hl
  have hx := C.1
  have hb := C.2.1
  refine lv_iconst (v := nI 0) hx hb dX10_likeness_0 (by decide) ?_
  refine lv_istore_n (lv' := [(2, .int (nI 0)), (0, .ref (ad 0)), (1, .int (nI w))]) hx hb dX10_likeness_1 rfl hl (by decide) rfl (fun ls hl => ?_)
  refine lv_aload_n hx hb dX10_likeness_2 rfl (lv_at hl 1 rfl) ?_
  refine md_geta_begins0 C hW dX10_likeness_3 ?_
  refine lv_iload_n hx hb dX10_likeness_6 rfl (lv_at hl 2 rfl) ?_
  refine lv_iconst (v := nI 1) hx hb dX10_likeness_7 (by decide) ?_
  refine r_iaddN hx hb (a := w) (b := 1) dX10_likeness_8 ?_
  refine md_ald_begins0 C hW (i := w + 1) (by omega) dX10_likeness_9 ?_
  refine r_eq (y := (nI (bgN (w + 1)))) (hwd.1 _ (by omega)) ?_
  refine lv_aload_n hx hb dX10_likeness_10 rfl (lv_at hl 1 rfl) ?_
  refine md_geta_begins0 C hW dX10_likeness_11 ?_
  refine lv_iload_n hx hb dX10_likeness_14 rfl (lv_at hl 2 rfl) ?_
  refine md_ald_begins0 C hW (i := w) (by omega) dX10_likeness_15 ?_
  refine r_eq (y := (nI (bgN w))) (hwd.1 _ (by omega)) ?_
  refine r_isubN hx hb (a := (bgN (w + 1))) (b := (bgN w)) (by have := bgN_in w hw7; omega) dX10_likeness_16 ?_
  refine lv_istore_n (lv' := [(3, .int (nI ((bgN (w + 1)) - (bgN w)))), (2, .int (nI 0)), (0, .ref (ad 0)), (1, .int (nI w))]) hx hb dX10_likeness_17 rfl hl (by decide) rfl (fun ls hl => ?_)
  refine W_loopH (σ := Nat) (fun z_ => (bgN (w + 1) - bgN w) - z_) (fun z_ H locs g => ∃ ls, g = F0 m 18 ls [] ∧ lv_has ls 4 [(0, .ref (ad 0)), (1, .int (nI w)), (2, .int (nI z_)), (3, .int (nI (bgN (w + 1) - bgN w)))] ∧ MdB D aT ad (psT S u wr k cm) A s.heap H locs ∧ (lkA (S 4) sz u (bgN w) ((bgN (w + 1) - bgN w) - z_) z_ = lkF (S 4) sz u w ∧ z_ ≤ (bgN (w + 1) - bgN w))) ?_ 0 _ ⟨_, rfl, lv_sub hl [2, 3, 1, 0] rfl, hW, ⟨rfl, Nat.zero_le _⟩⟩
  clear hW hl
  rintro n H locs g ⟨ls, rfl, hl, hW, he, hn⟩ ih_18
  have hb5 := bgN_in w hw7
  refine lv_iload_n hx hb dX10_likeness_18 rfl (lv_at hl 2 rfl) ?_
  refine lv_iload_n hx hb dX10_likeness_19 rfl (lv_at hl 3 rfl) ?_
  refine r_geN hx hb (a := n) (b := (bgN (w + 1) - bgN w)) (by omega) (by omega) (tgt := 69) dX10_likeness_20 (by decide) (fun c_20 => ?_) (fun c_20 => ?_)
  · refine lv_iload_n hx hb dX10_likeness_69 rfl (lv_at hl 2 rfl) ?_
    exact md_iret C hr hlocks rfl hW (⟨by rw [← he, show (bgN (w + 1) - bgN w) - n = 0 by omega]; rfl, rfl⟩) dX10_likeness_70
  · refine lv_aload_n hx hb dX10_likeness_23 rfl (lv_at hl 0 rfl) ?_
    refine md_get_place0 C hW dX10_likeness_24 ?_
    refine r_eq (y := (nI u)) (rfl) ?_
    refine lv_iload_n hx hb dX10_likeness_27 rfl (lv_at hl 2 rfl) ?_
    refine r_iaddN hx hb (a := u) (b := n) dX10_likeness_28 ?_
    refine lv_aload_n hx hb dX10_likeness_29 rfl (lv_at hl 0 rfl) ?_
    refine md_get_size0 C hW dX10_likeness_30 ?_
    refine r_eq (y := (nI sz)) (hsz) ?_
    refine r_geN hx hb (a := u + n) (b := sz) (by omega) (by omega) (tgt := 69) dX10_likeness_33 (by decide) (fun c_33 => ?_) (fun c_33 => ?_)
    · refine lv_iload_n hx hb dX10_likeness_69 rfl (lv_at hl 2 rfl) ?_
      exact md_iret C hr hlocks rfl hW (⟨by rw [← he, show (bgN (w + 1) - bgN w) - n = ((bgN (w + 1) - bgN w) - n - 1) + 1 by omega, lkA, if_neg (fun z => by have := z.1; omega)], rfl⟩) dX10_likeness_70
    · refine lv_aload_n hx hb dX10_likeness_36 rfl (lv_at hl 0 rfl) ?_
      refine md_geta_input C hW dX10_likeness_37 ?_
      refine lv_aload_n hx hb dX10_likeness_40 rfl (lv_at hl 0 rfl) ?_
      refine md_get_place0 C hW dX10_likeness_41 ?_
      refine r_eq (y := (nI u)) (rfl) ?_
      refine lv_iload_n hx hb dX10_likeness_44 rfl (lv_at hl 2 rfl) ?_
      refine r_iaddN hx hb (a := u) (b := n) dX10_likeness_45 ?_
      refine md_ald_input C hW (i := u + n) (by omega) dX10_likeness_46 ?_
      refine r_eq (y := (S 4 (u + n))) (rfl) ?_
      refine lv_aload_n hx hb dX10_likeness_47 rfl (lv_at hl 0 rfl) ?_
      refine md_geta_letters C hW dX10_likeness_48 ?_
      refine lv_aload_n hx hb dX10_likeness_51 rfl (lv_at hl 0 rfl) ?_
      refine md_geta_begins0 C hW dX10_likeness_52 ?_
      refine lv_iload_n hx hb dX10_likeness_55 rfl (lv_at hl 1 rfl) ?_
      refine md_ald_begins0 C hW (i := w) (by omega) dX10_likeness_56 ?_
      refine r_eq (y := (nI (bgN w))) (hwd.1 _ (by omega)) ?_
      refine lv_iload_n hx hb dX10_likeness_57 rfl (lv_at hl 2 rfl) ?_
      refine r_iaddN hx hb (a := (bgN w)) (b := n) dX10_likeness_58 ?_
      refine md_ald_letters C hW (i := bgN w + n) (by omega) dX10_likeness_59 ?_
      refine r_eq (y := (nI (ltN (bgN w + n)))) (hwd.2 _ (by have := bgN_in w hw7; omega)) ?_
      refine lv_icmp_ne hx hb (x := (S 4 (u + n))) (y := (nI (ltN (bgN w + n)))) (tgt := 69) dX10_likeness_60 (by decide) (fun c_60 => ?_) (fun c_60 => ?_)
      · refine lv_iload_n hx hb dX10_likeness_69 rfl (lv_at hl 2 rfl) ?_
        exact md_iret C hr hlocks rfl hW (⟨by rw [← he, show (bgN (w + 1) - bgN w) - n = ((bgN (w + 1) - bgN w) - n - 1) + 1 by omega, lkA, if_neg (fun z => c_60 z.2)], rfl⟩) dX10_likeness_70
      · refine lv_iinc (v := (nI (n + 1))) (lv' := [(2, .int (nI (n + 1))), (0, .ref (ad 0)), (1, .int (nI w)), (3, .int (nI (bgN (w + 1) - bgN w)))]) hx hb dX10_likeness_63 hl (k := 2) rfl (nI_1 _) (by decide) rfl (fun ls hl => ?_)
        refine lv_goto (tgt := 18) hx hb dX10_likeness_66 (by decide) ?_
        exact ih_18 (n + 1) _ _ _ (by omega) ⟨_, rfl, lv_sub hl [1, 2, 0, 3] rfl, hW, ⟨by rw [← he, show (bgN (w + 1) - bgN w) - n = ((bgN (w + 1) - bgN w) - (n + 1)) + 1 by omega, lkA, if_pos ⟨by omega, c_60⟩], by omega⟩⟩
theorem gT_readArguments : GoodIn gw (wsV RX10 248 RX10 yX10_readArguments (Cond.code yX10_readArguments cX10_readArguments 3 (none) :: gw)) := gdV gw_2021 gw_2023 gw_54 gw_81 gw_2024
theorem hd_readArguments : yX10_readArguments.cls = RX10 ∧ yX10_readArguments.cls ≠ "java/lang/invoke/MethodHandle" ∧ yX10_readArguments.cls ≠ "java/lang/invoke/VarHandle" ∧ (parseMethodDescriptor yX10_readArguments.desc).map (fun d => d.parameters.length) = some 2 := ⟨rfl, by decide +kernel, by decide +kernel, by decide +kernel⟩
theorem dX10_readArguments_0 : decode cX10_readArguments 0 = .ok (.aload_n 0, 1) := by decide +kernel
theorem dX10_readArguments_1 : decode cX10_readArguments 1 = .ok (.getfield 51, 3) := by decide +kernel
theorem dX10_readArguments_4 : decode cX10_readArguments 4 = .ok (.iload_n 2, 1) := by decide +kernel
theorem dX10_readArguments_5 : decode cX10_readArguments 5 = .ok (.iload_n 1, 1) := by decide +kernel
theorem dX10_readArguments_6 : decode cX10_readArguments 6 = .ok (.bipush 6, 2) := by decide +kernel
theorem dX10_readArguments_8 : decode cX10_readArguments 8 = .ok (.if_icmp .ne 7, 3) := by decide +kernel
theorem dX10_readArguments_11 : decode cX10_readArguments 11 = .ok (.iconst 0, 1) := by decide +kernel
theorem dX10_readArguments_12 : decode cX10_readArguments 12 = .ok (.goto 19, 3) := by decide +kernel
theorem dX10_readArguments_15 : decode cX10_readArguments 15 = .ok (.iload_n 1, 1) := by decide +kernel
theorem dX10_readArguments_16 : decode cX10_readArguments 16 = .ok (.iconst 1, 1) := by decide +kernel
theorem dX10_readArguments_17 : decode cX10_readArguments 17 = .ok (.if_icmp .ne 10, 3) := by decide +kernel
theorem dX10_readArguments_20 : decode cX10_readArguments 20 = .ok (.aload_n 0, 1) := by decide +kernel
theorem dX10_readArguments_21 : decode cX10_readArguments 21 = .ok (.invokevirtual 227, 3) := by decide +kernel
theorem dX10_readArguments_24 : decode cX10_readArguments 24 = .ok (.goto 7, 3) := by decide +kernel
theorem dX10_readArguments_27 : decode cX10_readArguments 27 = .ok (.aload_n 0, 1) := by decide +kernel
theorem dX10_readArguments_28 : decode cX10_readArguments 28 = .ok (.invokevirtual 233, 3) := by decide +kernel
theorem dX10_readArguments_31 : decode cX10_readArguments 31 = .ok (.iastore, 1) := by decide +kernel
theorem dX10_readArguments_32 : decode cX10_readArguments 32 = .ok (.iload_n 1, 1) := by decide +kernel
theorem dX10_readArguments_33 : decode cX10_readArguments 33 = .ok (.tableswitch 115 0 3 #[31, 58, 73, 100], 31) := by decide +kernel
theorem dX10_readArguments_64 : decode cX10_readArguments 64 = .ok (.aload_n 0, 1) := by decide +kernel
theorem dX10_readArguments_65 : decode cX10_readArguments 65 = .ok (.getfield 51, 3) := by decide +kernel
theorem dX10_readArguments_68 : decode cX10_readArguments 68 = .ok (.iload_n 2, 1) := by decide +kernel
theorem dX10_readArguments_69 : decode cX10_readArguments 69 = .ok (.iconst 1, 1) := by decide +kernel
theorem dX10_readArguments_70 : decode cX10_readArguments 70 = .ok (.iadd, 1) := by decide +kernel
theorem dX10_readArguments_71 : decode cX10_readArguments 71 = .ok (.aload_n 0, 1) := by decide +kernel
theorem dX10_readArguments_72 : decode cX10_readArguments 72 = .ok (.invokevirtual 236, 3) := by decide +kernel
theorem dX10_readArguments_75 : decode cX10_readArguments 75 = .ok (.iastore, 1) := by decide +kernel
theorem dX10_readArguments_76 : decode cX10_readArguments 76 = .ok (.aload_n 0, 1) := by decide +kernel
theorem dX10_readArguments_77 : decode cX10_readArguments 77 = .ok (.getfield 51, 3) := by decide +kernel
theorem dX10_readArguments_80 : decode cX10_readArguments 80 = .ok (.iload_n 2, 1) := by decide +kernel
theorem dX10_readArguments_81 : decode cX10_readArguments 81 = .ok (.iconst 2, 1) := by decide +kernel
theorem dX10_readArguments_82 : decode cX10_readArguments 82 = .ok (.iadd, 1) := by decide +kernel
theorem dX10_readArguments_83 : decode cX10_readArguments 83 = .ok (.aload_n 0, 1) := by decide +kernel
theorem dX10_readArguments_84 : decode cX10_readArguments 84 = .ok (.invokevirtual 236, 3) := by decide +kernel
theorem dX10_readArguments_87 : decode cX10_readArguments 87 = .ok (.iastore, 1) := by decide +kernel
theorem dX10_readArguments_88 : decode cX10_readArguments 88 = .ok (.goto 60, 3) := by decide +kernel
theorem dX10_readArguments_91 : decode cX10_readArguments 91 = .ok (.aload_n 0, 1) := by decide +kernel
theorem dX10_readArguments_92 : decode cX10_readArguments 92 = .ok (.getfield 51, 3) := by decide +kernel
theorem dX10_readArguments_95 : decode cX10_readArguments 95 = .ok (.iload_n 2, 1) := by decide +kernel
theorem dX10_readArguments_96 : decode cX10_readArguments 96 = .ok (.iconst 1, 1) := by decide +kernel
theorem dX10_readArguments_97 : decode cX10_readArguments 97 = .ok (.iadd, 1) := by decide +kernel
theorem dX10_readArguments_98 : decode cX10_readArguments 98 = .ok (.aload_n 0, 1) := by decide +kernel
theorem dX10_readArguments_99 : decode cX10_readArguments 99 = .ok (.invokevirtual 239, 3) := by decide +kernel
theorem dX10_readArguments_102 : decode cX10_readArguments 102 = .ok (.iastore, 1) := by decide +kernel
theorem dX10_readArguments_103 : decode cX10_readArguments 103 = .ok (.goto 45, 3) := by decide +kernel
theorem dX10_readArguments_106 : decode cX10_readArguments 106 = .ok (.aload_n 0, 1) := by decide +kernel
theorem dX10_readArguments_107 : decode cX10_readArguments 107 = .ok (.getfield 51, 3) := by decide +kernel
theorem dX10_readArguments_110 : decode cX10_readArguments 110 = .ok (.iload_n 2, 1) := by decide +kernel
theorem dX10_readArguments_111 : decode cX10_readArguments 111 = .ok (.iconst 1, 1) := by decide +kernel
theorem dX10_readArguments_112 : decode cX10_readArguments 112 = .ok (.iadd, 1) := by decide +kernel
theorem dX10_readArguments_113 : decode cX10_readArguments 113 = .ok (.aload_n 0, 1) := by decide +kernel
theorem dX10_readArguments_114 : decode cX10_readArguments 114 = .ok (.invokevirtual 236, 3) := by decide +kernel
theorem dX10_readArguments_117 : decode cX10_readArguments 117 = .ok (.iastore, 1) := by decide +kernel
theorem dX10_readArguments_118 : decode cX10_readArguments 118 = .ok (.aload_n 0, 1) := by decide +kernel
theorem dX10_readArguments_119 : decode cX10_readArguments 119 = .ok (.getfield 51, 3) := by decide +kernel
theorem dX10_readArguments_122 : decode cX10_readArguments 122 = .ok (.iload_n 2, 1) := by decide +kernel
theorem dX10_readArguments_123 : decode cX10_readArguments 123 = .ok (.iconst 2, 1) := by decide +kernel
theorem dX10_readArguments_124 : decode cX10_readArguments 124 = .ok (.iadd, 1) := by decide +kernel
theorem dX10_readArguments_125 : decode cX10_readArguments 125 = .ok (.aload_n 0, 1) := by decide +kernel
theorem dX10_readArguments_126 : decode cX10_readArguments 126 = .ok (.invokevirtual 239, 3) := by decide +kernel
theorem dX10_readArguments_129 : decode cX10_readArguments 129 = .ok (.iastore, 1) := by decide +kernel
theorem dX10_readArguments_130 : decode cX10_readArguments 130 = .ok (.goto 18, 3) := by decide +kernel
theorem dX10_readArguments_133 : decode cX10_readArguments 133 = .ok (.aload_n 0, 1) := by decide +kernel
theorem dX10_readArguments_134 : decode cX10_readArguments 134 = .ok (.getfield 51, 3) := by decide +kernel
theorem dX10_readArguments_137 : decode cX10_readArguments 137 = .ok (.iload_n 2, 1) := by decide +kernel
theorem dX10_readArguments_138 : decode cX10_readArguments 138 = .ok (.iconst 1, 1) := by decide +kernel
theorem dX10_readArguments_139 : decode cX10_readArguments 139 = .ok (.iadd, 1) := by decide +kernel
theorem dX10_readArguments_140 : decode cX10_readArguments 140 = .ok (.aload_n 0, 1) := by decide +kernel
theorem dX10_readArguments_141 : decode cX10_readArguments 141 = .ok (.invokevirtual 236, 3) := by decide +kernel
theorem dX10_readArguments_144 : decode cX10_readArguments 144 = .ok (.iastore, 1) := by decide +kernel
theorem dX10_readArguments_145 : decode cX10_readArguments 145 = .ok (.goto 3, 3) := by decide +kernel
theorem dX10_readArguments_148 : decode cX10_readArguments 148 = .ok (.return_, 1) := by decide +kernel
set_option maxHeartbeats 2000000 in
set_option maxRecDepth 20000 in
theorem m_readArguments (l : Launch) (D : va_G) (aT : Nat → ClassId) (ad : Nat → Nat) (S : MSt) (u sz k : Nat) (wr : Bool) (cm : Nat → Int32) (hsz : S 13 22 = nI sz) (h60 : sz ≤ 60) (hp : u ≤ sz) (t : Nat) (ht : t + 2 < 244) : MdV l yX10_readArguments cX10_readArguments 3 4 87 D aT ad [.ref (ad 0), .int (nI 0), .int (nI t)] (psT S u wr k cm) (fun S1 => S1 = psT S (argP (S 4) sz (u, wr) t cm 0).1.1 (argP (S 4) sz (u, wr) t cm 0).1.2 k (argP (S 4) sz (u, wr) t cm 0).2) := by
  refine MdV.of (by decide +kernel) rfl (Nat.le_of_ble_eq_true rfl) ?_
  intro p e s m below meth c A ls C hml hl hA hr hlocks hW
  have hl : lv_has ls 3 [(0, .ref (ad 0)), (1, .int (nI 0)), (2, .int (nI t))] := hl
  have hx := C.1
  have hb := C.2.1
  refine lv_aload_n hx hb dX10_readArguments_0 rfl (lv_at hl 0 rfl) ?_
  refine md_geta_commands C hW dX10_readArguments_1 ?_
  refine lv_iload_n hx hb dX10_readArguments_4 rfl (lv_at hl 2 rfl) ?_
  refine lv_iload_n hx hb dX10_readArguments_5 rfl (lv_at hl 1 rfl) ?_
  refine lv_bipush (v := nI 6) hx hb dX10_readArguments_6 (by decide) ?_
  refine r_neN hx hb (a := 0) (b := 6) (by omega) (by omega) (tgt := 15) dX10_readArguments_8 (by decide) (fun c_8 => ?_) (fun c_8 => ?_)
  · refine lv_iload_n hx hb dX10_readArguments_15 rfl (lv_at hl 1 rfl) ?_
    refine lv_iconst (v := nI 1) hx hb dX10_readArguments_16 (by decide) ?_
    refine r_neN hx hb (a := 0) (b := 1) (by omega) (by omega) (tgt := 27) dX10_readArguments_17 (by decide) (fun c_17 => ?_) (fun c_17 => ?_)
    · refine lv_aload_n hx hb dX10_readArguments_27 rfl (lv_at hl 0 rfl) ?_
      refine md_calli C hml hl.1 (As := []) (rest := [.int (nI t), .ref (ad 12)]) (m_number l D aT ad S u sz k wr cm hsz h60 (hp)) gT_number hd_number rfl ⟨Nat.le_of_ble_eq_true rfl, Nat.le_of_ble_eq_true rfl⟩ ⟨Nat.le_refl _, Nat.le_refl _⟩ hW hA rfl (Nat.le_of_ble_eq_true rfl) dX10_readArguments_28 (fun r_28 S_28 H locs hq hW => ?_)
      obtain ⟨rfl, rfl⟩ := hq
      refine md_ast_commands C hW (i := t) (by omega) dX10_readArguments_31 (fun H locs hW => ?_)
      have hW : MdB D aT ad (psT S ((numP (S 4) sz (u, wr)).2.1) ((numP (S 4) sz (u, wr)).2.2) k (upd cm t (((numP (S 4) sz (u, wr)).1)))) A s.heap H locs := by rw [← psT_c S ((numP (S 4) sz (u, wr)).2.1) ((numP (S 4) sz (u, wr)).2.2) k cm (upd cm t (((numP (S 4) sz (u, wr)).1)))]; exact hW
      refine lv_iload_n hx hb dX10_readArguments_32 rfl (lv_at hl 1 rfl) ?_
      refine lv_tableIn (x := nI 0) (off := 31) (tgt := 64) hx hb dX10_readArguments_33 (by decide) (by decide) (by decide) (by decide) ?_
      refine lv_aload_n hx hb dX10_readArguments_64 rfl (lv_at hl 0 rfl) ?_
      refine md_geta_commands C hW dX10_readArguments_65 ?_
      refine lv_iload_n hx hb dX10_readArguments_68 rfl (lv_at hl 2 rfl) ?_
      refine lv_iconst (v := nI 1) hx hb dX10_readArguments_69 (by decide) ?_
      refine r_iaddN hx hb (a := t) (b := 1) dX10_readArguments_70 ?_
      refine lv_aload_n hx hb dX10_readArguments_71 rfl (lv_at hl 0 rfl) ?_
      refine md_calli C hml hl.1 (As := []) (rest := [.int (nI (t + 1)), .ref (ad 12)]) (m_digitBehind l D aT ad S ((numP (S 4) sz (u, wr)).2.1) sz k ((numP (S 4) sz (u, wr)).2.2) (upd cm t (((numP (S 4) sz (u, wr)).1))) hsz h60 ((numP_le hp).1)) gT_digitBehind hd_digitBehind rfl ⟨Nat.le_of_ble_eq_true rfl, Nat.le_of_ble_eq_true rfl⟩ ⟨Nat.le_refl _, Nat.le_refl _⟩ hW hA rfl (Nat.le_of_ble_eq_true rfl) dX10_readArguments_72 (fun r_72 S_72 H locs hq hW => ?_)
      obtain ⟨rfl, rfl⟩ := hq
      refine md_ast_commands C hW (i := t + 1) (by omega) dX10_readArguments_75 (fun H locs hW => ?_)
      have hW : MdB D aT ad (psT S ((digB (S 4) sz ((numP (S 4) sz (u, wr)).2.1, (numP (S 4) sz (u, wr)).2.2)).2.1) ((digB (S 4) sz ((numP (S 4) sz (u, wr)).2.1, (numP (S 4) sz (u, wr)).2.2)).2.2) k (upd (upd cm t (((numP (S 4) sz (u, wr)).1))) (t + 1) (((digB (S 4) sz ((numP (S 4) sz (u, wr)).2.1, (numP (S 4) sz (u, wr)).2.2)).1)))) A s.heap H locs := by rw [← psT_c S ((digB (S 4) sz ((numP (S 4) sz (u, wr)).2.1, (numP (S 4) sz (u, wr)).2.2)).2.1) ((digB (S 4) sz ((numP (S 4) sz (u, wr)).2.1, (numP (S 4) sz (u, wr)).2.2)).2.2) k (upd cm t (((numP (S 4) sz (u, wr)).1))) (upd (upd cm t (((numP (S 4) sz (u, wr)).1))) (t + 1) (((digB (S 4) sz ((numP (S 4) sz (u, wr)).2.1, (numP (S 4) sz (u, wr)).2.2)).1)))]; exact hW
      refine lv_aload_n hx hb dX10_readArguments_76 rfl (lv_at hl 0 rfl) ?_
      refine md_geta_commands C hW dX10_readArguments_77 ?_
      refine lv_iload_n hx hb dX10_readArguments_80 rfl (lv_at hl 2 rfl) ?_
      refine lv_iconst (v := nI 2) hx hb dX10_readArguments_81 (by decide) ?_
      refine r_iaddN hx hb (a := t) (b := 2) dX10_readArguments_82 ?_
      refine lv_aload_n hx hb dX10_readArguments_83 rfl (lv_at hl 0 rfl) ?_
      refine md_calli C hml hl.1 (As := []) (rest := [.int (nI (t + 2)), .ref (ad 12)]) (m_digitBehind l D aT ad S ((digB (S 4) sz ((numP (S 4) sz (u, wr)).2.1, (numP (S 4) sz (u, wr)).2.2)).2.1) sz k ((digB (S 4) sz ((numP (S 4) sz (u, wr)).2.1, (numP (S 4) sz (u, wr)).2.2)).2.2) (upd (upd cm t (((numP (S 4) sz (u, wr)).1))) (t + 1) (((digB (S 4) sz ((numP (S 4) sz (u, wr)).2.1, (numP (S 4) sz (u, wr)).2.2)).1))) hsz h60 ((digB_le ((numP_le hp).1)).1)) gT_digitBehind hd_digitBehind rfl ⟨Nat.le_of_ble_eq_true rfl, Nat.le_of_ble_eq_true rfl⟩ ⟨Nat.le_refl _, Nat.le_refl _⟩ hW hA rfl (Nat.le_of_ble_eq_true rfl) dX10_readArguments_84 (fun r_84 S_84 H locs hq hW => ?_)
      obtain ⟨rfl, rfl⟩ := hq
      refine md_ast_commands C hW (i := t + 2) (by omega) dX10_readArguments_87 (fun H locs hW => ?_)
      have hW : MdB D aT ad (psT S ((digB (S 4) sz ((digB (S 4) sz ((numP (S 4) sz (u, wr)).2.1, (numP (S 4) sz (u, wr)).2.2)).2.1, (digB (S 4) sz ((numP (S 4) sz (u, wr)).2.1, (numP (S 4) sz (u, wr)).2.2)).2.2)).2.1) ((digB (S 4) sz ((digB (S 4) sz ((numP (S 4) sz (u, wr)).2.1, (numP (S 4) sz (u, wr)).2.2)).2.1, (digB (S 4) sz ((numP (S 4) sz (u, wr)).2.1, (numP (S 4) sz (u, wr)).2.2)).2.2)).2.2) k (upd (upd (upd cm t (((numP (S 4) sz (u, wr)).1))) (t + 1) (((digB (S 4) sz ((numP (S 4) sz (u, wr)).2.1, (numP (S 4) sz (u, wr)).2.2)).1))) (t + 2) (((digB (S 4) sz ((digB (S 4) sz ((numP (S 4) sz (u, wr)).2.1, (numP (S 4) sz (u, wr)).2.2)).2.1, (digB (S 4) sz ((numP (S 4) sz (u, wr)).2.1, (numP (S 4) sz (u, wr)).2.2)).2.2)).1)))) A s.heap H locs := by rw [← psT_c S ((digB (S 4) sz ((digB (S 4) sz ((numP (S 4) sz (u, wr)).2.1, (numP (S 4) sz (u, wr)).2.2)).2.1, (digB (S 4) sz ((numP (S 4) sz (u, wr)).2.1, (numP (S 4) sz (u, wr)).2.2)).2.2)).2.1) ((digB (S 4) sz ((digB (S 4) sz ((numP (S 4) sz (u, wr)).2.1, (numP (S 4) sz (u, wr)).2.2)).2.1, (digB (S 4) sz ((numP (S 4) sz (u, wr)).2.1, (numP (S 4) sz (u, wr)).2.2)).2.2)).2.2) k (upd (upd cm t (((numP (S 4) sz (u, wr)).1))) (t + 1) (((digB (S 4) sz ((numP (S 4) sz (u, wr)).2.1, (numP (S 4) sz (u, wr)).2.2)).1))) (upd (upd (upd cm t (((numP (S 4) sz (u, wr)).1))) (t + 1) (((digB (S 4) sz ((numP (S 4) sz (u, wr)).2.1, (numP (S 4) sz (u, wr)).2.2)).1))) (t + 2) (((digB (S 4) sz ((digB (S 4) sz ((numP (S 4) sz (u, wr)).2.1, (numP (S 4) sz (u, wr)).2.2)).2.1, (digB (S 4) sz ((numP (S 4) sz (u, wr)).2.1, (numP (S 4) sz (u, wr)).2.2)).2.2)).1)))]; exact hW
      refine lv_goto (tgt := 148) hx hb dX10_readArguments_88 (by decide) ?_
      exact md_vret C hr hlocks hW (rfl) dX10_readArguments_148
    · exact absurd c_17 (by decide)
  · exact absurd c_8 (by decide)
set_option maxHeartbeats 2000000 in
set_option maxRecDepth 20000 in
theorem m_readArguments_1 (l : Launch) (D : va_G) (aT : Nat → ClassId) (ad : Nat → Nat) (S : MSt) (u sz k : Nat) (wr : Bool) (cm : Nat → Int32) (hsz : S 13 22 = nI sz) (h60 : sz ≤ 60) (hp : u ≤ sz) (t : Nat) (ht : t + 2 < 244) : MdV l yX10_readArguments cX10_readArguments 3 4 87 D aT ad [.ref (ad 0), .int (nI 1), .int (nI t)] (psT S u wr k cm) (fun S1 => S1 = psT S (argP (S 4) sz (u, wr) t cm 1).1.1 (argP (S 4) sz (u, wr) t cm 1).1.2 k (argP (S 4) sz (u, wr) t cm 1).2) := by
  refine MdV.of (by decide +kernel) rfl (Nat.le_of_ble_eq_true rfl) ?_
  intro p e s m below meth c A ls C hml hl hA hr hlocks hW
  have hl : lv_has ls 3 [(0, .ref (ad 0)), (1, .int (nI 1)), (2, .int (nI t))] := hl
  have hx := C.1
  have hb := C.2.1
  refine lv_aload_n hx hb dX10_readArguments_0 rfl (lv_at hl 0 rfl) ?_
  refine md_geta_commands C hW dX10_readArguments_1 ?_
  refine lv_iload_n hx hb dX10_readArguments_4 rfl (lv_at hl 2 rfl) ?_
  refine lv_iload_n hx hb dX10_readArguments_5 rfl (lv_at hl 1 rfl) ?_
  refine lv_bipush (v := nI 6) hx hb dX10_readArguments_6 (by decide) ?_
  refine r_neN hx hb (a := 1) (b := 6) (by omega) (by omega) (tgt := 15) dX10_readArguments_8 (by decide) (fun c_8 => ?_) (fun c_8 => ?_)
  · refine lv_iload_n hx hb dX10_readArguments_15 rfl (lv_at hl 1 rfl) ?_
    refine lv_iconst (v := nI 1) hx hb dX10_readArguments_16 (by decide) ?_
    refine r_neN hx hb (a := 1) (b := 1) (by omega) (by omega) (tgt := 27) dX10_readArguments_17 (by decide) (fun c_17 => ?_) (fun c_17 => ?_)
    · exact absurd c_17 (by decide)
    · refine lv_aload_n hx hb dX10_readArguments_20 rfl (lv_at hl 0 rfl) ?_
      refine md_calli C hml hl.1 (As := []) (rest := [.int (nI t), .ref (ad 12)]) (m_digit l D aT ad S u sz k wr cm hsz h60 (hp)) gT_digit hd_digit rfl ⟨Nat.le_of_ble_eq_true rfl, Nat.le_of_ble_eq_true rfl⟩ ⟨Nat.le_refl _, Nat.le_refl _⟩ hW hA rfl (Nat.le_of_ble_eq_true rfl) dX10_readArguments_21 (fun r_21 S_21 H locs hq hW => ?_)
      obtain ⟨rfl, rfl⟩ := hq
      refine lv_goto (tgt := 31) hx hb dX10_readArguments_24 (by decide) ?_
      refine md_ast_commands C hW (i := t) (by omega) dX10_readArguments_31 (fun H locs hW => ?_)
      have hW : MdB D aT ad (psT S ((digP (S 4) sz (u, wr)).2.1) ((digP (S 4) sz (u, wr)).2.2) k (upd cm t (((digP (S 4) sz (u, wr)).1)))) A s.heap H locs := by rw [← psT_c S ((digP (S 4) sz (u, wr)).2.1) ((digP (S 4) sz (u, wr)).2.2) k cm (upd cm t (((digP (S 4) sz (u, wr)).1)))]; exact hW
      refine lv_iload_n hx hb dX10_readArguments_32 rfl (lv_at hl 1 rfl) ?_
      refine lv_tableIn (x := nI 1) (off := 58) (tgt := 91) hx hb dX10_readArguments_33 (by decide) (by decide) (by decide) (by decide) ?_
      refine lv_aload_n hx hb dX10_readArguments_91 rfl (lv_at hl 0 rfl) ?_
      refine md_geta_commands C hW dX10_readArguments_92 ?_
      refine lv_iload_n hx hb dX10_readArguments_95 rfl (lv_at hl 2 rfl) ?_
      refine lv_iconst (v := nI 1) hx hb dX10_readArguments_96 (by decide) ?_
      refine r_iaddN hx hb (a := t) (b := 1) dX10_readArguments_97 ?_
      refine lv_aload_n hx hb dX10_readArguments_98 rfl (lv_at hl 0 rfl) ?_
      refine md_calli C hml hl.1 (As := []) (rest := [.int (nI (t + 1)), .ref (ad 12)]) (m_numberBehind l D aT ad S ((digP (S 4) sz (u, wr)).2.1) sz k ((digP (S 4) sz (u, wr)).2.2) (upd cm t (((digP (S 4) sz (u, wr)).1))) hsz h60 ((digP_le hp).1)) gT_numberBehind hd_numberBehind rfl ⟨Nat.le_of_ble_eq_true rfl, Nat.le_of_ble_eq_true rfl⟩ ⟨Nat.le_refl _, Nat.le_refl _⟩ hW hA rfl (Nat.le_of_ble_eq_true rfl) dX10_readArguments_99 (fun r_99 S_99 H locs hq hW => ?_)
      obtain ⟨rfl, rfl⟩ := hq
      refine md_ast_commands C hW (i := t + 1) (by omega) dX10_readArguments_102 (fun H locs hW => ?_)
      have hW : MdB D aT ad (psT S ((numB (S 4) sz ((digP (S 4) sz (u, wr)).2.1, (digP (S 4) sz (u, wr)).2.2)).2.1) ((numB (S 4) sz ((digP (S 4) sz (u, wr)).2.1, (digP (S 4) sz (u, wr)).2.2)).2.2) k (upd (upd cm t (((digP (S 4) sz (u, wr)).1))) (t + 1) (((numB (S 4) sz ((digP (S 4) sz (u, wr)).2.1, (digP (S 4) sz (u, wr)).2.2)).1)))) A s.heap H locs := by rw [← psT_c S ((numB (S 4) sz ((digP (S 4) sz (u, wr)).2.1, (digP (S 4) sz (u, wr)).2.2)).2.1) ((numB (S 4) sz ((digP (S 4) sz (u, wr)).2.1, (digP (S 4) sz (u, wr)).2.2)).2.2) k (upd cm t (((digP (S 4) sz (u, wr)).1))) (upd (upd cm t (((digP (S 4) sz (u, wr)).1))) (t + 1) (((numB (S 4) sz ((digP (S 4) sz (u, wr)).2.1, (digP (S 4) sz (u, wr)).2.2)).1)))]; exact hW
      refine lv_goto (tgt := 148) hx hb dX10_readArguments_103 (by decide) ?_
      exact md_vret C hr hlocks hW (rfl) dX10_readArguments_148
  · exact absurd c_8 (by decide)
set_option maxHeartbeats 2000000 in
set_option maxRecDepth 20000 in
theorem m_readArguments_2 (l : Launch) (D : va_G) (aT : Nat → ClassId) (ad : Nat → Nat) (S : MSt) (u sz k : Nat) (wr : Bool) (cm : Nat → Int32) (hsz : S 13 22 = nI sz) (h60 : sz ≤ 60) (hp : u ≤ sz) (t : Nat) (ht : t + 2 < 244) : MdV l yX10_readArguments cX10_readArguments 3 4 87 D aT ad [.ref (ad 0), .int (nI 2), .int (nI t)] (psT S u wr k cm) (fun S1 => S1 = psT S (argP (S 4) sz (u, wr) t cm 2).1.1 (argP (S 4) sz (u, wr) t cm 2).1.2 k (argP (S 4) sz (u, wr) t cm 2).2) := by
  refine MdV.of (by decide +kernel) rfl (Nat.le_of_ble_eq_true rfl) ?_
  intro p e s m below meth c A ls C hml hl hA hr hlocks hW
  have hl : lv_has ls 3 [(0, .ref (ad 0)), (1, .int (nI 2)), (2, .int (nI t))] := hl
  have hx := C.1
  have hb := C.2.1
  refine lv_aload_n hx hb dX10_readArguments_0 rfl (lv_at hl 0 rfl) ?_
  refine md_geta_commands C hW dX10_readArguments_1 ?_
  refine lv_iload_n hx hb dX10_readArguments_4 rfl (lv_at hl 2 rfl) ?_
  refine lv_iload_n hx hb dX10_readArguments_5 rfl (lv_at hl 1 rfl) ?_
  refine lv_bipush (v := nI 6) hx hb dX10_readArguments_6 (by decide) ?_
  refine r_neN hx hb (a := 2) (b := 6) (by omega) (by omega) (tgt := 15) dX10_readArguments_8 (by decide) (fun c_8 => ?_) (fun c_8 => ?_)
  · refine lv_iload_n hx hb dX10_readArguments_15 rfl (lv_at hl 1 rfl) ?_
    refine lv_iconst (v := nI 1) hx hb dX10_readArguments_16 (by decide) ?_
    refine r_neN hx hb (a := 2) (b := 1) (by omega) (by omega) (tgt := 27) dX10_readArguments_17 (by decide) (fun c_17 => ?_) (fun c_17 => ?_)
    · refine lv_aload_n hx hb dX10_readArguments_27 rfl (lv_at hl 0 rfl) ?_
      refine md_calli C hml hl.1 (As := []) (rest := [.int (nI t), .ref (ad 12)]) (m_number l D aT ad S u sz k wr cm hsz h60 (hp)) gT_number hd_number rfl ⟨Nat.le_of_ble_eq_true rfl, Nat.le_of_ble_eq_true rfl⟩ ⟨Nat.le_refl _, Nat.le_refl _⟩ hW hA rfl (Nat.le_of_ble_eq_true rfl) dX10_readArguments_28 (fun r_28 S_28 H locs hq hW => ?_)
      obtain ⟨rfl, rfl⟩ := hq
      refine md_ast_commands C hW (i := t) (by omega) dX10_readArguments_31 (fun H locs hW => ?_)
      have hW : MdB D aT ad (psT S ((numP (S 4) sz (u, wr)).2.1) ((numP (S 4) sz (u, wr)).2.2) k (upd cm t (((numP (S 4) sz (u, wr)).1)))) A s.heap H locs := by rw [← psT_c S ((numP (S 4) sz (u, wr)).2.1) ((numP (S 4) sz (u, wr)).2.2) k cm (upd cm t (((numP (S 4) sz (u, wr)).1)))]; exact hW
      refine lv_iload_n hx hb dX10_readArguments_32 rfl (lv_at hl 1 rfl) ?_
      refine lv_tableIn (x := nI 2) (off := 73) (tgt := 106) hx hb dX10_readArguments_33 (by decide) (by decide) (by decide) (by decide) ?_
      refine lv_aload_n hx hb dX10_readArguments_106 rfl (lv_at hl 0 rfl) ?_
      refine md_geta_commands C hW dX10_readArguments_107 ?_
      refine lv_iload_n hx hb dX10_readArguments_110 rfl (lv_at hl 2 rfl) ?_
      refine lv_iconst (v := nI 1) hx hb dX10_readArguments_111 (by decide) ?_
      refine r_iaddN hx hb (a := t) (b := 1) dX10_readArguments_112 ?_
      refine lv_aload_n hx hb dX10_readArguments_113 rfl (lv_at hl 0 rfl) ?_
      refine md_calli C hml hl.1 (As := []) (rest := [.int (nI (t + 1)), .ref (ad 12)]) (m_digitBehind l D aT ad S ((numP (S 4) sz (u, wr)).2.1) sz k ((numP (S 4) sz (u, wr)).2.2) (upd cm t (((numP (S 4) sz (u, wr)).1))) hsz h60 ((numP_le hp).1)) gT_digitBehind hd_digitBehind rfl ⟨Nat.le_of_ble_eq_true rfl, Nat.le_of_ble_eq_true rfl⟩ ⟨Nat.le_refl _, Nat.le_refl _⟩ hW hA rfl (Nat.le_of_ble_eq_true rfl) dX10_readArguments_114 (fun r_114 S_114 H locs hq hW => ?_)
      obtain ⟨rfl, rfl⟩ := hq
      refine md_ast_commands C hW (i := t + 1) (by omega) dX10_readArguments_117 (fun H locs hW => ?_)
      have hW : MdB D aT ad (psT S ((digB (S 4) sz ((numP (S 4) sz (u, wr)).2.1, (numP (S 4) sz (u, wr)).2.2)).2.1) ((digB (S 4) sz ((numP (S 4) sz (u, wr)).2.1, (numP (S 4) sz (u, wr)).2.2)).2.2) k (upd (upd cm t (((numP (S 4) sz (u, wr)).1))) (t + 1) (((digB (S 4) sz ((numP (S 4) sz (u, wr)).2.1, (numP (S 4) sz (u, wr)).2.2)).1)))) A s.heap H locs := by rw [← psT_c S ((digB (S 4) sz ((numP (S 4) sz (u, wr)).2.1, (numP (S 4) sz (u, wr)).2.2)).2.1) ((digB (S 4) sz ((numP (S 4) sz (u, wr)).2.1, (numP (S 4) sz (u, wr)).2.2)).2.2) k (upd cm t (((numP (S 4) sz (u, wr)).1))) (upd (upd cm t (((numP (S 4) sz (u, wr)).1))) (t + 1) (((digB (S 4) sz ((numP (S 4) sz (u, wr)).2.1, (numP (S 4) sz (u, wr)).2.2)).1)))]; exact hW
      refine lv_aload_n hx hb dX10_readArguments_118 rfl (lv_at hl 0 rfl) ?_
      refine md_geta_commands C hW dX10_readArguments_119 ?_
      refine lv_iload_n hx hb dX10_readArguments_122 rfl (lv_at hl 2 rfl) ?_
      refine lv_iconst (v := nI 2) hx hb dX10_readArguments_123 (by decide) ?_
      refine r_iaddN hx hb (a := t) (b := 2) dX10_readArguments_124 ?_
      refine lv_aload_n hx hb dX10_readArguments_125 rfl (lv_at hl 0 rfl) ?_
      refine md_calli C hml hl.1 (As := []) (rest := [.int (nI (t + 2)), .ref (ad 12)]) (m_numberBehind l D aT ad S ((digB (S 4) sz ((numP (S 4) sz (u, wr)).2.1, (numP (S 4) sz (u, wr)).2.2)).2.1) sz k ((digB (S 4) sz ((numP (S 4) sz (u, wr)).2.1, (numP (S 4) sz (u, wr)).2.2)).2.2) (upd (upd cm t (((numP (S 4) sz (u, wr)).1))) (t + 1) (((digB (S 4) sz ((numP (S 4) sz (u, wr)).2.1, (numP (S 4) sz (u, wr)).2.2)).1))) hsz h60 ((digB_le ((numP_le hp).1)).1)) gT_numberBehind hd_numberBehind rfl ⟨Nat.le_of_ble_eq_true rfl, Nat.le_of_ble_eq_true rfl⟩ ⟨Nat.le_refl _, Nat.le_refl _⟩ hW hA rfl (Nat.le_of_ble_eq_true rfl) dX10_readArguments_126 (fun r_126 S_126 H locs hq hW => ?_)
      obtain ⟨rfl, rfl⟩ := hq
      refine md_ast_commands C hW (i := t + 2) (by omega) dX10_readArguments_129 (fun H locs hW => ?_)
      have hW : MdB D aT ad (psT S ((numB (S 4) sz ((digB (S 4) sz ((numP (S 4) sz (u, wr)).2.1, (numP (S 4) sz (u, wr)).2.2)).2.1, (digB (S 4) sz ((numP (S 4) sz (u, wr)).2.1, (numP (S 4) sz (u, wr)).2.2)).2.2)).2.1) ((numB (S 4) sz ((digB (S 4) sz ((numP (S 4) sz (u, wr)).2.1, (numP (S 4) sz (u, wr)).2.2)).2.1, (digB (S 4) sz ((numP (S 4) sz (u, wr)).2.1, (numP (S 4) sz (u, wr)).2.2)).2.2)).2.2) k (upd (upd (upd cm t (((numP (S 4) sz (u, wr)).1))) (t + 1) (((digB (S 4) sz ((numP (S 4) sz (u, wr)).2.1, (numP (S 4) sz (u, wr)).2.2)).1))) (t + 2) (((numB (S 4) sz ((digB (S 4) sz ((numP (S 4) sz (u, wr)).2.1, (numP (S 4) sz (u, wr)).2.2)).2.1, (digB (S 4) sz ((numP (S 4) sz (u, wr)).2.1, (numP (S 4) sz (u, wr)).2.2)).2.2)).1)))) A s.heap H locs := by rw [← psT_c S ((numB (S 4) sz ((digB (S 4) sz ((numP (S 4) sz (u, wr)).2.1, (numP (S 4) sz (u, wr)).2.2)).2.1, (digB (S 4) sz ((numP (S 4) sz (u, wr)).2.1, (numP (S 4) sz (u, wr)).2.2)).2.2)).2.1) ((numB (S 4) sz ((digB (S 4) sz ((numP (S 4) sz (u, wr)).2.1, (numP (S 4) sz (u, wr)).2.2)).2.1, (digB (S 4) sz ((numP (S 4) sz (u, wr)).2.1, (numP (S 4) sz (u, wr)).2.2)).2.2)).2.2) k (upd (upd cm t (((numP (S 4) sz (u, wr)).1))) (t + 1) (((digB (S 4) sz ((numP (S 4) sz (u, wr)).2.1, (numP (S 4) sz (u, wr)).2.2)).1))) (upd (upd (upd cm t (((numP (S 4) sz (u, wr)).1))) (t + 1) (((digB (S 4) sz ((numP (S 4) sz (u, wr)).2.1, (numP (S 4) sz (u, wr)).2.2)).1))) (t + 2) (((numB (S 4) sz ((digB (S 4) sz ((numP (S 4) sz (u, wr)).2.1, (numP (S 4) sz (u, wr)).2.2)).2.1, (digB (S 4) sz ((numP (S 4) sz (u, wr)).2.1, (numP (S 4) sz (u, wr)).2.2)).2.2)).1)))]; exact hW
      refine lv_goto (tgt := 148) hx hb dX10_readArguments_130 (by decide) ?_
      exact md_vret C hr hlocks hW (rfl) dX10_readArguments_148
    · exact absurd c_17 (by decide)
  · exact absurd c_8 (by decide)
set_option maxHeartbeats 2000000 in
set_option maxRecDepth 20000 in
theorem m_readArguments_3 (l : Launch) (D : va_G) (aT : Nat → ClassId) (ad : Nat → Nat) (S : MSt) (u sz k : Nat) (wr : Bool) (cm : Nat → Int32) (hsz : S 13 22 = nI sz) (h60 : sz ≤ 60) (hp : u ≤ sz) (t : Nat) (ht : t + 2 < 244) : MdV l yX10_readArguments cX10_readArguments 3 4 87 D aT ad [.ref (ad 0), .int (nI 3), .int (nI t)] (psT S u wr k cm) (fun S1 => S1 = psT S (argP (S 4) sz (u, wr) t cm 3).1.1 (argP (S 4) sz (u, wr) t cm 3).1.2 k (argP (S 4) sz (u, wr) t cm 3).2) := by
  refine MdV.of (by decide +kernel) rfl (Nat.le_of_ble_eq_true rfl) ?_
  intro p e s m below meth c A ls C hml hl hA hr hlocks hW
  have hl : lv_has ls 3 [(0, .ref (ad 0)), (1, .int (nI 3)), (2, .int (nI t))] := hl
  have hx := C.1
  have hb := C.2.1
  refine lv_aload_n hx hb dX10_readArguments_0 rfl (lv_at hl 0 rfl) ?_
  refine md_geta_commands C hW dX10_readArguments_1 ?_
  refine lv_iload_n hx hb dX10_readArguments_4 rfl (lv_at hl 2 rfl) ?_
  refine lv_iload_n hx hb dX10_readArguments_5 rfl (lv_at hl 1 rfl) ?_
  refine lv_bipush (v := nI 6) hx hb dX10_readArguments_6 (by decide) ?_
  refine r_neN hx hb (a := 3) (b := 6) (by omega) (by omega) (tgt := 15) dX10_readArguments_8 (by decide) (fun c_8 => ?_) (fun c_8 => ?_)
  · refine lv_iload_n hx hb dX10_readArguments_15 rfl (lv_at hl 1 rfl) ?_
    refine lv_iconst (v := nI 1) hx hb dX10_readArguments_16 (by decide) ?_
    refine r_neN hx hb (a := 3) (b := 1) (by omega) (by omega) (tgt := 27) dX10_readArguments_17 (by decide) (fun c_17 => ?_) (fun c_17 => ?_)
    · refine lv_aload_n hx hb dX10_readArguments_27 rfl (lv_at hl 0 rfl) ?_
      refine md_calli C hml hl.1 (As := []) (rest := [.int (nI t), .ref (ad 12)]) (m_number l D aT ad S u sz k wr cm hsz h60 (hp)) gT_number hd_number rfl ⟨Nat.le_of_ble_eq_true rfl, Nat.le_of_ble_eq_true rfl⟩ ⟨Nat.le_refl _, Nat.le_refl _⟩ hW hA rfl (Nat.le_of_ble_eq_true rfl) dX10_readArguments_28 (fun r_28 S_28 H locs hq hW => ?_)
      obtain ⟨rfl, rfl⟩ := hq
      refine md_ast_commands C hW (i := t) (by omega) dX10_readArguments_31 (fun H locs hW => ?_)
      have hW : MdB D aT ad (psT S ((numP (S 4) sz (u, wr)).2.1) ((numP (S 4) sz (u, wr)).2.2) k (upd cm t (((numP (S 4) sz (u, wr)).1)))) A s.heap H locs := by rw [← psT_c S ((numP (S 4) sz (u, wr)).2.1) ((numP (S 4) sz (u, wr)).2.2) k cm (upd cm t (((numP (S 4) sz (u, wr)).1)))]; exact hW
      refine lv_iload_n hx hb dX10_readArguments_32 rfl (lv_at hl 1 rfl) ?_
      refine lv_tableIn (x := nI 3) (off := 100) (tgt := 133) hx hb dX10_readArguments_33 (by decide) (by decide) (by decide) (by decide) ?_
      refine lv_aload_n hx hb dX10_readArguments_133 rfl (lv_at hl 0 rfl) ?_
      refine md_geta_commands C hW dX10_readArguments_134 ?_
      refine lv_iload_n hx hb dX10_readArguments_137 rfl (lv_at hl 2 rfl) ?_
      refine lv_iconst (v := nI 1) hx hb dX10_readArguments_138 (by decide) ?_
      refine r_iaddN hx hb (a := t) (b := 1) dX10_readArguments_139 ?_
      refine lv_aload_n hx hb dX10_readArguments_140 rfl (lv_at hl 0 rfl) ?_
      refine md_calli C hml hl.1 (As := []) (rest := [.int (nI (t + 1)), .ref (ad 12)]) (m_digitBehind l D aT ad S ((numP (S 4) sz (u, wr)).2.1) sz k ((numP (S 4) sz (u, wr)).2.2) (upd cm t (((numP (S 4) sz (u, wr)).1))) hsz h60 ((numP_le hp).1)) gT_digitBehind hd_digitBehind rfl ⟨Nat.le_of_ble_eq_true rfl, Nat.le_of_ble_eq_true rfl⟩ ⟨Nat.le_refl _, Nat.le_refl _⟩ hW hA rfl (Nat.le_of_ble_eq_true rfl) dX10_readArguments_141 (fun r_141 S_141 H locs hq hW => ?_)
      obtain ⟨rfl, rfl⟩ := hq
      refine md_ast_commands C hW (i := t + 1) (by omega) dX10_readArguments_144 (fun H locs hW => ?_)
      have hW : MdB D aT ad (psT S ((digB (S 4) sz ((numP (S 4) sz (u, wr)).2.1, (numP (S 4) sz (u, wr)).2.2)).2.1) ((digB (S 4) sz ((numP (S 4) sz (u, wr)).2.1, (numP (S 4) sz (u, wr)).2.2)).2.2) k (upd (upd cm t (((numP (S 4) sz (u, wr)).1))) (t + 1) (((digB (S 4) sz ((numP (S 4) sz (u, wr)).2.1, (numP (S 4) sz (u, wr)).2.2)).1)))) A s.heap H locs := by rw [← psT_c S ((digB (S 4) sz ((numP (S 4) sz (u, wr)).2.1, (numP (S 4) sz (u, wr)).2.2)).2.1) ((digB (S 4) sz ((numP (S 4) sz (u, wr)).2.1, (numP (S 4) sz (u, wr)).2.2)).2.2) k (upd cm t (((numP (S 4) sz (u, wr)).1))) (upd (upd cm t (((numP (S 4) sz (u, wr)).1))) (t + 1) (((digB (S 4) sz ((numP (S 4) sz (u, wr)).2.1, (numP (S 4) sz (u, wr)).2.2)).1)))]; exact hW
      refine lv_goto (tgt := 148) hx hb dX10_readArguments_145 (by decide) ?_
      exact md_vret C hr hlocks hW (rfl) dX10_readArguments_148
    · exact absurd c_17 (by decide)
  · exact absurd c_8 (by decide)
set_option maxHeartbeats 2000000 in
set_option maxRecDepth 20000 in
theorem m_readArguments_4 (l : Launch) (D : va_G) (aT : Nat → ClassId) (ad : Nat → Nat) (S : MSt) (u sz k : Nat) (wr : Bool) (cm : Nat → Int32) (hsz : S 13 22 = nI sz) (h60 : sz ≤ 60) (hp : u ≤ sz) (t : Nat) (ht : t + 2 < 244) : MdV l yX10_readArguments cX10_readArguments 3 4 87 D aT ad [.ref (ad 0), .int (nI 4), .int (nI t)] (psT S u wr k cm) (fun S1 => S1 = psT S (argP (S 4) sz (u, wr) t cm 4).1.1 (argP (S 4) sz (u, wr) t cm 4).1.2 k (argP (S 4) sz (u, wr) t cm 4).2) := by
  refine MdV.of (by decide +kernel) rfl (Nat.le_of_ble_eq_true rfl) ?_
  intro p e s m below meth c A ls C hml hl hA hr hlocks hW
  have hl : lv_has ls 3 [(0, .ref (ad 0)), (1, .int (nI 4)), (2, .int (nI t))] := hl
  have hx := C.1
  have hb := C.2.1
  refine lv_aload_n hx hb dX10_readArguments_0 rfl (lv_at hl 0 rfl) ?_
  refine md_geta_commands C hW dX10_readArguments_1 ?_
  refine lv_iload_n hx hb dX10_readArguments_4 rfl (lv_at hl 2 rfl) ?_
  refine lv_iload_n hx hb dX10_readArguments_5 rfl (lv_at hl 1 rfl) ?_
  refine lv_bipush (v := nI 6) hx hb dX10_readArguments_6 (by decide) ?_
  refine r_neN hx hb (a := 4) (b := 6) (by omega) (by omega) (tgt := 15) dX10_readArguments_8 (by decide) (fun c_8 => ?_) (fun c_8 => ?_)
  · refine lv_iload_n hx hb dX10_readArguments_15 rfl (lv_at hl 1 rfl) ?_
    refine lv_iconst (v := nI 1) hx hb dX10_readArguments_16 (by decide) ?_
    refine r_neN hx hb (a := 4) (b := 1) (by omega) (by omega) (tgt := 27) dX10_readArguments_17 (by decide) (fun c_17 => ?_) (fun c_17 => ?_)
    · refine lv_aload_n hx hb dX10_readArguments_27 rfl (lv_at hl 0 rfl) ?_
      refine md_calli C hml hl.1 (As := []) (rest := [.int (nI t), .ref (ad 12)]) (m_number l D aT ad S u sz k wr cm hsz h60 (hp)) gT_number hd_number rfl ⟨Nat.le_of_ble_eq_true rfl, Nat.le_of_ble_eq_true rfl⟩ ⟨Nat.le_refl _, Nat.le_refl _⟩ hW hA rfl (Nat.le_of_ble_eq_true rfl) dX10_readArguments_28 (fun r_28 S_28 H locs hq hW => ?_)
      obtain ⟨rfl, rfl⟩ := hq
      refine md_ast_commands C hW (i := t) (by omega) dX10_readArguments_31 (fun H locs hW => ?_)
      have hW : MdB D aT ad (psT S ((numP (S 4) sz (u, wr)).2.1) ((numP (S 4) sz (u, wr)).2.2) k (upd cm t (((numP (S 4) sz (u, wr)).1)))) A s.heap H locs := by rw [← psT_c S ((numP (S 4) sz (u, wr)).2.1) ((numP (S 4) sz (u, wr)).2.2) k cm (upd cm t (((numP (S 4) sz (u, wr)).1)))]; exact hW
      refine lv_iload_n hx hb dX10_readArguments_32 rfl (lv_at hl 1 rfl) ?_
      refine lv_tableOut (x := nI 4) (tgt := 148) hx hb dX10_readArguments_33 (by decide) (by decide) ?_
      exact md_vret C hr hlocks hW (rfl) dX10_readArguments_148
    · exact absurd c_17 (by decide)
  · exact absurd c_8 (by decide)
set_option maxHeartbeats 2000000 in
set_option maxRecDepth 20000 in
theorem m_readArguments_5 (l : Launch) (D : va_G) (aT : Nat → ClassId) (ad : Nat → Nat) (S : MSt) (u sz k : Nat) (wr : Bool) (cm : Nat → Int32) (hsz : S 13 22 = nI sz) (h60 : sz ≤ 60) (hp : u ≤ sz) (t : Nat) (ht : t + 2 < 244) : MdV l yX10_readArguments cX10_readArguments 3 4 87 D aT ad [.ref (ad 0), .int (nI 5), .int (nI t)] (psT S u wr k cm) (fun S1 => S1 = psT S (argP (S 4) sz (u, wr) t cm 5).1.1 (argP (S 4) sz (u, wr) t cm 5).1.2 k (argP (S 4) sz (u, wr) t cm 5).2) := by
  refine MdV.of (by decide +kernel) rfl (Nat.le_of_ble_eq_true rfl) ?_
  intro p e s m below meth c A ls C hml hl hA hr hlocks hW
  have hl : lv_has ls 3 [(0, .ref (ad 0)), (1, .int (nI 5)), (2, .int (nI t))] := hl
  have hx := C.1
  have hb := C.2.1
  refine lv_aload_n hx hb dX10_readArguments_0 rfl (lv_at hl 0 rfl) ?_
  refine md_geta_commands C hW dX10_readArguments_1 ?_
  refine lv_iload_n hx hb dX10_readArguments_4 rfl (lv_at hl 2 rfl) ?_
  refine lv_iload_n hx hb dX10_readArguments_5 rfl (lv_at hl 1 rfl) ?_
  refine lv_bipush (v := nI 6) hx hb dX10_readArguments_6 (by decide) ?_
  refine r_neN hx hb (a := 5) (b := 6) (by omega) (by omega) (tgt := 15) dX10_readArguments_8 (by decide) (fun c_8 => ?_) (fun c_8 => ?_)
  · refine lv_iload_n hx hb dX10_readArguments_15 rfl (lv_at hl 1 rfl) ?_
    refine lv_iconst (v := nI 1) hx hb dX10_readArguments_16 (by decide) ?_
    refine r_neN hx hb (a := 5) (b := 1) (by omega) (by omega) (tgt := 27) dX10_readArguments_17 (by decide) (fun c_17 => ?_) (fun c_17 => ?_)
    · refine lv_aload_n hx hb dX10_readArguments_27 rfl (lv_at hl 0 rfl) ?_
      refine md_calli C hml hl.1 (As := []) (rest := [.int (nI t), .ref (ad 12)]) (m_number l D aT ad S u sz k wr cm hsz h60 (hp)) gT_number hd_number rfl ⟨Nat.le_of_ble_eq_true rfl, Nat.le_of_ble_eq_true rfl⟩ ⟨Nat.le_refl _, Nat.le_refl _⟩ hW hA rfl (Nat.le_of_ble_eq_true rfl) dX10_readArguments_28 (fun r_28 S_28 H locs hq hW => ?_)
      obtain ⟨rfl, rfl⟩ := hq
      refine md_ast_commands C hW (i := t) (by omega) dX10_readArguments_31 (fun H locs hW => ?_)
      have hW : MdB D aT ad (psT S ((numP (S 4) sz (u, wr)).2.1) ((numP (S 4) sz (u, wr)).2.2) k (upd cm t (((numP (S 4) sz (u, wr)).1)))) A s.heap H locs := by rw [← psT_c S ((numP (S 4) sz (u, wr)).2.1) ((numP (S 4) sz (u, wr)).2.2) k cm (upd cm t (((numP (S 4) sz (u, wr)).1)))]; exact hW
      refine lv_iload_n hx hb dX10_readArguments_32 rfl (lv_at hl 1 rfl) ?_
      refine lv_tableOut (x := nI 5) (tgt := 148) hx hb dX10_readArguments_33 (by decide) (by decide) ?_
      exact md_vret C hr hlocks hW (rfl) dX10_readArguments_148
    · exact absurd c_17 (by decide)
  · exact absurd c_8 (by decide)
set_option maxHeartbeats 2000000 in
set_option maxRecDepth 20000 in
theorem m_readArguments_6 (l : Launch) (D : va_G) (aT : Nat → ClassId) (ad : Nat → Nat) (S : MSt) (u sz k : Nat) (wr : Bool) (cm : Nat → Int32) (hsz : S 13 22 = nI sz) (h60 : sz ≤ 60) (hp : u ≤ sz) (t : Nat) (ht : t + 2 < 244) : MdV l yX10_readArguments cX10_readArguments 3 4 87 D aT ad [.ref (ad 0), .int (nI 6), .int (nI t)] (psT S u wr k cm) (fun S1 => S1 = psT S (argP (S 4) sz (u, wr) t cm 6).1.1 (argP (S 4) sz (u, wr) t cm 6).1.2 k (argP (S 4) sz (u, wr) t cm 6).2) := by
  refine MdV.of (by decide +kernel) rfl (Nat.le_of_ble_eq_true rfl) ?_
  intro p e s m below meth c A ls C hml hl hA hr hlocks hW
  have hl : lv_has ls 3 [(0, .ref (ad 0)), (1, .int (nI 6)), (2, .int (nI t))] := hl
  have hx := C.1
  have hb := C.2.1
  refine lv_aload_n hx hb dX10_readArguments_0 rfl (lv_at hl 0 rfl) ?_
  refine md_geta_commands C hW dX10_readArguments_1 ?_
  refine lv_iload_n hx hb dX10_readArguments_4 rfl (lv_at hl 2 rfl) ?_
  refine lv_iload_n hx hb dX10_readArguments_5 rfl (lv_at hl 1 rfl) ?_
  refine lv_bipush (v := nI 6) hx hb dX10_readArguments_6 (by decide) ?_
  refine r_neN hx hb (a := 6) (b := 6) (by omega) (by omega) (tgt := 15) dX10_readArguments_8 (by decide) (fun c_8 => ?_) (fun c_8 => ?_)
  · exact absurd c_8 (by decide)
  · refine lv_iconst (v := nI 0) hx hb dX10_readArguments_11 (by decide) ?_
    refine lv_goto (tgt := 31) hx hb dX10_readArguments_12 (by decide) ?_
    refine md_ast_commands C hW (i := t) (by omega) dX10_readArguments_31 (fun H locs hW => ?_)
    have hW : MdB D aT ad (psT S u wr k (upd cm t ((nI 0)))) A s.heap H locs := by rw [← psT_c S u wr k cm (upd cm t ((nI 0)))]; exact hW
    refine lv_iload_n hx hb dX10_readArguments_32 rfl (lv_at hl 1 rfl) ?_
    refine lv_tableOut (x := nI 6) (tgt := 148) hx hb dX10_readArguments_33 (by decide) (by decide) ?_
    exact md_vret C hr hlocks hW (rfl) dX10_readArguments_148
theorem m_readArguments_all (l : Launch) (D : va_G) (aT : Nat → ClassId) (ad : Nat → Nat) (S : MSt) (u sz k : Nat) (wr : Bool) (cm : Nat → Int32) (hsz : S 13 22 = nI sz) (h60 : sz ≤ 60) (hp : u ≤ sz) (t : Nat) (ht : t + 2 < 244) (w : Nat) (hw : w < 7) : MdV l yX10_readArguments cX10_readArguments 3 4 87 D aT ad [.ref (ad 0), .int (nI w), .int (nI t)] (psT S u wr k cm) (fun S1 => S1 = psT S (argP (S 4) sz (u, wr) t cm w).1.1 (argP (S 4) sz (u, wr) t cm w).1.2 k (argP (S 4) sz (u, wr) t cm w).2) := by
  match w, hw with
  | 0, _ => exact m_readArguments l D aT ad S u sz k wr cm hsz h60 hp t ht
  | 1, _ => exact m_readArguments_1 l D aT ad S u sz k wr cm hsz h60 hp t ht
  | 2, _ => exact m_readArguments_2 l D aT ad S u sz k wr cm hsz h60 hp t ht
  | 3, _ => exact m_readArguments_3 l D aT ad S u sz k wr cm hsz h60 hp t ht
  | 4, _ => exact m_readArguments_4 l D aT ad S u sz k wr cm hsz h60 hp t ht
  | 5, _ => exact m_readArguments_5 l D aT ad S u sz k wr cm hsz h60 hp t ht
  | 6, _ => exact m_readArguments_6 l D aT ad S u sz k wr cm hsz h60 hp t ht
end
section
theorem lkF_le {f : Nat → Int32} {sz u w : Nat} (h : u ≤ sz) : u + lkF f sz u w ≤ sz := (lkA_le (bgN (w + 1) - bgN w) 0).2 (by omega)
/-- what a command does to the row: none where it fails -/
def doF (m : Nat → Int32) (w : Nat) (a b c : Int32) : Option (Nat → Int32) := match w with
  | 0 => if (rgB 1 99 a && rgB 0 9 b && rgB 0 9 c) = true ∧ hM m < 6 then some (hedgeF m (hM m) a b c) else none
  | 1 => if (rgB 0 9 a && rgB 1 20 b) = true ∧ nM m < 12 then some (addF m (nM m) (-1) a b) else none
  | 2 => match fnd (fun k => m (29 + 4 * k)) a (nM m) with
    | none => none
    | some _ => if (rgB 0 9 b && rgB 1 20 c) = true ∧ nM m < 12 then some (addF m (nM m) a b c) else none
  | 3 => match fnd (fun k => m (29 + 4 * k)) a (nM m) with
    | none => none
    | some q => if rgB 0 9 b = true then some (prnR m q b.toNatClampNeg).1 else none
  | 4 => match fnd (fun k => m (29 + 4 * k)) a (nM m) with
    | none => none
    | some q => if nM m < 12 then match ltp (prM m) (nM m) q (nM m) with
        | none => none
        | some t => some (addF m (nM m) (m (29 + 4 * t)) (nI ((tnM m t + 1) % 10)) (hlfF (m (29 + 4 * t + 3))))
      else none
  | 5 => match fnd (fun k => m (29 + 4 * k)) a (nM m) with
    | none => none
    | some q => if hM m = 0 ∨ tipB (prM m) q (nM m) = false then none else some (votF m q)
  | _ => some (seaF ((snM m + 1) % 4) (upd m 3 (nI ((snM m + 1) % 4))) (hM m))
theorem doF_0 (m : Nat → Int32) (a b c : Int32) : doF m 0 a b c = (if (rgB 1 99 a && rgB 0 9 b && rgB 0 9 c) = true ∧ hM m < 6 then some (hedgeF m (hM m) a b c) else none) := rfl
theorem doF_1 (m : Nat → Int32) (a b c : Int32) : doF m 1 a b c = (if (rgB 0 9 a && rgB 1 20 b) = true ∧ nM m < 12 then some (addF m (nM m) (-1) a b) else none) := rfl
theorem doF_2 (m : Nat → Int32) (a b c : Int32) : doF m 2 a b c = (match fnd (fun k => m (29 + 4 * k)) a (nM m) with
    | none => none
    | some _ => if (rgB 0 9 b && rgB 1 20 c) = true ∧ nM m < 12 then some (addF m (nM m) a b c) else none) := rfl
theorem doF_3 (m : Nat → Int32) (a b c : Int32) : doF m 3 a b c = (match fnd (fun k => m (29 + 4 * k)) a (nM m) with
    | none => none
    | some q => if rgB 0 9 b = true then some (prnR m q b.toNatClampNeg).1 else none) := rfl
theorem doF_4 (m : Nat → Int32) (a b c : Int32) : doF m 4 a b c = (match fnd (fun k => m (29 + 4 * k)) a (nM m) with
    | none => none
    | some q => if nM m < 12 then match ltp (prM m) (nM m) q (nM m) with
        | none => none
        | some t => some (addF m (nM m) (m (29 + 4 * t)) (nI ((tnM m t + 1) % 10)) (hlfF (m (29 + 4 * t + 3))))
      else none) := rfl
theorem doF_5 (m : Nat → Int32) (a b c : Int32) : doF m 5 a b c = (match fnd (fun k => m (29 + 4 * k)) a (nM m) with
    | none => none
    | some q => if hM m = 0 ∨ tipB (prM m) q (nM m) = false then none else some (votF m q)) := rfl
theorem doF_6 (m : Nat → Int32) (a b c : Int32) : doF m 6 a b c = (some (seaF ((snM m + 1) % 4) (upd m 3 (nI ((snM m + 1) % 4))) (hM m))) := rfl
theorem gT_readCommand : GoodIn gw (wsV RX10 252 RX10 yX10_readCommand (Cond.code yX10_readCommand cX10_readCommand 4 (none) :: gw)) := gdV gw_2013 gw_2015 gw_52 gw_81 gw_2016
theorem hd_readCommand : yX10_readCommand.cls = RX10 ∧ yX10_readCommand.cls ≠ "java/lang/invoke/MethodHandle" ∧ yX10_readCommand.cls ≠ "java/lang/invoke/VarHandle" ∧ (parseMethodDescriptor yX10_readCommand.desc).map (fun d => d.parameters.length) = some 0 := ⟨rfl, by decide +kernel, by decide +kernel, by decide +kernel⟩
theorem dX10_readCommand_0 : decode cX10_readCommand 0 = .ok (.iconst 4, 1) := by decide +kernel
theorem dX10_readCommand_1 : decode cX10_readCommand 1 = .ok (.aload_n 0, 1) := by decide +kernel
theorem dX10_readCommand_2 : decode cX10_readCommand 2 = .ok (.getfield 242, 3) := by decide +kernel
theorem dX10_readCommand_5 : decode cX10_readCommand 5 = .ok (.imul, 1) := by decide +kernel
theorem dX10_readCommand_6 : decode cX10_readCommand 6 = .ok (.istore_n 1, 1) := by decide +kernel
theorem dX10_readCommand_7 : decode cX10_readCommand 7 = .ok (.iconst 0, 1) := by decide +kernel
theorem dX10_readCommand_8 : decode cX10_readCommand 8 = .ok (.istore_n 2, 1) := by decide +kernel
theorem dX10_readCommand_9 : decode cX10_readCommand 9 = .ok (.iconst 1, 1) := by decide +kernel
theorem dX10_readCommand_10 : decode cX10_readCommand 10 = .ok (.istore_n 3, 1) := by decide +kernel
theorem dX10_readCommand_11 : decode cX10_readCommand 11 = .ok (.iload_n 3, 1) := by decide +kernel
theorem dX10_readCommand_12 : decode cX10_readCommand 12 = .ok (.bipush 7, 2) := by decide +kernel
theorem dX10_readCommand_14 : decode cX10_readCommand 14 = .ok (.if_icmp .ge 28, 3) := by decide +kernel
theorem dX10_readCommand_17 : decode cX10_readCommand 17 = .ok (.aload_n 0, 1) := by decide +kernel
theorem dX10_readCommand_18 : decode cX10_readCommand 18 = .ok (.iload_n 3, 1) := by decide +kernel
theorem dX10_readCommand_19 : decode cX10_readCommand 19 = .ok (.invokevirtual 245, 3) := by decide +kernel
theorem dX10_readCommand_22 : decode cX10_readCommand 22 = .ok (.aload_n 0, 1) := by decide +kernel
theorem dX10_readCommand_23 : decode cX10_readCommand 23 = .ok (.iload_n 2, 1) := by decide +kernel
theorem dX10_readCommand_24 : decode cX10_readCommand 24 = .ok (.invokevirtual 245, 3) := by decide +kernel
theorem dX10_readCommand_27 : decode cX10_readCommand 27 = .ok (.if_icmp .le 7, 3) := by decide +kernel
theorem dX10_readCommand_30 : decode cX10_readCommand 30 = .ok (.iload_n 3, 1) := by decide +kernel
theorem dX10_readCommand_31 : decode cX10_readCommand 31 = .ok (.goto 4, 3) := by decide +kernel
theorem dX10_readCommand_34 : decode cX10_readCommand 34 = .ok (.iload_n 2, 1) := by decide +kernel
theorem dX10_readCommand_35 : decode cX10_readCommand 35 = .ok (.istore_n 2, 1) := by decide +kernel
theorem dX10_readCommand_36 : decode cX10_readCommand 36 = .ok (.iinc 3 1, 3) := by decide +kernel
theorem dX10_readCommand_39 : decode cX10_readCommand 39 = .ok (.goto (-28), 3) := by decide +kernel
theorem dX10_readCommand_42 : decode cX10_readCommand 42 = .ok (.aload_n 0, 1) := by decide +kernel
theorem dX10_readCommand_43 : decode cX10_readCommand 43 = .ok (.iload_n 2, 1) := by decide +kernel
theorem dX10_readCommand_44 : decode cX10_readCommand 44 = .ok (.invokevirtual 245, 3) := by decide +kernel
theorem dX10_readCommand_47 : decode cX10_readCommand 47 = .ok (.istore_n 3, 1) := by decide +kernel
theorem dX10_readCommand_48 : decode cX10_readCommand 48 = .ok (.aload_n 0, 1) := by decide +kernel
theorem dX10_readCommand_49 : decode cX10_readCommand 49 = .ok (.dup, 1) := by decide +kernel
theorem dX10_readCommand_50 : decode cX10_readCommand 50 = .ok (.getfield 210, 3) := by decide +kernel
theorem dX10_readCommand_53 : decode cX10_readCommand 53 = .ok (.iload_n 3, 1) := by decide +kernel
theorem dX10_readCommand_54 : decode cX10_readCommand 54 = .ok (.iadd, 1) := by decide +kernel
theorem dX10_readCommand_55 : decode cX10_readCommand 55 = .ok (.putfield 210, 3) := by decide +kernel
theorem dX10_readCommand_58 : decode cX10_readCommand 58 = .ok (.aload_n 0, 1) := by decide +kernel
theorem dX10_readCommand_59 : decode cX10_readCommand 59 = .ok (.iload_n 3, 1) := by decide +kernel
theorem dX10_readCommand_60 : decode cX10_readCommand 60 = .ok (.aload_n 0, 1) := by decide +kernel
theorem dX10_readCommand_61 : decode cX10_readCommand 61 = .ok (.getfield 48, 3) := by decide +kernel
theorem dX10_readCommand_64 : decode cX10_readCommand 64 = .ok (.iload_n 2, 1) := by decide +kernel
theorem dX10_readCommand_65 : decode cX10_readCommand 65 = .ok (.iconst 1, 1) := by decide +kernel
theorem dX10_readCommand_66 : decode cX10_readCommand 66 = .ok (.iadd, 1) := by decide +kernel
theorem dX10_readCommand_67 : decode cX10_readCommand 67 = .ok (.iaload, 1) := by decide +kernel
theorem dX10_readCommand_68 : decode cX10_readCommand 68 = .ok (.aload_n 0, 1) := by decide +kernel
theorem dX10_readCommand_69 : decode cX10_readCommand 69 = .ok (.getfield 48, 3) := by decide +kernel
theorem dX10_readCommand_72 : decode cX10_readCommand 72 = .ok (.iload_n 2, 1) := by decide +kernel
theorem dX10_readCommand_73 : decode cX10_readCommand 73 = .ok (.iaload, 1) := by decide +kernel
theorem dX10_readCommand_74 : decode cX10_readCommand 74 = .ok (.isub, 1) := by decide +kernel
theorem dX10_readCommand_75 : decode cX10_readCommand 75 = .ok (.if_icmp .ge 7, 3) := by decide +kernel
theorem dX10_readCommand_78 : decode cX10_readCommand 78 = .ok (.iconst 1, 1) := by decide +kernel
theorem dX10_readCommand_79 : decode cX10_readCommand 79 = .ok (.goto 4, 3) := by decide +kernel
theorem dX10_readCommand_82 : decode cX10_readCommand 82 = .ok (.iconst 0, 1) := by decide +kernel
theorem dX10_readCommand_83 : decode cX10_readCommand 83 = .ok (.putfield 216, 3) := by decide +kernel
theorem dX10_readCommand_86 : decode cX10_readCommand 86 = .ok (.aload_n 0, 1) := by decide +kernel
theorem dX10_readCommand_87 : decode cX10_readCommand 87 = .ok (.getfield 216, 3) := by decide +kernel
theorem dX10_readCommand_90 : decode cX10_readCommand 90 = .ok (.ifCond .ne 28, 3) := by decide +kernel
theorem dX10_readCommand_93 : decode cX10_readCommand 93 = .ok (.aload_n 0, 1) := by decide +kernel
theorem dX10_readCommand_94 : decode cX10_readCommand 94 = .ok (.getfield 51, 3) := by decide +kernel
theorem dX10_readCommand_97 : decode cX10_readCommand 97 = .ok (.iload_n 1, 1) := by decide +kernel
theorem dX10_readCommand_98 : decode cX10_readCommand 98 = .ok (.iload_n 2, 1) := by decide +kernel
theorem dX10_readCommand_99 : decode cX10_readCommand 99 = .ok (.iastore, 1) := by decide +kernel
theorem dX10_readCommand_100 : decode cX10_readCommand 100 = .ok (.aload_n 0, 1) := by decide +kernel
theorem dX10_readCommand_101 : decode cX10_readCommand 101 = .ok (.dup, 1) := by decide +kernel
theorem dX10_readCommand_102 : decode cX10_readCommand 102 = .ok (.getfield 242, 3) := by decide +kernel
theorem dX10_readCommand_105 : decode cX10_readCommand 105 = .ok (.iconst 1, 1) := by decide +kernel
theorem dX10_readCommand_106 : decode cX10_readCommand 106 = .ok (.iadd, 1) := by decide +kernel
theorem dX10_readCommand_107 : decode cX10_readCommand 107 = .ok (.putfield 242, 3) := by decide +kernel
theorem dX10_readCommand_110 : decode cX10_readCommand 110 = .ok (.aload_n 0, 1) := by decide +kernel
theorem dX10_readCommand_111 : decode cX10_readCommand 111 = .ok (.iload_n 2, 1) := by decide +kernel
theorem dX10_readCommand_112 : decode cX10_readCommand 112 = .ok (.iload_n 1, 1) := by decide +kernel
theorem dX10_readCommand_113 : decode cX10_readCommand 113 = .ok (.iconst 1, 1) := by decide +kernel
theorem dX10_readCommand_114 : decode cX10_readCommand 114 = .ok (.iadd, 1) := by decide +kernel
theorem dX10_readCommand_115 : decode cX10_readCommand 115 = .ok (.invokevirtual 248, 3) := by decide +kernel
theorem dX10_readCommand_118 : decode cX10_readCommand 118 = .ok (.return_, 1) := by decide +kernel
set_option maxHeartbeats 4000000 in
set_option maxRecDepth 20000 in
theorem m_readCommand (l : Launch) (D : va_G) (aT : Nat → ClassId) (ad : Nat → Nat) (S : MSt) (u sz k : Nat) (cm : Nat → Int32) (hsz : S 13 22 = nI sz) (h60 : sz ≤ 60) (hp : u ≤ sz) (hk : k ≤ 60) (hwd : WdOk S) : MdV l yX10_readCommand cX10_readCommand 4 5 109 D aT ad [.ref (ad 0)] (psT S u false k cm) (fun S1 => S1 = psT S (cmdP (S 4) sz k cm u).1.1 (cmdP (S 4) sz k cm u).1.2 (cmdP (S 4) sz k cm u).2.1 (cmdP (S 4) sz k cm u).2.2) := by
  refine MdV.of (by decide +kernel) rfl (Nat.le_of_ble_eq_true rfl) ?_
  intro p e s m below meth c A ls C hml hl hA hr hlocks hW
  have hl : lv_has ls 4 [(0, .ref (ad 0))] := hl
  have hx := C.1
  have hb := C.2.1
  refine lv_iconst (v := nI 4) hx hb dX10_readCommand_0 (by decide) ?_
  refine lv_aload_n hx hb dX10_readCommand_1 rfl (lv_at hl 0 rfl) ?_
  refine md_get_commandMany C hW dX10_readCommand_2 ?_
  refine r_eq (y := (nI k)) (rfl) ?_
  refine r_imulN hx hb (a := 4) (b := k) dX10_readCommand_5 ?_
  refine lv_istore_n (lv' := [(1, .int (nI (4 * k))), (0, .ref (ad 0))]) hx hb dX10_readCommand_6 rfl hl (by decide) rfl (fun ls hl => ?_)
  refine lv_iconst (v := nI 0) hx hb dX10_readCommand_7 (by decide) ?_
  refine lv_istore_n (lv' := [(2, .int (nI 0)), (1, .int (nI (4 * k))), (0, .ref (ad 0))]) hx hb dX10_readCommand_8 rfl hl (by decide) rfl (fun ls hl => ?_)
  refine lv_iconst (v := nI 1) hx hb dX10_readCommand_9 (by decide) ?_
  refine lv_istore_n (lv' := [(3, .int (nI 1)), (2, .int (nI 0)), (1, .int (nI (4 * k))), (0, .ref (ad 0))]) hx hb dX10_readCommand_10 rfl hl (by decide) rfl (fun ls hl => ?_)
  refine W_loopH (σ := Nat) (fun z_ => 6 - z_) (fun z_ H locs g => ∃ ls, g = F0 m 11 ls [] ∧ lv_has ls 4 [(0, .ref (ad 0)), (1, .int (nI (4 * k))), (2, .int (nI (wdP (S 4) sz u z_))), (3, .int (nI (z_ + 1)))] ∧ MdB D aT ad (psT S u false k cm) A s.heap H locs ∧ (z_ ≤ 6)) ?_ 0 _ ⟨_, rfl, lv_sub hl [3, 2, 1, 0] rfl, hW, Nat.zero_le _⟩
  clear hW hl
  rintro j H locs g ⟨ls, rfl, hl, hW, hj⟩ ih_11
  have hwl := wdP_le (f := S 4) (sz := sz) (u := u) j
  refine lv_iload_n hx hb dX10_readCommand_11 rfl (lv_at hl 3 rfl) ?_
  refine lv_bipush (v := nI 7) hx hb dX10_readCommand_12 (by decide) ?_
  refine r_geN hx hb (a := j + 1) (b := 7) (by omega) (by omega) (tgt := 42) dX10_readCommand_14 (by decide) (fun c_14 => ?_) (fun c_14 => ?_)
  · obtain rfl : j = 6 := by omega
    have hw6 := wdP_le (f := S 4) (sz := sz) (u := u) 6
    have hbg := bgN_in (wdP (S 4) sz u 6) (by omega)
    have hlk := lkF_le (f := S 4) (w := (wdP (S 4) sz u 6)) hp
    refine lv_aload_n hx hb dX10_readCommand_42 rfl (lv_at hl 0 rfl) ?_
    refine lv_iload_n hx hb dX10_readCommand_43 rfl (lv_at hl 2 rfl) ?_
    refine md_callg C hml hl.1 (As := [.int (nI (wdP (S 4) sz u 6))]) (rest := []) (m_likeness l D aT ad S u sz k false cm hsz h60 (hp) (wdP (S 4) sz u 6) (by omega) hwd) gT_likeness hd_likeness rfl ⟨Nat.le_of_ble_eq_true rfl, Nat.le_of_ble_eq_true rfl⟩ ⟨Nat.le_refl _, Nat.le_refl _⟩ hW hA rfl (Nat.le_of_ble_eq_true rfl) dX10_readCommand_44 (fun r_44 H locs hq hW => ?_)
    subst hq
    refine lv_istore_n (lv' := [(3, .int (nI (lkF (S 4) sz u (wdP (S 4) sz u 6)))), (0, .ref (ad 0)), (1, .int (nI (4 * k))), (2, .int (nI (wdP (S 4) sz u 6)))]) hx hb dX10_readCommand_47 rfl hl (by decide) rfl (fun ls hl => ?_)
    refine lv_aload_n hx hb dX10_readCommand_48 rfl (lv_at hl 1 rfl) ?_
    refine lv_dup hx hb dX10_readCommand_49 rfl ?_
    refine md_get_place0 C hW dX10_readCommand_50 ?_
    refine r_eq (y := (nI u)) (rfl) ?_
    refine lv_iload_n hx hb dX10_readCommand_53 rfl (lv_at hl 0 rfl) ?_
    refine r_iaddN hx hb (a := u) (b := (lkF (S 4) sz u (wdP (S 4) sz u 6))) dX10_readCommand_54 ?_
    refine md_put_place0 C hW dX10_readCommand_55 (fun H locs hW => ?_)
    have hW : MdB D aT ad (psT S (u + (lkF (S 4) sz u (wdP (S 4) sz u 6))) false k cm) A s.heap H locs := by rw [← psT_p S u false k cm (u + (lkF (S 4) sz u (wdP (S 4) sz u 6)))]; exact hW
    refine lv_aload_n hx hb dX10_readCommand_58 rfl (lv_at hl 1 rfl) ?_
    refine lv_iload_n hx hb dX10_readCommand_59 rfl (lv_at hl 0 rfl) ?_
    refine lv_aload_n hx hb dX10_readCommand_60 rfl (lv_at hl 1 rfl) ?_
    refine md_geta_begins0 C hW dX10_readCommand_61 ?_
    refine lv_iload_n hx hb dX10_readCommand_64 rfl (lv_at hl 3 rfl) ?_
    refine lv_iconst (v := nI 1) hx hb dX10_readCommand_65 (by decide) ?_
    refine r_iaddN hx hb (a := (wdP (S 4) sz u 6)) (b := 1) dX10_readCommand_66 ?_
    refine md_ald_begins0 C hW (i := (wdP (S 4) sz u 6) + 1) (by omega) dX10_readCommand_67 ?_
    refine r_eq (y := (nI (bgN ((wdP (S 4) sz u 6) + 1)))) (hwd.1 _ (by omega)) ?_
    refine lv_aload_n hx hb dX10_readCommand_68 rfl (lv_at hl 1 rfl) ?_
    refine md_geta_begins0 C hW dX10_readCommand_69 ?_
    refine lv_iload_n hx hb dX10_readCommand_72 rfl (lv_at hl 3 rfl) ?_
    refine md_ald_begins0 C hW (i := (wdP (S 4) sz u 6)) (by omega) dX10_readCommand_73 ?_
    refine r_eq (y := (nI (bgN (wdP (S 4) sz u 6)))) (hwd.1 _ (by omega)) ?_
    refine r_isubN hx hb (a := (bgN ((wdP (S 4) sz u 6) + 1))) (b := (bgN (wdP (S 4) sz u 6))) (by omega) dX10_readCommand_74 ?_
    refine r_geN hx hb (a := (lkF (S 4) sz u (wdP (S 4) sz u 6))) (b := (bgN ((wdP (S 4) sz u 6) + 1)) - (bgN (wdP (S 4) sz u 6))) (by omega) (by omega) (tgt := 82) dX10_readCommand_75 (by decide) (fun c_75 => ?_) (fun c_75 => ?_)
    · refine lv_iconst (v := nI 0) hx hb dX10_readCommand_82 (by decide) ?_
      refine md_put_isWrong C hW (by decide) (by decide) dX10_readCommand_83 (fun H locs hW => ?_)
      have hW : MdB D aT ad (psT S (u + (lkF (S 4) sz u (wdP (S 4) sz u 6))) false k cm) A s.heap H locs := by rw [← psT_w S (u + (lkF (S 4) sz u (wdP (S 4) sz u 6))) false k cm false]; exact hW
      refine lv_aload_n hx hb dX10_readCommand_86 rfl (lv_at hl 1 rfl) ?_
      refine md_get_isWrong C hW dX10_readCommand_87 ?_
      refine r_eq (y := (bI false)) (rfl) ?_
      refine r_bI_ne hx hb (b := false) (tgt := 118) dX10_readCommand_90 (by decide) (fun c_90 => ?_) (fun c_90 => ?_)
      · exact absurd c_90 (by decide)
      · refine lv_aload_n hx hb dX10_readCommand_93 rfl (lv_at hl 1 rfl) ?_
        refine md_geta_commands C hW dX10_readCommand_94 ?_
        refine lv_iload_n hx hb dX10_readCommand_97 rfl (lv_at hl 2 rfl) ?_
        refine lv_iload_n hx hb dX10_readCommand_98 rfl (lv_at hl 3 rfl) ?_
        refine md_ast_commands C hW (i := 4 * k) (by omega) dX10_readCommand_99 (fun H locs hW => ?_)
        have hW : MdB D aT ad (psT S (u + (lkF (S 4) sz u (wdP (S 4) sz u 6))) false k (upd cm (4 * k) ((nI (wdP (S 4) sz u 6))))) A s.heap H locs := by rw [← psT_c S (u + (lkF (S 4) sz u (wdP (S 4) sz u 6))) false k cm (upd cm (4 * k) ((nI (wdP (S 4) sz u 6))))]; exact hW
        refine lv_aload_n hx hb dX10_readCommand_100 rfl (lv_at hl 1 rfl) ?_
        refine lv_dup hx hb dX10_readCommand_101 rfl ?_
        refine md_get_commandMany C hW dX10_readCommand_102 ?_
        refine r_eq (y := (nI k)) (rfl) ?_
        refine lv_iconst (v := nI 1) hx hb dX10_readCommand_105 (by decide) ?_
        refine r_iaddN hx hb (a := k) (b := 1) dX10_readCommand_106 ?_
        refine md_put_commandMany C hW dX10_readCommand_107 (fun H locs hW => ?_)
        have hW : MdB D aT ad (psT S (u + (lkF (S 4) sz u (wdP (S 4) sz u 6))) false (k + 1) (upd cm (4 * k) ((nI (wdP (S 4) sz u 6))))) A s.heap H locs := by rw [← psT_k S (u + (lkF (S 4) sz u (wdP (S 4) sz u 6))) false k (upd cm (4 * k) ((nI (wdP (S 4) sz u 6)))) (k + 1)]; exact hW
        refine lv_aload_n hx hb dX10_readCommand_110 rfl (lv_at hl 1 rfl) ?_
        refine lv_iload_n hx hb dX10_readCommand_111 rfl (lv_at hl 3 rfl) ?_
        refine lv_iload_n hx hb dX10_readCommand_112 rfl (lv_at hl 2 rfl) ?_
        refine lv_iconst (v := nI 1) hx hb dX10_readCommand_113 (by decide) ?_
        refine r_iaddN hx hb (a := 4 * k) (b := 1) dX10_readCommand_114 ?_
        refine md_callv C hml hl.1 (As := [.int (nI (wdP (S 4) sz u 6)), .int (nI (4 * k + 1))]) (rest := []) (m_readArguments_all l D aT ad S (u + (lkF (S 4) sz u (wdP (S 4) sz u 6))) sz (k + 1) false (upd cm (4 * k) ((nI (wdP (S 4) sz u 6)))) hsz h60 hlk (4 * k + 1) (by omega) (wdP (S 4) sz u 6) (by omega)) gT_readArguments hd_readArguments rfl ⟨Nat.le_of_ble_eq_true rfl, Nat.le_of_ble_eq_true rfl⟩ ⟨Nat.le_refl _, Nat.le_refl _⟩ hW hA rfl (Nat.le_of_ble_eq_true rfl) dX10_readCommand_115 (fun S_115 H locs hq hW => ?_)
        subst hq
        exact md_vret C hr hlocks hW (by unfold cmdP; rw [if_neg (Nat.not_lt.mpr c_75)]; try rfl) dX10_readCommand_118
    · refine lv_iconst (v := nI 1) hx hb dX10_readCommand_78 (by decide) ?_
      refine lv_goto (tgt := 83) hx hb dX10_readCommand_79 (by decide) ?_
      refine md_put_isWrong C hW (by decide) (by decide) dX10_readCommand_83 (fun H locs hW => ?_)
      have hW : MdB D aT ad (psT S (u + (lkF (S 4) sz u (wdP (S 4) sz u 6))) true k cm) A s.heap H locs := by rw [← psT_w S (u + (lkF (S 4) sz u (wdP (S 4) sz u 6))) false k cm true]; exact hW
      refine lv_aload_n hx hb dX10_readCommand_86 rfl (lv_at hl 1 rfl) ?_
      refine md_get_isWrong C hW dX10_readCommand_87 ?_
      refine r_eq (y := (bI true)) (rfl) ?_
      refine r_bI_ne hx hb (b := true) (tgt := 118) dX10_readCommand_90 (by decide) (fun c_90 => ?_) (fun c_90 => ?_)
      · exact md_vret C hr hlocks hW (by unfold cmdP; rw [if_pos c_75]; try rfl) dX10_readCommand_118
      · exact absurd c_90 (by decide)
  · refine lv_aload_n hx hb dX10_readCommand_17 rfl (lv_at hl 0 rfl) ?_
    refine lv_iload_n hx hb dX10_readCommand_18 rfl (lv_at hl 3 rfl) ?_
    refine md_callg C hml hl.1 (As := [.int (nI (j + 1))]) (rest := []) (m_likeness l D aT ad S u sz k false cm hsz h60 (hp) (j + 1) (by omega) hwd) gT_likeness hd_likeness rfl ⟨Nat.le_of_ble_eq_true rfl, Nat.le_of_ble_eq_true rfl⟩ ⟨Nat.le_refl _, Nat.le_refl _⟩ hW hA rfl (Nat.le_of_ble_eq_true rfl) dX10_readCommand_19 (fun r_19 H locs hq hW => ?_)
    subst hq
    refine lv_aload_n hx hb dX10_readCommand_22 rfl (lv_at hl 0 rfl) ?_
    refine lv_iload_n hx hb dX10_readCommand_23 rfl (lv_at hl 2 rfl) ?_
    refine md_callg C hml hl.1 (As := [.int (nI (wdP (S 4) sz u j))]) (rest := [.int (nI (lkF (S 4) sz u (j + 1)))]) (m_likeness l D aT ad S u sz k false cm hsz h60 (hp) (wdP (S 4) sz u j) (by omega) hwd) gT_likeness hd_likeness rfl ⟨Nat.le_of_ble_eq_true rfl, Nat.le_of_ble_eq_true rfl⟩ ⟨Nat.le_refl _, Nat.le_refl _⟩ hW hA rfl (Nat.le_of_ble_eq_true rfl) dX10_readCommand_24 (fun r_24 H locs hq hW => ?_)
    subst hq
    refine r_leN hx hb (a := (lkF (S 4) sz u (j + 1))) (b := (lkF (S 4) sz u (wdP (S 4) sz u j))) (by have := lkF_le (f := S 4) (w := j + 1) hp; have := lkF_le (f := S 4) (w := wdP (S 4) sz u j) hp; omega) (by have := lkF_le (f := S 4) (w := j + 1) hp; have := lkF_le (f := S 4) (w := wdP (S 4) sz u j) hp; omega) (tgt := 34) dX10_readCommand_27 (by decide) (fun c_27 => ?_) (fun c_27 => ?_)
    · refine lv_iload_n hx hb dX10_readCommand_34 rfl (lv_at hl 2 rfl) ?_
      refine r_eq (y := nI (wdP (S 4) sz u (j + 1))) (congrArg nI (by rw [wdP, if_neg (Nat.not_lt.mpr c_27)])) ?_
      refine lv_istore_n (lv' := [(2, .int (nI (wdP (S 4) sz u (j + 1)))), (0, .ref (ad 0)), (1, .int (nI (4 * k))), (3, .int (nI (j + 1)))]) hx hb dX10_readCommand_35 rfl hl (by decide) rfl (fun ls hl => ?_)
      refine lv_iinc (v := (nI ((j + 1) + 1))) (lv' := [(3, .int (nI ((j + 1) + 1))), (2, .int (nI (wdP (S 4) sz u (j + 1)))), (0, .ref (ad 0)), (1, .int (nI (4 * k)))]) hx hb dX10_readCommand_36 hl (k := 3) rfl (nI_1 _) (by decide) rfl (fun ls hl => ?_)
      refine lv_goto (tgt := 11) hx hb dX10_readCommand_39 (by decide) ?_
      exact ih_11 (j + 1) _ _ _ (by omega) ⟨_, rfl, lv_sub hl [2, 3, 1, 0] rfl, hW, (by omega)⟩
    · refine lv_iload_n hx hb dX10_readCommand_30 rfl (lv_at hl 3 rfl) ?_
      refine lv_goto (tgt := 35) hx hb dX10_readCommand_31 (by decide) ?_
      refine r_eq (y := nI (wdP (S 4) sz u (j + 1))) (congrArg nI (by rw [wdP, if_pos c_27])) ?_
      refine lv_istore_n (lv' := [(2, .int (nI (wdP (S 4) sz u (j + 1)))), (0, .ref (ad 0)), (1, .int (nI (4 * k))), (3, .int (nI (j + 1)))]) hx hb dX10_readCommand_35 rfl hl (by decide) rfl (fun ls hl => ?_)
      refine lv_iinc (v := (nI ((j + 1) + 1))) (lv' := [(3, .int (nI ((j + 1) + 1))), (2, .int (nI (wdP (S 4) sz u (j + 1)))), (0, .ref (ad 0)), (1, .int (nI (4 * k)))]) hx hb dX10_readCommand_36 hl (k := 3) rfl (nI_1 _) (by decide) rfl (fun ls hl => ?_)
      refine lv_goto (tgt := 11) hx hb dX10_readCommand_39 (by decide) ?_
      exact ih_11 (j + 1) _ _ _ (by omega) ⟨_, rfl, lv_sub hl [2, 3, 1, 0] rfl, hW, (by omega)⟩
theorem gT_does : GoodIn gw (wsV RX10 255 RX10 yX10_does (Cond.code yX10_does cX10_does 5 (none) :: gw)) := gdV gw_2051 gw_2053 gw_61 gw_81 gw_2054
theorem hd_does : yX10_does.cls = RX10 ∧ yX10_does.cls ≠ "java/lang/invoke/MethodHandle" ∧ yX10_does.cls ≠ "java/lang/invoke/VarHandle" ∧ (parseMethodDescriptor yX10_does.desc).map (fun d => d.parameters.length) = some 1 := ⟨rfl, by decide +kernel, by decide +kernel, by decide +kernel⟩
theorem dX10_does_0 : decode cX10_does 0 = .ok (.aload_n 0, 1) := by decide +kernel
theorem dX10_does_1 : decode cX10_does 1 = .ok (.getfield 51, 3) := by decide +kernel
theorem dX10_does_4 : decode cX10_does 4 = .ok (.iload_n 1, 1) := by decide +kernel
theorem dX10_does_5 : decode cX10_does 5 = .ok (.iconst 1, 1) := by decide +kernel
theorem dX10_does_6 : decode cX10_does 6 = .ok (.iadd, 1) := by decide +kernel
theorem dX10_does_7 : decode cX10_does 7 = .ok (.iaload, 1) := by decide +kernel
theorem dX10_does_8 : decode cX10_does 8 = .ok (.istore_n 2, 1) := by decide +kernel
theorem dX10_does_9 : decode cX10_does 9 = .ok (.aload_n 0, 1) := by decide +kernel
theorem dX10_does_10 : decode cX10_does 10 = .ok (.getfield 51, 3) := by decide +kernel
theorem dX10_does_13 : decode cX10_does 13 = .ok (.iload_n 1, 1) := by decide +kernel
theorem dX10_does_14 : decode cX10_does 14 = .ok (.iconst 2, 1) := by decide +kernel
theorem dX10_does_15 : decode cX10_does 15 = .ok (.iadd, 1) := by decide +kernel
theorem dX10_does_16 : decode cX10_does 16 = .ok (.iaload, 1) := by decide +kernel
theorem dX10_does_17 : decode cX10_does 17 = .ok (.istore_n 3, 1) := by decide +kernel
theorem dX10_does_18 : decode cX10_does 18 = .ok (.aload_n 0, 1) := by decide +kernel
theorem dX10_does_19 : decode cX10_does 19 = .ok (.getfield 51, 3) := by decide +kernel
theorem dX10_does_22 : decode cX10_does 22 = .ok (.iload_n 1, 1) := by decide +kernel
theorem dX10_does_23 : decode cX10_does 23 = .ok (.iconst 3, 1) := by decide +kernel
theorem dX10_does_24 : decode cX10_does 24 = .ok (.iadd, 1) := by decide +kernel
theorem dX10_does_25 : decode cX10_does 25 = .ok (.iaload, 1) := by decide +kernel
theorem dX10_does_26 : decode cX10_does 26 = .ok (.istore 4, 2) := by decide +kernel
theorem dX10_does_28 : decode cX10_does 28 = .ok (.aload_n 0, 1) := by decide +kernel
theorem dX10_does_29 : decode cX10_does 29 = .ok (.getfield 51, 3) := by decide +kernel
theorem dX10_does_32 : decode cX10_does 32 = .ok (.iload_n 1, 1) := by decide +kernel
theorem dX10_does_33 : decode cX10_does 33 = .ok (.iaload, 1) := by decide +kernel
theorem dX10_does_34 : decode cX10_does 34 = .ok (.tableswitch 100 0 5 #[38, 50, 60, 72, 82, 91], 38) := by decide +kernel
theorem dX10_does_72 : decode cX10_does 72 = .ok (.aload_n 0, 1) := by decide +kernel
theorem dX10_does_73 : decode cX10_does 73 = .ok (.iload_n 2, 1) := by decide +kernel
theorem dX10_does_74 : decode cX10_does 74 = .ok (.iload_n 3, 1) := by decide +kernel
theorem dX10_does_75 : decode cX10_does 75 = .ok (.iload 4, 2) := by decide +kernel
theorem dX10_does_77 : decode cX10_does 77 = .ok (.invokevirtual 107, 3) := by decide +kernel
theorem dX10_does_80 : decode cX10_does 80 = .ok (.pop, 1) := by decide +kernel
theorem dX10_does_81 : decode cX10_does 81 = .ok (.goto 58, 3) := by decide +kernel
theorem dX10_does_84 : decode cX10_does 84 = .ok (.aload_n 0, 1) := by decide +kernel
theorem dX10_does_85 : decode cX10_does 85 = .ok (.iload_n 2, 1) := by decide +kernel
theorem dX10_does_86 : decode cX10_does 86 = .ok (.iload_n 3, 1) := by decide +kernel
theorem dX10_does_87 : decode cX10_does 87 = .ok (.invokevirtual 119, 3) := by decide +kernel
theorem dX10_does_90 : decode cX10_does 90 = .ok (.pop, 1) := by decide +kernel
theorem dX10_does_91 : decode cX10_does 91 = .ok (.goto 48, 3) := by decide +kernel
theorem dX10_does_94 : decode cX10_does 94 = .ok (.aload_n 0, 1) := by decide +kernel
theorem dX10_does_95 : decode cX10_does 95 = .ok (.iload_n 2, 1) := by decide +kernel
theorem dX10_does_96 : decode cX10_does 96 = .ok (.iload_n 3, 1) := by decide +kernel
theorem dX10_does_97 : decode cX10_does 97 = .ok (.iload 4, 2) := by decide +kernel
theorem dX10_does_99 : decode cX10_does 99 = .ok (.invokevirtual 122, 3) := by decide +kernel
theorem dX10_does_102 : decode cX10_does 102 = .ok (.pop, 1) := by decide +kernel
theorem dX10_does_103 : decode cX10_does 103 = .ok (.goto 36, 3) := by decide +kernel
theorem dX10_does_106 : decode cX10_does 106 = .ok (.aload_n 0, 1) := by decide +kernel
theorem dX10_does_107 : decode cX10_does 107 = .ok (.iload_n 2, 1) := by decide +kernel
theorem dX10_does_108 : decode cX10_does 108 = .ok (.iload_n 3, 1) := by decide +kernel
theorem dX10_does_109 : decode cX10_does 109 = .ok (.invokevirtual 132, 3) := by decide +kernel
theorem dX10_does_112 : decode cX10_does 112 = .ok (.pop, 1) := by decide +kernel
theorem dX10_does_113 : decode cX10_does 113 = .ok (.goto 26, 3) := by decide +kernel
theorem dX10_does_116 : decode cX10_does 116 = .ok (.aload_n 0, 1) := by decide +kernel
theorem dX10_does_117 : decode cX10_does 117 = .ok (.iload_n 2, 1) := by decide +kernel
theorem dX10_does_118 : decode cX10_does 118 = .ok (.invokevirtual 141, 3) := by decide +kernel
theorem dX10_does_121 : decode cX10_does 121 = .ok (.pop, 1) := by decide +kernel
theorem dX10_does_122 : decode cX10_does 122 = .ok (.goto 17, 3) := by decide +kernel
theorem dX10_does_125 : decode cX10_does 125 = .ok (.aload_n 0, 1) := by decide +kernel
theorem dX10_does_126 : decode cX10_does 126 = .ok (.iload_n 2, 1) := by decide +kernel
theorem dX10_does_127 : decode cX10_does 127 = .ok (.invokevirtual 157, 3) := by decide +kernel
theorem dX10_does_130 : decode cX10_does 130 = .ok (.pop, 1) := by decide +kernel
theorem dX10_does_131 : decode cX10_does 131 = .ok (.goto 8, 3) := by decide +kernel
theorem dX10_does_134 : decode cX10_does 134 = .ok (.aload_n 0, 1) := by decide +kernel
theorem dX10_does_135 : decode cX10_does 135 = .ok (.invokevirtual 163, 3) := by decide +kernel
theorem dX10_does_138 : decode cX10_does 138 = .ok (.pop, 1) := by decide +kernel
theorem dX10_does_139 : decode cX10_does 139 = .ok (.return_, 1) := by decide +kernel
set_option maxHeartbeats 2000000 in
set_option maxRecDepth 20000 in
theorem m_does (l : Launch) (D : va_G) (aT : Nat → ClassId) (ad : Nat → Nat) (S : MSt) (fr s0 : Nat) (hfr : fr + 3 < 244) (hw : S 11 fr = nI 0) (hF : FoW (S 0)) (hH : HeW (S 0)) (hs : S 0 3 = nI s0) (hs4 : s0 < 4) : MdV l yX10_does cX10_does 5 6 134 D aT ad [.ref (ad 0), .int (nI fr)] S (fun S1 => (doF (S 0) 0 (S 11 (fr + 1)) (S 11 (fr + 2)) (S 11 (fr + 3)) = none ∧ ∃ t, 0 < t ∧ t < 4 ∧ S1 = ss S 8 (nI t)) ∨ (∃ m1, doF (S 0) 0 (S 11 (fr + 1)) (S 11 (fr + 2)) (S 11 (fr + 3)) = some m1 ∧ S1 = sr S 0 m1)) := by
  refine MdV.of (by decide +kernel) rfl (Nat.le_of_ble_eq_true rfl) ?_
  intro p e s m below meth c A ls C hml hl hA hr hlocks hW
  have hl : lv_has ls 5 [(0, .ref (ad 0)), (1, .int (nI fr))] := hl
  have hx := C.1
  have hb := C.2.1
  refine lv_aload_n hx hb dX10_does_0 rfl (lv_at hl 0 rfl) ?_
  refine md_geta_commands C hW dX10_does_1 ?_
  refine lv_iload_n hx hb dX10_does_4 rfl (lv_at hl 1 rfl) ?_
  refine lv_iconst (v := nI 1) hx hb dX10_does_5 (by decide) ?_
  refine r_iaddN hx hb (a := fr) (b := 1) dX10_does_6 ?_
  refine md_ald_commands C hW (i := fr + 1) (by omega) dX10_does_7 ?_
  refine lv_istore_n (lv' := [(2, .int (S 11 (fr + 1))), (0, .ref (ad 0)), (1, .int (nI fr))]) hx hb dX10_does_8 rfl hl (by decide) rfl (fun ls hl => ?_)
  refine lv_aload_n hx hb dX10_does_9 rfl (lv_at hl 1 rfl) ?_
  refine md_geta_commands C hW dX10_does_10 ?_
  refine lv_iload_n hx hb dX10_does_13 rfl (lv_at hl 2 rfl) ?_
  refine lv_iconst (v := nI 2) hx hb dX10_does_14 (by decide) ?_
  refine r_iaddN hx hb (a := fr) (b := 2) dX10_does_15 ?_
  refine md_ald_commands C hW (i := fr + 2) (by omega) dX10_does_16 ?_
  refine lv_istore_n (lv' := [(3, .int (S 11 (fr + 2))), (2, .int (S 11 (fr + 1))), (0, .ref (ad 0)), (1, .int (nI fr))]) hx hb dX10_does_17 rfl hl (by decide) rfl (fun ls hl => ?_)
  refine lv_aload_n hx hb dX10_does_18 rfl (lv_at hl 2 rfl) ?_
  refine md_geta_commands C hW dX10_does_19 ?_
  refine lv_iload_n hx hb dX10_does_22 rfl (lv_at hl 3 rfl) ?_
  refine lv_iconst (v := nI 3) hx hb dX10_does_23 (by decide) ?_
  refine r_iaddN hx hb (a := fr) (b := 3) dX10_does_24 ?_
  refine md_ald_commands C hW (i := fr + 3) (by omega) dX10_does_25 ?_
  refine lv_istore (lv' := [(4, .int (S 11 (fr + 3))), (3, .int (S 11 (fr + 2))), (2, .int (S 11 (fr + 1))), (0, .ref (ad 0)), (1, .int (nI fr))]) hx hb dX10_does_26 hl (by decide) rfl (fun ls hl => ?_)
  refine lv_aload_n hx hb dX10_does_28 rfl (lv_at hl 3 rfl) ?_
  refine md_geta_commands C hW dX10_does_29 ?_
  refine lv_iload_n hx hb dX10_does_32 rfl (lv_at hl 4 rfl) ?_
  refine md_ald_commands C hW (i := fr) (by omega) dX10_does_33 ?_
  refine r_eq (y := (nI 0)) (hw) ?_
  refine lv_tableIn (x := nI 0) (off := 38) (tgt := 72) hx hb dX10_does_34 (by decide) (by decide) (by decide) (by decide) ?_
  refine lv_aload_n hx hb dX10_does_72 rfl (lv_at hl 3 rfl) ?_
  refine lv_iload_n hx hb dX10_does_73 rfl (lv_at hl 2 rfl) ?_
  refine lv_iload_n hx hb dX10_does_74 rfl (lv_at hl 1 rfl) ?_
  refine lv_iload hx hb dX10_does_75 (lv_at hl 0 rfl) ?_
  refine md_calli C hml hl.1 (As := [.int (S 11 (fr + 1)), .int (S 11 (fr + 2)), .int (S 11 (fr + 3))]) (rest := []) (m_hedgeIt l D aT ad S (S 11 (fr + 1)) (S 11 (fr + 2)) (S 11 (fr + 3)) (hM (S 0)) hH.1 hH.2.1) gT_hedgeIt hd_hedgeIt rfl ⟨Nat.le_of_ble_eq_true rfl, Nat.le_of_ble_eq_true rfl⟩ ⟨Nat.le_refl _, Nat.le_refl _⟩ hW hA rfl (Nat.le_of_ble_eq_true rfl) dX10_does_77 (fun r_77 S_77 H locs hq hW => ?_)
  rcases hq with ⟨h1, rfl, rfl⟩ | ⟨h1, h2, rfl, rfl⟩ | ⟨h1, h2, rfl, rfl⟩
  · refine lv_pop hx hb dX10_does_80 rfl ?_
    refine lv_goto (tgt := 139) hx hb dX10_does_81 (by decide) ?_
    exact md_vret C hr hlocks hW (Or.inl ⟨by rw [doF_0, if_neg (by rintro ⟨z1, z2⟩; rw [h1] at z1; cases z1)], 1, by decide, by decide, rfl⟩) dX10_does_139
  · refine lv_pop hx hb dX10_does_80 rfl ?_
    refine lv_goto (tgt := 139) hx hb dX10_does_81 (by decide) ?_
    exact md_vret C hr hlocks hW (Or.inl ⟨by rw [doF_0, if_neg (by rintro ⟨z1, z2⟩; omega)], 2, by decide, by decide, rfl⟩) dX10_does_139
  · refine lv_pop hx hb dX10_does_80 rfl ?_
    refine lv_goto (tgt := 139) hx hb dX10_does_81 (by decide) ?_
    exact md_vret C hr hlocks hW (Or.inr ⟨_, by rw [doF_0, if_pos ⟨h1, h2⟩], rfl⟩) dX10_does_139
set_option maxHeartbeats 2000000 in
set_option maxRecDepth 20000 in
theorem m_does_1 (l : Launch) (D : va_G) (aT : Nat → ClassId) (ad : Nat → Nat) (S : MSt) (fr s0 : Nat) (hfr : fr + 3 < 244) (hw : S 11 fr = nI 1) (hF : FoW (S 0)) (hH : HeW (S 0)) (hs : S 0 3 = nI s0) (hs4 : s0 < 4) : MdV l yX10_does cX10_does 5 6 134 D aT ad [.ref (ad 0), .int (nI fr)] S (fun S1 => (doF (S 0) 1 (S 11 (fr + 1)) (S 11 (fr + 2)) (S 11 (fr + 3)) = none ∧ ∃ t, 0 < t ∧ t < 4 ∧ S1 = ss S 8 (nI t)) ∨ (∃ m1, doF (S 0) 1 (S 11 (fr + 1)) (S 11 (fr + 2)) (S 11 (fr + 3)) = some m1 ∧ S1 = sr S 0 m1)) := by
  refine MdV.of (by decide +kernel) rfl (Nat.le_of_ble_eq_true rfl) ?_
  intro p e s m below meth c A ls C hml hl hA hr hlocks hW
  have hl : lv_has ls 5 [(0, .ref (ad 0)), (1, .int (nI fr))] := hl
  have hx := C.1
  have hb := C.2.1
  refine lv_aload_n hx hb dX10_does_0 rfl (lv_at hl 0 rfl) ?_
  refine md_geta_commands C hW dX10_does_1 ?_
  refine lv_iload_n hx hb dX10_does_4 rfl (lv_at hl 1 rfl) ?_
  refine lv_iconst (v := nI 1) hx hb dX10_does_5 (by decide) ?_
  refine r_iaddN hx hb (a := fr) (b := 1) dX10_does_6 ?_
  refine md_ald_commands C hW (i := fr + 1) (by omega) dX10_does_7 ?_
  refine lv_istore_n (lv' := [(2, .int (S 11 (fr + 1))), (0, .ref (ad 0)), (1, .int (nI fr))]) hx hb dX10_does_8 rfl hl (by decide) rfl (fun ls hl => ?_)
  refine lv_aload_n hx hb dX10_does_9 rfl (lv_at hl 1 rfl) ?_
  refine md_geta_commands C hW dX10_does_10 ?_
  refine lv_iload_n hx hb dX10_does_13 rfl (lv_at hl 2 rfl) ?_
  refine lv_iconst (v := nI 2) hx hb dX10_does_14 (by decide) ?_
  refine r_iaddN hx hb (a := fr) (b := 2) dX10_does_15 ?_
  refine md_ald_commands C hW (i := fr + 2) (by omega) dX10_does_16 ?_
  refine lv_istore_n (lv' := [(3, .int (S 11 (fr + 2))), (2, .int (S 11 (fr + 1))), (0, .ref (ad 0)), (1, .int (nI fr))]) hx hb dX10_does_17 rfl hl (by decide) rfl (fun ls hl => ?_)
  refine lv_aload_n hx hb dX10_does_18 rfl (lv_at hl 2 rfl) ?_
  refine md_geta_commands C hW dX10_does_19 ?_
  refine lv_iload_n hx hb dX10_does_22 rfl (lv_at hl 3 rfl) ?_
  refine lv_iconst (v := nI 3) hx hb dX10_does_23 (by decide) ?_
  refine r_iaddN hx hb (a := fr) (b := 3) dX10_does_24 ?_
  refine md_ald_commands C hW (i := fr + 3) (by omega) dX10_does_25 ?_
  refine lv_istore (lv' := [(4, .int (S 11 (fr + 3))), (3, .int (S 11 (fr + 2))), (2, .int (S 11 (fr + 1))), (0, .ref (ad 0)), (1, .int (nI fr))]) hx hb dX10_does_26 hl (by decide) rfl (fun ls hl => ?_)
  refine lv_aload_n hx hb dX10_does_28 rfl (lv_at hl 3 rfl) ?_
  refine md_geta_commands C hW dX10_does_29 ?_
  refine lv_iload_n hx hb dX10_does_32 rfl (lv_at hl 4 rfl) ?_
  refine md_ald_commands C hW (i := fr) (by omega) dX10_does_33 ?_
  refine r_eq (y := (nI 1)) (hw) ?_
  refine lv_tableIn (x := nI 1) (off := 50) (tgt := 84) hx hb dX10_does_34 (by decide) (by decide) (by decide) (by decide) ?_
  refine lv_aload_n hx hb dX10_does_84 rfl (lv_at hl 3 rfl) ?_
  refine lv_iload_n hx hb dX10_does_85 rfl (lv_at hl 2 rfl) ?_
  refine lv_iload_n hx hb dX10_does_86 rfl (lv_at hl 1 rfl) ?_
  refine md_calli C hml hl.1 (As := [.int (S 11 (fr + 1)), .int (S 11 (fr + 2))]) (rest := []) (m_mainIt l D aT ad S (S 11 (fr + 1)) (S 11 (fr + 2)) (nM (S 0)) hF.1 hF.2.1) gT_mainIt hd_mainIt rfl ⟨Nat.le_of_ble_eq_true rfl, Nat.le_of_ble_eq_true rfl⟩ ⟨Nat.le_refl _, Nat.le_refl _⟩ hW hA rfl (Nat.le_of_ble_eq_true rfl) dX10_does_87 (fun r_87 S_87 H locs hq hW => ?_)
  rcases hq with ⟨h1, rfl, rfl⟩ | ⟨h1, h2, rfl, rfl⟩ | ⟨h1, h2, rfl, rfl⟩
  · refine lv_pop hx hb dX10_does_90 rfl ?_
    refine lv_goto (tgt := 139) hx hb dX10_does_91 (by decide) ?_
    exact md_vret C hr hlocks hW (Or.inl ⟨by rw [doF_1, if_neg (by rintro ⟨z1, z2⟩; rw [h1] at z1; cases z1)], 1, by decide, by decide, rfl⟩) dX10_does_139
  · refine lv_pop hx hb dX10_does_90 rfl ?_
    refine lv_goto (tgt := 139) hx hb dX10_does_91 (by decide) ?_
    exact md_vret C hr hlocks hW (Or.inl ⟨by rw [doF_1, if_neg (by rintro ⟨z1, z2⟩; omega)], 2, by decide, by decide, rfl⟩) dX10_does_139
  · refine lv_pop hx hb dX10_does_90 rfl ?_
    refine lv_goto (tgt := 139) hx hb dX10_does_91 (by decide) ?_
    exact md_vret C hr hlocks hW (Or.inr ⟨_, by rw [doF_1, if_pos ⟨h1, h2⟩], rfl⟩) dX10_does_139
set_option maxHeartbeats 2000000 in
set_option maxRecDepth 20000 in
theorem m_does_2 (l : Launch) (D : va_G) (aT : Nat → ClassId) (ad : Nat → Nat) (S : MSt) (fr s0 : Nat) (hfr : fr + 3 < 244) (hw : S 11 fr = nI 2) (hF : FoW (S 0)) (hH : HeW (S 0)) (hs : S 0 3 = nI s0) (hs4 : s0 < 4) : MdV l yX10_does cX10_does 5 6 134 D aT ad [.ref (ad 0), .int (nI fr)] S (fun S1 => (doF (S 0) 2 (S 11 (fr + 1)) (S 11 (fr + 2)) (S 11 (fr + 3)) = none ∧ ∃ t, 0 < t ∧ t < 4 ∧ S1 = ss S 8 (nI t)) ∨ (∃ m1, doF (S 0) 2 (S 11 (fr + 1)) (S 11 (fr + 2)) (S 11 (fr + 3)) = some m1 ∧ S1 = sr S 0 m1)) := by
  refine MdV.of (by decide +kernel) rfl (Nat.le_of_ble_eq_true rfl) ?_
  intro p e s m below meth c A ls C hml hl hA hr hlocks hW
  have hl : lv_has ls 5 [(0, .ref (ad 0)), (1, .int (nI fr))] := hl
  have hx := C.1
  have hb := C.2.1
  refine lv_aload_n hx hb dX10_does_0 rfl (lv_at hl 0 rfl) ?_
  refine md_geta_commands C hW dX10_does_1 ?_
  refine lv_iload_n hx hb dX10_does_4 rfl (lv_at hl 1 rfl) ?_
  refine lv_iconst (v := nI 1) hx hb dX10_does_5 (by decide) ?_
  refine r_iaddN hx hb (a := fr) (b := 1) dX10_does_6 ?_
  refine md_ald_commands C hW (i := fr + 1) (by omega) dX10_does_7 ?_
  refine lv_istore_n (lv' := [(2, .int (S 11 (fr + 1))), (0, .ref (ad 0)), (1, .int (nI fr))]) hx hb dX10_does_8 rfl hl (by decide) rfl (fun ls hl => ?_)
  refine lv_aload_n hx hb dX10_does_9 rfl (lv_at hl 1 rfl) ?_
  refine md_geta_commands C hW dX10_does_10 ?_
  refine lv_iload_n hx hb dX10_does_13 rfl (lv_at hl 2 rfl) ?_
  refine lv_iconst (v := nI 2) hx hb dX10_does_14 (by decide) ?_
  refine r_iaddN hx hb (a := fr) (b := 2) dX10_does_15 ?_
  refine md_ald_commands C hW (i := fr + 2) (by omega) dX10_does_16 ?_
  refine lv_istore_n (lv' := [(3, .int (S 11 (fr + 2))), (2, .int (S 11 (fr + 1))), (0, .ref (ad 0)), (1, .int (nI fr))]) hx hb dX10_does_17 rfl hl (by decide) rfl (fun ls hl => ?_)
  refine lv_aload_n hx hb dX10_does_18 rfl (lv_at hl 2 rfl) ?_
  refine md_geta_commands C hW dX10_does_19 ?_
  refine lv_iload_n hx hb dX10_does_22 rfl (lv_at hl 3 rfl) ?_
  refine lv_iconst (v := nI 3) hx hb dX10_does_23 (by decide) ?_
  refine r_iaddN hx hb (a := fr) (b := 3) dX10_does_24 ?_
  refine md_ald_commands C hW (i := fr + 3) (by omega) dX10_does_25 ?_
  refine lv_istore (lv' := [(4, .int (S 11 (fr + 3))), (3, .int (S 11 (fr + 2))), (2, .int (S 11 (fr + 1))), (0, .ref (ad 0)), (1, .int (nI fr))]) hx hb dX10_does_26 hl (by decide) rfl (fun ls hl => ?_)
  refine lv_aload_n hx hb dX10_does_28 rfl (lv_at hl 3 rfl) ?_
  refine md_geta_commands C hW dX10_does_29 ?_
  refine lv_iload_n hx hb dX10_does_32 rfl (lv_at hl 4 rfl) ?_
  refine md_ald_commands C hW (i := fr) (by omega) dX10_does_33 ?_
  refine r_eq (y := (nI 2)) (hw) ?_
  refine lv_tableIn (x := nI 2) (off := 60) (tgt := 94) hx hb dX10_does_34 (by decide) (by decide) (by decide) (by decide) ?_
  refine lv_aload_n hx hb dX10_does_94 rfl (lv_at hl 3 rfl) ?_
  refine lv_iload_n hx hb dX10_does_95 rfl (lv_at hl 2 rfl) ?_
  refine lv_iload_n hx hb dX10_does_96 rfl (lv_at hl 1 rfl) ?_
  refine lv_iload hx hb dX10_does_97 (lv_at hl 0 rfl) ?_
  refine md_calli C hml hl.1 (As := [.int (S 11 (fr + 1)), .int (S 11 (fr + 2)), .int (S 11 (fr + 3))]) (rest := []) (m_amendIt l D aT ad S (S 11 (fr + 1)) (S 11 (fr + 2)) (S 11 (fr + 3)) (nM (S 0)) hF.1 hF.2.1) gT_amendIt hd_amendIt rfl ⟨Nat.le_of_ble_eq_true rfl, Nat.le_of_ble_eq_true rfl⟩ ⟨Nat.le_refl _, Nat.le_refl _⟩ hW hA rfl (Nat.le_of_ble_eq_true rfl) dX10_does_99 (fun r_99 S_99 H locs hq hW => ?_)
  rcases hq with ⟨h1, rfl, rfl⟩ | ⟨q, h1, h2, rfl, rfl⟩ | ⟨q, h1, h2, h3, rfl, rfl⟩ | ⟨q, h1, h2, h3, rfl, rfl⟩
  · refine lv_pop hx hb dX10_does_102 rfl ?_
    refine lv_goto (tgt := 139) hx hb dX10_does_103 (by decide) ?_
    exact md_vret C hr hlocks hW (Or.inl ⟨by rw [doF_2, h1], 1, by decide, by decide, rfl⟩) dX10_does_139
  · refine lv_pop hx hb dX10_does_102 rfl ?_
    refine lv_goto (tgt := 139) hx hb dX10_does_103 (by decide) ?_
    exact md_vret C hr hlocks hW (Or.inl ⟨by rw [doF_2, h1]; (try dsimp only); rw [if_neg (by rintro ⟨z1, z2⟩; rw [h2] at z1; cases z1)], 2, by decide, by decide, rfl⟩) dX10_does_139
  · refine lv_pop hx hb dX10_does_102 rfl ?_
    refine lv_goto (tgt := 139) hx hb dX10_does_103 (by decide) ?_
    exact md_vret C hr hlocks hW (Or.inl ⟨by rw [doF_2, h1]; (try dsimp only); rw [if_neg (by rintro ⟨z1, z2⟩; omega)], 3, by decide, by decide, rfl⟩) dX10_does_139
  · refine lv_pop hx hb dX10_does_102 rfl ?_
    refine lv_goto (tgt := 139) hx hb dX10_does_103 (by decide) ?_
    exact md_vret C hr hlocks hW (Or.inr ⟨_, by rw [doF_2, h1]; (try dsimp only); rw [if_pos ⟨h2, h3⟩], rfl⟩) dX10_does_139
set_option maxHeartbeats 2000000 in
set_option maxRecDepth 20000 in
theorem m_does_3 (l : Launch) (D : va_G) (aT : Nat → ClassId) (ad : Nat → Nat) (S : MSt) (fr s0 : Nat) (hfr : fr + 3 < 244) (hw : S 11 fr = nI 3) (hF : FoW (S 0)) (hH : HeW (S 0)) (hs : S 0 3 = nI s0) (hs4 : s0 < 4) : MdV l yX10_does cX10_does 5 6 134 D aT ad [.ref (ad 0), .int (nI fr)] S (fun S1 => (doF (S 0) 3 (S 11 (fr + 1)) (S 11 (fr + 2)) (S 11 (fr + 3)) = none ∧ ∃ t, 0 < t ∧ t < 4 ∧ S1 = ss S 8 (nI t)) ∨ (∃ m1, doF (S 0) 3 (S 11 (fr + 1)) (S 11 (fr + 2)) (S 11 (fr + 3)) = some m1 ∧ S1 = sr S 0 m1)) := by
  refine MdV.of (by decide +kernel) rfl (Nat.le_of_ble_eq_true rfl) ?_
  intro p e s m below meth c A ls C hml hl hA hr hlocks hW
  have hl : lv_has ls 5 [(0, .ref (ad 0)), (1, .int (nI fr))] := hl
  have hx := C.1
  have hb := C.2.1
  refine lv_aload_n hx hb dX10_does_0 rfl (lv_at hl 0 rfl) ?_
  refine md_geta_commands C hW dX10_does_1 ?_
  refine lv_iload_n hx hb dX10_does_4 rfl (lv_at hl 1 rfl) ?_
  refine lv_iconst (v := nI 1) hx hb dX10_does_5 (by decide) ?_
  refine r_iaddN hx hb (a := fr) (b := 1) dX10_does_6 ?_
  refine md_ald_commands C hW (i := fr + 1) (by omega) dX10_does_7 ?_
  refine lv_istore_n (lv' := [(2, .int (S 11 (fr + 1))), (0, .ref (ad 0)), (1, .int (nI fr))]) hx hb dX10_does_8 rfl hl (by decide) rfl (fun ls hl => ?_)
  refine lv_aload_n hx hb dX10_does_9 rfl (lv_at hl 1 rfl) ?_
  refine md_geta_commands C hW dX10_does_10 ?_
  refine lv_iload_n hx hb dX10_does_13 rfl (lv_at hl 2 rfl) ?_
  refine lv_iconst (v := nI 2) hx hb dX10_does_14 (by decide) ?_
  refine r_iaddN hx hb (a := fr) (b := 2) dX10_does_15 ?_
  refine md_ald_commands C hW (i := fr + 2) (by omega) dX10_does_16 ?_
  refine lv_istore_n (lv' := [(3, .int (S 11 (fr + 2))), (2, .int (S 11 (fr + 1))), (0, .ref (ad 0)), (1, .int (nI fr))]) hx hb dX10_does_17 rfl hl (by decide) rfl (fun ls hl => ?_)
  refine lv_aload_n hx hb dX10_does_18 rfl (lv_at hl 2 rfl) ?_
  refine md_geta_commands C hW dX10_does_19 ?_
  refine lv_iload_n hx hb dX10_does_22 rfl (lv_at hl 3 rfl) ?_
  refine lv_iconst (v := nI 3) hx hb dX10_does_23 (by decide) ?_
  refine r_iaddN hx hb (a := fr) (b := 3) dX10_does_24 ?_
  refine md_ald_commands C hW (i := fr + 3) (by omega) dX10_does_25 ?_
  refine lv_istore (lv' := [(4, .int (S 11 (fr + 3))), (3, .int (S 11 (fr + 2))), (2, .int (S 11 (fr + 1))), (0, .ref (ad 0)), (1, .int (nI fr))]) hx hb dX10_does_26 hl (by decide) rfl (fun ls hl => ?_)
  refine lv_aload_n hx hb dX10_does_28 rfl (lv_at hl 3 rfl) ?_
  refine md_geta_commands C hW dX10_does_29 ?_
  refine lv_iload_n hx hb dX10_does_32 rfl (lv_at hl 4 rfl) ?_
  refine md_ald_commands C hW (i := fr) (by omega) dX10_does_33 ?_
  refine r_eq (y := (nI 3)) (hw) ?_
  refine lv_tableIn (x := nI 3) (off := 72) (tgt := 106) hx hb dX10_does_34 (by decide) (by decide) (by decide) (by decide) ?_
  refine lv_aload_n hx hb dX10_does_106 rfl (lv_at hl 3 rfl) ?_
  refine lv_iload_n hx hb dX10_does_107 rfl (lv_at hl 2 rfl) ?_
  refine lv_iload_n hx hb dX10_does_108 rfl (lv_at hl 1 rfl) ?_
  refine md_calli C hml hl.1 (As := [.int (S 11 (fr + 1)), .int (S 11 (fr + 2))]) (rest := []) (m_pruneIt l D aT ad S (S 11 (fr + 1)) (S 11 (fr + 2)) hF) gT_pruneIt hd_pruneIt rfl ⟨Nat.le_of_ble_eq_true rfl, Nat.le_of_ble_eq_true rfl⟩ ⟨Nat.le_refl _, Nat.le_refl _⟩ hW hA rfl (Nat.le_of_ble_eq_true rfl) dX10_does_109 (fun r_109 S_109 H locs hq hW => ?_)
  rcases hq with ⟨h1, rfl, rfl⟩ | ⟨q, h1, h2, rfl, rfl⟩ | ⟨q, v, h1, h2, h9, h3, rfl, rfl⟩
  · refine lv_pop hx hb dX10_does_112 rfl ?_
    refine lv_goto (tgt := 139) hx hb dX10_does_113 (by decide) ?_
    exact md_vret C hr hlocks hW (Or.inl ⟨by rw [doF_3, h1], 1, by decide, by decide, rfl⟩) dX10_does_139
  · refine lv_pop hx hb dX10_does_112 rfl ?_
    refine lv_goto (tgt := 139) hx hb dX10_does_113 (by decide) ?_
    exact md_vret C hr hlocks hW (Or.inl ⟨by rw [doF_3, h1]; (try dsimp only); rw [if_neg (by rw [h2]; decide)], 2, by decide, by decide, rfl⟩) dX10_does_139
  · refine lv_pop hx hb dX10_does_112 rfl ?_
    refine lv_goto (tgt := 139) hx hb dX10_does_113 (by decide) ?_
    exact md_vret C hr hlocks hW (Or.inr ⟨_, by rw [doF_3, h1]; (try dsimp only); rw [if_pos h3, h2, nI_clamp (by omega)], rfl⟩) dX10_does_139
set_option maxHeartbeats 2000000 in
set_option maxRecDepth 20000 in
theorem m_does_4 (l : Launch) (D : va_G) (aT : Nat → ClassId) (ad : Nat → Nat) (S : MSt) (fr s0 : Nat) (hfr : fr + 3 < 244) (hw : S 11 fr = nI 4) (hF : FoW (S 0)) (hH : HeW (S 0)) (hs : S 0 3 = nI s0) (hs4 : s0 < 4) : MdV l yX10_does cX10_does 5 6 134 D aT ad [.ref (ad 0), .int (nI fr)] S (fun S1 => (doF (S 0) 4 (S 11 (fr + 1)) (S 11 (fr + 2)) (S 11 (fr + 3)) = none ∧ ∃ t, 0 < t ∧ t < 4 ∧ S1 = ss S 8 (nI t)) ∨ (∃ m1, doF (S 0) 4 (S 11 (fr + 1)) (S 11 (fr + 2)) (S 11 (fr + 3)) = some m1 ∧ S1 = sr S 0 m1)) := by
  refine MdV.of (by decide +kernel) rfl (Nat.le_of_ble_eq_true rfl) ?_
  intro p e s m below meth c A ls C hml hl hA hr hlocks hW
  have hl : lv_has ls 5 [(0, .ref (ad 0)), (1, .int (nI fr))] := hl
  have hx := C.1
  have hb := C.2.1
  refine lv_aload_n hx hb dX10_does_0 rfl (lv_at hl 0 rfl) ?_
  refine md_geta_commands C hW dX10_does_1 ?_
  refine lv_iload_n hx hb dX10_does_4 rfl (lv_at hl 1 rfl) ?_
  refine lv_iconst (v := nI 1) hx hb dX10_does_5 (by decide) ?_
  refine r_iaddN hx hb (a := fr) (b := 1) dX10_does_6 ?_
  refine md_ald_commands C hW (i := fr + 1) (by omega) dX10_does_7 ?_
  refine lv_istore_n (lv' := [(2, .int (S 11 (fr + 1))), (0, .ref (ad 0)), (1, .int (nI fr))]) hx hb dX10_does_8 rfl hl (by decide) rfl (fun ls hl => ?_)
  refine lv_aload_n hx hb dX10_does_9 rfl (lv_at hl 1 rfl) ?_
  refine md_geta_commands C hW dX10_does_10 ?_
  refine lv_iload_n hx hb dX10_does_13 rfl (lv_at hl 2 rfl) ?_
  refine lv_iconst (v := nI 2) hx hb dX10_does_14 (by decide) ?_
  refine r_iaddN hx hb (a := fr) (b := 2) dX10_does_15 ?_
  refine md_ald_commands C hW (i := fr + 2) (by omega) dX10_does_16 ?_
  refine lv_istore_n (lv' := [(3, .int (S 11 (fr + 2))), (2, .int (S 11 (fr + 1))), (0, .ref (ad 0)), (1, .int (nI fr))]) hx hb dX10_does_17 rfl hl (by decide) rfl (fun ls hl => ?_)
  refine lv_aload_n hx hb dX10_does_18 rfl (lv_at hl 2 rfl) ?_
  refine md_geta_commands C hW dX10_does_19 ?_
  refine lv_iload_n hx hb dX10_does_22 rfl (lv_at hl 3 rfl) ?_
  refine lv_iconst (v := nI 3) hx hb dX10_does_23 (by decide) ?_
  refine r_iaddN hx hb (a := fr) (b := 3) dX10_does_24 ?_
  refine md_ald_commands C hW (i := fr + 3) (by omega) dX10_does_25 ?_
  refine lv_istore (lv' := [(4, .int (S 11 (fr + 3))), (3, .int (S 11 (fr + 2))), (2, .int (S 11 (fr + 1))), (0, .ref (ad 0)), (1, .int (nI fr))]) hx hb dX10_does_26 hl (by decide) rfl (fun ls hl => ?_)
  refine lv_aload_n hx hb dX10_does_28 rfl (lv_at hl 3 rfl) ?_
  refine md_geta_commands C hW dX10_does_29 ?_
  refine lv_iload_n hx hb dX10_does_32 rfl (lv_at hl 4 rfl) ?_
  refine md_ald_commands C hW (i := fr) (by omega) dX10_does_33 ?_
  refine r_eq (y := (nI 4)) (hw) ?_
  refine lv_tableIn (x := nI 4) (off := 82) (tgt := 116) hx hb dX10_does_34 (by decide) (by decide) (by decide) (by decide) ?_
  refine lv_aload_n hx hb dX10_does_116 rfl (lv_at hl 3 rfl) ?_
  refine lv_iload_n hx hb dX10_does_117 rfl (lv_at hl 2 rfl) ?_
  refine md_calli C hml hl.1 (As := [.int (S 11 (fr + 1))]) (rest := []) (m_regrowIt l D aT ad S (S 11 (fr + 1)) hF) gT_regrowIt hd_regrowIt rfl ⟨Nat.le_of_ble_eq_true rfl, Nat.le_of_ble_eq_true rfl⟩ ⟨Nat.le_refl _, Nat.le_refl _⟩ hW hA rfl (Nat.le_of_ble_eq_true rfl) dX10_does_118 (fun r_118 S_118 H locs hq hW => ?_)
  rcases hq with ⟨h1, rfl, rfl⟩ | ⟨q, h1, h2, rfl, rfl⟩ | ⟨q, t, h1, h2, h3, rfl, rfl⟩
  · refine lv_pop hx hb dX10_does_121 rfl ?_
    refine lv_goto (tgt := 139) hx hb dX10_does_122 (by decide) ?_
    exact md_vret C hr hlocks hW (Or.inl ⟨by rw [doF_4, h1], 1, by decide, by decide, rfl⟩) dX10_does_139
  · refine lv_pop hx hb dX10_does_121 rfl ?_
    refine lv_goto (tgt := 139) hx hb dX10_does_122 (by decide) ?_
    exact md_vret C hr hlocks hW (Or.inl ⟨by rw [doF_4, h1]; (try dsimp only); rw [if_neg (by omega)], 2, by decide, by decide, rfl⟩) dX10_does_139
  · refine lv_pop hx hb dX10_does_121 rfl ?_
    refine lv_goto (tgt := 139) hx hb dX10_does_122 (by decide) ?_
    exact md_vret C hr hlocks hW (Or.inr ⟨_, by rw [doF_4, h1]; (try dsimp only); rw [if_pos h2, h3], rfl⟩) dX10_does_139
set_option maxHeartbeats 2000000 in
set_option maxRecDepth 20000 in
theorem m_does_5 (l : Launch) (D : va_G) (aT : Nat → ClassId) (ad : Nat → Nat) (S : MSt) (fr s0 : Nat) (hfr : fr + 3 < 244) (hw : S 11 fr = nI 5) (hF : FoW (S 0)) (hH : HeW (S 0)) (hs : S 0 3 = nI s0) (hs4 : s0 < 4) : MdV l yX10_does cX10_does 5 6 134 D aT ad [.ref (ad 0), .int (nI fr)] S (fun S1 => (doF (S 0) 5 (S 11 (fr + 1)) (S 11 (fr + 2)) (S 11 (fr + 3)) = none ∧ ∃ t, 0 < t ∧ t < 4 ∧ S1 = ss S 8 (nI t)) ∨ (∃ m1, doF (S 0) 5 (S 11 (fr + 1)) (S 11 (fr + 2)) (S 11 (fr + 3)) = some m1 ∧ S1 = sr S 0 m1)) := by
  refine MdV.of (by decide +kernel) rfl (Nat.le_of_ble_eq_true rfl) ?_
  intro p e s m below meth c A ls C hml hl hA hr hlocks hW
  have hl : lv_has ls 5 [(0, .ref (ad 0)), (1, .int (nI fr))] := hl
  have hx := C.1
  have hb := C.2.1
  refine lv_aload_n hx hb dX10_does_0 rfl (lv_at hl 0 rfl) ?_
  refine md_geta_commands C hW dX10_does_1 ?_
  refine lv_iload_n hx hb dX10_does_4 rfl (lv_at hl 1 rfl) ?_
  refine lv_iconst (v := nI 1) hx hb dX10_does_5 (by decide) ?_
  refine r_iaddN hx hb (a := fr) (b := 1) dX10_does_6 ?_
  refine md_ald_commands C hW (i := fr + 1) (by omega) dX10_does_7 ?_
  refine lv_istore_n (lv' := [(2, .int (S 11 (fr + 1))), (0, .ref (ad 0)), (1, .int (nI fr))]) hx hb dX10_does_8 rfl hl (by decide) rfl (fun ls hl => ?_)
  refine lv_aload_n hx hb dX10_does_9 rfl (lv_at hl 1 rfl) ?_
  refine md_geta_commands C hW dX10_does_10 ?_
  refine lv_iload_n hx hb dX10_does_13 rfl (lv_at hl 2 rfl) ?_
  refine lv_iconst (v := nI 2) hx hb dX10_does_14 (by decide) ?_
  refine r_iaddN hx hb (a := fr) (b := 2) dX10_does_15 ?_
  refine md_ald_commands C hW (i := fr + 2) (by omega) dX10_does_16 ?_
  refine lv_istore_n (lv' := [(3, .int (S 11 (fr + 2))), (2, .int (S 11 (fr + 1))), (0, .ref (ad 0)), (1, .int (nI fr))]) hx hb dX10_does_17 rfl hl (by decide) rfl (fun ls hl => ?_)
  refine lv_aload_n hx hb dX10_does_18 rfl (lv_at hl 2 rfl) ?_
  refine md_geta_commands C hW dX10_does_19 ?_
  refine lv_iload_n hx hb dX10_does_22 rfl (lv_at hl 3 rfl) ?_
  refine lv_iconst (v := nI 3) hx hb dX10_does_23 (by decide) ?_
  refine r_iaddN hx hb (a := fr) (b := 3) dX10_does_24 ?_
  refine md_ald_commands C hW (i := fr + 3) (by omega) dX10_does_25 ?_
  refine lv_istore (lv' := [(4, .int (S 11 (fr + 3))), (3, .int (S 11 (fr + 2))), (2, .int (S 11 (fr + 1))), (0, .ref (ad 0)), (1, .int (nI fr))]) hx hb dX10_does_26 hl (by decide) rfl (fun ls hl => ?_)
  refine lv_aload_n hx hb dX10_does_28 rfl (lv_at hl 3 rfl) ?_
  refine md_geta_commands C hW dX10_does_29 ?_
  refine lv_iload_n hx hb dX10_does_32 rfl (lv_at hl 4 rfl) ?_
  refine md_ald_commands C hW (i := fr) (by omega) dX10_does_33 ?_
  refine r_eq (y := (nI 5)) (hw) ?_
  refine lv_tableIn (x := nI 5) (off := 91) (tgt := 125) hx hb dX10_does_34 (by decide) (by decide) (by decide) (by decide) ?_
  refine lv_aload_n hx hb dX10_does_125 rfl (lv_at hl 3 rfl) ?_
  refine lv_iload_n hx hb dX10_does_126 rfl (lv_at hl 2 rfl) ?_
  refine md_calli C hml hl.1 (As := [.int (S 11 (fr + 1))]) (rest := []) (m_voteIt l D aT ad S (S 11 (fr + 1)) s0 hF hH hs hs4) gT_voteIt hd_voteIt rfl ⟨Nat.le_of_ble_eq_true rfl, Nat.le_of_ble_eq_true rfl⟩ ⟨Nat.le_refl _, Nat.le_refl _⟩ hW hA rfl (Nat.le_of_ble_eq_true rfl) dX10_does_127 (fun r_127 S_127 H locs hq hW => ?_)
  rcases hq with ⟨h1, rfl, rfl⟩ | ⟨q, h1, h2, rfl, rfl⟩ | ⟨q, h1, h2, h3, rfl, rfl⟩
  · refine lv_pop hx hb dX10_does_130 rfl ?_
    refine lv_goto (tgt := 139) hx hb dX10_does_131 (by decide) ?_
    exact md_vret C hr hlocks hW (Or.inl ⟨by rw [doF_5, h1], 1, by decide, by decide, rfl⟩) dX10_does_139
  · refine lv_pop hx hb dX10_does_130 rfl ?_
    refine lv_goto (tgt := 139) hx hb dX10_does_131 (by decide) ?_
    exact md_vret C hr hlocks hW (Or.inl ⟨by rw [doF_5, h1]; (try dsimp only); rw [if_pos h2], 2, by decide, by decide, rfl⟩) dX10_does_139
  · refine lv_pop hx hb dX10_does_130 rfl ?_
    refine lv_goto (tgt := 139) hx hb dX10_does_131 (by decide) ?_
    exact md_vret C hr hlocks hW (Or.inr ⟨_, by rw [doF_5, h1]; (try dsimp only); rw [if_neg (by rintro (z | z); omega; rw [h3] at z; cases z)], rfl⟩) dX10_does_139
set_option maxHeartbeats 2000000 in
set_option maxRecDepth 20000 in
theorem m_does_6 (l : Launch) (D : va_G) (aT : Nat → ClassId) (ad : Nat → Nat) (S : MSt) (fr s0 : Nat) (hfr : fr + 3 < 244) (hw : S 11 fr = nI 6) (hF : FoW (S 0)) (hH : HeW (S 0)) (hs : S 0 3 = nI s0) (hs4 : s0 < 4) : MdV l yX10_does cX10_does 5 6 134 D aT ad [.ref (ad 0), .int (nI fr)] S (fun S1 => (doF (S 0) 6 (S 11 (fr + 1)) (S 11 (fr + 2)) (S 11 (fr + 3)) = none ∧ ∃ t, 0 < t ∧ t < 4 ∧ S1 = ss S 8 (nI t)) ∨ (∃ m1, doF (S 0) 6 (S 11 (fr + 1)) (S 11 (fr + 2)) (S 11 (fr + 3)) = some m1 ∧ S1 = sr S 0 m1)) := by
  refine MdV.of (by decide +kernel) rfl (Nat.le_of_ble_eq_true rfl) ?_
  intro p e s m below meth c A ls C hml hl hA hr hlocks hW
  have hl : lv_has ls 5 [(0, .ref (ad 0)), (1, .int (nI fr))] := hl
  have hx := C.1
  have hb := C.2.1
  refine lv_aload_n hx hb dX10_does_0 rfl (lv_at hl 0 rfl) ?_
  refine md_geta_commands C hW dX10_does_1 ?_
  refine lv_iload_n hx hb dX10_does_4 rfl (lv_at hl 1 rfl) ?_
  refine lv_iconst (v := nI 1) hx hb dX10_does_5 (by decide) ?_
  refine r_iaddN hx hb (a := fr) (b := 1) dX10_does_6 ?_
  refine md_ald_commands C hW (i := fr + 1) (by omega) dX10_does_7 ?_
  refine lv_istore_n (lv' := [(2, .int (S 11 (fr + 1))), (0, .ref (ad 0)), (1, .int (nI fr))]) hx hb dX10_does_8 rfl hl (by decide) rfl (fun ls hl => ?_)
  refine lv_aload_n hx hb dX10_does_9 rfl (lv_at hl 1 rfl) ?_
  refine md_geta_commands C hW dX10_does_10 ?_
  refine lv_iload_n hx hb dX10_does_13 rfl (lv_at hl 2 rfl) ?_
  refine lv_iconst (v := nI 2) hx hb dX10_does_14 (by decide) ?_
  refine r_iaddN hx hb (a := fr) (b := 2) dX10_does_15 ?_
  refine md_ald_commands C hW (i := fr + 2) (by omega) dX10_does_16 ?_
  refine lv_istore_n (lv' := [(3, .int (S 11 (fr + 2))), (2, .int (S 11 (fr + 1))), (0, .ref (ad 0)), (1, .int (nI fr))]) hx hb dX10_does_17 rfl hl (by decide) rfl (fun ls hl => ?_)
  refine lv_aload_n hx hb dX10_does_18 rfl (lv_at hl 2 rfl) ?_
  refine md_geta_commands C hW dX10_does_19 ?_
  refine lv_iload_n hx hb dX10_does_22 rfl (lv_at hl 3 rfl) ?_
  refine lv_iconst (v := nI 3) hx hb dX10_does_23 (by decide) ?_
  refine r_iaddN hx hb (a := fr) (b := 3) dX10_does_24 ?_
  refine md_ald_commands C hW (i := fr + 3) (by omega) dX10_does_25 ?_
  refine lv_istore (lv' := [(4, .int (S 11 (fr + 3))), (3, .int (S 11 (fr + 2))), (2, .int (S 11 (fr + 1))), (0, .ref (ad 0)), (1, .int (nI fr))]) hx hb dX10_does_26 hl (by decide) rfl (fun ls hl => ?_)
  refine lv_aload_n hx hb dX10_does_28 rfl (lv_at hl 3 rfl) ?_
  refine md_geta_commands C hW dX10_does_29 ?_
  refine lv_iload_n hx hb dX10_does_32 rfl (lv_at hl 4 rfl) ?_
  refine md_ald_commands C hW (i := fr) (by omega) dX10_does_33 ?_
  refine r_eq (y := (nI 6)) (hw) ?_
  refine lv_tableOut (x := nI 6) (tgt := 134) hx hb dX10_does_34 (by decide) (by decide) ?_
  refine lv_aload_n hx hb dX10_does_134 rfl (lv_at hl 3 rfl) ?_
  refine md_calli C hml hl.1 (As := []) (rest := []) (m_seasonIt l D aT ad S s0 hH hs hs4) gT_seasonIt hd_seasonIt rfl ⟨Nat.le_of_ble_eq_true rfl, Nat.le_of_ble_eq_true rfl⟩ ⟨Nat.le_refl _, Nat.le_refl _⟩ hW hA rfl (Nat.le_of_ble_eq_true rfl) dX10_does_135 (fun r_135 S_135 H locs hq hW => ?_)
  rcases hq with ⟨rfl, rfl⟩
  · refine lv_pop hx hb dX10_does_138 rfl ?_
    exact md_vret C hr hlocks hW (Or.inr ⟨_, by rw [doF_6, snM_eq hs hs4], rfl⟩) dX10_does_139
theorem m_does_all (l : Launch) (D : va_G) (aT : Nat → ClassId) (ad : Nat → Nat) (S : MSt) (fr s0 w : Nat) (hw7 : w < 7) (hfr : fr + 3 < 244) (hw : S 11 fr = nI w) (hF : FoW (S 0)) (hH : HeW (S 0)) (hs : S 0 3 = nI s0) (hs4 : s0 < 4) : MdV l yX10_does cX10_does 5 6 134 D aT ad [.ref (ad 0), .int (nI fr)] S (fun S1 => (doF (S 0) w (S 11 (fr + 1)) (S 11 (fr + 2)) (S 11 (fr + 3)) = none ∧ ∃ t, 0 < t ∧ t < 4 ∧ S1 = ss S 8 (nI t)) ∨ (∃ m1, doF (S 0) w (S 11 (fr + 1)) (S 11 (fr + 2)) (S 11 (fr + 3)) = some m1 ∧ S1 = sr S 0 m1)) := by
  match w, hw7, hw with
  | 0, _, hw => exact m_does l D aT ad S fr s0 hfr hw hF hH hs hs4
  | 1, _, hw => exact m_does_1 l D aT ad S fr s0 hfr hw hF hH hs hs4
  | 2, _, hw => exact m_does_2 l D aT ad S fr s0 hfr hw hF hH hs hs4
  | 3, _, hw => exact m_does_3 l D aT ad S fr s0 hfr hw hF hH hs hs4
  | 4, _, hw => exact m_does_4 l D aT ad S fr s0 hfr hw hF hH hs hs4
  | 5, _, hw => exact m_does_5 l D aT ad S fr s0 hfr hw hF hH hs hs4
  | 6, _, hw => exact m_does_6 l D aT ad S fr s0 hfr hw hF hH hs hs4
end
section
/-- a row that a committee can hold: its motions, its hedges, its season, its next id (at most B) -/
def CoW (m : Nat → Int32) (B : Nat) : Prop := FoW m ∧ HeW m ∧ (∃ s, s < 4 ∧ m 3 = nI s) ∧ ∃ nx, nx ≤ B ∧ m 1 = nI nx ∧ ∀ k, k < nM m → idM m k < nx
theorem CoW.mono {m : Nat → Int32} {B C : Nat} (h : CoW m B) (hBC : B ≤ C) : CoW m C := by
  obtain ⟨h1, h2, h3, nx, h4, h5, h6⟩ := h
  exact ⟨h1, h2, h3, nx, Nat.le_trans h4 hBC, h5, h6⟩
theorem FoR.id_eq {m : Nat → Int32} {n : Nat} {idn : Nat → Nat} {pr : Nat → Option Nat} {tn : Nat → Nat} (h : FoR m n idn pr tn) {k : Nat} (hk : k < n) : idM m k = idn k := by
  unfold idM; rw [(h.2.2.1 k hk).1, nI_clamp (by have := (h.2.2.1 k hk).2; omega)]
theorem CoW.of {m : Nat → Int32} {B n nx s h : Nat} {idn : Nat → Nat} {pr : Nat → Option Nat} {tn lv th ta : Nat → Nat} (hF : FoR m n idn pr tn) (hH : HeR m h lv th ta) (hs : s < 4) (h3 : m 3 = nI s) (hn : nx ≤ B) (h1 : m 1 = nI nx) (hid : ∀ k, k < n → idn k < nx) : CoW m B :=
  ⟨hF.w, hH.w, ⟨s, hs, h3⟩, nx, hn, h1, fun k hk => by rw [hF.n_eq] at hk; rw [hF.id_eq hk]; exact hid k hk⟩
/-- the numbers of rows that leave motions and hedges -/
theorem CoW.keep {m m' : Nat → Int32} {B : Nat} (h : CoW m B) (e : ∀ j, (j = 0 ∨ j = 1 ∨ j = 2 ∨ j = 3 ∨ (11 ≤ j ∧ j < 29) ∨ ∃ k w, k < 12 ∧ w < 3 ∧ j = 29 + 4 * k + w) → m' j = m j) : CoW m' B := by
  obtain ⟨h1, h2, ⟨s, hs, h3⟩, nx, h4, h5, h6⟩ := h
  have hF : FoR m' (nM m) (idM m) (prM m) (tnM m) := FoR.cong h1 (fun j hj => e j (by rcases hj with hj | hj; exact Or.inr (Or.inr (Or.inl hj)); exact Or.inr (Or.inr (Or.inr (Or.inr (Or.inr hj))))))
  have hH : HeR m' (hM m) (lvM m) (thM m) (taM m) := HeR.cong h2 (fun j hj => e j (by omega))
  exact CoW.of hF hH hs (by rw [e 3 (by omega)]; exact h3) h4 (by rw [e 1 (by omega)]; exact h5) h6
theorem rg_of {a b : Int64} {x : Int32} (h : rgB a b x = true) (ha : a.toInt = 0 ∨ a.toInt = 1) {bb : Nat} (hb : b.toInt = bb) (hb2 : bb < 1024) : ∃ v : Nat, x = nI v ∧ v ≤ bb ∧ a.toInt ≤ (v : Int) := by
  obtain ⟨v, h1, h2, h3⟩ := rg_nat h ha (by omega)
  exact ⟨v, h1, by omega, h3⟩
theorem CoW.hedge {m : Nat → Int32} {B : Nat} (h : CoW m B) {x y z : Int32} (hr : (rgB 1 99 x && rgB 0 9 y && rgB 0 9 z) = true) (h6 : hM m < 6) : CoW (hedgeF m (hM m) x y z) B := by
  obtain ⟨h1, h2, ⟨s, hs, h3⟩, nx, h4, h5, h7⟩ := h
  rw [Bool.and_eq_true, Bool.and_eq_true] at hr
  obtain ⟨a, ea, ha, ha1⟩ := rg_of hr.1.1 (Or.inr (by decide)) (bb := 99) (by decide) (by decide)
  obtain ⟨b, eb, hb, -⟩ := rg_of hr.1.2 (Or.inl (by decide)) (bb := 9) (by decide) (by decide)
  obtain ⟨c, ec, hc, -⟩ := rg_of hr.2 (Or.inl (by decide)) (bb := 9) (by decide) (by decide)
  have ha1 : 1 ≤ a := by
    have : (1 : Int64).toInt = 1 := by decide
    omega
  subst ea; subst eb; subst ec
  have hF : FoR (hedgeF m (hM m) (nI a) (nI b) (nI c)) (nM m) (idM m) (prM m) (tnM m) := FoR.he h1 (fun j hj => by unfold hedgeF; rw [if_neg (by omega), if_neg (by omega), if_neg (by omega), if_neg (by omega)])
  have hH : HeR (hedgeF m (hM m) (nI a) (nI b) (nI c)) (hM m + 1) (fun k => if k = hM m then a else lvM m k) (fun k => if k = hM m then b else thM m k) (fun k => if k = hM m then c else taM m k) := by
    obtain ⟨g1, g2, g3, g4, g5⟩ := h2
    refine ⟨by unfold hedgeF; rw [if_pos rfl], by omega, fun k hk => ?_, fun k hk => ?_, fun k hk => ?_⟩
    · by_cases hkh : k = hM m
      · subst hkh; dsimp only; rw [if_pos rfl]; unfold hedgeF
        rw [if_neg (by omega), if_neg (by omega), if_neg (by omega), if_pos rfl]; exact ⟨rfl, ha1, ha⟩
      · dsimp only; rw [if_neg hkh]; unfold hedgeF
        rw [if_neg (by omega), if_neg (by omega), if_neg (by omega), if_neg (by omega)]; exact g3 k (by omega)
    · by_cases hkh : k = hM m
      · subst hkh; dsimp only; rw [if_pos rfl]; unfold hedgeF
        rw [if_neg (by omega), if_neg (by omega), if_pos rfl]; exact ⟨rfl, hb⟩
      · dsimp only; rw [if_neg hkh]; unfold hedgeF
        rw [if_neg (by omega), if_neg (by omega), if_neg (by omega), if_neg (by omega)]; exact g4 k (by omega)
    · by_cases hkh : k = hM m
      · subst hkh; dsimp only; rw [if_pos rfl]; unfold hedgeF
        rw [if_neg (by omega), if_pos rfl]; exact ⟨rfl, hc⟩
      · dsimp only; rw [if_neg hkh]; unfold hedgeF
        rw [if_neg (by omega), if_neg (by omega), if_neg (by omega), if_neg (by omega)]; exact g5 k (by omega)
  exact CoW.of hF hH hs (by unfold hedgeF; rw [if_neg (by omega), if_neg (by omega), if_neg (by omega), if_neg (by omega)]; exact h3) h4 (by unfold hedgeF; rw [if_neg (by omega), if_neg (by omega), if_neg (by omega), if_neg (by omega)]; exact h5) h7
theorem addF_o {m : Nat → Int32} {n j : Nat} {p x w : Int32} (h1 : j ≠ 1) (h2 : j ≠ 2) (h3 : j < 29 + 4 * n ∨ 29 + 4 * n + 3 < j) : addF m n p x w j = m j := by
  unfold addF
  rw [if_neg h1, if_neg h2, if_neg (by omega), if_neg (by omega), if_neg (by omega), if_neg (by omega)]
theorem FoR.add {m : Nat → Int32} {n nx t : Nat} {idn : Nat → Nat} {pr : Nat → Option Nat} {tn : Nat → Nat} (h : FoR m n idn pr tn) (h1 : m 1 = nI nx) (hid : ∀ k, k < n → idn k < nx) (hnx : nx < 1048576) (h12 : n < 12) {po : Option Nat} (hpo : ∀ j, po = some j → j < n) (ht : t ≤ 9) (w : Int32) :
    FoR (addF m n (oi (po.map idn)) (nI t) w) (n + 1) (fun k => if k = n then nx else idn k) (fun k => if k = n then po else pr k) (fun k => if k = n then t else tn k) := by
  obtain ⟨g1, g2, g3, g4, g5, g6, g7⟩ := h
  refine ⟨by unfold addF; rw [if_neg (by decide), if_pos rfl], by omega, fun k hk => ?_, fun k hk => ?_, fun k j hk hp => ?_, fun j k hj hk => ?_, fun k hk => ?_⟩
  · by_cases hkn : k = n
    · subst hkn; dsimp only; rw [if_pos rfl]; unfold addF
      rw [if_neg (by omega), if_neg (by omega), if_neg (by omega), if_neg (by omega), if_neg (by omega), if_pos rfl]; exact ⟨h1, hnx⟩
    · dsimp only; rw [if_neg hkn, addF_o (by omega) (by omega) (by omega)]; exact g3 k (by omega)
  · by_cases hkn : k = n
    · subst hkn; dsimp only; rw [if_pos rfl]; unfold addF
      rw [if_neg (by omega), if_neg (by omega), if_neg (by omega), if_neg (by omega), if_pos rfl]
      cases po with
      | none => rfl
      | some j => simp only [Option.map_some]; rw [if_neg (by have := hpo j rfl; omega)]
    · dsimp only; rw [if_neg hkn, addF_o (by omega) (by omega) (by omega), g4 k (by omega)]
      cases hq : pr k with
      | none => rfl
      | some j => simp only [Option.map_some]; rw [if_neg (by have := g5 k j (by omega) hq; omega)]
  · by_cases hkn : k = n
    · subst hkn; dsimp only at hp; rw [if_pos rfl] at hp; exact hpo j hp
    · dsimp only at hp; rw [if_neg hkn] at hp; exact g5 k j (by omega) hp
  · dsimp only
    by_cases hkn : k = n
    · subst hkn; rw [if_pos rfl, if_neg (by omega)]; exact hid j hj
    · rw [if_neg hkn, if_neg (by omega)]; exact g6 j k hj (by omega)
  · by_cases hkn : k = n
    · subst hkn; dsimp only; rw [if_pos rfl]; unfold addF
      rw [if_neg (by omega), if_neg (by omega), if_neg (by omega), if_pos rfl]; exact ⟨rfl, ht⟩
    · dsimp only; rw [if_neg hkn, addF_o (by omega) (by omega) (by omega)]; exact g7 k (by omega)
theorem CoW.add {m : Nat → Int32} {B t : Nat} (h : CoW m B) (hB : B < 1048576) (h12 : nM m < 12) {po : Option Nat} (hpo : ∀ j, po = some j → j < nM m) (ht : t ≤ 9) (w : Int32) : CoW (addF m (nM m) (oi (po.map (idM m))) (nI t) w) (B + 1) := by
  obtain ⟨h1, h2, ⟨s, hs, h3⟩, nx, h4, h5, h7⟩ := h
  have hF := FoR.add (n := nM m) h1 h5 h7 (by omega) h12 hpo ht w
  have hH : HeR (addF m (nM m) (oi (po.map (idM m))) (nI t) w) (hM m) (lvM m) (thM m) (taM m) := HeR.cong h2 (fun j hj => addF_o (by omega) (by omega) (by omega))
  refine CoW.of (nx := nx + 1) hF hH hs (by rw [addF_o (by omega) (by omega) (by omega)]; exact h3) (by omega) (by unfold addF; rw [if_pos rfl, h5, nI_add]) (fun k hk => ?_)
  by_cases hkn : k = nM m
  · rw [if_pos hkn]; omega
  · rw [if_neg hkn]; have := h7 k (by omega); omega
theorem dropF_low {m : Nat → Int32} {k n j : Nat} (h : j < 29) (h2 : j ≠ 2) : dropF m k n j = m j := dropF_lo (by omega) h2 (by omega)
theorem CoW.drop {m : Nat → Int32} {B k : Nat} (h : CoW m B) (hk : k < nM m) (ht : ∀ j, j < nM m → prM m j ≠ some k) : CoW (dropF m k (nM m)) B := by
  obtain ⟨h1, h2, ⟨s, hs, h3⟩, nx, h4, h5, h7⟩ := h
  have hF := FoR.drop h1 hk ht
  have hH : HeR (dropF m k (nM m)) (hM m) (lvM m) (thM m) (taM m) := HeR.cong h2 (fun j hj => dropF_low (by omega) (by omega))
  exact CoW.of hF hH hs (by rw [dropF_low (by omega) (by omega)]; exact h3) h4 (by rw [dropF_low (by omega) (by omega)]; exact h5) (fun j hj => h7 _ (sk_lt hj))
theorem CoW.prn {r dp : Nat} {B : Nat} : ∀ (i : Nat) (m : Nat → Int32) (c : Nat), prnOk r dp i m → CoW m B → CoW (prnF r dp i m c).1 B := by
  intro i
  induction i with
  | zero => intro m c _ h; exact h
  | succ i ih =>
    intro m c hok h
    by_cases h1 : anc (prM m) r (r + (i + 1)) = true ∧ dp < dep (prM m) (r + (i + 1))
    · rw [prnF_yes h1.1 h1.2]
      exact ih _ _ (prn_drop hok h1.1 h1.2) (h.drop hok.2.1 (prn_tip hok h1.1 h1.2))
    · rw [prnF_no (by
        rw [Bool.and_eq_false_iff]
        by_cases h2 : anc (prM m) r (r + (i + 1)) = true
        · exact Or.inr (decide_eq_false (fun z => h1 ⟨h2, z⟩))
        · exact Or.inl (by simpa using h2))]
      exact ih _ _ (prn_skip hok h1) h
theorem tipB_no {pr : Nat → Option Nat} {p : Nat} : ∀ {i : Nat}, tipB pr p i = true → ∀ j, j < i → pr j ≠ some p := by
  intro i
  induction i with
  | zero => intro _ j hj; omega
  | succ i ih =>
    intro h j hj hp
    unfold tipB at h
    rw [Bool.and_eq_true] at h
    rcases Nat.lt_or_ge j i with q | q
    · exact ih h.1 j q hp
    · have e : j = i := by omega
      subst e
      simp [hp] at h
theorem carF_keep {m : Nat → Int32} {k j : Nat} (hs : snM m < 4) (hj : j = 0 ∨ j = 1 ∨ j = 2 ∨ j = 3 ∨ (11 ≤ j ∧ j < 29) ∨ ∃ k w, k < 12 ∧ w < 3 ∧ j = 29 + 4 * k + w) : carF m k j = m j := by
  rcases hj with rfl | rfl | rfl | rfl | hj | ⟨a, w, h1, h2, rfl⟩
  · exact carF_o (by decide) (Or.inl (by decide)) (by decide) (Or.inl (by decide)) hs
  · exact carF_o (by decide) (Or.inl (by decide)) (by decide) (Or.inl (by decide)) hs
  · exact carF_o (by decide) (Or.inl (by decide)) (by decide) (Or.inl (by decide)) hs
  · exact carF_o (by decide) (Or.inl (by decide)) (by decide) (Or.inl (by decide)) hs
  · exact carF_o (by omega) (Or.inr (by omega)) (by omega) (Or.inl (by omega)) hs
  · exact carF_o (by omega) (Or.inr (by omega)) (by omega) (Or.inr (fun p => by omega)) hs
theorem CoW.snM {m : Nat → Int32} {B : Nat} (h : CoW m B) : snM m < 4 := by
  obtain ⟨-, -, ⟨s, hs, h3⟩, -⟩ := h
  rw [snM_eq h3 hs]; exact hs
theorem CoW.vote {m : Nat → Int32} {B q : Nat} (h : CoW m B) (hq : q < nM m) (ht : tipB (prM m) q (nM m) = true) : CoW (votF m q) B := by
  have hv := vtF_ok (t := tnM m q) h.2.1 (hM m) (Nat.le_refl _)
  obtain ⟨a1, a2, a3, a4, a5⟩ := hv
  obtain ⟨h1, h2, ⟨s, hs, h3⟩, nx, h4, h5, h7⟩ := id h
  have hF : FoR (vtF (tnM m q) m (hM m)).1 (nM m) (idM m) (prM m) (tnM m) := FoR.he h1 (fun j hj => a3 j (by omega))
  have hC : CoW (vtF (tnM m q) m (hM m)).1 B := CoW.of hF a1 hs (by rw [a3 3 (by omega)]; exact h3) h4 (by rw [a3 1 (by omega)]; exact h5) h7
  have hC2 : CoW (upd (vtF (tnM m q) m (hM m)).1 9 ((vtF (tnM m q) m (hM m)).1 9 + nI 1)) B := hC.keep (fun j hj => pk_un (by rcases hj with rfl | rfl | rfl | rfl | hj | ⟨a, w, _, _, rfl⟩ <;> omega))
  have hF2 : FoR (upd (vtF (tnM m q) m (hM m)).1 9 ((vtF (tnM m q) m (hM m)).1 9 + nI 1)) (nM m) (idM m) (prM m) (tnM m) := hF.he (fun j hj => pk_un (by omega))
  have key : ∀ m2, CoW m2 B → FoR m2 (nM m) (idM m) (prM m) (tnM m) → CoW (dropF m2 q (nM m)) B := by
    intro m2 c2 f2
    have := c2.drop (k := q) (by rw [f2.n_eq]; exact hq) (fun j hj => by rw [f2.n_eq] at hj; rw [f2.pr_eq hj]; exact tipB_no ht j hj)
    rw [f2.n_eq] at this
    exact this
  unfold votF
  split
  · refine key _ (hC2.keep (fun j hj => carF_keep hC2.snM hj)) (hF2.cong (fun j hj => carF_keep hC2.snM (by rcases hj with hj | hj; exact Or.inr (Or.inr (Or.inl hj)); exact Or.inr (Or.inr (Or.inr (Or.inr (Or.inr hj)))))))
  · exact key _ hC2 hF2
theorem CoW.season {m : Nat → Int32} {B s1 : Nat} (h : CoW m B) (hs1 : s1 < 4) : CoW (seaF s1 (upd m 3 (nI s1)) (hM m)) B := by
  obtain ⟨h1, h2, ⟨s, hs, h3⟩, nx, h4, h5, h7⟩ := id h
  have hH0 : HeR (upd m 3 (nI s1)) (hM m) (lvM m) (thM m) (taM m) := HeR.cong h2 (fun j hj => pk_un (by omega))
  obtain ⟨a1, a2, a3⟩ := seaF_ok (s := s1) hH0.w (hM m) (by rw [hH0.eqs.1]; exact Nat.le_refl _)
  have hF : FoR (seaF s1 (upd m 3 (nI s1)) (hM m)) (nM m) (idM m) (prM m) (tnM m) := FoR.he h1 (fun j hj => by rw [a3 j (by omega), pk_un (by omega)])
  exact CoW.of hF a1 hs1 (by rw [a3 3 (by omega), pk_us]) h4 (by rw [a3 1 (by omega), pk_un (by omega)]; exact h5) h7
/-- what a command leaves is a row again -/
theorem CoW.do {m m1 : Nat → Int32} {B w : Nat} {a b c : Int32} (h : CoW m B) (hB : B < 1048576) (hw : w < 7) (hd : doF m w a b c = some m1) : CoW m1 (B + 1) := by
  have hF := h.1
  match w, hw, hd with
  | 0, _, hd =>
    rw [doF_0] at hd; split at hd
    · rename_i z; cases hd; exact (h.hedge z.1 z.2).mono (by omega)
    · cases hd
  | 1, _, hd =>
    rw [doF_1] at hd; split at hd
    · rename_i z; cases hd
      rw [Bool.and_eq_true] at z
      obtain ⟨t, et, ht, -⟩ := rg_of z.1.1 (Or.inl (by decide)) (bb := 9) (by decide) (by decide)
      subst et
      exact h.add (po := none) hB z.2 (fun j hj => by cases hj) ht b
    · cases hd
  | 2, _, hd =>
    rw [doF_2] at hd
    cases hq : fnd (fun k => m (29 + 4 * k)) a (nM m) with
    | none => rw [hq] at hd; cases hd
    | some q =>
      rw [hq] at hd; dsimp only at hd; split at hd
      · rename_i z; cases hd
        rw [Bool.and_eq_true] at z
        obtain ⟨t, et, ht, -⟩ := rg_of z.1.1 (Or.inl (by decide)) (bb := 9) (by decide) (by decide)
        subst et
        obtain ⟨hqn, hqa, -⟩ := fnd_some hq
        have ea : a = oi ((some q).map (idM m)) := by rw [← hqa]; exact (hF.2.2.1 q hqn).1
        rw [ea]
        exact h.add (po := some q) hB z.2 (fun j hj => by cases hj; exact hqn) ht c
      · cases hd
  | 3, _, hd =>
    rw [doF_3] at hd
    cases hq : fnd (fun k => m (29 + 4 * k)) a (nM m) with
    | none => rw [hq] at hd; cases hd
    | some q =>
      rw [hq] at hd; dsimp only at hd; split at hd
      · cases hd
        exact (CoW.prn _ _ _ (prnOk_0 hF (fnd_some hq).1) h).mono (by omega)
      · cases hd
  | 4, _, hd =>
    rw [doF_4] at hd
    cases hq : fnd (fun k => m (29 + 4 * k)) a (nM m) with
    | none => rw [hq] at hd; cases hd
    | some q =>
      rw [hq] at hd; dsimp only at hd
      by_cases h12 : nM m < 12
      · rw [if_pos h12] at hd
        cases ht : ltp (prM m) (nM m) q (nM m) with
        | none => rw [ht] at hd; cases hd
        | some t =>
          rw [ht] at hd; dsimp only at hd; cases hd
          have htn := ltp_lt ht
          have ea : m (29 + 4 * t) = oi ((some t).map (idM m)) := (hF.2.2.1 t htn).1
          rw [ea]
          exact h.add (po := some t) hB h12 (fun j hj => by cases hj; exact htn) (by omega) _
      · rw [if_neg h12] at hd; cases hd
  | 5, _, hd =>
    rw [doF_5] at hd
    cases hq : fnd (fun k => m (29 + 4 * k)) a (nM m) with
    | none => rw [hq] at hd; cases hd
    | some q =>
      rw [hq] at hd; dsimp only at hd
      by_cases hz : hM m = 0 ∨ tipB (prM m) q (nM m) = false
      · rw [if_pos hz] at hd; cases hd
      · rw [if_neg hz] at hd; cases hd
        exact (h.vote (fnd_some hq).1 (by cases ht : tipB (prM m) q (nM m) with | true => rfl | false => exact absurd (Or.inr ht) hz)).mono (by omega)
  | 6, _, hd =>
    rw [doF_6] at hd; cases hd
    exact (h.season (by omega)).mono (by omega)
end
section
theorem argP_cm {f : Nat → Int32} {sz : Nat} {s : Nat × Bool} {t : Nat} {cm : Nat → Int32} {j : Nat} (h : j < t) : ∀ w, w < 7 → (argP f sz s t cm w).2 j = cm j := by
  intro w hw
  match w, hw with
  | 0, _ => exact ((pk_un (show j ≠ t + 2 by omega)).trans ((pk_un (show j ≠ t + 1 by omega)).trans (pk_un (show j ≠ t by omega))))
  | 1, _ => exact ((pk_un (show j ≠ t + 1 by omega)).trans (pk_un (show j ≠ t by omega)))
  | 2, _ => exact ((pk_un (show j ≠ t + 2 by omega)).trans ((pk_un (show j ≠ t + 1 by omega)).trans (pk_un (show j ≠ t by omega))))
  | 3, _ => exact ((pk_un (show j ≠ t + 1 by omega)).trans (pk_un (show j ≠ t by omega)))
  | 4, _ => exact (pk_un (show j ≠ t by omega))
  | 5, _ => exact (pk_un (show j ≠ t by omega))
  | 6, _ => exact (pk_un (show j ≠ t by omega))
def CmOk (k : Nat) (cm : Nat → Int32) : Prop := ∀ i, i < k → ∃ w, w < 7 ∧ cm (4 * i) = nI w
theorem cmdP_ok {f : Nat → Int32} {sz k u : Nat} {cm : Nat → Int32} (hu : u ≤ sz) (h5 : 5 * k ≤ u) (hc : CmOk k cm) : (cmdP f sz k cm u).1.1 ≤ sz ∧ u ≤ (cmdP f sz k cm u).1.1 ∧ 5 * (cmdP f sz k cm u).2.1 ≤ (cmdP f sz k cm u).1.1 ∧ CmOk (cmdP f sz k cm u).2.1 (cmdP f sz k cm u).2.2 := by
  have hw := wdP_le (f := f) (sz := sz) (u := u) 6
  have hb := bgN_in (wdP f sz u 6) (by omega)
  have hl := lkF_le (f := f) (w := wdP f sz u 6) hu
  unfold cmdP
  split
  · exact ⟨hl, Nat.le_add_right _ _, by dsimp only; omega, hc⟩
  · rename_i hn
    have ha := argP_le (f := f) (sz := sz) (s := (u + lkF f sz u (wdP f sz u 6), false)) (t := 4 * k + 1) (cm := upd cm (4 * k) (nI (wdP f sz u 6))) hl (wdP f sz u 6) (by omega)
    dsimp only at ha ⊢
    refine ⟨ha.1, by omega, by omega, fun i hi => ?_⟩
    rw [argP_cm (by omega) _ (by omega)]
    by_cases hik : i = k
    · subst hik; exact ⟨_, by omega, pk_us⟩
    · rw [pk_un (by omega)]; exact hc i (by omega)
/-- a text read as a program: place and wrongness, how many commands, the commands -/
def prsF (f : Nat → Int32) (sz : Nat) : Nat → Nat → Nat → (Nat → Int32) → (Nat × Bool) × Nat × (Nat → Int32)
  | 0, u, k, cm => ((u, true), k, cm)
  | d + 1, u, k, cm => if (cmdP f sz k cm u).1.2 = true ∨ sz ≤ (cmdP f sz k cm u).1.1 then cmdP f sz k cm u
    else if (expP f sz (nI 59) (cmdP f sz k cm u).1).2 = true then (expP f sz (nI 59) (cmdP f sz k cm u).1, (cmdP f sz k cm u).2)
    else prsF f sz d (expP f sz (nI 59) (cmdP f sz k cm u).1).1 (cmdP f sz k cm u).2.1 (cmdP f sz k cm u).2.2
theorem prsF_1 {f : Nat → Int32} {sz d u k : Nat} {cm : Nat → Int32} (h : (cmdP f sz k cm u).1.2 = true ∨ sz ≤ (cmdP f sz k cm u).1.1) : prsF f sz (d + 1) u k cm = cmdP f sz k cm u := by rw [prsF, if_pos h]
theorem prsF_2 {f : Nat → Int32} {sz d u k : Nat} {cm : Nat → Int32} (h1 : (cmdP f sz k cm u).1.2 = false) (h2 : (cmdP f sz k cm u).1.1 < sz) (h3 : (expP f sz (nI 59) (cmdP f sz k cm u).1).2 = true) : prsF f sz (d + 1) u k cm = (expP f sz (nI 59) (cmdP f sz k cm u).1, (cmdP f sz k cm u).2) := by
  rw [prsF, if_neg (by rintro (z | z); rw [h1] at z; cases z; omega), if_pos h3]
theorem prsF_3 {f : Nat → Int32} {sz d u k : Nat} {cm : Nat → Int32} (h1 : (cmdP f sz k cm u).1.2 = false) (h2 : (cmdP f sz k cm u).1.1 < sz) (h3 : (expP f sz (nI 59) (cmdP f sz k cm u).1).2 = false) : prsF f sz (d + 1) u k cm = prsF f sz d (expP f sz (nI 59) (cmdP f sz k cm u).1).1 (cmdP f sz k cm u).2.1 (cmdP f sz k cm u).2.2 := by
  rw [prsF, if_neg (by rintro (z | z); rw [h1] at z; cases z; omega), if_neg (by rw [h3]; decide)]
theorem expP_f {f : Nat → Int32} {sz : Nat} {c : Int32} {s : Nat × Bool} (h : (expP f sz c s).2 = false) : (expP f sz c s).1 = s.1 + 1 := by
  unfold expP at h ⊢
  split
  · rfl
  · rename_i z; rw [if_neg z] at h; cases h
def muR (sz u : Nat) (mr : Bool) : Nat := if mr then sz - u + 1 else 0
theorem muR_0 {sz u u' : Nat} {mr : Bool} (h : mr = true) : muR sz u' false < muR sz u mr := by subst h; simp [muR]
theorem muR_1 {sz u u' : Nat} {mr : Bool} (h : mr = true) (h1 : u < u') (h2 : u' ≤ sz) : muR sz u' true < muR sz u mr := by subst h; simp [muR]; omega
/-- the state when a text begins to be read -/
def rnS (S : MSt) (sz : Nat) : MSt := ss (ss (begS S) 22 (nI sz)) 10 (nI 0)
theorem psT_i (T : MSt) : ss (ss (ss T 21 (nI 0)) 20 (nI 0)) 23 (bI false) = psT T 0 false 0 (T 11) := by
  funext r j; unfold ss sr psT
  by_cases h : r = 13
  · subst h
    by_cases h1 : j = 21
    · subst h1; simp [upd]
    · by_cases h2 : j = 23
      · subst h2; simp [upd]
      · by_cases h3 : j = 20
        · subst h3; simp [upd]
        · simp [upd, h1, h2, h3]
  · by_cases h1 : r = 11
    · subst h1; simp
    · simp [h, h1]
/-- the row behind the first commands: none where one fails -/
def runF (m : Nat → Int32) (cm : Nat → Int32) : Nat → Option (Nat → Int32)
  | 0 => some m
  | i + 1 => match runF m cm i with
    | none => none
    | some m1 => doF m1 (cm (4 * i)).toNatClampNeg (cm (4 * i + 1)) (cm (4 * i + 2)) (cm (4 * i + 3))
theorem runF_s {m m1 : Nat → Int32} {cm : Nat → Int32} {i w : Nat} (h : runF m cm i = some m1) (hw : cm (4 * i) = nI w) (h7 : w < 7) : runF m cm (i + 1) = doF m1 w (cm (4 * i + 1)) (cm (4 * i + 2)) (cm (4 * i + 3)) := by
  rw [runF, h]; dsimp only; rw [hw, nI_clamp (by omega)]
/-- the whole text read -/
def prsR (f : Nat → Int32) (sz : Nat) (cm : Nat → Int32) : (Nat × Bool) × Nat × (Nat → Int32) := prsF f sz (sz + 1) 0 0 cm
/-- the states when a run ends: not a program; a command fails; done -/
def runE (S : MSt) (sz u k : Nat) (cm : Nat → Int32) : MSt := ss (ss (psT (rnS S sz) u true k cm) 6 (nI u)) 8 (nI 1)
def runX (S : MSt) (sz u k : Nat) (cm mm : Nat → Int32) (t i : Nat) : MSt := ss (ss (sr (ss (sr (psT (rnS S sz) u false k cm) 0 mm) 8 (nI t)) 0 (cpyF mm (cpyF (S 1) (S 0) 77) 77)) 7 (nI i)) 8 (nI 2)
def runC (S : MSt) (sz u k : Nat) (cm mm : Nat → Int32) (ch : Nat) : MSt := ss (sr (sr (psT (rnS S sz) u false k cm) 0 mm) 3 (pstF (S 3) (cpyF (S 1) (S 0) 77) ch)) 5 (nI (min ch 7 + 1))
theorem dX10_run_0 : decode cX10_run 0 = .ok (.aload_n 0, 1) := by decide +kernel
theorem dX10_run_1 : decode cX10_run 1 = .ok (.invokevirtual 104, 3) := by decide +kernel
theorem dX10_run_4 : decode cX10_run 4 = .ok (.aload_n 0, 1) := by decide +kernel
theorem dX10_run_5 : decode cX10_run 5 = .ok (.aload_n 0, 1) := by decide +kernel
theorem dX10_run_6 : decode cX10_run 6 = .ok (.getfield 207, 3) := by decide +kernel
theorem dX10_run_9 : decode cX10_run 9 = .ok (.putfield 213, 3) := by decide +kernel
theorem dX10_run_12 : decode cX10_run 12 = .ok (.aload_n 0, 1) := by decide +kernel
theorem dX10_run_13 : decode cX10_run 13 = .ok (.iconst 0, 1) := by decide +kernel
theorem dX10_run_14 : decode cX10_run 14 = .ok (.putfield 207, 3) := by decide +kernel
theorem dX10_run_17 : decode cX10_run 17 = .ok (.aload_n 0, 1) := by decide +kernel
theorem dX10_run_18 : decode cX10_run 18 = .ok (.iconst 0, 1) := by decide +kernel
theorem dX10_run_19 : decode cX10_run 19 = .ok (.putfield 210, 3) := by decide +kernel
theorem dX10_run_22 : decode cX10_run 22 = .ok (.aload_n 0, 1) := by decide +kernel
theorem dX10_run_23 : decode cX10_run 23 = .ok (.iconst 0, 1) := by decide +kernel
theorem dX10_run_24 : decode cX10_run 24 = .ok (.putfield 242, 3) := by decide +kernel
theorem dX10_run_27 : decode cX10_run 27 = .ok (.aload_n 0, 1) := by decide +kernel
theorem dX10_run_28 : decode cX10_run 28 = .ok (.iconst 0, 1) := by decide +kernel
theorem dX10_run_29 : decode cX10_run 29 = .ok (.putfield 216, 3) := by decide +kernel
theorem dX10_run_32 : decode cX10_run 32 = .ok (.iconst 1, 1) := by decide +kernel
theorem dX10_run_33 : decode cX10_run 33 = .ok (.istore_n 1, 1) := by decide +kernel
theorem dX10_run_34 : decode cX10_run 34 = .ok (.iload_n 1, 1) := by decide +kernel
theorem dX10_run_35 : decode cX10_run 35 = .ok (.ifCond .eq 57, 3) := by decide +kernel
theorem dX10_run_38 : decode cX10_run 38 = .ok (.aload_n 0, 1) := by decide +kernel
theorem dX10_run_39 : decode cX10_run 39 = .ok (.invokevirtual 252, 3) := by decide +kernel
theorem dX10_run_42 : decode cX10_run 42 = .ok (.aload_n 0, 1) := by decide +kernel
theorem dX10_run_43 : decode cX10_run 43 = .ok (.getfield 216, 3) := by decide +kernel
theorem dX10_run_46 : decode cX10_run 46 = .ok (.ifCond .ne 18, 3) := by decide +kernel
theorem dX10_run_49 : decode cX10_run 49 = .ok (.aload_n 0, 1) := by decide +kernel
theorem dX10_run_50 : decode cX10_run 50 = .ok (.getfield 210, 3) := by decide +kernel
theorem dX10_run_53 : decode cX10_run 53 = .ok (.aload_n 0, 1) := by decide +kernel
theorem dX10_run_54 : decode cX10_run 54 = .ok (.getfield 213, 3) := by decide +kernel
theorem dX10_run_57 : decode cX10_run 57 = .ok (.if_icmp .ge 7, 3) := by decide +kernel
theorem dX10_run_60 : decode cX10_run 60 = .ok (.iconst 1, 1) := by decide +kernel
theorem dX10_run_61 : decode cX10_run 61 = .ok (.goto 4, 3) := by decide +kernel
theorem dX10_run_64 : decode cX10_run 64 = .ok (.iconst 0, 1) := by decide +kernel
theorem dX10_run_65 : decode cX10_run 65 = .ok (.istore_n 1, 1) := by decide +kernel
theorem dX10_run_66 : decode cX10_run 66 = .ok (.iload_n 1, 1) := by decide +kernel
theorem dX10_run_67 : decode cX10_run 67 = .ok (.ifCond .eq (-33), 3) := by decide +kernel
theorem dX10_run_70 : decode cX10_run 70 = .ok (.aload_n 0, 1) := by decide +kernel
theorem dX10_run_71 : decode cX10_run 71 = .ok (.bipush 59, 2) := by decide +kernel
theorem dX10_run_73 : decode cX10_run 73 = .ok (.invokevirtual 230, 3) := by decide +kernel
theorem dX10_run_76 : decode cX10_run 76 = .ok (.aload_n 0, 1) := by decide +kernel
theorem dX10_run_77 : decode cX10_run 77 = .ok (.getfield 216, 3) := by decide +kernel
theorem dX10_run_80 : decode cX10_run 80 = .ok (.ifCond .ne 7, 3) := by decide +kernel
theorem dX10_run_83 : decode cX10_run 83 = .ok (.iconst 1, 1) := by decide +kernel
theorem dX10_run_84 : decode cX10_run 84 = .ok (.goto 4, 3) := by decide +kernel
theorem dX10_run_87 : decode cX10_run 87 = .ok (.iconst 0, 1) := by decide +kernel
theorem dX10_run_88 : decode cX10_run 88 = .ok (.istore_n 1, 1) := by decide +kernel
theorem dX10_run_89 : decode cX10_run 89 = .ok (.goto (-55), 3) := by decide +kernel
theorem dX10_run_92 : decode cX10_run 92 = .ok (.aload_n 0, 1) := by decide +kernel
theorem dX10_run_93 : decode cX10_run 93 = .ok (.getfield 216, 3) := by decide +kernel
theorem dX10_run_96 : decode cX10_run 96 = .ok (.ifCond .eq 17, 3) := by decide +kernel
theorem dX10_run_99 : decode cX10_run 99 = .ok (.aload_n 0, 1) := by decide +kernel
theorem dX10_run_100 : decode cX10_run 100 = .ok (.aload_n 0, 1) := by decide +kernel
theorem dX10_run_101 : decode cX10_run 101 = .ok (.getfield 210, 3) := by decide +kernel
theorem dX10_run_104 : decode cX10_run 104 = .ok (.putfield 22, 3) := by decide +kernel
theorem dX10_run_107 : decode cX10_run 107 = .ok (.aload_n 0, 1) := by decide +kernel
theorem dX10_run_108 : decode cX10_run 108 = .ok (.iconst 1, 1) := by decide +kernel
theorem dX10_run_109 : decode cX10_run 109 = .ok (.invokevirtual 101, 3) := by decide +kernel
theorem dX10_run_112 : decode cX10_run 112 = .ok (.ireturn, 1) := by decide +kernel
theorem dX10_run_113 : decode cX10_run 113 = .ok (.iconst 0, 1) := by decide +kernel
theorem dX10_run_114 : decode cX10_run 114 = .ok (.istore_n 2, 1) := by decide +kernel
theorem dX10_run_115 : decode cX10_run 115 = .ok (.iload_n 2, 1) := by decide +kernel
theorem dX10_run_116 : decode cX10_run 116 = .ok (.aload_n 0, 1) := by decide +kernel
theorem dX10_run_117 : decode cX10_run 117 = .ok (.getfield 242, 3) := by decide +kernel
theorem dX10_run_120 : decode cX10_run 120 = .ok (.if_icmp .ge 60, 3) := by decide +kernel
theorem dX10_run_123 : decode cX10_run 123 = .ok (.aload_n 0, 1) := by decide +kernel
theorem dX10_run_124 : decode cX10_run 124 = .ok (.iconst 4, 1) := by decide +kernel
theorem dX10_run_125 : decode cX10_run 125 = .ok (.iload_n 2, 1) := by decide +kernel
theorem dX10_run_126 : decode cX10_run 126 = .ok (.imul, 1) := by decide +kernel
theorem dX10_run_127 : decode cX10_run 127 = .ok (.invokevirtual 255, 3) := by decide +kernel
theorem dX10_run_130 : decode cX10_run 130 = .ok (.aload_n 0, 1) := by decide +kernel
theorem dX10_run_131 : decode cX10_run 131 = .ok (.getfield 57, 3) := by decide +kernel
theorem dX10_run_134 : decode cX10_run 134 = .ok (.ifCond .le 40, 3) := by decide +kernel
theorem dX10_run_137 : decode cX10_run 137 = .ok (.iconst 0, 1) := by decide +kernel
theorem dX10_run_138 : decode cX10_run 138 = .ok (.istore_n 3, 1) := by decide +kernel
theorem dX10_run_139 : decode cX10_run 139 = .ok (.iload_n 3, 1) := by decide +kernel
theorem dX10_run_140 : decode cX10_run 140 = .ok (.bipush 77, 2) := by decide +kernel
theorem dX10_run_142 : decode cX10_run 142 = .ok (.if_icmp .ge 21, 3) := by decide +kernel
theorem dX10_run_145 : decode cX10_run 145 = .ok (.aload_n 0, 1) := by decide +kernel
theorem dX10_run_146 : decode cX10_run 146 = .ok (.getfield 9, 3) := by decide +kernel
theorem dX10_run_149 : decode cX10_run 149 = .ok (.iload_n 3, 1) := by decide +kernel
theorem dX10_run_150 : decode cX10_run 150 = .ok (.aload_n 0, 1) := by decide +kernel
theorem dX10_run_151 : decode cX10_run 151 = .ok (.getfield 13, 3) := by decide +kernel
theorem dX10_run_154 : decode cX10_run 154 = .ok (.iload_n 3, 1) := by decide +kernel
theorem dX10_run_155 : decode cX10_run 155 = .ok (.iaload, 1) := by decide +kernel
theorem dX10_run_156 : decode cX10_run 156 = .ok (.iastore, 1) := by decide +kernel
theorem dX10_run_157 : decode cX10_run 157 = .ok (.iinc 3 1, 3) := by decide +kernel
theorem dX10_run_160 : decode cX10_run 160 = .ok (.goto (-21), 3) := by decide +kernel
theorem dX10_run_163 : decode cX10_run 163 = .ok (.aload_n 0, 1) := by decide +kernel
theorem dX10_run_164 : decode cX10_run 164 = .ok (.iload_n 2, 1) := by decide +kernel
theorem dX10_run_165 : decode cX10_run 165 = .ok (.putfield 26, 3) := by decide +kernel
theorem dX10_run_168 : decode cX10_run 168 = .ok (.aload_n 0, 1) := by decide +kernel
theorem dX10_run_169 : decode cX10_run 169 = .ok (.iconst 2, 1) := by decide +kernel
theorem dX10_run_170 : decode cX10_run 170 = .ok (.invokevirtual 101, 3) := by decide +kernel
theorem dX10_run_173 : decode cX10_run 173 = .ok (.ireturn, 1) := by decide +kernel
theorem dX10_run_174 : decode cX10_run 174 = .ok (.iinc 2 1, 3) := by decide +kernel
theorem dX10_run_177 : decode cX10_run 177 = .ok (.goto (-62), 3) := by decide +kernel
theorem dX10_run_180 : decode cX10_run 180 = .ok (.aload_n 0, 1) := by decide +kernel
theorem dX10_run_181 : decode cX10_run 181 = .ok (.aload_n 0, 1) := by decide +kernel
theorem dX10_run_182 : decode cX10_run 182 = .ok (.getfield 242, 3) := by decide +kernel
theorem dX10_run_185 : decode cX10_run 185 = .ok (.invokevirtual 111, 3) := by decide +kernel
theorem dX10_run_188 : decode cX10_run 188 = .ok (.ireturn, 1) := by decide +kernel
set_option maxHeartbeats 8000000 in
set_option maxRecDepth 20000 in
theorem m_run (l : Launch) (D : va_G) (aT : Nat → ClassId) (ad : Nat → Nat) (S : MSt) (sz B : Nat) (him : S 13 10 = nI sz) (h60 : sz ≤ 60) (hwd0 : WdOk S) (hco0 : CoW (S 0) B) (hB : B < 1048000) (ch : Nat) (hch : S 13 5 = nI ch) (hc8 : ch ≤ 8) : MdI l yX10_run cX10_run 4 .int 7 158 D aT ad [.ref (ad 0)] S (fun r S1 => (∃ u k cm, prsR (S 4) sz (S 11) = ((u, true), k, cm) ∧ r = -1 ∧ S1 = runE S sz u k cm) ∨ (∃ u k cm mm t i, prsR (S 4) sz (S 11) = ((u, false), k, cm) ∧ i < k ∧ runF (S 0) cm i = some mm ∧ runF (S 0) cm (i + 1) = none ∧ r = -1 ∧ S1 = runX S sz u k cm mm t i) ∨ (∃ u k cm mm, prsR (S 4) sz (S 11) = ((u, false), k, cm) ∧ runF (S 0) cm k = some mm ∧ CoW mm (B + k) ∧ r = nI k ∧ S1 = runC S sz u k cm mm ch)) := by
  refine MdI.of (by decide +kernel) rfl (Nat.le_of_ble_eq_true rfl) ?_
  intro p e s m below meth c A ls C hml hl hA hr hlocks hW
  have hl : lv_has ls 4 [(0, .ref (ad 0))] := hl
  have hx := C.1
  have hb := C.2.1
  refine lv_aload_n hx hb dX10_run_0 rfl (lv_at hl 0 rfl) ?_
  refine md_callv C hml hl.1 (As := []) (rest := []) (m_starts l D aT ad S) gT_starts hd_starts rfl ⟨Nat.le_of_ble_eq_true rfl, Nat.le_of_ble_eq_true rfl⟩ ⟨Nat.le_refl _, Nat.le_refl _⟩ hW hA rfl (Nat.le_of_ble_eq_true rfl) dX10_run_1 (fun S_1 H locs hq hW => ?_)
  subst hq
  have hW : MdB D aT ad (begS S) A s.heap H locs := hW
  refine lv_aload_n hx hb dX10_run_4 rfl (lv_at hl 0 rfl) ?_
  refine lv_aload_n hx hb dX10_run_5 rfl (lv_at hl 0 rfl) ?_
  refine md_get_inputMany C hW dX10_run_6 ?_
  refine r_eq (y := (nI sz)) (him) ?_
  refine md_put_size0 C hW dX10_run_9 (fun H locs hW => ?_)
  have hW : MdB D aT ad (ss (begS S) 22 (nI sz)) A s.heap H locs := hW
  refine lv_aload_n hx hb dX10_run_12 rfl (lv_at hl 0 rfl) ?_
  refine lv_iconst (v := nI 0) hx hb dX10_run_13 (by decide) ?_
  refine md_put_inputMany C hW dX10_run_14 (fun H locs hW => ?_)
  have hW : MdB D aT ad (ss (ss (begS S) 22 (nI sz)) 10 (nI 0)) A s.heap H locs := hW
  refine lv_aload_n hx hb dX10_run_17 rfl (lv_at hl 0 rfl) ?_
  refine lv_iconst (v := nI 0) hx hb dX10_run_18 (by decide) ?_
  refine md_put_place0 C hW dX10_run_19 (fun H locs hW => ?_)
  have hW : MdB D aT ad (ss (ss (ss (begS S) 22 (nI sz)) 10 (nI 0)) 21 (nI 0)) A s.heap H locs := hW
  refine lv_aload_n hx hb dX10_run_22 rfl (lv_at hl 0 rfl) ?_
  refine lv_iconst (v := nI 0) hx hb dX10_run_23 (by decide) ?_
  refine md_put_commandMany C hW dX10_run_24 (fun H locs hW => ?_)
  have hW : MdB D aT ad (ss (ss (ss (ss (begS S) 22 (nI sz)) 10 (nI 0)) 21 (nI 0)) 20 (nI 0)) A s.heap H locs := hW
  refine lv_aload_n hx hb dX10_run_27 rfl (lv_at hl 0 rfl) ?_
  refine lv_iconst (v := nI 0) hx hb dX10_run_28 (by decide) ?_
  refine md_put_isWrong C hW (by decide) (by decide) dX10_run_29 (fun H locs hW => ?_)
  have hW : MdB D aT ad (psT (rnS S sz) 0 false 0 (S 11)) A s.heap H locs := (congrArg (fun T1 => MdB D aT ad T1 A s.heap H locs) (psT_i (rnS S sz))).mp hW
  refine lv_iconst (v := nI 1) hx hb dX10_run_32 (by decide) ?_
  refine lv_istore_n (lv' := [(1, .int (nI 1)), (0, .ref (ad 0))]) hx hb dX10_run_33 rfl hl (by decide) rfl (fun ls hl => ?_)
  have hsz : (rnS S sz) 13 22 = nI sz := rfl
  have hwd : WdOk (rnS S sz) := hwd0
  refine W_loopH (σ := Nat × Bool × Nat × (Nat → Int32) × Bool) (fun z_ => muR sz z_.1 z_.2.2.2.2) (fun z_ H locs g => ∃ ls, g = F0 m 34 ls [] ∧ lv_has ls 4 [(0, .ref (ad 0)), (1, .int (bI z_.2.2.2.2))] ∧ MdB D aT ad (psT (rnS S sz) z_.1 z_.2.1 z_.2.2.1 z_.2.2.2.1) A s.heap H locs ∧ ((z_.2.2.2.2 = true → z_.2.1 = false ∧ ∃ d, sz - z_.1 ≤ d ∧ prsF (S 4) sz (d + 1) z_.1 z_.2.2.1 z_.2.2.2.1 = prsR (S 4) sz (S 11)) ∧ (z_.2.2.2.2 = false → ((z_.1, z_.2.1), z_.2.2.1, z_.2.2.2.1) = prsR (S 4) sz (S 11)) ∧ z_.1 ≤ sz ∧ 5 * z_.2.2.1 ≤ z_.1 ∧ CmOk z_.2.2.1 z_.2.2.2.1)) ?_ (0, false, 0, (S 11), true) _ ⟨_, rfl, lv_sub hl [1, 0] rfl, hW, ⟨(fun _ => ⟨rfl, sz, Nat.sub_le _ _, rfl⟩), (fun z => by cases z), Nat.zero_le _, Nat.le_refl _, (fun i hi => absurd hi (Nat.not_lt_zero _))⟩⟩
  clear hW hl
  rintro ⟨u, wr, k, cm, mr⟩ H locs g ⟨ls, rfl, hl, hW, h1, h2, hu, h5, hcm⟩ ih_34
  dsimp only at hl hW h1 h2 hu h5 hcm ⊢
  refine lv_iload_n hx hb dX10_run_34 rfl (lv_at hl 1 rfl) ?_
  refine r_bI_eq hx hb (b := mr) (tgt := 92) dX10_run_35 (by decide) (fun c_35 => ?_) (fun c_35 => ?_)
  · refine lv_aload_n hx hb dX10_run_92 rfl (lv_at hl 0 rfl) ?_
    refine md_get_isWrong C hW dX10_run_93 ?_
    refine r_eq (y := (bI wr)) (rfl) ?_
    refine r_bI_eq hx hb (b := wr) (tgt := 113) dX10_run_96 (by decide) (fun c_96 => ?_) (fun c_96 => ?_)
    · refine lv_iconst (v := nI 0) hx hb dX10_run_113 (by decide) ?_
      refine lv_istore_n (lv' := [(2, .int (nI 0)), (0, .ref (ad 0)), (1, .int (bI mr))]) hx hb dX10_run_114 rfl hl (by decide) rfl (fun ls hl => ?_)
      refine W_loopH (σ := (Nat → Int32) × Nat) (fun z_ => k - z_.2) (fun z_ H locs g => ∃ ls, g = F0 m 115 ls [] ∧ lv_has ls 4 [(0, .ref (ad 0)), (2, .int (nI z_.2))] ∧ MdB D aT ad (sr (psT (rnS S sz) u wr k cm) 0 z_.1) A s.heap H locs ∧ (runF (S 0) cm z_.2 = some z_.1 ∧ CoW z_.1 (B + z_.2) ∧ z_.2 ≤ k)) ?_ ((S 0), 0) _ ⟨_, rfl, lv_sub hl [1, 0] rfl, (by rw [show S 0 = (psT (rnS S sz) u wr k cm) 0 from rfl, sr_self]; exact hW), ⟨rfl, hco0, Nat.zero_le _⟩⟩
      clear hW hl
      rintro ⟨mm, i⟩ H locs g ⟨ls, rfl, hl, hW, hrun, hco, hik⟩ ih_115
      dsimp only at hl hW hrun hco hik ⊢
      have hk12 : k ≤ 12 := by omega
      refine lv_iload_n hx hb dX10_run_115 rfl (lv_at hl 1 rfl) ?_
      refine lv_aload_n hx hb dX10_run_116 rfl (lv_at hl 0 rfl) ?_
      refine md_get_commandMany C hW dX10_run_117 ?_
      refine r_eq (y := (nI k)) (rfl) ?_
      refine r_geN hx hb (a := i) (b := k) (by omega) (by omega) (tgt := 180) dX10_run_120 (by decide) (fun c_120 => ?_) (fun c_120 => ?_)
      · refine lv_aload_n hx hb dX10_run_180 rfl (lv_at hl 0 rfl) ?_
        refine lv_aload_n hx hb dX10_run_181 rfl (lv_at hl 0 rfl) ?_
        refine md_get_commandMany C hW dX10_run_182 ?_
        refine r_eq (y := (nI k)) (rfl) ?_
        refine md_calli C hml hl.1 (As := [.int (nI k)]) (rest := []) (m_changed l D aT ad (sr (psT (rnS S sz) u wr k cm) 0 mm) (nI k) 0 ch rfl (by decide) hch hc8) gT_changed hd_changed rfl ⟨Nat.le_of_ble_eq_true rfl, Nat.le_of_ble_eq_true rfl⟩ ⟨Nat.le_refl _, Nat.le_refl _⟩ hW hA rfl (Nat.le_of_ble_eq_true rfl) dX10_run_185 (fun r_185 S_185 H locs hq hW => ?_)
        obtain ⟨rfl, rfl⟩ := hq
        have hW : MdB D aT ad (runC S sz u k cm mm ch) A s.heap H locs := by rw [if_pos rfl] at hW; subst c_96; exact hW
        exact md_iret C hr hlocks rfl hW (Or.inr (Or.inr ⟨u, k, cm, mm, by rw [← h2 c_35, c_96], by rw [show k = i by omega]; exact hrun, by rw [show k = i by omega]; exact hco, rfl, rfl⟩)) dX10_run_188
      · refine lv_aload_n hx hb dX10_run_123 rfl (lv_at hl 0 rfl) ?_
        refine lv_iconst (v := nI 4) hx hb dX10_run_124 (by decide) ?_
        refine lv_iload_n hx hb dX10_run_125 rfl (lv_at hl 1 rfl) ?_
        refine r_imulN hx hb (a := 4) (b := i) dX10_run_126 ?_
        obtain ⟨w, hw7, hw⟩ := hcm i (by omega)
        obtain ⟨s0, hs4, hs0⟩ := hco.2.2.1
        refine md_callv C hml hl.1 (As := [.int (nI (4 * i))]) (rest := []) (m_does_all l D aT ad (sr (psT (rnS S sz) u wr k cm) 0 mm) (4 * i) s0 w hw7 (by omega) hw hco.1 hco.2.1 hs0 hs4) gT_does hd_does rfl ⟨Nat.le_of_ble_eq_true rfl, Nat.le_of_ble_eq_true rfl⟩ ⟨Nat.le_refl _, Nat.le_refl _⟩ hW hA rfl (Nat.le_of_ble_eq_true rfl) dX10_run_127 (fun S_127 H locs hq hW => ?_)
        rcases hq with ⟨hd, t, ht0, ht4, rfl⟩ | ⟨m1, hd, rfl⟩
        · refine lv_aload_n hx hb dX10_run_130 rfl (lv_at hl 0 rfl) ?_
          refine md_get_thrown C hW dX10_run_131 ?_
          refine r_eq (y := (nI t)) (rfl) ?_
          refine r_ifleN hx hb (a := t) (by omega) (tgt := 174) dX10_run_134 (by decide) (fun c_134 => ?_) (fun c_134 => ?_)
          · exact absurd c_134 (by omega)
          · refine lv_iconst (v := nI 0) hx hb dX10_run_137 (by decide) ?_
            refine lv_istore_n (lv' := [(3, .int (nI 0)), (0, .ref (ad 0)), (2, .int (nI i))]) hx hb dX10_run_138 rfl hl (by decide) rfl (fun ls hl => ?_)
            refine W_loopH (σ := Nat) (fun z_ => 77 - z_) (fun z_ H locs g => ∃ ls, g = F0 m 139 ls [] ∧ lv_has ls 4 [(0, .ref (ad 0)), (2, .int (nI i)), (3, .int (nI z_))] ∧ MdB D aT ad (sr (ss (sr (psT (rnS S sz) u wr k cm) 0 mm) 8 (nI t)) 0 (cpyF mm (cpyF (S 1) (S 0) 77) z_)) A s.heap H locs ∧ (z_ ≤ 77)) ?_ 0 _ ⟨_, rfl, lv_sub hl [1, 2, 0] rfl, (by have e0 := sr_self (ss (sr (psT (rnS S sz) u wr k cm) 0 mm) 8 (nI t)) 0; rw [cpyF_0]; rw [← e0] at hW; exact hW), Nat.zero_le _⟩
            clear hW hl
            rintro j H locs g ⟨ls, rfl, hl, hW, hj⟩ ih_139
            refine lv_iload_n hx hb dX10_run_139 rfl (lv_at hl 2 rfl) ?_
            refine lv_bipush (v := nI 77) hx hb dX10_run_140 (by decide) ?_
            refine r_geN hx hb (a := j) (b := 77) (by omega) (by omega) (tgt := 163) dX10_run_142 (by decide) (fun c_142 => ?_) (fun c_142 => ?_)
            · refine lv_aload_n hx hb dX10_run_163 rfl (lv_at hl 0 rfl) ?_
              refine lv_iload_n hx hb dX10_run_164 rfl (lv_at hl 1 rfl) ?_
              refine md_put_failed C hW dX10_run_165 (fun H locs hW => ?_)
              have hW : MdB D aT ad (ss (sr (ss (sr (psT (rnS S sz) u wr k cm) 0 mm) 8 (nI t)) 0 (cpyF mm (cpyF (S 1) (S 0) 77) j)) 7 (nI i)) A s.heap H locs := hW
              refine lv_aload_n hx hb dX10_run_168 rfl (lv_at hl 0 rfl) ?_
              refine lv_iconst (v := nI 2) hx hb dX10_run_169 (by decide) ?_
              refine md_calli C hml hl.1 (As := [.int (nI 2)]) (rest := []) (m_throwing l D aT ad (ss (sr (ss (sr (psT (rnS S sz) u wr k cm) 0 mm) 8 (nI t)) 0 (cpyF mm (cpyF (S 1) (S 0) 77) j)) 7 (nI i)) 2) gT_throwing hd_throwing rfl ⟨Nat.le_of_ble_eq_true rfl, Nat.le_of_ble_eq_true rfl⟩ ⟨Nat.le_refl _, Nat.le_refl _⟩ hW hA rfl (Nat.le_of_ble_eq_true rfl) dX10_run_170 (fun r_170 S_170 H locs hq hW => ?_)
              obtain ⟨rfl, rfl⟩ := hq
              exact md_iret C hr hlocks rfl hW (Or.inr (Or.inl ⟨u, k, cm, mm, t, i, by rw [← h2 c_35, c_96], by omega, hrun, by rw [runF_s hrun hw hw7]; exact hd, rfl, by subst c_96; rw [show j = 77 by omega]; rfl⟩)) dX10_run_173
            · refine lv_aload_n hx hb dX10_run_145 rfl (lv_at hl 0 rfl) ?_
              refine md_geta_m C hW dX10_run_146 ?_
              refine lv_iload_n hx hb dX10_run_149 rfl (lv_at hl 2 rfl) ?_
              refine lv_aload_n hx hb dX10_run_150 rfl (lv_at hl 0 rfl) ?_
              refine md_geta_aside C hW dX10_run_151 ?_
              refine lv_iload_n hx hb dX10_run_154 rfl (lv_at hl 2 rfl) ?_
              refine md_ald_aside C hW (i := j) (by omega) dX10_run_155 ?_
              refine md_ast_m C hW (i := j) (by omega) dX10_run_156 (fun H locs hW => ?_)
              have hW : MdB D aT ad (sr (sr (ss (sr (psT (rnS S sz) u wr k cm) 0 mm) 8 (nI t)) 0 (cpyF mm (cpyF (S 1) (S 0) 77) j)) 0 (upd ((sr (ss (sr (psT (rnS S sz) u wr k cm) 0 mm) 8 (nI t)) 0 (cpyF mm (cpyF (S 1) (S 0) 77) j)) 0) j (((sr (ss (sr (psT (rnS S sz) u wr k cm) 0 mm) 8 (nI t)) 0 (cpyF mm (cpyF (S 1) (S 0) 77) j)) 1 j)))) A s.heap H locs := hW
              refine lv_iinc (v := (nI (j + 1))) (lv' := [(3, .int (nI (j + 1))), (0, .ref (ad 0)), (2, .int (nI i))]) hx hb dX10_run_157 hl (k := 2) rfl (nI_1 _) (by decide) rfl (fun ls hl => ?_)
              refine lv_goto (tgt := 139) hx hb dX10_run_160 (by decide) ?_
              exact ih_139 (j + 1) _ _ _ (by omega) ⟨_, rfl, lv_sub hl [1, 2, 0] rfl, (by rw [sr_sr, sr_s] at hW; exact (congrArg (fun F_ => MdB D aT ad (sr (ss (sr (psT (rnS S sz) u wr k cm) 0 mm) 8 (nI t)) 0 F_) A s.heap H locs) (cpyF_1 mm (cpyF (S 1) (S 0) 77) j)).mp hW), (by omega)⟩
        · have hW : MdB D aT ad (sr (psT (rnS S sz) u wr k cm) 0 m1) A s.heap H locs := by rw [sr_sr] at hW; exact hW
          refine lv_aload_n hx hb dX10_run_130 rfl (lv_at hl 0 rfl) ?_
          refine md_get_thrown C hW dX10_run_131 ?_
          refine r_eq (y := (nI 0)) (rfl) ?_
          refine r_ifleN hx hb (a := 0) (by omega) (tgt := 174) dX10_run_134 (by decide) (fun c_134 => ?_) (fun c_134 => ?_)
          · refine lv_iinc (v := (nI (i + 1))) (lv' := [(2, .int (nI (i + 1))), (0, .ref (ad 0))]) hx hb dX10_run_174 hl (k := 1) rfl (nI_1 _) (by decide) rfl (fun ls hl => ?_)
            refine lv_goto (tgt := 115) hx hb dX10_run_177 (by decide) ?_
            exact ih_115 (m1, (i + 1)) _ _ _ (by dsimp only; omega) ⟨_, rfl, lv_sub hl [1, 0] rfl, hW, ⟨by rw [runF_s hrun hw hw7]; exact hd, CoW.do hco (show B + i < 1048576 by omega) hw7 hd, by (try dsimp only); omega⟩⟩
          · exact absurd c_134 (by decide)
    · refine lv_aload_n hx hb dX10_run_99 rfl (lv_at hl 0 rfl) ?_
      refine lv_aload_n hx hb dX10_run_100 rfl (lv_at hl 0 rfl) ?_
      refine md_get_place0 C hW dX10_run_101 ?_
      refine r_eq (y := (nI u)) (rfl) ?_
      refine md_put_errorAt C hW dX10_run_104 (fun H locs hW => ?_)
      have hW : MdB D aT ad (ss (psT (rnS S sz) u wr k cm) 6 (nI u)) A s.heap H locs := hW
      refine lv_aload_n hx hb dX10_run_107 rfl (lv_at hl 0 rfl) ?_
      refine lv_iconst (v := nI 1) hx hb dX10_run_108 (by decide) ?_
      refine md_calli C hml hl.1 (As := [.int (nI 1)]) (rest := []) (m_throwing l D aT ad (ss (psT (rnS S sz) u wr k cm) 6 (nI u)) 1) gT_throwing hd_throwing rfl ⟨Nat.le_of_ble_eq_true rfl, Nat.le_of_ble_eq_true rfl⟩ ⟨Nat.le_refl _, Nat.le_refl _⟩ hW hA rfl (Nat.le_of_ble_eq_true rfl) dX10_run_109 (fun r_109 S_109 H locs hq hW => ?_)
      obtain ⟨rfl, rfl⟩ := hq
      exact md_iret C hr hlocks rfl hW (Or.inl ⟨u, k, cm, by rw [← h2 c_35, c_96], rfl, by subst c_96; rfl⟩) dX10_run_112
  · obtain ⟨rfl, d, hd, hR⟩ := h1 c_35
    refine lv_aload_n hx hb dX10_run_38 rfl (lv_at hl 0 rfl) ?_
    refine md_callv C hml hl.1 (As := []) (rest := []) (m_readCommand l D aT ad (rnS S sz) u sz k cm hsz h60 hu (by omega) hwd) gT_readCommand hd_readCommand rfl ⟨Nat.le_of_ble_eq_true rfl, Nat.le_of_ble_eq_true rfl⟩ ⟨Nat.le_refl _, Nat.le_refl _⟩ hW hA rfl (Nat.le_of_ble_eq_true rfl) dX10_run_39 (fun S_39 H locs hq hW => ?_)
    subst hq
    have hc := cmdP_ok (f := S 4) hu h5 hcm
    refine lv_aload_n hx hb dX10_run_42 rfl (lv_at hl 0 rfl) ?_
    refine md_get_isWrong C hW dX10_run_43 ?_
    refine r_eq (y := (bI ((cmdP (S 4) sz k cm u).1.2))) (rfl) ?_
    refine r_bI_ne hx hb (b := (cmdP (S 4) sz k cm u).1.2) (tgt := 64) dX10_run_46 (by decide) (fun c_46 => ?_) (fun c_46 => ?_)
    · refine lv_iconst (v := nI 0) hx hb dX10_run_64 (by decide) ?_
      refine lv_istore_n (lv' := [(1, .int (nI 0)), (0, .ref (ad 0))]) hx hb dX10_run_65 rfl hl (by decide) rfl (fun ls hl => ?_)
      refine lv_iload_n hx hb dX10_run_66 rfl (lv_at hl 0 rfl) ?_
      refine r_ifeqN hx hb (a := 0) (by omega) (tgt := 34) dX10_run_67 (by decide) (fun c_67 => ?_) (fun c_67 => ?_)
      · exact ih_34 ((cmdP (S 4) sz k cm u).1.1, (cmdP (S 4) sz k cm u).1.2, (cmdP (S 4) sz k cm u).2.1, (cmdP (S 4) sz k cm u).2.2, false) _ _ _ (by first | exact muR_0 c_35 | exact muR_1 c_35 (by have := expP_f c_80; dsimp only; omega) he.1) ⟨_, rfl, lv_sub hl [1, 0] rfl, hW, ⟨(fun z => by cases z), (fun _ => by rw [← hR, prsF_1 (Or.inl c_46)]), hc.1, hc.2.2.1, hc.2.2.2⟩⟩
      · exact absurd c_67 (by decide)
    · refine lv_aload_n hx hb dX10_run_49 rfl (lv_at hl 0 rfl) ?_
      refine md_get_place0 C hW dX10_run_50 ?_
      refine r_eq (y := (nI ((cmdP (S 4) sz k cm u).1.1))) (rfl) ?_
      refine lv_aload_n hx hb dX10_run_53 rfl (lv_at hl 0 rfl) ?_
      refine md_get_size0 C hW dX10_run_54 ?_
      refine r_eq (y := (nI sz)) (rfl) ?_
      refine r_geN hx hb (a := (cmdP (S 4) sz k cm u).1.1) (b := sz) (by have := hc.1; omega) (by have := hc.1; omega) (tgt := 64) dX10_run_57 (by decide) (fun c_57 => ?_) (fun c_57 => ?_)
      · refine lv_iconst (v := nI 0) hx hb dX10_run_64 (by decide) ?_
        refine lv_istore_n (lv' := [(1, .int (nI 0)), (0, .ref (ad 0))]) hx hb dX10_run_65 rfl hl (by decide) rfl (fun ls hl => ?_)
        refine lv_iload_n hx hb dX10_run_66 rfl (lv_at hl 0 rfl) ?_
        refine r_ifeqN hx hb (a := 0) (by omega) (tgt := 34) dX10_run_67 (by decide) (fun c_67 => ?_) (fun c_67 => ?_)
        · exact ih_34 ((cmdP (S 4) sz k cm u).1.1, (cmdP (S 4) sz k cm u).1.2, (cmdP (S 4) sz k cm u).2.1, (cmdP (S 4) sz k cm u).2.2, false) _ _ _ (by first | exact muR_0 c_35 | exact muR_1 c_35 (by have := expP_f c_80; dsimp only; omega) he.1) ⟨_, rfl, lv_sub hl [1, 0] rfl, hW, ⟨(fun z => by cases z), (fun _ => by rw [← hR, prsF_1 (Or.inr c_57)]), hc.1, hc.2.2.1, hc.2.2.2⟩⟩
        · exact absurd c_67 (by decide)
      · refine lv_iconst (v := nI 1) hx hb dX10_run_60 (by decide) ?_
        refine lv_goto (tgt := 65) hx hb dX10_run_61 (by decide) ?_
        refine lv_istore_n (lv' := [(1, .int (nI 1)), (0, .ref (ad 0))]) hx hb dX10_run_65 rfl hl (by decide) rfl (fun ls hl => ?_)
        refine lv_iload_n hx hb dX10_run_66 rfl (lv_at hl 0 rfl) ?_
        refine r_ifeqN hx hb (a := 1) (by omega) (tgt := 34) dX10_run_67 (by decide) (fun c_67 => ?_) (fun c_67 => ?_)
        · exact absurd c_67 (by decide)
        · refine lv_aload_n hx hb dX10_run_70 rfl (lv_at hl 1 rfl) ?_
          refine lv_bipush (v := nI 59) hx hb dX10_run_71 (by decide) ?_
          refine md_callv C hml hl.1 (As := [.int (nI 59)]) (rest := []) (m_expects l D aT ad (rnS S sz) ((cmdP (S 4) sz k cm u).1.1) sz ((cmdP (S 4) sz k cm u).2.1) ((cmdP (S 4) sz k cm u).1.2) ((cmdP (S 4) sz k cm u).2.2) hsz h60 hc.1 (nI 59)) gT_expects hd_expects rfl ⟨Nat.le_of_ble_eq_true rfl, Nat.le_of_ble_eq_true rfl⟩ ⟨Nat.le_refl _, Nat.le_refl _⟩ hW hA rfl (Nat.le_of_ble_eq_true rfl) dX10_run_73 (fun S_73 H locs hq hW => ?_)
          subst hq
          refine lv_aload_n hx hb dX10_run_76 rfl (lv_at hl 1 rfl) ?_
          refine md_get_isWrong C hW dX10_run_77 ?_
          refine r_eq (y := (bI ((expP (S 4) sz (nI 59) (cmdP (S 4) sz k cm u).1).2))) (rfl) ?_
          refine r_bI_ne hx hb (b := (expP (S 4) sz (nI 59) (cmdP (S 4) sz k cm u).1).2) (tgt := 87) dX10_run_80 (by decide) (fun c_80 => ?_) (fun c_80 => ?_)
          · have he := expP_le (f := S 4) (c := nI 59) (s := (cmdP (S 4) sz k cm u).1) (by decide) hc.1
            refine lv_iconst (v := nI 0) hx hb dX10_run_87 (by decide) ?_
            refine lv_istore_n (lv' := [(1, .int (nI 0)), (0, .ref (ad 0))]) hx hb dX10_run_88 rfl hl (by decide) rfl (fun ls hl => ?_)
            refine lv_goto (tgt := 34) hx hb dX10_run_89 (by decide) ?_
            exact ih_34 ((expP (S 4) sz (nI 59) (cmdP (S 4) sz k cm u).1).1, (expP (S 4) sz (nI 59) (cmdP (S 4) sz k cm u).1).2, (cmdP (S 4) sz k cm u).2.1, (cmdP (S 4) sz k cm u).2.2, false) _ _ _ (by first | exact muR_0 c_35 | exact muR_1 c_35 (by have := expP_f c_80; dsimp only; omega) he.1) ⟨_, rfl, lv_sub hl [1, 0] rfl, hW, ⟨(fun z => by cases z), (fun _ => by rw [← hR, prsF_2 c_46 c_57 c_80]), he.1, Nat.le_trans hc.2.2.1 he.2, hc.2.2.2⟩⟩
          · have he := expP_le (f := S 4) (c := nI 59) (s := (cmdP (S 4) sz k cm u).1) (by decide) hc.1
            refine lv_iconst (v := nI 1) hx hb dX10_run_83 (by decide) ?_
            refine lv_goto (tgt := 88) hx hb dX10_run_84 (by decide) ?_
            refine lv_istore_n (lv' := [(1, .int (nI 1)), (0, .ref (ad 0))]) hx hb dX10_run_88 rfl hl (by decide) rfl (fun ls hl => ?_)
            refine lv_goto (tgt := 34) hx hb dX10_run_89 (by decide) ?_
            exact ih_34 ((expP (S 4) sz (nI 59) (cmdP (S 4) sz k cm u).1).1, (expP (S 4) sz (nI 59) (cmdP (S 4) sz k cm u).1).2, (cmdP (S 4) sz k cm u).2.1, (cmdP (S 4) sz k cm u).2.2, true) _ _ _ (by first | exact muR_0 c_35 | exact muR_1 c_35 (by have := expP_f c_80; dsimp only; omega) he.1) ⟨_, rfl, lv_sub hl [1, 0] rfl, hW, ⟨(fun _ => ⟨c_80, d - 1, by have := expP_f c_80; dsimp only; omega, by rw [← hR, prsF_3 c_46 c_57 c_80, show d - 1 + 1 = d by omega]⟩), (fun z => by cases z), he.1, Nat.le_trans hc.2.2.1 he.2, hc.2.2.2⟩⟩
end
section
theorem arrV_same {c : ClassId} {n : Nat} {f g : Nat → Value} (h : ∀ j, j < n → f j = g j) : arrV c n f = arrV c n g := by
  unfold arrV
  rw [show (fun j : Fin n => f j.val) = fun j : Fin n => g j.val from funext fun j => h j.val j.isLt]
theorem at_same {D : va_G} {cl : List vw_C} {a : Nat} {c : ClassId} {n : Nat} {f g : Nat → Int32} {H : Heap} (h : ∀ j, j < n → f j = g j) (z : va_at D cl (a, .inl (c, (n, .inl f))) H) : va_at D cl (a, .inl (c, (n, .inl g))) H := by
  have e : arrV c n (fun j => .int (f j)) = arrV c n (fun j => .int (g j)) := arrV_same (fun j hj => by show Value.int (f j) = Value.int (g j); rw [h j hj])
  exact z.trans (congrArg some e)
/-- the lengths of the reference's rows -/
def rwN (r : Nat) : Nat := [77, 77, 77, 616, 60, 12, 12, 12, 12, 41, 8, 244, 400].getD r 0
/-- two states that no cell tells apart -/
def MSame (S S' : MSt) : Prop := (∀ r, r < 13 → ∀ j, j < rwN r → S r j = S' r j) ∧ S 13 = S' 13
theorem MSame.refl {S : MSt} : MSame S S := ⟨fun _ _ _ _ => rfl, rfl⟩
theorem MSame.symm {S S' : MSt} (h : MSame S S') : MSame S' S := ⟨fun r hr j hj => (h.1 r hr j hj).symm, h.2.symm⟩
theorem MSame.trans {S S' S2 : MSt} (h : MSame S S') (h1 : MSame S' S2) : MSame S S2 := ⟨fun r hr j hj => (h.1 r hr j hj).trans (h1.1 r hr j hj), h.2.trans h1.2⟩
theorem mdW_same {D : va_G} {aT : Nat → ClassId} {ad : Nat → Nat} {S S' : MSt} {H : Heap} (h : MSame S S') (hW : va_P D vwCl (mdW aT ad S) H) : va_P D vwCl (mdW aT ad S') H := by
  intro k q hq
  match k, hq with
  | 0, hq =>
    have e : (mdW aT ad S')[0]? = (mdW aT ad S)[0]? := by simp only [mdW, h.2, List.getElem?_cons_zero]
    exact hW 0 q (e.symm.trans hq)
  | 1, hq => obtain rfl := Option.some.inj hq; exact at_same (h.1 0 (by decide)) (hW 1 _ rfl)
  | 2, hq => obtain rfl := Option.some.inj hq; exact at_same (h.1 1 (by decide)) (hW 2 _ rfl)
  | 3, hq => obtain rfl := Option.some.inj hq; exact at_same (h.1 2 (by decide)) (hW 3 _ rfl)
  | 4, hq => obtain rfl := Option.some.inj hq; exact at_same (h.1 3 (by decide)) (hW 4 _ rfl)
  | 5, hq => obtain rfl := Option.some.inj hq; exact at_same (h.1 4 (by decide)) (hW 5 _ rfl)
  | 6, hq => obtain rfl := Option.some.inj hq; exact at_same (h.1 5 (by decide)) (hW 6 _ rfl)
  | 7, hq => obtain rfl := Option.some.inj hq; exact at_same (h.1 6 (by decide)) (hW 7 _ rfl)
  | 8, hq => obtain rfl := Option.some.inj hq; exact at_same (h.1 7 (by decide)) (hW 8 _ rfl)
  | 9, hq => obtain rfl := Option.some.inj hq; exact at_same (h.1 8 (by decide)) (hW 9 _ rfl)
  | 10, hq => obtain rfl := Option.some.inj hq; exact at_same (h.1 9 (by decide)) (hW 10 _ rfl)
  | 11, hq => obtain rfl := Option.some.inj hq; exact at_same (h.1 10 (by decide)) (hW 11 _ rfl)
  | 12, hq => obtain rfl := Option.some.inj hq; exact at_same (h.1 11 (by decide)) (hW 12 _ rfl)
  | 13, hq => obtain rfl := Option.some.inj hq; exact at_same (h.1 12 (by decide)) (hW 13 _ rfl)
  | k + 14, hq => exact absurd (show (none : Option (Nat × va_E)) = some q from hq) (by simp)
theorem MdB.same {D : va_G} {aT : Nat → ClassId} {ad : Nat → Nat} {S S' : MSt} {A : Nat → Prop} {H0 H : Heap} {locs : List Loc} (h : MSame S S') (hW : MdB D aT ad S A H0 H locs) : MdB D aT ad S' A H0 H locs := ⟨mdW_same h hW.1, mdW_D hW.2.1, hW.2.2⟩
/-- behind a run that fails the row stands as before it -/
theorem runX_same {S : MSt} {sz u k t i : Nat} {cm mm : Nat → Int32} : MSame (runX S sz u k cm mm t i) (ss (ss (psT (rnS S sz) u false k cm) 7 (nI i)) 8 (nI 2)) := by
  refine ⟨fun r hr j hj => ?_, ?_⟩
  · by_cases h0 : r = 0
    · subst h0
      show cpyF mm (cpyF (S 1) (S 0) 77) 77 j = S 0 j
      have hj : j < 77 := hj
      simp [cpyF, hj]
    · have h13 : r ≠ 13 := by omega
      simp [runX, ss, sr, h0, h13]
  · funext j
    show upd (upd (upd (psT (rnS S sz) u false k cm 13) 8 (nI t)) 7 (nI i)) 8 (nI 2) j = upd (upd (psT (rnS S sz) u false k cm 13) 7 (nI i)) 8 (nI 2) j
    by_cases h8 : j = 8
    · subst h8; exact pk_us.trans pk_us.symm
    · rw [pk_un h8, pk_un h8]
      by_cases h7 : j = 7
      · subst h7; exact pk_us.trans pk_us.symm
      · rw [pk_un h7, pk_un h7, pk_un h8]
end
section
/-- the first place of those from one on, below another, whose parent is at a place -/
def chF (pr : Nat → Option Nat) (p n : Nat) : Nat → Option Nat
  | 0 => none
  | d + 1 => if pr (n - (d + 1)) = some p then some (n - (d + 1)) else chF pr p n d
theorem chF_lt {pr : Nat → Option Nat} {p n d q : Nat} (hd : d ≤ n) (h : chF pr p n d = some q) : q < n ∧ n - d ≤ q ∧ pr q = some p := by
  induction d with
  | zero => cases h
  | succ d ih =>
    rw [chF] at h
    split at h
    · rename_i z; cases h; exact ⟨by omega, Nat.le_refl _, z⟩
    · have := ih (by omega) h; exact ⟨this.1, by omega, this.2.2⟩
theorem pd_eq {x : Nat} (h : 0 < x) : nI x + -1 = nI (x - 1) := by
  obtain ⟨y, rfl⟩ : ∃ y, x = y + 1 := ⟨x - 1, by omega⟩
  exact pk_m1 y
theorem neg1_lt {q : Nat} (hq : q < 2 ^ 31) : (-1 : Int32) < nI q := by
  rw [Int32.lt_iff_toInt_lt, nI_toInt hq]
  have : (-1 : Int32).toInt = -1 := by decide
  omega
theorem pd_le {x q : Nat} (hx : x < 2 ^ 31) (hq : q < 2 ^ 31) (h : nI x + -1 < nI q) : x ≤ q := by
  rcases Nat.lt_or_ge q x with z | z
  · exfalso
    rw [pd_eq (by omega), nI_ltI (by omega) hq] at h
    omega
  · exact z
theorem pd_gt {x q : Nat} (hx : x < 2 ^ 31) (hq : q < 2 ^ 31) (h : ¬ nI x + -1 < nI q) : q < x := by
  rcases Nat.lt_or_ge q x with z | z
  · exact z
  · refine absurd ?_ h
    rcases Nat.eq_zero_or_pos x with y | y
    · subst y; exact neg1_lt hq
    · rw [pd_eq y, nI_ltI (by omega) hq]; omega
/-- the state with the line as it is being written -/
def lnS (S : MSt) (f : Nat → Int32) (k : Nat) : MSt := ss (sr S 12 f) 25 (nI k)
theorem lnS_i {S : MSt} {f g : Nat → Int32} {k j : Nat} : ss (sr (lnS S f k) 12 g) 25 (nI j) = lnS S g j := by
  funext r i
  by_cases h : r = 13
  · subst h
    show upd (upd (S 13) 25 (nI k)) 25 (nI j) i = upd (S 13) 25 (nI j) i
    by_cases h2 : i = 25
    · subst h2; exact pk_us.trans pk_us.symm
    · rw [pk_un h2, pk_un h2, pk_un h2]
  · by_cases h1 : r = 12
    · subst h1; rfl
    · simp [lnS, ss, sr, h, h1]
theorem lnS_0 {S : MSt} {k : Nat} (h : S 13 25 = nI k) : lnS S (S 12) k = S := by
  funext r i
  by_cases h1 : r = 13
  · subst h1
    show upd (S 13) 25 (nI k) i = S 13 i
    by_cases h2 : i = 25
    · subst h2; exact pk_us.trans h.symm
    · rw [pk_un h2]
  · by_cases h2 : r = 12
    · subst h2; rfl
    · simp [lnS, ss, sr, h1, h2]
theorem not9 (v : Int32) : ¬ nI 9 < v / nI (10 ^ 9) := by
  rw [show (10 ^ 9 : Nat) = 1000000000 from rfl, Int32.lt_iff_toInt_lt, Int32.toInt_div, nI_toInt (by omega), nI_toInt (by omega)]
  have h1 := Int32.toInt_lt v
  have h2 := Int32.le_toInt v
  have h3 : v.toInt.tdiv ((1000000000 : Nat) : Int) ≤ 2 ∧ -3 ≤ v.toInt.tdiv ((1000000000 : Nat) : Int) := by
    rw [Int.tdiv_eq_ediv]
    have hs : Int.sign ((1000000000 : Nat) : Int) = 1 := by decide
    split <;> omega
  rw [Int.bmod_eq_of_le (by omega) (by omega)]
  omega
/-- how many zeros stand behind the first digit of a number -/
def tnJ (v : Int32) : Nat → Nat → Nat
  | 0, j => j
  | d + 1, j => if nI 9 < v / nI (10 ^ j) then tnJ v d (j + 1) else j
theorem tnJ_stop {v : Int32} {d j : Nat} (h : ¬ nI 9 < v / nI (10 ^ j)) : tnJ v d j = j := by
  cases d with
  | zero => rfl
  | succ d => rw [tnJ, if_neg h]
theorem tnJ_go {v : Int32} {j : Nat} (h9 : j ≤ 9) (h : nI 9 < v / nI (10 ^ j)) : j < 9 ∧ tnJ v (9 - j) j = tnJ v (9 - (j + 1)) (j + 1) := by
  have h8 : j < 9 := by
    rcases Nat.lt_or_ge j 9 with z | z
    · exact z
    · exfalso
      have e : j = 9 := by omega
      subst e
      exact not9 v h
  refine ⟨h8, ?_⟩
  rw [show 9 - j = (9 - (j + 1)) + 1 by omega, tnJ, if_pos h]
theorem tnJ_le {v : Int32} : ∀ d j, tnJ v d j ≤ d + j
  | 0, j => by rw [tnJ]; omega
  | d + 1, j => by
    rw [tnJ]
    split
    · have := tnJ_le (v := v) d (j + 1); omega
    · omega
/-- the digits of a number written from a place of it on, into the line -/
def wlF (v : Int32) : Nat → (Nat → Int32) → Nat → (Nat → Int32) × Nat
  | 0, f, k => (f, k)
  | j + 1, f, k => wlF v j (upd f k (nI 48 + (v / nI (10 ^ j) - v / nI (10 ^ j) / nI 10 * nI 10))) (k + 1)
def whF (v : Int32) (f : Nat → Int32) (k : Nat) : (Nat → Int32) × Nat := wlF v (tnJ v 9 0 + 1) f k
theorem wlF_k {v : Int32} : ∀ (j : Nat) (f : Nat → Int32) (k : Nat), (wlF v j f k).2 = k + j
  | 0, f, k => rfl
  | j + 1, f, k => by rw [wlF, wlF_k j]; omega
theorem whF_k {v : Int32} {f : Nat → Int32} {k : Nat} : (whF v f k).2 ≤ k + 10 ∧ k < (whF v f k).2 := by
  have := tnJ_le (v := v) 9 0
  rw [whF, wlF_k]; omega
def tnV : Nat → Nat
  | 0 => 0
  | j + 1 => 10 ^ j
theorem tn_le {j : Nat} (h : j ≤ 9) : 10 ^ j ≤ 1000000000 := Nat.pow_le_pow_right (by decide) h
theorem tn_pos {j : Nat} : 0 < 10 ^ j := Nat.pow_pos (by decide)
theorem tnV_le {j : Nat} (h : j ≤ 10) : tnV j ≤ 1000000000 := by
  cases j with
  | zero => exact Nat.zero_le _
  | succ j => exact tn_le (by omega)
theorem tnV_0 {j : Nat} (h : tnV j = 0) : j = 0 := by
  cases j with
  | zero => rfl
  | succ j => have := tn_pos (j := j); rw [tnV] at h; omega
theorem tnV_d {i : Nat} (h : i ≤ 9) : nI (tnV (i + 1)) / nI 10 = nI (tnV i) := by
  have := tn_le h
  rw [tnV, pk_div (by omega) (by decide) (by decide)]
  cases i with
  | zero => rfl
  | succ i => rw [tnV, Nat.pow_succ, Nat.mul_div_cancel _ (by decide)]
theorem nI_nz {a : Nat} (h0 : 0 < a) (h : a < 2 ^ 31) : nI a ≠ 0 := by
  intro z
  have := congrArg Int32.toInt z
  rw [nI_toInt h] at this
  have e : (0 : Int32).toInt = 0 := by decide
  omega
/-- behind a tip: the branches that are done are closed; where it goes on, and the line -/
def nxF (pr : Nat → Option Nat) (n ro : Nat) : Nat → Nat → (Nat → Int32) → Nat → Option Nat × (Nat → Int32) × Nat
  | 0, _, f, k => (none, f, k)
  | d + 1, w, f, k => if w = ro then (none, f, k) else match pr w with
    | none => (none, f, k)
    | some p => match chF pr p n (n - (w + 1)) with
      | some b => (some b, upd f k (nI 44), k + 1)
      | none => nxF pr n ro d p (upd f k (nI 41)) (k + 1)
theorem nxF_root {pr : Nat → Option Nat} {n ro d k : Nat} {f : Nat → Int32} : nxF pr n ro d ro f k = (none, f, k) := by
  cases d with
  | zero => rfl
  | succ d => rw [nxF, if_pos rfl]
theorem nxF_some {pr : Nat → Option Nat} {n ro d k w p b : Nat} {f : Nat → Int32} (h : w ≠ ro) (hp : pr w = some p) (hc : chF pr p n (n - (w + 1)) = some b) : nxF pr n ro (d + 1) w f k = (some b, upd f k (nI 44), k + 1) := by
  rw [nxF, if_neg h, hp]; dsimp only; rw [hc]
theorem nxF_none {pr : Nat → Option Nat} {n ro d k w p : Nat} {f : Nat → Int32} (h : w ≠ ro) (hp : pr w = some p) (hc : chF pr p n (n - (w + 1)) = none) : nxF pr n ro (d + 1) w f k = nxF pr n ro d p (upd f k (nI 41)) (k + 1) := by
  rw [nxF, if_neg h, hp]; dsimp only; rw [hc]
theorem anc_up {pr : Nat → Option Nat} {n k r : Nat} (h : ParOk pr n) (hk : k < n) (hr : k ≠ r) (ha : anc pr r k = true) : ∃ p, pr k = some p ∧ anc pr r p = true ∧ p < k := by
  rw [anc_O h hk hr] at ha
  cases hp : pr k with
  | none => rw [hp] at ha; exact absurd ha (by simp [ancO])
  | some p => rw [hp] at ha; exact ⟨p, rfl, ha, h k p hk hp⟩
theorem gT_childFrom : GoodIn gw (wsV RX10 267 RX10 yX10_childFrom (Cond.code yX10_childFrom cX10_childFrom 5 (some .int) :: gw)) := gdV gw_2075 gw_2077 gw_64 gw_81 gw_2078
theorem hd_childFrom : yX10_childFrom.cls = RX10 ∧ yX10_childFrom.cls ≠ "java/lang/invoke/MethodHandle" ∧ yX10_childFrom.cls ≠ "java/lang/invoke/VarHandle" ∧ (parseMethodDescriptor yX10_childFrom.desc).map (fun d => d.parameters.length) = some 2 := ⟨rfl, by decide +kernel, by decide +kernel, by decide +kernel⟩
theorem dX10_childFrom_0 : decode cX10_childFrom 0 = .ok (.iconst (-1), 1) := by decide +kernel
theorem dX10_childFrom_1 : decode cX10_childFrom 1 = .ok (.istore_n 3, 1) := by decide +kernel
theorem dX10_childFrom_2 : decode cX10_childFrom 2 = .ok (.aload_n 0, 1) := by decide +kernel
theorem dX10_childFrom_3 : decode cX10_childFrom 3 = .ok (.getfield 9, 3) := by decide +kernel
theorem dX10_childFrom_6 : decode cX10_childFrom 6 = .ok (.iconst 2, 1) := by decide +kernel
theorem dX10_childFrom_7 : decode cX10_childFrom 7 = .ok (.iaload, 1) := by decide +kernel
theorem dX10_childFrom_8 : decode cX10_childFrom 8 = .ok (.iconst 1, 1) := by decide +kernel
theorem dX10_childFrom_9 : decode cX10_childFrom 9 = .ok (.isub, 1) := by decide +kernel
theorem dX10_childFrom_10 : decode cX10_childFrom 10 = .ok (.istore 4, 2) := by decide +kernel
theorem dX10_childFrom_12 : decode cX10_childFrom 12 = .ok (.iload 4, 2) := by decide +kernel
theorem dX10_childFrom_14 : decode cX10_childFrom 14 = .ok (.iload_n 1, 1) := by decide +kernel
theorem dX10_childFrom_15 : decode cX10_childFrom 15 = .ok (.if_icmp .lt 26, 3) := by decide +kernel
theorem dX10_childFrom_18 : decode cX10_childFrom 18 = .ok (.aload_n 0, 1) := by decide +kernel
theorem dX10_childFrom_19 : decode cX10_childFrom 19 = .ok (.iload 4, 2) := by decide +kernel
theorem dX10_childFrom_21 : decode cX10_childFrom 21 = .ok (.invokevirtual 75, 3) := by decide +kernel
theorem dX10_childFrom_24 : decode cX10_childFrom 24 = .ok (.iload_n 2, 1) := by decide +kernel
theorem dX10_childFrom_25 : decode cX10_childFrom 25 = .ok (.if_icmp .ne 8, 3) := by decide +kernel
theorem dX10_childFrom_28 : decode cX10_childFrom 28 = .ok (.iload 4, 2) := by decide +kernel
theorem dX10_childFrom_30 : decode cX10_childFrom 30 = .ok (.goto 4, 3) := by decide +kernel
theorem dX10_childFrom_33 : decode cX10_childFrom 33 = .ok (.iload_n 3, 1) := by decide +kernel
theorem dX10_childFrom_34 : decode cX10_childFrom 34 = .ok (.istore_n 3, 1) := by decide +kernel
theorem dX10_childFrom_35 : decode cX10_childFrom 35 = .ok (.iinc 4 (-1), 3) := by decide +kernel
theorem dX10_childFrom_38 : decode cX10_childFrom 38 = .ok (.goto (-26), 3) := by decide +kernel
theorem dX10_childFrom_41 : decode cX10_childFrom 41 = .ok (.iload_n 3, 1) := by decide +kernel
theorem dX10_childFrom_42 : decode cX10_childFrom 42 = .ok (.ireturn, 1) := by decide +kernel
set_option maxHeartbeats 1000000 in
set_option maxRecDepth 20000 in
theorem m_childFrom (l : Launch) (D : va_G) (aT : Nat → ClassId) (ad : Nat → Nat) (S : MSt) (n : Nat) (idn : Nat → Nat) (pr : Nat → Option Nat) (tn : Nat → Nat) (hF : FoR (S 0) n idn pr tn) (fr pa : Nat) (hfr : fr ≤ n) (hp12 : pa < n) : MdG l yX10_childFrom cX10_childFrom 5 .int 3 65 D aT ad [.ref (ad 0), .int (nI fr), .int (nI pa)] S (fun q => q = oi (chF pr pa n (n - fr))) := by
  refine MdI.of (by decide +kernel) rfl (Nat.le_of_ble_eq_true rfl) ?_
  intro p e s m below meth c A ls C hml hl hA hr hlocks hW
  have hl : lv_has ls 5 [(0, .ref (ad 0)), (1, .int (nI fr)), (2, .int (nI pa))] := hl
  have hx := C.1
  have hb := C.2.1
  refine lv_iconst (v := (-1)) hx hb dX10_childFrom_0 (by decide) ?_
  refine lv_istore_n (lv' := [(3, .int (-1)), (0, .ref (ad 0)), (1, .int (nI fr)), (2, .int (nI pa))]) hx hb dX10_childFrom_1 rfl hl (by decide) rfl (fun ls hl => ?_)
  refine lv_aload_n hx hb dX10_childFrom_2 rfl (lv_at hl 1 rfl) ?_
  refine md_geta_m C hW dX10_childFrom_3 ?_
  refine lv_iconst (v := nI 2) hx hb dX10_childFrom_6 (by decide) ?_
  refine md_ald_m C hW (i := 2) (by omega) dX10_childFrom_7 ?_
  refine r_eq (y := (nI n)) (hF.1) ?_
  refine lv_iconst (v := nI 1) hx hb dX10_childFrom_8 (by decide) ?_
  refine lv_isub hx hb dX10_childFrom_9 ?_
  refine r_eq (y := (nI n + -1)) ((by rw [Int32.sub_eq_add_neg]; rfl)) ?_
  refine lv_istore (lv' := [(4, .int (nI n + -1)), (3, .int (-1)), (0, .ref (ad 0)), (1, .int (nI fr)), (2, .int (nI pa))]) hx hb dX10_childFrom_10 hl (by decide) rfl (fun ls hl => ?_)
  refine W_loopH (σ := Option Nat × Nat) (fun z_ => z_.2) (fun z_ H locs g => ∃ ls, g = F0 m 12 ls [] ∧ lv_has ls 5 [(0, .ref (ad 0)), (1, .int (nI fr)), (2, .int (nI pa)), (3, .int (oi z_.1)), (4, .int (nI z_.2 + -1))] ∧ MdB D aT ad S A s.heap H locs ∧ (z_.1 = chF pr pa n (n - z_.2) ∧ fr ≤ z_.2 ∧ z_.2 ≤ n)) ?_ (none, n) _ ⟨_, rfl, lv_sub hl [2, 3, 4, 1, 0] rfl, hW, ⟨by rw [Nat.sub_self]; rfl, hfr, Nat.le_refl _⟩⟩
  clear hW hl
  rintro ⟨o, x⟩ H locs g ⟨ls, rfl, hl, hW, hi, hfx, hxn⟩ ih_12
  dsimp only at hl hW hi hfx hxn ⊢
  refine lv_iload hx hb dX10_childFrom_12 (lv_at hl 4 rfl) ?_
  refine lv_iload_n hx hb dX10_childFrom_14 rfl (lv_at hl 1 rfl) ?_
  refine lv_icmp_lt hx hb (x := (nI x + -1)) (y := (nI fr)) (tgt := 41) dX10_childFrom_15 (by decide) (fun c_15 => ?_) (fun c_15 => ?_)
  · have hxf := pd_le (by have := hF.2.1; omega) (by have := hF.2.1; omega) c_15
    refine lv_iload_n hx hb dX10_childFrom_41 rfl (lv_at hl 3 rfl) ?_
    exact md_iret C hr hlocks rfl hW (⟨by rw [hi, show x = fr by omega], rfl⟩) dX10_childFrom_42
  · have hxf := pd_gt (by have := hF.2.1; omega) (by have := hF.2.1; omega) c_15
    have hl : lv_has ls 5 [(0, .ref (ad 0)), (1, .int (nI fr)), (2, .int (nI pa)), (3, .int (oi o)), (4, .int (nI (x - 1)))] := by rw [pd_eq (by omega)] at hl; exact hl
    refine lv_aload_n hx hb dX10_childFrom_18 rfl (lv_at hl 0 rfl) ?_
    refine lv_iload hx hb dX10_childFrom_19 (lv_at hl 4 rfl) ?_
    refine md_callg C hml hl.1 (As := [.int (nI (x - 1))]) (rest := []) (m_above l D aT ad S n idn pr tn hF (x - 1) (by omega)) gT_above hd_above rfl ⟨Nat.le_of_ble_eq_true rfl, Nat.le_of_ble_eq_true rfl⟩ ⟨Nat.le_refl _, Nat.le_refl _⟩ hW hA rfl (Nat.le_of_ble_eq_true rfl) dX10_childFrom_21 (fun r_21 H locs hq hW => ?_)
    subst hq
    refine lv_iload_n hx hb dX10_childFrom_24 rfl (lv_at hl 2 rfl) ?_
    refine r_on_ne hx hb (o := (pr (x - 1))) (q := pa) (hF.plim (by omega)) (by have := hF.2.1; omega) (tgt := 33) dX10_childFrom_25 (by decide) (fun c_25 => ?_) (fun c_25 => ?_)
    · refine lv_iload_n hx hb dX10_childFrom_33 rfl (lv_at hl 3 rfl) ?_
      refine lv_istore_n (lv' := [(3, .int (oi o)), (0, .ref (ad 0)), (1, .int (nI fr)), (2, .int (nI pa)), (4, .int (nI (x - 1)))]) hx hb dX10_childFrom_34 rfl hl (by decide) rfl (fun ls hl => ?_)
      refine lv_iinc (v := ((nI (x - 1)) + -1)) (lv' := [(4, .int ((nI (x - 1)) + -1)), (3, .int (oi o)), (0, .ref (ad 0)), (1, .int (nI fr)), (2, .int (nI pa))]) hx hb dX10_childFrom_35 hl (k := 4) rfl rfl (by decide) rfl (fun ls hl => ?_)
      refine lv_goto (tgt := 12) hx hb dX10_childFrom_38 (by decide) ?_
      exact ih_12 (o, (x - 1)) _ _ _ (by dsimp only; omega) ⟨_, rfl, lv_sub hl [2, 3, 4, 1, 0] rfl, hW, ⟨by rw [show n - (x - 1) = n - x + 1 by omega, chF, show n - (n - x + 1) = x - 1 by omega, if_neg c_25]; exact hi, by omega, by omega⟩⟩
    · refine lv_iload hx hb dX10_childFrom_28 (lv_at hl 4 rfl) ?_
      refine lv_goto (tgt := 34) hx hb dX10_childFrom_30 (by decide) ?_
      refine lv_istore_n (lv' := [(3, .int (nI (x - 1))), (0, .ref (ad 0)), (1, .int (nI fr)), (2, .int (nI pa)), (4, .int (nI (x - 1)))]) hx hb dX10_childFrom_34 rfl hl (by decide) rfl (fun ls hl => ?_)
      refine lv_iinc (v := ((nI (x - 1)) + -1)) (lv' := [(4, .int ((nI (x - 1)) + -1)), (3, .int (nI (x - 1))), (0, .ref (ad 0)), (1, .int (nI fr)), (2, .int (nI pa))]) hx hb dX10_childFrom_35 hl (k := 4) rfl rfl (by decide) rfl (fun ls hl => ?_)
      refine lv_goto (tgt := 12) hx hb dX10_childFrom_38 (by decide) ?_
      exact ih_12 ((some (x - 1)), (x - 1)) _ _ _ (by dsimp only; omega) ⟨_, rfl, lv_sub hl [2, 3, 4, 1, 0] rfl, hW, ⟨by rw [show n - (x - 1) = n - x + 1 by omega, chF, show n - (n - x + 1) = x - 1 by omega, if_pos c_25], by omega, by omega⟩⟩
theorem gT_sign : GoodIn gw (wsV RX10 261 RX10 yX10_sign (Cond.code yX10_sign cX10_sign 2 (none) :: gw)) := gdV gw_2071 gw_2073 gw_63 gw_81 gw_2074
theorem hd_sign : yX10_sign.cls = RX10 ∧ yX10_sign.cls ≠ "java/lang/invoke/MethodHandle" ∧ yX10_sign.cls ≠ "java/lang/invoke/VarHandle" ∧ (parseMethodDescriptor yX10_sign.desc).map (fun d => d.parameters.length) = some 1 := ⟨rfl, by decide +kernel, by decide +kernel, by decide +kernel⟩
theorem dX10_sign_0 : decode cX10_sign 0 = .ok (.aload_n 0, 1) := by decide +kernel
theorem dX10_sign_1 : decode cX10_sign 1 = .ok (.getfield 54, 3) := by decide +kernel
theorem dX10_sign_4 : decode cX10_sign 4 = .ok (.aload_n 0, 1) := by decide +kernel
theorem dX10_sign_5 : decode cX10_sign 5 = .ok (.getfield 258, 3) := by decide +kernel
theorem dX10_sign_8 : decode cX10_sign 8 = .ok (.iload_n 1, 1) := by decide +kernel
theorem dX10_sign_9 : decode cX10_sign 9 = .ok (.iastore, 1) := by decide +kernel
theorem dX10_sign_10 : decode cX10_sign 10 = .ok (.aload_n 0, 1) := by decide +kernel
theorem dX10_sign_11 : decode cX10_sign 11 = .ok (.dup, 1) := by decide +kernel
theorem dX10_sign_12 : decode cX10_sign 12 = .ok (.getfield 258, 3) := by decide +kernel
theorem dX10_sign_15 : decode cX10_sign 15 = .ok (.iconst 1, 1) := by decide +kernel
theorem dX10_sign_16 : decode cX10_sign 16 = .ok (.iadd, 1) := by decide +kernel
theorem dX10_sign_17 : decode cX10_sign 17 = .ok (.putfield 258, 3) := by decide +kernel
theorem dX10_sign_20 : decode cX10_sign 20 = .ok (.return_, 1) := by decide +kernel
set_option maxHeartbeats 1000000 in
set_option maxRecDepth 20000 in
theorem m_sign (l : Launch) (D : va_G) (aT : Nat → ClassId) (ad : Nat → Nat) (S : MSt) (f : Nat → Int32) (k : Nat) (hk4 : k < 400) (c0 : Int32) : MdV l yX10_sign cX10_sign 2 0 0 D aT ad [.ref (ad 0), .int c0] (lnS S f k) (fun S1 => S1 = lnS S (upd f k c0) (k + 1)) := by
  refine MdV.of (by decide +kernel) rfl (Nat.le_of_ble_eq_true rfl) ?_
  intro p e s m below meth c A ls C hml hl hA hr hlocks hW
  have hl : lv_has ls 2 [(0, .ref (ad 0)), (1, .int c0)] := hl
  have hx := C.1
  have hb := C.2.1
  refine lv_aload_n hx hb dX10_sign_0 rfl (lv_at hl 0 rfl) ?_
  refine md_geta_line C hW dX10_sign_1 ?_
  refine lv_aload_n hx hb dX10_sign_4 rfl (lv_at hl 0 rfl) ?_
  refine md_get_lineMany C hW dX10_sign_5 ?_
  refine r_eq (y := (nI k)) (rfl) ?_
  refine lv_iload_n hx hb dX10_sign_8 rfl (lv_at hl 1 rfl) ?_
  refine md_ast_line C hW (i := k) (by omega) dX10_sign_9 (fun H locs hW => ?_)
  have hW : MdB D aT ad (sr (lnS S f k) 12 (upd ((lnS S f k) 12) k (c0))) A s.heap H locs := hW
  refine lv_aload_n hx hb dX10_sign_10 rfl (lv_at hl 0 rfl) ?_
  refine lv_dup hx hb dX10_sign_11 rfl ?_
  refine md_get_lineMany C hW dX10_sign_12 ?_
  refine r_eq (y := (nI k)) (rfl) ?_
  refine lv_iconst (v := nI 1) hx hb dX10_sign_15 (by decide) ?_
  refine r_iaddN hx hb (a := k) (b := 1) dX10_sign_16 ?_
  refine md_put_lineMany C hW dX10_sign_17 (fun H locs hW => ?_)
  have hW : MdB D aT ad (lnS S (upd f k c0) (k + 1)) A s.heap H locs := (congrArg (fun T1 => MdB D aT ad T1 A s.heap H locs) (lnS_i (S := S) (f := f) (g := upd f k c0) (k := k) (j := k + 1))).mp hW
  exact md_vret C hr hlocks hW (rfl) dX10_sign_20
theorem gT_writesWhole : GoodIn gw (wsV RX10 264 RX10 yX10_writesWhole (Cond.code yX10_writesWhole cX10_writesWhole 3 (none) :: gw)) := gdV gw_2067 gw_2069 gw_62 gw_81 gw_2070
theorem hd_writesWhole : yX10_writesWhole.cls = RX10 ∧ yX10_writesWhole.cls ≠ "java/lang/invoke/MethodHandle" ∧ yX10_writesWhole.cls ≠ "java/lang/invoke/VarHandle" ∧ (parseMethodDescriptor yX10_writesWhole.desc).map (fun d => d.parameters.length) = some 1 := ⟨rfl, by decide +kernel, by decide +kernel, by decide +kernel⟩
theorem dX10_writesWhole_0 : decode cX10_writesWhole 0 = .ok (.iconst 1, 1) := by decide +kernel
theorem dX10_writesWhole_1 : decode cX10_writesWhole 1 = .ok (.istore_n 2, 1) := by decide +kernel
theorem dX10_writesWhole_2 : decode cX10_writesWhole 2 = .ok (.iload_n 1, 1) := by decide +kernel
theorem dX10_writesWhole_3 : decode cX10_writesWhole 3 = .ok (.iload_n 2, 1) := by decide +kernel
theorem dX10_writesWhole_4 : decode cX10_writesWhole 4 = .ok (.idiv, 1) := by decide +kernel
theorem dX10_writesWhole_5 : decode cX10_writesWhole 5 = .ok (.bipush 9, 2) := by decide +kernel
theorem dX10_writesWhole_7 : decode cX10_writesWhole 7 = .ok (.if_icmp .le 11, 3) := by decide +kernel
theorem dX10_writesWhole_10 : decode cX10_writesWhole 10 = .ok (.iload_n 2, 1) := by decide +kernel
theorem dX10_writesWhole_11 : decode cX10_writesWhole 11 = .ok (.bipush 10, 2) := by decide +kernel
theorem dX10_writesWhole_13 : decode cX10_writesWhole 13 = .ok (.imul, 1) := by decide +kernel
theorem dX10_writesWhole_14 : decode cX10_writesWhole 14 = .ok (.istore_n 2, 1) := by decide +kernel
theorem dX10_writesWhole_15 : decode cX10_writesWhole 15 = .ok (.goto (-13), 3) := by decide +kernel
theorem dX10_writesWhole_18 : decode cX10_writesWhole 18 = .ok (.iload_n 2, 1) := by decide +kernel
theorem dX10_writesWhole_19 : decode cX10_writesWhole 19 = .ok (.ifCond .le 24, 3) := by decide +kernel
theorem dX10_writesWhole_22 : decode cX10_writesWhole 22 = .ok (.aload_n 0, 1) := by decide +kernel
theorem dX10_writesWhole_23 : decode cX10_writesWhole 23 = .ok (.bipush 48, 2) := by decide +kernel
theorem dX10_writesWhole_25 : decode cX10_writesWhole 25 = .ok (.iload_n 1, 1) := by decide +kernel
theorem dX10_writesWhole_26 : decode cX10_writesWhole 26 = .ok (.iload_n 2, 1) := by decide +kernel
theorem dX10_writesWhole_27 : decode cX10_writesWhole 27 = .ok (.idiv, 1) := by decide +kernel
theorem dX10_writesWhole_28 : decode cX10_writesWhole 28 = .ok (.bipush 10, 2) := by decide +kernel
theorem dX10_writesWhole_30 : decode cX10_writesWhole 30 = .ok (.irem, 1) := by decide +kernel
theorem dX10_writesWhole_31 : decode cX10_writesWhole 31 = .ok (.iadd, 1) := by decide +kernel
theorem dX10_writesWhole_32 : decode cX10_writesWhole 32 = .ok (.invokevirtual 261, 3) := by decide +kernel
theorem dX10_writesWhole_35 : decode cX10_writesWhole 35 = .ok (.iload_n 2, 1) := by decide +kernel
theorem dX10_writesWhole_36 : decode cX10_writesWhole 36 = .ok (.bipush 10, 2) := by decide +kernel
theorem dX10_writesWhole_38 : decode cX10_writesWhole 38 = .ok (.idiv, 1) := by decide +kernel
theorem dX10_writesWhole_39 : decode cX10_writesWhole 39 = .ok (.istore_n 2, 1) := by decide +kernel
theorem dX10_writesWhole_40 : decode cX10_writesWhole 40 = .ok (.goto (-22), 3) := by decide +kernel
theorem dX10_writesWhole_43 : decode cX10_writesWhole 43 = .ok (.return_, 1) := by decide +kernel
set_option maxHeartbeats 1000000 in
set_option maxRecDepth 20000 in
theorem m_writesWhole (l : Launch) (D : va_G) (aT : Nat → ClassId) (ad : Nat → Nat) (S : MSt) (f0 : Nat → Int32) (k0 : Nat) (hk4 : k0 + 10 ≤ 400) (v : Int32) : MdV l yX10_writesWhole cX10_writesWhole 3 1 21 D aT ad [.ref (ad 0), .int v] (lnS S f0 k0) (fun S1 => S1 = lnS S (whF v f0 k0).1 (whF v f0 k0).2) := by
  refine MdV.of (by decide +kernel) rfl (Nat.le_of_ble_eq_true rfl) ?_
  intro p e s m below meth c A ls C hml hl hA hr hlocks hW
  have hl : lv_has ls 3 [(0, .ref (ad 0)), (1, .int v)] := hl
  have hx := C.1
  have hb := C.2.1
  refine lv_iconst (v := nI 1) hx hb dX10_writesWhole_0 (by decide) ?_
  refine lv_istore_n (lv' := [(2, .int (nI 1)), (0, .ref (ad 0)), (1, .int v)]) hx hb dX10_writesWhole_1 rfl hl (by decide) rfl (fun ls hl => ?_)
  refine W_loopH (σ := Nat) (fun z_ => 9 - z_) (fun z_ H locs g => ∃ ls, g = F0 m 2 ls [] ∧ lv_has ls 3 [(0, .ref (ad 0)), (1, .int v), (2, .int (nI (10 ^ z_)))] ∧ MdB D aT ad (lnS S f0 k0) A s.heap H locs ∧ (tnJ v (9 - z_) z_ = tnJ v 9 0 ∧ z_ ≤ 9)) ?_ 0 _ ⟨_, rfl, lv_sub hl [1, 2, 0] rfl, hW, ⟨rfl, Nat.zero_le _⟩⟩
  clear hW hl
  rintro j H locs g ⟨ls, rfl, hl, hW, hi, hj⟩ ih_2
  refine lv_iload_n hx hb dX10_writesWhole_2 rfl (lv_at hl 1 rfl) ?_
  refine lv_iload_n hx hb dX10_writesWhole_3 rfl (lv_at hl 2 rfl) ?_
  refine lv_idiv hx hb dX10_writesWhole_4 (nI_nz tn_pos (by have := tn_le hj; omega)) ?_
  refine lv_bipush (v := nI 9) hx hb dX10_writesWhole_5 (by decide) ?_
  refine lv_icmp_le hx hb (x := (v / (nI (10 ^ j)))) (y := (nI 9)) (tgt := 18) dX10_writesWhole_7 (by decide) (fun c_7 => ?_) (fun c_7 => ?_)
  · refine W_loopH (σ := Nat × (Nat → Int32) × Nat) (fun z_ => z_.1) (fun z_ H locs g => ∃ ls, g = F0 m 18 ls [] ∧ lv_has ls 3 [(0, .ref (ad 0)), (1, .int v), (2, .int (nI (tnV z_.1)))] ∧ MdB D aT ad (lnS S z_.2.1 z_.2.2) A s.heap H locs ∧ (wlF v z_.1 z_.2.1 z_.2.2 = whF v f0 k0 ∧ z_.2.2 + z_.1 ≤ 400 ∧ z_.1 ≤ 10)) ?_ ((j + 1), f0, k0) _ ⟨_, rfl, lv_sub hl [0, 1, 2] rfl, hW, ⟨by rw [whF, ← hi, tnJ_stop (Int32.not_lt.mpr c_7)], by dsimp only; omega, by dsimp only; omega⟩⟩
    clear hW hl
    rintro ⟨jj, f, k⟩ H locs g ⟨ls, rfl, hl, hW, hw, hk, hjj⟩ ih_18
    dsimp only at hl hW hw hk hjj ⊢
    refine lv_iload_n hx hb dX10_writesWhole_18 rfl (lv_at hl 2 rfl) ?_
    refine r_ifleN hx hb (a := (tnV jj)) (by have := tnV_le hjj; omega) (tgt := 43) dX10_writesWhole_19 (by decide) (fun c_19 => ?_) (fun c_19 => ?_)
    · have hj0 := tnV_0 c_19
      subst hj0
      exact md_vret C hr hlocks hW (by rw [← hw]; rfl) dX10_writesWhole_43
    · obtain ⟨i, rfl⟩ : ∃ i, jj = i + 1 := ⟨jj - 1, by rcases Nat.eq_zero_or_pos jj with z | z; subst z; exact absurd c_19 (by decide); omega⟩
      refine lv_aload_n hx hb dX10_writesWhole_22 rfl (lv_at hl 0 rfl) ?_
      refine lv_bipush (v := nI 48) hx hb dX10_writesWhole_23 (by decide) ?_
      refine lv_iload_n hx hb dX10_writesWhole_25 rfl (lv_at hl 1 rfl) ?_
      refine lv_iload_n hx hb dX10_writesWhole_26 rfl (lv_at hl 2 rfl) ?_
      refine lv_idiv hx hb dX10_writesWhole_27 (nI_nz tn_pos (by have := tn_le (j := i) (by omega); rw [tnV]; omega)) ?_
      refine lv_bipush (v := nI 10) hx hb dX10_writesWhole_28 (by decide) ?_
      refine lv_irem hx hb dX10_writesWhole_30 (by decide) ?_
      refine lv_iadd hx hb dX10_writesWhole_31 ?_
      refine md_callv C hml hl.1 (As := [.int ((nI 48) + ((v / (nI (tnV (i + 1)))) - (v / (nI (tnV (i + 1)))) / (nI 10) * (nI 10)))]) (rest := []) (m_sign l D aT ad S f k (by omega) ((nI 48) + ((v / (nI (tnV (i + 1)))) - (v / (nI (tnV (i + 1)))) / (nI 10) * (nI 10)))) gT_sign hd_sign rfl ⟨Nat.le_of_ble_eq_true rfl, Nat.le_of_ble_eq_true rfl⟩ ⟨Nat.le_refl _, Nat.le_refl _⟩ hW hA rfl (Nat.le_of_ble_eq_true rfl) dX10_writesWhole_32 (fun S_32 H locs hq hW => ?_)
      subst hq
      refine lv_iload_n hx hb dX10_writesWhole_35 rfl (lv_at hl 2 rfl) ?_
      refine lv_bipush (v := nI 10) hx hb dX10_writesWhole_36 (by decide) ?_
      refine lv_idiv hx hb dX10_writesWhole_38 (by decide) ?_
      refine r_eq (y := (nI (tnV i))) (tnV_d (by omega)) ?_
      refine lv_istore_n (lv' := [(2, .int (nI (tnV i))), (0, .ref (ad 0)), (1, .int v)]) hx hb dX10_writesWhole_39 rfl hl (by decide) rfl (fun ls hl => ?_)
      refine lv_goto (tgt := 18) hx hb dX10_writesWhole_40 (by decide) ?_
      exact ih_18 (i, (upd f k ((nI 48) + ((v / (nI (tnV (i + 1)))) - (v / (nI (tnV (i + 1)))) / (nI 10) * (nI 10)))), (k + 1)) _ _ _ (by dsimp only; omega) ⟨_, rfl, lv_sub hl [1, 2, 0] rfl, hW, ⟨by rw [← hw, wlF]; rfl, by dsimp only; omega, by dsimp only; omega⟩⟩
  · refine lv_iload_n hx hb dX10_writesWhole_10 rfl (lv_at hl 2 rfl) ?_
    refine lv_bipush (v := nI 10) hx hb dX10_writesWhole_11 (by decide) ?_
    refine r_imulN hx hb (a := 10 ^ j) (b := 10) dX10_writesWhole_13 ?_
    refine lv_istore_n (lv' := [(2, .int (nI ((10 ^ j) * 10))), (0, .ref (ad 0)), (1, .int v)]) hx hb dX10_writesWhole_14 rfl hl (by decide) rfl (fun ls hl => ?_)
    refine lv_goto (tgt := 2) hx hb dX10_writesWhole_15 (by decide) ?_
    exact ih_2 (j + 1) _ _ _ (by have := (tnJ_go hj (Int32.not_le.mp c_7)).1; omega) ⟨_, rfl, lv_sub hl [1, 2, 0] rfl, hW, ⟨by rw [← (tnJ_go hj (Int32.not_le.mp c_7)).2]; exact hi, by have := (tnJ_go hj (Int32.not_le.mp c_7)).1; omega⟩⟩
theorem gT_next : GoodIn gw (wsV RX10 270 RX10 yX10_next (Cond.code yX10_next cX10_next 5 (some .int) :: gw)) := gdV gw_2079 gw_2081 gw_65 gw_81 gw_2082
theorem hd_next : yX10_next.cls = RX10 ∧ yX10_next.cls ≠ "java/lang/invoke/MethodHandle" ∧ yX10_next.cls ≠ "java/lang/invoke/VarHandle" ∧ (parseMethodDescriptor yX10_next.desc).map (fun d => d.parameters.length) = some 2 := ⟨rfl, by decide +kernel, by decide +kernel, by decide +kernel⟩
theorem dX10_next_0 : decode cX10_next 0 = .ok (.iload_n 1, 1) := by decide +kernel
theorem dX10_next_1 : decode cX10_next 1 = .ok (.istore_n 3, 1) := by decide +kernel
theorem dX10_next_2 : decode cX10_next 2 = .ok (.iload_n 3, 1) := by decide +kernel
theorem dX10_next_3 : decode cX10_next 3 = .ok (.iload_n 2, 1) := by decide +kernel
theorem dX10_next_4 : decode cX10_next 4 = .ok (.if_icmp .eq 47, 3) := by decide +kernel
theorem dX10_next_7 : decode cX10_next 7 = .ok (.aload_n 0, 1) := by decide +kernel
theorem dX10_next_8 : decode cX10_next 8 = .ok (.iload_n 3, 1) := by decide +kernel
theorem dX10_next_9 : decode cX10_next 9 = .ok (.iconst 1, 1) := by decide +kernel
theorem dX10_next_10 : decode cX10_next 10 = .ok (.iadd, 1) := by decide +kernel
theorem dX10_next_11 : decode cX10_next 11 = .ok (.aload_n 0, 1) := by decide +kernel
theorem dX10_next_12 : decode cX10_next 12 = .ok (.iload_n 3, 1) := by decide +kernel
theorem dX10_next_13 : decode cX10_next 13 = .ok (.invokevirtual 75, 3) := by decide +kernel
theorem dX10_next_16 : decode cX10_next 16 = .ok (.invokevirtual 267, 3) := by decide +kernel
theorem dX10_next_19 : decode cX10_next 19 = .ok (.istore 4, 2) := by decide +kernel
theorem dX10_next_21 : decode cX10_next 21 = .ok (.iload 4, 2) := by decide +kernel
theorem dX10_next_23 : decode cX10_next 23 = .ok (.iconst (-1), 1) := by decide +kernel
theorem dX10_next_24 : decode cX10_next 24 = .ok (.if_icmp .eq 12, 3) := by decide +kernel
theorem dX10_next_27 : decode cX10_next 27 = .ok (.aload_n 0, 1) := by decide +kernel
theorem dX10_next_28 : decode cX10_next 28 = .ok (.bipush 44, 2) := by decide +kernel
theorem dX10_next_30 : decode cX10_next 30 = .ok (.invokevirtual 261, 3) := by decide +kernel
theorem dX10_next_33 : decode cX10_next 33 = .ok (.iload 4, 2) := by decide +kernel
theorem dX10_next_35 : decode cX10_next 35 = .ok (.ireturn, 1) := by decide +kernel
theorem dX10_next_36 : decode cX10_next 36 = .ok (.aload_n 0, 1) := by decide +kernel
theorem dX10_next_37 : decode cX10_next 37 = .ok (.bipush 41, 2) := by decide +kernel
theorem dX10_next_39 : decode cX10_next 39 = .ok (.invokevirtual 261, 3) := by decide +kernel
theorem dX10_next_42 : decode cX10_next 42 = .ok (.aload_n 0, 1) := by decide +kernel
theorem dX10_next_43 : decode cX10_next 43 = .ok (.iload_n 3, 1) := by decide +kernel
theorem dX10_next_44 : decode cX10_next 44 = .ok (.invokevirtual 75, 3) := by decide +kernel
theorem dX10_next_47 : decode cX10_next 47 = .ok (.istore_n 3, 1) := by decide +kernel
theorem dX10_next_48 : decode cX10_next 48 = .ok (.goto (-46), 3) := by decide +kernel
theorem dX10_next_51 : decode cX10_next 51 = .ok (.iconst (-1), 1) := by decide +kernel
theorem dX10_next_52 : decode cX10_next 52 = .ok (.ireturn, 1) := by decide +kernel
set_option maxHeartbeats 1000000 in
set_option maxRecDepth 20000 in
theorem m_next (l : Launch) (D : va_G) (aT : Nat → ClassId) (ad : Nat → Nat) (S : MSt) (n : Nat) (idn : Nat → Nat) (pr : Nat → Option Nat) (tn : Nat → Nat) (hF : FoR (S 0) n idn pr tn) (t ro : Nat) (htn12 : t < n) (hro12 : ro < n) (hanc0 : anc pr ro t = true) (f0 : Nat → Int32) (k0 : Nat) (hk4 : k0 + n ≤ 400) : MdI l yX10_next cX10_next 5 .int 4 89 D aT ad [.ref (ad 0), .int (nI t), .int (nI ro)] (lnS S f0 k0) (fun r S1 => r = oi (nxF pr n ro n t f0 k0).1 ∧ S1 = lnS S (nxF pr n ro n t f0 k0).2.1 (nxF pr n ro n t f0 k0).2.2) := by
  refine MdI.of (by decide +kernel) rfl (Nat.le_of_ble_eq_true rfl) ?_
  intro p e s m below meth c A ls C hml hl hA hr hlocks hW
  have hl : lv_has ls 5 [(0, .ref (ad 0)), (1, .int (nI t)), (2, .int (nI ro))] := hl
  have hx := C.1
  have hb := C.2.1
  refine lv_iload_n hx hb dX10_next_0 rfl (lv_at hl 1 rfl) ?_
  refine lv_istore_n (lv' := [(3, .int (nI t)), (0, .ref (ad 0)), (1, .int (nI t)), (2, .int (nI ro))]) hx hb dX10_next_1 rfl hl (by decide) rfl (fun ls hl => ?_)
  refine W_loopH (σ := Nat × (Nat → Int32) × Nat × Nat) (fun z_ => z_.1) (fun z_ H locs g => ∃ ls, g = F0 m 2 ls [] ∧ lv_has ls 5 [(0, .ref (ad 0)), (1, .int (nI t)), (2, .int (nI ro)), (3, .int (nI z_.1))] ∧ MdB D aT ad (lnS S z_.2.1 z_.2.2.1) A s.heap H locs ∧ (nxF pr n ro z_.2.2.2 z_.1 z_.2.1 z_.2.2.1 = (nxF pr n ro n t f0 k0) ∧ anc pr ro z_.1 = true ∧ z_.1 < n ∧ z_.1 < z_.2.2.2 ∧ z_.2.2.1 + z_.1 < 400)) ?_ (t, f0, k0, n) _ ⟨_, rfl, lv_sub hl [1, 2, 3, 0] rfl, hW, ⟨rfl, hanc0, htn12, htn12, by dsimp only; omega⟩⟩
  clear hW hl
  rintro ⟨w, f, k, d⟩ H locs g ⟨ls, rfl, hl, hW, hR, hanc, hwn, hwd, hk⟩ ih_2
  dsimp only at hl hW hR hanc hwn hwd hk ⊢
  refine lv_iload_n hx hb dX10_next_2 rfl (lv_at hl 3 rfl) ?_
  refine lv_iload_n hx hb dX10_next_3 rfl (lv_at hl 2 rfl) ?_
  refine r_eqN hx hb (a := w) (b := ro) (by have := hF.2.1; omega) (by have := hF.2.1; omega) (tgt := 51) dX10_next_4 (by decide) (fun c_4 => ?_) (fun c_4 => ?_)
  · refine lv_iconst (v := (-1)) hx hb dX10_next_51 (by decide) ?_
    exact md_iret C hr hlocks rfl hW (by subst c_4; rw [← hR, nxF_root]; exact ⟨rfl, rfl⟩) dX10_next_52
  · obtain ⟨pa, hpa, hpanc, hpw⟩ := anc_up hF.ok hwn c_4 hanc
    have hn12 := hF.2.1
    refine lv_aload_n hx hb dX10_next_7 rfl (lv_at hl 0 rfl) ?_
    refine lv_iload_n hx hb dX10_next_8 rfl (lv_at hl 3 rfl) ?_
    refine lv_iconst (v := nI 1) hx hb dX10_next_9 (by decide) ?_
    refine r_iaddN hx hb (a := w) (b := 1) dX10_next_10 ?_
    refine lv_aload_n hx hb dX10_next_11 rfl (lv_at hl 0 rfl) ?_
    refine lv_iload_n hx hb dX10_next_12 rfl (lv_at hl 3 rfl) ?_
    refine md_callg C hml hl.1 (As := [.int (nI w)]) (rest := [.int (nI (w + 1)), .ref (ad 0)]) (m_above l D aT ad (lnS S f k) n idn pr tn hF w (by omega)) gT_above hd_above rfl ⟨Nat.le_of_ble_eq_true rfl, Nat.le_of_ble_eq_true rfl⟩ ⟨Nat.le_refl _, Nat.le_refl _⟩ hW hA rfl (Nat.le_of_ble_eq_true rfl) dX10_next_13 (fun r_13 H locs hq hW => ?_)
    have hq := hq.trans (congrArg oi hpa)
    subst hq
    refine md_callg C hml hl.1 (As := [.int (nI (w + 1)), .int (nI pa)]) (rest := []) (m_childFrom l D aT ad (lnS S f k) n idn pr tn hF (w + 1) pa (by omega) (by omega)) gT_childFrom hd_childFrom rfl ⟨Nat.le_of_ble_eq_true rfl, Nat.le_of_ble_eq_true rfl⟩ ⟨Nat.le_refl _, Nat.le_refl _⟩ hW hA rfl (Nat.le_of_ble_eq_true rfl) dX10_next_16 (fun r_16 H locs hq hW => ?_)
    subst hq
    refine lv_istore (lv' := [(4, .int (oi (chF pr pa n (n - (w + 1))))), (0, .ref (ad 0)), (1, .int (nI t)), (2, .int (nI ro)), (3, .int (nI w))]) hx hb dX10_next_19 hl (by decide) rfl (fun ls hl => ?_)
    refine lv_iload hx hb dX10_next_21 (lv_at hl 0 rfl) ?_
    refine lv_iconst (v := (-1)) hx hb dX10_next_23 (by decide) ?_
    refine r_oi_eq hx hb (o := (chF pr pa n (n - (w + 1)))) (by intro q hq; have := chF_lt (by omega) hq; omega) (tgt := 36) dX10_next_24 (by decide) (fun c_24 => ?_) (fun j_24 c_24 => ?_)
    · have hl : lv_has ls 5 [(4, .int (-1)), (0, .ref (ad 0)), (1, .int (nI t)), (2, .int (nI ro)), (3, .int (nI w))] := by rw [c_24] at hl; exact hl
      refine lv_aload_n hx hb dX10_next_36 rfl (lv_at hl 1 rfl) ?_
      refine lv_bipush (v := nI 41) hx hb dX10_next_37 (by decide) ?_
      refine md_callv C hml hl.1 (As := [.int (nI 41)]) (rest := []) (m_sign l D aT ad S f k (by omega) (nI 41)) gT_sign hd_sign rfl ⟨Nat.le_of_ble_eq_true rfl, Nat.le_of_ble_eq_true rfl⟩ ⟨Nat.le_refl _, Nat.le_refl _⟩ hW hA rfl (Nat.le_of_ble_eq_true rfl) dX10_next_39 (fun S_39 H locs hq hW => ?_)
      subst hq
      refine lv_aload_n hx hb dX10_next_42 rfl (lv_at hl 1 rfl) ?_
      refine lv_iload_n hx hb dX10_next_43 rfl (lv_at hl 4 rfl) ?_
      refine md_callg C hml hl.1 (As := [.int (nI w)]) (rest := []) (m_above l D aT ad (lnS S (upd f k (nI 41)) (k + 1)) n idn pr tn hF w (by omega)) gT_above hd_above rfl ⟨Nat.le_of_ble_eq_true rfl, Nat.le_of_ble_eq_true rfl⟩ ⟨Nat.le_refl _, Nat.le_refl _⟩ hW hA rfl (Nat.le_of_ble_eq_true rfl) dX10_next_44 (fun r_44 H locs hq hW => ?_)
      have hq := hq.trans (congrArg oi hpa)
      subst hq
      refine lv_istore_n (lv' := [(3, .int (nI pa)), (4, .int (-1)), (0, .ref (ad 0)), (1, .int (nI t)), (2, .int (nI ro))]) hx hb dX10_next_47 rfl hl (by decide) rfl (fun ls hl => ?_)
      refine lv_goto (tgt := 2) hx hb dX10_next_48 (by decide) ?_
      exact ih_2 (pa, (upd f k (nI 41)), (k + 1), (d - 1)) _ _ _ (by dsimp only; omega) ⟨_, rfl, lv_sub hl [2, 3, 4, 0] rfl, hW, ⟨by rw [← hR, show d = d - 1 + 1 by omega, nxF_none c_4 hpa c_24]; rfl, hpanc, by dsimp only; omega, by dsimp only; omega, by dsimp only; omega⟩⟩
    · have hl : lv_has ls 5 [(4, .int (nI j_24)), (0, .ref (ad 0)), (1, .int (nI t)), (2, .int (nI ro)), (3, .int (nI w))] := by rw [c_24] at hl; exact hl
      refine lv_aload_n hx hb dX10_next_27 rfl (lv_at hl 1 rfl) ?_
      refine lv_bipush (v := nI 44) hx hb dX10_next_28 (by decide) ?_
      refine md_callv C hml hl.1 (As := [.int (nI 44)]) (rest := []) (m_sign l D aT ad S f k (by omega) (nI 44)) gT_sign hd_sign rfl ⟨Nat.le_of_ble_eq_true rfl, Nat.le_of_ble_eq_true rfl⟩ ⟨Nat.le_refl _, Nat.le_refl _⟩ hW hA rfl (Nat.le_of_ble_eq_true rfl) dX10_next_30 (fun S_30 H locs hq hW => ?_)
      subst hq
      refine lv_iload hx hb dX10_next_33 (lv_at hl 0 rfl) ?_
      exact md_iret C hr hlocks rfl hW (by rw [← hR, show d = d - 1 + 1 by omega, nxF_some c_4 hpa c_24]; exact ⟨rfl, rfl⟩) dX10_next_35
end
section
/-- a place's rank in the order in which a branch is written -/
def kyf (pr : Nat → Option Nat) : Nat → Nat → Nat
  | 0, _ => 0
  | f + 1, k => (match pr k with
    | none => 0
    | some p => kyf pr f p) + (k + 1) * 13 ^ (11 - dep pr k)
def kyR (pr : Nat → Option Nat) (k : Nat) : Nat := kyf pr (k + 1) k
theorem kyf_eq {pr : Nat → Option Nat} {n : Nat} (h : ParOk pr n) : ∀ f g k, k < n → k < f → k < g → kyf pr f k = kyf pr g k := by
  intro f
  induction f with
  | zero => intro g k _ h0; omega
  | succ f ih =>
    intro g k hk hf hg
    cases g with
    | zero => omega
    | succ g =>
      rw [kyf, kyf]
      cases hp : pr k with
      | none => rfl
      | some p =>
        have hpk := h k p hk hp
        dsimp only
        rw [ih g p (by omega) (by omega) (by omega)]
theorem kyR_some {pr : Nat → Option Nat} {n k p : Nat} (h : ParOk pr n) (hk : k < n) (hp : pr k = some p) : kyR pr k = kyR pr p + (k + 1) * 13 ^ (11 - dep pr k) := by
  have hpk := h k p hk hp
  rw [kyR, kyf, hp]
  dsimp only
  rw [kyf_eq h k (p + 1) p (by omega) (by omega) (by omega)]
  rfl
theorem p13 {e : Nat} : 0 < 13 ^ e := Nat.pow_pos (by decide)
theorem kyR_child {pr : Nat → Option Nat} {n k p : Nat} (h : ParOk pr n) (hk : k < n) (hp : pr k = some p) : kyR pr p < kyR pr k := by
  rw [kyR_some h hk hp]
  have : 0 < (k + 1) * 13 ^ (11 - dep pr k) := Nat.mul_pos (Nat.succ_pos k) p13
  omega
theorem anc_dn {pr : Nat → Option Nat} {n k r p : Nat} (h : ParOk pr n) (hk : k < n) (hp : pr k = some p) (ha : anc pr r p = true) : anc pr r k = true := by
  by_cases e : k = r
  · subst e; exact anc_self _ _
  · rw [anc_O h hk e, hp]; exact ha
theorem kyR_next {pr : Nat → Option Nat} {n ro w0 : Nat} (h : ParOk pr n) (h12 : n ≤ 12) : ∀ (d v : Nat) (f : Nat → Int32) (k : Nat), v < n → anc pr ro v = true → kyR pr w0 < kyR pr v + 13 ^ (11 - dep pr v) →
    (nxF pr n ro d v f k).2.2 ≤ k + dep pr v + 1 ∧ ∀ b, (nxF pr n ro d v f k).1 = some b → kyR pr w0 < kyR pr b ∧ b < n ∧ anc pr ro b = true ∧ (nxF pr n ro d v f k).2.2 + dep pr b ≤ k + dep pr v + 1 := by
  intro d
  induction d with
  | zero => intro v f k _ _ _; exact ⟨by rw [nxF]; dsimp only; omega, fun b hb => by rw [nxF] at hb; cases hb⟩
  | succ d ih =>
    intro v f k hv ha hk
    by_cases e : v = ro
    · subst e
      rw [nxF_root]
      exact ⟨by dsimp only; omega, fun b hb => by cases hb⟩
    · obtain ⟨p, hp, hap, hpv⟩ := anc_up h hv e ha
      have hd := dep_some h hv hp
      have hdl := dep_le h v hv
      have hks := kyR_some h hv hp
      cases hc : chF pr p n (n - (v + 1)) with
      | some b =>
        rw [nxF_some e hp hc]
        have hb := chF_lt (by omega) hc
        have hkb := kyR_some h hb.1 hb.2.2
        have hdb := dep_some h hb.1 hb.2.2
        refine ⟨by dsimp only; omega, fun b' hb' => ?_⟩
        obtain rfl := Option.some.inj hb'
        refine ⟨?_, hb.1, anc_dn h hb.1 hb.2.2 hap, by dsimp only; omega⟩
        rw [hkb, show dep pr b = dep pr v by omega]
        have h2 : (v + 1) * 13 ^ (11 - dep pr v) + 13 ^ (11 - dep pr v) ≤ (b + 1) * 13 ^ (11 - dep pr v) := by
          rw [← Nat.succ_mul]
          exact Nat.mul_le_mul_right _ (by omega)
        omega
      | none =>
        rw [nxF_none e hp hc]
        have h2 : (v + 1) * 13 ^ (11 - dep pr v) + 13 ^ (11 - dep pr v) ≤ 13 ^ (11 - dep pr p) := by
          rw [← Nat.succ_mul, show 11 - dep pr p = (11 - dep pr v) + 1 by omega, Nat.pow_succ, Nat.mul_comm]
          exact Nat.mul_le_mul_left _ (by omega)
        have z := ih p (upd f k (nI 41)) (k + 1) (by omega) hap (by omega)
        exact ⟨by have := z.1; omega, fun b hb => by have y := z.2 b hb; exact ⟨y.1, y.2.1, y.2.2.1, by have := y.2.2.2; omega⟩⟩
def cnA (q : Nat → Bool) : Nat → Nat
  | 0 => 0
  | n + 1 => cnA q n + (if q n = true then 1 else 0)
theorem cnA_n {q : Nat → Bool} : ∀ n, cnA q n ≤ n
  | 0 => Nat.le_refl _
  | n + 1 => by have := cnA_n (q := q) n; rw [cnA]; split <;> omega
theorem cnA_le {q q' : Nat → Bool} (h : ∀ j, q' j = true → q j = true) : ∀ n, cnA q' n ≤ cnA q n
  | 0 => Nat.le_refl _
  | n + 1 => by
    have := cnA_le h n
    rw [cnA, cnA]
    by_cases e : q' n = true
    · rw [if_pos e, if_pos (h n e)]; omega
    · rw [if_neg e]; omega
theorem cnA_lt {q q' : Nat → Bool} {c : Nat} (h : ∀ j, q' j = true → q j = true) (h1 : q c = true) (h2 : q' c = false) : ∀ n, c < n → cnA q' n < cnA q n
  | 0, z => by omega
  | n + 1, z => by
    rw [cnA, cnA]
    by_cases e : c = n
    · subst e
      have := cnA_le h c
      rw [if_pos h1, if_neg (by rw [h2]; decide)]; omega
    · have := cnA_lt h h1 h2 n (by omega)
      by_cases e2 : q' n = true
      · rw [if_pos e2, if_pos (h n e2)]; omega
      · rw [if_neg e2]; omega
/-- how many places come behind one -/
def muB (pr : Nat → Option Nat) (n w : Nat) : Nat := cnA (fun u => decide (kyR pr w < kyR pr u)) n
theorem muB_lt {pr : Nat → Option Nat} {n w c : Nat} (hc : c < n) (h : kyR pr w < kyR pr c) : muB pr n c < muB pr n w :=
  cnA_lt (fun j hj => by have := of_decide_eq_true hj; exact decide_eq_true (by omega)) (decide_eq_true h) (decide_eq_false (by omega)) n hc
/-- a motion written into the line -/
def wm1 (m : Nat → Int32) (w : Nat) (f : Nat → Int32) (k : Nat) : (Nat → Int32) × Nat := whF (m (29 + 4 * w + 0)) f k
def wm2 (m : Nat → Int32) (w : Nat) (f : Nat → Int32) (k : Nat) : (Nat → Int32) × Nat := whF (m (29 + 4 * w + 2)) (upd (wm1 m w f k).1 (wm1 m w f k).2 (nI 58)) ((wm1 m w f k).2 + 1)
def wmF (m : Nat → Int32) (w : Nat) (f : Nat → Int32) (k : Nat) : (Nat → Int32) × Nat := whF (m (29 + 4 * w + 3)) (upd (wm2 m w f k).1 (wm2 m w f k).2 (nI 42)) ((wm2 m w f k).2 + 1)
theorem whF_1 {t : Nat} (h : t < 10) {f : Nat → Int32} {k : Nat} : (whF (nI t) f k).2 = k + 1 := by
  rw [whF, wlF_k, tnJ_stop (by rw [show (10 ^ 0 : Nat) = 1 from rfl, pk_div (by omega) (by decide) (by decide), nI_ltI (by decide) (by omega)]; omega)]
/-- a branch written from a place on -/
def brF (m : Nat → Int32) (pr : Nat → Option Nat) (n ro : Nat) : Nat → Option Nat → (Nat → Int32) → Nat → (Nat → Int32) × Nat
  | _, none, f, k => (f, k)
  | 0, some _, f, k => (f, k)
  | d + 1, some w, f, k => match chF pr w n n with
    | some c => brF m pr n ro d (some c) (upd (wmF m w f k).1 (wmF m w f k).2 (nI 40)) ((wmF m w f k).2 + 1)
    | none => brF m pr n ro d (nxF pr n ro n w (wmF m w f k).1 (wmF m w f k).2).1 (nxF pr n ro n w (wmF m w f k).1 (wmF m w f k).2).2.1 (nxF pr n ro n w (wmF m w f k).1 (wmF m w f k).2).2.2
theorem brF_none {m : Nat → Int32} {pr : Nat → Option Nat} {n ro d k : Nat} {f : Nat → Int32} : brF m pr n ro d none f k = (f, k) := by cases d <;> rfl
theorem brF_c {m : Nat → Int32} {pr : Nat → Option Nat} {n ro d k w c : Nat} {f : Nat → Int32} (h : chF pr w n n = some c) : brF m pr n ro (d + 1) (some w) f k = brF m pr n ro d (some c) (upd (wmF m w f k).1 (wmF m w f k).2 (nI 40)) ((wmF m w f k).2 + 1) := by rw [brF, h]
theorem brF_n {m : Nat → Int32} {pr : Nat → Option Nat} {n ro d k w : Nat} {f : Nat → Int32} (h : chF pr w n n = none) : brF m pr n ro (d + 1) (some w) f k = brF m pr n ro d (nxF pr n ro n w (wmF m w f k).1 (wmF m w f k).2).1 (nxF pr n ro n w (wmF m w f k).1 (wmF m w f k).2).2.1 (nxF pr n ro n w (wmF m w f k).1 (wmF m w f k).2).2.2 := by rw [brF, h]
theorem lnS_00 {T : MSt} : ss T 25 (nI 0) = lnS T (T 12) 0 := by rw [lnS, sr_self]
theorem dX10_writeBranch_0 : decode cX10_writeBranch 0 = .ok (.aload_n 0, 1) := by decide +kernel
theorem dX10_writeBranch_1 : decode cX10_writeBranch 1 = .ok (.iconst 0, 1) := by decide +kernel
theorem dX10_writeBranch_2 : decode cX10_writeBranch 2 = .ok (.putfield 57, 3) := by decide +kernel
theorem dX10_writeBranch_5 : decode cX10_writeBranch 5 = .ok (.aload_n 0, 1) := by decide +kernel
theorem dX10_writeBranch_6 : decode cX10_writeBranch 6 = .ok (.iload_n 1, 1) := by decide +kernel
theorem dX10_writeBranch_7 : decode cX10_writeBranch 7 = .ok (.invokevirtual 71, 3) := by decide +kernel
theorem dX10_writeBranch_10 : decode cX10_writeBranch 10 = .ok (.istore_n 2, 1) := by decide +kernel
theorem dX10_writeBranch_11 : decode cX10_writeBranch 11 = .ok (.iload_n 2, 1) := by decide +kernel
theorem dX10_writeBranch_12 : decode cX10_writeBranch 12 = .ok (.iconst (-1), 1) := by decide +kernel
theorem dX10_writeBranch_13 : decode cX10_writeBranch 13 = .ok (.if_icmp .ne 9, 3) := by decide +kernel
theorem dX10_writeBranch_16 : decode cX10_writeBranch 16 = .ok (.aload_n 0, 1) := by decide +kernel
theorem dX10_writeBranch_17 : decode cX10_writeBranch 17 = .ok (.iconst 1, 1) := by decide +kernel
theorem dX10_writeBranch_18 : decode cX10_writeBranch 18 = .ok (.invokevirtual 101, 3) := by decide +kernel
theorem dX10_writeBranch_21 : decode cX10_writeBranch 21 = .ok (.ireturn, 1) := by decide +kernel
theorem dX10_writeBranch_22 : decode cX10_writeBranch 22 = .ok (.aload_n 0, 1) := by decide +kernel
theorem dX10_writeBranch_23 : decode cX10_writeBranch 23 = .ok (.iconst 0, 1) := by decide +kernel
theorem dX10_writeBranch_24 : decode cX10_writeBranch 24 = .ok (.putfield 258, 3) := by decide +kernel
theorem dX10_writeBranch_27 : decode cX10_writeBranch 27 = .ok (.iload_n 2, 1) := by decide +kernel
theorem dX10_writeBranch_28 : decode cX10_writeBranch 28 = .ok (.istore_n 3, 1) := by decide +kernel
theorem dX10_writeBranch_29 : decode cX10_writeBranch 29 = .ok (.iload_n 3, 1) := by decide +kernel
theorem dX10_writeBranch_30 : decode cX10_writeBranch 30 = .ok (.iconst (-1), 1) := by decide +kernel
theorem dX10_writeBranch_31 : decode cX10_writeBranch 31 = .ok (.if_icmp .eq 81, 3) := by decide +kernel
theorem dX10_writeBranch_34 : decode cX10_writeBranch 34 = .ok (.aload_n 0, 1) := by decide +kernel
theorem dX10_writeBranch_35 : decode cX10_writeBranch 35 = .ok (.aload_n 0, 1) := by decide +kernel
theorem dX10_writeBranch_36 : decode cX10_writeBranch 36 = .ok (.iload_n 3, 1) := by decide +kernel
theorem dX10_writeBranch_37 : decode cX10_writeBranch 37 = .ok (.iconst 0, 1) := by decide +kernel
theorem dX10_writeBranch_38 : decode cX10_writeBranch 38 = .ok (.invokevirtual 67, 3) := by decide +kernel
theorem dX10_writeBranch_41 : decode cX10_writeBranch 41 = .ok (.invokevirtual 264, 3) := by decide +kernel
theorem dX10_writeBranch_44 : decode cX10_writeBranch 44 = .ok (.aload_n 0, 1) := by decide +kernel
theorem dX10_writeBranch_45 : decode cX10_writeBranch 45 = .ok (.bipush 58, 2) := by decide +kernel
theorem dX10_writeBranch_47 : decode cX10_writeBranch 47 = .ok (.invokevirtual 261, 3) := by decide +kernel
theorem dX10_writeBranch_50 : decode cX10_writeBranch 50 = .ok (.aload_n 0, 1) := by decide +kernel
theorem dX10_writeBranch_51 : decode cX10_writeBranch 51 = .ok (.aload_n 0, 1) := by decide +kernel
theorem dX10_writeBranch_52 : decode cX10_writeBranch 52 = .ok (.iload_n 3, 1) := by decide +kernel
theorem dX10_writeBranch_53 : decode cX10_writeBranch 53 = .ok (.iconst 2, 1) := by decide +kernel
theorem dX10_writeBranch_54 : decode cX10_writeBranch 54 = .ok (.invokevirtual 67, 3) := by decide +kernel
theorem dX10_writeBranch_57 : decode cX10_writeBranch 57 = .ok (.invokevirtual 264, 3) := by decide +kernel
theorem dX10_writeBranch_60 : decode cX10_writeBranch 60 = .ok (.aload_n 0, 1) := by decide +kernel
theorem dX10_writeBranch_61 : decode cX10_writeBranch 61 = .ok (.bipush 42, 2) := by decide +kernel
theorem dX10_writeBranch_63 : decode cX10_writeBranch 63 = .ok (.invokevirtual 261, 3) := by decide +kernel
theorem dX10_writeBranch_66 : decode cX10_writeBranch 66 = .ok (.aload_n 0, 1) := by decide +kernel
theorem dX10_writeBranch_67 : decode cX10_writeBranch 67 = .ok (.aload_n 0, 1) := by decide +kernel
theorem dX10_writeBranch_68 : decode cX10_writeBranch 68 = .ok (.iload_n 3, 1) := by decide +kernel
theorem dX10_writeBranch_69 : decode cX10_writeBranch 69 = .ok (.iconst 3, 1) := by decide +kernel
theorem dX10_writeBranch_70 : decode cX10_writeBranch 70 = .ok (.invokevirtual 67, 3) := by decide +kernel
theorem dX10_writeBranch_73 : decode cX10_writeBranch 73 = .ok (.invokevirtual 264, 3) := by decide +kernel
theorem dX10_writeBranch_76 : decode cX10_writeBranch 76 = .ok (.aload_n 0, 1) := by decide +kernel
theorem dX10_writeBranch_77 : decode cX10_writeBranch 77 = .ok (.iconst 0, 1) := by decide +kernel
theorem dX10_writeBranch_78 : decode cX10_writeBranch 78 = .ok (.iload_n 3, 1) := by decide +kernel
theorem dX10_writeBranch_79 : decode cX10_writeBranch 79 = .ok (.invokevirtual 267, 3) := by decide +kernel
theorem dX10_writeBranch_82 : decode cX10_writeBranch 82 = .ok (.istore 4, 2) := by decide +kernel
theorem dX10_writeBranch_84 : decode cX10_writeBranch 84 = .ok (.iload 4, 2) := by decide +kernel
theorem dX10_writeBranch_86 : decode cX10_writeBranch 86 = .ok (.iconst (-1), 1) := by decide +kernel
theorem dX10_writeBranch_87 : decode cX10_writeBranch 87 = .ok (.if_icmp .eq 15, 3) := by decide +kernel
theorem dX10_writeBranch_90 : decode cX10_writeBranch 90 = .ok (.aload_n 0, 1) := by decide +kernel
theorem dX10_writeBranch_91 : decode cX10_writeBranch 91 = .ok (.bipush 40, 2) := by decide +kernel
theorem dX10_writeBranch_93 : decode cX10_writeBranch 93 = .ok (.invokevirtual 261, 3) := by decide +kernel
theorem dX10_writeBranch_96 : decode cX10_writeBranch 96 = .ok (.iload 4, 2) := by decide +kernel
theorem dX10_writeBranch_98 : decode cX10_writeBranch 98 = .ok (.istore_n 3, 1) := by decide +kernel
theorem dX10_writeBranch_99 : decode cX10_writeBranch 99 = .ok (.goto 10, 3) := by decide +kernel
theorem dX10_writeBranch_102 : decode cX10_writeBranch 102 = .ok (.aload_n 0, 1) := by decide +kernel
theorem dX10_writeBranch_103 : decode cX10_writeBranch 103 = .ok (.iload_n 3, 1) := by decide +kernel
theorem dX10_writeBranch_104 : decode cX10_writeBranch 104 = .ok (.iload_n 2, 1) := by decide +kernel
theorem dX10_writeBranch_105 : decode cX10_writeBranch 105 = .ok (.invokevirtual 270, 3) := by decide +kernel
theorem dX10_writeBranch_108 : decode cX10_writeBranch 108 = .ok (.istore_n 3, 1) := by decide +kernel
theorem dX10_writeBranch_109 : decode cX10_writeBranch 109 = .ok (.goto (-80), 3) := by decide +kernel
theorem dX10_writeBranch_112 : decode cX10_writeBranch 112 = .ok (.aload_n 0, 1) := by decide +kernel
theorem dX10_writeBranch_113 : decode cX10_writeBranch 113 = .ok (.getfield 258, 3) := by decide +kernel
theorem dX10_writeBranch_116 : decode cX10_writeBranch 116 = .ok (.ireturn, 1) := by decide +kernel
set_option maxHeartbeats 4000000 in
set_option maxRecDepth 20000 in
theorem m_writeBranch (l : Launch) (D : va_G) (aT : Nat → ClassId) (ad : Nat → Nat) (S : MSt) (x : Int32) (hF : FoW (S 0)) : MdI l yX10_writeBranch cX10_writeBranch 5 .int 5 113 D aT ad [.ref (ad 0), .int x] S (fun r S1 => (fnd (fun k => S 0 (29 + 4 * k)) x (nM (S 0)) = none ∧ r = -1 ∧ S1 = ss S 8 (nI 1)) ∨ (∃ q, fnd (fun k => S 0 (29 + 4 * k)) x (nM (S 0)) = some q ∧ r = nI (brF (S 0) (prM (S 0)) (nM (S 0)) q 13 (some q) (S 12) 0).2 ∧ (brF (S 0) (prM (S 0)) (nM (S 0)) q 13 (some q) (S 12) 0).2 ≤ 400 ∧ S1 = lnS (ss S 8 (nI 0)) (brF (S 0) (prM (S 0)) (nM (S 0)) q 13 (some q) (S 12) 0).1 (brF (S 0) (prM (S 0)) (nM (S 0)) q 13 (some q) (S 12) 0).2)) := by
  refine MdI.of (by decide +kernel) rfl (Nat.le_of_ble_eq_true rfl) ?_
  intro p e s m below meth c A ls C hml hl hA hr hlocks hW
  have hl : lv_has ls 5 [(0, .ref (ad 0)), (1, .int x)] := hl
  have hx := C.1
  have hb := C.2.1
  refine lv_aload_n hx hb dX10_writeBranch_0 rfl (lv_at hl 0 rfl) ?_
  refine lv_iconst (v := nI 0) hx hb dX10_writeBranch_1 (by decide) ?_
  refine md_put_thrown C hW dX10_writeBranch_2 (fun H locs hW => ?_)
  have hW : MdB D aT ad (ss S 8 (nI 0)) A s.heap H locs := hW
  refine lv_aload_n hx hb dX10_writeBranch_5 rfl (lv_at hl 0 rfl) ?_
  refine lv_iload_n hx hb dX10_writeBranch_6 rfl (lv_at hl 1 rfl) ?_
  refine md_callg C hml hl.1 (As := [.int x]) (rest := []) (m_find l D aT ad (ss S 8 (nI 0)) (x) (nM (S 0)) hF.1 hF.2.1) gT_find hd_find rfl ⟨Nat.le_of_ble_eq_true rfl, Nat.le_of_ble_eq_true rfl⟩ ⟨Nat.le_refl _, Nat.le_refl _⟩ hW hA rfl (Nat.le_of_ble_eq_true rfl) dX10_writeBranch_7 (fun r_7 H locs hq hW => ?_)
  subst hq
  refine lv_istore_n (lv' := [(2, .int (oi (fnd (fun k => (ss S 8 (nI 0)) 0 (29 + 4 * k)) (x) (nM (S 0))))), (0, .ref (ad 0)), (1, .int x)]) hx hb dX10_writeBranch_10 rfl hl (by decide) rfl (fun ls hl => ?_)
  refine lv_iload_n hx hb dX10_writeBranch_11 rfl (lv_at hl 0 rfl) ?_
  refine lv_iconst (v := (-1)) hx hb dX10_writeBranch_12 (by decide) ?_
  refine r_oi_ne hx hb (o := (fnd (fun k => (ss S 8 (nI 0)) 0 (29 + 4 * k)) (x) (nM (S 0)))) (fun j hj => by have := (fnd_some hj).1; have := hF.n12; omega) (tgt := 22) dX10_writeBranch_13 (by decide) (fun j_13 c_13 => ?_) (fun c_13 => ?_)
  · have hl : lv_has ls 5 [(2, .int (nI j_13)), (0, .ref (ad 0)), (1, .int x)] := by rw [c_13] at hl; exact hl
    have hq0 := (fnd_some c_13).1
    have h12 := hF.n12
    refine lv_aload_n hx hb dX10_writeBranch_22 rfl (lv_at hl 1 rfl) ?_
    refine lv_iconst (v := nI 0) hx hb dX10_writeBranch_23 (by decide) ?_
    refine md_put_lineMany C hW dX10_writeBranch_24 (fun H locs hW => ?_)
    have hW : MdB D aT ad (lnS (ss S 8 (nI 0)) (S 12) 0) A s.heap H locs := (congrArg (fun T1 => MdB D aT ad T1 A s.heap H locs) (lnS_00 (T := (ss S 8 (nI 0))))).mp hW
    refine lv_iload_n hx hb dX10_writeBranch_27 rfl (lv_at hl 0 rfl) ?_
    refine lv_istore_n (lv' := [(3, .int (nI j_13)), (2, .int (nI j_13)), (0, .ref (ad 0)), (1, .int x)]) hx hb dX10_writeBranch_28 rfl hl (by decide) rfl (fun ls hl => ?_)
    refine W_loopH (σ := Option Nat × (Nat → Int32) × Nat × Nat) (fun z_ => z_.2.2.2) (fun z_ H locs g => ∃ ls, g = F0 m 29 ls [] ∧ lv_has ls 5 [(0, .ref (ad 0)), (2, .int (nI j_13)), (3, .int (oi z_.1))] ∧ MdB D aT ad (lnS (ss S 8 (nI 0)) z_.2.1 z_.2.2.1) A s.heap H locs ∧ (brF (S 0) (prM (S 0)) (nM (S 0)) j_13 z_.2.2.2 z_.1 z_.2.1 z_.2.2.1 = (brF (S 0) (prM (S 0)) (nM (S 0)) j_13 13 (some j_13) (S 12) 0) ∧ z_.2.2.1 ≤ 400 ∧ ∀ w, z_.1 = some w → w < (nM (S 0)) ∧ anc (prM (S 0)) j_13 w = true ∧ z_.2.2.1 + 25 * (muB (prM (S 0)) (nM (S 0)) w + 1) + dep (prM (S 0)) w ≤ 380 ∧ muB (prM (S 0)) (nM (S 0)) w < z_.2.2.2)) ?_ ((some j_13), (S 12), 0, 13) _ ⟨_, rfl, lv_sub hl [2, 1, 0] rfl, hW, ⟨rfl, Nat.zero_le _, fun w hw => by obtain rfl := Option.some.inj hw; have := dep_le hF.ok _ hq0; have : muB (prM (S 0)) (nM (S 0)) j_13 ≤ (nM (S 0)) := cnA_n _; exact ⟨hq0, anc_self _ _, by dsimp only; omega, by dsimp only; omega⟩⟩⟩
    clear hW hl
    rintro ⟨o, f, k, d⟩ H locs g ⟨ls, rfl, hl, hW, hR, hk4, hw⟩ ih_29
    dsimp only at hl hW hR hk4 hw ⊢
    refine lv_iload_n hx hb dX10_writeBranch_29 rfl (lv_at hl 2 rfl) ?_
    refine lv_iconst (v := (-1)) hx hb dX10_writeBranch_30 (by decide) ?_
    refine r_oi_eq hx hb (o := o) (fun j hj => by have := (hw j hj).1; have := hF.n12; omega) (tgt := 112) dX10_writeBranch_31 (by decide) (fun c_31 => ?_) (fun j_31 c_31 => ?_)
    · subst c_31
      have hl : lv_has ls 5 [(0, .ref (ad 0)), (2, .int (nI j_13)), (3, .int (-1))] := hl
      refine lv_aload_n hx hb dX10_writeBranch_112 rfl (lv_at hl 0 rfl) ?_
      refine md_get_lineMany C hW dX10_writeBranch_113 ?_
      refine r_eq (y := (nI k)) (rfl) ?_
      exact md_iret C hr hlocks rfl hW (Or.inr ⟨j_13, c_13, by rw [← hR, brF_none], by rw [← hR, brF_none]; exact hk4, by rw [← hR, brF_none]⟩) dX10_writeBranch_116
    · subst c_31
      have hl : lv_has ls 5 [(0, .ref (ad 0)), (2, .int (nI j_13)), (3, .int (nI j_31))] := hl
      obtain ⟨hwn, hwa, hkb, hmd⟩ := hw j_31 rfl
      have b1 : (wm1 (S 0) j_31 f k).2 ≤ k + 10 := whF_k.1
      have ht := hF.2.2.2.2.2.2 j_31 hwn
      have b2 : (wm2 (S 0) j_31 f k).2 = (wm1 (S 0) j_31 f k).2 + 1 + 1 := by rw [wm2, ht.1]; exact whF_1 (by omega)
      have b3 : (wmF (S 0) j_31 f k).2 ≤ (wm2 (S 0) j_31 f k).2 + 1 + 10 := whF_k.1
      refine lv_aload_n hx hb dX10_writeBranch_34 rfl (lv_at hl 0 rfl) ?_
      refine lv_aload_n hx hb dX10_writeBranch_35 rfl (lv_at hl 0 rfl) ?_
      refine lv_iload_n hx hb dX10_writeBranch_36 rfl (lv_at hl 2 rfl) ?_
      refine lv_iconst (v := nI 0) hx hb dX10_writeBranch_37 (by decide) ?_
      refine md_callg C hml hl.1 (As := [.int (nI j_31), .int (nI 0)]) (rest := [.ref (ad 0)]) (m_of l D aT ad (lnS (ss S 8 (nI 0)) f k) j_31 0 (by omega)) gT_of hd_of rfl ⟨Nat.le_of_ble_eq_true rfl, Nat.le_of_ble_eq_true rfl⟩ ⟨Nat.le_refl _, Nat.le_refl _⟩ hW hA rfl (Nat.le_of_ble_eq_true rfl) dX10_writeBranch_38 (fun r_38 H locs hq hW => ?_)
      subst hq
      refine md_callv C hml hl.1 (As := [.int (S 0 (29 + 4 * j_31 + 0))]) (rest := []) (m_writesWhole l D aT ad (ss S 8 (nI 0)) f k (by omega) (S 0 (29 + 4 * j_31 + 0))) gT_writesWhole hd_writesWhole rfl ⟨Nat.le_of_ble_eq_true rfl, Nat.le_of_ble_eq_true rfl⟩ ⟨Nat.le_refl _, Nat.le_refl _⟩ hW hA rfl (Nat.le_of_ble_eq_true rfl) dX10_writeBranch_41 (fun S_41 H locs hq hW => ?_)
      subst hq
      refine lv_aload_n hx hb dX10_writeBranch_44 rfl (lv_at hl 0 rfl) ?_
      refine lv_bipush (v := nI 58) hx hb dX10_writeBranch_45 (by decide) ?_
      refine md_callv C hml hl.1 (As := [.int (nI 58)]) (rest := []) (m_sign l D aT ad (ss S 8 (nI 0)) ((wm1 (S 0) j_31 f k).1) ((wm1 (S 0) j_31 f k).2) (by omega) (nI 58)) gT_sign hd_sign rfl ⟨Nat.le_of_ble_eq_true rfl, Nat.le_of_ble_eq_true rfl⟩ ⟨Nat.le_refl _, Nat.le_refl _⟩ hW hA rfl (Nat.le_of_ble_eq_true rfl) dX10_writeBranch_47 (fun S_47 H locs hq hW => ?_)
      subst hq
      refine lv_aload_n hx hb dX10_writeBranch_50 rfl (lv_at hl 0 rfl) ?_
      refine lv_aload_n hx hb dX10_writeBranch_51 rfl (lv_at hl 0 rfl) ?_
      refine lv_iload_n hx hb dX10_writeBranch_52 rfl (lv_at hl 2 rfl) ?_
      refine lv_iconst (v := nI 2) hx hb dX10_writeBranch_53 (by decide) ?_
      refine md_callg C hml hl.1 (As := [.int (nI j_31), .int (nI 2)]) (rest := [.ref (ad 0)]) (m_of l D aT ad (lnS (ss S 8 (nI 0)) (upd ((wm1 (S 0) j_31 f k).1) ((wm1 (S 0) j_31 f k).2) (nI 58)) ((wm1 (S 0) j_31 f k).2 + 1)) j_31 2 (by omega)) gT_of hd_of rfl ⟨Nat.le_of_ble_eq_true rfl, Nat.le_of_ble_eq_true rfl⟩ ⟨Nat.le_refl _, Nat.le_refl _⟩ hW hA rfl (Nat.le_of_ble_eq_true rfl) dX10_writeBranch_54 (fun r_54 H locs hq hW => ?_)
      subst hq
      refine md_callv C hml hl.1 (As := [.int (S 0 (29 + 4 * j_31 + 2))]) (rest := []) (m_writesWhole l D aT ad (ss S 8 (nI 0)) (upd ((wm1 (S 0) j_31 f k).1) ((wm1 (S 0) j_31 f k).2) (nI 58)) ((wm1 (S 0) j_31 f k).2 + 1) (by omega) (S 0 (29 + 4 * j_31 + 2))) gT_writesWhole hd_writesWhole rfl ⟨Nat.le_of_ble_eq_true rfl, Nat.le_of_ble_eq_true rfl⟩ ⟨Nat.le_refl _, Nat.le_refl _⟩ hW hA rfl (Nat.le_of_ble_eq_true rfl) dX10_writeBranch_57 (fun S_57 H locs hq hW => ?_)
      subst hq
      refine lv_aload_n hx hb dX10_writeBranch_60 rfl (lv_at hl 0 rfl) ?_
      refine lv_bipush (v := nI 42) hx hb dX10_writeBranch_61 (by decide) ?_
      refine md_callv C hml hl.1 (As := [.int (nI 42)]) (rest := []) (m_sign l D aT ad (ss S 8 (nI 0)) ((wm2 (S 0) j_31 f k).1) ((wm2 (S 0) j_31 f k).2) (by omega) (nI 42)) gT_sign hd_sign rfl ⟨Nat.le_of_ble_eq_true rfl, Nat.le_of_ble_eq_true rfl⟩ ⟨Nat.le_refl _, Nat.le_refl _⟩ hW hA rfl (Nat.le_of_ble_eq_true rfl) dX10_writeBranch_63 (fun S_63 H locs hq hW => ?_)
      subst hq
      refine lv_aload_n hx hb dX10_writeBranch_66 rfl (lv_at hl 0 rfl) ?_
      refine lv_aload_n hx hb dX10_writeBranch_67 rfl (lv_at hl 0 rfl) ?_
      refine lv_iload_n hx hb dX10_writeBranch_68 rfl (lv_at hl 2 rfl) ?_
      refine lv_iconst (v := nI 3) hx hb dX10_writeBranch_69 (by decide) ?_
      refine md_callg C hml hl.1 (As := [.int (nI j_31), .int (nI 3)]) (rest := [.ref (ad 0)]) (m_of l D aT ad (lnS (ss S 8 (nI 0)) (upd ((wm2 (S 0) j_31 f k).1) ((wm2 (S 0) j_31 f k).2) (nI 42)) ((wm2 (S 0) j_31 f k).2 + 1)) j_31 3 (by omega)) gT_of hd_of rfl ⟨Nat.le_of_ble_eq_true rfl, Nat.le_of_ble_eq_true rfl⟩ ⟨Nat.le_refl _, Nat.le_refl _⟩ hW hA rfl (Nat.le_of_ble_eq_true rfl) dX10_writeBranch_70 (fun r_70 H locs hq hW => ?_)
      subst hq
      refine md_callv C hml hl.1 (As := [.int (S 0 (29 + 4 * j_31 + 3))]) (rest := []) (m_writesWhole l D aT ad (ss S 8 (nI 0)) (upd ((wm2 (S 0) j_31 f k).1) ((wm2 (S 0) j_31 f k).2) (nI 42)) ((wm2 (S 0) j_31 f k).2 + 1) (by omega) (S 0 (29 + 4 * j_31 + 3))) gT_writesWhole hd_writesWhole rfl ⟨Nat.le_of_ble_eq_true rfl, Nat.le_of_ble_eq_true rfl⟩ ⟨Nat.le_refl _, Nat.le_refl _⟩ hW hA rfl (Nat.le_of_ble_eq_true rfl) dX10_writeBranch_73 (fun S_73 H locs hq hW => ?_)
      subst hq
      refine lv_aload_n hx hb dX10_writeBranch_76 rfl (lv_at hl 0 rfl) ?_
      refine lv_iconst (v := nI 0) hx hb dX10_writeBranch_77 (by decide) ?_
      refine lv_iload_n hx hb dX10_writeBranch_78 rfl (lv_at hl 2 rfl) ?_
      refine md_callg C hml hl.1 (As := [.int (nI 0), .int (nI j_31)]) (rest := []) (m_childFrom l D aT ad (lnS (ss S 8 (nI 0)) (wmF (S 0) j_31 f k).1 (wmF (S 0) j_31 f k).2) (nM (S 0)) (idM (S 0)) (prM (S 0)) (tnM (S 0)) hF 0 j_31 (Nat.zero_le _) hwn) gT_childFrom hd_childFrom rfl ⟨Nat.le_of_ble_eq_true rfl, Nat.le_of_ble_eq_true rfl⟩ ⟨Nat.le_refl _, Nat.le_refl _⟩ hW hA rfl (Nat.le_of_ble_eq_true rfl) dX10_writeBranch_79 (fun r_79 H locs hq hW => ?_)
      subst hq
      refine lv_istore (lv' := [(4, .int (oi (chF (prM (S 0)) j_31 (nM (S 0)) (nM (S 0))))), (0, .ref (ad 0)), (2, .int (nI j_13)), (3, .int (nI j_31))]) hx hb dX10_writeBranch_82 hl (by decide) rfl (fun ls hl => ?_)
      refine lv_iload hx hb dX10_writeBranch_84 (lv_at hl 0 rfl) ?_
      refine lv_iconst (v := (-1)) hx hb dX10_writeBranch_86 (by decide) ?_
      refine r_oi_eq hx hb (o := (chF (prM (S 0)) j_31 (nM (S 0)) (nM (S 0)))) (by intro q hq; have := chF_lt (Nat.le_refl _) hq; omega) (tgt := 102) dX10_writeBranch_87 (by decide) (fun c_87 => ?_) (fun j_87 c_87 => ?_)
      · have hl : lv_has ls 5 [(4, .int (-1)), (0, .ref (ad 0)), (2, .int (nI j_13)), (3, .int (nI j_31))] := by rw [c_87] at hl; exact hl
        have hz := kyR_next (w0 := j_31) hF.ok h12 (nM (S 0)) j_31 (wmF (S 0) j_31 f k).1 (wmF (S 0) j_31 f k).2 hwn hwa (by have := p13 (e := 11 - dep (prM (S 0)) j_31); omega)
        refine lv_aload_n hx hb dX10_writeBranch_102 rfl (lv_at hl 1 rfl) ?_
        refine lv_iload_n hx hb dX10_writeBranch_103 rfl (lv_at hl 3 rfl) ?_
        refine lv_iload_n hx hb dX10_writeBranch_104 rfl (lv_at hl 2 rfl) ?_
        refine md_calli C hml hl.1 (As := [.int (nI j_31), .int (nI j_13)]) (rest := []) (m_next l D aT ad (ss S 8 (nI 0)) (nM (S 0)) (idM (S 0)) (prM (S 0)) (tnM (S 0)) hF j_31 j_13 hwn hq0 hwa (wmF (S 0) j_31 f k).1 (wmF (S 0) j_31 f k).2 (by omega)) gT_next hd_next rfl ⟨Nat.le_of_ble_eq_true rfl, Nat.le_of_ble_eq_true rfl⟩ ⟨Nat.le_refl _, Nat.le_refl _⟩ hW hA rfl (Nat.le_of_ble_eq_true rfl) dX10_writeBranch_105 (fun r_105 S_105 H locs hq hW => ?_)
        obtain ⟨rfl, rfl⟩ := hq
        refine lv_istore_n (lv' := [(3, .int (oi ((nxF (prM (S 0)) (nM (S 0)) j_13 (nM (S 0)) j_31 (wmF (S 0) j_31 f k).1 (wmF (S 0) j_31 f k).2).1))), (4, .int (-1)), (0, .ref (ad 0)), (2, .int (nI j_13))]) hx hb dX10_writeBranch_108 rfl hl (by decide) rfl (fun ls hl => ?_)
        refine lv_goto (tgt := 29) hx hb dX10_writeBranch_109 (by decide) ?_
        exact ih_29 ((nxF (prM (S 0)) (nM (S 0)) j_13 (nM (S 0)) j_31 (wmF (S 0) j_31 f k).1 (wmF (S 0) j_31 f k).2).1, (nxF (prM (S 0)) (nM (S 0)) j_13 (nM (S 0)) j_31 (wmF (S 0) j_31 f k).1 (wmF (S 0) j_31 f k).2).2.1, (nxF (prM (S 0)) (nM (S 0)) j_13 (nM (S 0)) j_31 (wmF (S 0) j_31 f k).1 (wmF (S 0) j_31 f k).2).2.2, (d - 1)) _ _ _ (by dsimp only; omega) ⟨_, rfl, lv_sub hl [2, 3, 0] rfl, hW, ⟨by rw [← hR, show d = d - 1 + 1 by omega, brF_n c_87]; rfl, by have := hz.1; dsimp only; omega, fun w2 hw2 => by have z := hz.2 w2 hw2; have hmu := muB_lt z.2.1 z.1; exact ⟨z.2.1, z.2.2.1, by have := z.2.2.2; dsimp only; omega, by dsimp only; omega⟩⟩⟩
      · have hl : lv_has ls 5 [(4, .int (nI j_87)), (0, .ref (ad 0)), (2, .int (nI j_13)), (3, .int (nI j_31))] := by rw [c_87] at hl; exact hl
        have hc := chF_lt (Nat.le_refl _) c_87
        have hmu := muB_lt hc.1 (kyR_child hF.ok hc.1 hc.2.2)
        have hdp := dep_some hF.ok hc.1 hc.2.2
        refine lv_aload_n hx hb dX10_writeBranch_90 rfl (lv_at hl 1 rfl) ?_
        refine lv_bipush (v := nI 40) hx hb dX10_writeBranch_91 (by decide) ?_
        refine md_callv C hml hl.1 (As := [.int (nI 40)]) (rest := []) (m_sign l D aT ad (ss S 8 (nI 0)) ((wmF (S 0) j_31 f k).1) ((wmF (S 0) j_31 f k).2) (by omega) (nI 40)) gT_sign hd_sign rfl ⟨Nat.le_of_ble_eq_true rfl, Nat.le_of_ble_eq_true rfl⟩ ⟨Nat.le_refl _, Nat.le_refl _⟩ hW hA rfl (Nat.le_of_ble_eq_true rfl) dX10_writeBranch_93 (fun S_93 H locs hq hW => ?_)
        subst hq
        refine lv_iload hx hb dX10_writeBranch_96 (lv_at hl 0 rfl) ?_
        refine lv_istore_n (lv' := [(3, .int (nI j_87)), (4, .int (nI j_87)), (0, .ref (ad 0)), (2, .int (nI j_13))]) hx hb dX10_writeBranch_98 rfl hl (by decide) rfl (fun ls hl => ?_)
        refine lv_goto (tgt := 109) hx hb dX10_writeBranch_99 (by decide) ?_
        refine lv_goto (tgt := 29) hx hb dX10_writeBranch_109 (by decide) ?_
        exact ih_29 ((some j_87), (upd ((wmF (S 0) j_31 f k).1) ((wmF (S 0) j_31 f k).2) (nI 40)), ((wmF (S 0) j_31 f k).2 + 1), (d - 1)) _ _ _ (by dsimp only; omega) ⟨_, rfl, lv_sub hl [2, 3, 0] rfl, hW, ⟨by rw [← hR, show d = d - 1 + 1 by omega, brF_c c_87]; rfl, by dsimp only; omega, fun w2 hw2 => by obtain rfl := Option.some.inj hw2; exact ⟨hc.1, anc_dn hF.ok hc.1 hc.2.2 hwa, by dsimp only; omega, by dsimp only; omega⟩⟩⟩
  · have hl : lv_has ls 5 [(2, .int (-1)), (0, .ref (ad 0)), (1, .int x)] := by rw [c_13] at hl; exact hl
    refine lv_aload_n hx hb dX10_writeBranch_16 rfl (lv_at hl 1 rfl) ?_
    refine lv_iconst (v := nI 1) hx hb dX10_writeBranch_17 (by decide) ?_
    refine md_calli C hml hl.1 (As := [.int (nI 1)]) (rest := []) (m_throwing l D aT ad (ss S 8 (nI 0)) 1) gT_throwing hd_throwing rfl ⟨Nat.le_of_ble_eq_true rfl, Nat.le_of_ble_eq_true rfl⟩ ⟨Nat.le_refl _, Nat.le_refl _⟩ hW hA rfl (Nat.le_of_ble_eq_true rfl) dX10_writeBranch_18 (fun r_18 S_18 H locs hq hW => ?_)
    obtain ⟨rfl, rfl⟩ := hq
    exact md_iret C hr hlocks rfl hW (Or.inl ⟨c_13, rfl, ss_ss _ _ _ _⟩) dX10_writeBranch_21
end
