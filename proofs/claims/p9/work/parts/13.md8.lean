def mAh (m : Nat → Int32) (a b : Nat) : Bool := if m (29 + 4 * a + 3) - m (29 + 4 * b + 3) = 0 then decide (dep (prM m) a < dep (prM m) b ∨ (dep (prM m) a = dep (prM m) b ∧ a < b)) else decide (0 < m (29 + 4 * a + 3) - m (29 + 4 * b + 3))
def cmC (pr : Nat → Option Nat) (a b k : Nat) (o : Option Nat) : Bool := anc pr k a && anc pr k b && (match o with | none => true | some f => decide (dep pr f < dep pr k))
/-- the deepest of the first places whose branch has both a and b -/
def cmF (pr : Nat → Option Nat) (a b : Nat) : Nat → Option Nat
  | 0 => none
  | k + 1 => if cmC pr a b k (cmF pr a b k) then some k else cmF pr a b k
theorem cmF_no1 {pr : Nat → Option Nat} {a b k : Nat} (h : anc pr k a = false) : cmF pr a b (k + 1) = cmF pr a b k := by rw [cmF]; unfold cmC; rw [h]; rfl
theorem cmF_no2 {pr : Nat → Option Nat} {a b k : Nat} (h : anc pr k b = false) : cmF pr a b (k + 1) = cmF pr a b k := by rw [cmF]; unfold cmC; rw [h, Bool.and_false]; rfl
theorem cmF_y0 {pr : Nat → Option Nat} {a b k : Nat} (h1 : anc pr k a = true) (h2 : anc pr k b = true) (h : cmF pr a b k = none) : cmF pr a b (k + 1) = some k := by rw [cmF]; unfold cmC; rw [h1, h2, h]; rfl
theorem cmF_y1 {pr : Nat → Option Nat} {a b k f : Nat} (h1 : anc pr k a = true) (h2 : anc pr k b = true) (h : cmF pr a b k = some f) (h3 : dep pr f < dep pr k) : cmF pr a b (k + 1) = some k := by rw [cmF]; unfold cmC; rw [h1, h2, h]; simp [h3]
theorem cmF_no3 {pr : Nat → Option Nat} {a b k f : Nat} (h : cmF pr a b k = some f) (h3 : dep pr k ≤ dep pr f) : cmF pr a b (k + 1) = cmF pr a b k := by rw [cmF]; unfold cmC; rw [h]; simp [Nat.not_lt.mpr h3]
theorem cmF_at {pr : Nat → Option Nat} {a b : Nat} : ∀ {n k : Nat}, cmF pr a b n = some k → k < n ∧ anc pr k a = true ∧ anc pr k b = true := by
  intro n
  induction n with
  | zero => intro k h; cases h
  | succ n ih =>
    intro k h
    unfold cmF at h
    by_cases hc : cmC pr a b n (cmF pr a b n) = true
    · rw [if_pos hc] at h
      cases h
      unfold cmC at hc
      rw [Bool.and_eq_true, Bool.and_eq_true] at hc
      exact ⟨by omega, hc.1.1, hc.1.2⟩
    · rw [if_neg hc] at h
      obtain ⟨h1, h2, h3⟩ := ih h
      exact ⟨by omega, h2, h3⟩
theorem cmF_ex {pr : Nat → Option Nat} {a b r : Nat} (h1 : anc pr r a = true) (h2 : anc pr r b = true) : ∀ {n : Nat}, r < n → ∃ k, cmF pr a b n = some k := by
  intro n
  induction n with
  | zero => intro h; omega
  | succ n ih =>
    intro h
    unfold cmF
    by_cases hc : cmC pr a b n (cmF pr a b n) = true
    · rw [if_pos hc]; exact ⟨n, rfl⟩
    · rw [if_neg hc]
      rcases Nat.lt_or_ge r n with q | q
      · exact ih q
      · have e : r = n := by omega
        subst e
        cases hf : cmF pr a b r with
        | some f => exact ⟨f, rfl⟩
        | none => unfold cmC at hc; rw [h1, h2, hf] at hc; exact absurd rfl hc
theorem anc_dep {pr : Nat → Option Nat} {n r : Nat} (h : ParOk pr n) : ∀ k, k < n → anc pr r k = true → dep pr r ≤ dep pr k := by
  intro k
  induction k using Nat.strongRecOn with
  | _ k ih =>
    intro hk ha
    by_cases hr : k = r
    · subst hr; exact Nat.le_refl _
    · rw [anc_O h hk hr] at ha
      cases hq : pr k with
      | none => rw [hq] at ha; cases ha
      | some j =>
        rw [hq] at ha
        have hj := h k j hk hq
        have := ih j hj (by omega) ha
        rw [dep_some h hk hq]; omega
def stN (pr : Nat → Option Nat) (n a b : Nat) : Nat := match cmF pr a b n with
  | some k => dep pr a + dep pr b - 2 * dep pr k
  | none => 0
/-- the longest way from a to one of the first b places, in the branch of r, and at least most -/
def lpI (pr : Nat → Option Nat) (n r a most : Nat) : Nat → Nat
  | 0 => most
  | b + 1 => max (lpI pr n r a most b) (if anc pr r b then stN pr n a b else 0)
def lpO (pr : Nat → Option Nat) (n r : Nat) : Nat → Nat
  | 0 => 0
  | a + 1 => if anc pr r a then lpI pr n r a (lpO pr n r a) (a + 1) else lpO pr n r a
theorem max_nI {a b : Nat} (ha : a < 2 ^ 31) (hb : b < 2 ^ 31) : (if nI a < nI b then nI b else nI a) = nI (max a b) := by
  by_cases h : a < b
  · rw [if_pos ((nI_ltI ha hb).mpr h), Nat.max_eq_right (by omega)]
  · rw [if_neg (fun z => h ((nI_ltI ha hb).mp z)), Nat.max_eq_left (by omega)]
theorem stN_le {pr : Nat → Option Nat} {n a b : Nat} (h : ParOk pr n) (ha : a < n) (hb : b < n) : stN pr n a b ≤ 2 * n := by
  unfold stN
  have := dep_le h a ha
  have := dep_le h b hb
  split <;> omega
theorem lpI_le {pr : Nat → Option Nat} {n r a most B : Nat} (h : ParOk pr n) (ha : a < n) (hm : most ≤ B) (hB : 2 * n ≤ B) : ∀ b, b ≤ n → lpI pr n r a most b ≤ B := by
  intro b
  induction b with
  | zero => intro _; exact hm
  | succ b ih =>
    intro hb
    unfold lpI
    have h1 := ih (by omega)
    have h2 := stN_le h ha (show b < n by omega)
    split <;> omega
theorem lpO_le {pr : Nat → Option Nat} {n r : Nat} (h : ParOk pr n) : ∀ a, a ≤ n → lpO pr n r a ≤ 2 * n := by
  intro a
  induction a with
  | zero => intro _; exact Nat.zero_le _
  | succ a ih =>
    intro ha
    unfold lpO
    split
    · exact lpI_le h (by omega) (ih (by omega)) (Nat.le_refl _) _ (by omega)
    · exact ih (by omega)
/-- the first n places from the past -/
def getF (f g : Nat → Int32) (b n : Nat) : Nat → Int32 := fun j => if j < n then g (b + j) else f j
theorem getF_0 (f g : Nat → Int32) (b : Nat) : getF f g b 0 = f := by funext j; simp [getF]
theorem getF_1 (f g : Nat → Int32) (b i : Nat) : upd (getF f g b i) i (g (b + i)) = getF f g b (i + 1) := by
  funext j; unfold upd getF
  by_cases h1 : j = i
  · subst h1; rw [if_pos rfl, if_pos (by omega)]
  · rw [if_neg h1]
    by_cases h2 : j < i
    · rw [if_pos h2, if_pos (by omega)]
    · rw [if_neg h2, if_neg (by omega)]
theorem dX10_parent_0 : decode cX10_parent 0 = .ok (.aload_n 0, 1) := by decide +kernel
theorem dX10_parent_1 : decode cX10_parent 1 = .ok (.iload_n 1, 1) := by decide +kernel
theorem dX10_parent_2 : decode cX10_parent 2 = .ok (.iconst 1, 1) := by decide +kernel
theorem dX10_parent_3 : decode cX10_parent 3 = .ok (.invokevirtual 172, 3) := by decide +kernel
theorem dX10_parent_6 : decode cX10_parent 6 = .ok (.istore_n 2, 1) := by decide +kernel
theorem dX10_parent_7 : decode cX10_parent 7 = .ok (.iload_n 2, 1) := by decide +kernel
theorem dX10_parent_8 : decode cX10_parent 8 = .ok (.iconst (-1), 1) := by decide +kernel
theorem dX10_parent_9 : decode cX10_parent 9 = .ok (.if_icmp .ne 11, 3) := by decide +kernel
theorem dX10_parent_12 : decode cX10_parent 12 = .ok (.aload_n 0, 1) := by decide +kernel
theorem dX10_parent_13 : decode cX10_parent 13 = .ok (.iconst 1, 1) := by decide +kernel
theorem dX10_parent_14 : decode cX10_parent 14 = .ok (.invokevirtual 101, 3) := by decide +kernel
theorem dX10_parent_17 : decode cX10_parent 17 = .ok (.goto 4, 3) := by decide +kernel
theorem dX10_parent_20 : decode cX10_parent 20 = .ok (.iload_n 2, 1) := by decide +kernel
theorem dX10_parent_21 : decode cX10_parent 21 = .ok (.ireturn, 1) := by decide +kernel
set_option maxHeartbeats 1000000 in
set_option maxRecDepth 20000 in
theorem m_parent (l : Launch) (D : va_G) (aT : Nat → ClassId) (ad : Nat → Nat) (S : MSt) (x : Int32) (hF : FoW (S 0)) : MdI l yX10_parent cX10_parent 3 .int 3 66 D aT ad [.ref (ad 0), .int x] S (fun r S1 => (fnd (fun k => S 0 (29 + 4 * k)) x (nM (S 0)) = none ∧ r = -1 ∧ S1 = ss S 8 (nI 1)) ∨ (∃ q, fnd (fun k => S 0 (29 + 4 * k)) x (nM (S 0)) = some q ∧ prM (S 0) q = none ∧ r = -1 ∧ S1 = ss S 8 (nI 1)) ∨ (∃ q j, fnd (fun k => S 0 (29 + 4 * k)) x (nM (S 0)) = some q ∧ prM (S 0) q = some j ∧ r = nI (idM (S 0) j) ∧ S1 = ss S 8 (nI 0))) := by
  refine MdI.of (by decide +kernel) rfl (Nat.le_of_ble_eq_true rfl) ?_
  intro p e s m below meth c A ls C hml hl hA hr hlocks hW
  have hl : lv_has ls 3 [(0, .ref (ad 0)), (1, .int x)] := hl
  have hx := C.1
  have hb := C.2.1
  refine lv_aload_n hx hb dX10_parent_0 rfl (lv_at hl 0 rfl) ?_
  refine lv_iload_n hx hb dX10_parent_1 rfl (lv_at hl 1 rfl) ?_
  refine lv_iconst (v := nI 1) hx hb dX10_parent_2 (by decide) ?_
  refine md_calli C hml hl.1 (As := [.int x, .int (nI 1)]) (rest := []) (m_ofMotion l D aT ad S (x) 1 (by decide) hF) gT_ofMotion hd_ofMotion rfl ⟨Nat.le_of_ble_eq_true rfl, Nat.le_of_ble_eq_true rfl⟩ ⟨Nat.le_refl _, Nat.le_refl _⟩ hW hA rfl (Nat.le_of_ble_eq_true rfl) dX10_parent_3 (fun r_3 S_3 H locs hq hW => ?_)
  rcases hq with ⟨h1, rfl, rfl⟩ | ⟨q, h1, rfl, rfl⟩
  · refine lv_istore_n (lv' := [(2, .int (-1)), (0, .ref (ad 0)), (1, .int x)]) hx hb dX10_parent_6 rfl hl (by decide) rfl (fun ls hl => ?_)
    refine lv_iload_n hx hb dX10_parent_7 rfl (lv_at hl 0 rfl) ?_
    refine lv_iconst (v := (-1)) hx hb dX10_parent_8 (by decide) ?_
    refine lv_icmp_ne hx hb (x := (-1)) (y := (-1)) (tgt := 20) dX10_parent_9 (by decide) (fun c_9 => ?_) (fun c_9 => ?_)
    · exact absurd rfl c_9
    · refine lv_aload_n hx hb dX10_parent_12 rfl (lv_at hl 1 rfl) ?_
      refine lv_iconst (v := nI 1) hx hb dX10_parent_13 (by decide) ?_
      refine md_calli C hml hl.1 (As := [.int (nI 1)]) (rest := []) (m_throwing l D aT ad (ss S 8 (nI 1)) 1) gT_throwing hd_throwing rfl ⟨Nat.le_of_ble_eq_true rfl, Nat.le_of_ble_eq_true rfl⟩ ⟨Nat.le_refl _, Nat.le_refl _⟩ hW hA rfl (Nat.le_of_ble_eq_true rfl) dX10_parent_14 (fun r_14 S_14 H locs hq hW => ?_)
      obtain ⟨rfl, rfl⟩ := hq
      refine lv_goto (tgt := 21) hx hb dX10_parent_17 (by decide) ?_
      exact md_iret C hr hlocks rfl hW (Or.inl ⟨h1, rfl, ss_ss _ _ _ _⟩) dX10_parent_21
  · refine r_eq (y := (oi ((prM (S 0) q).map (idM (S 0))))) (hF.2.2.2.1 q (fnd_some h1).1) ?_
    refine lv_istore_n (lv' := [(2, .int (oi ((prM (S 0) q).map (idM (S 0))))), (0, .ref (ad 0)), (1, .int x)]) hx hb dX10_parent_6 rfl hl (by decide) rfl (fun ls hl => ?_)
    refine lv_iload_n hx hb dX10_parent_7 rfl (lv_at hl 0 rfl) ?_
    refine lv_iconst (v := (-1)) hx hb dX10_parent_8 (by decide) ?_
    refine r_oi_ne hx hb (o := ((prM (S 0) q).map (idM (S 0)))) (hF.pid (fnd_some h1).1) (tgt := 20) dX10_parent_9 (by decide) (fun j_9 c_9 => ?_) (fun c_9 => ?_)
    · have hl : lv_has ls 3 [(2, .int (nI j_9)), (0, .ref (ad 0)), (1, .int x)] := by rw [c_9] at hl; exact hl
      refine lv_iload_n hx hb dX10_parent_20 rfl (lv_at hl 0 rfl) ?_
      exact md_iret C hr hlocks rfl hW (Or.inr (Or.inr (by obtain ⟨j, hj1, hj2⟩ := Option.map_eq_some_iff.mp c_9; exact ⟨q, j, h1, hj1, by rw [hj2], rfl⟩))) dX10_parent_21
    · have hl : lv_has ls 3 [(2, .int (-1)), (0, .ref (ad 0)), (1, .int x)] := by rw [c_9] at hl; exact hl
      refine lv_aload_n hx hb dX10_parent_12 rfl (lv_at hl 1 rfl) ?_
      refine lv_iconst (v := nI 1) hx hb dX10_parent_13 (by decide) ?_
      refine md_calli C hml hl.1 (As := [.int (nI 1)]) (rest := []) (m_throwing l D aT ad (ss S 8 (nI 0)) 1) gT_throwing hd_throwing rfl ⟨Nat.le_of_ble_eq_true rfl, Nat.le_of_ble_eq_true rfl⟩ ⟨Nat.le_refl _, Nat.le_refl _⟩ hW hA rfl (Nat.le_of_ble_eq_true rfl) dX10_parent_14 (fun r_14 S_14 H locs hq hW => ?_)
      obtain ⟨rfl, rfl⟩ := hq
      refine lv_goto (tgt := 21) hx hb dX10_parent_17 (by decide) ?_
      exact md_iret C hr hlocks rfl hW (Or.inr (Or.inl ⟨q, h1, by simpa using c_9, rfl, ss_ss _ _ _ _⟩)) dX10_parent_21
theorem gT_isMotionAhead : GoodIn gw (wsV RX10 175 RX10 yX10_isMotionAhead (Cond.code yX10_isMotionAhead cX10_isMotionAhead 4 (some .boolean) :: gw)) := gdV gw_1916 gw_1918 gw_48 gw_81 gw_1919
theorem hd_isMotionAhead : yX10_isMotionAhead.cls = RX10 ∧ yX10_isMotionAhead.cls ≠ "java/lang/invoke/MethodHandle" ∧ yX10_isMotionAhead.cls ≠ "java/lang/invoke/VarHandle" ∧ (parseMethodDescriptor yX10_isMotionAhead.desc).map (fun d => d.parameters.length) = some 2 := ⟨rfl, by decide +kernel, by decide +kernel, by decide +kernel⟩
theorem dX10_isMotionAhead_0 : decode cX10_isMotionAhead 0 = .ok (.aload_n 0, 1) := by decide +kernel
theorem dX10_isMotionAhead_1 : decode cX10_isMotionAhead 1 = .ok (.iload_n 1, 1) := by decide +kernel
theorem dX10_isMotionAhead_2 : decode cX10_isMotionAhead 2 = .ok (.iconst 3, 1) := by decide +kernel
theorem dX10_isMotionAhead_3 : decode cX10_isMotionAhead 3 = .ok (.invokevirtual 67, 3) := by decide +kernel
theorem dX10_isMotionAhead_6 : decode cX10_isMotionAhead 6 = .ok (.aload_n 0, 1) := by decide +kernel
theorem dX10_isMotionAhead_7 : decode cX10_isMotionAhead 7 = .ok (.iload_n 2, 1) := by decide +kernel
theorem dX10_isMotionAhead_8 : decode cX10_isMotionAhead 8 = .ok (.iconst 3, 1) := by decide +kernel
theorem dX10_isMotionAhead_9 : decode cX10_isMotionAhead 9 = .ok (.invokevirtual 67, 3) := by decide +kernel
theorem dX10_isMotionAhead_12 : decode cX10_isMotionAhead 12 = .ok (.isub, 1) := by decide +kernel
theorem dX10_isMotionAhead_13 : decode cX10_isMotionAhead 13 = .ok (.istore_n 3, 1) := by decide +kernel
theorem dX10_isMotionAhead_14 : decode cX10_isMotionAhead 14 = .ok (.iload_n 3, 1) := by decide +kernel
theorem dX10_isMotionAhead_15 : decode cX10_isMotionAhead 15 = .ok (.ifCond .ne 17, 3) := by decide +kernel
theorem dX10_isMotionAhead_18 : decode cX10_isMotionAhead 18 = .ok (.aload_n 0, 1) := by decide +kernel
theorem dX10_isMotionAhead_19 : decode cX10_isMotionAhead 19 = .ok (.iload_n 2, 1) := by decide +kernel
theorem dX10_isMotionAhead_20 : decode cX10_isMotionAhead 20 = .ok (.invokevirtual 125, 3) := by decide +kernel
theorem dX10_isMotionAhead_23 : decode cX10_isMotionAhead 23 = .ok (.aload_n 0, 1) := by decide +kernel
theorem dX10_isMotionAhead_24 : decode cX10_isMotionAhead 24 = .ok (.iload_n 1, 1) := by decide +kernel
theorem dX10_isMotionAhead_25 : decode cX10_isMotionAhead 25 = .ok (.invokevirtual 125, 3) := by decide +kernel
theorem dX10_isMotionAhead_28 : decode cX10_isMotionAhead 28 = .ok (.isub, 1) := by decide +kernel
theorem dX10_isMotionAhead_29 : decode cX10_isMotionAhead 29 = .ok (.goto 4, 3) := by decide +kernel
theorem dX10_isMotionAhead_32 : decode cX10_isMotionAhead 32 = .ok (.iload_n 3, 1) := by decide +kernel
theorem dX10_isMotionAhead_33 : decode cX10_isMotionAhead 33 = .ok (.istore_n 3, 1) := by decide +kernel
theorem dX10_isMotionAhead_34 : decode cX10_isMotionAhead 34 = .ok (.iload_n 3, 1) := by decide +kernel
theorem dX10_isMotionAhead_35 : decode cX10_isMotionAhead 35 = .ok (.ifCond .gt 12, 3) := by decide +kernel
theorem dX10_isMotionAhead_38 : decode cX10_isMotionAhead 38 = .ok (.iload_n 3, 1) := by decide +kernel
theorem dX10_isMotionAhead_39 : decode cX10_isMotionAhead 39 = .ok (.ifCond .ne 12, 3) := by decide +kernel
theorem dX10_isMotionAhead_42 : decode cX10_isMotionAhead 42 = .ok (.iload_n 1, 1) := by decide +kernel
theorem dX10_isMotionAhead_43 : decode cX10_isMotionAhead 43 = .ok (.iload_n 2, 1) := by decide +kernel
theorem dX10_isMotionAhead_44 : decode cX10_isMotionAhead 44 = .ok (.if_icmp .ge 7, 3) := by decide +kernel
theorem dX10_isMotionAhead_47 : decode cX10_isMotionAhead 47 = .ok (.iconst 1, 1) := by decide +kernel
theorem dX10_isMotionAhead_48 : decode cX10_isMotionAhead 48 = .ok (.goto 4, 3) := by decide +kernel
theorem dX10_isMotionAhead_51 : decode cX10_isMotionAhead 51 = .ok (.iconst 0, 1) := by decide +kernel
theorem dX10_isMotionAhead_52 : decode cX10_isMotionAhead 52 = .ok (.ireturn, 1) := by decide +kernel
set_option maxHeartbeats 1000000 in
set_option maxRecDepth 20000 in
theorem m_isMotionAhead (l : Launch) (D : va_G) (aT : Nat → ClassId) (ad : Nat → Nat) (S : MSt) (a b : Nat) (hF : FoW (S 0)) (ha : a < nM (S 0)) (hb2 : b < nM (S 0)) : MdG l yX10_isMotionAhead cX10_isMotionAhead 4 .boolean 4 88 D aT ad [.ref (ad 0), .int (nI a), .int (nI b)] S (fun r => r = bI (mAh (S 0) a b)) := by
  refine MdI.of (by decide +kernel) rfl (Nat.le_of_ble_eq_true rfl) ?_
  intro p e s m below meth c A ls C hml hl hA hr hlocks hW
  have hl : lv_has ls 4 [(0, .ref (ad 0)), (1, .int (nI a)), (2, .int (nI b))] := hl
  have hx := C.1
  have hb := C.2.1
  refine lv_aload_n hx hb dX10_isMotionAhead_0 rfl (lv_at hl 0 rfl) ?_
  refine lv_iload_n hx hb dX10_isMotionAhead_1 rfl (lv_at hl 1 rfl) ?_
  refine lv_iconst (v := nI 3) hx hb dX10_isMotionAhead_2 (by decide) ?_
  refine md_callg C hml hl.1 (As := [.int (nI a), .int (nI 3)]) (rest := []) (m_of l D aT ad S a 3 (by have := hF.n12; omega)) gT_of hd_of rfl ⟨Nat.le_of_ble_eq_true rfl, Nat.le_of_ble_eq_true rfl⟩ ⟨Nat.le_refl _, Nat.le_refl _⟩ hW hA rfl (Nat.le_of_ble_eq_true rfl) dX10_isMotionAhead_3 (fun r_3 H locs hq hW => ?_)
  subst hq
  refine lv_aload_n hx hb dX10_isMotionAhead_6 rfl (lv_at hl 0 rfl) ?_
  refine lv_iload_n hx hb dX10_isMotionAhead_7 rfl (lv_at hl 2 rfl) ?_
  refine lv_iconst (v := nI 3) hx hb dX10_isMotionAhead_8 (by decide) ?_
  refine md_callg C hml hl.1 (As := [.int (nI b), .int (nI 3)]) (rest := [.int (S 0 (29 + 4 * a + 3))]) (m_of l D aT ad S b 3 (by have := hF.n12; omega)) gT_of hd_of rfl ⟨Nat.le_of_ble_eq_true rfl, Nat.le_of_ble_eq_true rfl⟩ ⟨Nat.le_refl _, Nat.le_refl _⟩ hW hA rfl (Nat.le_of_ble_eq_true rfl) dX10_isMotionAhead_9 (fun r_9 H locs hq hW => ?_)
  subst hq
  refine lv_isub hx hb dX10_isMotionAhead_12 ?_
  refine lv_istore_n (lv' := [(3, .int ((S 0 (29 + 4 * a + 3)) - (S 0 (29 + 4 * b + 3)))), (0, .ref (ad 0)), (1, .int (nI a)), (2, .int (nI b))]) hx hb dX10_isMotionAhead_13 rfl hl (by decide) rfl (fun ls hl => ?_)
  refine lv_iload_n hx hb dX10_isMotionAhead_14 rfl (lv_at hl 0 rfl) ?_
  refine lv_if_ne hx hb (x := ((S 0 (29 + 4 * a + 3)) - (S 0 (29 + 4 * b + 3)))) (tgt := 32) dX10_isMotionAhead_15 (by decide) (fun c_15 => ?_) (fun c_15 => ?_)
  · refine lv_iload_n hx hb dX10_isMotionAhead_32 rfl (lv_at hl 0 rfl) ?_
    refine lv_istore_n (lv' := [(3, .int ((S 0 (29 + 4 * a + 3)) - (S 0 (29 + 4 * b + 3)))), (0, .ref (ad 0)), (1, .int (nI a)), (2, .int (nI b))]) hx hb dX10_isMotionAhead_33 rfl hl (by decide) rfl (fun ls hl => ?_)
    refine lv_iload_n hx hb dX10_isMotionAhead_34 rfl (lv_at hl 0 rfl) ?_
    refine lv_if_gt hx hb (x := ((S 0 (29 + 4 * a + 3)) - (S 0 (29 + 4 * b + 3)))) (tgt := 47) dX10_isMotionAhead_35 (by decide) (fun c_35 => ?_) (fun c_35 => ?_)
    · refine lv_iconst (v := nI 1) hx hb dX10_isMotionAhead_47 (by decide) ?_
      refine lv_goto (tgt := 52) hx hb dX10_isMotionAhead_48 (by decide) ?_
      exact md_iret C hr hlocks (by decide) hW (⟨by unfold mAh; rw [if_neg c_15, decide_eq_true c_35]; rfl, rfl⟩) dX10_isMotionAhead_52
    · refine lv_iload_n hx hb dX10_isMotionAhead_38 rfl (lv_at hl 0 rfl) ?_
      refine lv_if_ne hx hb (x := ((S 0 (29 + 4 * a + 3)) - (S 0 (29 + 4 * b + 3)))) (tgt := 51) dX10_isMotionAhead_39 (by decide) (fun c_39 => ?_) (fun c_39 => ?_)
      · refine lv_iconst (v := nI 0) hx hb dX10_isMotionAhead_51 (by decide) ?_
        exact md_iret C hr hlocks (by decide) hW (⟨by unfold mAh; rw [if_neg c_15, decide_eq_false c_35]; rfl, rfl⟩) dX10_isMotionAhead_52
      · exact absurd c_39 c_15
  · refine lv_aload_n hx hb dX10_isMotionAhead_18 rfl (lv_at hl 1 rfl) ?_
    refine lv_iload_n hx hb dX10_isMotionAhead_19 rfl (lv_at hl 3 rfl) ?_
    refine md_callg C hml hl.1 (As := [.int (nI b)]) (rest := []) (m_deep l D aT ad S (nM (S 0)) (idM (S 0)) (prM (S 0)) (tnM (S 0)) hF b (hb2)) gT_deep hd_deep rfl ⟨Nat.le_of_ble_eq_true rfl, Nat.le_of_ble_eq_true rfl⟩ ⟨Nat.le_refl _, Nat.le_refl _⟩ hW hA rfl (Nat.le_of_ble_eq_true rfl) dX10_isMotionAhead_20 (fun r_20 H locs hq hW => ?_)
    subst hq
    refine lv_aload_n hx hb dX10_isMotionAhead_23 rfl (lv_at hl 1 rfl) ?_
    refine lv_iload_n hx hb dX10_isMotionAhead_24 rfl (lv_at hl 2 rfl) ?_
    refine md_callg C hml hl.1 (As := [.int (nI a)]) (rest := [.int (nI (dep (prM (S 0)) b))]) (m_deep l D aT ad S (nM (S 0)) (idM (S 0)) (prM (S 0)) (tnM (S 0)) hF a (ha)) gT_deep hd_deep rfl ⟨Nat.le_of_ble_eq_true rfl, Nat.le_of_ble_eq_true rfl⟩ ⟨Nat.le_refl _, Nat.le_refl _⟩ hW hA rfl (Nat.le_of_ble_eq_true rfl) dX10_isMotionAhead_25 (fun r_25 H locs hq hW => ?_)
    subst hq
    refine lv_isub hx hb dX10_isMotionAhead_28 ?_
    refine lv_goto (tgt := 33) hx hb dX10_isMotionAhead_29 (by decide) ?_
    refine lv_istore_n (lv' := [(3, .int (nI (dep (prM (S 0)) b) - nI (dep (prM (S 0)) a))), (0, .ref (ad 0)), (1, .int (nI a)), (2, .int (nI b))]) hx hb dX10_isMotionAhead_33 rfl hl (by decide) rfl (fun ls hl => ?_)
    refine lv_iload_n hx hb dX10_isMotionAhead_34 rfl (lv_at hl 0 rfl) ?_
    refine r_ifgtD hx hb (a := (dep (prM (S 0)) b)) (b := (dep (prM (S 0)) a)) (by first | exact Nat.lt_of_le_of_lt (dep_le hF.ok _ ha) (by have := hF.n12; omega) | exact Nat.lt_of_le_of_lt (dep_le hF.ok _ hb2) (by have := hF.n12; omega) | (have := hF.n12; omega)) (by first | exact Nat.lt_of_le_of_lt (dep_le hF.ok _ ha) (by have := hF.n12; omega) | exact Nat.lt_of_le_of_lt (dep_le hF.ok _ hb2) (by have := hF.n12; omega) | (have := hF.n12; omega)) (tgt := 47) dX10_isMotionAhead_35 (by decide) (fun c_35 => ?_) (fun c_35 => ?_)
    · refine lv_iconst (v := nI 1) hx hb dX10_isMotionAhead_47 (by decide) ?_
      refine lv_goto (tgt := 52) hx hb dX10_isMotionAhead_48 (by decide) ?_
      exact md_iret C hr hlocks (by decide) hW (⟨by unfold mAh; rw [if_pos c_15, show decide _ = true from decide_eq_true (by omega)]; rfl, rfl⟩) dX10_isMotionAhead_52
    · refine lv_iload_n hx hb dX10_isMotionAhead_38 rfl (lv_at hl 0 rfl) ?_
      refine r_ifneD hx hb (a := (dep (prM (S 0)) b)) (b := (dep (prM (S 0)) a)) (by first | exact Nat.lt_of_le_of_lt (dep_le hF.ok _ ha) (by have := hF.n12; omega) | exact Nat.lt_of_le_of_lt (dep_le hF.ok _ hb2) (by have := hF.n12; omega) | (have := hF.n12; omega)) (by first | exact Nat.lt_of_le_of_lt (dep_le hF.ok _ ha) (by have := hF.n12; omega) | exact Nat.lt_of_le_of_lt (dep_le hF.ok _ hb2) (by have := hF.n12; omega) | (have := hF.n12; omega)) (tgt := 51) dX10_isMotionAhead_39 (by decide) (fun c_39 => ?_) (fun c_39 => ?_)
      · refine lv_iconst (v := nI 0) hx hb dX10_isMotionAhead_51 (by decide) ?_
        exact md_iret C hr hlocks (by decide) hW (⟨by unfold mAh; rw [if_pos c_15, show decide _ = false from decide_eq_false (by omega)]; rfl, rfl⟩) dX10_isMotionAhead_52
      · refine lv_iload_n hx hb dX10_isMotionAhead_42 rfl (lv_at hl 2 rfl) ?_
        refine lv_iload_n hx hb dX10_isMotionAhead_43 rfl (lv_at hl 3 rfl) ?_
        refine r_geN hx hb (a := a) (b := b) (by first | exact Nat.lt_of_le_of_lt (dep_le hF.ok _ ha) (by have := hF.n12; omega) | exact Nat.lt_of_le_of_lt (dep_le hF.ok _ hb2) (by have := hF.n12; omega) | (have := hF.n12; omega)) (by first | exact Nat.lt_of_le_of_lt (dep_le hF.ok _ ha) (by have := hF.n12; omega) | exact Nat.lt_of_le_of_lt (dep_le hF.ok _ hb2) (by have := hF.n12; omega) | (have := hF.n12; omega)) (tgt := 51) dX10_isMotionAhead_44 (by decide) (fun c_44 => ?_) (fun c_44 => ?_)
        · refine lv_iconst (v := nI 0) hx hb dX10_isMotionAhead_51 (by decide) ?_
          exact md_iret C hr hlocks (by decide) hW (⟨by unfold mAh; rw [if_pos c_15, show decide _ = false from decide_eq_false (by omega)]; rfl, rfl⟩) dX10_isMotionAhead_52
        · refine lv_iconst (v := nI 1) hx hb dX10_isMotionAhead_47 (by decide) ?_
          refine lv_goto (tgt := 52) hx hb dX10_isMotionAhead_48 (by decide) ?_
          exact md_iret C hr hlocks (by decide) hW (⟨by unfold mAh; rw [if_pos c_15, show decide _ = true from decide_eq_true (by omega)]; rfl, rfl⟩) dX10_isMotionAhead_52
theorem dX10_motionAtRank_0 : decode cX10_motionAtRank 0 = .ok (.aload_n 0, 1) := by decide +kernel
theorem dX10_motionAtRank_1 : decode cX10_motionAtRank 1 = .ok (.iconst 0, 1) := by decide +kernel
theorem dX10_motionAtRank_2 : decode cX10_motionAtRank 2 = .ok (.putfield 57, 3) := by decide +kernel
theorem dX10_motionAtRank_5 : decode cX10_motionAtRank 5 = .ok (.iconst 0, 1) := by decide +kernel
theorem dX10_motionAtRank_6 : decode cX10_motionAtRank 6 = .ok (.istore_n 2, 1) := by decide +kernel
theorem dX10_motionAtRank_7 : decode cX10_motionAtRank 7 = .ok (.iload_n 2, 1) := by decide +kernel
theorem dX10_motionAtRank_8 : decode cX10_motionAtRank 8 = .ok (.aload_n 0, 1) := by decide +kernel
theorem dX10_motionAtRank_9 : decode cX10_motionAtRank 9 = .ok (.getfield 9, 3) := by decide +kernel
theorem dX10_motionAtRank_12 : decode cX10_motionAtRank 12 = .ok (.iconst 2, 1) := by decide +kernel
theorem dX10_motionAtRank_13 : decode cX10_motionAtRank 13 = .ok (.iaload, 1) := by decide +kernel
theorem dX10_motionAtRank_14 : decode cX10_motionAtRank 14 = .ok (.if_icmp .ge 61, 3) := by decide +kernel
theorem dX10_motionAtRank_17 : decode cX10_motionAtRank 17 = .ok (.iconst 0, 1) := by decide +kernel
theorem dX10_motionAtRank_18 : decode cX10_motionAtRank 18 = .ok (.istore_n 3, 1) := by decide +kernel
theorem dX10_motionAtRank_19 : decode cX10_motionAtRank 19 = .ok (.iconst 0, 1) := by decide +kernel
theorem dX10_motionAtRank_20 : decode cX10_motionAtRank 20 = .ok (.istore 4, 2) := by decide +kernel
theorem dX10_motionAtRank_22 : decode cX10_motionAtRank 22 = .ok (.iload 4, 2) := by decide +kernel
theorem dX10_motionAtRank_24 : decode cX10_motionAtRank 24 = .ok (.aload_n 0, 1) := by decide +kernel
theorem dX10_motionAtRank_25 : decode cX10_motionAtRank 25 = .ok (.getfield 9, 3) := by decide +kernel
theorem dX10_motionAtRank_28 : decode cX10_motionAtRank 28 = .ok (.iconst 2, 1) := by decide +kernel
theorem dX10_motionAtRank_29 : decode cX10_motionAtRank 29 = .ok (.iaload, 1) := by decide +kernel
theorem dX10_motionAtRank_30 : decode cX10_motionAtRank 30 = .ok (.if_icmp .ge 27, 3) := by decide +kernel
theorem dX10_motionAtRank_33 : decode cX10_motionAtRank 33 = .ok (.iload_n 3, 1) := by decide +kernel
theorem dX10_motionAtRank_34 : decode cX10_motionAtRank 34 = .ok (.aload_n 0, 1) := by decide +kernel
theorem dX10_motionAtRank_35 : decode cX10_motionAtRank 35 = .ok (.iload 4, 2) := by decide +kernel
theorem dX10_motionAtRank_37 : decode cX10_motionAtRank 37 = .ok (.iload_n 2, 1) := by decide +kernel
theorem dX10_motionAtRank_38 : decode cX10_motionAtRank 38 = .ok (.invokevirtual 175, 3) := by decide +kernel
theorem dX10_motionAtRank_41 : decode cX10_motionAtRank 41 = .ok (.ifCond .eq 7, 3) := by decide +kernel
theorem dX10_motionAtRank_44 : decode cX10_motionAtRank 44 = .ok (.iconst 1, 1) := by decide +kernel
theorem dX10_motionAtRank_45 : decode cX10_motionAtRank 45 = .ok (.goto 4, 3) := by decide +kernel
theorem dX10_motionAtRank_48 : decode cX10_motionAtRank 48 = .ok (.iconst 0, 1) := by decide +kernel
theorem dX10_motionAtRank_49 : decode cX10_motionAtRank 49 = .ok (.iadd, 1) := by decide +kernel
theorem dX10_motionAtRank_50 : decode cX10_motionAtRank 50 = .ok (.istore_n 3, 1) := by decide +kernel
theorem dX10_motionAtRank_51 : decode cX10_motionAtRank 51 = .ok (.iinc 4 1, 3) := by decide +kernel
theorem dX10_motionAtRank_54 : decode cX10_motionAtRank 54 = .ok (.goto (-32), 3) := by decide +kernel
theorem dX10_motionAtRank_57 : decode cX10_motionAtRank 57 = .ok (.iload_n 3, 1) := by decide +kernel
theorem dX10_motionAtRank_58 : decode cX10_motionAtRank 58 = .ok (.iload_n 1, 1) := by decide +kernel
theorem dX10_motionAtRank_59 : decode cX10_motionAtRank 59 = .ok (.if_icmp .ne 10, 3) := by decide +kernel
theorem dX10_motionAtRank_62 : decode cX10_motionAtRank 62 = .ok (.aload_n 0, 1) := by decide +kernel
theorem dX10_motionAtRank_63 : decode cX10_motionAtRank 63 = .ok (.iload_n 2, 1) := by decide +kernel
theorem dX10_motionAtRank_64 : decode cX10_motionAtRank 64 = .ok (.iconst 0, 1) := by decide +kernel
theorem dX10_motionAtRank_65 : decode cX10_motionAtRank 65 = .ok (.invokevirtual 67, 3) := by decide +kernel
theorem dX10_motionAtRank_68 : decode cX10_motionAtRank 68 = .ok (.ireturn, 1) := by decide +kernel
theorem dX10_motionAtRank_69 : decode cX10_motionAtRank 69 = .ok (.iinc 2 1, 3) := by decide +kernel
theorem dX10_motionAtRank_72 : decode cX10_motionAtRank 72 = .ok (.goto (-65), 3) := by decide +kernel
theorem dX10_motionAtRank_75 : decode cX10_motionAtRank 75 = .ok (.aload_n 0, 1) := by decide +kernel
theorem dX10_motionAtRank_76 : decode cX10_motionAtRank 76 = .ok (.iconst 1, 1) := by decide +kernel
theorem dX10_motionAtRank_77 : decode cX10_motionAtRank 77 = .ok (.invokevirtual 101, 3) := by decide +kernel
theorem dX10_motionAtRank_80 : decode cX10_motionAtRank 80 = .ok (.ireturn, 1) := by decide +kernel
set_option maxHeartbeats 2000000 in
set_option maxRecDepth 20000 in
theorem m_motionAtRank (l : Launch) (D : va_G) (aT : Nat → ClassId) (ad : Nat → Nat) (S : MSt) (x : Int32) (hF : FoW (S 0)) : MdI l yX10_motionAtRank cX10_motionAtRank 5 .int 5 111 D aT ad [.ref (ad 0), .int x] S (fun r S1 => (fnd (fun k => nI (rkN (mAh (S 0)) k (nM (S 0)))) x (nM (S 0)) = none ∧ r = -1 ∧ S1 = ss S 8 (nI 1)) ∨ (∃ k, fnd (fun k => nI (rkN (mAh (S 0)) k (nM (S 0)))) x (nM (S 0)) = some k ∧ r = S 0 (29 + 4 * k) ∧ S1 = ss S 8 (nI 0))) := by
  refine MdI.of (by decide +kernel) rfl (Nat.le_of_ble_eq_true rfl) ?_
  intro p e s m below meth c A ls C hml hl hA hr hlocks hW
  have hl : lv_has ls 5 [(0, .ref (ad 0)), (1, .int x)] := hl
  have hx := C.1
  have hb := C.2.1
  refine lv_aload_n hx hb dX10_motionAtRank_0 rfl (lv_at hl 0 rfl) ?_
  refine lv_iconst (v := nI 0) hx hb dX10_motionAtRank_1 (by decide) ?_
  refine md_put_thrown C hW dX10_motionAtRank_2 (fun H locs hW => ?_)
  refine lv_iconst (v := nI 0) hx hb dX10_motionAtRank_5 (by decide) ?_
  refine lv_istore_n (lv' := [(2, .int (nI 0)), (0, .ref (ad 0)), (1, .int x)]) hx hb dX10_motionAtRank_6 rfl hl (by decide) rfl (fun ls hl => ?_)
  refine W_loopH (σ := Nat) (fun z_ => nM (S 0) - z_) (fun z_ H locs g => ∃ ls, g = F0 m 7 ls [] ∧ lv_has ls 5 [(0, .ref (ad 0)), (1, .int x), (2, .int (nI z_))] ∧ MdB D aT ad (ss S 8 (nI 0)) A s.heap H locs ∧ (fnd (fun k => nI (rkN (mAh (S 0)) k (nM (S 0)))) x z_ = none ∧ z_ ≤ nM (S 0))) ?_ 0 _ ⟨_, rfl, lv_sub hl [1, 2, 0] rfl, hW, ⟨rfl, Nat.zero_le _⟩⟩
  clear hW hl
  rintro k H locs g ⟨ls, rfl, hl, hW, hk, hkh⟩ ih_7
  have h6 := hF.n12
  refine lv_iload_n hx hb dX10_motionAtRank_7 rfl (lv_at hl 2 rfl) ?_
  refine lv_aload_n hx hb dX10_motionAtRank_8 rfl (lv_at hl 0 rfl) ?_
  refine md_geta_m C hW dX10_motionAtRank_9 ?_
  refine lv_iconst (v := nI 2) hx hb dX10_motionAtRank_12 (by decide) ?_
  refine md_ald_m C hW (i := 2) (by omega) dX10_motionAtRank_13 ?_
  refine r_eq (y := (nI (nM (S 0)))) (hF.1) ?_
  refine r_geN hx hb (a := k) (b := (nM (S 0))) (by omega) (by omega) (tgt := 75) dX10_motionAtRank_14 (by decide) (fun c_14 => ?_) (fun c_14 => ?_)
  · refine lv_aload_n hx hb dX10_motionAtRank_75 rfl (lv_at hl 0 rfl) ?_
    refine lv_iconst (v := nI 1) hx hb dX10_motionAtRank_76 (by decide) ?_
    refine md_calli C hml hl.1 (As := [.int (nI 1)]) (rest := []) (m_throwing l D aT ad (ss S 8 (nI 0)) 1) gT_throwing hd_throwing rfl ⟨Nat.le_of_ble_eq_true rfl, Nat.le_of_ble_eq_true rfl⟩ ⟨Nat.le_refl _, Nat.le_refl _⟩ hW hA rfl (Nat.le_of_ble_eq_true rfl) dX10_motionAtRank_77 (fun r_77 S_77 H locs hq hW => ?_)
    obtain ⟨rfl, rfl⟩ := hq
    exact md_iret C hr hlocks rfl hW (Or.inl ⟨(show k = nM (S 0) by omega) ▸ hk, rfl, ss_ss _ _ _ _⟩) dX10_motionAtRank_80
  · refine lv_iconst (v := nI 0) hx hb dX10_motionAtRank_17 (by decide) ?_
    refine lv_istore_n (lv' := [(3, .int (nI 0)), (0, .ref (ad 0)), (1, .int x), (2, .int (nI k))]) hx hb dX10_motionAtRank_18 rfl hl (by decide) rfl (fun ls hl => ?_)
    refine lv_iconst (v := nI 0) hx hb dX10_motionAtRank_19 (by decide) ?_
    refine lv_istore (lv' := [(4, .int (nI 0)), (3, .int (nI 0)), (0, .ref (ad 0)), (1, .int x), (2, .int (nI k))]) hx hb dX10_motionAtRank_20 hl (by decide) rfl (fun ls hl => ?_)
    refine W_loopH (σ := Nat × Nat) (fun z_ => nM (S 0) - z_.2) (fun z_ H locs g => ∃ ls, g = F0 m 22 ls [] ∧ lv_has ls 5 [(0, .ref (ad 0)), (1, .int x), (2, .int (nI k)), (3, .int (nI z_.1)), (4, .int (nI z_.2))] ∧ MdB D aT ad (ss S 8 (nI 0)) A s.heap H locs ∧ (z_.1 = (rkN (mAh (S 0)) k z_.2) ∧ z_.2 ≤ nM (S 0))) ?_ (0, 0) _ ⟨_, rfl, lv_sub hl [2, 3, 4, 1, 0] rfl, hW, ⟨rfl, Nat.zero_le _⟩⟩
    clear hW hl
    rintro ⟨bf, o⟩ H locs g ⟨ls, rfl, hl, hW, hb2, hoh⟩ ih_22
    dsimp only at hl hW hb2 hoh ⊢
    refine lv_iload hx hb dX10_motionAtRank_22 (lv_at hl 4 rfl) ?_
    refine lv_aload_n hx hb dX10_motionAtRank_24 rfl (lv_at hl 0 rfl) ?_
    refine md_geta_m C hW dX10_motionAtRank_25 ?_
    refine lv_iconst (v := nI 2) hx hb dX10_motionAtRank_28 (by decide) ?_
    refine md_ald_m C hW (i := 2) (by omega) dX10_motionAtRank_29 ?_
    refine r_eq (y := (nI (nM (S 0)))) (hF.1) ?_
    refine r_geN hx hb (a := o) (b := (nM (S 0))) (by omega) (by omega) (tgt := 57) dX10_motionAtRank_30 (by decide) (fun c_30 => ?_) (fun c_30 => ?_)
    · refine lv_iload_n hx hb dX10_motionAtRank_57 rfl (lv_at hl 3 rfl) ?_
      refine lv_iload_n hx hb dX10_motionAtRank_58 rfl (lv_at hl 1 rfl) ?_
      refine lv_icmp_ne hx hb (x := (nI bf)) (y := x) (tgt := 69) dX10_motionAtRank_59 (by decide) (fun c_59 => ?_) (fun c_59 => ?_)
      · refine lv_iinc (v := (nI (k + 1))) (lv' := [(2, .int (nI (k + 1))), (0, .ref (ad 0)), (1, .int x), (3, .int (nI bf)), (4, .int (nI o))]) hx hb dX10_motionAtRank_69 hl (k := 2) rfl (nI_1 _) (by decide) rfl (fun ls hl => ?_)
        refine lv_goto (tgt := 7) hx hb dX10_motionAtRank_72 (by decide) ?_
        exact ih_7 (k + 1) _ _ _ (by omega) ⟨_, rfl, lv_sub hl [1, 2, 0] rfl, hW, ⟨fnd_step hk (fun z => c_59 (by rw [hb2, show o = nM (S 0) by omega]; exact z)), by omega⟩⟩
      · refine lv_aload_n hx hb dX10_motionAtRank_62 rfl (lv_at hl 0 rfl) ?_
        refine lv_iload_n hx hb dX10_motionAtRank_63 rfl (lv_at hl 2 rfl) ?_
        refine lv_iconst (v := nI 0) hx hb dX10_motionAtRank_64 (by decide) ?_
        refine md_callg C hml hl.1 (As := [.int (nI k), .int (nI 0)]) (rest := []) (m_of l D aT ad (ss S 8 (nI 0)) k 0 (by omega)) gT_of hd_of rfl ⟨Nat.le_of_ble_eq_true rfl, Nat.le_of_ble_eq_true rfl⟩ ⟨Nat.le_refl _, Nat.le_refl _⟩ hW hA rfl (Nat.le_of_ble_eq_true rfl) dX10_motionAtRank_65 (fun r_65 H locs hq hW => ?_)
        subst hq
        refine r_eq (y := (S 0 (29 + 4 * k + 0))) (rfl) ?_
        exact md_iret C hr hlocks rfl hW (Or.inr ⟨k, fnd_hit hk (by rw [hb2, show o = nM (S 0) by omega] at c_59; exact c_59) (by omega), rfl, rfl⟩) dX10_motionAtRank_68
    · refine lv_iload_n hx hb dX10_motionAtRank_33 rfl (lv_at hl 3 rfl) ?_
      refine lv_aload_n hx hb dX10_motionAtRank_34 rfl (lv_at hl 0 rfl) ?_
      refine lv_iload hx hb dX10_motionAtRank_35 (lv_at hl 4 rfl) ?_
      refine lv_iload_n hx hb dX10_motionAtRank_37 rfl (lv_at hl 2 rfl) ?_
      refine md_callg C hml hl.1 (As := [.int (nI o), .int (nI k)]) (rest := [.int (nI bf)]) (m_isMotionAhead l D aT ad (ss S 8 (nI 0)) o k hF (show o < nM (S 0) by omega) (show k < nM (S 0) by omega)) gT_isMotionAhead hd_isMotionAhead rfl ⟨Nat.le_of_ble_eq_true rfl, Nat.le_of_ble_eq_true rfl⟩ ⟨Nat.le_refl _, Nat.le_refl _⟩ hW hA rfl (Nat.le_of_ble_eq_true rfl) dX10_motionAtRank_38 (fun r_38 H locs hq hW => ?_)
      subst hq
      refine r_bI_eq hx hb (b := (mAh (S 0) o k)) (tgt := 48) dX10_motionAtRank_41 (by decide) (fun c_41 => ?_) (fun c_41 => ?_)
      · refine lv_iconst (v := nI 0) hx hb dX10_motionAtRank_48 (by decide) ?_
        refine r_iaddN hx hb (a := bf) (b := 0) dX10_motionAtRank_49 ?_
        refine lv_istore_n (lv' := [(3, .int (nI (bf + 0))), (0, .ref (ad 0)), (1, .int x), (2, .int (nI k)), (4, .int (nI o))]) hx hb dX10_motionAtRank_50 rfl hl (by decide) rfl (fun ls hl => ?_)
        refine lv_iinc (v := (nI (o + 1))) (lv' := [(4, .int (nI (o + 1))), (3, .int (nI (bf + 0))), (0, .ref (ad 0)), (1, .int x), (2, .int (nI k))]) hx hb dX10_motionAtRank_51 hl (k := 4) rfl (nI_1 _) (by decide) rfl (fun ls hl => ?_)
        refine lv_goto (tgt := 22) hx hb dX10_motionAtRank_54 (by decide) ?_
        exact ih_22 (bf + 0, (o + 1)) _ _ _ (by dsimp only; omega) ⟨_, rfl, lv_sub hl [2, 3, 4, 1, 0] rfl, hW, ⟨by rw [rkN, c_41, ← hb2]; rfl, by (try dsimp only); omega⟩⟩
      · refine lv_iconst (v := nI 1) hx hb dX10_motionAtRank_44 (by decide) ?_
        refine lv_goto (tgt := 49) hx hb dX10_motionAtRank_45 (by decide) ?_
        refine r_iaddN hx hb (a := bf) (b := 1) dX10_motionAtRank_49 ?_
        refine lv_istore_n (lv' := [(3, .int (nI (bf + 1))), (0, .ref (ad 0)), (1, .int x), (2, .int (nI k)), (4, .int (nI o))]) hx hb dX10_motionAtRank_50 rfl hl (by decide) rfl (fun ls hl => ?_)
        refine lv_iinc (v := (nI (o + 1))) (lv' := [(4, .int (nI (o + 1))), (3, .int (nI (bf + 1))), (0, .ref (ad 0)), (1, .int x), (2, .int (nI k))]) hx hb dX10_motionAtRank_51 hl (k := 4) rfl (nI_1 _) (by decide) rfl (fun ls hl => ?_)
        refine lv_goto (tgt := 22) hx hb dX10_motionAtRank_54 (by decide) ?_
        exact ih_22 (bf + 1, (o + 1)) _ _ _ (by dsimp only; omega) ⟨_, rfl, lv_sub hl [2, 3, 4, 1, 0] rfl, hW, ⟨by rw [rkN, c_41, ← hb2]; rfl, by (try dsimp only); omega⟩⟩
theorem gT_common : GoodIn gw (wsV RX10 178 RX10 yX10_common (Cond.code yX10_common cX10_common 5 (some .int) :: gw)) := gdV gw_1924 gw_1926 gw_49 gw_81 gw_1927
theorem hd_common : yX10_common.cls = RX10 ∧ yX10_common.cls ≠ "java/lang/invoke/MethodHandle" ∧ yX10_common.cls ≠ "java/lang/invoke/VarHandle" ∧ (parseMethodDescriptor yX10_common.desc).map (fun d => d.parameters.length) = some 2 := ⟨rfl, by decide +kernel, by decide +kernel, by decide +kernel⟩
theorem dX10_common_0 : decode cX10_common 0 = .ok (.iconst (-1), 1) := by decide +kernel
theorem dX10_common_1 : decode cX10_common 1 = .ok (.istore_n 3, 1) := by decide +kernel
theorem dX10_common_2 : decode cX10_common 2 = .ok (.iconst 0, 1) := by decide +kernel
theorem dX10_common_3 : decode cX10_common 3 = .ok (.istore 4, 2) := by decide +kernel
theorem dX10_common_5 : decode cX10_common 5 = .ok (.iload 4, 2) := by decide +kernel
theorem dX10_common_7 : decode cX10_common 7 = .ok (.aload_n 0, 1) := by decide +kernel
theorem dX10_common_8 : decode cX10_common 8 = .ok (.getfield 9, 3) := by decide +kernel
theorem dX10_common_11 : decode cX10_common 11 = .ok (.iconst 2, 1) := by decide +kernel
theorem dX10_common_12 : decode cX10_common 12 = .ok (.iaload, 1) := by decide +kernel
theorem dX10_common_13 : decode cX10_common 13 = .ok (.if_icmp .ge 55, 3) := by decide +kernel
theorem dX10_common_16 : decode cX10_common 16 = .ok (.aload_n 0, 1) := by decide +kernel
theorem dX10_common_17 : decode cX10_common 17 = .ok (.iload_n 1, 1) := by decide +kernel
theorem dX10_common_18 : decode cX10_common 18 = .ok (.iload 4, 2) := by decide +kernel
theorem dX10_common_20 : decode cX10_common 20 = .ok (.invokevirtual 78, 3) := by decide +kernel
theorem dX10_common_23 : decode cX10_common 23 = .ok (.ifCond .eq 37, 3) := by decide +kernel
theorem dX10_common_26 : decode cX10_common 26 = .ok (.aload_n 0, 1) := by decide +kernel
theorem dX10_common_27 : decode cX10_common 27 = .ok (.iload_n 2, 1) := by decide +kernel
theorem dX10_common_28 : decode cX10_common 28 = .ok (.iload 4, 2) := by decide +kernel
theorem dX10_common_30 : decode cX10_common 30 = .ok (.invokevirtual 78, 3) := by decide +kernel
theorem dX10_common_33 : decode cX10_common 33 = .ok (.ifCond .eq 27, 3) := by decide +kernel
theorem dX10_common_36 : decode cX10_common 36 = .ok (.iload_n 3, 1) := by decide +kernel
theorem dX10_common_37 : decode cX10_common 37 = .ok (.iconst (-1), 1) := by decide +kernel
theorem dX10_common_38 : decode cX10_common 38 = .ok (.if_icmp .eq 17, 3) := by decide +kernel
theorem dX10_common_41 : decode cX10_common 41 = .ok (.aload_n 0, 1) := by decide +kernel
theorem dX10_common_42 : decode cX10_common 42 = .ok (.iload 4, 2) := by decide +kernel
theorem dX10_common_44 : decode cX10_common 44 = .ok (.invokevirtual 125, 3) := by decide +kernel
theorem dX10_common_47 : decode cX10_common 47 = .ok (.aload_n 0, 1) := by decide +kernel
theorem dX10_common_48 : decode cX10_common 48 = .ok (.iload_n 3, 1) := by decide +kernel
theorem dX10_common_49 : decode cX10_common 49 = .ok (.invokevirtual 125, 3) := by decide +kernel
theorem dX10_common_52 : decode cX10_common 52 = .ok (.if_icmp .le 8, 3) := by decide +kernel
theorem dX10_common_55 : decode cX10_common 55 = .ok (.iload 4, 2) := by decide +kernel
theorem dX10_common_57 : decode cX10_common 57 = .ok (.goto 4, 3) := by decide +kernel
theorem dX10_common_60 : decode cX10_common 60 = .ok (.iload_n 3, 1) := by decide +kernel
theorem dX10_common_61 : decode cX10_common 61 = .ok (.istore_n 3, 1) := by decide +kernel
theorem dX10_common_62 : decode cX10_common 62 = .ok (.iinc 4 1, 3) := by decide +kernel
theorem dX10_common_65 : decode cX10_common 65 = .ok (.goto (-60), 3) := by decide +kernel
theorem dX10_common_68 : decode cX10_common 68 = .ok (.iload_n 3, 1) := by decide +kernel
theorem dX10_common_69 : decode cX10_common 69 = .ok (.ireturn, 1) := by decide +kernel
set_option maxHeartbeats 2000000 in
set_option maxRecDepth 20000 in
theorem m_common (l : Launch) (D : va_G) (aT : Nat → ClassId) (ad : Nat → Nat) (S : MSt) (n : Nat) (idn : Nat → Nat) (pr : Nat → Option Nat) (tn : Nat → Nat) (hF : FoR (S 0) n idn pr tn) (a b : Nat) (ha : a < n) (hb2 : b < n) : MdG l yX10_common cX10_common 5 .int 4 88 D aT ad [.ref (ad 0), .int (nI a), .int (nI b)] S (fun r => r = oi (cmF pr a b n)) := by
  refine MdI.of (by decide +kernel) rfl (Nat.le_of_ble_eq_true rfl) ?_
  intro p e s m below meth c A ls C hml hl hA hr hlocks hW
  have hl : lv_has ls 5 [(0, .ref (ad 0)), (1, .int (nI a)), (2, .int (nI b))] := hl
  have hx := C.1
  have hb := C.2.1
  refine lv_iconst (v := (-1)) hx hb dX10_common_0 (by decide) ?_
  refine lv_istore_n (lv' := [(3, .int (-1)), (0, .ref (ad 0)), (1, .int (nI a)), (2, .int (nI b))]) hx hb dX10_common_1 rfl hl (by decide) rfl (fun ls hl => ?_)
  refine lv_iconst (v := nI 0) hx hb dX10_common_2 (by decide) ?_
  refine lv_istore (lv' := [(4, .int (nI 0)), (3, .int (-1)), (0, .ref (ad 0)), (1, .int (nI a)), (2, .int (nI b))]) hx hb dX10_common_3 hl (by decide) rfl (fun ls hl => ?_)
  refine W_loopH (σ := Option Nat × Nat) (fun z_ => n - z_.2) (fun z_ H locs g => ∃ ls, g = F0 m 5 ls [] ∧ lv_has ls 5 [(0, .ref (ad 0)), (1, .int (nI a)), (2, .int (nI b)), (3, .int (oi z_.1)), (4, .int (nI z_.2))] ∧ MdB D aT ad S A s.heap H locs ∧ (z_.1 = cmF pr a b z_.2 ∧ (∀ j, z_.1 = some j → j < z_.2) ∧ z_.2 ≤ n)) ?_ (none, 0) _ ⟨_, rfl, lv_sub hl [2, 3, 4, 1, 0] rfl, hW, ⟨rfl, (fun j hj => by cases hj), Nat.zero_le _⟩⟩
  clear hW hl
  rintro ⟨f, k⟩ H locs g ⟨ls, rfl, hl, hW, hi, hlim, hkn⟩ ih_5
  dsimp only at hl hW hi hlim hkn ⊢
  have h12 := hF.2.1
  refine lv_iload hx hb dX10_common_5 (lv_at hl 4 rfl) ?_
  refine lv_aload_n hx hb dX10_common_7 rfl (lv_at hl 0 rfl) ?_
  refine md_geta_m C hW dX10_common_8 ?_
  refine lv_iconst (v := nI 2) hx hb dX10_common_11 (by decide) ?_
  refine md_ald_m C hW (i := 2) (by omega) dX10_common_12 ?_
  refine r_eq (y := (nI n)) (hF.1) ?_
  refine r_geN hx hb (a := k) (b := n) (by omega) (by omega) (tgt := 68) dX10_common_13 (by decide) (fun c_13 => ?_) (fun c_13 => ?_)
  · refine lv_iload_n hx hb dX10_common_68 rfl (lv_at hl 3 rfl) ?_
    exact md_iret C hr hlocks rfl hW (⟨by rw [hi, show k = n by omega], rfl⟩) dX10_common_69
  · refine lv_aload_n hx hb dX10_common_16 rfl (lv_at hl 0 rfl) ?_
    refine lv_iload_n hx hb dX10_common_17 rfl (lv_at hl 1 rfl) ?_
    refine lv_iload hx hb dX10_common_18 (lv_at hl 4 rfl) ?_
    refine md_callg C hml hl.1 (As := [.int (nI a), .int (nI k)]) (rest := []) (m_isIn l D aT ad S n idn pr tn hF a k (ha) (by omega)) gT_isIn hd_isIn rfl ⟨Nat.le_of_ble_eq_true rfl, Nat.le_of_ble_eq_true rfl⟩ ⟨Nat.le_refl _, Nat.le_refl _⟩ hW hA rfl (Nat.le_of_ble_eq_true rfl) dX10_common_20 (fun r_20 H locs hq hW => ?_)
    subst hq
    refine r_bI_eq hx hb (b := (anc pr k a)) (tgt := 60) dX10_common_23 (by decide) (fun c_23 => ?_) (fun c_23 => ?_)
    · refine lv_iload_n hx hb dX10_common_60 rfl (lv_at hl 3 rfl) ?_
      refine lv_istore_n (lv' := [(3, .int (oi f)), (0, .ref (ad 0)), (1, .int (nI a)), (2, .int (nI b)), (4, .int (nI k))]) hx hb dX10_common_61 rfl hl (by decide) rfl (fun ls hl => ?_)
      refine lv_iinc (v := (nI (k + 1))) (lv' := [(4, .int (nI (k + 1))), (3, .int (oi f)), (0, .ref (ad 0)), (1, .int (nI a)), (2, .int (nI b))]) hx hb dX10_common_62 hl (k := 4) rfl (nI_1 _) (by decide) rfl (fun ls hl => ?_)
      refine lv_goto (tgt := 5) hx hb dX10_common_65 (by decide) ?_
      exact ih_5 (f, (k + 1)) _ _ _ (by dsimp only; omega) ⟨_, rfl, lv_sub hl [2, 3, 4, 1, 0] rfl, hW, ⟨by rw [cmF_no1 c_23]; exact hi, by intro j hj; first | (have := hlim j hj; dsimp only; omega) | (cases hj; dsimp only; omega) | (have := hlim _ rfl; cases hj; dsimp only; omega), by (try dsimp only); omega⟩⟩
    · refine lv_aload_n hx hb dX10_common_26 rfl (lv_at hl 0 rfl) ?_
      refine lv_iload_n hx hb dX10_common_27 rfl (lv_at hl 2 rfl) ?_
      refine lv_iload hx hb dX10_common_28 (lv_at hl 4 rfl) ?_
      refine md_callg C hml hl.1 (As := [.int (nI b), .int (nI k)]) (rest := []) (m_isIn l D aT ad S n idn pr tn hF b k (hb2) (by omega)) gT_isIn hd_isIn rfl ⟨Nat.le_of_ble_eq_true rfl, Nat.le_of_ble_eq_true rfl⟩ ⟨Nat.le_refl _, Nat.le_refl _⟩ hW hA rfl (Nat.le_of_ble_eq_true rfl) dX10_common_30 (fun r_30 H locs hq hW => ?_)
      subst hq
      refine r_bI_eq hx hb (b := (anc pr k b)) (tgt := 60) dX10_common_33 (by decide) (fun c_33 => ?_) (fun c_33 => ?_)
      · refine lv_iload_n hx hb dX10_common_60 rfl (lv_at hl 3 rfl) ?_
        refine lv_istore_n (lv' := [(3, .int (oi f)), (0, .ref (ad 0)), (1, .int (nI a)), (2, .int (nI b)), (4, .int (nI k))]) hx hb dX10_common_61 rfl hl (by decide) rfl (fun ls hl => ?_)
        refine lv_iinc (v := (nI (k + 1))) (lv' := [(4, .int (nI (k + 1))), (3, .int (oi f)), (0, .ref (ad 0)), (1, .int (nI a)), (2, .int (nI b))]) hx hb dX10_common_62 hl (k := 4) rfl (nI_1 _) (by decide) rfl (fun ls hl => ?_)
        refine lv_goto (tgt := 5) hx hb dX10_common_65 (by decide) ?_
        exact ih_5 (f, (k + 1)) _ _ _ (by dsimp only; omega) ⟨_, rfl, lv_sub hl [2, 3, 4, 1, 0] rfl, hW, ⟨by rw [cmF_no2 c_33]; exact hi, by intro j hj; first | (have := hlim j hj; dsimp only; omega) | (cases hj; dsimp only; omega) | (have := hlim _ rfl; cases hj; dsimp only; omega), by (try dsimp only); omega⟩⟩
      · refine lv_iload_n hx hb dX10_common_36 rfl (lv_at hl 3 rfl) ?_
        refine lv_iconst (v := (-1)) hx hb dX10_common_37 (by decide) ?_
        refine r_oi_eq hx hb (o := f) (fun j hj => by have := hlim j hj; omega) (tgt := 55) dX10_common_38 (by decide) (fun c_38 => ?_) (fun j_38 c_38 => ?_)
        · subst c_38
          have hl : lv_has ls 5 [(0, .ref (ad 0)), (1, .int (nI a)), (2, .int (nI b)), (3, .int (-1)), (4, .int (nI k))] := hl
          refine lv_iload hx hb dX10_common_55 (lv_at hl 4 rfl) ?_
          refine lv_goto (tgt := 61) hx hb dX10_common_57 (by decide) ?_
          refine lv_istore_n (lv' := [(3, .int (nI k)), (0, .ref (ad 0)), (1, .int (nI a)), (2, .int (nI b)), (4, .int (nI k))]) hx hb dX10_common_61 rfl hl (by decide) rfl (fun ls hl => ?_)
          refine lv_iinc (v := (nI (k + 1))) (lv' := [(4, .int (nI (k + 1))), (3, .int (nI k)), (0, .ref (ad 0)), (1, .int (nI a)), (2, .int (nI b))]) hx hb dX10_common_62 hl (k := 4) rfl (nI_1 _) (by decide) rfl (fun ls hl => ?_)
          refine lv_goto (tgt := 5) hx hb dX10_common_65 (by decide) ?_
          exact ih_5 ((some k), (k + 1)) _ _ _ (by dsimp only; omega) ⟨_, rfl, lv_sub hl [2, 3, 4, 1, 0] rfl, hW, ⟨by rw [cmF_y0 c_23 c_33 hi.symm], by intro j hj; first | (have := hlim j hj; dsimp only; omega) | (cases hj; dsimp only; omega) | (have := hlim _ rfl; cases hj; dsimp only; omega), by (try dsimp only); omega⟩⟩
        · subst c_38
          have hl : lv_has ls 5 [(0, .ref (ad 0)), (1, .int (nI a)), (2, .int (nI b)), (3, .int (nI j_38)), (4, .int (nI k))] := hl
          refine lv_aload_n hx hb dX10_common_41 rfl (lv_at hl 0 rfl) ?_
          refine lv_iload hx hb dX10_common_42 (lv_at hl 4 rfl) ?_
          refine md_callg C hml hl.1 (As := [.int (nI k)]) (rest := []) (m_deep l D aT ad S n idn pr tn hF k (by omega)) gT_deep hd_deep rfl ⟨Nat.le_of_ble_eq_true rfl, Nat.le_of_ble_eq_true rfl⟩ ⟨Nat.le_refl _, Nat.le_refl _⟩ hW hA rfl (Nat.le_of_ble_eq_true rfl) dX10_common_44 (fun r_44 H locs hq hW => ?_)
          subst hq
          refine lv_aload_n hx hb dX10_common_47 rfl (lv_at hl 0 rfl) ?_
          refine lv_iload_n hx hb dX10_common_48 rfl (lv_at hl 3 rfl) ?_
          refine md_callg C hml hl.1 (As := [.int (nI j_38)]) (rest := [.int (nI (dep pr k))]) (m_deep l D aT ad S n idn pr tn hF j_38 (by have := hlim _ rfl; omega)) gT_deep hd_deep rfl ⟨Nat.le_of_ble_eq_true rfl, Nat.le_of_ble_eq_true rfl⟩ ⟨Nat.le_refl _, Nat.le_refl _⟩ hW hA rfl (Nat.le_of_ble_eq_true rfl) dX10_common_49 (fun r_49 H locs hq hW => ?_)
          subst hq
          refine r_leN hx hb (a := (dep pr k)) (b := (dep pr j_38)) (by first | exact Nat.lt_of_le_of_lt (dep_le hF.ok k (by omega)) (by omega) | exact Nat.lt_of_le_of_lt (dep_le hF.ok j_38 (by have := hlim _ rfl; omega)) (by have := hlim _ rfl; omega)) (by first | exact Nat.lt_of_le_of_lt (dep_le hF.ok k (by omega)) (by omega) | exact Nat.lt_of_le_of_lt (dep_le hF.ok j_38 (by have := hlim _ rfl; omega)) (by have := hlim _ rfl; omega)) (tgt := 60) dX10_common_52 (by decide) (fun c_52 => ?_) (fun c_52 => ?_)
          · refine lv_iload_n hx hb dX10_common_60 rfl (lv_at hl 3 rfl) ?_
            refine lv_istore_n (lv' := [(3, .int (nI j_38)), (0, .ref (ad 0)), (1, .int (nI a)), (2, .int (nI b)), (4, .int (nI k))]) hx hb dX10_common_61 rfl hl (by decide) rfl (fun ls hl => ?_)
            refine lv_iinc (v := (nI (k + 1))) (lv' := [(4, .int (nI (k + 1))), (3, .int (nI j_38)), (0, .ref (ad 0)), (1, .int (nI a)), (2, .int (nI b))]) hx hb dX10_common_62 hl (k := 4) rfl (nI_1 _) (by decide) rfl (fun ls hl => ?_)
            refine lv_goto (tgt := 5) hx hb dX10_common_65 (by decide) ?_
            exact ih_5 ((some j_38), (k + 1)) _ _ _ (by dsimp only; omega) ⟨_, rfl, lv_sub hl [2, 3, 4, 1, 0] rfl, hW, ⟨by rw [cmF_no3 hi.symm c_52]; exact hi, by intro j hj; first | (have := hlim j hj; dsimp only; omega) | (cases hj; dsimp only; omega) | (have := hlim _ rfl; cases hj; dsimp only; omega), by (try dsimp only); omega⟩⟩
          · refine lv_iload hx hb dX10_common_55 (lv_at hl 4 rfl) ?_
            refine lv_goto (tgt := 61) hx hb dX10_common_57 (by decide) ?_
            refine lv_istore_n (lv' := [(3, .int (nI k)), (0, .ref (ad 0)), (1, .int (nI a)), (2, .int (nI b)), (4, .int (nI k))]) hx hb dX10_common_61 rfl hl (by decide) rfl (fun ls hl => ?_)
            refine lv_iinc (v := (nI (k + 1))) (lv' := [(4, .int (nI (k + 1))), (3, .int (nI k)), (0, .ref (ad 0)), (1, .int (nI a)), (2, .int (nI b))]) hx hb dX10_common_62 hl (k := 4) rfl (nI_1 _) (by decide) rfl (fun ls hl => ?_)
            refine lv_goto (tgt := 5) hx hb dX10_common_65 (by decide) ?_
            exact ih_5 ((some k), (k + 1)) _ _ _ (by dsimp only; omega) ⟨_, rfl, lv_sub hl [2, 3, 4, 1, 0] rfl, hW, ⟨by rw [cmF_y1 c_23 c_33 hi.symm c_52], by intro j hj; first | (have := hlim j hj; dsimp only; omega) | (cases hj; dsimp only; omega) | (have := hlim _ rfl; cases hj; dsimp only; omega), by (try dsimp only); omega⟩⟩
theorem gT_commonMotion : GoodIn gw (wsV RX10 181 RX10 yX10_commonMotion (Cond.code yX10_commonMotion cX10_commonMotion 6 (some .int) :: gw)) := gdV gw_1932 gw_1921 gw_1922 gw_81 gw_1923
theorem hd_commonMotion : yX10_commonMotion.cls = RX10 ∧ yX10_commonMotion.cls ≠ "java/lang/invoke/MethodHandle" ∧ yX10_commonMotion.cls ≠ "java/lang/invoke/VarHandle" ∧ (parseMethodDescriptor yX10_commonMotion.desc).map (fun d => d.parameters.length) = some 2 := ⟨rfl, by decide +kernel, by decide +kernel, by decide +kernel⟩
theorem dX10_commonMotion_0 : decode cX10_commonMotion 0 = .ok (.aload_n 0, 1) := by decide +kernel
theorem dX10_commonMotion_1 : decode cX10_commonMotion 1 = .ok (.iconst 0, 1) := by decide +kernel
theorem dX10_commonMotion_2 : decode cX10_commonMotion 2 = .ok (.putfield 57, 3) := by decide +kernel
theorem dX10_commonMotion_5 : decode cX10_commonMotion 5 = .ok (.aload_n 0, 1) := by decide +kernel
theorem dX10_commonMotion_6 : decode cX10_commonMotion 6 = .ok (.iload_n 1, 1) := by decide +kernel
theorem dX10_commonMotion_7 : decode cX10_commonMotion 7 = .ok (.invokevirtual 71, 3) := by decide +kernel
theorem dX10_commonMotion_10 : decode cX10_commonMotion 10 = .ok (.istore_n 3, 1) := by decide +kernel
theorem dX10_commonMotion_11 : decode cX10_commonMotion 11 = .ok (.aload_n 0, 1) := by decide +kernel
theorem dX10_commonMotion_12 : decode cX10_commonMotion 12 = .ok (.iload_n 2, 1) := by decide +kernel
theorem dX10_commonMotion_13 : decode cX10_commonMotion 13 = .ok (.invokevirtual 71, 3) := by decide +kernel
theorem dX10_commonMotion_16 : decode cX10_commonMotion 16 = .ok (.istore 4, 2) := by decide +kernel
theorem dX10_commonMotion_18 : decode cX10_commonMotion 18 = .ok (.iload_n 3, 1) := by decide +kernel
theorem dX10_commonMotion_19 : decode cX10_commonMotion 19 = .ok (.iconst (-1), 1) := by decide +kernel
theorem dX10_commonMotion_20 : decode cX10_commonMotion 20 = .ok (.if_icmp .eq 9, 3) := by decide +kernel
theorem dX10_commonMotion_23 : decode cX10_commonMotion 23 = .ok (.iload 4, 2) := by decide +kernel
theorem dX10_commonMotion_25 : decode cX10_commonMotion 25 = .ok (.iconst (-1), 1) := by decide +kernel
theorem dX10_commonMotion_26 : decode cX10_commonMotion 26 = .ok (.if_icmp .ne 9, 3) := by decide +kernel
theorem dX10_commonMotion_29 : decode cX10_commonMotion 29 = .ok (.aload_n 0, 1) := by decide +kernel
theorem dX10_commonMotion_30 : decode cX10_commonMotion 30 = .ok (.iconst 1, 1) := by decide +kernel
theorem dX10_commonMotion_31 : decode cX10_commonMotion 31 = .ok (.invokevirtual 101, 3) := by decide +kernel
theorem dX10_commonMotion_34 : decode cX10_commonMotion 34 = .ok (.ireturn, 1) := by decide +kernel
theorem dX10_commonMotion_35 : decode cX10_commonMotion 35 = .ok (.aload_n 0, 1) := by decide +kernel
theorem dX10_commonMotion_36 : decode cX10_commonMotion 36 = .ok (.iload_n 3, 1) := by decide +kernel
theorem dX10_commonMotion_37 : decode cX10_commonMotion 37 = .ok (.iload 4, 2) := by decide +kernel
theorem dX10_commonMotion_39 : decode cX10_commonMotion 39 = .ok (.invokevirtual 178, 3) := by decide +kernel
theorem dX10_commonMotion_42 : decode cX10_commonMotion 42 = .ok (.istore 5, 2) := by decide +kernel
theorem dX10_commonMotion_44 : decode cX10_commonMotion 44 = .ok (.iload 5, 2) := by decide +kernel
theorem dX10_commonMotion_46 : decode cX10_commonMotion 46 = .ok (.iconst (-1), 1) := by decide +kernel
theorem dX10_commonMotion_47 : decode cX10_commonMotion 47 = .ok (.if_icmp .ne 11, 3) := by decide +kernel
theorem dX10_commonMotion_50 : decode cX10_commonMotion 50 = .ok (.aload_n 0, 1) := by decide +kernel
theorem dX10_commonMotion_51 : decode cX10_commonMotion 51 = .ok (.iconst 2, 1) := by decide +kernel
theorem dX10_commonMotion_52 : decode cX10_commonMotion 52 = .ok (.invokevirtual 101, 3) := by decide +kernel
theorem dX10_commonMotion_55 : decode cX10_commonMotion 55 = .ok (.goto 10, 3) := by decide +kernel
theorem dX10_commonMotion_58 : decode cX10_commonMotion 58 = .ok (.aload_n 0, 1) := by decide +kernel
theorem dX10_commonMotion_59 : decode cX10_commonMotion 59 = .ok (.iload 5, 2) := by decide +kernel
theorem dX10_commonMotion_61 : decode cX10_commonMotion 61 = .ok (.iconst 0, 1) := by decide +kernel
theorem dX10_commonMotion_62 : decode cX10_commonMotion 62 = .ok (.invokevirtual 67, 3) := by decide +kernel
theorem dX10_commonMotion_65 : decode cX10_commonMotion 65 = .ok (.ireturn, 1) := by decide +kernel
set_option maxHeartbeats 1000000 in
set_option maxRecDepth 20000 in
theorem m_commonMotion (l : Launch) (D : va_G) (aT : Nat → ClassId) (ad : Nat → Nat) (S : MSt) (x y : Int32) (hF : FoW (S 0)) : MdI l yX10_commonMotion cX10_commonMotion 6 .int 5 112 D aT ad [.ref (ad 0), .int x, .int y] S (fun r S1 => ((fnd (fun k => S 0 (29 + 4 * k)) x (nM (S 0)) = none ∨ fnd (fun k => S 0 (29 + 4 * k)) y (nM (S 0)) = none) ∧ r = -1 ∧ S1 = ss S 8 (nI 1)) ∨ (∃ a b, fnd (fun k => S 0 (29 + 4 * k)) x (nM (S 0)) = some a ∧ fnd (fun k => S 0 (29 + 4 * k)) y (nM (S 0)) = some b ∧ cmF (prM (S 0)) a b (nM (S 0)) = none ∧ r = -1 ∧ S1 = ss S 8 (nI 2)) ∨ (∃ a b k, fnd (fun k => S 0 (29 + 4 * k)) x (nM (S 0)) = some a ∧ fnd (fun k => S 0 (29 + 4 * k)) y (nM (S 0)) = some b ∧ cmF (prM (S 0)) a b (nM (S 0)) = some k ∧ r = S 0 (29 + 4 * k) ∧ S1 = ss S 8 (nI 0))) := by
  refine MdI.of (by decide +kernel) rfl (Nat.le_of_ble_eq_true rfl) ?_
  intro p e s m below meth c A ls C hml hl hA hr hlocks hW
  have hl : lv_has ls 6 [(0, .ref (ad 0)), (1, .int x), (2, .int y)] := hl
  have hx := C.1
  have hb := C.2.1
  refine lv_aload_n hx hb dX10_commonMotion_0 rfl (lv_at hl 0 rfl) ?_
  refine lv_iconst (v := nI 0) hx hb dX10_commonMotion_1 (by decide) ?_
  refine md_put_thrown C hW dX10_commonMotion_2 (fun H locs hW => ?_)
  refine lv_aload_n hx hb dX10_commonMotion_5 rfl (lv_at hl 0 rfl) ?_
  refine lv_iload_n hx hb dX10_commonMotion_6 rfl (lv_at hl 1 rfl) ?_
  refine md_callg C hml hl.1 (As := [.int x]) (rest := []) (m_find l D aT ad (ss S 8 (nI 0)) (x) (nM (S 0)) hF.1 hF.2.1) gT_find hd_find rfl ⟨Nat.le_of_ble_eq_true rfl, Nat.le_of_ble_eq_true rfl⟩ ⟨Nat.le_refl _, Nat.le_refl _⟩ hW hA rfl (Nat.le_of_ble_eq_true rfl) dX10_commonMotion_7 (fun r_7 H locs hq hW => ?_)
  subst hq
  refine lv_istore_n (lv' := [(3, .int (oi (fnd (fun k => (ss S 8 (nI 0)) 0 (29 + 4 * k)) (x) (nM (S 0))))), (0, .ref (ad 0)), (1, .int x), (2, .int y)]) hx hb dX10_commonMotion_10 rfl hl (by decide) rfl (fun ls hl => ?_)
  refine lv_aload_n hx hb dX10_commonMotion_11 rfl (lv_at hl 1 rfl) ?_
  refine lv_iload_n hx hb dX10_commonMotion_12 rfl (lv_at hl 3 rfl) ?_
  refine md_callg C hml hl.1 (As := [.int y]) (rest := []) (m_find l D aT ad (ss S 8 (nI 0)) (y) (nM (S 0)) hF.1 hF.2.1) gT_find hd_find rfl ⟨Nat.le_of_ble_eq_true rfl, Nat.le_of_ble_eq_true rfl⟩ ⟨Nat.le_refl _, Nat.le_refl _⟩ hW hA rfl (Nat.le_of_ble_eq_true rfl) dX10_commonMotion_13 (fun r_13 H locs hq hW => ?_)
  subst hq
  refine lv_istore (lv' := [(4, .int (oi (fnd (fun k => (ss S 8 (nI 0)) 0 (29 + 4 * k)) (y) (nM (S 0))))), (3, .int (oi (fnd (fun k => (ss S 8 (nI 0)) 0 (29 + 4 * k)) (x) (nM (S 0))))), (0, .ref (ad 0)), (1, .int x), (2, .int y)]) hx hb dX10_commonMotion_16 hl (by decide) rfl (fun ls hl => ?_)
  refine lv_iload_n hx hb dX10_commonMotion_18 rfl (lv_at hl 1 rfl) ?_
  refine lv_iconst (v := (-1)) hx hb dX10_commonMotion_19 (by decide) ?_
  refine r_oi_eq hx hb (o := (fnd (fun k => (ss S 8 (nI 0)) 0 (29 + 4 * k)) (x) (nM (S 0)))) (fun j hj => by have := (fnd_some hj).1; have := hF.n12; omega) (tgt := 29) dX10_commonMotion_20 (by decide) (fun c_20 => ?_) (fun j_20 c_20 => ?_)
  · have hl : lv_has ls 6 [(4, .int (oi (fnd (fun k => (ss S 8 (nI 0)) 0 (29 + 4 * k)) (y) (nM (S 0))))), (3, .int (-1)), (0, .ref (ad 0)), (1, .int x), (2, .int y)] := by rw [c_20] at hl; exact hl
    refine lv_aload_n hx hb dX10_commonMotion_29 rfl (lv_at hl 2 rfl) ?_
    refine lv_iconst (v := nI 1) hx hb dX10_commonMotion_30 (by decide) ?_
    refine md_calli C hml hl.1 (As := [.int (nI 1)]) (rest := []) (m_throwing l D aT ad (ss S 8 (nI 0)) 1) gT_throwing hd_throwing rfl ⟨Nat.le_of_ble_eq_true rfl, Nat.le_of_ble_eq_true rfl⟩ ⟨Nat.le_refl _, Nat.le_refl _⟩ hW hA rfl (Nat.le_of_ble_eq_true rfl) dX10_commonMotion_31 (fun r_31 S_31 H locs hq hW => ?_)
    obtain ⟨rfl, rfl⟩ := hq
    exact md_iret C hr hlocks rfl hW (Or.inl ⟨Or.inl c_20, rfl, ss_ss _ _ _ _⟩) dX10_commonMotion_34
  · have hl : lv_has ls 6 [(4, .int (oi (fnd (fun k => (ss S 8 (nI 0)) 0 (29 + 4 * k)) (y) (nM (S 0))))), (3, .int (nI j_20)), (0, .ref (ad 0)), (1, .int x), (2, .int y)] := by rw [c_20] at hl; exact hl
    have hq1 := (fnd_some c_20).1
    have h12 := hF.n12
    refine lv_iload hx hb dX10_commonMotion_23 (lv_at hl 0 rfl) ?_
    refine lv_iconst (v := (-1)) hx hb dX10_commonMotion_25 (by decide) ?_
    refine r_oi_ne hx hb (o := (fnd (fun k => (ss S 8 (nI 0)) 0 (29 + 4 * k)) (y) (nM (S 0)))) (fun j hj => by have := (fnd_some hj).1; have := hF.n12; omega) (tgt := 35) dX10_commonMotion_26 (by decide) (fun j_26 c_26 => ?_) (fun c_26 => ?_)
    · have hl : lv_has ls 6 [(4, .int (nI j_26)), (3, .int (nI j_20)), (0, .ref (ad 0)), (1, .int x), (2, .int y)] := by rw [c_26] at hl; exact hl
      have hq2 := (fnd_some c_26).1
      refine lv_aload_n hx hb dX10_commonMotion_35 rfl (lv_at hl 2 rfl) ?_
      refine lv_iload_n hx hb dX10_commonMotion_36 rfl (lv_at hl 1 rfl) ?_
      refine lv_iload hx hb dX10_commonMotion_37 (lv_at hl 0 rfl) ?_
      refine md_callg C hml hl.1 (As := [.int (nI j_20), .int (nI j_26)]) (rest := []) (m_common l D aT ad (ss S 8 (nI 0)) (nM (S 0)) (idM (S 0)) (prM (S 0)) (tnM (S 0)) hF j_20 j_26 (hq1) (hq2)) gT_common hd_common rfl ⟨Nat.le_of_ble_eq_true rfl, Nat.le_of_ble_eq_true rfl⟩ ⟨Nat.le_refl _, Nat.le_refl _⟩ hW hA rfl (Nat.le_of_ble_eq_true rfl) dX10_commonMotion_39 (fun r_39 H locs hq hW => ?_)
      subst hq
      refine lv_istore (lv' := [(5, .int (oi (cmF (prM (S 0)) j_20 j_26 (nM (S 0))))), (4, .int (nI j_26)), (3, .int (nI j_20)), (0, .ref (ad 0)), (1, .int x), (2, .int y)]) hx hb dX10_commonMotion_42 hl (by decide) rfl (fun ls hl => ?_)
      refine lv_iload hx hb dX10_commonMotion_44 (lv_at hl 0 rfl) ?_
      refine lv_iconst (v := (-1)) hx hb dX10_commonMotion_46 (by decide) ?_
      refine r_oi_ne hx hb (o := (cmF (prM (S 0)) j_20 j_26 (nM (S 0)))) (fun j hj => by have := (cmF_at hj).1; have := hF.n12; omega) (tgt := 58) dX10_commonMotion_47 (by decide) (fun j_47 c_47 => ?_) (fun c_47 => ?_)
      · have hl : lv_has ls 6 [(5, .int (nI j_47)), (4, .int (nI j_26)), (3, .int (nI j_20)), (0, .ref (ad 0)), (1, .int x), (2, .int y)] := by rw [c_47] at hl; exact hl
        have hq3 := (cmF_at c_47).1
        refine lv_aload_n hx hb dX10_commonMotion_58 rfl (lv_at hl 3 rfl) ?_
        refine lv_iload hx hb dX10_commonMotion_59 (lv_at hl 0 rfl) ?_
        refine lv_iconst (v := nI 0) hx hb dX10_commonMotion_61 (by decide) ?_
        refine md_callg C hml hl.1 (As := [.int (nI j_47), .int (nI 0)]) (rest := []) (m_of l D aT ad (ss S 8 (nI 0)) j_47 0 (by omega)) gT_of hd_of rfl ⟨Nat.le_of_ble_eq_true rfl, Nat.le_of_ble_eq_true rfl⟩ ⟨Nat.le_refl _, Nat.le_refl _⟩ hW hA rfl (Nat.le_of_ble_eq_true rfl) dX10_commonMotion_62 (fun r_62 H locs hq hW => ?_)
        subst hq
        refine r_eq (y := (S 0 (29 + 4 * j_47))) (rfl) ?_
        exact md_iret C hr hlocks rfl hW (Or.inr (Or.inr ⟨j_20, j_26, j_47, c_20, c_26, c_47, rfl, rfl⟩)) dX10_commonMotion_65
      · have hl : lv_has ls 6 [(5, .int (-1)), (4, .int (nI j_26)), (3, .int (nI j_20)), (0, .ref (ad 0)), (1, .int x), (2, .int y)] := by rw [c_47] at hl; exact hl
        refine lv_aload_n hx hb dX10_commonMotion_50 rfl (lv_at hl 3 rfl) ?_
        refine lv_iconst (v := nI 2) hx hb dX10_commonMotion_51 (by decide) ?_
        refine md_calli C hml hl.1 (As := [.int (nI 2)]) (rest := []) (m_throwing l D aT ad (ss S 8 (nI 0)) 2) gT_throwing hd_throwing rfl ⟨Nat.le_of_ble_eq_true rfl, Nat.le_of_ble_eq_true rfl⟩ ⟨Nat.le_refl _, Nat.le_refl _⟩ hW hA rfl (Nat.le_of_ble_eq_true rfl) dX10_commonMotion_52 (fun r_52 S_52 H locs hq hW => ?_)
        obtain ⟨rfl, rfl⟩ := hq
        refine lv_goto (tgt := 65) hx hb dX10_commonMotion_55 (by decide) ?_
        exact md_iret C hr hlocks rfl hW (Or.inr (Or.inl ⟨j_20, j_26, c_20, c_26, c_47, rfl, ss_ss _ _ _ _⟩)) dX10_commonMotion_65
    · have hl : lv_has ls 6 [(4, .int (-1)), (3, .int (nI j_20)), (0, .ref (ad 0)), (1, .int x), (2, .int y)] := by rw [c_26] at hl; exact hl
      refine lv_aload_n hx hb dX10_commonMotion_29 rfl (lv_at hl 2 rfl) ?_
      refine lv_iconst (v := nI 1) hx hb dX10_commonMotion_30 (by decide) ?_
      refine md_calli C hml hl.1 (As := [.int (nI 1)]) (rest := []) (m_throwing l D aT ad (ss S 8 (nI 0)) 1) gT_throwing hd_throwing rfl ⟨Nat.le_of_ble_eq_true rfl, Nat.le_of_ble_eq_true rfl⟩ ⟨Nat.le_refl _, Nat.le_refl _⟩ hW hA rfl (Nat.le_of_ble_eq_true rfl) dX10_commonMotion_31 (fun r_31 S_31 H locs hq hW => ?_)
      obtain ⟨rfl, rfl⟩ := hq
      exact md_iret C hr hlocks rfl hW (Or.inl ⟨Or.inr c_26, rfl, ss_ss _ _ _ _⟩) dX10_commonMotion_34
theorem dX10_commonMotionByRows_0 : decode cX10_commonMotionByRows 0 = .ok (.aload_n 0, 1) := by decide +kernel
theorem dX10_commonMotionByRows_1 : decode cX10_commonMotionByRows 1 = .ok (.iload_n 1, 1) := by decide +kernel
theorem dX10_commonMotionByRows_2 : decode cX10_commonMotionByRows 2 = .ok (.iload_n 2, 1) := by decide +kernel
theorem dX10_commonMotionByRows_3 : decode cX10_commonMotionByRows 3 = .ok (.invokevirtual 181, 3) := by decide +kernel
theorem dX10_commonMotionByRows_6 : decode cX10_commonMotionByRows 6 = .ok (.ireturn, 1) := by decide +kernel
set_option maxHeartbeats 1000000 in
set_option maxRecDepth 20000 in
theorem m_commonMotionByRows (l : Launch) (D : va_G) (aT : Nat → ClassId) (ad : Nat → Nat) (S : MSt) (x y : Int32) (hF : FoW (S 0)) : MdI l yX10_commonMotionByRows cX10_commonMotionByRows 3 .int 6 137 D aT ad [.ref (ad 0), .int x, .int y] S (fun r S1 => ((fnd (fun k => S 0 (29 + 4 * k)) x (nM (S 0)) = none ∨ fnd (fun k => S 0 (29 + 4 * k)) y (nM (S 0)) = none) ∧ r = -1 ∧ S1 = ss S 8 (nI 1)) ∨ (∃ a b, fnd (fun k => S 0 (29 + 4 * k)) x (nM (S 0)) = some a ∧ fnd (fun k => S 0 (29 + 4 * k)) y (nM (S 0)) = some b ∧ cmF (prM (S 0)) a b (nM (S 0)) = none ∧ r = -1 ∧ S1 = ss S 8 (nI 2)) ∨ (∃ a b k, fnd (fun k => S 0 (29 + 4 * k)) x (nM (S 0)) = some a ∧ fnd (fun k => S 0 (29 + 4 * k)) y (nM (S 0)) = some b ∧ cmF (prM (S 0)) a b (nM (S 0)) = some k ∧ r = S 0 (29 + 4 * k) ∧ S1 = ss S 8 (nI 0))) := by
  refine MdI.of (by decide +kernel) rfl (Nat.le_of_ble_eq_true rfl) ?_
  intro p e s m below meth c A ls C hml hl hA hr hlocks hW
  have hl : lv_has ls 3 [(0, .ref (ad 0)), (1, .int x), (2, .int y)] := hl
  have hx := C.1
  have hb := C.2.1
  refine lv_aload_n hx hb dX10_commonMotionByRows_0 rfl (lv_at hl 0 rfl) ?_
  refine lv_iload_n hx hb dX10_commonMotionByRows_1 rfl (lv_at hl 1 rfl) ?_
  refine lv_iload_n hx hb dX10_commonMotionByRows_2 rfl (lv_at hl 2 rfl) ?_
  refine md_calli C hml hl.1 (As := [.int x, .int y]) (rest := []) (m_commonMotion l D aT ad S (x) (y) hF) gT_commonMotion hd_commonMotion rfl ⟨Nat.le_of_ble_eq_true rfl, Nat.le_of_ble_eq_true rfl⟩ ⟨Nat.le_refl _, Nat.le_refl _⟩ hW hA rfl (Nat.le_of_ble_eq_true rfl) dX10_commonMotionByRows_3 (fun r_3 S_3 H locs hq hW => ?_)
  rcases hq with ⟨h1, rfl, rfl⟩ | ⟨a, b, h1, h2, h3, rfl, rfl⟩ | ⟨a, b, k, h1, h2, h3, rfl, rfl⟩
  · exact md_iret C hr hlocks rfl hW (Or.inl ⟨h1, rfl, rfl⟩) dX10_commonMotionByRows_6
  · exact md_iret C hr hlocks rfl hW (Or.inr (Or.inl ⟨a, b, h1, h2, h3, rfl, rfl⟩)) dX10_commonMotionByRows_6
  · exact md_iret C hr hlocks rfl hW (Or.inr (Or.inr ⟨a, b, k, h1, h2, h3, rfl, rfl⟩)) dX10_commonMotionByRows_6
theorem gT_steps : GoodIn gw (wsV RX10 184 RX10 yX10_steps (Cond.code yX10_steps cX10_steps 3 (some .int) :: gw)) := gdV gw_1937 gw_1939 gw_50 gw_81 gw_1940
theorem hd_steps : yX10_steps.cls = RX10 ∧ yX10_steps.cls ≠ "java/lang/invoke/MethodHandle" ∧ yX10_steps.cls ≠ "java/lang/invoke/VarHandle" ∧ (parseMethodDescriptor yX10_steps.desc).map (fun d => d.parameters.length) = some 2 := ⟨rfl, by decide +kernel, by decide +kernel, by decide +kernel⟩
theorem dX10_steps_0 : decode cX10_steps 0 = .ok (.aload_n 0, 1) := by decide +kernel
theorem dX10_steps_1 : decode cX10_steps 1 = .ok (.iload_n 1, 1) := by decide +kernel
theorem dX10_steps_2 : decode cX10_steps 2 = .ok (.invokevirtual 125, 3) := by decide +kernel
theorem dX10_steps_5 : decode cX10_steps 5 = .ok (.aload_n 0, 1) := by decide +kernel
theorem dX10_steps_6 : decode cX10_steps 6 = .ok (.iload_n 2, 1) := by decide +kernel
theorem dX10_steps_7 : decode cX10_steps 7 = .ok (.invokevirtual 125, 3) := by decide +kernel
theorem dX10_steps_10 : decode cX10_steps 10 = .ok (.iadd, 1) := by decide +kernel
theorem dX10_steps_11 : decode cX10_steps 11 = .ok (.iconst 2, 1) := by decide +kernel
theorem dX10_steps_12 : decode cX10_steps 12 = .ok (.aload_n 0, 1) := by decide +kernel
theorem dX10_steps_13 : decode cX10_steps 13 = .ok (.aload_n 0, 1) := by decide +kernel
theorem dX10_steps_14 : decode cX10_steps 14 = .ok (.iload_n 1, 1) := by decide +kernel
theorem dX10_steps_15 : decode cX10_steps 15 = .ok (.iload_n 2, 1) := by decide +kernel
theorem dX10_steps_16 : decode cX10_steps 16 = .ok (.invokevirtual 178, 3) := by decide +kernel
theorem dX10_steps_19 : decode cX10_steps 19 = .ok (.invokevirtual 125, 3) := by decide +kernel
theorem dX10_steps_22 : decode cX10_steps 22 = .ok (.imul, 1) := by decide +kernel
theorem dX10_steps_23 : decode cX10_steps 23 = .ok (.isub, 1) := by decide +kernel
theorem dX10_steps_24 : decode cX10_steps 24 = .ok (.ireturn, 1) := by decide +kernel
set_option maxHeartbeats 1000000 in
set_option maxRecDepth 20000 in
theorem m_steps (l : Launch) (D : va_G) (aT : Nat → ClassId) (ad : Nat → Nat) (S : MSt) (n : Nat) (idn : Nat → Nat) (pr : Nat → Option Nat) (tn : Nat → Nat) (hF : FoR (S 0) n idn pr tn) (a b k : Nat) (ha : a < n) (hb2 : b < n) (hk : cmF pr a b n = some k) : MdG l yX10_steps cX10_steps 3 .int 5 112 D aT ad [.ref (ad 0), .int (nI a), .int (nI b)] S (fun r => r = nI (stN pr n a b)) := by
  refine MdI.of (by decide +kernel) rfl (Nat.le_of_ble_eq_true rfl) ?_
  intro p e s m below meth c A ls C hml hl hA hr hlocks hW
  have hl : lv_has ls 3 [(0, .ref (ad 0)), (1, .int (nI a)), (2, .int (nI b))] := hl
  have hx := C.1
  have hb := C.2.1
  refine lv_aload_n hx hb dX10_steps_0 rfl (lv_at hl 0 rfl) ?_
  refine lv_iload_n hx hb dX10_steps_1 rfl (lv_at hl 1 rfl) ?_
  refine md_callg C hml hl.1 (As := [.int (nI a)]) (rest := []) (m_deep l D aT ad S n idn pr tn hF a (ha)) gT_deep hd_deep rfl ⟨Nat.le_of_ble_eq_true rfl, Nat.le_of_ble_eq_true rfl⟩ ⟨Nat.le_refl _, Nat.le_refl _⟩ hW hA rfl (Nat.le_of_ble_eq_true rfl) dX10_steps_2 (fun r_2 H locs hq hW => ?_)
  subst hq
  refine lv_aload_n hx hb dX10_steps_5 rfl (lv_at hl 0 rfl) ?_
  refine lv_iload_n hx hb dX10_steps_6 rfl (lv_at hl 2 rfl) ?_
  refine md_callg C hml hl.1 (As := [.int (nI b)]) (rest := [.int (nI (dep pr a))]) (m_deep l D aT ad S n idn pr tn hF b (hb2)) gT_deep hd_deep rfl ⟨Nat.le_of_ble_eq_true rfl, Nat.le_of_ble_eq_true rfl⟩ ⟨Nat.le_refl _, Nat.le_refl _⟩ hW hA rfl (Nat.le_of_ble_eq_true rfl) dX10_steps_7 (fun r_7 H locs hq hW => ?_)
  subst hq
  refine r_iaddN hx hb (a := (dep pr a)) (b := (dep pr b)) dX10_steps_10 ?_
  refine lv_iconst (v := nI 2) hx hb dX10_steps_11 (by decide) ?_
  refine lv_aload_n hx hb dX10_steps_12 rfl (lv_at hl 0 rfl) ?_
  refine lv_aload_n hx hb dX10_steps_13 rfl (lv_at hl 0 rfl) ?_
  refine lv_iload_n hx hb dX10_steps_14 rfl (lv_at hl 1 rfl) ?_
  refine lv_iload_n hx hb dX10_steps_15 rfl (lv_at hl 2 rfl) ?_
  refine md_callg C hml hl.1 (As := [.int (nI a), .int (nI b)]) (rest := [.ref (ad 0), .int (nI 2), .int (nI (dep pr a + (dep pr b)))]) (m_common l D aT ad S n idn pr tn hF a b (ha) (hb2)) gT_common hd_common rfl ⟨Nat.le_of_ble_eq_true rfl, Nat.le_of_ble_eq_true rfl⟩ ⟨Nat.le_refl _, Nat.le_refl _⟩ hW hA rfl (Nat.le_of_ble_eq_true rfl) dX10_steps_16 (fun r_16 H locs hq hW => ?_)
  subst hq
  refine r_eq (y := (nI k)) (by rw [hk]; rfl) ?_
  refine md_callg C hml hl.1 (As := [.int (nI k)]) (rest := [.int (nI 2), .int (nI (dep pr a + (dep pr b)))]) (m_deep l D aT ad S n idn pr tn hF k ((cmF_at hk).1)) gT_deep hd_deep rfl ⟨Nat.le_of_ble_eq_true rfl, Nat.le_of_ble_eq_true rfl⟩ ⟨Nat.le_refl _, Nat.le_refl _⟩ hW hA rfl (Nat.le_of_ble_eq_true rfl) dX10_steps_19 (fun r_19 H locs hq hW => ?_)
  subst hq
  refine r_imulN hx hb (a := 2) (b := (dep pr k)) dX10_steps_22 ?_
  refine r_isubN hx hb (a := dep pr a + (dep pr b)) (b := 2 * (dep pr k)) (by have := anc_dep hF.ok a ha (cmF_at hk).2.1; have := anc_dep hF.ok b hb2 (cmF_at hk).2.2; omega) dX10_steps_23 ?_
  exact md_iret C hr hlocks rfl hW (⟨by unfold stN; rw [hk], rfl⟩) dX10_steps_24
theorem dX10_pathSize_0 : decode cX10_pathSize 0 = .ok (.aload_n 0, 1) := by decide +kernel
theorem dX10_pathSize_1 : decode cX10_pathSize 1 = .ok (.iload_n 1, 1) := by decide +kernel
theorem dX10_pathSize_2 : decode cX10_pathSize 2 = .ok (.iload_n 2, 1) := by decide +kernel
theorem dX10_pathSize_3 : decode cX10_pathSize 3 = .ok (.invokevirtual 181, 3) := by decide +kernel
theorem dX10_pathSize_6 : decode cX10_pathSize 6 = .ok (.pop, 1) := by decide +kernel
theorem dX10_pathSize_7 : decode cX10_pathSize 7 = .ok (.aload_n 0, 1) := by decide +kernel
theorem dX10_pathSize_8 : decode cX10_pathSize 8 = .ok (.getfield 57, 3) := by decide +kernel
theorem dX10_pathSize_11 : decode cX10_pathSize 11 = .ok (.ifCond .le 7, 3) := by decide +kernel
theorem dX10_pathSize_14 : decode cX10_pathSize 14 = .ok (.iconst (-1), 1) := by decide +kernel
theorem dX10_pathSize_15 : decode cX10_pathSize 15 = .ok (.goto 19, 3) := by decide +kernel
theorem dX10_pathSize_18 : decode cX10_pathSize 18 = .ok (.aload_n 0, 1) := by decide +kernel
theorem dX10_pathSize_19 : decode cX10_pathSize 19 = .ok (.aload_n 0, 1) := by decide +kernel
theorem dX10_pathSize_20 : decode cX10_pathSize 20 = .ok (.iload_n 1, 1) := by decide +kernel
theorem dX10_pathSize_21 : decode cX10_pathSize 21 = .ok (.invokevirtual 71, 3) := by decide +kernel
theorem dX10_pathSize_24 : decode cX10_pathSize 24 = .ok (.aload_n 0, 1) := by decide +kernel
theorem dX10_pathSize_25 : decode cX10_pathSize 25 = .ok (.iload_n 2, 1) := by decide +kernel
theorem dX10_pathSize_26 : decode cX10_pathSize 26 = .ok (.invokevirtual 71, 3) := by decide +kernel
theorem dX10_pathSize_29 : decode cX10_pathSize 29 = .ok (.invokevirtual 184, 3) := by decide +kernel
theorem dX10_pathSize_32 : decode cX10_pathSize 32 = .ok (.iconst 1, 1) := by decide +kernel
theorem dX10_pathSize_33 : decode cX10_pathSize 33 = .ok (.iadd, 1) := by decide +kernel
theorem dX10_pathSize_34 : decode cX10_pathSize 34 = .ok (.ireturn, 1) := by decide +kernel
set_option maxHeartbeats 1000000 in
set_option maxRecDepth 20000 in
theorem m_pathSize (l : Launch) (D : va_G) (aT : Nat → ClassId) (ad : Nat → Nat) (S : MSt) (x y : Int32) (hF : FoW (S 0)) : MdI l yX10_pathSize cX10_pathSize 3 .int 6 137 D aT ad [.ref (ad 0), .int x, .int y] S (fun r S1 => ((fnd (fun k => S 0 (29 + 4 * k)) x (nM (S 0)) = none ∨ fnd (fun k => S 0 (29 + 4 * k)) y (nM (S 0)) = none) ∧ r = -1 ∧ S1 = ss S 8 (nI 1)) ∨ (∃ a b, fnd (fun k => S 0 (29 + 4 * k)) x (nM (S 0)) = some a ∧ fnd (fun k => S 0 (29 + 4 * k)) y (nM (S 0)) = some b ∧ cmF (prM (S 0)) a b (nM (S 0)) = none ∧ r = -1 ∧ S1 = ss S 8 (nI 2)) ∨ (∃ a b k, fnd (fun k => S 0 (29 + 4 * k)) x (nM (S 0)) = some a ∧ fnd (fun k => S 0 (29 + 4 * k)) y (nM (S 0)) = some b ∧ cmF (prM (S 0)) a b (nM (S 0)) = some k ∧ r = nI (stN (prM (S 0)) (nM (S 0)) a b + 1) ∧ S1 = ss S 8 (nI 0))) := by
  refine MdI.of (by decide +kernel) rfl (Nat.le_of_ble_eq_true rfl) ?_
  intro p e s m below meth c A ls C hml hl hA hr hlocks hW
  have hl : lv_has ls 3 [(0, .ref (ad 0)), (1, .int x), (2, .int y)] := hl
  have hx := C.1
  have hb := C.2.1
  refine lv_aload_n hx hb dX10_pathSize_0 rfl (lv_at hl 0 rfl) ?_
  refine lv_iload_n hx hb dX10_pathSize_1 rfl (lv_at hl 1 rfl) ?_
  refine lv_iload_n hx hb dX10_pathSize_2 rfl (lv_at hl 2 rfl) ?_
  refine md_calli C hml hl.1 (As := [.int x, .int y]) (rest := []) (m_commonMotion l D aT ad S (x) (y) hF) gT_commonMotion hd_commonMotion rfl ⟨Nat.le_of_ble_eq_true rfl, Nat.le_of_ble_eq_true rfl⟩ ⟨Nat.le_refl _, Nat.le_refl _⟩ hW hA rfl (Nat.le_of_ble_eq_true rfl) dX10_pathSize_3 (fun r_3 S_3 H locs hq hW => ?_)
  rcases hq with ⟨h1, rfl, rfl⟩ | ⟨a, b, h1, h2, h3, rfl, rfl⟩ | ⟨a, b, k, h1, h2, h3, rfl, rfl⟩
  · refine lv_pop hx hb dX10_pathSize_6 rfl ?_
    refine lv_aload_n hx hb dX10_pathSize_7 rfl (lv_at hl 0 rfl) ?_
    refine md_get_thrown C hW dX10_pathSize_8 ?_
    refine r_eq (y := (nI 1)) (ss_s _ _ _) ?_
    refine r_ifleN hx hb (a := 1) (by decide) (tgt := 18) dX10_pathSize_11 (by decide) (fun c_11 => ?_) (fun c_11 => ?_)
    · exact absurd c_11 (by decide)
    · refine lv_iconst (v := (-1)) hx hb dX10_pathSize_14 (by decide) ?_
      refine lv_goto (tgt := 34) hx hb dX10_pathSize_15 (by decide) ?_
      exact md_iret C hr hlocks rfl hW (Or.inl ⟨h1, rfl, rfl⟩) dX10_pathSize_34
  · refine lv_pop hx hb dX10_pathSize_6 rfl ?_
    refine lv_aload_n hx hb dX10_pathSize_7 rfl (lv_at hl 0 rfl) ?_
    refine md_get_thrown C hW dX10_pathSize_8 ?_
    refine r_eq (y := (nI 2)) (ss_s _ _ _) ?_
    refine r_ifleN hx hb (a := 2) (by decide) (tgt := 18) dX10_pathSize_11 (by decide) (fun c_11 => ?_) (fun c_11 => ?_)
    · exact absurd c_11 (by decide)
    · refine lv_iconst (v := (-1)) hx hb dX10_pathSize_14 (by decide) ?_
      refine lv_goto (tgt := 34) hx hb dX10_pathSize_15 (by decide) ?_
      exact md_iret C hr hlocks rfl hW (Or.inr (Or.inl ⟨a, b, h1, h2, h3, rfl, rfl⟩)) dX10_pathSize_34
  · refine lv_pop hx hb dX10_pathSize_6 rfl ?_
    refine lv_aload_n hx hb dX10_pathSize_7 rfl (lv_at hl 0 rfl) ?_
    refine md_get_thrown C hW dX10_pathSize_8 ?_
    refine r_eq (y := (nI 0)) (ss_s _ _ _) ?_
    refine r_ifleN hx hb (a := 0) (by decide) (tgt := 18) dX10_pathSize_11 (by decide) (fun c_11 => ?_) (fun c_11 => ?_)
    · refine lv_aload_n hx hb dX10_pathSize_18 rfl (lv_at hl 0 rfl) ?_
      refine lv_aload_n hx hb dX10_pathSize_19 rfl (lv_at hl 0 rfl) ?_
      refine lv_iload_n hx hb dX10_pathSize_20 rfl (lv_at hl 1 rfl) ?_
      refine md_callg C hml hl.1 (As := [.int x]) (rest := [.ref (ad 0)]) (m_find l D aT ad (ss S 8 (nI 0)) (x) (nM (S 0)) hF.1 hF.2.1) gT_find hd_find rfl ⟨Nat.le_of_ble_eq_true rfl, Nat.le_of_ble_eq_true rfl⟩ ⟨Nat.le_refl _, Nat.le_refl _⟩ hW hA rfl (Nat.le_of_ble_eq_true rfl) dX10_pathSize_21 (fun r_21 H locs hq hW => ?_)
      subst hq
      refine r_eq (y := (nI a)) (congrArg oi h1) ?_
      refine lv_aload_n hx hb dX10_pathSize_24 rfl (lv_at hl 0 rfl) ?_
      refine lv_iload_n hx hb dX10_pathSize_25 rfl (lv_at hl 2 rfl) ?_
      refine md_callg C hml hl.1 (As := [.int y]) (rest := [.int (nI a), .ref (ad 0)]) (m_find l D aT ad (ss S 8 (nI 0)) (y) (nM (S 0)) hF.1 hF.2.1) gT_find hd_find rfl ⟨Nat.le_of_ble_eq_true rfl, Nat.le_of_ble_eq_true rfl⟩ ⟨Nat.le_refl _, Nat.le_refl _⟩ hW hA rfl (Nat.le_of_ble_eq_true rfl) dX10_pathSize_26 (fun r_26 H locs hq hW => ?_)
      subst hq
      refine r_eq (y := (nI b)) (congrArg oi h2) ?_
      refine md_callg C hml hl.1 (As := [.int (nI a), .int (nI b)]) (rest := []) (m_steps l D aT ad (ss S 8 (nI 0)) (nM (S 0)) (idM (S 0)) (prM (S 0)) (tnM (S 0)) hF a b k (fnd_some h1).1 (fnd_some h2).1 h3) gT_steps hd_steps rfl ⟨Nat.le_of_ble_eq_true rfl, Nat.le_of_ble_eq_true rfl⟩ ⟨Nat.le_refl _, Nat.le_refl _⟩ hW hA rfl (Nat.le_of_ble_eq_true rfl) dX10_pathSize_29 (fun r_29 H locs hq hW => ?_)
      subst hq
      refine lv_iconst (v := nI 1) hx hb dX10_pathSize_32 (by decide) ?_
      refine r_iaddN hx hb (a := (stN (prM (S 0)) (nM (S 0)) a b)) (b := 1) dX10_pathSize_33 ?_
      exact md_iret C hr hlocks rfl hW (Or.inr (Or.inr ⟨a, b, k, h1, h2, h3, rfl, rfl⟩)) dX10_pathSize_34
    · exact absurd c_11 (by decide)
theorem dX10_append_0 : decode cX10_append 0 = .ok (.aload_n 0, 1) := by decide +kernel
theorem dX10_append_1 : decode cX10_append 1 = .ok (.iconst 0, 1) := by decide +kernel
theorem dX10_append_2 : decode cX10_append 2 = .ok (.putfield 57, 3) := by decide +kernel
theorem dX10_append_5 : decode cX10_append 5 = .ok (.aload_n 0, 1) := by decide +kernel
theorem dX10_append_6 : decode cX10_append 6 = .ok (.getfield 207, 3) := by decide +kernel
theorem dX10_append_9 : decode cX10_append 9 = .ok (.bipush 60, 2) := by decide +kernel
theorem dX10_append_11 : decode cX10_append 11 = .ok (.if_icmp .ne 9, 3) := by decide +kernel
theorem dX10_append_14 : decode cX10_append 14 = .ok (.aload_n 0, 1) := by decide +kernel
theorem dX10_append_15 : decode cX10_append 15 = .ok (.iconst 1, 1) := by decide +kernel
theorem dX10_append_16 : decode cX10_append 16 = .ok (.invokevirtual 101, 3) := by decide +kernel
theorem dX10_append_19 : decode cX10_append 19 = .ok (.ireturn, 1) := by decide +kernel
theorem dX10_append_20 : decode cX10_append 20 = .ok (.aload_n 0, 1) := by decide +kernel
theorem dX10_append_21 : decode cX10_append 21 = .ok (.getfield 29, 3) := by decide +kernel
theorem dX10_append_24 : decode cX10_append 24 = .ok (.aload_n 0, 1) := by decide +kernel
theorem dX10_append_25 : decode cX10_append 25 = .ok (.getfield 207, 3) := by decide +kernel
theorem dX10_append_28 : decode cX10_append 28 = .ok (.iload_n 1, 1) := by decide +kernel
theorem dX10_append_29 : decode cX10_append 29 = .ok (.iastore, 1) := by decide +kernel
theorem dX10_append_30 : decode cX10_append 30 = .ok (.aload_n 0, 1) := by decide +kernel
theorem dX10_append_31 : decode cX10_append 31 = .ok (.dup, 1) := by decide +kernel
theorem dX10_append_32 : decode cX10_append 32 = .ok (.getfield 207, 3) := by decide +kernel
theorem dX10_append_35 : decode cX10_append 35 = .ok (.iconst 1, 1) := by decide +kernel
theorem dX10_append_36 : decode cX10_append 36 = .ok (.iadd, 1) := by decide +kernel
theorem dX10_append_37 : decode cX10_append 37 = .ok (.putfield 207, 3) := by decide +kernel
theorem dX10_append_40 : decode cX10_append 40 = .ok (.aload_n 0, 1) := by decide +kernel
theorem dX10_append_41 : decode cX10_append 41 = .ok (.getfield 207, 3) := by decide +kernel
theorem dX10_append_44 : decode cX10_append 44 = .ok (.ireturn, 1) := by decide +kernel
set_option maxHeartbeats 1000000 in
set_option maxRecDepth 20000 in
theorem m_append (l : Launch) (D : va_G) (aT : Nat → ClassId) (ad : Nat → Nat) (S : MSt) (x : Int32) (im : Nat) (him : S 13 10 = nI im) (h60 : im ≤ 60) : MdI l yX10_append cX10_append 2 .int 1 21 D aT ad [.ref (ad 0), .int x] S (fun r S1 => (im = 60 ∧ r = -1 ∧ S1 = ss S 8 (nI 1)) ∨ (im < 60 ∧ r = nI (im + 1) ∧ S1 = ss (sr (ss S 8 (nI 0)) 4 (upd (S 4) im x)) 10 (nI (im + 1)))) := by
  refine MdI.of (by decide +kernel) rfl (Nat.le_of_ble_eq_true rfl) ?_
  intro p e s m below meth c A ls C hml hl hA hr hlocks hW
  have hl : lv_has ls 2 [(0, .ref (ad 0)), (1, .int x)] := hl
  have hx := C.1
  have hb := C.2.1
  refine lv_aload_n hx hb dX10_append_0 rfl (lv_at hl 0 rfl) ?_
  refine lv_iconst (v := nI 0) hx hb dX10_append_1 (by decide) ?_
  refine md_put_thrown C hW dX10_append_2 (fun H locs hW => ?_)
  refine lv_aload_n hx hb dX10_append_5 rfl (lv_at hl 0 rfl) ?_
  refine md_get_inputMany C hW dX10_append_6 ?_
  refine r_eq (y := (nI im)) (him) ?_
  refine lv_bipush (v := nI 60) hx hb dX10_append_9 (by decide) ?_
  refine r_neN hx hb (a := im) (b := 60) (by omega) (by omega) (tgt := 20) dX10_append_11 (by decide) (fun c_11 => ?_) (fun c_11 => ?_)
  · refine lv_aload_n hx hb dX10_append_20 rfl (lv_at hl 0 rfl) ?_
    refine md_geta_input C hW dX10_append_21 ?_
    refine lv_aload_n hx hb dX10_append_24 rfl (lv_at hl 0 rfl) ?_
    refine md_get_inputMany C hW dX10_append_25 ?_
    refine r_eq (y := (nI im)) (him) ?_
    refine lv_iload_n hx hb dX10_append_28 rfl (lv_at hl 1 rfl) ?_
    refine md_ast_input C hW (i := im) (by omega) dX10_append_29 (fun H locs hW => ?_)
    refine lv_aload_n hx hb dX10_append_30 rfl (lv_at hl 0 rfl) ?_
    refine lv_dup hx hb dX10_append_31 rfl ?_
    refine md_get_inputMany C hW dX10_append_32 ?_
    refine r_eq (y := (nI im)) (him) ?_
    refine lv_iconst (v := nI 1) hx hb dX10_append_35 (by decide) ?_
    refine r_iaddN hx hb (a := im) (b := 1) dX10_append_36 ?_
    refine md_put_inputMany C hW dX10_append_37 (fun H locs hW => ?_)
    refine lv_aload_n hx hb dX10_append_40 rfl (lv_at hl 0 rfl) ?_
    refine md_get_inputMany C hW dX10_append_41 ?_
    refine r_eq (y := (nI (im + 1))) (ss_s _ _ _) ?_
    exact md_iret C hr hlocks rfl hW (Or.inr ⟨by omega, rfl, rfl⟩) dX10_append_44
  · refine lv_aload_n hx hb dX10_append_14 rfl (lv_at hl 0 rfl) ?_
    refine lv_iconst (v := nI 1) hx hb dX10_append_15 (by decide) ?_
    refine md_calli C hml hl.1 (As := [.int (nI 1)]) (rest := []) (m_throwing l D aT ad (ss S 8 (nI 0)) 1) gT_throwing hd_throwing rfl ⟨Nat.le_of_ble_eq_true rfl, Nat.le_of_ble_eq_true rfl⟩ ⟨Nat.le_refl _, Nat.le_refl _⟩ hW hA rfl (Nat.le_of_ble_eq_true rfl) dX10_append_16 (fun r_16 S_16 H locs hq hW => ?_)
    obtain ⟨rfl, rfl⟩ := hq
    exact md_iret C hr hlocks rfl hW (Or.inl ⟨c_11, rfl, ss_ss _ _ _ _⟩) dX10_append_19
theorem dX10_errorPosition_0 : decode cX10_errorPosition 0 = .ok (.aload_n 0, 1) := by decide +kernel
theorem dX10_errorPosition_1 : decode cX10_errorPosition 1 = .ok (.iconst 0, 1) := by decide +kernel
theorem dX10_errorPosition_2 : decode cX10_errorPosition 2 = .ok (.putfield 57, 3) := by decide +kernel
theorem dX10_errorPosition_5 : decode cX10_errorPosition 5 = .ok (.aload_n 0, 1) := by decide +kernel
theorem dX10_errorPosition_6 : decode cX10_errorPosition 6 = .ok (.getfield 22, 3) := by decide +kernel
theorem dX10_errorPosition_9 : decode cX10_errorPosition 9 = .ok (.iconst (-1), 1) := by decide +kernel
theorem dX10_errorPosition_10 : decode cX10_errorPosition 10 = .ok (.if_icmp .ne 11, 3) := by decide +kernel
theorem dX10_errorPosition_13 : decode cX10_errorPosition 13 = .ok (.aload_n 0, 1) := by decide +kernel
theorem dX10_errorPosition_14 : decode cX10_errorPosition 14 = .ok (.iconst 1, 1) := by decide +kernel
theorem dX10_errorPosition_15 : decode cX10_errorPosition 15 = .ok (.invokevirtual 101, 3) := by decide +kernel
theorem dX10_errorPosition_18 : decode cX10_errorPosition 18 = .ok (.goto 7, 3) := by decide +kernel
theorem dX10_errorPosition_21 : decode cX10_errorPosition 21 = .ok (.aload_n 0, 1) := by decide +kernel
theorem dX10_errorPosition_22 : decode cX10_errorPosition 22 = .ok (.getfield 22, 3) := by decide +kernel
theorem dX10_errorPosition_25 : decode cX10_errorPosition 25 = .ok (.ireturn, 1) := by decide +kernel
set_option maxHeartbeats 1000000 in
set_option maxRecDepth 20000 in
theorem m_errorPosition (l : Launch) (D : va_G) (aT : Nat → ClassId) (ad : Nat → Nat) (S : MSt) : MdI l yX10_errorPosition cX10_errorPosition 1 .int 1 21 D aT ad [.ref (ad 0)] S (fun r S1 => (S 13 6 = -1 ∧ r = -1 ∧ S1 = ss S 8 (nI 1)) ∨ (S 13 6 ≠ -1 ∧ r = S 13 6 ∧ S1 = ss S 8 (nI 0))) := by
  refine MdI.of (by decide +kernel) rfl (Nat.le_of_ble_eq_true rfl) ?_
  intro p e s m below meth c A ls C hml hl hA hr hlocks hW
  have hl : lv_has ls 1 [(0, .ref (ad 0))] := hl
  have hx := C.1
  have hb := C.2.1
  refine lv_aload_n hx hb dX10_errorPosition_0 rfl (lv_at hl 0 rfl) ?_
  refine lv_iconst (v := nI 0) hx hb dX10_errorPosition_1 (by decide) ?_
  refine md_put_thrown C hW dX10_errorPosition_2 (fun H locs hW => ?_)
  refine lv_aload_n hx hb dX10_errorPosition_5 rfl (lv_at hl 0 rfl) ?_
  refine md_get_errorAt C hW dX10_errorPosition_6 ?_
  refine r_eq (y := (S 13 6)) (rfl) ?_
  refine lv_iconst (v := (-1)) hx hb dX10_errorPosition_9 (by decide) ?_
  refine lv_icmp_ne hx hb (x := (S 13 6)) (y := (-1)) (tgt := 21) dX10_errorPosition_10 (by decide) (fun c_10 => ?_) (fun c_10 => ?_)
  · refine lv_aload_n hx hb dX10_errorPosition_21 rfl (lv_at hl 0 rfl) ?_
    refine md_get_errorAt C hW dX10_errorPosition_22 ?_
    refine r_eq (y := (S 13 6)) (rfl) ?_
    exact md_iret C hr hlocks rfl hW (Or.inr ⟨c_10, rfl, rfl⟩) dX10_errorPosition_25
  · refine lv_aload_n hx hb dX10_errorPosition_13 rfl (lv_at hl 0 rfl) ?_
    refine lv_iconst (v := nI 1) hx hb dX10_errorPosition_14 (by decide) ?_
    refine md_calli C hml hl.1 (As := [.int (nI 1)]) (rest := []) (m_throwing l D aT ad (ss S 8 (nI 0)) 1) gT_throwing hd_throwing rfl ⟨Nat.le_of_ble_eq_true rfl, Nat.le_of_ble_eq_true rfl⟩ ⟨Nat.le_refl _, Nat.le_refl _⟩ hW hA rfl (Nat.le_of_ble_eq_true rfl) dX10_errorPosition_15 (fun r_15 S_15 H locs hq hW => ?_)
    obtain ⟨rfl, rfl⟩ := hq
    refine lv_goto (tgt := 25) hx hb dX10_errorPosition_18 (by decide) ?_
    exact md_iret C hr hlocks rfl hW (Or.inl ⟨c_10, rfl, ss_ss _ _ _ _⟩) dX10_errorPosition_25
theorem dX10_failedCommand_0 : decode cX10_failedCommand 0 = .ok (.aload_n 0, 1) := by decide +kernel
theorem dX10_failedCommand_1 : decode cX10_failedCommand 1 = .ok (.iconst 0, 1) := by decide +kernel
theorem dX10_failedCommand_2 : decode cX10_failedCommand 2 = .ok (.putfield 57, 3) := by decide +kernel
theorem dX10_failedCommand_5 : decode cX10_failedCommand 5 = .ok (.aload_n 0, 1) := by decide +kernel
theorem dX10_failedCommand_6 : decode cX10_failedCommand 6 = .ok (.getfield 26, 3) := by decide +kernel
theorem dX10_failedCommand_9 : decode cX10_failedCommand 9 = .ok (.iconst (-1), 1) := by decide +kernel
theorem dX10_failedCommand_10 : decode cX10_failedCommand 10 = .ok (.if_icmp .ne 11, 3) := by decide +kernel
theorem dX10_failedCommand_13 : decode cX10_failedCommand 13 = .ok (.aload_n 0, 1) := by decide +kernel
theorem dX10_failedCommand_14 : decode cX10_failedCommand 14 = .ok (.iconst 1, 1) := by decide +kernel
theorem dX10_failedCommand_15 : decode cX10_failedCommand 15 = .ok (.invokevirtual 101, 3) := by decide +kernel
theorem dX10_failedCommand_18 : decode cX10_failedCommand 18 = .ok (.goto 7, 3) := by decide +kernel
theorem dX10_failedCommand_21 : decode cX10_failedCommand 21 = .ok (.aload_n 0, 1) := by decide +kernel
theorem dX10_failedCommand_22 : decode cX10_failedCommand 22 = .ok (.getfield 26, 3) := by decide +kernel
theorem dX10_failedCommand_25 : decode cX10_failedCommand 25 = .ok (.ireturn, 1) := by decide +kernel
set_option maxHeartbeats 1000000 in
set_option maxRecDepth 20000 in
theorem m_failedCommand (l : Launch) (D : va_G) (aT : Nat → ClassId) (ad : Nat → Nat) (S : MSt) : MdI l yX10_failedCommand cX10_failedCommand 1 .int 1 21 D aT ad [.ref (ad 0)] S (fun r S1 => (S 13 7 = -1 ∧ r = -1 ∧ S1 = ss S 8 (nI 1)) ∨ (S 13 7 ≠ -1 ∧ r = S 13 7 ∧ S1 = ss S 8 (nI 0))) := by
  refine MdI.of (by decide +kernel) rfl (Nat.le_of_ble_eq_true rfl) ?_
  intro p e s m below meth c A ls C hml hl hA hr hlocks hW
  have hl : lv_has ls 1 [(0, .ref (ad 0))] := hl
  have hx := C.1
  have hb := C.2.1
  refine lv_aload_n hx hb dX10_failedCommand_0 rfl (lv_at hl 0 rfl) ?_
  refine lv_iconst (v := nI 0) hx hb dX10_failedCommand_1 (by decide) ?_
  refine md_put_thrown C hW dX10_failedCommand_2 (fun H locs hW => ?_)
  refine lv_aload_n hx hb dX10_failedCommand_5 rfl (lv_at hl 0 rfl) ?_
  refine md_get_failed C hW dX10_failedCommand_6 ?_
  refine r_eq (y := (S 13 7)) (rfl) ?_
  refine lv_iconst (v := (-1)) hx hb dX10_failedCommand_9 (by decide) ?_
  refine lv_icmp_ne hx hb (x := (S 13 7)) (y := (-1)) (tgt := 21) dX10_failedCommand_10 (by decide) (fun c_10 => ?_) (fun c_10 => ?_)
  · refine lv_aload_n hx hb dX10_failedCommand_21 rfl (lv_at hl 0 rfl) ?_
    refine md_get_failed C hW dX10_failedCommand_22 ?_
    refine r_eq (y := (S 13 7)) (rfl) ?_
    exact md_iret C hr hlocks rfl hW (Or.inr ⟨c_10, rfl, rfl⟩) dX10_failedCommand_25
  · refine lv_aload_n hx hb dX10_failedCommand_13 rfl (lv_at hl 0 rfl) ?_
    refine lv_iconst (v := nI 1) hx hb dX10_failedCommand_14 (by decide) ?_
    refine md_calli C hml hl.1 (As := [.int (nI 1)]) (rest := []) (m_throwing l D aT ad (ss S 8 (nI 0)) 1) gT_throwing hd_throwing rfl ⟨Nat.le_of_ble_eq_true rfl, Nat.le_of_ble_eq_true rfl⟩ ⟨Nat.le_refl _, Nat.le_refl _⟩ hW hA rfl (Nat.le_of_ble_eq_true rfl) dX10_failedCommand_15 (fun r_15 S_15 H locs hq hW => ?_)
    obtain ⟨rfl, rfl⟩ := hq
    refine lv_goto (tgt := 25) hx hb dX10_failedCommand_18 (by decide) ?_
    exact md_iret C hr hlocks rfl hW (Or.inl ⟨c_10, rfl, ss_ss _ _ _ _⟩) dX10_failedCommand_25
theorem dX10_outputAt_0 : decode cX10_outputAt 0 = .ok (.aload_n 0, 1) := by decide +kernel
theorem dX10_outputAt_1 : decode cX10_outputAt 1 = .ok (.iconst 0, 1) := by decide +kernel
theorem dX10_outputAt_2 : decode cX10_outputAt 2 = .ok (.putfield 57, 3) := by decide +kernel
theorem dX10_outputAt_5 : decode cX10_outputAt 5 = .ok (.iload_n 1, 1) := by decide +kernel
theorem dX10_outputAt_6 : decode cX10_outputAt 6 = .ok (.i2l, 1) := by decide +kernel
theorem dX10_outputAt_7 : decode cX10_outputAt 7 = .ok (.lconst 0, 1) := by decide +kernel
theorem dX10_outputAt_8 : decode cX10_outputAt 8 = .ok (.aload_n 0, 1) := by decide +kernel
theorem dX10_outputAt_9 : decode cX10_outputAt 9 = .ok (.getfield 258, 3) := by decide +kernel
theorem dX10_outputAt_12 : decode cX10_outputAt 12 = .ok (.iconst 1, 1) := by decide +kernel
theorem dX10_outputAt_13 : decode cX10_outputAt 13 = .ok (.isub, 1) := by decide +kernel
theorem dX10_outputAt_14 : decode cX10_outputAt 14 = .ok (.i2l, 1) := by decide +kernel
theorem dX10_outputAt_15 : decode cX10_outputAt 15 = .ok (.invokestatic 63, 3) := by decide +kernel
theorem dX10_outputAt_18 : decode cX10_outputAt 18 = .ok (.ifCond .eq 13, 3) := by decide +kernel
theorem dX10_outputAt_21 : decode cX10_outputAt 21 = .ok (.aload_n 0, 1) := by decide +kernel
theorem dX10_outputAt_22 : decode cX10_outputAt 22 = .ok (.getfield 54, 3) := by decide +kernel
theorem dX10_outputAt_25 : decode cX10_outputAt 25 = .ok (.iload_n 1, 1) := by decide +kernel
theorem dX10_outputAt_26 : decode cX10_outputAt 26 = .ok (.iaload, 1) := by decide +kernel
theorem dX10_outputAt_27 : decode cX10_outputAt 27 = .ok (.i2c, 1) := by decide +kernel
theorem dX10_outputAt_28 : decode cX10_outputAt 28 = .ok (.goto 9, 3) := by decide +kernel
theorem dX10_outputAt_31 : decode cX10_outputAt 31 = .ok (.aload_n 0, 1) := by decide +kernel
theorem dX10_outputAt_32 : decode cX10_outputAt 32 = .ok (.iconst 1, 1) := by decide +kernel
theorem dX10_outputAt_33 : decode cX10_outputAt 33 = .ok (.invokevirtual 101, 3) := by decide +kernel
theorem dX10_outputAt_36 : decode cX10_outputAt 36 = .ok (.i2c, 1) := by decide +kernel
theorem dX10_outputAt_37 : decode cX10_outputAt 37 = .ok (.ireturn, 1) := by decide +kernel
set_option maxHeartbeats 1000000 in
set_option maxRecDepth 20000 in
theorem m_outputAt (l : Launch) (D : va_G) (aT : Nat → ClassId) (ad : Nat → Nat) (S : MSt) (x : Int32) (lm : Nat) (hlm : S 13 25 = nI lm) (h400 : lm ≤ 400) : MdI l yX10_outputAt cX10_outputAt 2 .char 1 25 D aT ad [.ref (ad 0), .int x] S (fun r S1 => (isHB lm x = false ∧ r = c16 (-1) ∧ S1 = ss S 8 (nI 1)) ∨ (∃ i, i < lm ∧ x = nI i ∧ r = c16 (S 12 i) ∧ S1 = ss S 8 (nI 0))) := by
  refine MdI.of (by decide +kernel) rfl (Nat.le_of_ble_eq_true rfl) ?_
  intro p e s m below meth c A ls C hml hl hA hr hlocks hW
  have hl : lv_has ls 2 [(0, .ref (ad 0)), (1, .int x)] := hl
  have hx := C.1
  have hb := C.2.1
  refine lv_aload_n hx hb dX10_outputAt_0 rfl (lv_at hl 0 rfl) ?_
  refine lv_iconst (v := nI 0) hx hb dX10_outputAt_1 (by decide) ?_
  refine md_put_thrown C hW dX10_outputAt_2 (fun H locs hW => ?_)
  refine lv_iload_n hx hb dX10_outputAt_5 rfl (lv_at hl 1 rfl) ?_
  refine lv_i2l (v := (x).toInt64) hx hb dX10_outputAt_6 rfl ?_
  refine lv_lconst (v := 0) hx hb dX10_outputAt_7 (by decide) ?_
  refine lv_aload_n hx hb dX10_outputAt_8 rfl (lv_at hl 0 rfl) ?_
  refine md_get_lineMany C hW dX10_outputAt_9 ?_
  refine r_eq (y := (nI lm)) (hlm) ?_
  refine lv_iconst (v := nI 1) hx hb dX10_outputAt_12 (by decide) ?_
  refine lv_isub hx hb dX10_outputAt_13 ?_
  refine lv_i2l (v := ((nI lm - nI 1)).toInt64) hx hb dX10_outputAt_14 rfl ?_
  refine md_calls C hml hl.1 (As := [.long ((x).toInt64), .long 0, .long (((nI lm - nI 1)).toInt64)]) (rest := []) (m_in l ((x).toInt64) 0 (((nI lm - nI 1)).toInt64)) gT_in hd_in rfl ⟨Nat.le_of_ble_eq_true rfl, Nat.le_of_ble_eq_true rfl⟩ ⟨Nat.le_refl _, Nat.le_refl _⟩ rfl (Nat.le_of_ble_eq_true rfl) dX10_outputAt_15 (fun r_15 hq => ?_)
  subst hq
  refine r_eq (y := (bI (isHB lm x))) (congrArg bI (isH_eq (by omega) x)) ?_
  refine r_bI_eq hx hb (b := (isHB lm x)) (tgt := 31) dX10_outputAt_18 (by decide) (fun c_18 => ?_) (fun c_18 => ?_)
  · refine lv_aload_n hx hb dX10_outputAt_31 rfl (lv_at hl 0 rfl) ?_
    refine lv_iconst (v := nI 1) hx hb dX10_outputAt_32 (by decide) ?_
    refine md_calli C hml hl.1 (As := [.int (nI 1)]) (rest := []) (m_throwing l D aT ad (ss S 8 (nI 0)) 1) gT_throwing hd_throwing rfl ⟨Nat.le_of_ble_eq_true rfl, Nat.le_of_ble_eq_true rfl⟩ ⟨Nat.le_refl _, Nat.le_refl _⟩ hW hA rfl (Nat.le_of_ble_eq_true rfl) dX10_outputAt_33 (fun r_33 S_33 H locs hq hW => ?_)
    obtain ⟨rfl, rfl⟩ := hq
    refine lv_i2c (v := c16 (-1)) hx hb dX10_outputAt_36 (rfl) ?_
    exact md_iret C hr hlocks (pk_nc _) hW (Or.inl ⟨c_18, rfl, ss_ss _ _ _ _⟩) dX10_outputAt_37
  · obtain ⟨i, hi, rfl⟩ := isHB_nat c_18 (by omega)
    refine lv_aload_n hx hb dX10_outputAt_21 rfl (lv_at hl 0 rfl) ?_
    refine md_geta_line C hW dX10_outputAt_22 ?_
    refine lv_iload_n hx hb dX10_outputAt_25 rfl (lv_at hl 1 rfl) ?_
    refine md_ald_line C hW (i := i) (by omega) dX10_outputAt_26 ?_
    refine r_eq (y := (S 12 i)) (rfl) ?_
    refine lv_i2c (v := c16 (S 12 i)) hx hb dX10_outputAt_27 (rfl) ?_
    refine lv_goto (tgt := 37) hx hb dX10_outputAt_28 (by decide) ?_
    exact md_iret C hr hlocks (pk_nc _) hW (Or.inr ⟨i, hi, rfl, rfl, rfl⟩) dX10_outputAt_37
theorem dX10_undo_0 : decode cX10_undo 0 = .ok (.aload_n 0, 1) := by decide +kernel
theorem dX10_undo_1 : decode cX10_undo 1 = .ok (.iconst 0, 1) := by decide +kernel
theorem dX10_undo_2 : decode cX10_undo 2 = .ok (.putfield 57, 3) := by decide +kernel
theorem dX10_undo_5 : decode cX10_undo 5 = .ok (.aload_n 0, 1) := by decide +kernel
theorem dX10_undo_6 : decode cX10_undo 6 = .ok (.getfield 60, 3) := by decide +kernel
theorem dX10_undo_9 : decode cX10_undo 9 = .ok (.ifCond .ne 9, 3) := by decide +kernel
theorem dX10_undo_12 : decode cX10_undo 12 = .ok (.aload_n 0, 1) := by decide +kernel
theorem dX10_undo_13 : decode cX10_undo 13 = .ok (.iconst 1, 1) := by decide +kernel
theorem dX10_undo_14 : decode cX10_undo 14 = .ok (.invokevirtual 101, 3) := by decide +kernel
theorem dX10_undo_17 : decode cX10_undo 17 = .ok (.ireturn, 1) := by decide +kernel
theorem dX10_undo_18 : decode cX10_undo 18 = .ok (.aload_n 0, 1) := by decide +kernel
theorem dX10_undo_19 : decode cX10_undo 19 = .ok (.dup, 1) := by decide +kernel
theorem dX10_undo_20 : decode cX10_undo 20 = .ok (.getfield 60, 3) := by decide +kernel
theorem dX10_undo_23 : decode cX10_undo 23 = .ok (.iconst 1, 1) := by decide +kernel
theorem dX10_undo_24 : decode cX10_undo 24 = .ok (.isub, 1) := by decide +kernel
theorem dX10_undo_25 : decode cX10_undo 25 = .ok (.putfield 60, 3) := by decide +kernel
theorem dX10_undo_28 : decode cX10_undo 28 = .ok (.iconst 0, 1) := by decide +kernel
theorem dX10_undo_29 : decode cX10_undo 29 = .ok (.istore_n 1, 1) := by decide +kernel
theorem dX10_undo_30 : decode cX10_undo 30 = .ok (.iload_n 1, 1) := by decide +kernel
theorem dX10_undo_31 : decode cX10_undo 31 = .ok (.bipush 77, 2) := by decide +kernel
theorem dX10_undo_33 : decode cX10_undo 33 = .ok (.if_icmp .ge 29, 3) := by decide +kernel
theorem dX10_undo_36 : decode cX10_undo 36 = .ok (.aload_n 0, 1) := by decide +kernel
theorem dX10_undo_37 : decode cX10_undo 37 = .ok (.getfield 9, 3) := by decide +kernel
theorem dX10_undo_40 : decode cX10_undo 40 = .ok (.iload_n 1, 1) := by decide +kernel
theorem dX10_undo_41 : decode cX10_undo 41 = .ok (.aload_n 0, 1) := by decide +kernel
theorem dX10_undo_42 : decode cX10_undo 42 = .ok (.getfield 19, 3) := by decide +kernel
theorem dX10_undo_45 : decode cX10_undo 45 = .ok (.bipush 77, 2) := by decide +kernel
theorem dX10_undo_47 : decode cX10_undo 47 = .ok (.aload_n 0, 1) := by decide +kernel
theorem dX10_undo_48 : decode cX10_undo 48 = .ok (.getfield 60, 3) := by decide +kernel
theorem dX10_undo_51 : decode cX10_undo 51 = .ok (.imul, 1) := by decide +kernel
theorem dX10_undo_52 : decode cX10_undo 52 = .ok (.iload_n 1, 1) := by decide +kernel
theorem dX10_undo_53 : decode cX10_undo 53 = .ok (.iadd, 1) := by decide +kernel
theorem dX10_undo_54 : decode cX10_undo 54 = .ok (.iaload, 1) := by decide +kernel
theorem dX10_undo_55 : decode cX10_undo 55 = .ok (.iastore, 1) := by decide +kernel
theorem dX10_undo_56 : decode cX10_undo 56 = .ok (.iinc 1 1, 3) := by decide +kernel
theorem dX10_undo_59 : decode cX10_undo 59 = .ok (.goto (-29), 3) := by decide +kernel
theorem dX10_undo_62 : decode cX10_undo 62 = .ok (.aload_n 0, 1) := by decide +kernel
theorem dX10_undo_63 : decode cX10_undo 63 = .ok (.getfield 60, 3) := by decide +kernel
theorem dX10_undo_66 : decode cX10_undo 66 = .ok (.ireturn, 1) := by decide +kernel
set_option maxHeartbeats 1000000 in
set_option maxRecDepth 20000 in
theorem m_undo (l : Launch) (D : va_G) (aT : Nat → ClassId) (ad : Nat → Nat) (S : MSt) (ch : Nat) (hch : S 13 5 = nI ch) (hc8 : ch ≤ 8) : MdI l yX10_undo cX10_undo 2 .int 1 21 D aT ad [.ref (ad 0)] S (fun r S1 => (ch = 0 ∧ r = -1 ∧ S1 = ss S 8 (nI 1)) ∨ (0 < ch ∧ r = nI (ch - 1) ∧ S1 = sr (ss (ss S 8 (nI 0)) 5 (nI (ch - 1))) 0 (getF (S 0) (S 3) (77 * (ch - 1)) 77))) := by
  refine MdI.of (by decide +kernel) rfl (Nat.le_of_ble_eq_true rfl) ?_
  intro p e s m below meth c A ls C hml hl hA hr hlocks hW
  have hl : lv_has ls 2 [(0, .ref (ad 0))] := hl
  have hx := C.1
  have hb := C.2.1
  refine lv_aload_n hx hb dX10_undo_0 rfl (lv_at hl 0 rfl) ?_
  refine lv_iconst (v := nI 0) hx hb dX10_undo_1 (by decide) ?_
  refine md_put_thrown C hW dX10_undo_2 (fun H locs hW => ?_)
  refine lv_aload_n hx hb dX10_undo_5 rfl (lv_at hl 0 rfl) ?_
  refine md_get_changes C hW dX10_undo_6 ?_
  refine r_eq (y := (nI ch)) (hch) ?_
  refine r_ifneN hx hb (a := ch) (by omega) (tgt := 18) dX10_undo_9 (by decide) (fun c_9 => ?_) (fun c_9 => ?_)
  · refine lv_aload_n hx hb dX10_undo_18 rfl (lv_at hl 0 rfl) ?_
    refine lv_dup hx hb dX10_undo_19 rfl ?_
    refine md_get_changes C hW dX10_undo_20 ?_
    refine r_eq (y := (nI ch)) (hch) ?_
    refine lv_iconst (v := nI 1) hx hb dX10_undo_23 (by decide) ?_
    refine r_isubN hx hb (a := ch) (b := 1) (by omega) dX10_undo_24 ?_
    refine md_put_changes C hW dX10_undo_25 (fun H locs hW => ?_)
    refine lv_iconst (v := nI 0) hx hb dX10_undo_28 (by decide) ?_
    refine lv_istore_n (lv' := [(1, .int (nI 0)), (0, .ref (ad 0))]) hx hb dX10_undo_29 rfl hl (by decide) rfl (fun ls hl => ?_)
    refine W_loopH (σ := Nat) (fun z_ => 77 - z_) (fun z_ H locs g => ∃ ls, g = F0 m 30 ls [] ∧ lv_has ls 2 [(0, .ref (ad 0)), (1, .int (nI z_))] ∧ MdB D aT ad (sr (ss (ss S 8 (nI 0)) 5 (nI (ch - 1))) 0 (getF (S 0) (S 3) (77 * (ch - 1)) z_)) A s.heap H locs ∧ (z_ ≤ 77)) ?_ 0 _ ⟨_, rfl, lv_sub hl [1, 0] rfl, (by rw [getF_0, show S 0 = (ss (ss S 8 (nI 0)) 5 (nI (ch - 1))) 0 from rfl, sr_self]; exact hW), Nat.zero_le _⟩
    clear hW hl
    rintro i H locs g ⟨ls, rfl, hl, hW, hi⟩ ih_30
    refine lv_iload_n hx hb dX10_undo_30 rfl (lv_at hl 1 rfl) ?_
    refine lv_bipush (v := nI 77) hx hb dX10_undo_31 (by decide) ?_
    refine r_geN hx hb (a := i) (b := 77) (by omega) (by omega) (tgt := 62) dX10_undo_33 (by decide) (fun c_33 => ?_) (fun c_33 => ?_)
    · refine lv_aload_n hx hb dX10_undo_62 rfl (lv_at hl 0 rfl) ?_
      refine md_get_changes C hW dX10_undo_63 ?_
      refine r_eq (y := (nI (ch - 1))) (rfl) ?_
      exact md_iret C hr hlocks rfl hW (Or.inr ⟨by omega, rfl, by rw [show i = 77 by omega]⟩) dX10_undo_66
    · refine lv_aload_n hx hb dX10_undo_36 rfl (lv_at hl 0 rfl) ?_
      refine md_geta_m C hW dX10_undo_37 ?_
      refine lv_iload_n hx hb dX10_undo_40 rfl (lv_at hl 1 rfl) ?_
      refine lv_aload_n hx hb dX10_undo_41 rfl (lv_at hl 0 rfl) ?_
      refine md_geta_past C hW dX10_undo_42 ?_
      refine lv_bipush (v := nI 77) hx hb dX10_undo_45 (by decide) ?_
      refine lv_aload_n hx hb dX10_undo_47 rfl (lv_at hl 0 rfl) ?_
      refine md_get_changes C hW dX10_undo_48 ?_
      refine r_eq (y := (nI (ch - 1))) (rfl) ?_
      refine r_imulN hx hb (a := 77) (b := (ch - 1)) dX10_undo_51 ?_
      refine lv_iload_n hx hb dX10_undo_52 rfl (lv_at hl 1 rfl) ?_
      refine r_iaddN hx hb (a := 77 * (ch - 1)) (b := i) dX10_undo_53 ?_
      refine md_ald_past C hW (i := (77 * (ch - 1)) + i) (by omega) dX10_undo_54 ?_
      refine r_eq (y := (S 3 (77 * (ch - 1) + i))) (rfl) ?_
      refine md_ast_m C hW (i := i) (by omega) dX10_undo_55 (fun H locs hW => ?_)
      refine lv_iinc (v := (nI (i + 1))) (lv' := [(1, .int (nI (i + 1))), (0, .ref (ad 0))]) hx hb dX10_undo_56 hl (k := 1) rfl (nI_1 _) (by decide) rfl (fun ls hl => ?_)
      refine lv_goto (tgt := 30) hx hb dX10_undo_59 (by decide) ?_
      exact ih_30 (i + 1) _ _ _ (by omega) ⟨_, rfl, lv_sub hl [1, 0] rfl, (by rw [sr_sr, sr_s, getF_1] at hW; exact hW), (by omega)⟩
  · refine lv_aload_n hx hb dX10_undo_12 rfl (lv_at hl 0 rfl) ?_
    refine lv_iconst (v := nI 1) hx hb dX10_undo_13 (by decide) ?_
    refine md_calli C hml hl.1 (As := [.int (nI 1)]) (rest := []) (m_throwing l D aT ad (ss S 8 (nI 0)) 1) gT_throwing hd_throwing rfl ⟨Nat.le_of_ble_eq_true rfl, Nat.le_of_ble_eq_true rfl⟩ ⟨Nat.le_refl _, Nat.le_refl _⟩ hW hA rfl (Nat.le_of_ble_eq_true rfl) dX10_undo_14 (fun r_14 S_14 H locs hq hW => ?_)
    obtain ⟨rfl, rfl⟩ := hq
    exact md_iret C hr hlocks rfl hW (Or.inl ⟨c_9, rfl, ss_ss _ _ _ _⟩) dX10_undo_17
theorem dX10_save_0 : decode cX10_save 0 = .ok (.aload_n 0, 1) := by decide +kernel
theorem dX10_save_1 : decode cX10_save 1 = .ok (.iconst 0, 1) := by decide +kernel
theorem dX10_save_2 : decode cX10_save 2 = .ok (.putfield 57, 3) := by decide +kernel
theorem dX10_save_5 : decode cX10_save 5 = .ok (.iconst 0, 1) := by decide +kernel
theorem dX10_save_6 : decode cX10_save 6 = .ok (.istore_n 1, 1) := by decide +kernel
theorem dX10_save_7 : decode cX10_save 7 = .ok (.iload_n 1, 1) := by decide +kernel
theorem dX10_save_8 : decode cX10_save 8 = .ok (.bipush 77, 2) := by decide +kernel
theorem dX10_save_10 : decode cX10_save 10 = .ok (.if_icmp .ge 21, 3) := by decide +kernel
theorem dX10_save_13 : decode cX10_save 13 = .ok (.aload_n 0, 1) := by decide +kernel
theorem dX10_save_14 : decode cX10_save 14 = .ok (.getfield 16, 3) := by decide +kernel
theorem dX10_save_17 : decode cX10_save 17 = .ok (.iload_n 1, 1) := by decide +kernel
theorem dX10_save_18 : decode cX10_save 18 = .ok (.aload_n 0, 1) := by decide +kernel
theorem dX10_save_19 : decode cX10_save 19 = .ok (.getfield 9, 3) := by decide +kernel
theorem dX10_save_22 : decode cX10_save 22 = .ok (.iload_n 1, 1) := by decide +kernel
theorem dX10_save_23 : decode cX10_save 23 = .ok (.iaload, 1) := by decide +kernel
theorem dX10_save_24 : decode cX10_save 24 = .ok (.iastore, 1) := by decide +kernel
theorem dX10_save_25 : decode cX10_save 25 = .ok (.iinc 1 1, 3) := by decide +kernel
theorem dX10_save_28 : decode cX10_save 28 = .ok (.goto (-21), 3) := by decide +kernel
theorem dX10_save_31 : decode cX10_save 31 = .ok (.aload_n 0, 1) := by decide +kernel
theorem dX10_save_32 : decode cX10_save 32 = .ok (.iconst 1, 1) := by decide +kernel
theorem dX10_save_33 : decode cX10_save 33 = .ok (.putfield 273, 3) := by decide +kernel
theorem dX10_save_36 : decode cX10_save 36 = .ok (.return_, 1) := by decide +kernel
set_option maxHeartbeats 1000000 in
set_option maxRecDepth 20000 in
theorem m_save (l : Launch) (D : va_G) (aT : Nat → ClassId) (ad : Nat → Nat) (S : MSt) : MdV l yX10_save cX10_save 2 0 0 D aT ad [.ref (ad 0)] S (fun S1 => S1 = ss (sr (ss S 8 (nI 0)) 2 (cpyF (S 2) (S 0) 77)) 3 (nI 1)) := by
  refine MdV.of (by decide +kernel) rfl (Nat.le_of_ble_eq_true rfl) ?_
  intro p e s m below meth c A ls C hml hl hA hr hlocks hW
  have hl : lv_has ls 2 [(0, .ref (ad 0))] := hl
  have hx := C.1
  have hb := C.2.1
  refine lv_aload_n hx hb dX10_save_0 rfl (lv_at hl 0 rfl) ?_
  refine lv_iconst (v := nI 0) hx hb dX10_save_1 (by decide) ?_
  refine md_put_thrown C hW dX10_save_2 (fun H locs hW => ?_)
  refine lv_iconst (v := nI 0) hx hb dX10_save_5 (by decide) ?_
  refine lv_istore_n (lv' := [(1, .int (nI 0)), (0, .ref (ad 0))]) hx hb dX10_save_6 rfl hl (by decide) rfl (fun ls hl => ?_)
  refine W_loopH (σ := Nat) (fun z_ => 77 - z_) (fun z_ H locs g => ∃ ls, g = F0 m 7 ls [] ∧ lv_has ls 2 [(0, .ref (ad 0)), (1, .int (nI z_))] ∧ MdB D aT ad (sr (ss S 8 (nI 0)) 2 (cpyF (S 2) (S 0) z_)) A s.heap H locs ∧ (z_ ≤ 77)) ?_ 0 _ ⟨_, rfl, lv_sub hl [1, 0] rfl, (by rw [cpyF_0, show S 2 = (ss S 8 (nI 0)) 2 from rfl, sr_self]; exact hW), Nat.zero_le _⟩
  clear hW hl
  rintro i H locs g ⟨ls, rfl, hl, hW, hi⟩ ih_7
  refine lv_iload_n hx hb dX10_save_7 rfl (lv_at hl 1 rfl) ?_
  refine lv_bipush (v := nI 77) hx hb dX10_save_8 (by decide) ?_
  refine r_geN hx hb (a := i) (b := 77) (by omega) (by omega) (tgt := 31) dX10_save_10 (by decide) (fun c_10 => ?_) (fun c_10 => ?_)
  · refine lv_aload_n hx hb dX10_save_31 rfl (lv_at hl 0 rfl) ?_
    refine lv_iconst (v := nI 1) hx hb dX10_save_32 (by decide) ?_
    refine md_put_isSaved C hW (by decide) (by decide) dX10_save_33 (fun H locs hW => ?_)
    exact md_vret C hr hlocks hW (by rw [show i = 77 by omega]) dX10_save_36
  · refine lv_aload_n hx hb dX10_save_13 rfl (lv_at hl 0 rfl) ?_
    refine md_geta_saved C hW dX10_save_14 ?_
    refine lv_iload_n hx hb dX10_save_17 rfl (lv_at hl 1 rfl) ?_
    refine lv_aload_n hx hb dX10_save_18 rfl (lv_at hl 0 rfl) ?_
    refine md_geta_m C hW dX10_save_19 ?_
    refine lv_iload_n hx hb dX10_save_22 rfl (lv_at hl 1 rfl) ?_
    refine md_ald_m C hW (i := i) (by omega) dX10_save_23 ?_
    refine r_eq (y := (S 0 i)) (rfl) ?_
    refine md_ast_saved C hW (i := i) (by omega) dX10_save_24 (fun H locs hW => ?_)
    refine lv_iinc (v := (nI (i + 1))) (lv' := [(1, .int (nI (i + 1))), (0, .ref (ad 0))]) hx hb dX10_save_25 hl (k := 1) rfl (nI_1 _) (by decide) rfl (fun ls hl => ?_)
    refine lv_goto (tgt := 7) hx hb dX10_save_28 (by decide) ?_
    exact ih_7 (i + 1) _ _ _ (by omega) ⟨_, rfl, lv_sub hl [1, 0] rfl, (by rw [sr_sr, sr_s, cpyF_1] at hW; exact hW), (by omega)⟩
theorem dX10_restore_0 : decode cX10_restore 0 = .ok (.aload_n 0, 1) := by decide +kernel
theorem dX10_restore_1 : decode cX10_restore 1 = .ok (.iconst 0, 1) := by decide +kernel
theorem dX10_restore_2 : decode cX10_restore 2 = .ok (.putfield 57, 3) := by decide +kernel
theorem dX10_restore_5 : decode cX10_restore 5 = .ok (.aload_n 0, 1) := by decide +kernel
theorem dX10_restore_6 : decode cX10_restore 6 = .ok (.getfield 273, 3) := by decide +kernel
theorem dX10_restore_9 : decode cX10_restore 9 = .ok (.ifCond .ne 10, 3) := by decide +kernel
theorem dX10_restore_12 : decode cX10_restore 12 = .ok (.aload_n 0, 1) := by decide +kernel
theorem dX10_restore_13 : decode cX10_restore 13 = .ok (.iconst 1, 1) := by decide +kernel
theorem dX10_restore_14 : decode cX10_restore 14 = .ok (.invokevirtual 101, 3) := by decide +kernel
theorem dX10_restore_17 : decode cX10_restore 17 = .ok (.pop, 1) := by decide +kernel
theorem dX10_restore_18 : decode cX10_restore 18 = .ok (.return_, 1) := by decide +kernel
theorem dX10_restore_19 : decode cX10_restore 19 = .ok (.iconst 0, 1) := by decide +kernel
theorem dX10_restore_20 : decode cX10_restore 20 = .ok (.istore_n 1, 1) := by decide +kernel
theorem dX10_restore_21 : decode cX10_restore 21 = .ok (.iload_n 1, 1) := by decide +kernel
theorem dX10_restore_22 : decode cX10_restore 22 = .ok (.bipush 77, 2) := by decide +kernel
theorem dX10_restore_24 : decode cX10_restore 24 = .ok (.if_icmp .ge 21, 3) := by decide +kernel
theorem dX10_restore_27 : decode cX10_restore 27 = .ok (.aload_n 0, 1) := by decide +kernel
theorem dX10_restore_28 : decode cX10_restore 28 = .ok (.getfield 9, 3) := by decide +kernel
theorem dX10_restore_31 : decode cX10_restore 31 = .ok (.iload_n 1, 1) := by decide +kernel
theorem dX10_restore_32 : decode cX10_restore 32 = .ok (.aload_n 0, 1) := by decide +kernel
theorem dX10_restore_33 : decode cX10_restore 33 = .ok (.getfield 16, 3) := by decide +kernel
theorem dX10_restore_36 : decode cX10_restore 36 = .ok (.iload_n 1, 1) := by decide +kernel
theorem dX10_restore_37 : decode cX10_restore 37 = .ok (.iaload, 1) := by decide +kernel
theorem dX10_restore_38 : decode cX10_restore 38 = .ok (.iastore, 1) := by decide +kernel
theorem dX10_restore_39 : decode cX10_restore 39 = .ok (.iinc 1 1, 3) := by decide +kernel
theorem dX10_restore_42 : decode cX10_restore 42 = .ok (.goto (-21), 3) := by decide +kernel
theorem dX10_restore_45 : decode cX10_restore 45 = .ok (.aload_n 0, 1) := by decide +kernel
theorem dX10_restore_46 : decode cX10_restore 46 = .ok (.iconst 0, 1) := by decide +kernel
theorem dX10_restore_47 : decode cX10_restore 47 = .ok (.putfield 60, 3) := by decide +kernel
theorem dX10_restore_50 : decode cX10_restore 50 = .ok (.return_, 1) := by decide +kernel
set_option maxHeartbeats 1000000 in
set_option maxRecDepth 20000 in
theorem m_restore (l : Launch) (D : va_G) (aT : Nat → ClassId) (ad : Nat → Nat) (S : MSt) (sv : Bool) (hsv : S 13 3 = bI sv) : MdV l yX10_restore cX10_restore 2 1 21 D aT ad [.ref (ad 0)] S (fun S1 => (sv = false ∧ S1 = ss S 8 (nI 1)) ∨ (sv = true ∧ S1 = ss (sr (ss S 8 (nI 0)) 0 (cpyF (S 0) (S 2) 77)) 5 (nI 0))) := by
  refine MdV.of (by decide +kernel) rfl (Nat.le_of_ble_eq_true rfl) ?_
  intro p e s m below meth c A ls C hml hl hA hr hlocks hW
  have hl : lv_has ls 2 [(0, .ref (ad 0))] := hl
  have hx := C.1
  have hb := C.2.1
  refine lv_aload_n hx hb dX10_restore_0 rfl (lv_at hl 0 rfl) ?_
  refine lv_iconst (v := nI 0) hx hb dX10_restore_1 (by decide) ?_
  refine md_put_thrown C hW dX10_restore_2 (fun H locs hW => ?_)
  refine lv_aload_n hx hb dX10_restore_5 rfl (lv_at hl 0 rfl) ?_
  refine md_get_isSaved C hW dX10_restore_6 ?_
  refine r_eq (y := (bI sv)) (hsv) ?_
  refine r_bI_ne hx hb (b := sv) (tgt := 19) dX10_restore_9 (by decide) (fun c_9 => ?_) (fun c_9 => ?_)
  · refine lv_iconst (v := nI 0) hx hb dX10_restore_19 (by decide) ?_
    refine lv_istore_n (lv' := [(1, .int (nI 0)), (0, .ref (ad 0))]) hx hb dX10_restore_20 rfl hl (by decide) rfl (fun ls hl => ?_)
    refine W_loopH (σ := Nat) (fun z_ => 77 - z_) (fun z_ H locs g => ∃ ls, g = F0 m 21 ls [] ∧ lv_has ls 2 [(0, .ref (ad 0)), (1, .int (nI z_))] ∧ MdB D aT ad (sr (ss S 8 (nI 0)) 0 (cpyF (S 0) (S 2) z_)) A s.heap H locs ∧ (z_ ≤ 77)) ?_ 0 _ ⟨_, rfl, lv_sub hl [1, 0] rfl, (by rw [cpyF_0, show S 0 = (ss S 8 (nI 0)) 0 from rfl, sr_self]; exact hW), Nat.zero_le _⟩
    clear hW hl
    rintro i H locs g ⟨ls, rfl, hl, hW, hi⟩ ih_21
    refine lv_iload_n hx hb dX10_restore_21 rfl (lv_at hl 1 rfl) ?_
    refine lv_bipush (v := nI 77) hx hb dX10_restore_22 (by decide) ?_
    refine r_geN hx hb (a := i) (b := 77) (by omega) (by omega) (tgt := 45) dX10_restore_24 (by decide) (fun c_24 => ?_) (fun c_24 => ?_)
    · refine lv_aload_n hx hb dX10_restore_45 rfl (lv_at hl 0 rfl) ?_
      refine lv_iconst (v := nI 0) hx hb dX10_restore_46 (by decide) ?_
      refine md_put_changes C hW dX10_restore_47 (fun H locs hW => ?_)
      exact md_vret C hr hlocks hW (Or.inr ⟨c_9, by rw [show i = 77 by omega]⟩) dX10_restore_50
    · refine lv_aload_n hx hb dX10_restore_27 rfl (lv_at hl 0 rfl) ?_
      refine md_geta_m C hW dX10_restore_28 ?_
      refine lv_iload_n hx hb dX10_restore_31 rfl (lv_at hl 1 rfl) ?_
      refine lv_aload_n hx hb dX10_restore_32 rfl (lv_at hl 0 rfl) ?_
      refine md_geta_saved C hW dX10_restore_33 ?_
      refine lv_iload_n hx hb dX10_restore_36 rfl (lv_at hl 1 rfl) ?_
      refine md_ald_saved C hW (i := i) (by omega) dX10_restore_37 ?_
      refine r_eq (y := (S 2 i)) (rfl) ?_
      refine md_ast_m C hW (i := i) (by omega) dX10_restore_38 (fun H locs hW => ?_)
      refine lv_iinc (v := (nI (i + 1))) (lv' := [(1, .int (nI (i + 1))), (0, .ref (ad 0))]) hx hb dX10_restore_39 hl (k := 1) rfl (nI_1 _) (by decide) rfl (fun ls hl => ?_)
      refine lv_goto (tgt := 21) hx hb dX10_restore_42 (by decide) ?_
      exact ih_21 (i + 1) _ _ _ (by omega) ⟨_, rfl, lv_sub hl [1, 0] rfl, (by rw [sr_sr, sr_s, cpyF_1] at hW; exact hW), (by omega)⟩
  · refine lv_aload_n hx hb dX10_restore_12 rfl (lv_at hl 0 rfl) ?_
    refine lv_iconst (v := nI 1) hx hb dX10_restore_13 (by decide) ?_
    refine md_calli C hml hl.1 (As := [.int (nI 1)]) (rest := []) (m_throwing l D aT ad (ss S 8 (nI 0)) 1) gT_throwing hd_throwing rfl ⟨Nat.le_of_ble_eq_true rfl, Nat.le_of_ble_eq_true rfl⟩ ⟨Nat.le_refl _, Nat.le_refl _⟩ hW hA rfl (Nat.le_of_ble_eq_true rfl) dX10_restore_14 (fun r_14 S_14 H locs hq hW => ?_)
    obtain ⟨rfl, rfl⟩ := hq
    refine lv_pop hx hb dX10_restore_17 rfl ?_
    exact md_vret C hr hlocks hW (Or.inl ⟨c_9, ss_ss _ _ _ _⟩) dX10_restore_18
