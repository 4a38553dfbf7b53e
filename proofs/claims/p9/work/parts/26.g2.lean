theorem anc_ge {pr : Nat → Option Nat} {n r : Nat} (h : ParOk pr n) : ∀ k, k < n → anc pr r k = true → r ≤ k := by
  intro k
  induction k using Nat.strongRecOn with
  | _ k ih =>
    intro hk ha
    by_cases e : k = r
    · omega
    · rw [anc_O h hk e] at ha
      cases hp : pr k with
      | none => rw [hp] at ha; simp [ancO] at ha
      | some j =>
        rw [hp] at ha
        have hj := h k j hk hp
        have := ih j hj (by omega) ha
        omega
theorem tipB_yes {pr : Nat → Option Nat} {q : Nat} : ∀ {n : Nat}, (∀ j, j < n → pr j ≠ some q) → tipB pr q n = true := by
  intro n
  induction n with
  | zero => intro _; rfl
  | succ n ih =>
    intro h
    unfold tipB
    rw [ih (fun j hj => h j (by omega)), Bool.true_and]
    cases hp : pr n with
    | none => rfl
    | some j =>
      have := h n (by omega)
      rw [hp] at this
      have hj : j ≠ q := fun e => this (by rw [e])
      simp [hj]
theorem tipB_not {pr : Nat → Option Nat} {q i : Nat} (h : pr i = some q) : ∀ {n : Nat}, i < n → tipB pr q n = false := by
  intro n
  induction n with
  | zero => intro hi; omega
  | succ n ih =>
    intro hi
    unfold tipB
    rcases Nat.lt_or_ge i n with w | w
    · rw [ih w, Bool.false_and]
    · have e : i = n := by omega
      subst e
      rw [h]
      simp
section G2
variable {p : Program} {l : Launch} {e : Env} {R : Room} {s : State} {m : MethodId} {args : Array Value} {below : List Frame} {meth : Method} {c : Code} {H : Heap} {locs : List Loc} {cells slots : Nat} {Q : State → Prop} {cc : ByteArray} {pc : Nat} {ls : Array Slot} {rest : List Value}
theorem r_oi_leN (hx : p.tables.exec = Jvm.exec) (hb : c.code = cc) {o : Option Nat} {q : Nat} (ho : ∀ j, o = some j → j < 2 ^ 31) (hq : q < 2 ^ 31) {off : Int} {tgt : Nat} (hdg : decode cc pc = .ok (.if_icmp .le off, 3)) (ht : (pc : Int) + off = (tgt : Int)) (kt : (∀ j, o = some j → j ≤ q) → W p l e R s m args below meth c H locs cells slots Q (F0 m tgt ls rest)) (kf : ∀ j, o = some j → q < j → W p l e R s m args below meth c H locs cells slots Q (F0 m (pc + 3) ls rest)) : W p l e R s m args below meth c H locs cells slots Q (F0 m pc ls (.int (nI q) :: .int (oi o) :: rest)) := by
  refine lv_icmp_le hx hb hdg ht (fun h => kt (fun j hj => ?_)) (fun h => ?_)
  · subst hj
    exact (nI_leI (ho j rfl) hq).mp h
  · cases o with
    | none => exact absurd (Int32.le_of_lt (neg1_lt hq)) h
    | some j =>
      refine kf j rfl ?_
      rcases Nat.lt_or_ge q j with w | w
      · exact w
      · exact absurd ((nI_leI (ho j rfl) hq).mpr w) h
end G2
theorem br_end {pr : Nat → Option Nat} {n top : Nat} {o : Option Nat} (h : ParOk pr n) (hn : ∀ j, o = some j → j < n) (ho : ∀ j, o = some j → j ≤ top) : ancO pr top o = decide (o = some top) := by
  cases o with
  | none => rfl
  | some j =>
    show anc pr top j = _
    by_cases e : j = top
    · subst e
      rw [anc_self]; simp
    · have : anc pr top j ≠ true := fun z => by
        have h1 := anc_ge h j (hn j rfl) z
        have h2 := ho j rfl
        omega
      simp [e, this]
theorem oM_0 {o : Option Nat} (h : oM o = 0) : ∀ j, o = some j → False := by
  intro j hj
  subst hj
  simp [oM] at h
theorem brs_top {pr : Nat → Option Nat} {n top : Nat} (h : ParOk pr n) : ∀ i, i ≤ top → i ≤ n → brs pr top i = 0 := by
  intro i
  induction i with
  | zero => intro _ _; rfl
  | succ i ih =>
    intro h1 h2
    unfold brs
    rw [ih (by omega) (by omega), if_neg (fun z => by have := anc_ge h i (by omega) z; omega)]
theorem brs_le {pr : Nat → Option Nat} {r : Nat} : ∀ i, brs pr r i ≤ i := by
  intro i
  induction i with
  | zero => exact Nat.le_refl _
  | succ i ih => unfold brs; split <;> omega
theorem ltp_skip {pr : Nat → Option Nat} {n r i : Nat} (h : ¬ (anc pr r i = true ∧ tipB pr i n = true)) : ltp pr n r (i + 1) = ltp pr n r i := by
  show (if (anc pr r i && tipB pr i n) = true then some i else ltp pr n r i) = _
  rw [if_neg (fun z => h (by rwa [Bool.and_eq_true] at z))]
theorem ltp_hit {pr : Nat → Option Nat} {n r i : Nat} (h1 : anc pr r i = true) (h2 : tipB pr i n = true) : ltp pr n r (i + 1) = some i := by
  show (if (anc pr r i && tipB pr i n) = true then some i else ltp pr n r i) = _
  rw [h1, h2]; rfl
theorem ltp_anc {pr : Nat → Option Nat} {n r : Nat} : ∀ {i k : Nat}, ltp pr n r i = some k → anc pr r k = true := by
  intro i
  induction i with
  | zero => intro k h; cases h
  | succ i ih =>
    intro k h
    by_cases q : anc pr r i = true ∧ tipB pr i n = true
    · rw [ltp_hit q.1 q.2] at h
      cases h
      exact q.1
    · rw [ltp_skip q] at h
      exact ih h
theorem ltp_top {pr : Nat → Option Nat} {n r : Nat} (h : ParOk pr n) (hr : r < n) (e : ltp pr n r n = ltp pr n r (r + 1)) : ltp pr n r n = some r := by
  obtain ⟨t, h1, h2⟩ := ltp_ex h hr
  rw [h1] at e
  have h3 := ltp_lt e.symm
  have h4 := anc_ge h t h2 (ltp_anc h1)
  have : t = r := by omega
  rw [h1, this]
/-- a row behind a place taken out, as far as the loop has come -/
def rmF (f : Nat → Int32) (k i : Nat) : Nat → Int32 := fun j => if k ≤ j ∧ j + 1 < i then f (j + 1) else f j
def dcP (k : Nat) (x : Int32) : Int32 := if x ≤ nI k then x else x - nI 1
def rmP (f : Nat → Int32) (k i : Nat) : Nat → Int32 := fun j => if k ≤ j ∧ j + 1 < i then dcP k (f (j + 1)) else f j
theorem rmF_0 {f : Nat → Int32} {k : Nat} : rmF f k (k + 1) = f := by funext j; unfold rmF; rw [if_neg (by omega)]
theorem rmP_0 {f : Nat → Int32} {k : Nat} : rmP f k (k + 1) = f := by funext j; unfold rmP; rw [if_neg (by omega)]
theorem rmF_i {f : Nat → Int32} {k i : Nat} : rmF f k i i = f i := by unfold rmF; rw [if_neg (by omega)]
theorem rmP_i {f : Nat → Int32} {k i : Nat} : rmP f k i i = f i := by unfold rmP; rw [if_neg (by omega)]
theorem rmF_1 {f : Nat → Int32} {k i : Nat} (h : k + 1 ≤ i) : rmF f k (i + 1) = upd (rmF f k i) (i - 1) (f i) := by
  funext j; unfold upd rmF
  by_cases h1 : j = i - 1
  · rw [if_pos h1, if_pos (by omega), show j + 1 = i by omega]
  · rw [if_neg h1]
    by_cases h2 : k ≤ j ∧ j + 1 < i
    · rw [if_pos h2, if_pos (by omega)]
    · rw [if_neg h2, if_neg (by omega)]
theorem rmP_1 {f : Nat → Int32} {k i : Nat} (h : k + 1 ≤ i) : rmP f k (i + 1) = upd (rmP f k i) (i - 1) (dcP k (f i)) := by
  funext j; unfold upd rmP
  by_cases h1 : j = i - 1
  · rw [if_pos h1, if_pos (by omega), show j + 1 = i by omega]
  · rw [if_neg h1]
    by_cases h2 : k ≤ j ∧ j + 1 < i
    · rw [if_pos h2, if_pos (by omega)]
    · rw [if_neg h2, if_neg (by omega)]
theorem rmF_at {f : Nat → Int32} {k n j : Nat} (hj : j < n - 1) : rmF f k n j = f (sk k j) := by
  unfold rmF sk
  by_cases h : j < k
  · rw [if_neg (by omega), if_pos h]
  · rw [if_pos (by omega), if_neg h]
theorem dc_oi {k : Nat} {o : Option Nat} (hk : k < 2 ^ 31) (ho : ∀ j, o = some j → j < 2 ^ 31) (hne : o ≠ some k) : dcP k (oi o) = oi (o.map (un k)) := by
  unfold dcP
  cases o with
  | none => rw [if_pos (show oi none ≤ nI k from Int32.le_of_lt (neg1_lt hk))]; rfl
  | some j =>
    have hj := ho j rfl
    have hjk : j ≠ k := fun e => hne (by rw [e])
    show (if nI j ≤ nI k then nI j else nI j - nI 1) = nI (un k j)
    unfold un
    by_cases h : j < k
    · rw [if_pos ((nI_leI hj hk).mpr (by omega)), if_pos h]
    · rw [if_neg (fun z => h (by have := (nI_leI hj hk).mp z; omega)), if_neg h]
      exact pk_sub (by omega)
theorem rmP_at {f : Nat → Int32} {pr : Nat → Option Nat} {k n j : Nat} (hk : k < n) (hn : n ≤ 12) (hP : ∀ i, i < n → f i = oi (pr i)) (hok : ParOk pr n) (ht : ∀ i, i < n → pr i ≠ some k) (hj : j < n - 1) : rmP f k n j = oi (drP pr k j) := by
  have hs : sk k j < n := sk_lt hj
  have key : dcP k (oi (pr (sk k j))) = oi (drP pr k j) := dc_oi (by omega) (fun i hi => by have := hok _ i hs hi; omega) (ht _ hs)
  by_cases h : j < k
  · have e : sk k j = j := by unfold sk; rw [if_pos h]
    have e2 : rmP f k n j = f j := by unfold rmP; rw [if_neg (by omega)]
    rw [e2, ← key, e, hP j (by omega)]
    unfold dcP
    cases hp : pr j with
    | none => rw [if_pos (show oi none ≤ nI k from Int32.le_of_lt (neg1_lt (by omega)))]
    | some i =>
      have := hok j i (by omega) hp
      rw [if_pos (show oi (some i) ≤ nI k from nI_le (by omega) (by omega))]
  · have e : sk k j = j + 1 := by unfold sk; rw [if_neg h]
    have e2 : rmP f k n j = dcP k (f (j + 1)) := by unfold rmP; rw [if_pos (by omega)]
    rw [e2, ← key, e, hP (j + 1) (by omega)]
theorem MoC.drop {fI fN fP : Nat → Int32} {nm k : Nat} {idn : Nat → Nat} {pr : Nat → Option Nat} {tn : Nat → Nat} (h : MoC fI fN fP nm idn pr tn) (hk : k < nm) (ht : ∀ j, j < nm → pr j ≠ some k) : MoC (rmF fI k nm) (rmF fN k nm) (rmP fP k nm) (nm - 1) (fun j => idn (sk k j)) (drP pr k) (fun j => tn (sk k j)) := by
  obtain ⟨h1, h2, h3, h4, h5, h6⟩ := h
  refine ⟨by omega, fun j hj => ?_, fun j hj => rmP_at hk h1 h3 h4 ht hj, drP_ok h4 ht, fun i j hij hj => ?_, fun j hj => ?_⟩
  · rw [rmF_at hj]; exact h2 _ (sk_lt hj)
  · refine h5 _ _ ?_ (sk_lt hj)
    unfold sk
    split <;> split <;> omega
  · rw [rmF_at hj]; exact h6 _ (sk_lt hj)
theorem MoC.add {fI fN fP : Nat → Int32} {nm nxn t : Nat} {po : Option Nat} {idn : Nat → Nat} {pr : Nat → Option Nat} {tn : Nat → Nat} (h : MoC fI fN fP nm idn pr tn) (h12 : nm < 12) (hid : ∀ k, k < nm → idn k < nxn) (hnx : nxn < 1048576) (hpo : ∀ j, po = some j → j < nm) (ht : t ≤ 9) : MoC (upd fI nm (nI nxn)) (upd fN nm (nI t)) (upd fP nm (oi po)) (nm + 1) (fun k => if k = nm then nxn else idn k) (fun k => if k = nm then po else pr k) (fun k => if k = nm then t else tn k) := by
  obtain ⟨h1, h2, h3, h4, h5, h6⟩ := h
  refine ⟨by omega, fun j hj => ?_, fun j hj => ?_, fun k j hk hp => ?_, fun i j hij hj => ?_, fun j hj => ?_⟩
  · by_cases e : j = nm
    · subst e; dsimp only; rw [pk_us, if_pos rfl]; exact ⟨rfl, hnx⟩
    · dsimp only; rw [pk_un e, if_neg e]; exact h2 j (by omega)
  · by_cases e : j = nm
    · subst e; dsimp only; rw [pk_us, if_pos rfl]
    · dsimp only; rw [pk_un e, if_neg e]; exact h3 j (by omega)
  · dsimp only at hp
    by_cases e : k = nm
    · subst e; rw [if_pos rfl] at hp; exact hpo j hp
    · rw [if_neg e] at hp; exact h4 k j (by omega) hp
  · dsimp only
    by_cases e : j = nm
    · subst e; rw [if_pos rfl, if_neg (by omega)]; exact hid i hij
    · rw [if_neg e, if_neg (by omega)]; exact h5 i j hij (by omega)
  · by_cases e : j = nm
    · subst e; dsimp only; rw [pk_us, if_pos rfl]; exact ⟨rfl, ht⟩
    · dsimp only; rw [pk_un e, if_neg e]; exact h6 j (by omega)
/-- the sum of the first weights -/
def smC (f : Nat → Int32) : Nat → Int32
  | 0 => nI 0
  | i + 1 => smC f i + f i
/-- whether motion a ranks ahead of b -/
def mAc (f : Nat → Int32) (pr : Nat → Option Nat) (a b : Nat) : Bool := decide (f b < f a ∨ (f a = f b ∧ (dep pr a < dep pr b ∨ (dep pr a = dep pr b ∧ a < b))))
theorem MoC.lim {fI fN fP : Nat → Int32} {nm : Nat} {idn : Nat → Nat} {pr : Nat → Option Nat} {tn : Nat → Nat} (h : MoC fI fN fP nm idn pr tn) {k : Nat} (hk : k < nm) : ∀ j, pr k = some j → j < 2 ^ 31 := by
  intro j hj
  have h1 := h.1
  have h2 := h.2.2.2.1 k j hk hj
  omega
theorem mAc_1 {f : Nat → Int32} {pr : Nat → Option Nat} {a b : Nat} (h : f b < f a) : nI 1 = bI (mAc f pr a b) := by unfold mAc; rw [decide_eq_true (Or.inl h)]; rfl
theorem mAc_2 {f : Nat → Int32} {pr : Nat → Option Nat} {a b : Nat} (h1 : ¬ f a = f b) (h2 : f a ≤ f b) : nI 0 = bI (mAc f pr a b) := by
  unfold mAc
  rw [decide_eq_false (fun z => by
    rcases z with z | z
    · exact absurd z (Int32.not_lt.mpr h2)
    · exact h1 z.1)]
  rfl
theorem mAc_3 {f : Nat → Int32} {pr : Nat → Option Nat} {a b : Nat} (h1 : f a = f b) (h2 : dep pr a < dep pr b ∨ (dep pr a = dep pr b ∧ a < b)) : nI 1 = bI (mAc f pr a b) := by unfold mAc; rw [decide_eq_true (Or.inr ⟨h1, h2⟩)]; rfl
theorem mAc_4 {f : Nat → Int32} {pr : Nat → Option Nat} {a b : Nat} (h1 : f a = f b) (h2 : ¬ (dep pr a < dep pr b ∨ (dep pr a = dep pr b ∧ a < b))) : nI 0 = bI (mAc f pr a b) := by
  unfold mAc
  rw [decide_eq_false (fun z => by
    rcases z with z | z
    · rw [h1] at z; exact Int32.lt_irrefl z
    · exact h2 z.2)]
  rfl
theorem dX5_isFull_0 : decode cX5_isFull 0 = .ok (.aload_n 0, 1) := by decide +kernel
theorem dX5_isFull_1 : decode cX5_isFull 1 = .ok (.getfield 24, 3) := by decide +kernel
theorem dX5_isFull_4 : decode cX5_isFull 4 = .ok (.bipush 12, 2) := by decide +kernel
theorem dX5_isFull_6 : decode cX5_isFull 6 = .ok (.if_icmp .lt 7, 3) := by decide +kernel
theorem dX5_isFull_9 : decode cX5_isFull 9 = .ok (.iconst 1, 1) := by decide +kernel
theorem dX5_isFull_10 : decode cX5_isFull 10 = .ok (.goto 4, 3) := by decide +kernel
theorem dX5_isFull_13 : decode cX5_isFull 13 = .ok (.iconst 0, 1) := by decide +kernel
theorem dX5_isFull_14 : decode cX5_isFull 14 = .ok (.ireturn, 1) := by decide +kernel
set_option maxHeartbeats 2000000 in
set_option maxRecDepth 20000 in
theorem k_X5_isFull (l : Launch) (hfl : l.stackTraces = false) (D : va_G) (aT : Nat → ClassId) (a5 : Nat) (a6 : Nat) (a7 : Nat) (a8 : Nat) (a9 : Nat) (fI : Nat → Int32) (fN : Nat → Int32) (fW : Nat → Int32) (fP : Nat → Int32) (nm : Nat) (nx : Int32) (h12 : nm ≤ 12) : CxG l yX5_isFull cX5_isFull 1 (some (.boolean)) 0 0 0 0 D aT [.ref a5] [(a5, .inr (8, [.ref a6, .ref a7, .ref a8, .ref a9, .int (nI nm), .int nx])), (a6, .inl (aT 0, 12, .inl fI)), (a7, .inl (aT 0, 12, .inl fN)), (a8, .inl (aT 0, 12, .inl fW)), (a9, .inl (aT 0, 12, .inl fP))] (qI D aT (fun r W1 => r = bI (decide (12 ≤ nm)) ∧ W1 = [(a5, .inr (8, [.ref a6, .ref a7, .ref a8, .ref a9, .int (nI nm), .int nx])), (a6, .inl (aT 0, 12, .inl fI)), (a7, .inl (aT 0, 12, .inl fN)), (a8, .inl (aT 0, 12, .inl fW)), (a9, .inl (aT 0, 12, .inl fP))])) (fun _ _ => False) := by
  refine CxG.of RX5 (by decide +kernel) rfl (Nat.le_of_ble_eq_true rfl) ?_
  intro p e s m below meth c A ls C hml hl hA hr hlocks hex hnm hZ hW
  have hl : lv_has ls 1 [(0, .ref a5)] := hl
  have hx := C.1
  have hb := C.2.1
  refine lv_aload_n hx hb dX5_isFull_0 rfl (lv_at hl 0 rfl) ?_
  refine cx_get C hW 0 4 rfl rfl (by decide) inX5 gw_161 rfl rfl dX5_isFull_1 ?_
  refine lv_bipush (v := nI 12) hx hb dX5_isFull_4 (by decide) ?_
  refine r_ltN hx hb (a := nm) (b := 12) (by omega) (by omega) (tgt := 13) dX5_isFull_6 (by decide) (fun c_6 => ?_) (fun c_6 => ?_)
  · refine lv_iconst (v := nI 0) hx hb dX5_isFull_13 (by decide) ?_
    exact cx_iret C hr hlocks (by decide) hW ⟨Nat.le_of_ble_eq_true rfl, Nat.le_of_ble_eq_true rfl⟩ (⟨by rw [decide_eq_false (by omega)]; rfl, rfl⟩) dX5_isFull_14
  · refine lv_iconst (v := nI 1) hx hb dX5_isFull_9 (by decide) ?_
    refine lv_goto (tgt := 14) hx hb dX5_isFull_10 (by decide) ?_
    exact cx_iret C hr hlocks (by decide) hW ⟨Nat.le_of_ble_eq_true rfl, Nat.le_of_ble_eq_true rfl⟩ (⟨by rw [decide_eq_true (by omega)]; rfl, rfl⟩) dX5_isFull_14
theorem dX5_require_0 : decode cX5_require 0 = .ok (.iconst 0, 1) := by decide +kernel
theorem dX5_require_1 : decode cX5_require 1 = .ok (.istore_n 2, 1) := by decide +kernel
theorem dX5_require_2 : decode cX5_require 2 = .ok (.iload_n 2, 1) := by decide +kernel
theorem dX5_require_3 : decode cX5_require 3 = .ok (.aload_n 0, 1) := by decide +kernel
theorem dX5_require_4 : decode cX5_require 4 = .ok (.getfield 24, 3) := by decide +kernel
theorem dX5_require_7 : decode cX5_require 7 = .ok (.if_icmp .ge 21, 3) := by decide +kernel
theorem dX5_require_10 : decode cX5_require 10 = .ok (.aload_n 0, 1) := by decide +kernel
theorem dX5_require_11 : decode cX5_require 11 = .ok (.getfield 9, 3) := by decide +kernel
theorem dX5_require_14 : decode cX5_require 14 = .ok (.iload_n 2, 1) := by decide +kernel
theorem dX5_require_15 : decode cX5_require 15 = .ok (.iaload, 1) := by decide +kernel
theorem dX5_require_16 : decode cX5_require 16 = .ok (.iload_n 1, 1) := by decide +kernel
theorem dX5_require_17 : decode cX5_require 17 = .ok (.if_icmp .ne 5, 3) := by decide +kernel
theorem dX5_require_20 : decode cX5_require 20 = .ok (.iload_n 2, 1) := by decide +kernel
theorem dX5_require_21 : decode cX5_require 21 = .ok (.ireturn, 1) := by decide +kernel
theorem dX5_require_22 : decode cX5_require 22 = .ok (.iinc 2 1, 3) := by decide +kernel
theorem dX5_require_25 : decode cX5_require 25 = .ok (.goto (-23), 3) := by decide +kernel
theorem dX5_require_28 : decode cX5_require 28 = .ok (.new 37, 3) := by decide +kernel
theorem dX5_require_31 : decode cX5_require 31 = .ok (.dup, 1) := by decide +kernel
theorem dX5_require_32 : decode cX5_require 32 = .ok (.ldc 39, 2) := by decide +kernel
theorem dX5_require_34 : decode cX5_require 34 = .ok (.invokespecial 41, 3) := by decide +kernel
theorem dX5_require_37 : decode cX5_require 37 = .ok (.athrow, 1) := by decide +kernel
set_option maxHeartbeats 2000000 in
set_option maxRecDepth 20000 in
theorem k_X5_require (l : Launch) (hfl : l.stackTraces = false) (D : va_G) (aT : Nat → ClassId) (a5 : Nat) (a6 : Nat) (a7 : Nat) (a8 : Nat) (a9 : Nat) (fI : Nat → Int32) (fN : Nat → Int32) (fW : Nat → Int32) (fP : Nat → Int32) (nm : Nat) (nx : Int32) (h12 : nm ≤ 12) (x : Int32) : CxG l yX5_require cX5_require 3 (some (.int)) 6 1 6 90 D aT [.ref a5, .int x] [(a5, .inr (8, [.ref a6, .ref a7, .ref a8, .ref a9, .int (nI nm), .int nx])), (a6, .inl (aT 0, 12, .inl fI)), (a7, .inl (aT 0, 12, .inl fN)), (a8, .inl (aT 0, 12, .inl fW)), (a9, .inl (aT 0, 12, .inl fP))] (qI D aT (fun r W1 => (∃ q, fnd fI x nm = some q ∧ q < nm ∧ r = nI q) ∧ W1 = [(a5, .inr (8, [.ref a6, .ref a7, .ref a8, .ref a9, .int (nI nm), .int nx])), (a6, .inl (aT 0, 12, .inl fI)), (a7, .inl (aT 0, 12, .inl fN)), (a8, .inl (aT 0, 12, .inl fW)), (a9, .inl (aT 0, 12, .inl fP))])) (fun E W1 => E = "java/util/NoSuchElementException" ∧ fnd fI x nm = none ∧ W1 = [(a5, .inr (8, [.ref a6, .ref a7, .ref a8, .ref a9, .int (nI nm), .int nx])), (a6, .inl (aT 0, 12, .inl fI)), (a7, .inl (aT 0, 12, .inl fN)), (a8, .inl (aT 0, 12, .inl fW)), (a9, .inl (aT 0, 12, .inl fP))]) := by
  refine CxG.of RX5 (by decide +kernel) rfl (Nat.le_of_ble_eq_true rfl) ?_
  intro p e s m below meth c A ls C hml hl hA hr hlocks hex hnm hZ hW
  have hl : lv_has ls 3 [(0, .ref a5), (1, .int x)] := hl
  have hx := C.1
  have hb := C.2.1
  refine lv_iconst (v := nI 0) hx hb dX5_require_0 (by decide) ?_
  refine lv_istore_n (lv' := [(2, .int (nI 0)), (0, .ref a5), (1, .int x)]) hx hb dX5_require_1 rfl hl (by decide) rfl (fun ls hl => ?_)
  refine W_loopH (σ := Nat) (fun z_ => nm - z_) (fun z_ H locs g => ∃ ls, g = F0 m 2 ls [] ∧ lv_has ls 3 [(2, .int (nI z_)), (1, .int x), (0, .ref a5)] ∧ CxB D [(a5, .inr (8, [.ref a6, .ref a7, .ref a8, .ref a9, .int (nI nm), .int nx])), (a6, .inl (aT 0, 12, .inl fI)), (a7, .inl (aT 0, 12, .inl fN)), (a8, .inl (aT 0, 12, .inl fW)), (a9, .inl (aT 0, 12, .inl fP))] A s.heap H locs ∧ z_ ≤ nm ∧ fnd fI x z_ = none) ?_ 0 _ ⟨_, rfl, lv_sub hl [0, 2, 1] rfl, hW, ⟨Nat.zero_le _, rfl⟩⟩
  clear hW hl
  rintro i H locs g ⟨ls, rfl, hl, hW, ⟨hi, hf⟩⟩ ih_2
  refine lv_iload_n hx hb dX5_require_2 rfl (lv_at hl 0 rfl) ?_
  refine lv_aload_n hx hb dX5_require_3 rfl (lv_at hl 2 rfl) ?_
  refine cx_get C hW 0 4 rfl rfl (by decide) inX5 gw_161 rfl rfl dX5_require_4 ?_
  refine r_geN hx hb (a := i) (b := nm) (by omega) (by omega) (tgt := 28) dX5_require_7 (by decide) (fun c_7 => ?_) (fun c_7 => ?_)
  · exact cx_throwX C hfl hex hml hl.1 hlocks hZ hW dx_NoSuchElementException_0 dx_NoSuchElementException_1 dx_NoSuchElementException_2 dx_NoSuchElementException_5 at_X5_NoSuchElementException (List.mem_of_getElem? (i := 4) rfl) gw_703 gw_88 (by decide +kernel) dX5_require_28 dX5_require_31 dX5_require_32 dX5_require_34 dX5_require_37 ⟨Nat.le_of_ble_eq_true rfl, Nat.le_of_ble_eq_true rfl, Nat.le_of_ble_eq_true rfl, Nat.le_of_ble_eq_true rfl⟩ ⟨Nat.le_of_ble_eq_true rfl, Nat.le_of_ble_eq_true rfl⟩ (⟨rfl, by rw [show nm = i by omega]; exact hf, rfl⟩)
  · refine lv_aload_n hx hb dX5_require_10 rfl (lv_at hl 2 rfl) ?_
    refine cx_get C hW 0 0 rfl rfl (by decide) inX5 gw_148 rfl rfl dX5_require_11 ?_
    refine lv_iload_n hx hb dX5_require_14 rfl (lv_at hl 0 rfl) ?_
    refine cx_ald C hW 1 0 (j := i) rfl rfl rfl (by omega) (by decide) dX5_require_15 ?_
    refine lv_iload_n hx hb dX5_require_16 rfl (lv_at hl 1 rfl) ?_
    refine lv_icmp_ne hx hb (x := (fI i)) (y := x) (tgt := 22) dX5_require_17 (by decide) (fun c_17 => ?_) (fun c_17 => ?_)
    · refine lv_iinc (v := (nI (i + 1))) (lv' := [(2, .int (nI (i + 1))), (1, .int x), (0, .ref a5)]) hx hb dX5_require_22 hl (k := 0) rfl (nI_1 _) (by decide) rfl (fun ls hl => ?_)
      refine lv_goto (tgt := 2) hx hb dX5_require_25 (by decide) ?_
      exact ih_2 (i + 1) _ _ _ (by first | omega | (dsimp only; omega)) ⟨_, rfl, lv_sub hl [0, 1, 2] rfl, hW, ⟨by omega, fnd_step hf c_17⟩⟩
    · refine lv_iload_n hx hb dX5_require_20 rfl (lv_at hl 0 rfl) ?_
      exact cx_iret C hr hlocks rfl hW ⟨Nat.le_of_ble_eq_true rfl, Nat.le_of_ble_eq_true rfl⟩ (⟨⟨i, fnd_hit hf c_17 (by omega), by omega, rfl⟩, rfl⟩) dX5_require_21
theorem dX5_add_0 : decode cX5_add 0 = .ok (.aload_n 0, 1) := by decide +kernel
theorem dX5_add_1 : decode cX5_add 1 = .ok (.getfield 28, 3) := by decide +kernel
theorem dX5_add_4 : decode cX5_add 4 = .ok (.istore 4, 2) := by decide +kernel
theorem dX5_add_6 : decode cX5_add 6 = .ok (.aload_n 0, 1) := by decide +kernel
theorem dX5_add_7 : decode cX5_add 7 = .ok (.getfield 9, 3) := by decide +kernel
theorem dX5_add_10 : decode cX5_add 10 = .ok (.aload_n 0, 1) := by decide +kernel
theorem dX5_add_11 : decode cX5_add 11 = .ok (.getfield 24, 3) := by decide +kernel
theorem dX5_add_14 : decode cX5_add 14 = .ok (.iload 4, 2) := by decide +kernel
theorem dX5_add_16 : decode cX5_add 16 = .ok (.iastore, 1) := by decide +kernel
theorem dX5_add_17 : decode cX5_add 17 = .ok (.aload_n 0, 1) := by decide +kernel
theorem dX5_add_18 : decode cX5_add 18 = .ok (.getfield 15, 3) := by decide +kernel
theorem dX5_add_21 : decode cX5_add 21 = .ok (.aload_n 0, 1) := by decide +kernel
theorem dX5_add_22 : decode cX5_add 22 = .ok (.getfield 24, 3) := by decide +kernel
theorem dX5_add_25 : decode cX5_add 25 = .ok (.iload_n 2, 1) := by decide +kernel
theorem dX5_add_26 : decode cX5_add 26 = .ok (.iastore, 1) := by decide +kernel
theorem dX5_add_27 : decode cX5_add 27 = .ok (.aload_n 0, 1) := by decide +kernel
theorem dX5_add_28 : decode cX5_add 28 = .ok (.getfield 18, 3) := by decide +kernel
theorem dX5_add_31 : decode cX5_add 31 = .ok (.aload_n 0, 1) := by decide +kernel
theorem dX5_add_32 : decode cX5_add 32 = .ok (.getfield 24, 3) := by decide +kernel
theorem dX5_add_35 : decode cX5_add 35 = .ok (.iload_n 3, 1) := by decide +kernel
theorem dX5_add_36 : decode cX5_add 36 = .ok (.iastore, 1) := by decide +kernel
theorem dX5_add_37 : decode cX5_add 37 = .ok (.aload_n 0, 1) := by decide +kernel
theorem dX5_add_38 : decode cX5_add 38 = .ok (.getfield 21, 3) := by decide +kernel
theorem dX5_add_41 : decode cX5_add 41 = .ok (.aload_n 0, 1) := by decide +kernel
theorem dX5_add_42 : decode cX5_add 42 = .ok (.getfield 24, 3) := by decide +kernel
theorem dX5_add_45 : decode cX5_add 45 = .ok (.iload_n 1, 1) := by decide +kernel
theorem dX5_add_46 : decode cX5_add 46 = .ok (.iastore, 1) := by decide +kernel
theorem dX5_add_47 : decode cX5_add 47 = .ok (.aload_n 0, 1) := by decide +kernel
theorem dX5_add_48 : decode cX5_add 48 = .ok (.dup, 1) := by decide +kernel
theorem dX5_add_49 : decode cX5_add 49 = .ok (.getfield 24, 3) := by decide +kernel
theorem dX5_add_52 : decode cX5_add 52 = .ok (.iconst 1, 1) := by decide +kernel
theorem dX5_add_53 : decode cX5_add 53 = .ok (.iadd, 1) := by decide +kernel
theorem dX5_add_54 : decode cX5_add 54 = .ok (.putfield 24, 3) := by decide +kernel
theorem dX5_add_57 : decode cX5_add 57 = .ok (.aload_n 0, 1) := by decide +kernel
theorem dX5_add_58 : decode cX5_add 58 = .ok (.iload 4, 2) := by decide +kernel
theorem dX5_add_60 : decode cX5_add 60 = .ok (.iconst 1, 1) := by decide +kernel
theorem dX5_add_61 : decode cX5_add 61 = .ok (.iadd, 1) := by decide +kernel
theorem dX5_add_62 : decode cX5_add 62 = .ok (.putfield 28, 3) := by decide +kernel
theorem dX5_add_65 : decode cX5_add 65 = .ok (.iload 4, 2) := by decide +kernel
theorem dX5_add_67 : decode cX5_add 67 = .ok (.ireturn, 1) := by decide +kernel
set_option maxHeartbeats 2000000 in
set_option maxRecDepth 20000 in
theorem k_X5_add (l : Launch) (hfl : l.stackTraces = false) (D : va_G) (aT : Nat → ClassId) (a5 : Nat) (a6 : Nat) (a7 : Nat) (a8 : Nat) (a9 : Nat) (fI : Nat → Int32) (fN : Nat → Int32) (fW : Nat → Int32) (fP : Nat → Int32) (nm : Nat) (nx : Int32) (x : Int32) (y : Int32) (z : Int32) (h12 : nm < 12) : CxG l yX5_add cX5_add 5 (some (.int)) 0 0 0 0 D aT [.ref a5, .int x, .int y, .int z] [(a5, .inr (8, [.ref a6, .ref a7, .ref a8, .ref a9, .int (nI nm), .int nx])), (a6, .inl (aT 0, 12, .inl fI)), (a7, .inl (aT 0, 12, .inl fN)), (a8, .inl (aT 0, 12, .inl fW)), (a9, .inl (aT 0, 12, .inl fP))] (qI D aT (fun r W1 => r = nx ∧ W1 = [(a5, .inr (8, [.ref a6, .ref a7, .ref a8, .ref a9, .int (nI (nm + 1)), .int (nx + (nI 1))])), (a6, .inl (aT 0, 12, .inl (upd fI nm (nx)))), (a7, .inl (aT 0, 12, .inl (upd fN nm (y)))), (a8, .inl (aT 0, 12, .inl (upd fW nm (z)))), (a9, .inl (aT 0, 12, .inl (upd fP nm (x))))])) (fun _ _ => False) := by
  refine CxG.of RX5 (by decide +kernel) rfl (Nat.le_of_ble_eq_true rfl) ?_
  intro p e s m below meth c A ls C hml hl hA hr hlocks hex hnm hZ hW
  have hl : lv_has ls 5 [(0, .ref a5), (1, .int x), (2, .int y), (3, .int z)] := hl
  have hx := C.1
  have hb := C.2.1
  refine lv_aload_n hx hb dX5_add_0 rfl (lv_at hl 0 rfl) ?_
  refine cx_get C hW 0 5 rfl rfl (by decide) inX5 gw_165 rfl rfl dX5_add_1 ?_
  refine lv_istore (lv' := [(4, .int nx), (0, .ref a5), (1, .int x), (2, .int y), (3, .int z)]) hx hb dX5_add_4 hl (by decide) rfl (fun ls hl => ?_)
  refine lv_aload_n hx hb dX5_add_6 rfl (lv_at hl 1 rfl) ?_
  refine cx_get C hW 0 0 rfl rfl (by decide) inX5 gw_148 rfl rfl dX5_add_7 ?_
  refine lv_aload_n hx hb dX5_add_10 rfl (lv_at hl 1 rfl) ?_
  refine cx_get C hW 0 4 rfl rfl (by decide) inX5 gw_161 rfl rfl dX5_add_11 ?_
  refine lv_iload hx hb dX5_add_14 (lv_at hl 0 rfl) ?_
  refine cx_ast C hW 1 0 (j := nm) (W1 := [(a5, .inr (8, [.ref a6, .ref a7, .ref a8, .ref a9, .int (nI nm), .int nx])), (a6, .inl (aT 0, 12, .inl (upd fI nm (nx)))), (a7, .inl (aT 0, 12, .inl fN)), (a8, .inl (aT 0, 12, .inl fW)), (a9, .inl (aT 0, 12, .inl fP))]) rfl rfl rfl (by omega) (by decide) rfl dX5_add_16 (fun H locs hW => ?_)
  refine lv_aload_n hx hb dX5_add_17 rfl (lv_at hl 1 rfl) ?_
  refine cx_get C hW 0 1 rfl rfl (by decide) inX5 gw_150 rfl rfl dX5_add_18 ?_
  refine lv_aload_n hx hb dX5_add_21 rfl (lv_at hl 1 rfl) ?_
  refine cx_get C hW 0 4 rfl rfl (by decide) inX5 gw_161 rfl rfl dX5_add_22 ?_
  refine lv_iload_n hx hb dX5_add_25 rfl (lv_at hl 3 rfl) ?_
  refine cx_ast C hW 2 0 (j := nm) (W1 := [(a5, .inr (8, [.ref a6, .ref a7, .ref a8, .ref a9, .int (nI nm), .int nx])), (a6, .inl (aT 0, 12, .inl (upd fI nm (nx)))), (a7, .inl (aT 0, 12, .inl (upd fN nm (y)))), (a8, .inl (aT 0, 12, .inl fW)), (a9, .inl (aT 0, 12, .inl fP))]) rfl rfl rfl (by omega) (by decide) rfl dX5_add_26 (fun H locs hW => ?_)
  refine lv_aload_n hx hb dX5_add_27 rfl (lv_at hl 1 rfl) ?_
  refine cx_get C hW 0 2 rfl rfl (by decide) inX5 gw_153 rfl rfl dX5_add_28 ?_
  refine lv_aload_n hx hb dX5_add_31 rfl (lv_at hl 1 rfl) ?_
  refine cx_get C hW 0 4 rfl rfl (by decide) inX5 gw_161 rfl rfl dX5_add_32 ?_
  refine lv_iload_n hx hb dX5_add_35 rfl (lv_at hl 4 rfl) ?_
  refine cx_ast C hW 3 0 (j := nm) (W1 := [(a5, .inr (8, [.ref a6, .ref a7, .ref a8, .ref a9, .int (nI nm), .int nx])), (a6, .inl (aT 0, 12, .inl (upd fI nm (nx)))), (a7, .inl (aT 0, 12, .inl (upd fN nm (y)))), (a8, .inl (aT 0, 12, .inl (upd fW nm (z)))), (a9, .inl (aT 0, 12, .inl fP))]) rfl rfl rfl (by omega) (by decide) rfl dX5_add_36 (fun H locs hW => ?_)
  refine lv_aload_n hx hb dX5_add_37 rfl (lv_at hl 1 rfl) ?_
  refine cx_get C hW 0 3 rfl rfl (by decide) inX5 gw_157 rfl rfl dX5_add_38 ?_
  refine lv_aload_n hx hb dX5_add_41 rfl (lv_at hl 1 rfl) ?_
  refine cx_get C hW 0 4 rfl rfl (by decide) inX5 gw_161 rfl rfl dX5_add_42 ?_
  refine lv_iload_n hx hb dX5_add_45 rfl (lv_at hl 2 rfl) ?_
  refine cx_ast C hW 4 0 (j := nm) (W1 := [(a5, .inr (8, [.ref a6, .ref a7, .ref a8, .ref a9, .int (nI nm), .int nx])), (a6, .inl (aT 0, 12, .inl (upd fI nm (nx)))), (a7, .inl (aT 0, 12, .inl (upd fN nm (y)))), (a8, .inl (aT 0, 12, .inl (upd fW nm (z)))), (a9, .inl (aT 0, 12, .inl (upd fP nm (x))))]) rfl rfl rfl (by omega) (by decide) rfl dX5_add_46 (fun H locs hW => ?_)
  refine lv_aload_n hx hb dX5_add_47 rfl (lv_at hl 1 rfl) ?_
  refine lv_dup hx hb dX5_add_48 rfl ?_
  refine cx_get C hW 0 4 rfl rfl (by decide) inX5 gw_161 rfl rfl dX5_add_49 ?_
  refine lv_iconst (v := nI 1) hx hb dX5_add_52 (by decide) ?_
  refine r_iaddN hx hb (a := nm) (b := 1) dX5_add_53 ?_
  refine cx_put C hW 0 4 (W1 := [(a5, .inr (8, [.ref a6, .ref a7, .ref a8, .ref a9, .int (nI (nm + 1)), .int nx])), (a6, .inl (aT 0, 12, .inl (upd fI nm (nx)))), (a7, .inl (aT 0, 12, .inl (upd fN nm (y)))), (a8, .inl (aT 0, 12, .inl (upd fW nm (z)))), (a9, .inl (aT 0, 12, .inl (upd fP nm (x))))]) rfl rfl (by decide) inX5 tyX5 tyX5_ok nmX5 gw_161 rfl rfl rfl rfl rfl (Nat.le_of_ble_eq_true rfl) rfl dX5_add_54 (fun H locs hW => ?_)
  refine lv_aload_n hx hb dX5_add_57 rfl (lv_at hl 1 rfl) ?_
  refine lv_iload hx hb dX5_add_58 (lv_at hl 0 rfl) ?_
  refine lv_iconst (v := nI 1) hx hb dX5_add_60 (by decide) ?_
  refine lv_iadd hx hb dX5_add_61 ?_
  refine cx_put C hW 0 5 (W1 := [(a5, .inr (8, [.ref a6, .ref a7, .ref a8, .ref a9, .int (nI (nm + 1)), .int (nx + (nI 1))])), (a6, .inl (aT 0, 12, .inl (upd fI nm (nx)))), (a7, .inl (aT 0, 12, .inl (upd fN nm (y)))), (a8, .inl (aT 0, 12, .inl (upd fW nm (z)))), (a9, .inl (aT 0, 12, .inl (upd fP nm (x))))]) rfl rfl (by decide) inX5 tyX5 tyX5_ok nmX5 gw_165 rfl rfl rfl rfl rfl (Nat.le_of_ble_eq_true rfl) rfl dX5_add_62 (fun H locs hW => ?_)
  refine lv_iload hx hb dX5_add_65 (lv_at hl 0 rfl) ?_
  exact cx_iret C hr hlocks rfl hW ⟨Nat.le_of_ble_eq_true rfl, Nat.le_of_ble_eq_true rfl⟩ (⟨rfl, rfl⟩) dX5_add_67
theorem dX5_removeTip_0 : decode cX5_removeTip 0 = .ok (.iload_n 1, 1) := by decide +kernel
theorem dX5_removeTip_1 : decode cX5_removeTip 1 = .ok (.iconst 1, 1) := by decide +kernel
theorem dX5_removeTip_2 : decode cX5_removeTip 2 = .ok (.iadd, 1) := by decide +kernel
theorem dX5_removeTip_3 : decode cX5_removeTip 3 = .ok (.istore_n 2, 1) := by decide +kernel
theorem dX5_removeTip_4 : decode cX5_removeTip 4 = .ok (.iload_n 2, 1) := by decide +kernel
theorem dX5_removeTip_5 : decode cX5_removeTip 5 = .ok (.aload_n 0, 1) := by decide +kernel
theorem dX5_removeTip_6 : decode cX5_removeTip 6 = .ok (.getfield 24, 3) := by decide +kernel
theorem dX5_removeTip_9 : decode cX5_removeTip 9 = .ok (.if_icmp .ge 86, 3) := by decide +kernel
theorem dX5_removeTip_12 : decode cX5_removeTip 12 = .ok (.aload_n 0, 1) := by decide +kernel
theorem dX5_removeTip_13 : decode cX5_removeTip 13 = .ok (.getfield 9, 3) := by decide +kernel
theorem dX5_removeTip_16 : decode cX5_removeTip 16 = .ok (.iload_n 2, 1) := by decide +kernel
theorem dX5_removeTip_17 : decode cX5_removeTip 17 = .ok (.iconst 1, 1) := by decide +kernel
theorem dX5_removeTip_18 : decode cX5_removeTip 18 = .ok (.isub, 1) := by decide +kernel
theorem dX5_removeTip_19 : decode cX5_removeTip 19 = .ok (.aload_n 0, 1) := by decide +kernel
theorem dX5_removeTip_20 : decode cX5_removeTip 20 = .ok (.getfield 9, 3) := by decide +kernel
theorem dX5_removeTip_23 : decode cX5_removeTip 23 = .ok (.iload_n 2, 1) := by decide +kernel
theorem dX5_removeTip_24 : decode cX5_removeTip 24 = .ok (.iaload, 1) := by decide +kernel
theorem dX5_removeTip_25 : decode cX5_removeTip 25 = .ok (.iastore, 1) := by decide +kernel
theorem dX5_removeTip_26 : decode cX5_removeTip 26 = .ok (.aload_n 0, 1) := by decide +kernel
theorem dX5_removeTip_27 : decode cX5_removeTip 27 = .ok (.getfield 15, 3) := by decide +kernel
theorem dX5_removeTip_30 : decode cX5_removeTip 30 = .ok (.iload_n 2, 1) := by decide +kernel
theorem dX5_removeTip_31 : decode cX5_removeTip 31 = .ok (.iconst 1, 1) := by decide +kernel
theorem dX5_removeTip_32 : decode cX5_removeTip 32 = .ok (.isub, 1) := by decide +kernel
theorem dX5_removeTip_33 : decode cX5_removeTip 33 = .ok (.aload_n 0, 1) := by decide +kernel
theorem dX5_removeTip_34 : decode cX5_removeTip 34 = .ok (.getfield 15, 3) := by decide +kernel
theorem dX5_removeTip_37 : decode cX5_removeTip 37 = .ok (.iload_n 2, 1) := by decide +kernel
theorem dX5_removeTip_38 : decode cX5_removeTip 38 = .ok (.iaload, 1) := by decide +kernel
theorem dX5_removeTip_39 : decode cX5_removeTip 39 = .ok (.iastore, 1) := by decide +kernel
theorem dX5_removeTip_40 : decode cX5_removeTip 40 = .ok (.aload_n 0, 1) := by decide +kernel
theorem dX5_removeTip_41 : decode cX5_removeTip 41 = .ok (.getfield 18, 3) := by decide +kernel
theorem dX5_removeTip_44 : decode cX5_removeTip 44 = .ok (.iload_n 2, 1) := by decide +kernel
theorem dX5_removeTip_45 : decode cX5_removeTip 45 = .ok (.iconst 1, 1) := by decide +kernel
theorem dX5_removeTip_46 : decode cX5_removeTip 46 = .ok (.isub, 1) := by decide +kernel
theorem dX5_removeTip_47 : decode cX5_removeTip 47 = .ok (.aload_n 0, 1) := by decide +kernel
theorem dX5_removeTip_48 : decode cX5_removeTip 48 = .ok (.getfield 18, 3) := by decide +kernel
theorem dX5_removeTip_51 : decode cX5_removeTip 51 = .ok (.iload_n 2, 1) := by decide +kernel
theorem dX5_removeTip_52 : decode cX5_removeTip 52 = .ok (.iaload, 1) := by decide +kernel
theorem dX5_removeTip_53 : decode cX5_removeTip 53 = .ok (.iastore, 1) := by decide +kernel
theorem dX5_removeTip_54 : decode cX5_removeTip 54 = .ok (.aload_n 0, 1) := by decide +kernel
theorem dX5_removeTip_55 : decode cX5_removeTip 55 = .ok (.getfield 21, 3) := by decide +kernel
theorem dX5_removeTip_58 : decode cX5_removeTip 58 = .ok (.iload_n 2, 1) := by decide +kernel
theorem dX5_removeTip_59 : decode cX5_removeTip 59 = .ok (.iconst 1, 1) := by decide +kernel
theorem dX5_removeTip_60 : decode cX5_removeTip 60 = .ok (.isub, 1) := by decide +kernel
theorem dX5_removeTip_61 : decode cX5_removeTip 61 = .ok (.aload_n 0, 1) := by decide +kernel
theorem dX5_removeTip_62 : decode cX5_removeTip 62 = .ok (.getfield 21, 3) := by decide +kernel
theorem dX5_removeTip_65 : decode cX5_removeTip 65 = .ok (.iload_n 2, 1) := by decide +kernel
theorem dX5_removeTip_66 : decode cX5_removeTip 66 = .ok (.iaload, 1) := by decide +kernel
theorem dX5_removeTip_67 : decode cX5_removeTip 67 = .ok (.iload_n 1, 1) := by decide +kernel
theorem dX5_removeTip_68 : decode cX5_removeTip 68 = .ok (.if_icmp .le 14, 3) := by decide +kernel
theorem dX5_removeTip_71 : decode cX5_removeTip 71 = .ok (.aload_n 0, 1) := by decide +kernel
theorem dX5_removeTip_72 : decode cX5_removeTip 72 = .ok (.getfield 21, 3) := by decide +kernel
theorem dX5_removeTip_75 : decode cX5_removeTip 75 = .ok (.iload_n 2, 1) := by decide +kernel
theorem dX5_removeTip_76 : decode cX5_removeTip 76 = .ok (.iaload, 1) := by decide +kernel
theorem dX5_removeTip_77 : decode cX5_removeTip 77 = .ok (.iconst 1, 1) := by decide +kernel
theorem dX5_removeTip_78 : decode cX5_removeTip 78 = .ok (.isub, 1) := by decide +kernel
theorem dX5_removeTip_79 : decode cX5_removeTip 79 = .ok (.goto 9, 3) := by decide +kernel
theorem dX5_removeTip_82 : decode cX5_removeTip 82 = .ok (.aload_n 0, 1) := by decide +kernel
theorem dX5_removeTip_83 : decode cX5_removeTip 83 = .ok (.getfield 21, 3) := by decide +kernel
theorem dX5_removeTip_86 : decode cX5_removeTip 86 = .ok (.iload_n 2, 1) := by decide +kernel
theorem dX5_removeTip_87 : decode cX5_removeTip 87 = .ok (.iaload, 1) := by decide +kernel
theorem dX5_removeTip_88 : decode cX5_removeTip 88 = .ok (.iastore, 1) := by decide +kernel
theorem dX5_removeTip_89 : decode cX5_removeTip 89 = .ok (.iinc 2 1, 3) := by decide +kernel
theorem dX5_removeTip_92 : decode cX5_removeTip 92 = .ok (.goto (-88), 3) := by decide +kernel
theorem dX5_removeTip_95 : decode cX5_removeTip 95 = .ok (.aload_n 0, 1) := by decide +kernel
theorem dX5_removeTip_96 : decode cX5_removeTip 96 = .ok (.dup, 1) := by decide +kernel
theorem dX5_removeTip_97 : decode cX5_removeTip 97 = .ok (.getfield 24, 3) := by decide +kernel
theorem dX5_removeTip_100 : decode cX5_removeTip 100 = .ok (.iconst 1, 1) := by decide +kernel
theorem dX5_removeTip_101 : decode cX5_removeTip 101 = .ok (.isub, 1) := by decide +kernel
theorem dX5_removeTip_102 : decode cX5_removeTip 102 = .ok (.putfield 24, 3) := by decide +kernel
theorem dX5_removeTip_105 : decode cX5_removeTip 105 = .ok (.return_, 1) := by decide +kernel
set_option maxHeartbeats 2000000 in
set_option maxRecDepth 20000 in
theorem k_X5_removeTip (l : Launch) (hfl : l.stackTraces = false) (D : va_G) (aT : Nat → ClassId) (a5 : Nat) (a6 : Nat) (a7 : Nat) (a8 : Nat) (a9 : Nat) (fI : Nat → Int32) (fN : Nat → Int32) (fW : Nat → Int32) (fP : Nat → Int32) (nm : Nat) (nx : Int32) (k : Nat) (hk : k < nm) (h12 : nm ≤ 12) : CxG l yX5_removeTip cX5_removeTip 3 none 0 0 0 0 D aT [.ref a5, .int (nI k)] [(a5, .inr (8, [.ref a6, .ref a7, .ref a8, .ref a9, .int (nI nm), .int nx])), (a6, .inl (aT 0, 12, .inl fI)), (a7, .inl (aT 0, 12, .inl fN)), (a8, .inl (aT 0, 12, .inl fW)), (a9, .inl (aT 0, 12, .inl fP))] (qV D aT (fun W1 => W1 = [(a5, .inr (8, [.ref a6, .ref a7, .ref a8, .ref a9, .int (nI (nm - 1)), .int nx])), (a6, .inl (aT 0, 12, .inl (rmF fI k nm))), (a7, .inl (aT 0, 12, .inl (rmF fN k nm))), (a8, .inl (aT 0, 12, .inl (rmF fW k nm))), (a9, .inl (aT 0, 12, .inl (rmP fP k nm)))])) (fun _ _ => False) := by
  refine CxG.of RX5 (by decide +kernel) rfl (Nat.le_of_ble_eq_true rfl) ?_
  intro p e s m below meth c A ls C hml hl hA hr hlocks hex hnm hZ hW
  have hl : lv_has ls 3 [(0, .ref a5), (1, .int (nI k))] := hl
  have hx := C.1
  have hb := C.2.1
  refine lv_iload_n hx hb dX5_removeTip_0 rfl (lv_at hl 1 rfl) ?_
  refine lv_iconst (v := nI 1) hx hb dX5_removeTip_1 (by decide) ?_
  refine r_iaddN hx hb (a := k) (b := 1) dX5_removeTip_2 ?_
  refine lv_istore_n (lv' := [(2, .int (nI (k + 1))), (0, .ref a5), (1, .int (nI k))]) hx hb dX5_removeTip_3 rfl hl (by decide) rfl (fun ls hl => ?_)
  rw [← (show rmF fI k (k + 1) = fI from rmF_0)] at hW
  rw [← (show rmF fN k (k + 1) = fN from rmF_0)] at hW
  rw [← (show rmF fW k (k + 1) = fW from rmF_0)] at hW
  rw [← (show rmP fP k (k + 1) = fP from rmP_0)] at hW
  refine W_loopH (σ := Nat) (fun z_ => nm - z_) (fun z_ H locs g => ∃ ls, g = F0 m 4 ls [] ∧ lv_has ls 3 [(2, .int (nI z_)), (1, .int (nI k)), (0, .ref a5)] ∧ CxB D [(a5, .inr (8, [.ref a6, .ref a7, .ref a8, .ref a9, .int (nI nm), .int nx])), (a6, .inl (aT 0, 12, .inl (rmF fI k z_))), (a7, .inl (aT 0, 12, .inl (rmF fN k z_))), (a8, .inl (aT 0, 12, .inl (rmF fW k z_))), (a9, .inl (aT 0, 12, .inl (rmP fP k z_)))] A s.heap H locs ∧ k + 1 ≤ z_ ∧ z_ ≤ nm) ?_ (k + 1) _ ⟨_, rfl, lv_sub hl [0, 2, 1] rfl, hW, ⟨Nat.le_refl _, hk⟩⟩
  clear hW hl
  rintro i H locs g ⟨ls, rfl, hl, hW, ⟨h1, hi⟩⟩ ih_4
  refine lv_iload_n hx hb dX5_removeTip_4 rfl (lv_at hl 0 rfl) ?_
  refine lv_aload_n hx hb dX5_removeTip_5 rfl (lv_at hl 2 rfl) ?_
  refine cx_get C hW 0 4 rfl rfl (by decide) inX5 gw_161 rfl rfl dX5_removeTip_6 ?_
  refine r_geN hx hb (a := i) (b := nm) (by omega) (by omega) (tgt := 95) dX5_removeTip_9 (by decide) (fun c_9 => ?_) (fun c_9 => ?_)
  · refine lv_aload_n hx hb dX5_removeTip_95 rfl (lv_at hl 2 rfl) ?_
    refine lv_dup hx hb dX5_removeTip_96 rfl ?_
    refine cx_get C hW 0 4 rfl rfl (by decide) inX5 gw_161 rfl rfl dX5_removeTip_97 ?_
    refine lv_iconst (v := nI 1) hx hb dX5_removeTip_100 (by decide) ?_
    refine r_isubN hx hb (a := nm) (b := 1) (by omega) dX5_removeTip_101 ?_
    refine cx_put C hW 0 4 (W1 := [(a5, .inr (8, [.ref a6, .ref a7, .ref a8, .ref a9, .int (nI (nm - 1)), .int nx])), (a6, .inl (aT 0, 12, .inl (rmF fI k i))), (a7, .inl (aT 0, 12, .inl (rmF fN k i))), (a8, .inl (aT 0, 12, .inl (rmF fW k i))), (a9, .inl (aT 0, 12, .inl (rmP fP k i)))]) rfl rfl (by decide) inX5 tyX5 tyX5_ok nmX5 gw_161 rfl rfl rfl rfl rfl (Nat.le_of_ble_eq_true rfl) rfl dX5_removeTip_102 (fun H locs hW => ?_)
    exact cx_vret C hr hlocks hW ⟨Nat.le_of_ble_eq_true rfl, Nat.le_of_ble_eq_true rfl⟩ (by rw [show i = nm by omega]) dX5_removeTip_105
  · refine lv_aload_n hx hb dX5_removeTip_12 rfl (lv_at hl 2 rfl) ?_
    refine cx_get C hW 0 0 rfl rfl (by decide) inX5 gw_148 rfl rfl dX5_removeTip_13 ?_
    refine lv_iload_n hx hb dX5_removeTip_16 rfl (lv_at hl 0 rfl) ?_
    refine lv_iconst (v := nI 1) hx hb dX5_removeTip_17 (by decide) ?_
    refine r_isubN hx hb (a := i) (b := 1) (by omega) dX5_removeTip_18 ?_
    refine lv_aload_n hx hb dX5_removeTip_19 rfl (lv_at hl 2 rfl) ?_
    refine cx_get C hW 0 0 rfl rfl (by decide) inX5 gw_148 rfl rfl dX5_removeTip_20 ?_
    refine lv_iload_n hx hb dX5_removeTip_23 rfl (lv_at hl 0 rfl) ?_
    refine cx_ald C hW 1 0 (j := i) rfl rfl rfl (by omega) (by decide) dX5_removeTip_24 ?_
    refine cx_ast C hW 1 0 (j := i - 1) (W1 := [(a5, .inr (8, [.ref a6, .ref a7, .ref a8, .ref a9, .int (nI nm), .int nx])), (a6, .inl (aT 0, 12, .inl (upd (rmF fI k i) (i - 1) (((rmF fI k i) i))))), (a7, .inl (aT 0, 12, .inl (rmF fN k i))), (a8, .inl (aT 0, 12, .inl (rmF fW k i))), (a9, .inl (aT 0, 12, .inl (rmP fP k i)))]) rfl rfl rfl (by omega) (by decide) rfl dX5_removeTip_25 (fun H locs hW => ?_)
    refine lv_aload_n hx hb dX5_removeTip_26 rfl (lv_at hl 2 rfl) ?_
    refine cx_get C hW 0 1 rfl rfl (by decide) inX5 gw_150 rfl rfl dX5_removeTip_27 ?_
    refine lv_iload_n hx hb dX5_removeTip_30 rfl (lv_at hl 0 rfl) ?_
    refine lv_iconst (v := nI 1) hx hb dX5_removeTip_31 (by decide) ?_
    refine r_isubN hx hb (a := i) (b := 1) (by omega) dX5_removeTip_32 ?_
    refine lv_aload_n hx hb dX5_removeTip_33 rfl (lv_at hl 2 rfl) ?_
    refine cx_get C hW 0 1 rfl rfl (by decide) inX5 gw_150 rfl rfl dX5_removeTip_34 ?_
    refine lv_iload_n hx hb dX5_removeTip_37 rfl (lv_at hl 0 rfl) ?_
    refine cx_ald C hW 2 0 (j := i) rfl rfl rfl (by omega) (by decide) dX5_removeTip_38 ?_
    refine cx_ast C hW 2 0 (j := i - 1) (W1 := [(a5, .inr (8, [.ref a6, .ref a7, .ref a8, .ref a9, .int (nI nm), .int nx])), (a6, .inl (aT 0, 12, .inl (upd (rmF fI k i) (i - 1) (((rmF fI k i) i))))), (a7, .inl (aT 0, 12, .inl (upd (rmF fN k i) (i - 1) (((rmF fN k i) i))))), (a8, .inl (aT 0, 12, .inl (rmF fW k i))), (a9, .inl (aT 0, 12, .inl (rmP fP k i)))]) rfl rfl rfl (by omega) (by decide) rfl dX5_removeTip_39 (fun H locs hW => ?_)
    refine lv_aload_n hx hb dX5_removeTip_40 rfl (lv_at hl 2 rfl) ?_
    refine cx_get C hW 0 2 rfl rfl (by decide) inX5 gw_153 rfl rfl dX5_removeTip_41 ?_
    refine lv_iload_n hx hb dX5_removeTip_44 rfl (lv_at hl 0 rfl) ?_
    refine lv_iconst (v := nI 1) hx hb dX5_removeTip_45 (by decide) ?_
    refine r_isubN hx hb (a := i) (b := 1) (by omega) dX5_removeTip_46 ?_
    refine lv_aload_n hx hb dX5_removeTip_47 rfl (lv_at hl 2 rfl) ?_
    refine cx_get C hW 0 2 rfl rfl (by decide) inX5 gw_153 rfl rfl dX5_removeTip_48 ?_
    refine lv_iload_n hx hb dX5_removeTip_51 rfl (lv_at hl 0 rfl) ?_
    refine cx_ald C hW 3 0 (j := i) rfl rfl rfl (by omega) (by decide) dX5_removeTip_52 ?_
    refine cx_ast C hW 3 0 (j := i - 1) (W1 := [(a5, .inr (8, [.ref a6, .ref a7, .ref a8, .ref a9, .int (nI nm), .int nx])), (a6, .inl (aT 0, 12, .inl (upd (rmF fI k i) (i - 1) (((rmF fI k i) i))))), (a7, .inl (aT 0, 12, .inl (upd (rmF fN k i) (i - 1) (((rmF fN k i) i))))), (a8, .inl (aT 0, 12, .inl (upd (rmF fW k i) (i - 1) (((rmF fW k i) i))))), (a9, .inl (aT 0, 12, .inl (rmP fP k i)))]) rfl rfl rfl (by omega) (by decide) rfl dX5_removeTip_53 (fun H locs hW => ?_)
    refine lv_aload_n hx hb dX5_removeTip_54 rfl (lv_at hl 2 rfl) ?_
    refine cx_get C hW 0 3 rfl rfl (by decide) inX5 gw_157 rfl rfl dX5_removeTip_55 ?_
    refine lv_iload_n hx hb dX5_removeTip_58 rfl (lv_at hl 0 rfl) ?_
    refine lv_iconst (v := nI 1) hx hb dX5_removeTip_59 (by decide) ?_
    refine r_isubN hx hb (a := i) (b := 1) (by omega) dX5_removeTip_60 ?_
    refine lv_aload_n hx hb dX5_removeTip_61 rfl (lv_at hl 2 rfl) ?_
    refine cx_get C hW 0 3 rfl rfl (by decide) inX5 gw_157 rfl rfl dX5_removeTip_62 ?_
    refine lv_iload_n hx hb dX5_removeTip_65 rfl (lv_at hl 0 rfl) ?_
    refine cx_ald C hW 4 0 (j := i) rfl rfl rfl (by omega) (by decide) dX5_removeTip_66 ?_
    refine lv_iload_n hx hb dX5_removeTip_67 rfl (lv_at hl 1 rfl) ?_
    refine lv_icmp_le hx hb (x := ((rmP fP k i) i)) (y := (nI k)) (tgt := 82) dX5_removeTip_68 (by decide) (fun c_68 => ?_) (fun c_68 => ?_)
    · refine lv_aload_n hx hb dX5_removeTip_82 rfl (lv_at hl 2 rfl) ?_
      refine cx_get C hW 0 3 rfl rfl (by decide) inX5 gw_157 rfl rfl dX5_removeTip_83 ?_
      refine lv_iload_n hx hb dX5_removeTip_86 rfl (lv_at hl 0 rfl) ?_
      refine cx_ald C hW 4 0 (j := i) rfl rfl rfl (by omega) (by decide) dX5_removeTip_87 ?_
      refine cx_ast C hW 4 0 (j := i - 1) (W1 := [(a5, .inr (8, [.ref a6, .ref a7, .ref a8, .ref a9, .int (nI nm), .int nx])), (a6, .inl (aT 0, 12, .inl (upd (rmF fI k i) (i - 1) (((rmF fI k i) i))))), (a7, .inl (aT 0, 12, .inl (upd (rmF fN k i) (i - 1) (((rmF fN k i) i))))), (a8, .inl (aT 0, 12, .inl (upd (rmF fW k i) (i - 1) (((rmF fW k i) i))))), (a9, .inl (aT 0, 12, .inl (upd (rmP fP k i) (i - 1) (((rmP fP k i) i)))))]) rfl rfl rfl (by omega) (by decide) rfl dX5_removeTip_88 (fun H locs hW => ?_)
      refine lv_iinc (v := (nI (i + 1))) (lv' := [(2, .int (nI (i + 1))), (1, .int (nI k)), (0, .ref a5)]) hx hb dX5_removeTip_89 hl (k := 0) rfl (nI_1 _) (by decide) rfl (fun ls hl => ?_)
      refine lv_goto (tgt := 4) hx hb dX5_removeTip_92 (by decide) ?_
      rw [← (show rmF fI k (i + 1) = upd (rmF fI k i) (i - 1) (((rmF fI k i) i)) from by rw [rmF_i]; exact rmF_1 (by omega))] at hW
      rw [← (show rmF fN k (i + 1) = upd (rmF fN k i) (i - 1) (((rmF fN k i) i)) from by rw [rmF_i]; exact rmF_1 (by omega))] at hW
      rw [← (show rmF fW k (i + 1) = upd (rmF fW k i) (i - 1) (((rmF fW k i) i)) from by rw [rmF_i]; exact rmF_1 (by omega))] at hW
      rw [← (show rmP fP k (i + 1) = upd (rmP fP k i) (i - 1) (((rmP fP k i) i)) from by rw [rmP_i]; rw [rmP_i] at c_68; rw [rmP_1 (by omega), dcP, if_pos c_68])] at hW
      exact ih_4 (i + 1) _ _ _ (by first | omega | (dsimp only; omega)) ⟨_, rfl, lv_sub hl [0, 1, 2] rfl, hW, ⟨by omega, by omega⟩⟩
    · refine lv_aload_n hx hb dX5_removeTip_71 rfl (lv_at hl 2 rfl) ?_
      refine cx_get C hW 0 3 rfl rfl (by decide) inX5 gw_157 rfl rfl dX5_removeTip_72 ?_
      refine lv_iload_n hx hb dX5_removeTip_75 rfl (lv_at hl 0 rfl) ?_
      refine cx_ald C hW 4 0 (j := i) rfl rfl rfl (by omega) (by decide) dX5_removeTip_76 ?_
      refine lv_iconst (v := nI 1) hx hb dX5_removeTip_77 (by decide) ?_
      refine lv_isub hx hb dX5_removeTip_78 ?_
      refine lv_goto (tgt := 88) hx hb dX5_removeTip_79 (by decide) ?_
      refine cx_ast C hW 4 0 (j := i - 1) (W1 := [(a5, .inr (8, [.ref a6, .ref a7, .ref a8, .ref a9, .int (nI nm), .int nx])), (a6, .inl (aT 0, 12, .inl (upd (rmF fI k i) (i - 1) (((rmF fI k i) i))))), (a7, .inl (aT 0, 12, .inl (upd (rmF fN k i) (i - 1) (((rmF fN k i) i))))), (a8, .inl (aT 0, 12, .inl (upd (rmF fW k i) (i - 1) (((rmF fW k i) i))))), (a9, .inl (aT 0, 12, .inl (upd (rmP fP k i) (i - 1) ((((rmP fP k i) i) - (nI 1))))))]) rfl rfl rfl (by omega) (by decide) rfl dX5_removeTip_88 (fun H locs hW => ?_)
      refine lv_iinc (v := (nI (i + 1))) (lv' := [(2, .int (nI (i + 1))), (1, .int (nI k)), (0, .ref a5)]) hx hb dX5_removeTip_89 hl (k := 0) rfl (nI_1 _) (by decide) rfl (fun ls hl => ?_)
      refine lv_goto (tgt := 4) hx hb dX5_removeTip_92 (by decide) ?_
      rw [← (show rmF fI k (i + 1) = upd (rmF fI k i) (i - 1) (((rmF fI k i) i)) from by rw [rmF_i]; exact rmF_1 (by omega))] at hW
      rw [← (show rmF fN k (i + 1) = upd (rmF fN k i) (i - 1) (((rmF fN k i) i)) from by rw [rmF_i]; exact rmF_1 (by omega))] at hW
      rw [← (show rmF fW k (i + 1) = upd (rmF fW k i) (i - 1) (((rmF fW k i) i)) from by rw [rmF_i]; exact rmF_1 (by omega))] at hW
      rw [← (show rmP fP k (i + 1) = upd (rmP fP k i) (i - 1) ((((rmP fP k i) i) - (nI 1))) from by rw [rmP_i]; rw [rmP_i] at c_68; rw [rmP_1 (by omega), dcP, if_neg c_68])] at hW
      exact ih_4 (i + 1) _ _ _ (by first | omega | (dsimp only; omega)) ⟨_, rfl, lv_sub hl [0, 1, 2] rfl, hW, ⟨by omega, by omega⟩⟩
theorem dX5_hasAmendments_0 : decode cX5_hasAmendments 0 = .ok (.iload_n 1, 1) := by decide +kernel
theorem dX5_hasAmendments_1 : decode cX5_hasAmendments 1 = .ok (.iconst 1, 1) := by decide +kernel
theorem dX5_hasAmendments_2 : decode cX5_hasAmendments 2 = .ok (.iadd, 1) := by decide +kernel
theorem dX5_hasAmendments_3 : decode cX5_hasAmendments 3 = .ok (.istore_n 2, 1) := by decide +kernel
theorem dX5_hasAmendments_4 : decode cX5_hasAmendments 4 = .ok (.iload_n 2, 1) := by decide +kernel
theorem dX5_hasAmendments_5 : decode cX5_hasAmendments 5 = .ok (.aload_n 0, 1) := by decide +kernel
theorem dX5_hasAmendments_6 : decode cX5_hasAmendments 6 = .ok (.getfield 24, 3) := by decide +kernel
theorem dX5_hasAmendments_9 : decode cX5_hasAmendments 9 = .ok (.if_icmp .ge 21, 3) := by decide +kernel
theorem dX5_hasAmendments_12 : decode cX5_hasAmendments 12 = .ok (.aload_n 0, 1) := by decide +kernel
theorem dX5_hasAmendments_13 : decode cX5_hasAmendments 13 = .ok (.getfield 21, 3) := by decide +kernel
theorem dX5_hasAmendments_16 : decode cX5_hasAmendments 16 = .ok (.iload_n 2, 1) := by decide +kernel
theorem dX5_hasAmendments_17 : decode cX5_hasAmendments 17 = .ok (.iaload, 1) := by decide +kernel
theorem dX5_hasAmendments_18 : decode cX5_hasAmendments 18 = .ok (.iload_n 1, 1) := by decide +kernel
theorem dX5_hasAmendments_19 : decode cX5_hasAmendments 19 = .ok (.if_icmp .ne 5, 3) := by decide +kernel
theorem dX5_hasAmendments_22 : decode cX5_hasAmendments 22 = .ok (.iconst 1, 1) := by decide +kernel
theorem dX5_hasAmendments_23 : decode cX5_hasAmendments 23 = .ok (.ireturn, 1) := by decide +kernel
theorem dX5_hasAmendments_24 : decode cX5_hasAmendments 24 = .ok (.iinc 2 1, 3) := by decide +kernel
theorem dX5_hasAmendments_27 : decode cX5_hasAmendments 27 = .ok (.goto (-23), 3) := by decide +kernel
theorem dX5_hasAmendments_30 : decode cX5_hasAmendments 30 = .ok (.iconst 0, 1) := by decide +kernel
theorem dX5_hasAmendments_31 : decode cX5_hasAmendments 31 = .ok (.ireturn, 1) := by decide +kernel
set_option maxHeartbeats 2000000 in
set_option maxRecDepth 20000 in
theorem k_X5_hasAmendments (l : Launch) (hfl : l.stackTraces = false) (D : va_G) (aT : Nat → ClassId) (a5 : Nat) (a6 : Nat) (a7 : Nat) (a8 : Nat) (a9 : Nat) (fI : Nat → Int32) (fN : Nat → Int32) (fW : Nat → Int32) (fP : Nat → Int32) (nm : Nat) (nx : Int32) (idn : Nat → Nat) (pr : Nat → Option Nat) (tn : Nat → Nat) (hO : MoC fI fN fP nm idn pr tn) (q : Nat) (hq9 : q < nm) : CxG l yX5_hasAmendments cX5_hasAmendments 3 (some (.boolean)) 0 0 0 0 D aT [.ref a5, .int (nI q)] [(a5, .inr (8, [.ref a6, .ref a7, .ref a8, .ref a9, .int (nI nm), .int nx])), (a6, .inl (aT 0, 12, .inl fI)), (a7, .inl (aT 0, 12, .inl fN)), (a8, .inl (aT 0, 12, .inl fW)), (a9, .inl (aT 0, 12, .inl fP))] (qI D aT (fun r W1 => r = bI (!tipB pr q nm) ∧ W1 = [(a5, .inr (8, [.ref a6, .ref a7, .ref a8, .ref a9, .int (nI nm), .int nx])), (a6, .inl (aT 0, 12, .inl fI)), (a7, .inl (aT 0, 12, .inl fN)), (a8, .inl (aT 0, 12, .inl fW)), (a9, .inl (aT 0, 12, .inl fP))])) (fun _ _ => False) := by
  refine CxG.of RX5 (by decide +kernel) rfl (Nat.le_of_ble_eq_true rfl) ?_
  intro p e s m below meth c A ls C hml hl hA hr hlocks hex hnm hZ hW
  have hl : lv_has ls 3 [(0, .ref a5), (1, .int (nI q))] := hl
  have hx := C.1
  have hb := C.2.1
  refine lv_iload_n hx hb dX5_hasAmendments_0 rfl (lv_at hl 1 rfl) ?_
  refine lv_iconst (v := nI 1) hx hb dX5_hasAmendments_1 (by decide) ?_
  refine r_iaddN hx hb (a := q) (b := 1) dX5_hasAmendments_2 ?_
  refine lv_istore_n (lv' := [(2, .int (nI (q + 1))), (0, .ref a5), (1, .int (nI q))]) hx hb dX5_hasAmendments_3 rfl hl (by decide) rfl (fun ls hl => ?_)
  refine W_loopH (σ := Nat) (fun z_ => nm - z_) (fun z_ H locs g => ∃ ls, g = F0 m 4 ls [] ∧ lv_has ls 3 [(2, .int (nI z_)), (1, .int (nI q)), (0, .ref a5)] ∧ CxB D [(a5, .inr (8, [.ref a6, .ref a7, .ref a8, .ref a9, .int (nI nm), .int nx])), (a6, .inl (aT 0, 12, .inl fI)), (a7, .inl (aT 0, 12, .inl fN)), (a8, .inl (aT 0, 12, .inl fW)), (a9, .inl (aT 0, 12, .inl fP))] A s.heap H locs ∧ q + 1 ≤ z_ ∧ z_ ≤ nm ∧ ∀ j, j < z_ → pr j ≠ some q) ?_ (q + 1) _ ⟨_, rfl, lv_sub hl [0, 2, 1] rfl, hW, ⟨Nat.le_refl _, hq9, fun j hj hp => by have := hO.2.2.2.1 j q (by omega) hp; omega⟩⟩
  clear hW hl
  rintro i H locs g ⟨ls, rfl, hl, hW, ⟨h1, hi, ht⟩⟩ ih_4
  refine lv_iload_n hx hb dX5_hasAmendments_4 rfl (lv_at hl 0 rfl) ?_
  refine lv_aload_n hx hb dX5_hasAmendments_5 rfl (lv_at hl 2 rfl) ?_
  refine cx_get C hW 0 4 rfl rfl (by decide) inX5 gw_161 rfl rfl dX5_hasAmendments_6 ?_
  refine r_geN hx hb (a := i) (b := nm) (by have := hO.1; omega) (by have := hO.1; omega) (tgt := 30) dX5_hasAmendments_9 (by decide) (fun c_9 => ?_) (fun c_9 => ?_)
  · refine lv_iconst (v := nI 0) hx hb dX5_hasAmendments_30 (by decide) ?_
    exact cx_iret C hr hlocks (by decide) hW ⟨Nat.le_of_ble_eq_true rfl, Nat.le_of_ble_eq_true rfl⟩ (⟨by rw [tipB_yes (fun j hj => ht j (by omega))]; rfl, rfl⟩) dX5_hasAmendments_31
  · refine lv_aload_n hx hb dX5_hasAmendments_12 rfl (lv_at hl 2 rfl) ?_
    refine cx_get C hW 0 3 rfl rfl (by decide) inX5 gw_157 rfl rfl dX5_hasAmendments_13 ?_
    refine lv_iload_n hx hb dX5_hasAmendments_16 rfl (lv_at hl 0 rfl) ?_
    refine cx_ald C hW 4 0 (j := i) rfl rfl rfl (by have := hO.1; omega) (by decide) dX5_hasAmendments_17 ?_
    refine r_eq (y := (oi (pr i))) (hO.2.2.1 i (by first | assumption | omega)) ?_
    refine lv_iload_n hx hb dX5_hasAmendments_18 rfl (lv_at hl 1 rfl) ?_
    refine r_on_ne hx hb (o := (pr i)) (q := q) (by intro j hj; have h1 := hO.1; have h2 := hO.2.2.2.1 _ _ (by first | assumption | omega) hj; omega) (by have := hO.1; omega) (tgt := 24) dX5_hasAmendments_19 (by decide) (fun c_19 => ?_) (fun c_19 => ?_)
    · refine lv_iinc (v := (nI (i + 1))) (lv' := [(2, .int (nI (i + 1))), (1, .int (nI q)), (0, .ref a5)]) hx hb dX5_hasAmendments_24 hl (k := 0) rfl (nI_1 _) (by decide) rfl (fun ls hl => ?_)
      refine lv_goto (tgt := 4) hx hb dX5_hasAmendments_27 (by decide) ?_
      exact ih_4 (i + 1) _ _ _ (by first | omega | (dsimp only; omega)) ⟨_, rfl, lv_sub hl [0, 1, 2] rfl, hW, ⟨by omega, by omega, (fun j hj => by rcases Nat.lt_or_ge j i with w | w; exact ht j w; rw [show j = i by omega]; exact c_19)⟩⟩
    · refine lv_iconst (v := nI 1) hx hb dX5_hasAmendments_22 (by decide) ?_
      exact cx_iret C hr hlocks (by decide) hW ⟨Nat.le_of_ble_eq_true rfl, Nat.le_of_ble_eq_true rfl⟩ (⟨by rw [tipB_not c_19 (show i < nm by omega)]; rfl, rfl⟩) dX5_hasAmendments_23
theorem dX5_depthOf_0 : decode cX5_depthOf 0 = .ok (.iconst 0, 1) := by decide +kernel
theorem dX5_depthOf_1 : decode cX5_depthOf 1 = .ok (.istore_n 2, 1) := by decide +kernel
theorem dX5_depthOf_2 : decode cX5_depthOf 2 = .ok (.aload_n 0, 1) := by decide +kernel
theorem dX5_depthOf_3 : decode cX5_depthOf 3 = .ok (.getfield 21, 3) := by decide +kernel
theorem dX5_depthOf_6 : decode cX5_depthOf 6 = .ok (.iload_n 1, 1) := by decide +kernel
theorem dX5_depthOf_7 : decode cX5_depthOf 7 = .ok (.iaload, 1) := by decide +kernel
theorem dX5_depthOf_8 : decode cX5_depthOf 8 = .ok (.istore_n 3, 1) := by decide +kernel
theorem dX5_depthOf_9 : decode cX5_depthOf 9 = .ok (.iload_n 3, 1) := by decide +kernel
theorem dX5_depthOf_10 : decode cX5_depthOf 10 = .ok (.ifCond .lt 22, 3) := by decide +kernel
theorem dX5_depthOf_13 : decode cX5_depthOf 13 = .ok (.iload_n 2, 1) := by decide +kernel
theorem dX5_depthOf_14 : decode cX5_depthOf 14 = .ok (.bipush 12, 2) := by decide +kernel
theorem dX5_depthOf_16 : decode cX5_depthOf 16 = .ok (.if_icmp .ge 16, 3) := by decide +kernel
theorem dX5_depthOf_19 : decode cX5_depthOf 19 = .ok (.aload_n 0, 1) := by decide +kernel
theorem dX5_depthOf_20 : decode cX5_depthOf 20 = .ok (.getfield 21, 3) := by decide +kernel
theorem dX5_depthOf_23 : decode cX5_depthOf 23 = .ok (.iload_n 3, 1) := by decide +kernel
theorem dX5_depthOf_24 : decode cX5_depthOf 24 = .ok (.iaload, 1) := by decide +kernel
theorem dX5_depthOf_25 : decode cX5_depthOf 25 = .ok (.istore_n 3, 1) := by decide +kernel
theorem dX5_depthOf_26 : decode cX5_depthOf 26 = .ok (.iinc 2 1, 3) := by decide +kernel
theorem dX5_depthOf_29 : decode cX5_depthOf 29 = .ok (.goto (-20), 3) := by decide +kernel
theorem dX5_depthOf_32 : decode cX5_depthOf 32 = .ok (.iload_n 2, 1) := by decide +kernel
theorem dX5_depthOf_33 : decode cX5_depthOf 33 = .ok (.ireturn, 1) := by decide +kernel
set_option maxHeartbeats 2000000 in
set_option maxRecDepth 20000 in
theorem k_X5_depthOf (l : Launch) (hfl : l.stackTraces = false) (D : va_G) (aT : Nat → ClassId) (a5 : Nat) (a6 : Nat) (a7 : Nat) (a8 : Nat) (a9 : Nat) (fI : Nat → Int32) (fN : Nat → Int32) (fW : Nat → Int32) (fP : Nat → Int32) (nm : Nat) (nx : Int32) (idn : Nat → Nat) (pr : Nat → Option Nat) (tn : Nat → Nat) (hO : MoC fI fN fP nm idn pr tn) (k : Nat) (hk : k < nm) : CxG l yX5_depthOf cX5_depthOf 4 (some (.int)) 0 0 0 0 D aT [.ref a5, .int (nI k)] [(a5, .inr (8, [.ref a6, .ref a7, .ref a8, .ref a9, .int (nI nm), .int nx])), (a6, .inl (aT 0, 12, .inl fI)), (a7, .inl (aT 0, 12, .inl fN)), (a8, .inl (aT 0, 12, .inl fW)), (a9, .inl (aT 0, 12, .inl fP))] (qI D aT (fun r W1 => r = nI (dep pr k) ∧ W1 = [(a5, .inr (8, [.ref a6, .ref a7, .ref a8, .ref a9, .int (nI nm), .int nx])), (a6, .inl (aT 0, 12, .inl fI)), (a7, .inl (aT 0, 12, .inl fN)), (a8, .inl (aT 0, 12, .inl fW)), (a9, .inl (aT 0, 12, .inl fP))])) (fun _ _ => False) := by
  refine CxG.of RX5 (by decide +kernel) rfl (Nat.le_of_ble_eq_true rfl) ?_
  intro p e s m below meth c A ls C hml hl hA hr hlocks hex hnm hZ hW
  have hl : lv_has ls 4 [(0, .ref a5), (1, .int (nI k))] := hl
  have hx := C.1
  have hb := C.2.1
  refine lv_iconst (v := nI 0) hx hb dX5_depthOf_0 (by decide) ?_
  refine lv_istore_n (lv' := [(2, .int (nI 0)), (0, .ref a5), (1, .int (nI k))]) hx hb dX5_depthOf_1 rfl hl (by decide) rfl (fun ls hl => ?_)
  refine lv_aload_n hx hb dX5_depthOf_2 rfl (lv_at hl 1 rfl) ?_
  refine cx_get C hW 0 3 rfl rfl (by decide) inX5 gw_157 rfl rfl dX5_depthOf_3 ?_
  refine lv_iload_n hx hb dX5_depthOf_6 rfl (lv_at hl 2 rfl) ?_
  refine cx_ald C hW 4 0 (j := k) rfl rfl rfl (by have := hO.1; omega) (by decide) dX5_depthOf_7 ?_
  refine r_eq (y := (oi (pr k))) (hO.2.2.1 k (by first | assumption | omega)) ?_
  refine lv_istore_n (lv' := [(3, .int (oi (pr k))), (2, .int (nI 0)), (0, .ref a5), (1, .int (nI k))]) hx hb dX5_depthOf_8 rfl hl (by decide) rfl (fun ls hl => ?_)
  refine W_loopH (σ := Option Nat × Nat) (fun z_ => oM z_.1) (fun z_ H locs g => ∃ ls, g = F0 m 9 ls [] ∧ lv_has ls 4 [(3, .int (oi z_.1)), (2, .int (nI z_.2)), (1, .int (nI k)), (0, .ref a5)] ∧ CxB D [(a5, .inr (8, [.ref a6, .ref a7, .ref a8, .ref a9, .int (nI nm), .int nx])), (a6, .inl (aT 0, 12, .inl fI)), (a7, .inl (aT 0, 12, .inl fN)), (a8, .inl (aT 0, 12, .inl fW)), (a9, .inl (aT 0, 12, .inl fP))] A s.heap H locs ∧ (∀ j, z_.1 = some j → j < nm) ∧ depO pr z_.1 + z_.2 = dep pr k) ?_ ((pr k), 0) _ ⟨_, rfl, lv_sub hl [0, 1, 3, 2] rfl, hW, ⟨fun j hj => by have := hO.2.2.2.1 k j hk hj; omega, (dep_O hO.2.2.2.1 hk).symm⟩⟩
  clear hW hl
  rintro ⟨o, u⟩ H locs g ⟨ls, rfl, hl, hW, ⟨hon, hd⟩⟩ ih_9
  dsimp only at hl hW hon hd ⊢
  refine lv_iload_n hx hb dX5_depthOf_9 rfl (lv_at hl 0 rfl) ?_
  refine r_oi_lt0 hx hb (o := o) (fun j hj => by have h1 := hO.1; have := hon j hj; omega) (tgt := 32) dX5_depthOf_10 (by decide) (fun c_10 => ?_) (fun j_10 c_10 => ?_)
  · subst c_10
    have hl : lv_has ls 4 [(3, .int (-1)), (2, .int (nI u)), (1, .int (nI k)), (0, .ref a5)] := hl
    refine lv_iload_n hx hb dX5_depthOf_32 rfl (lv_at hl 1 rfl) ?_
    exact cx_iret C hr hlocks rfl hW ⟨Nat.le_of_ble_eq_true rfl, Nat.le_of_ble_eq_true rfl⟩ (⟨by rw [← hd]; show nI u = nI (0 + u); rw [Nat.zero_add], rfl⟩) dX5_depthOf_33
  · subst c_10
    have hl : lv_has ls 4 [(3, .int (nI j_10)), (2, .int (nI u)), (1, .int (nI k)), (0, .ref a5)] := hl
    refine lv_iload_n hx hb dX5_depthOf_13 rfl (lv_at hl 1 rfl) ?_
    refine lv_bipush (v := nI 12) hx hb dX5_depthOf_14 (by decide) ?_
    refine r_geN hx hb (a := u) (b := 12) (by have h1 := hO.1; have h2 := dep_le hO.2.2.2.1 k hk; have h3 : (dep pr j_10 + 1) + u = dep pr k := hd; omega) (by have h1 := hO.1; have h2 := dep_le hO.2.2.2.1 k hk; have h3 : (dep pr j_10 + 1) + u = dep pr k := hd; omega) (tgt := 32) dX5_depthOf_16 (by decide) (fun c_16 => ?_) (fun c_16 => ?_)
    · exact absurd (dep_le hO.2.2.2.1 k hk) (by have h1 := hO.1; have h3 : (dep pr j_10 + 1) + u = dep pr k := hd; omega)
    · refine lv_aload_n hx hb dX5_depthOf_19 rfl (lv_at hl 3 rfl) ?_
      refine cx_get C hW 0 3 rfl rfl (by decide) inX5 gw_157 rfl rfl dX5_depthOf_20 ?_
      refine lv_iload_n hx hb dX5_depthOf_23 rfl (lv_at hl 0 rfl) ?_
      refine cx_ald C hW 4 0 (j := j_10) rfl rfl rfl (by have := hO.1; have := hon _ rfl; omega) (by decide) dX5_depthOf_24 ?_
      refine r_eq (y := (oi (pr j_10))) (hO.2.2.1 _ (hon _ rfl)) ?_
      refine lv_istore_n (lv' := [(3, .int (oi (pr j_10))), (2, .int (nI u)), (1, .int (nI k)), (0, .ref a5)]) hx hb dX5_depthOf_25 rfl hl (by decide) rfl (fun ls hl => ?_)
      refine lv_iinc (v := (nI (u + 1))) (lv' := [(2, .int (nI (u + 1))), (3, .int (oi (pr j_10))), (1, .int (nI k)), (0, .ref a5)]) hx hb dX5_depthOf_26 hl (k := 1) rfl (nI_1 _) (by decide) rfl (fun ls hl => ?_)
      refine lv_goto (tgt := 9) hx hb dX5_depthOf_29 (by decide) ?_
      exact ih_9 ((pr j_10), (u + 1)) _ _ _ (oM_lt hO.2.2.2.1 (hon _ rfl)) ⟨_, rfl, lv_sub hl [1, 0, 2, 3] rfl, hW, ⟨fun j hj => by have h1 := hO.2.2.2.1 j_10 j (hon _ rfl) hj; have := hon _ rfl; omega, by rw [← hd, ← dep_O hO.2.2.2.1 (hon _ rfl)]; show dep pr j_10 + (u + 1) = (dep pr j_10 + 1) + u; omega⟩⟩
theorem dX5_isInBranch_0 : decode cX5_isInBranch 0 = .ok (.iload_n 1, 1) := by decide +kernel
theorem dX5_isInBranch_1 : decode cX5_isInBranch 1 = .ok (.istore_n 3, 1) := by decide +kernel
theorem dX5_isInBranch_2 : decode cX5_isInBranch 2 = .ok (.iconst 0, 1) := by decide +kernel
theorem dX5_isInBranch_3 : decode cX5_isInBranch 3 = .ok (.istore 4, 2) := by decide +kernel
theorem dX5_isInBranch_5 : decode cX5_isInBranch 5 = .ok (.iload 4, 2) := by decide +kernel
theorem dX5_isInBranch_7 : decode cX5_isInBranch 7 = .ok (.bipush 12, 2) := by decide +kernel
theorem dX5_isInBranch_9 : decode cX5_isInBranch 9 = .ok (.if_icmp .ge 21, 3) := by decide +kernel
theorem dX5_isInBranch_12 : decode cX5_isInBranch 12 = .ok (.iload_n 3, 1) := by decide +kernel
theorem dX5_isInBranch_13 : decode cX5_isInBranch 13 = .ok (.iload_n 2, 1) := by decide +kernel
theorem dX5_isInBranch_14 : decode cX5_isInBranch 14 = .ok (.if_icmp .le 16, 3) := by decide +kernel
theorem dX5_isInBranch_17 : decode cX5_isInBranch 17 = .ok (.aload_n 0, 1) := by decide +kernel
theorem dX5_isInBranch_18 : decode cX5_isInBranch 18 = .ok (.getfield 21, 3) := by decide +kernel
theorem dX5_isInBranch_21 : decode cX5_isInBranch 21 = .ok (.iload_n 3, 1) := by decide +kernel
theorem dX5_isInBranch_22 : decode cX5_isInBranch 22 = .ok (.iaload, 1) := by decide +kernel
theorem dX5_isInBranch_23 : decode cX5_isInBranch 23 = .ok (.istore_n 3, 1) := by decide +kernel
theorem dX5_isInBranch_24 : decode cX5_isInBranch 24 = .ok (.iinc 4 1, 3) := by decide +kernel
theorem dX5_isInBranch_27 : decode cX5_isInBranch 27 = .ok (.goto (-22), 3) := by decide +kernel
theorem dX5_isInBranch_30 : decode cX5_isInBranch 30 = .ok (.iload_n 3, 1) := by decide +kernel
theorem dX5_isInBranch_31 : decode cX5_isInBranch 31 = .ok (.iload_n 2, 1) := by decide +kernel
theorem dX5_isInBranch_32 : decode cX5_isInBranch 32 = .ok (.if_icmp .ne 7, 3) := by decide +kernel
theorem dX5_isInBranch_35 : decode cX5_isInBranch 35 = .ok (.iconst 1, 1) := by decide +kernel
theorem dX5_isInBranch_36 : decode cX5_isInBranch 36 = .ok (.goto 4, 3) := by decide +kernel
theorem dX5_isInBranch_39 : decode cX5_isInBranch 39 = .ok (.iconst 0, 1) := by decide +kernel
theorem dX5_isInBranch_40 : decode cX5_isInBranch 40 = .ok (.ireturn, 1) := by decide +kernel
set_option maxHeartbeats 2000000 in
set_option maxRecDepth 20000 in
theorem k_X5_isInBranch (l : Launch) (hfl : l.stackTraces = false) (D : va_G) (aT : Nat → ClassId) (a5 : Nat) (a6 : Nat) (a7 : Nat) (a8 : Nat) (a9 : Nat) (fI : Nat → Int32) (fN : Nat → Int32) (fW : Nat → Int32) (fP : Nat → Int32) (nm : Nat) (nx : Int32) (idn : Nat → Nat) (pr : Nat → Option Nat) (tn : Nat → Nat) (hO : MoC fI fN fP nm idn pr tn) (k : Nat) (hk : k < nm) (tp : Nat) (htp : tp < nm) : CxG l yX5_isInBranch cX5_isInBranch 5 (some (.boolean)) 0 0 0 0 D aT [.ref a5, .int (nI k), .int (nI tp)] [(a5, .inr (8, [.ref a6, .ref a7, .ref a8, .ref a9, .int (nI nm), .int nx])), (a6, .inl (aT 0, 12, .inl fI)), (a7, .inl (aT 0, 12, .inl fN)), (a8, .inl (aT 0, 12, .inl fW)), (a9, .inl (aT 0, 12, .inl fP))] (qI D aT (fun r W1 => r = bI (anc pr tp k) ∧ W1 = [(a5, .inr (8, [.ref a6, .ref a7, .ref a8, .ref a9, .int (nI nm), .int nx])), (a6, .inl (aT 0, 12, .inl fI)), (a7, .inl (aT 0, 12, .inl fN)), (a8, .inl (aT 0, 12, .inl fW)), (a9, .inl (aT 0, 12, .inl fP))])) (fun _ _ => False) := by
  refine CxG.of RX5 (by decide +kernel) rfl (Nat.le_of_ble_eq_true rfl) ?_
  intro p e s m below meth c A ls C hml hl hA hr hlocks hex hnm hZ hW
  have hl : lv_has ls 5 [(0, .ref a5), (1, .int (nI k)), (2, .int (nI tp))] := hl
  have hx := C.1
  have hb := C.2.1
  refine lv_iload_n hx hb dX5_isInBranch_0 rfl (lv_at hl 1 rfl) ?_
  refine lv_istore_n (lv' := [(3, .int (nI k)), (0, .ref a5), (1, .int (nI k)), (2, .int (nI tp))]) hx hb dX5_isInBranch_1 rfl hl (by decide) rfl (fun ls hl => ?_)
  refine lv_iconst (v := nI 0) hx hb dX5_isInBranch_2 (by decide) ?_
  refine lv_istore (lv' := [(4, .int (nI 0)), (3, .int (nI k)), (0, .ref a5), (1, .int (nI k)), (2, .int (nI tp))]) hx hb dX5_isInBranch_3 hl (by decide) rfl (fun ls hl => ?_)
  have hl : lv_has ls 5 [(4, .int (nI 0)), (3, .int (oi (some k))), (0, .ref a5), (1, .int (nI k)), (2, .int (nI tp))] := hl
  refine W_loopH (σ := Option Nat × Nat) (fun z_ => oM z_.1) (fun z_ H locs g => ∃ ls, g = F0 m 5 ls [] ∧ lv_has ls 5 [(4, .int (nI z_.2)), (3, .int (oi z_.1)), (2, .int (nI tp)), (1, .int (nI k)), (0, .ref a5)] ∧ CxB D [(a5, .inr (8, [.ref a6, .ref a7, .ref a8, .ref a9, .int (nI nm), .int nx])), (a6, .inl (aT 0, 12, .inl fI)), (a7, .inl (aT 0, 12, .inl fN)), (a8, .inl (aT 0, 12, .inl fW)), (a9, .inl (aT 0, 12, .inl fP))] A s.heap H locs ∧ (∀ j, z_.1 = some j → j < nm) ∧ ancO pr tp z_.1 = anc pr tp k ∧ oM z_.1 + z_.2 ≤ 12) ?_ ((some k), 0) _ ⟨_, rfl, lv_sub hl [0, 1, 4, 3, 2] rfl, hW, ⟨fun j hj => by cases hj; exact hk, rfl, by have := hO.1; show k + 1 + 0 ≤ 12; omega⟩⟩
  clear hW hl
  rintro ⟨o, u⟩ H locs g ⟨ls, rfl, hl, hW, ⟨hon, ha, hm⟩⟩ ih_5
  dsimp only at hl hW hon ha hm ⊢
  refine lv_iload hx hb dX5_isInBranch_5 (lv_at hl 0 rfl) ?_
  refine lv_bipush (v := nI 12) hx hb dX5_isInBranch_7 (by decide) ?_
  refine r_geN hx hb (a := u) (b := 12) (by omega) (by omega) (tgt := 30) dX5_isInBranch_9 (by decide) (fun c_9 => ?_) (fun c_9 => ?_)
  · refine lv_iload_n hx hb dX5_isInBranch_30 rfl (lv_at hl 1 rfl) ?_
    refine lv_iload_n hx hb dX5_isInBranch_31 rfl (lv_at hl 2 rfl) ?_
    refine r_on_ne hx hb (o := o) (q := tp) (fun j hj => by have h1 := hO.1; have := hon j hj; omega) (by have := hO.1; omega) (tgt := 39) dX5_isInBranch_32 (by decide) (fun c_32 => ?_) (fun c_32 => ?_)
    · refine lv_iconst (v := nI 0) hx hb dX5_isInBranch_39 (by decide) ?_
      exact cx_iret C hr hlocks (by decide) hW ⟨Nat.le_of_ble_eq_true rfl, Nat.le_of_ble_eq_true rfl⟩ (⟨by rw [← ha, br_end hO.2.2.2.1 hon (fun j hj => (oM_0 (by omega) j hj).elim), decide_eq_false c_32]; rfl, rfl⟩) dX5_isInBranch_40
    · refine lv_iconst (v := nI 1) hx hb dX5_isInBranch_35 (by decide) ?_
      refine lv_goto (tgt := 40) hx hb dX5_isInBranch_36 (by decide) ?_
      exact cx_iret C hr hlocks (by decide) hW ⟨Nat.le_of_ble_eq_true rfl, Nat.le_of_ble_eq_true rfl⟩ (⟨by rw [← ha, br_end hO.2.2.2.1 hon (fun j hj => (oM_0 (by omega) j hj).elim), decide_eq_true c_32]; rfl, rfl⟩) dX5_isInBranch_40
  · refine lv_iload_n hx hb dX5_isInBranch_12 rfl (lv_at hl 1 rfl) ?_
    refine lv_iload_n hx hb dX5_isInBranch_13 rfl (lv_at hl 2 rfl) ?_
    refine r_oi_leN hx hb (o := o) (q := tp) (fun j hj => by have h1 := hO.1; have := hon j hj; omega) (by have := hO.1; omega) (tgt := 30) dX5_isInBranch_14 (by decide) (fun c_14 => ?_) (fun j_14 e_14 c_14 => ?_)
    · refine lv_iload_n hx hb dX5_isInBranch_30 rfl (lv_at hl 1 rfl) ?_
      refine lv_iload_n hx hb dX5_isInBranch_31 rfl (lv_at hl 2 rfl) ?_
      refine r_on_ne hx hb (o := o) (q := tp) (fun j hj => by have h1 := hO.1; have := hon j hj; omega) (by have := hO.1; omega) (tgt := 39) dX5_isInBranch_32 (by decide) (fun c_32 => ?_) (fun c_32 => ?_)
      · refine lv_iconst (v := nI 0) hx hb dX5_isInBranch_39 (by decide) ?_
        exact cx_iret C hr hlocks (by decide) hW ⟨Nat.le_of_ble_eq_true rfl, Nat.le_of_ble_eq_true rfl⟩ (⟨by rw [← ha, br_end hO.2.2.2.1 hon (c_14), decide_eq_false c_32]; rfl, rfl⟩) dX5_isInBranch_40
      · refine lv_iconst (v := nI 1) hx hb dX5_isInBranch_35 (by decide) ?_
        refine lv_goto (tgt := 40) hx hb dX5_isInBranch_36 (by decide) ?_
        exact cx_iret C hr hlocks (by decide) hW ⟨Nat.le_of_ble_eq_true rfl, Nat.le_of_ble_eq_true rfl⟩ (⟨by rw [← ha, br_end hO.2.2.2.1 hon (c_14), decide_eq_true c_32]; rfl, rfl⟩) dX5_isInBranch_40
    · subst e_14
      have hl : lv_has ls 5 [(4, .int (nI u)), (3, .int (nI j_14)), (2, .int (nI tp)), (1, .int (nI k)), (0, .ref a5)] := hl
      refine lv_aload_n hx hb dX5_isInBranch_17 rfl (lv_at hl 4 rfl) ?_
      refine cx_get C hW 0 3 rfl rfl (by decide) inX5 gw_157 rfl rfl dX5_isInBranch_18 ?_
      refine lv_iload_n hx hb dX5_isInBranch_21 rfl (lv_at hl 1 rfl) ?_
      refine cx_ald C hW 4 0 (j := j_14) rfl rfl rfl (by have := hO.1; have := hon _ rfl; omega) (by decide) dX5_isInBranch_22 ?_
      refine r_eq (y := (oi (pr j_14))) (hO.2.2.1 _ (hon _ rfl)) ?_
      refine lv_istore_n (lv' := [(3, .int (oi (pr j_14))), (4, .int (nI u)), (2, .int (nI tp)), (1, .int (nI k)), (0, .ref a5)]) hx hb dX5_isInBranch_23 rfl hl (by decide) rfl (fun ls hl => ?_)
      refine lv_iinc (v := (nI (u + 1))) (lv' := [(4, .int (nI (u + 1))), (3, .int (oi (pr j_14))), (2, .int (nI tp)), (1, .int (nI k)), (0, .ref a5)]) hx hb dX5_isInBranch_24 hl (k := 1) rfl (nI_1 _) (by decide) rfl (fun ls hl => ?_)
      refine lv_goto (tgt := 5) hx hb dX5_isInBranch_27 (by decide) ?_
      exact ih_5 ((pr j_14), (u + 1)) _ _ _ (oM_lt hO.2.2.2.1 (hon _ rfl)) ⟨_, rfl, lv_sub hl [0, 1, 2, 3, 4] rfl, hW, ⟨fun j hj => by have h1 := hO.2.2.2.1 j_14 j (hon _ rfl) hj; have := hon _ rfl; omega, by rw [← ha]; exact (anc_O hO.2.2.2.1 (hon _ rfl) (by omega)).symm, by have h1 := oM_lt hO.2.2.2.1 (hon _ rfl); dsimp only; omega⟩⟩
theorem dX5_sizeOfBranch_0 : decode cX5_sizeOfBranch 0 = .ok (.iconst 0, 1) := by decide +kernel
theorem dX5_sizeOfBranch_1 : decode cX5_sizeOfBranch 1 = .ok (.istore_n 2, 1) := by decide +kernel
theorem dX5_sizeOfBranch_2 : decode cX5_sizeOfBranch 2 = .ok (.iload_n 1, 1) := by decide +kernel
theorem dX5_sizeOfBranch_3 : decode cX5_sizeOfBranch 3 = .ok (.istore_n 3, 1) := by decide +kernel
theorem dX5_sizeOfBranch_4 : decode cX5_sizeOfBranch 4 = .ok (.iload_n 3, 1) := by decide +kernel
theorem dX5_sizeOfBranch_5 : decode cX5_sizeOfBranch 5 = .ok (.aload_n 0, 1) := by decide +kernel
theorem dX5_sizeOfBranch_6 : decode cX5_sizeOfBranch 6 = .ok (.getfield 24, 3) := by decide +kernel
theorem dX5_sizeOfBranch_9 : decode cX5_sizeOfBranch 9 = .ok (.if_icmp .ge 21, 3) := by decide +kernel
theorem dX5_sizeOfBranch_12 : decode cX5_sizeOfBranch 12 = .ok (.aload_n 0, 1) := by decide +kernel
theorem dX5_sizeOfBranch_13 : decode cX5_sizeOfBranch 13 = .ok (.iload_n 3, 1) := by decide +kernel
theorem dX5_sizeOfBranch_14 : decode cX5_sizeOfBranch 14 = .ok (.iload_n 1, 1) := by decide +kernel
theorem dX5_sizeOfBranch_15 : decode cX5_sizeOfBranch 15 = .ok (.invokevirtual 44, 3) := by decide +kernel
theorem dX5_sizeOfBranch_18 : decode cX5_sizeOfBranch 18 = .ok (.ifCond .eq 6, 3) := by decide +kernel
theorem dX5_sizeOfBranch_21 : decode cX5_sizeOfBranch 21 = .ok (.iinc 2 1, 3) := by decide +kernel
theorem dX5_sizeOfBranch_24 : decode cX5_sizeOfBranch 24 = .ok (.iinc 3 1, 3) := by decide +kernel
theorem dX5_sizeOfBranch_27 : decode cX5_sizeOfBranch 27 = .ok (.goto (-23), 3) := by decide +kernel
theorem dX5_sizeOfBranch_30 : decode cX5_sizeOfBranch 30 = .ok (.iload_n 2, 1) := by decide +kernel
theorem dX5_sizeOfBranch_31 : decode cX5_sizeOfBranch 31 = .ok (.ireturn, 1) := by decide +kernel
theorem gV_X5_X5_isInBranch_44 : GoodIn gw (wsV RX5 44 RX5 yX5_isInBranch (Cond.code yX5_isInBranch cX5_isInBranch 5 (some .boolean) :: gw)) := gdV gw_752 gw_507 gw_508 gw_70 gw_509
theorem hV_X5_isInBranch : yX5_isInBranch.cls = RX5 ∧ yX5_isInBranch.cls ≠ "java/lang/invoke/MethodHandle" ∧ yX5_isInBranch.cls ≠ "java/lang/invoke/VarHandle" ∧ (parseMethodDescriptor yX5_isInBranch.desc).map (fun d => d.parameters.length) = some 2 := ⟨rfl, by decide +kernel, by decide +kernel, by decide +kernel⟩
set_option maxHeartbeats 2000000 in
set_option maxRecDepth 20000 in
theorem k_X5_sizeOfBranch (l : Launch) (hfl : l.stackTraces = false) (D : va_G) (aT : Nat → ClassId) (a5 : Nat) (a6 : Nat) (a7 : Nat) (a8 : Nat) (a9 : Nat) (fI : Nat → Int32) (fN : Nat → Int32) (fW : Nat → Int32) (fP : Nat → Int32) (nm : Nat) (nx : Int32) (idn : Nat → Nat) (pr : Nat → Option Nat) (tn : Nat → Nat) (hO : MoC fI fN fP nm idn pr tn) (tp : Nat) (htp : tp < nm) : CxG l yX5_sizeOfBranch cX5_sizeOfBranch 4 (some (.int)) 1 0 0 24 D aT [.ref a5, .int (nI tp)] [(a5, .inr (8, [.ref a6, .ref a7, .ref a8, .ref a9, .int (nI nm), .int nx])), (a6, .inl (aT 0, 12, .inl fI)), (a7, .inl (aT 0, 12, .inl fN)), (a8, .inl (aT 0, 12, .inl fW)), (a9, .inl (aT 0, 12, .inl fP))] (qI D aT (fun r W1 => r = nI (brs pr tp nm) ∧ W1 = [(a5, .inr (8, [.ref a6, .ref a7, .ref a8, .ref a9, .int (nI nm), .int nx])), (a6, .inl (aT 0, 12, .inl fI)), (a7, .inl (aT 0, 12, .inl fN)), (a8, .inl (aT 0, 12, .inl fW)), (a9, .inl (aT 0, 12, .inl fP))])) (fun _ _ => False) := by
  refine CxG.of RX5 (by decide +kernel) rfl (Nat.le_of_ble_eq_true rfl) ?_
  intro p e s m below meth c A ls C hml hl hA hr hlocks hex hnm hZ hW
  have hl : lv_has ls 4 [(0, .ref a5), (1, .int (nI tp))] := hl
  have hx := C.1
  have hb := C.2.1
  refine lv_iconst (v := nI 0) hx hb dX5_sizeOfBranch_0 (by decide) ?_
  refine lv_istore_n (lv' := [(2, .int (nI 0)), (0, .ref a5), (1, .int (nI tp))]) hx hb dX5_sizeOfBranch_1 rfl hl (by decide) rfl (fun ls hl => ?_)
  refine lv_iload_n hx hb dX5_sizeOfBranch_2 rfl (lv_at hl 2 rfl) ?_
  refine lv_istore_n (lv' := [(3, .int (nI tp)), (2, .int (nI 0)), (0, .ref a5), (1, .int (nI tp))]) hx hb dX5_sizeOfBranch_3 rfl hl (by decide) rfl (fun ls hl => ?_)
  have hl : lv_has ls 4 [(3, .int (nI tp)), (2, .int (nI (brs pr tp tp))), (0, .ref a5), (1, .int (nI tp))] := by
    rw [show nI (brs pr tp tp) = nI (0) from congrArg nI (brs_top hO.2.2.2.1 tp (Nat.le_refl _) (Nat.le_of_lt htp))]
    exact hl
  refine W_loopH (σ := Nat) (fun z_ => nm - z_) (fun z_ H locs g => ∃ ls, g = F0 m 4 ls [] ∧ lv_has ls 4 [(3, .int (nI z_)), (2, .int (nI (brs pr tp z_))), (1, .int (nI tp)), (0, .ref a5)] ∧ CxB D [(a5, .inr (8, [.ref a6, .ref a7, .ref a8, .ref a9, .int (nI nm), .int nx])), (a6, .inl (aT 0, 12, .inl fI)), (a7, .inl (aT 0, 12, .inl fN)), (a8, .inl (aT 0, 12, .inl fW)), (a9, .inl (aT 0, 12, .inl fP))] A s.heap H locs ∧ tp ≤ z_ ∧ z_ ≤ nm) ?_ tp _ ⟨_, rfl, lv_sub hl [0, 1, 3, 2] rfl, hW, ⟨Nat.le_refl _, Nat.le_of_lt htp⟩⟩
  clear hW hl
  rintro i H locs g ⟨ls, rfl, hl, hW, ⟨h1, hi⟩⟩ ih_4
  refine lv_iload_n hx hb dX5_sizeOfBranch_4 rfl (lv_at hl 0 rfl) ?_
  refine lv_aload_n hx hb dX5_sizeOfBranch_5 rfl (lv_at hl 3 rfl) ?_
  refine cx_get C hW 0 4 rfl rfl (by decide) inX5 gw_161 rfl rfl dX5_sizeOfBranch_6 ?_
  refine r_geN hx hb (a := i) (b := nm) (by have := hO.1; omega) (by have := hO.1; omega) (tgt := 30) dX5_sizeOfBranch_9 (by decide) (fun c_9 => ?_) (fun c_9 => ?_)
  · refine lv_iload_n hx hb dX5_sizeOfBranch_30 rfl (lv_at hl 1 rfl) ?_
    exact cx_iret C hr hlocks rfl hW ⟨Nat.le_of_ble_eq_true rfl, Nat.le_of_ble_eq_true rfl⟩ (⟨by rw [show i = nm by omega], rfl⟩) dX5_sizeOfBranch_31
  · refine lv_aload_n hx hb dX5_sizeOfBranch_12 rfl (lv_at hl 3 rfl) ?_
    refine lv_iload_n hx hb dX5_sizeOfBranch_13 rfl (lv_at hl 0 rfl) ?_
    refine lv_iload_n hx hb dX5_sizeOfBranch_14 rfl (lv_at hl 2 rfl) ?_
    refine cx_calli (Wr := []) (cx_runV C hml hl.1 hZ hW hA (As := [.int (nI i), .int (nI tp)]) (rest := []) (k_X5_isInBranch l hfl D aT a5 a6 a7 a8 a9 fI fN fW fP nm nx idn pr tn hO i (show i < nm by omega) tp htp) gV_X5_X5_isInBranch_44 hV_X5_isInBranch rfl ⟨Nat.le_of_ble_eq_true rfl, Nat.le_of_ble_eq_true rfl⟩ ⟨Nat.le_of_ble_eq_true rfl, Nat.le_of_ble_eq_true rfl⟩ [0, 1, 2, 3, 4] rfl (by decide) 0 8 rfl rfl rfl rfl (Nat.le_of_ble_eq_true rfl) dX5_sizeOfBranch_15) hW hA [0, 1, 2, 3, 4] [] rfl rfl (by decide) (by decide) (fun _ _ _ _ _ _ h9 => h9.elim) (fun r_15 W_15 H locs hq hW => ?_)
    obtain ⟨rfl, rfl⟩ := hq
    have hW : CxB D [(a5, .inr (8, [.ref a6, .ref a7, .ref a8, .ref a9, .int (nI nm), .int nx])), (a6, .inl (aT 0, 12, .inl fI)), (a7, .inl (aT 0, 12, .inl fN)), (a8, .inl (aT 0, 12, .inl fW)), (a9, .inl (aT 0, 12, .inl fP))] A s.heap H _ := hW
    refine r_bI_eq hx hb (b := (anc pr tp i)) (tgt := 24) dX5_sizeOfBranch_18 (by decide) (fun c_18 => ?_) (fun c_18 => ?_)
    · have hl : lv_has ls 4 [(3, .int (nI i)), (2, .int (nI (brs pr tp (i + 1)))), (1, .int (nI tp)), (0, .ref a5)] := by
        rw [show nI (brs pr tp (i + 1)) = nI (brs pr tp i) from congrArg nI (by rw [brs, if_neg (by rw [c_18]; decide), Nat.add_zero])]
        exact hl
      refine lv_iinc (v := (nI (i + 1))) (lv' := [(3, .int (nI (i + 1))), (2, .int (nI (brs pr tp (i + 1)))), (1, .int (nI tp)), (0, .ref a5)]) hx hb dX5_sizeOfBranch_24 hl (k := 0) rfl (nI_1 _) (by decide) rfl (fun ls hl => ?_)
      refine lv_goto (tgt := 4) hx hb dX5_sizeOfBranch_27 (by decide) ?_
      exact ih_4 (i + 1) _ _ _ (by first | omega | (dsimp only; omega)) ⟨_, rfl, lv_sub hl [0, 1, 2, 3] rfl, hW, ⟨by omega, by omega⟩⟩
    · refine lv_iinc (v := (nI ((brs pr tp i) + 1))) (lv' := [(2, .int (nI ((brs pr tp i) + 1))), (3, .int (nI i)), (1, .int (nI tp)), (0, .ref a5)]) hx hb dX5_sizeOfBranch_21 hl (k := 1) rfl (nI_1 _) (by decide) rfl (fun ls hl => ?_)
      have hl : lv_has ls 4 [(2, .int (nI (brs pr tp (i + 1)))), (3, .int (nI i)), (1, .int (nI tp)), (0, .ref a5)] := by
        rw [show nI (brs pr tp (i + 1)) = nI ((brs pr tp i) + 1) from congrArg nI (by rw [brs, if_pos c_18])]
        exact hl
      refine lv_iinc (v := (nI (i + 1))) (lv' := [(3, .int (nI (i + 1))), (2, .int (nI (brs pr tp (i + 1)))), (1, .int (nI tp)), (0, .ref a5)]) hx hb dX5_sizeOfBranch_24 hl (k := 1) rfl (nI_1 _) (by decide) rfl (fun ls hl => ?_)
      refine lv_goto (tgt := 4) hx hb dX5_sizeOfBranch_27 (by decide) ?_
      exact ih_4 (i + 1) _ _ _ (by first | omega | (dsimp only; omega)) ⟨_, rfl, lv_sub hl [0, 1, 2, 3] rfl, hW, ⟨by omega, by omega⟩⟩
theorem dX5_lastTipOf_0 : decode cX5_lastTipOf 0 = .ok (.aload_n 0, 1) := by decide +kernel
theorem dX5_lastTipOf_1 : decode cX5_lastTipOf 1 = .ok (.getfield 24, 3) := by decide +kernel
theorem dX5_lastTipOf_4 : decode cX5_lastTipOf 4 = .ok (.iconst 1, 1) := by decide +kernel
theorem dX5_lastTipOf_5 : decode cX5_lastTipOf 5 = .ok (.isub, 1) := by decide +kernel
theorem dX5_lastTipOf_6 : decode cX5_lastTipOf 6 = .ok (.istore_n 2, 1) := by decide +kernel
theorem dX5_lastTipOf_7 : decode cX5_lastTipOf 7 = .ok (.iload_n 2, 1) := by decide +kernel
theorem dX5_lastTipOf_8 : decode cX5_lastTipOf 8 = .ok (.iload_n 1, 1) := by decide +kernel
theorem dX5_lastTipOf_9 : decode cX5_lastTipOf 9 = .ok (.if_icmp .le 28, 3) := by decide +kernel
theorem dX5_lastTipOf_12 : decode cX5_lastTipOf 12 = .ok (.aload_n 0, 1) := by decide +kernel
theorem dX5_lastTipOf_13 : decode cX5_lastTipOf 13 = .ok (.iload_n 2, 1) := by decide +kernel
theorem dX5_lastTipOf_14 : decode cX5_lastTipOf 14 = .ok (.iload_n 1, 1) := by decide +kernel
theorem dX5_lastTipOf_15 : decode cX5_lastTipOf 15 = .ok (.invokevirtual 44, 3) := by decide +kernel
theorem dX5_lastTipOf_18 : decode cX5_lastTipOf 18 = .ok (.ifCond .eq 13, 3) := by decide +kernel
theorem dX5_lastTipOf_21 : decode cX5_lastTipOf 21 = .ok (.aload_n 0, 1) := by decide +kernel
theorem dX5_lastTipOf_22 : decode cX5_lastTipOf 22 = .ok (.iload_n 2, 1) := by decide +kernel
theorem dX5_lastTipOf_23 : decode cX5_lastTipOf 23 = .ok (.invokevirtual 48, 3) := by decide +kernel
theorem dX5_lastTipOf_26 : decode cX5_lastTipOf 26 = .ok (.ifCond .ne 5, 3) := by decide +kernel
theorem dX5_lastTipOf_29 : decode cX5_lastTipOf 29 = .ok (.iload_n 2, 1) := by decide +kernel
theorem dX5_lastTipOf_30 : decode cX5_lastTipOf 30 = .ok (.ireturn, 1) := by decide +kernel
theorem dX5_lastTipOf_31 : decode cX5_lastTipOf 31 = .ok (.iinc 2 (-1), 3) := by decide +kernel
theorem dX5_lastTipOf_34 : decode cX5_lastTipOf 34 = .ok (.goto (-27), 3) := by decide +kernel
theorem dX5_lastTipOf_37 : decode cX5_lastTipOf 37 = .ok (.iload_n 1, 1) := by decide +kernel
theorem dX5_lastTipOf_38 : decode cX5_lastTipOf 38 = .ok (.ireturn, 1) := by decide +kernel
theorem gV_X5_X5_hasAmendments_48 : GoodIn gw (wsV RX5 48 RX5 yX5_hasAmendments (Cond.code yX5_hasAmendments cX5_hasAmendments 3 (some .boolean) :: gw)) := gdV gw_753 gw_754 gw_755 gw_70 gw_756
theorem hV_X5_hasAmendments : yX5_hasAmendments.cls = RX5 ∧ yX5_hasAmendments.cls ≠ "java/lang/invoke/MethodHandle" ∧ yX5_hasAmendments.cls ≠ "java/lang/invoke/VarHandle" ∧ (parseMethodDescriptor yX5_hasAmendments.desc).map (fun d => d.parameters.length) = some 1 := ⟨rfl, by decide +kernel, by decide +kernel, by decide +kernel⟩
set_option maxHeartbeats 2000000 in
set_option maxRecDepth 20000 in
theorem k_X5_lastTipOf (l : Launch) (hfl : l.stackTraces = false) (D : va_G) (aT : Nat → ClassId) (a5 : Nat) (a6 : Nat) (a7 : Nat) (a8 : Nat) (a9 : Nat) (fI : Nat → Int32) (fN : Nat → Int32) (fW : Nat → Int32) (fP : Nat → Int32) (nm : Nat) (nx : Int32) (idn : Nat → Nat) (pr : Nat → Option Nat) (tn : Nat → Nat) (hO : MoC fI fN fP nm idn pr tn) (tp : Nat) (htp : tp < nm) : CxG l yX5_lastTipOf cX5_lastTipOf 3 (some (.int)) 1 0 0 24 D aT [.ref a5, .int (nI tp)] [(a5, .inr (8, [.ref a6, .ref a7, .ref a8, .ref a9, .int (nI nm), .int nx])), (a6, .inl (aT 0, 12, .inl fI)), (a7, .inl (aT 0, 12, .inl fN)), (a8, .inl (aT 0, 12, .inl fW)), (a9, .inl (aT 0, 12, .inl fP))] (qI D aT (fun r W1 => (∃ t, ltp pr nm tp nm = some t ∧ t < nm ∧ r = nI t) ∧ W1 = [(a5, .inr (8, [.ref a6, .ref a7, .ref a8, .ref a9, .int (nI nm), .int nx])), (a6, .inl (aT 0, 12, .inl fI)), (a7, .inl (aT 0, 12, .inl fN)), (a8, .inl (aT 0, 12, .inl fW)), (a9, .inl (aT 0, 12, .inl fP))])) (fun _ _ => False) := by
  refine CxG.of RX5 (by decide +kernel) rfl (Nat.le_of_ble_eq_true rfl) ?_
  intro p e s m below meth c A ls C hml hl hA hr hlocks hex hnm hZ hW
  have hl : lv_has ls 3 [(0, .ref a5), (1, .int (nI tp))] := hl
  have hx := C.1
  have hb := C.2.1
  refine lv_aload_n hx hb dX5_lastTipOf_0 rfl (lv_at hl 0 rfl) ?_
  refine cx_get C hW 0 4 rfl rfl (by decide) inX5 gw_161 rfl rfl dX5_lastTipOf_1 ?_
  refine lv_iconst (v := nI 1) hx hb dX5_lastTipOf_4 (by decide) ?_
  refine r_isubN hx hb (a := nm) (b := 1) (by omega) dX5_lastTipOf_5 ?_
  refine lv_istore_n (lv' := [(2, .int (nI (nm - 1))), (0, .ref a5), (1, .int (nI tp))]) hx hb dX5_lastTipOf_6 rfl hl (by decide) rfl (fun ls hl => ?_)
  refine W_loopH (σ := Nat) (fun z_ => z_) (fun z_ H locs g => ∃ ls, g = F0 m 7 ls [] ∧ lv_has ls 3 [(2, .int (nI z_)), (1, .int (nI tp)), (0, .ref a5)] ∧ CxB D [(a5, .inr (8, [.ref a6, .ref a7, .ref a8, .ref a9, .int (nI nm), .int nx])), (a6, .inl (aT 0, 12, .inl fI)), (a7, .inl (aT 0, 12, .inl fN)), (a8, .inl (aT 0, 12, .inl fW)), (a9, .inl (aT 0, 12, .inl fP))] A s.heap H locs ∧ tp ≤ z_ ∧ z_ < nm ∧ ltp pr nm tp nm = ltp pr nm tp (z_ + 1)) ?_ (nm - 1) _ ⟨_, rfl, lv_sub hl [0, 2, 1] rfl, hW, ⟨by omega, by omega, by rw [show nm - 1 + 1 = nm by omega]⟩⟩
  clear hW hl
  rintro i H locs g ⟨ls, rfl, hl, hW, ⟨h1, hi, hlt⟩⟩ ih_7
  refine lv_iload_n hx hb dX5_lastTipOf_7 rfl (lv_at hl 0 rfl) ?_
  refine lv_iload_n hx hb dX5_lastTipOf_8 rfl (lv_at hl 1 rfl) ?_
  refine r_leN hx hb (a := i) (b := tp) (by have := hO.1; omega) (by have := hO.1; omega) (tgt := 37) dX5_lastTipOf_9 (by decide) (fun c_9 => ?_) (fun c_9 => ?_)
  · refine lv_iload_n hx hb dX5_lastTipOf_37 rfl (lv_at hl 1 rfl) ?_
    exact cx_iret C hr hlocks rfl hW ⟨Nat.le_of_ble_eq_true rfl, Nat.le_of_ble_eq_true rfl⟩ (⟨⟨tp, ltp_top hO.2.2.2.1 htp (by rw [hlt, show i = tp by omega]), htp, rfl⟩, rfl⟩) dX5_lastTipOf_38
  · refine lv_aload_n hx hb dX5_lastTipOf_12 rfl (lv_at hl 2 rfl) ?_
    refine lv_iload_n hx hb dX5_lastTipOf_13 rfl (lv_at hl 0 rfl) ?_
    refine lv_iload_n hx hb dX5_lastTipOf_14 rfl (lv_at hl 1 rfl) ?_
    refine cx_calli (Wr := []) (cx_runV C hml hl.1 hZ hW hA (As := [.int (nI i), .int (nI tp)]) (rest := []) (k_X5_isInBranch l hfl D aT a5 a6 a7 a8 a9 fI fN fW fP nm nx idn pr tn hO i (show i < nm by omega) tp htp) gV_X5_X5_isInBranch_44 hV_X5_isInBranch rfl ⟨Nat.le_of_ble_eq_true rfl, Nat.le_of_ble_eq_true rfl⟩ ⟨Nat.le_of_ble_eq_true rfl, Nat.le_of_ble_eq_true rfl⟩ [0, 1, 2, 3, 4] rfl (by decide) 0 8 rfl rfl rfl rfl (Nat.le_of_ble_eq_true rfl) dX5_lastTipOf_15) hW hA [0, 1, 2, 3, 4] [] rfl rfl (by decide) (by decide) (fun _ _ _ _ _ _ h9 => h9.elim) (fun r_15 W_15 H locs hq hW => ?_)
    obtain ⟨rfl, rfl⟩ := hq
    have hW : CxB D [(a5, .inr (8, [.ref a6, .ref a7, .ref a8, .ref a9, .int (nI nm), .int nx])), (a6, .inl (aT 0, 12, .inl fI)), (a7, .inl (aT 0, 12, .inl fN)), (a8, .inl (aT 0, 12, .inl fW)), (a9, .inl (aT 0, 12, .inl fP))] A s.heap H _ := hW
    refine r_bI_eq hx hb (b := (anc pr tp i)) (tgt := 31) dX5_lastTipOf_18 (by decide) (fun c_18 => ?_) (fun c_18 => ?_)
    · refine lv_iinc (v := (nI (i - 1))) (lv' := [(2, .int (nI (i - 1))), (1, .int (nI tp)), (0, .ref a5)]) hx hb dX5_lastTipOf_31 hl (k := 0) rfl (pd_eq (by omega)) (by decide) rfl (fun ls hl => ?_)
      refine lv_goto (tgt := 7) hx hb dX5_lastTipOf_34 (by decide) ?_
      exact ih_7 (i - 1) _ _ _ (by first | omega | (dsimp only; omega)) ⟨_, rfl, lv_sub hl [0, 1, 2] rfl, hW, ⟨by omega, by omega, by rw [hlt, show i - 1 + 1 = i by omega]; exact ltp_skip (by rw [c_18]; rintro ⟨z, -⟩; exact absurd z (by decide))⟩⟩
    · refine lv_aload_n hx hb dX5_lastTipOf_21 rfl (lv_at hl 2 rfl) ?_
      refine lv_iload_n hx hb dX5_lastTipOf_22 rfl (lv_at hl 0 rfl) ?_
      refine cx_calli (Wr := []) (cx_runV C hml hl.1 hZ hW hA (As := [.int (nI i)]) (rest := []) (k_X5_hasAmendments l hfl D aT a5 a6 a7 a8 a9 fI fN fW fP nm nx idn pr tn hO i (show i < nm by omega)) gV_X5_X5_hasAmendments_48 hV_X5_hasAmendments rfl ⟨Nat.le_of_ble_eq_true rfl, Nat.le_of_ble_eq_true rfl⟩ ⟨Nat.le_of_ble_eq_true rfl, Nat.le_of_ble_eq_true rfl⟩ [0, 1, 2, 3, 4] rfl (by decide) 0 8 rfl rfl rfl rfl (Nat.le_of_ble_eq_true rfl) dX5_lastTipOf_23) hW hA [0, 1, 2, 3, 4] [] rfl rfl (by decide) (by decide) (fun _ _ _ _ _ _ h9 => h9.elim) (fun r_23 W_23 H locs hq hW => ?_)
      obtain ⟨rfl, rfl⟩ := hq
      have hW : CxB D [(a5, .inr (8, [.ref a6, .ref a7, .ref a8, .ref a9, .int (nI nm), .int nx])), (a6, .inl (aT 0, 12, .inl fI)), (a7, .inl (aT 0, 12, .inl fN)), (a8, .inl (aT 0, 12, .inl fW)), (a9, .inl (aT 0, 12, .inl fP))] A s.heap H _ := hW
      refine r_bI_ne hx hb (b := (!tipB pr i nm)) (tgt := 31) dX5_lastTipOf_26 (by decide) (fun c_26 => ?_) (fun c_26 => ?_)
      · refine lv_iinc (v := (nI (i - 1))) (lv' := [(2, .int (nI (i - 1))), (1, .int (nI tp)), (0, .ref a5)]) hx hb dX5_lastTipOf_31 hl (k := 0) rfl (pd_eq (by omega)) (by decide) rfl (fun ls hl => ?_)
        refine lv_goto (tgt := 7) hx hb dX5_lastTipOf_34 (by decide) ?_
        exact ih_7 (i - 1) _ _ _ (by first | omega | (dsimp only; omega)) ⟨_, rfl, lv_sub hl [0, 1, 2] rfl, hW, ⟨by omega, by omega, by rw [hlt, show i - 1 + 1 = i by omega]; exact ltp_skip (by rintro ⟨-, z⟩; rw [z] at c_26; exact absurd c_26 (by decide))⟩⟩
      · refine lv_iload_n hx hb dX5_lastTipOf_29 rfl (lv_at hl 0 rfl) ?_
        exact cx_iret C hr hlocks rfl hW ⟨Nat.le_of_ble_eq_true rfl, Nat.le_of_ble_eq_true rfl⟩ (⟨⟨i, by rw [hlt]; exact ltp_hit c_18 (by simpa using c_26), by omega, rfl⟩, rfl⟩) dX5_lastTipOf_30
theorem dX5_totalWeight_0 : decode cX5_totalWeight 0 = .ok (.iconst 0, 1) := by decide +kernel
theorem dX5_totalWeight_1 : decode cX5_totalWeight 1 = .ok (.istore_n 1, 1) := by decide +kernel
theorem dX5_totalWeight_2 : decode cX5_totalWeight 2 = .ok (.iconst 0, 1) := by decide +kernel
theorem dX5_totalWeight_3 : decode cX5_totalWeight 3 = .ok (.istore_n 2, 1) := by decide +kernel
theorem dX5_totalWeight_4 : decode cX5_totalWeight 4 = .ok (.iload_n 2, 1) := by decide +kernel
theorem dX5_totalWeight_5 : decode cX5_totalWeight 5 = .ok (.aload_n 0, 1) := by decide +kernel
theorem dX5_totalWeight_6 : decode cX5_totalWeight 6 = .ok (.getfield 24, 3) := by decide +kernel
theorem dX5_totalWeight_9 : decode cX5_totalWeight 9 = .ok (.if_icmp .ge 18, 3) := by decide +kernel
theorem dX5_totalWeight_12 : decode cX5_totalWeight 12 = .ok (.iload_n 1, 1) := by decide +kernel
theorem dX5_totalWeight_13 : decode cX5_totalWeight 13 = .ok (.aload_n 0, 1) := by decide +kernel
theorem dX5_totalWeight_14 : decode cX5_totalWeight 14 = .ok (.getfield 18, 3) := by decide +kernel
theorem dX5_totalWeight_17 : decode cX5_totalWeight 17 = .ok (.iload_n 2, 1) := by decide +kernel
theorem dX5_totalWeight_18 : decode cX5_totalWeight 18 = .ok (.iaload, 1) := by decide +kernel
theorem dX5_totalWeight_19 : decode cX5_totalWeight 19 = .ok (.iadd, 1) := by decide +kernel
theorem dX5_totalWeight_20 : decode cX5_totalWeight 20 = .ok (.istore_n 1, 1) := by decide +kernel
theorem dX5_totalWeight_21 : decode cX5_totalWeight 21 = .ok (.iinc 2 1, 3) := by decide +kernel
theorem dX5_totalWeight_24 : decode cX5_totalWeight 24 = .ok (.goto (-20), 3) := by decide +kernel
theorem dX5_totalWeight_27 : decode cX5_totalWeight 27 = .ok (.iload_n 1, 1) := by decide +kernel
theorem dX5_totalWeight_28 : decode cX5_totalWeight 28 = .ok (.ireturn, 1) := by decide +kernel
set_option maxHeartbeats 2000000 in
set_option maxRecDepth 20000 in
theorem k_X5_totalWeight (l : Launch) (hfl : l.stackTraces = false) (D : va_G) (aT : Nat → ClassId) (a5 : Nat) (a6 : Nat) (a7 : Nat) (a8 : Nat) (a9 : Nat) (fI : Nat → Int32) (fN : Nat → Int32) (fW : Nat → Int32) (fP : Nat → Int32) (nm : Nat) (nx : Int32) (h12 : nm ≤ 12) : CxG l yX5_totalWeight cX5_totalWeight 3 (some (.int)) 0 0 0 0 D aT [.ref a5] [(a5, .inr (8, [.ref a6, .ref a7, .ref a8, .ref a9, .int (nI nm), .int nx])), (a6, .inl (aT 0, 12, .inl fI)), (a7, .inl (aT 0, 12, .inl fN)), (a8, .inl (aT 0, 12, .inl fW)), (a9, .inl (aT 0, 12, .inl fP))] (qI D aT (fun r W1 => r = smC fW nm ∧ W1 = [(a5, .inr (8, [.ref a6, .ref a7, .ref a8, .ref a9, .int (nI nm), .int nx])), (a6, .inl (aT 0, 12, .inl fI)), (a7, .inl (aT 0, 12, .inl fN)), (a8, .inl (aT 0, 12, .inl fW)), (a9, .inl (aT 0, 12, .inl fP))])) (fun _ _ => False) := by
  refine CxG.of RX5 (by decide +kernel) rfl (Nat.le_of_ble_eq_true rfl) ?_
  intro p e s m below meth c A ls C hml hl hA hr hlocks hex hnm hZ hW
  have hl : lv_has ls 3 [(0, .ref a5)] := hl
  have hx := C.1
  have hb := C.2.1
  refine lv_iconst (v := nI 0) hx hb dX5_totalWeight_0 (by decide) ?_
  refine lv_istore_n (lv' := [(1, .int (nI 0)), (0, .ref a5)]) hx hb dX5_totalWeight_1 rfl hl (by decide) rfl (fun ls hl => ?_)
  refine lv_iconst (v := nI 0) hx hb dX5_totalWeight_2 (by decide) ?_
  refine lv_istore_n (lv' := [(2, .int (nI 0)), (1, .int (nI 0)), (0, .ref a5)]) hx hb dX5_totalWeight_3 rfl hl (by decide) rfl (fun ls hl => ?_)
  refine W_loopH (σ := Nat) (fun z_ => nm - z_) (fun z_ H locs g => ∃ ls, g = F0 m 4 ls [] ∧ lv_has ls 3 [(2, .int (nI z_)), (1, .int (smC fW z_)), (0, .ref a5)] ∧ CxB D [(a5, .inr (8, [.ref a6, .ref a7, .ref a8, .ref a9, .int (nI nm), .int nx])), (a6, .inl (aT 0, 12, .inl fI)), (a7, .inl (aT 0, 12, .inl fN)), (a8, .inl (aT 0, 12, .inl fW)), (a9, .inl (aT 0, 12, .inl fP))] A s.heap H locs ∧ z_ ≤ nm) ?_ 0 _ ⟨_, rfl, lv_sub hl [0, 1, 2] rfl, hW, Nat.zero_le _⟩
  clear hW hl
  rintro i H locs g ⟨ls, rfl, hl, hW, hi⟩ ih_4
  refine lv_iload_n hx hb dX5_totalWeight_4 rfl (lv_at hl 0 rfl) ?_
  refine lv_aload_n hx hb dX5_totalWeight_5 rfl (lv_at hl 2 rfl) ?_
  refine cx_get C hW 0 4 rfl rfl (by decide) inX5 gw_161 rfl rfl dX5_totalWeight_6 ?_
  refine r_geN hx hb (a := i) (b := nm) (by omega) (by omega) (tgt := 27) dX5_totalWeight_9 (by decide) (fun c_9 => ?_) (fun c_9 => ?_)
  · refine lv_iload_n hx hb dX5_totalWeight_27 rfl (lv_at hl 1 rfl) ?_
    exact cx_iret C hr hlocks rfl hW ⟨Nat.le_of_ble_eq_true rfl, Nat.le_of_ble_eq_true rfl⟩ (⟨by rw [show i = nm by omega], rfl⟩) dX5_totalWeight_28
  · refine lv_iload_n hx hb dX5_totalWeight_12 rfl (lv_at hl 1 rfl) ?_
    refine lv_aload_n hx hb dX5_totalWeight_13 rfl (lv_at hl 2 rfl) ?_
    refine cx_get C hW 0 2 rfl rfl (by decide) inX5 gw_153 rfl rfl dX5_totalWeight_14 ?_
    refine lv_iload_n hx hb dX5_totalWeight_17 rfl (lv_at hl 0 rfl) ?_
    refine cx_ald C hW 3 0 (j := i) rfl rfl rfl (by omega) (by decide) dX5_totalWeight_18 ?_
    refine lv_iadd hx hb dX5_totalWeight_19 ?_
    refine lv_istore_n (lv' := [(1, .int ((smC fW i) + (fW i))), (2, .int (nI i)), (0, .ref a5)]) hx hb dX5_totalWeight_20 rfl hl (by decide) rfl (fun ls hl => ?_)
    refine lv_iinc (v := (nI (i + 1))) (lv' := [(2, .int (nI (i + 1))), (1, .int ((smC fW i) + (fW i))), (0, .ref a5)]) hx hb dX5_totalWeight_21 hl (k := 1) rfl (nI_1 _) (by decide) rfl (fun ls hl => ?_)
    refine lv_goto (tgt := 4) hx hb dX5_totalWeight_24 (by decide) ?_
    exact ih_4 (i + 1) _ _ _ (by first | omega | (dsimp only; omega)) ⟨_, rfl, lv_sub hl [0, 1, 2] rfl, hW, (by omega)⟩
theorem dX5_ranksBefore_0 : decode cX5_ranksBefore 0 = .ok (.aload_n 0, 1) := by decide +kernel
theorem dX5_ranksBefore_1 : decode cX5_ranksBefore 1 = .ok (.getfield 18, 3) := by decide +kernel
theorem dX5_ranksBefore_4 : decode cX5_ranksBefore 4 = .ok (.iload_n 1, 1) := by decide +kernel
theorem dX5_ranksBefore_5 : decode cX5_ranksBefore 5 = .ok (.iaload, 1) := by decide +kernel
theorem dX5_ranksBefore_6 : decode cX5_ranksBefore 6 = .ok (.aload_n 0, 1) := by decide +kernel
theorem dX5_ranksBefore_7 : decode cX5_ranksBefore 7 = .ok (.getfield 18, 3) := by decide +kernel
theorem dX5_ranksBefore_10 : decode cX5_ranksBefore 10 = .ok (.iload_n 2, 1) := by decide +kernel
theorem dX5_ranksBefore_11 : decode cX5_ranksBefore 11 = .ok (.iaload, 1) := by decide +kernel
theorem dX5_ranksBefore_12 : decode cX5_ranksBefore 12 = .ok (.if_icmp .eq 24, 3) := by decide +kernel
theorem dX5_ranksBefore_15 : decode cX5_ranksBefore 15 = .ok (.aload_n 0, 1) := by decide +kernel
theorem dX5_ranksBefore_16 : decode cX5_ranksBefore 16 = .ok (.getfield 18, 3) := by decide +kernel
theorem dX5_ranksBefore_19 : decode cX5_ranksBefore 19 = .ok (.iload_n 1, 1) := by decide +kernel
theorem dX5_ranksBefore_20 : decode cX5_ranksBefore 20 = .ok (.iaload, 1) := by decide +kernel
theorem dX5_ranksBefore_21 : decode cX5_ranksBefore 21 = .ok (.aload_n 0, 1) := by decide +kernel
theorem dX5_ranksBefore_22 : decode cX5_ranksBefore 22 = .ok (.getfield 18, 3) := by decide +kernel
theorem dX5_ranksBefore_25 : decode cX5_ranksBefore 25 = .ok (.iload_n 2, 1) := by decide +kernel
theorem dX5_ranksBefore_26 : decode cX5_ranksBefore 26 = .ok (.iaload, 1) := by decide +kernel
theorem dX5_ranksBefore_27 : decode cX5_ranksBefore 27 = .ok (.if_icmp .le 7, 3) := by decide +kernel
theorem dX5_ranksBefore_30 : decode cX5_ranksBefore 30 = .ok (.iconst 1, 1) := by decide +kernel
theorem dX5_ranksBefore_31 : decode cX5_ranksBefore 31 = .ok (.goto 4, 3) := by decide +kernel
theorem dX5_ranksBefore_34 : decode cX5_ranksBefore 34 = .ok (.iconst 0, 1) := by decide +kernel
theorem dX5_ranksBefore_35 : decode cX5_ranksBefore 35 = .ok (.ireturn, 1) := by decide +kernel
theorem dX5_ranksBefore_36 : decode cX5_ranksBefore 36 = .ok (.aload_n 0, 1) := by decide +kernel
theorem dX5_ranksBefore_37 : decode cX5_ranksBefore 37 = .ok (.iload_n 1, 1) := by decide +kernel
theorem dX5_ranksBefore_38 : decode cX5_ranksBefore 38 = .ok (.invokevirtual 52, 3) := by decide +kernel
theorem dX5_ranksBefore_41 : decode cX5_ranksBefore 41 = .ok (.istore_n 3, 1) := by decide +kernel
theorem dX5_ranksBefore_42 : decode cX5_ranksBefore 42 = .ok (.aload_n 0, 1) := by decide +kernel
theorem dX5_ranksBefore_43 : decode cX5_ranksBefore 43 = .ok (.iload_n 2, 1) := by decide +kernel
theorem dX5_ranksBefore_44 : decode cX5_ranksBefore 44 = .ok (.invokevirtual 52, 3) := by decide +kernel
theorem dX5_ranksBefore_47 : decode cX5_ranksBefore 47 = .ok (.istore 4, 2) := by decide +kernel
theorem dX5_ranksBefore_49 : decode cX5_ranksBefore 49 = .ok (.iload_n 3, 1) := by decide +kernel
theorem dX5_ranksBefore_50 : decode cX5_ranksBefore 50 = .ok (.iload 4, 2) := by decide +kernel
theorem dX5_ranksBefore_52 : decode cX5_ranksBefore 52 = .ok (.if_icmp .eq 15, 3) := by decide +kernel
theorem dX5_ranksBefore_55 : decode cX5_ranksBefore 55 = .ok (.iload_n 3, 1) := by decide +kernel
theorem dX5_ranksBefore_56 : decode cX5_ranksBefore 56 = .ok (.iload 4, 2) := by decide +kernel
theorem dX5_ranksBefore_58 : decode cX5_ranksBefore 58 = .ok (.if_icmp .ge 7, 3) := by decide +kernel
theorem dX5_ranksBefore_61 : decode cX5_ranksBefore 61 = .ok (.iconst 1, 1) := by decide +kernel
theorem dX5_ranksBefore_62 : decode cX5_ranksBefore 62 = .ok (.goto 4, 3) := by decide +kernel
theorem dX5_ranksBefore_65 : decode cX5_ranksBefore 65 = .ok (.iconst 0, 1) := by decide +kernel
theorem dX5_ranksBefore_66 : decode cX5_ranksBefore 66 = .ok (.ireturn, 1) := by decide +kernel
theorem dX5_ranksBefore_67 : decode cX5_ranksBefore 67 = .ok (.iload_n 1, 1) := by decide +kernel
theorem dX5_ranksBefore_68 : decode cX5_ranksBefore 68 = .ok (.iload_n 2, 1) := by decide +kernel
theorem dX5_ranksBefore_69 : decode cX5_ranksBefore 69 = .ok (.if_icmp .ge 7, 3) := by decide +kernel
theorem dX5_ranksBefore_72 : decode cX5_ranksBefore 72 = .ok (.iconst 1, 1) := by decide +kernel
theorem dX5_ranksBefore_73 : decode cX5_ranksBefore 73 = .ok (.goto 4, 3) := by decide +kernel
theorem dX5_ranksBefore_76 : decode cX5_ranksBefore 76 = .ok (.iconst 0, 1) := by decide +kernel
theorem dX5_ranksBefore_77 : decode cX5_ranksBefore 77 = .ok (.ireturn, 1) := by decide +kernel
theorem gV_X5_X5_depthOf_52 : GoodIn gw (wsV RX5 52 RX5 yX5_depthOf (Cond.code yX5_depthOf cX5_depthOf 4 (some .int) :: gw)) := gdV gw_982 gw_528 gw_529 gw_70 gw_530
theorem hV_X5_depthOf : yX5_depthOf.cls = RX5 ∧ yX5_depthOf.cls ≠ "java/lang/invoke/MethodHandle" ∧ yX5_depthOf.cls ≠ "java/lang/invoke/VarHandle" ∧ (parseMethodDescriptor yX5_depthOf.desc).map (fun d => d.parameters.length) = some 1 := ⟨rfl, by decide +kernel, by decide +kernel, by decide +kernel⟩
set_option maxHeartbeats 2000000 in
set_option maxRecDepth 20000 in
theorem k_X5_ranksBefore (l : Launch) (hfl : l.stackTraces = false) (D : va_G) (aT : Nat → ClassId) (a5 : Nat) (a6 : Nat) (a7 : Nat) (a8 : Nat) (a9 : Nat) (fI : Nat → Int32) (fN : Nat → Int32) (fW : Nat → Int32) (fP : Nat → Int32) (nm : Nat) (nx : Int32) (idn : Nat → Nat) (pr : Nat → Option Nat) (tn : Nat → Nat) (hO : MoC fI fN fP nm idn pr tn) (a : Nat) (b : Nat) (ha : a < nm) (hb9 : b < nm) : CxG l yX5_ranksBefore cX5_ranksBefore 5 (some (.boolean)) 1 0 0 23 D aT [.ref a5, .int (nI a), .int (nI b)] [(a5, .inr (8, [.ref a6, .ref a7, .ref a8, .ref a9, .int (nI nm), .int nx])), (a6, .inl (aT 0, 12, .inl fI)), (a7, .inl (aT 0, 12, .inl fN)), (a8, .inl (aT 0, 12, .inl fW)), (a9, .inl (aT 0, 12, .inl fP))] (qI D aT (fun r W1 => r = bI (mAc fW pr a b) ∧ W1 = [(a5, .inr (8, [.ref a6, .ref a7, .ref a8, .ref a9, .int (nI nm), .int nx])), (a6, .inl (aT 0, 12, .inl fI)), (a7, .inl (aT 0, 12, .inl fN)), (a8, .inl (aT 0, 12, .inl fW)), (a9, .inl (aT 0, 12, .inl fP))])) (fun _ _ => False) := by
  refine CxG.of RX5 (by decide +kernel) rfl (Nat.le_of_ble_eq_true rfl) ?_
  intro p e s m below meth c A ls C hml hl hA hr hlocks hex hnm hZ hW
  have hl : lv_has ls 5 [(0, .ref a5), (1, .int (nI a)), (2, .int (nI b))] := hl
  have hx := C.1
  have hb := C.2.1
  refine lv_aload_n hx hb dX5_ranksBefore_0 rfl (lv_at hl 0 rfl) ?_
  refine cx_get C hW 0 2 rfl rfl (by decide) inX5 gw_153 rfl rfl dX5_ranksBefore_1 ?_
  refine lv_iload_n hx hb dX5_ranksBefore_4 rfl (lv_at hl 1 rfl) ?_
  refine cx_ald C hW 3 0 (j := a) rfl rfl rfl (by have := hO.1; omega) (by decide) dX5_ranksBefore_5 ?_
  refine lv_aload_n hx hb dX5_ranksBefore_6 rfl (lv_at hl 0 rfl) ?_
  refine cx_get C hW 0 2 rfl rfl (by decide) inX5 gw_153 rfl rfl dX5_ranksBefore_7 ?_
  refine lv_iload_n hx hb dX5_ranksBefore_10 rfl (lv_at hl 2 rfl) ?_
  refine cx_ald C hW 3 0 (j := b) rfl rfl rfl (by have := hO.1; omega) (by decide) dX5_ranksBefore_11 ?_
  refine lv_icmp_eq hx hb (x := (fW a)) (y := (fW b)) (tgt := 36) dX5_ranksBefore_12 (by decide) (fun c_12 => ?_) (fun c_12 => ?_)
  · refine lv_aload_n hx hb dX5_ranksBefore_36 rfl (lv_at hl 0 rfl) ?_
    refine lv_iload_n hx hb dX5_ranksBefore_37 rfl (lv_at hl 1 rfl) ?_
    refine cx_calli (Wr := []) (cx_runV C hml hl.1 hZ hW hA (As := [.int (nI a)]) (rest := []) (k_X5_depthOf l hfl D aT a5 a6 a7 a8 a9 fI fN fW fP nm nx idn pr tn hO a ha) gV_X5_X5_depthOf_52 hV_X5_depthOf rfl ⟨Nat.le_of_ble_eq_true rfl, Nat.le_of_ble_eq_true rfl⟩ ⟨Nat.le_of_ble_eq_true rfl, Nat.le_of_ble_eq_true rfl⟩ [0, 1, 2, 3, 4] rfl (by decide) 0 8 rfl rfl rfl rfl (Nat.le_of_ble_eq_true rfl) dX5_ranksBefore_38) hW hA [0, 1, 2, 3, 4] [] rfl rfl (by decide) (by decide) (fun _ _ _ _ _ _ h9 => h9.elim) (fun r_38 W_38 H locs hq hW => ?_)
    obtain ⟨rfl, rfl⟩ := hq
    have hW : CxB D [(a5, .inr (8, [.ref a6, .ref a7, .ref a8, .ref a9, .int (nI nm), .int nx])), (a6, .inl (aT 0, 12, .inl fI)), (a7, .inl (aT 0, 12, .inl fN)), (a8, .inl (aT 0, 12, .inl fW)), (a9, .inl (aT 0, 12, .inl fP))] A s.heap H _ := hW
    refine lv_istore_n (lv' := [(3, .int (nI (dep pr a))), (0, .ref a5), (1, .int (nI a)), (2, .int (nI b))]) hx hb dX5_ranksBefore_41 rfl hl (by decide) rfl (fun ls hl => ?_)
    refine lv_aload_n hx hb dX5_ranksBefore_42 rfl (lv_at hl 1 rfl) ?_
    refine lv_iload_n hx hb dX5_ranksBefore_43 rfl (lv_at hl 3 rfl) ?_
    refine cx_calli (Wr := []) (cx_runV C hml hl.1 hZ hW hA (As := [.int (nI b)]) (rest := []) (k_X5_depthOf l hfl D aT a5 a6 a7 a8 a9 fI fN fW fP nm nx idn pr tn hO b hb9) gV_X5_X5_depthOf_52 hV_X5_depthOf rfl ⟨Nat.le_of_ble_eq_true rfl, Nat.le_of_ble_eq_true rfl⟩ ⟨Nat.le_of_ble_eq_true rfl, Nat.le_of_ble_eq_true rfl⟩ [0, 1, 2, 3, 4] rfl (by decide) 0 8 rfl rfl rfl rfl (Nat.le_of_ble_eq_true rfl) dX5_ranksBefore_44) hW hA [0, 1, 2, 3, 4] [] rfl rfl (by decide) (by decide) (fun _ _ _ _ _ _ h9 => h9.elim) (fun r_44 W_44 H locs hq hW => ?_)
    obtain ⟨rfl, rfl⟩ := hq
    have hW : CxB D [(a5, .inr (8, [.ref a6, .ref a7, .ref a8, .ref a9, .int (nI nm), .int nx])), (a6, .inl (aT 0, 12, .inl fI)), (a7, .inl (aT 0, 12, .inl fN)), (a8, .inl (aT 0, 12, .inl fW)), (a9, .inl (aT 0, 12, .inl fP))] A s.heap H _ := hW
    refine lv_istore (lv' := [(4, .int (nI (dep pr b))), (3, .int (nI (dep pr a))), (0, .ref a5), (1, .int (nI a)), (2, .int (nI b))]) hx hb dX5_ranksBefore_47 hl (by decide) rfl (fun ls hl => ?_)
    refine lv_iload_n hx hb dX5_ranksBefore_49 rfl (lv_at hl 1 rfl) ?_
    refine lv_iload hx hb dX5_ranksBefore_50 (lv_at hl 0 rfl) ?_
    refine r_eqN hx hb (a := dep pr a) (b := dep pr b) (by have h1 := hO.1; have := dep_le hO.2.2.2.1 a ha; have := dep_le hO.2.2.2.1 b hb9; omega) (by have h1 := hO.1; have := dep_le hO.2.2.2.1 a ha; have := dep_le hO.2.2.2.1 b hb9; omega) (tgt := 67) dX5_ranksBefore_52 (by decide) (fun c_52 => ?_) (fun c_52 => ?_)
    · refine lv_iload_n hx hb dX5_ranksBefore_67 rfl (lv_at hl 3 rfl) ?_
      refine lv_iload_n hx hb dX5_ranksBefore_68 rfl (lv_at hl 4 rfl) ?_
      refine r_geN hx hb (a := a) (b := b) (by have := hO.1; omega) (by have := hO.1; omega) (tgt := 76) dX5_ranksBefore_69 (by decide) (fun c_69 => ?_) (fun c_69 => ?_)
      · refine lv_iconst (v := nI 0) hx hb dX5_ranksBefore_76 (by decide) ?_
        exact cx_iret C hr hlocks (by decide) hW ⟨Nat.le_of_ble_eq_true rfl, Nat.le_of_ble_eq_true rfl⟩ (⟨mAc_4 c_12 (by omega), rfl⟩) dX5_ranksBefore_77
      · refine lv_iconst (v := nI 1) hx hb dX5_ranksBefore_72 (by decide) ?_
        refine lv_goto (tgt := 77) hx hb dX5_ranksBefore_73 (by decide) ?_
        exact cx_iret C hr hlocks (by decide) hW ⟨Nat.le_of_ble_eq_true rfl, Nat.le_of_ble_eq_true rfl⟩ (⟨mAc_3 c_12 (by omega), rfl⟩) dX5_ranksBefore_77
    · refine lv_iload_n hx hb dX5_ranksBefore_55 rfl (lv_at hl 1 rfl) ?_
      refine lv_iload hx hb dX5_ranksBefore_56 (lv_at hl 0 rfl) ?_
      refine r_geN hx hb (a := dep pr a) (b := dep pr b) (by have h1 := hO.1; have := dep_le hO.2.2.2.1 a ha; have := dep_le hO.2.2.2.1 b hb9; omega) (by have h1 := hO.1; have := dep_le hO.2.2.2.1 a ha; have := dep_le hO.2.2.2.1 b hb9; omega) (tgt := 65) dX5_ranksBefore_58 (by decide) (fun c_58 => ?_) (fun c_58 => ?_)
      · refine lv_iconst (v := nI 0) hx hb dX5_ranksBefore_65 (by decide) ?_
        exact cx_iret C hr hlocks (by decide) hW ⟨Nat.le_of_ble_eq_true rfl, Nat.le_of_ble_eq_true rfl⟩ (⟨mAc_4 c_12 (by omega), rfl⟩) dX5_ranksBefore_66
      · refine lv_iconst (v := nI 1) hx hb dX5_ranksBefore_61 (by decide) ?_
        refine lv_goto (tgt := 66) hx hb dX5_ranksBefore_62 (by decide) ?_
        exact cx_iret C hr hlocks (by decide) hW ⟨Nat.le_of_ble_eq_true rfl, Nat.le_of_ble_eq_true rfl⟩ (⟨mAc_3 c_12 (by omega), rfl⟩) dX5_ranksBefore_66
  · refine lv_aload_n hx hb dX5_ranksBefore_15 rfl (lv_at hl 0 rfl) ?_
    refine cx_get C hW 0 2 rfl rfl (by decide) inX5 gw_153 rfl rfl dX5_ranksBefore_16 ?_
    refine lv_iload_n hx hb dX5_ranksBefore_19 rfl (lv_at hl 1 rfl) ?_
    refine cx_ald C hW 3 0 (j := a) rfl rfl rfl (by have := hO.1; omega) (by decide) dX5_ranksBefore_20 ?_
    refine lv_aload_n hx hb dX5_ranksBefore_21 rfl (lv_at hl 0 rfl) ?_
    refine cx_get C hW 0 2 rfl rfl (by decide) inX5 gw_153 rfl rfl dX5_ranksBefore_22 ?_
    refine lv_iload_n hx hb dX5_ranksBefore_25 rfl (lv_at hl 2 rfl) ?_
    refine cx_ald C hW 3 0 (j := b) rfl rfl rfl (by have := hO.1; omega) (by decide) dX5_ranksBefore_26 ?_
    refine lv_icmp_le hx hb (x := (fW a)) (y := (fW b)) (tgt := 34) dX5_ranksBefore_27 (by decide) (fun c_27 => ?_) (fun c_27 => ?_)
    · refine lv_iconst (v := nI 0) hx hb dX5_ranksBefore_34 (by decide) ?_
      exact cx_iret C hr hlocks (by decide) hW ⟨Nat.le_of_ble_eq_true rfl, Nat.le_of_ble_eq_true rfl⟩ (⟨mAc_2 c_12 c_27, rfl⟩) dX5_ranksBefore_35
    · refine lv_iconst (v := nI 1) hx hb dX5_ranksBefore_30 (by decide) ?_
      refine lv_goto (tgt := 35) hx hb dX5_ranksBefore_31 (by decide) ?_
      exact cx_iret C hr hlocks (by decide) hW ⟨Nat.le_of_ble_eq_true rfl, Nat.le_of_ble_eq_true rfl⟩ (⟨mAc_1 (Int32.not_le.mp c_27), rfl⟩) dX5_ranksBefore_35
theorem dX5_rankOf_0 : decode cX5_rankOf 0 = .ok (.iconst 0, 1) := by decide +kernel
theorem dX5_rankOf_1 : decode cX5_rankOf 1 = .ok (.istore_n 2, 1) := by decide +kernel
theorem dX5_rankOf_2 : decode cX5_rankOf 2 = .ok (.iconst 0, 1) := by decide +kernel
theorem dX5_rankOf_3 : decode cX5_rankOf 3 = .ok (.istore_n 3, 1) := by decide +kernel
theorem dX5_rankOf_4 : decode cX5_rankOf 4 = .ok (.iload_n 3, 1) := by decide +kernel
theorem dX5_rankOf_5 : decode cX5_rankOf 5 = .ok (.aload_n 0, 1) := by decide +kernel
theorem dX5_rankOf_6 : decode cX5_rankOf 6 = .ok (.getfield 24, 3) := by decide +kernel
theorem dX5_rankOf_9 : decode cX5_rankOf 9 = .ok (.if_icmp .ge 21, 3) := by decide +kernel
theorem dX5_rankOf_12 : decode cX5_rankOf 12 = .ok (.aload_n 0, 1) := by decide +kernel
theorem dX5_rankOf_13 : decode cX5_rankOf 13 = .ok (.iload_n 3, 1) := by decide +kernel
theorem dX5_rankOf_14 : decode cX5_rankOf 14 = .ok (.iload_n 1, 1) := by decide +kernel
theorem dX5_rankOf_15 : decode cX5_rankOf 15 = .ok (.invokevirtual 59, 3) := by decide +kernel
theorem dX5_rankOf_18 : decode cX5_rankOf 18 = .ok (.ifCond .eq 6, 3) := by decide +kernel
theorem dX5_rankOf_21 : decode cX5_rankOf 21 = .ok (.iinc 2 1, 3) := by decide +kernel
theorem dX5_rankOf_24 : decode cX5_rankOf 24 = .ok (.iinc 3 1, 3) := by decide +kernel
theorem dX5_rankOf_27 : decode cX5_rankOf 27 = .ok (.goto (-23), 3) := by decide +kernel
theorem dX5_rankOf_30 : decode cX5_rankOf 30 = .ok (.iload_n 2, 1) := by decide +kernel
theorem dX5_rankOf_31 : decode cX5_rankOf 31 = .ok (.ireturn, 1) := by decide +kernel
theorem gV_X5_X5_ranksBefore_59 : GoodIn gw (wsV RX5 59 RX5 yX5_ranksBefore (Cond.code yX5_ranksBefore cX5_ranksBefore 5 (some .boolean) :: gw)) := gdV gw_978 gw_979 gw_980 gw_70 gw_981
theorem hV_X5_ranksBefore : yX5_ranksBefore.cls = RX5 ∧ yX5_ranksBefore.cls ≠ "java/lang/invoke/MethodHandle" ∧ yX5_ranksBefore.cls ≠ "java/lang/invoke/VarHandle" ∧ (parseMethodDescriptor yX5_ranksBefore.desc).map (fun d => d.parameters.length) = some 2 := ⟨rfl, by decide +kernel, by decide +kernel, by decide +kernel⟩
set_option maxHeartbeats 2000000 in
set_option maxRecDepth 20000 in
theorem k_X5_rankOf (l : Launch) (hfl : l.stackTraces = false) (D : va_G) (aT : Nat → ClassId) (a5 : Nat) (a6 : Nat) (a7 : Nat) (a8 : Nat) (a9 : Nat) (fI : Nat → Int32) (fN : Nat → Int32) (fW : Nat → Int32) (fP : Nat → Int32) (nm : Nat) (nx : Int32) (idn : Nat → Nat) (pr : Nat → Option Nat) (tn : Nat → Nat) (hO : MoC fI fN fP nm idn pr tn) (k : Nat) (hk : k < nm) : CxG l yX5_rankOf cX5_rankOf 4 (some (.int)) 2 0 0 47 D aT [.ref a5, .int (nI k)] [(a5, .inr (8, [.ref a6, .ref a7, .ref a8, .ref a9, .int (nI nm), .int nx])), (a6, .inl (aT 0, 12, .inl fI)), (a7, .inl (aT 0, 12, .inl fN)), (a8, .inl (aT 0, 12, .inl fW)), (a9, .inl (aT 0, 12, .inl fP))] (qI D aT (fun r W1 => r = nI (rkN (mAc fW pr) k nm) ∧ W1 = [(a5, .inr (8, [.ref a6, .ref a7, .ref a8, .ref a9, .int (nI nm), .int nx])), (a6, .inl (aT 0, 12, .inl fI)), (a7, .inl (aT 0, 12, .inl fN)), (a8, .inl (aT 0, 12, .inl fW)), (a9, .inl (aT 0, 12, .inl fP))])) (fun _ _ => False) := by
  refine CxG.of RX5 (by decide +kernel) rfl (Nat.le_of_ble_eq_true rfl) ?_
  intro p e s m below meth c A ls C hml hl hA hr hlocks hex hnm hZ hW
  have hl : lv_has ls 4 [(0, .ref a5), (1, .int (nI k))] := hl
  have hx := C.1
  have hb := C.2.1
  refine lv_iconst (v := nI 0) hx hb dX5_rankOf_0 (by decide) ?_
  refine lv_istore_n (lv' := [(2, .int (nI 0)), (0, .ref a5), (1, .int (nI k))]) hx hb dX5_rankOf_1 rfl hl (by decide) rfl (fun ls hl => ?_)
  refine lv_iconst (v := nI 0) hx hb dX5_rankOf_2 (by decide) ?_
  refine lv_istore_n (lv' := [(3, .int (nI 0)), (2, .int (nI 0)), (0, .ref a5), (1, .int (nI k))]) hx hb dX5_rankOf_3 rfl hl (by decide) rfl (fun ls hl => ?_)
  refine W_loopH (σ := Nat) (fun z_ => nm - z_) (fun z_ H locs g => ∃ ls, g = F0 m 4 ls [] ∧ lv_has ls 4 [(3, .int (nI z_)), (2, .int (nI (rkN (mAc fW pr) k z_))), (1, .int (nI k)), (0, .ref a5)] ∧ CxB D [(a5, .inr (8, [.ref a6, .ref a7, .ref a8, .ref a9, .int (nI nm), .int nx])), (a6, .inl (aT 0, 12, .inl fI)), (a7, .inl (aT 0, 12, .inl fN)), (a8, .inl (aT 0, 12, .inl fW)), (a9, .inl (aT 0, 12, .inl fP))] A s.heap H locs ∧ z_ ≤ nm) ?_ 0 _ ⟨_, rfl, lv_sub hl [0, 1, 3, 2] rfl, hW, Nat.zero_le _⟩
  clear hW hl
  rintro i H locs g ⟨ls, rfl, hl, hW, hi⟩ ih_4
  refine lv_iload_n hx hb dX5_rankOf_4 rfl (lv_at hl 0 rfl) ?_
  refine lv_aload_n hx hb dX5_rankOf_5 rfl (lv_at hl 3 rfl) ?_
  refine cx_get C hW 0 4 rfl rfl (by decide) inX5 gw_161 rfl rfl dX5_rankOf_6 ?_
  refine r_geN hx hb (a := i) (b := nm) (by have := hO.1; omega) (by have := hO.1; omega) (tgt := 30) dX5_rankOf_9 (by decide) (fun c_9 => ?_) (fun c_9 => ?_)
  · refine lv_iload_n hx hb dX5_rankOf_30 rfl (lv_at hl 1 rfl) ?_
    exact cx_iret C hr hlocks rfl hW ⟨Nat.le_of_ble_eq_true rfl, Nat.le_of_ble_eq_true rfl⟩ (⟨by rw [show i = nm by omega], rfl⟩) dX5_rankOf_31
  · refine lv_aload_n hx hb dX5_rankOf_12 rfl (lv_at hl 3 rfl) ?_
    refine lv_iload_n hx hb dX5_rankOf_13 rfl (lv_at hl 0 rfl) ?_
    refine lv_iload_n hx hb dX5_rankOf_14 rfl (lv_at hl 2 rfl) ?_
    refine cx_calli (Wr := []) (cx_runV C hml hl.1 hZ hW hA (As := [.int (nI i), .int (nI k)]) (rest := []) (k_X5_ranksBefore l hfl D aT a5 a6 a7 a8 a9 fI fN fW fP nm nx idn pr tn hO i k (show i < nm by omega) hk) gV_X5_X5_ranksBefore_59 hV_X5_ranksBefore rfl ⟨Nat.le_of_ble_eq_true rfl, Nat.le_of_ble_eq_true rfl⟩ ⟨Nat.le_of_ble_eq_true rfl, Nat.le_of_ble_eq_true rfl⟩ [0, 1, 2, 3, 4] rfl (by decide) 0 8 rfl rfl rfl rfl (Nat.le_of_ble_eq_true rfl) dX5_rankOf_15) hW hA [0, 1, 2, 3, 4] [] rfl rfl (by decide) (by decide) (fun _ _ _ _ _ _ h9 => h9.elim) (fun r_15 W_15 H locs hq hW => ?_)
    obtain ⟨rfl, rfl⟩ := hq
    have hW : CxB D [(a5, .inr (8, [.ref a6, .ref a7, .ref a8, .ref a9, .int (nI nm), .int nx])), (a6, .inl (aT 0, 12, .inl fI)), (a7, .inl (aT 0, 12, .inl fN)), (a8, .inl (aT 0, 12, .inl fW)), (a9, .inl (aT 0, 12, .inl fP))] A s.heap H _ := hW
    refine r_bI_eq hx hb (b := (mAc fW pr i k)) (tgt := 24) dX5_rankOf_18 (by decide) (fun c_18 => ?_) (fun c_18 => ?_)
    · have hl : lv_has ls 4 [(3, .int (nI i)), (2, .int (nI (rkN (mAc fW pr) k (i + 1)))), (1, .int (nI k)), (0, .ref a5)] := by
        rw [show nI (rkN (mAc fW pr) k (i + 1)) = nI (rkN (mAc fW pr) k i) from congrArg nI (by rw [rkN, if_neg (by rw [c_18]; decide), Nat.add_zero])]
        exact hl
      refine lv_iinc (v := (nI (i + 1))) (lv' := [(3, .int (nI (i + 1))), (2, .int (nI (rkN (mAc fW pr) k (i + 1)))), (1, .int (nI k)), (0, .ref a5)]) hx hb dX5_rankOf_24 hl (k := 0) rfl (nI_1 _) (by decide) rfl (fun ls hl => ?_)
      refine lv_goto (tgt := 4) hx hb dX5_rankOf_27 (by decide) ?_
      exact ih_4 (i + 1) _ _ _ (by first | omega | (dsimp only; omega)) ⟨_, rfl, lv_sub hl [0, 1, 2, 3] rfl, hW, (by omega)⟩
    · refine lv_iinc (v := (nI ((rkN (mAc fW pr) k i) + 1))) (lv' := [(2, .int (nI ((rkN (mAc fW pr) k i) + 1))), (3, .int (nI i)), (1, .int (nI k)), (0, .ref a5)]) hx hb dX5_rankOf_21 hl (k := 1) rfl (nI_1 _) (by decide) rfl (fun ls hl => ?_)
      have hl : lv_has ls 4 [(2, .int (nI (rkN (mAc fW pr) k (i + 1)))), (3, .int (nI i)), (1, .int (nI k)), (0, .ref a5)] := by
        rw [show nI (rkN (mAc fW pr) k (i + 1)) = nI ((rkN (mAc fW pr) k i) + 1) from congrArg nI (by rw [rkN, if_pos c_18])]
        exact hl
      refine lv_iinc (v := (nI (i + 1))) (lv' := [(3, .int (nI (i + 1))), (2, .int (nI (rkN (mAc fW pr) k (i + 1)))), (1, .int (nI k)), (0, .ref a5)]) hx hb dX5_rankOf_24 hl (k := 1) rfl (nI_1 _) (by decide) rfl (fun ls hl => ?_)
      refine lv_goto (tgt := 4) hx hb dX5_rankOf_27 (by decide) ?_
      exact ih_4 (i + 1) _ _ _ (by first | omega | (dsimp only; omega)) ⟨_, rfl, lv_sub hl [0, 1, 2, 3] rfl, hW, (by omega)⟩
theorem dX5_atRank_0 : decode cX5_atRank 0 = .ok (.iconst 0, 1) := by decide +kernel
theorem dX5_atRank_1 : decode cX5_atRank 1 = .ok (.istore_n 2, 1) := by decide +kernel
theorem dX5_atRank_2 : decode cX5_atRank 2 = .ok (.iconst 0, 1) := by decide +kernel
theorem dX5_atRank_3 : decode cX5_atRank 3 = .ok (.istore_n 3, 1) := by decide +kernel
theorem dX5_atRank_4 : decode cX5_atRank 4 = .ok (.iload_n 3, 1) := by decide +kernel
theorem dX5_atRank_5 : decode cX5_atRank 5 = .ok (.aload_n 0, 1) := by decide +kernel
theorem dX5_atRank_6 : decode cX5_atRank 6 = .ok (.getfield 24, 3) := by decide +kernel
theorem dX5_atRank_9 : decode cX5_atRank 9 = .ok (.if_icmp .ge 20, 3) := by decide +kernel
theorem dX5_atRank_12 : decode cX5_atRank 12 = .ok (.aload_n 0, 1) := by decide +kernel
theorem dX5_atRank_13 : decode cX5_atRank 13 = .ok (.iload_n 3, 1) := by decide +kernel
theorem dX5_atRank_14 : decode cX5_atRank 14 = .ok (.invokevirtual 56, 3) := by decide +kernel
theorem dX5_atRank_17 : decode cX5_atRank 17 = .ok (.iload_n 1, 1) := by decide +kernel
theorem dX5_atRank_18 : decode cX5_atRank 18 = .ok (.if_icmp .ne 5, 3) := by decide +kernel
theorem dX5_atRank_21 : decode cX5_atRank 21 = .ok (.iload_n 3, 1) := by decide +kernel
theorem dX5_atRank_22 : decode cX5_atRank 22 = .ok (.istore_n 2, 1) := by decide +kernel
theorem dX5_atRank_23 : decode cX5_atRank 23 = .ok (.iinc 3 1, 3) := by decide +kernel
theorem dX5_atRank_26 : decode cX5_atRank 26 = .ok (.goto (-22), 3) := by decide +kernel
theorem dX5_atRank_29 : decode cX5_atRank 29 = .ok (.iload_n 2, 1) := by decide +kernel
theorem dX5_atRank_30 : decode cX5_atRank 30 = .ok (.ireturn, 1) := by decide +kernel
theorem gV_X5_X5_rankOf_56 : GoodIn gw (wsV RX5 56 RX5 yX5_rankOf (Cond.code yX5_rankOf cX5_rankOf 4 (some .int) :: gw)) := gdV gw_974 gw_976 gw_9 gw_70 gw_977
theorem hV_X5_rankOf : yX5_rankOf.cls = RX5 ∧ yX5_rankOf.cls ≠ "java/lang/invoke/MethodHandle" ∧ yX5_rankOf.cls ≠ "java/lang/invoke/VarHandle" ∧ (parseMethodDescriptor yX5_rankOf.desc).map (fun d => d.parameters.length) = some 1 := ⟨rfl, by decide +kernel, by decide +kernel, by decide +kernel⟩
set_option maxHeartbeats 2000000 in
set_option maxRecDepth 20000 in
theorem k_X5_atRank (l : Launch) (hfl : l.stackTraces = false) (D : va_G) (aT : Nat → ClassId) (a5 : Nat) (a6 : Nat) (a7 : Nat) (a8 : Nat) (a9 : Nat) (fI : Nat → Int32) (fN : Nat → Int32) (fW : Nat → Int32) (fP : Nat → Int32) (nm : Nat) (nx : Int32) (idn : Nat → Nat) (pr : Nat → Option Nat) (tn : Nat → Nat) (hO : MoC fI fN fP nm idn pr tn) (x : Int32) : CxG l yX5_atRank cX5_atRank 4 (some (.int)) 3 0 0 70 D aT [.ref a5, .int x] [(a5, .inr (8, [.ref a6, .ref a7, .ref a8, .ref a9, .int (nI nm), .int nx])), (a6, .inl (aT 0, 12, .inl fI)), (a7, .inl (aT 0, 12, .inl fN)), (a8, .inl (aT 0, 12, .inl fW)), (a9, .inl (aT 0, 12, .inl fP))] (qI D aT (fun r W1 => r = nI (atR (mAc fW pr) nm x nm) ∧ W1 = [(a5, .inr (8, [.ref a6, .ref a7, .ref a8, .ref a9, .int (nI nm), .int nx])), (a6, .inl (aT 0, 12, .inl fI)), (a7, .inl (aT 0, 12, .inl fN)), (a8, .inl (aT 0, 12, .inl fW)), (a9, .inl (aT 0, 12, .inl fP))])) (fun _ _ => False) := by
  refine CxG.of RX5 (by decide +kernel) rfl (Nat.le_of_ble_eq_true rfl) ?_
  intro p e s m below meth c A ls C hml hl hA hr hlocks hex hnm hZ hW
  have hl : lv_has ls 4 [(0, .ref a5), (1, .int x)] := hl
  have hx := C.1
  have hb := C.2.1
  refine lv_iconst (v := nI 0) hx hb dX5_atRank_0 (by decide) ?_
  refine lv_istore_n (lv' := [(2, .int (nI 0)), (0, .ref a5), (1, .int x)]) hx hb dX5_atRank_1 rfl hl (by decide) rfl (fun ls hl => ?_)
  refine lv_iconst (v := nI 0) hx hb dX5_atRank_2 (by decide) ?_
  refine lv_istore_n (lv' := [(3, .int (nI 0)), (2, .int (nI 0)), (0, .ref a5), (1, .int x)]) hx hb dX5_atRank_3 rfl hl (by decide) rfl (fun ls hl => ?_)
  refine W_loopH (σ := Nat) (fun z_ => nm - z_) (fun z_ H locs g => ∃ ls, g = F0 m 4 ls [] ∧ lv_has ls 4 [(3, .int (nI z_)), (2, .int (nI (atR (mAc fW pr) nm x z_))), (1, .int x), (0, .ref a5)] ∧ CxB D [(a5, .inr (8, [.ref a6, .ref a7, .ref a8, .ref a9, .int (nI nm), .int nx])), (a6, .inl (aT 0, 12, .inl fI)), (a7, .inl (aT 0, 12, .inl fN)), (a8, .inl (aT 0, 12, .inl fW)), (a9, .inl (aT 0, 12, .inl fP))] A s.heap H locs ∧ z_ ≤ nm) ?_ 0 _ ⟨_, rfl, lv_sub hl [0, 1, 3, 2] rfl, hW, Nat.zero_le _⟩
  clear hW hl
  rintro i H locs g ⟨ls, rfl, hl, hW, hi⟩ ih_4
  refine lv_iload_n hx hb dX5_atRank_4 rfl (lv_at hl 0 rfl) ?_
  refine lv_aload_n hx hb dX5_atRank_5 rfl (lv_at hl 3 rfl) ?_
  refine cx_get C hW 0 4 rfl rfl (by decide) inX5 gw_161 rfl rfl dX5_atRank_6 ?_
  refine r_geN hx hb (a := i) (b := nm) (by have := hO.1; omega) (by have := hO.1; omega) (tgt := 29) dX5_atRank_9 (by decide) (fun c_9 => ?_) (fun c_9 => ?_)
  · refine lv_iload_n hx hb dX5_atRank_29 rfl (lv_at hl 1 rfl) ?_
    exact cx_iret C hr hlocks rfl hW ⟨Nat.le_of_ble_eq_true rfl, Nat.le_of_ble_eq_true rfl⟩ (⟨by rw [show i = nm by omega], rfl⟩) dX5_atRank_30
  · refine lv_aload_n hx hb dX5_atRank_12 rfl (lv_at hl 3 rfl) ?_
    refine lv_iload_n hx hb dX5_atRank_13 rfl (lv_at hl 0 rfl) ?_
    refine cx_calli (Wr := []) (cx_runV C hml hl.1 hZ hW hA (As := [.int (nI i)]) (rest := []) (k_X5_rankOf l hfl D aT a5 a6 a7 a8 a9 fI fN fW fP nm nx idn pr tn hO i (show i < nm by omega)) gV_X5_X5_rankOf_56 hV_X5_rankOf rfl ⟨Nat.le_of_ble_eq_true rfl, Nat.le_of_ble_eq_true rfl⟩ ⟨Nat.le_of_ble_eq_true rfl, Nat.le_of_ble_eq_true rfl⟩ [0, 1, 2, 3, 4] rfl (by decide) 0 8 rfl rfl rfl rfl (Nat.le_of_ble_eq_true rfl) dX5_atRank_14) hW hA [0, 1, 2, 3, 4] [] rfl rfl (by decide) (by decide) (fun _ _ _ _ _ _ h9 => h9.elim) (fun r_14 W_14 H locs hq hW => ?_)
    obtain ⟨rfl, rfl⟩ := hq
    have hW : CxB D [(a5, .inr (8, [.ref a6, .ref a7, .ref a8, .ref a9, .int (nI nm), .int nx])), (a6, .inl (aT 0, 12, .inl fI)), (a7, .inl (aT 0, 12, .inl fN)), (a8, .inl (aT 0, 12, .inl fW)), (a9, .inl (aT 0, 12, .inl fP))] A s.heap H _ := hW
    refine lv_iload_n hx hb dX5_atRank_17 rfl (lv_at hl 2 rfl) ?_
    refine lv_icmp_ne hx hb (x := (nI (rkN (mAc fW pr) i nm))) (y := x) (tgt := 23) dX5_atRank_18 (by decide) (fun c_18 => ?_) (fun c_18 => ?_)
    · have hl : lv_has ls 4 [(3, .int (nI i)), (2, .int (nI (atR (mAc fW pr) nm x (i + 1)))), (1, .int x), (0, .ref a5)] := by
        rw [show nI (atR (mAc fW pr) nm x (i + 1)) = nI (atR (mAc fW pr) nm x i) from congrArg nI (by rw [atR, if_neg c_18])]
        exact hl
      refine lv_iinc (v := (nI (i + 1))) (lv' := [(3, .int (nI (i + 1))), (2, .int (nI (atR (mAc fW pr) nm x (i + 1)))), (1, .int x), (0, .ref a5)]) hx hb dX5_atRank_23 hl (k := 0) rfl (nI_1 _) (by decide) rfl (fun ls hl => ?_)
      refine lv_goto (tgt := 4) hx hb dX5_atRank_26 (by decide) ?_
      exact ih_4 (i + 1) _ _ _ (by first | omega | (dsimp only; omega)) ⟨_, rfl, lv_sub hl [0, 1, 2, 3] rfl, hW, (by omega)⟩
    · refine lv_iload_n hx hb dX5_atRank_21 rfl (lv_at hl 0 rfl) ?_
      refine lv_istore_n (lv' := [(2, .int (nI i)), (3, .int (nI i)), (1, .int x), (0, .ref a5)]) hx hb dX5_atRank_22 rfl hl (by decide) rfl (fun ls hl => ?_)
      have hl : lv_has ls 4 [(2, .int (nI (atR (mAc fW pr) nm x (i + 1)))), (3, .int (nI i)), (1, .int x), (0, .ref a5)] := by
        rw [show nI (atR (mAc fW pr) nm x (i + 1)) = nI (i) from congrArg nI (by rw [atR, if_pos (by first | exact c_18 | exact Decidable.not_not.mp c_18)])]
        exact hl
      refine lv_iinc (v := (nI (i + 1))) (lv' := [(3, .int (nI (i + 1))), (2, .int (nI (atR (mAc fW pr) nm x (i + 1)))), (1, .int x), (0, .ref a5)]) hx hb dX5_atRank_23 hl (k := 1) rfl (nI_1 _) (by decide) rfl (fun ls hl => ?_)
      refine lv_goto (tgt := 4) hx hb dX5_atRank_26 (by decide) ?_
      exact ih_4 (i + 1) _ _ _ (by first | omega | (dsimp only; omega)) ⟨_, rfl, lv_sub hl [0, 1, 2, 3] rfl, hW, (by omega)⟩
