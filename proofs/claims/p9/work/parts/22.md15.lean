/-- a place's rank in the order in which a branch is written -/
def kyf (pr : Nat → Option Nat) : Nat → Nat → Nat
  | 0, _ => 0
  | f + 1, k => (match pr k with
    | none => 0
    | some p => kyf pr f p) + (k + 1) * 13 ^ (11 - dep pr k)
def kyR (pr : Nat → Option Nat) (k : Nat) : Nat := kyf pr (k + 1) k
theorem kyf_eq {pr : Nat → Option Nat} {n : Nat} (h : ParOk pr n) : ∀ f g k, k < n → k < f → k < g → kyf pr f k = kyf pr g k := by
  intro f
  induction f with
  | zero => intro g k _ h0; omega
  | succ f ih =>
    intro g k hk hf hg
    cases g with
    | zero => omega
    | succ g =>
      rw [kyf, kyf]
      cases hp : pr k with
      | none => rfl
      | some p =>
        have hpk := h k p hk hp
        dsimp only
        rw [ih g p (by omega) (by omega) (by omega)]
theorem kyR_some {pr : Nat → Option Nat} {n k p : Nat} (h : ParOk pr n) (hk : k < n) (hp : pr k = some p) : kyR pr k = kyR pr p + (k + 1) * 13 ^ (11 - dep pr k) := by
  have hpk := h k p hk hp
  rw [kyR, kyf, hp]
  dsimp only
  rw [kyf_eq h k (p + 1) p (by omega) (by omega) (by omega)]
  rfl
theorem p13 {e : Nat} : 0 < 13 ^ e := Nat.pow_pos (by decide)
theorem kyR_child {pr : Nat → Option Nat} {n k p : Nat} (h : ParOk pr n) (hk : k < n) (hp : pr k = some p) : kyR pr p < kyR pr k := by
  rw [kyR_some h hk hp]
  have : 0 < (k + 1) * 13 ^ (11 - dep pr k) := Nat.mul_pos (Nat.succ_pos k) p13
  omega
theorem anc_dn {pr : Nat → Option Nat} {n k r p : Nat} (h : ParOk pr n) (hk : k < n) (hp : pr k = some p) (ha : anc pr r p = true) : anc pr r k = true := by
  by_cases e : k = r
  · subst e; exact anc_self _ _
  · rw [anc_O h hk e, hp]; exact ha
theorem kyR_next {pr : Nat → Option Nat} {n ro w0 : Nat} (h : ParOk pr n) (h12 : n ≤ 12) : ∀ (d v : Nat) (f : Nat → Int32) (k : Nat), v < n → anc pr ro v = true → kyR pr w0 < kyR pr v + 13 ^ (11 - dep pr v) →
    (nxF pr n ro d v f k).2.2 ≤ k + dep pr v + 1 ∧ ∀ b, (nxF pr n ro d v f k).1 = some b → kyR pr w0 < kyR pr b ∧ b < n ∧ anc pr ro b = true ∧ (nxF pr n ro d v f k).2.2 + dep pr b ≤ k + dep pr v + 1 := by
  intro d
  induction d with
  | zero => intro v f k _ _ _; exact ⟨by rw [nxF]; dsimp only; omega, fun b hb => by rw [nxF] at hb; cases hb⟩
  | succ d ih =>
    intro v f k hv ha hk
    by_cases e : v = ro
    · subst e
      rw [nxF_root]
      exact ⟨by dsimp only; omega, fun b hb => by cases hb⟩
    · obtain ⟨p, hp, hap, hpv⟩ := anc_up h hv e ha
      have hd := dep_some h hv hp
      have hdl := dep_le h v hv
      have hks := kyR_some h hv hp
      cases hc : chF pr p n (n - (v + 1)) with
      | some b =>
        rw [nxF_some e hp hc]
        have hb := chF_lt (by omega) hc
        have hkb := kyR_some h hb.1 hb.2.2
        have hdb := dep_some h hb.1 hb.2.2
        refine ⟨by dsimp only; omega, fun b' hb' => ?_⟩
        obtain rfl := Option.some.inj hb'
        refine ⟨?_, hb.1, anc_dn h hb.1 hb.2.2 hap, by dsimp only; omega⟩
        rw [hkb, show dep pr b = dep pr v by omega]
        have h2 : (v + 1) * 13 ^ (11 - dep pr v) + 13 ^ (11 - dep pr v) ≤ (b + 1) * 13 ^ (11 - dep pr v) := by
          rw [← Nat.succ_mul]
          exact Nat.mul_le_mul_right _ (by omega)
        omega
      | none =>
        rw [nxF_none e hp hc]
        have h2 : (v + 1) * 13 ^ (11 - dep pr v) + 13 ^ (11 - dep pr v) ≤ 13 ^ (11 - dep pr p) := by
          rw [← Nat.succ_mul, show 11 - dep pr p = (11 - dep pr v) + 1 by omega, Nat.pow_succ, Nat.mul_comm]
          exact Nat.mul_le_mul_left _ (by omega)
        have z := ih p (upd f k (nI 41)) (k + 1) (by omega) hap (by omega)
        exact ⟨by have := z.1; omega, fun b hb => by have y := z.2 b hb; exact ⟨y.1, y.2.1, y.2.2.1, by have := y.2.2.2; omega⟩⟩
def cnA (q : Nat → Bool) : Nat → Nat
  | 0 => 0
  | n + 1 => cnA q n + (if q n = true then 1 else 0)
theorem cnA_n {q : Nat → Bool} : ∀ n, cnA q n ≤ n
  | 0 => Nat.le_refl _
  | n + 1 => by have := cnA_n (q := q) n; rw [cnA]; split <;> omega
theorem cnA_le {q q' : Nat → Bool} (h : ∀ j, q' j = true → q j = true) : ∀ n, cnA q' n ≤ cnA q n
  | 0 => Nat.le_refl _
  | n + 1 => by
    have := cnA_le h n
    rw [cnA, cnA]
    by_cases e : q' n = true
    · rw [if_pos e, if_pos (h n e)]; omega
    · rw [if_neg e]; omega
theorem cnA_lt {q q' : Nat → Bool} {c : Nat} (h : ∀ j, q' j = true → q j = true) (h1 : q c = true) (h2 : q' c = false) : ∀ n, c < n → cnA q' n < cnA q n
  | 0, z => by omega
  | n + 1, z => by
    rw [cnA, cnA]
    by_cases e : c = n
    · subst e
      have := cnA_le h c
      rw [if_pos h1, if_neg (by rw [h2]; decide)]; omega
    · have := cnA_lt h h1 h2 n (by omega)
      by_cases e2 : q' n = true
      · rw [if_pos e2, if_pos (h n e2)]; omega
      · rw [if_neg e2]; omega
/-- how many places come behind one -/
def muB (pr : Nat → Option Nat) (n w : Nat) : Nat := cnA (fun u => decide (kyR pr w < kyR pr u)) n
theorem muB_lt {pr : Nat → Option Nat} {n w c : Nat} (hc : c < n) (h : kyR pr w < kyR pr c) : muB pr n c < muB pr n w :=
  cnA_lt (fun j hj => by have := of_decide_eq_true hj; exact decide_eq_true (by omega)) (decide_eq_true h) (decide_eq_false (by omega)) n hc
/-- a motion written into the line -/
def wm1 (m : Nat → Int32) (w : Nat) (f : Nat → Int32) (k : Nat) : (Nat → Int32) × Nat := whF (m (29 + 4 * w + 0)) f k
def wm2 (m : Nat → Int32) (w : Nat) (f : Nat → Int32) (k : Nat) : (Nat → Int32) × Nat := whF (m (29 + 4 * w + 2)) (upd (wm1 m w f k).1 (wm1 m w f k).2 (nI 58)) ((wm1 m w f k).2 + 1)
def wmF (m : Nat → Int32) (w : Nat) (f : Nat → Int32) (k : Nat) : (Nat → Int32) × Nat := whF (m (29 + 4 * w + 3)) (upd (wm2 m w f k).1 (wm2 m w f k).2 (nI 42)) ((wm2 m w f k).2 + 1)
theorem whF_1 {t : Nat} (h : t < 10) {f : Nat → Int32} {k : Nat} : (whF (nI t) f k).2 = k + 1 := by
  rw [whF, wlF_k, tnJ_stop (by rw [show (10 ^ 0 : Nat) = 1 from rfl, pk_div (by omega) (by decide) (by decide), nI_ltI (by decide) (by omega)]; omega)]
/-- a branch written from a place on -/
def brF (m : Nat → Int32) (pr : Nat → Option Nat) (n ro : Nat) : Nat → Option Nat → (Nat → Int32) → Nat → (Nat → Int32) × Nat
  | _, none, f, k => (f, k)
  | 0, some _, f, k => (f, k)
  | d + 1, some w, f, k => match chF pr w n n with
    | some c => brF m pr n ro d (some c) (upd (wmF m w f k).1 (wmF m w f k).2 (nI 40)) ((wmF m w f k).2 + 1)
    | none => brF m pr n ro d (nxF pr n ro n w (wmF m w f k).1 (wmF m w f k).2).1 (nxF pr n ro n w (wmF m w f k).1 (wmF m w f k).2).2.1 (nxF pr n ro n w (wmF m w f k).1 (wmF m w f k).2).2.2
theorem brF_none {m : Nat → Int32} {pr : Nat → Option Nat} {n ro d k : Nat} {f : Nat → Int32} : brF m pr n ro d none f k = (f, k) := by cases d <;> rfl
theorem brF_c {m : Nat → Int32} {pr : Nat → Option Nat} {n ro d k w c : Nat} {f : Nat → Int32} (h : chF pr w n n = some c) : brF m pr n ro (d + 1) (some w) f k = brF m pr n ro d (some c) (upd (wmF m w f k).1 (wmF m w f k).2 (nI 40)) ((wmF m w f k).2 + 1) := by rw [brF, h]
theorem brF_n {m : Nat → Int32} {pr : Nat → Option Nat} {n ro d k w : Nat} {f : Nat → Int32} (h : chF pr w n n = none) : brF m pr n ro (d + 1) (some w) f k = brF m pr n ro d (nxF pr n ro n w (wmF m w f k).1 (wmF m w f k).2).1 (nxF pr n ro n w (wmF m w f k).1 (wmF m w f k).2).2.1 (nxF pr n ro n w (wmF m w f k).1 (wmF m w f k).2).2.2 := by rw [brF, h]
theorem lnS_00 {T : MSt} : ss T 25 (nI 0) = lnS T (T 12) 0 := by rw [lnS, sr_self]
theorem dX10_writeBranch_0 : decode cX10_writeBranch 0 = .ok (.aload_n 0, 1) := by decide +kernel
theorem dX10_writeBranch_1 : decode cX10_writeBranch 1 = .ok (.iconst 0, 1) := by decide +kernel
theorem dX10_writeBranch_2 : decode cX10_writeBranch 2 = .ok (.putfield 57, 3) := by decide +kernel
theorem dX10_writeBranch_5 : decode cX10_writeBranch 5 = .ok (.aload_n 0, 1) := by decide +kernel
theorem dX10_writeBranch_6 : decode cX10_writeBranch 6 = .ok (.iload_n 1, 1) := by decide +kernel
theorem dX10_writeBranch_7 : decode cX10_writeBranch 7 = .ok (.invokevirtual 71, 3) := by decide +kernel
theorem dX10_writeBranch_10 : decode cX10_writeBranch 10 = .ok (.istore_n 2, 1) := by decide +kernel
theorem dX10_writeBranch_11 : decode cX10_writeBranch 11 = .ok (.iload_n 2, 1) := by decide +kernel
theorem dX10_writeBranch_12 : decode cX10_writeBranch 12 = .ok (.iconst (-1), 1) := by decide +kernel
theorem dX10_writeBranch_13 : decode cX10_writeBranch 13 = .ok (.if_icmp .ne 9, 3) := by decide +kernel
theorem dX10_writeBranch_16 : decode cX10_writeBranch 16 = .ok (.aload_n 0, 1) := by decide +kernel
theorem dX10_writeBranch_17 : decode cX10_writeBranch 17 = .ok (.iconst 1, 1) := by decide +kernel
theorem dX10_writeBranch_18 : decode cX10_writeBranch 18 = .ok (.invokevirtual 101, 3) := by decide +kernel
theorem dX10_writeBranch_21 : decode cX10_writeBranch 21 = .ok (.ireturn, 1) := by decide +kernel
theorem dX10_writeBranch_22 : decode cX10_writeBranch 22 = .ok (.aload_n 0, 1) := by decide +kernel
theorem dX10_writeBranch_23 : decode cX10_writeBranch 23 = .ok (.iconst 0, 1) := by decide +kernel
theorem dX10_writeBranch_24 : decode cX10_writeBranch 24 = .ok (.putfield 258, 3) := by decide +kernel
theorem dX10_writeBranch_27 : decode cX10_writeBranch 27 = .ok (.iload_n 2, 1) := by decide +kernel
theorem dX10_writeBranch_28 : decode cX10_writeBranch 28 = .ok (.istore_n 3, 1) := by decide +kernel
theorem dX10_writeBranch_29 : decode cX10_writeBranch 29 = .ok (.iload_n 3, 1) := by decide +kernel
theorem dX10_writeBranch_30 : decode cX10_writeBranch 30 = .ok (.iconst (-1), 1) := by decide +kernel
theorem dX10_writeBranch_31 : decode cX10_writeBranch 31 = .ok (.if_icmp .eq 81, 3) := by decide +kernel
theorem dX10_writeBranch_34 : decode cX10_writeBranch 34 = .ok (.aload_n 0, 1) := by decide +kernel
theorem dX10_writeBranch_35 : decode cX10_writeBranch 35 = .ok (.aload_n 0, 1) := by decide +kernel
theorem dX10_writeBranch_36 : decode cX10_writeBranch 36 = .ok (.iload_n 3, 1) := by decide +kernel
theorem dX10_writeBranch_37 : decode cX10_writeBranch 37 = .ok (.iconst 0, 1) := by decide +kernel
theorem dX10_writeBranch_38 : decode cX10_writeBranch 38 = .ok (.invokevirtual 67, 3) := by decide +kernel
theorem dX10_writeBranch_41 : decode cX10_writeBranch 41 = .ok (.invokevirtual 264, 3) := by decide +kernel
theorem dX10_writeBranch_44 : decode cX10_writeBranch 44 = .ok (.aload_n 0, 1) := by decide +kernel
theorem dX10_writeBranch_45 : decode cX10_writeBranch 45 = .ok (.bipush 58, 2) := by decide +kernel
theorem dX10_writeBranch_47 : decode cX10_writeBranch 47 = .ok (.invokevirtual 261, 3) := by decide +kernel
theorem dX10_writeBranch_50 : decode cX10_writeBranch 50 = .ok (.aload_n 0, 1) := by decide +kernel
theorem dX10_writeBranch_51 : decode cX10_writeBranch 51 = .ok (.aload_n 0, 1) := by decide +kernel
theorem dX10_writeBranch_52 : decode cX10_writeBranch 52 = .ok (.iload_n 3, 1) := by decide +kernel
theorem dX10_writeBranch_53 : decode cX10_writeBranch 53 = .ok (.iconst 2, 1) := by decide +kernel
theorem dX10_writeBranch_54 : decode cX10_writeBranch 54 = .ok (.invokevirtual 67, 3) := by decide +kernel
theorem dX10_writeBranch_57 : decode cX10_writeBranch 57 = .ok (.invokevirtual 264, 3) := by decide +kernel
theorem dX10_writeBranch_60 : decode cX10_writeBranch 60 = .ok (.aload_n 0, 1) := by decide +kernel
theorem dX10_writeBranch_61 : decode cX10_writeBranch 61 = .ok (.bipush 42, 2) := by decide +kernel
theorem dX10_writeBranch_63 : decode cX10_writeBranch 63 = .ok (.invokevirtual 261, 3) := by decide +kernel
theorem dX10_writeBranch_66 : decode cX10_writeBranch 66 = .ok (.aload_n 0, 1) := by decide +kernel
theorem dX10_writeBranch_67 : decode cX10_writeBranch 67 = .ok (.aload_n 0, 1) := by decide +kernel
theorem dX10_writeBranch_68 : decode cX10_writeBranch 68 = .ok (.iload_n 3, 1) := by decide +kernel
theorem dX10_writeBranch_69 : decode cX10_writeBranch 69 = .ok (.iconst 3, 1) := by decide +kernel
theorem dX10_writeBranch_70 : decode cX10_writeBranch 70 = .ok (.invokevirtual 67, 3) := by decide +kernel
theorem dX10_writeBranch_73 : decode cX10_writeBranch 73 = .ok (.invokevirtual 264, 3) := by decide +kernel
theorem dX10_writeBranch_76 : decode cX10_writeBranch 76 = .ok (.aload_n 0, 1) := by decide +kernel
theorem dX10_writeBranch_77 : decode cX10_writeBranch 77 = .ok (.iconst 0, 1) := by decide +kernel
theorem dX10_writeBranch_78 : decode cX10_writeBranch 78 = .ok (.iload_n 3, 1) := by decide +kernel
theorem dX10_writeBranch_79 : decode cX10_writeBranch 79 = .ok (.invokevirtual 267, 3) := by decide +kernel
theorem dX10_writeBranch_82 : decode cX10_writeBranch 82 = .ok (.istore 4, 2) := by decide +kernel
theorem dX10_writeBranch_84 : decode cX10_writeBranch 84 = .ok (.iload 4, 2) := by decide +kernel
theorem dX10_writeBranch_86 : decode cX10_writeBranch 86 = .ok (.iconst (-1), 1) := by decide +kernel
theorem dX10_writeBranch_87 : decode cX10_writeBranch 87 = .ok (.if_icmp .eq 15, 3) := by decide +kernel
theorem dX10_writeBranch_90 : decode cX10_writeBranch 90 = .ok (.aload_n 0, 1) := by decide +kernel
theorem dX10_writeBranch_91 : decode cX10_writeBranch 91 = .ok (.bipush 40, 2) := by decide +kernel
theorem dX10_writeBranch_93 : decode cX10_writeBranch 93 = .ok (.invokevirtual 261, 3) := by decide +kernel
theorem dX10_writeBranch_96 : decode cX10_writeBranch 96 = .ok (.iload 4, 2) := by decide +kernel
theorem dX10_writeBranch_98 : decode cX10_writeBranch 98 = .ok (.istore_n 3, 1) := by decide +kernel
theorem dX10_writeBranch_99 : decode cX10_writeBranch 99 = .ok (.goto 10, 3) := by decide +kernel
theorem dX10_writeBranch_102 : decode cX10_writeBranch 102 = .ok (.aload_n 0, 1) := by decide +kernel
theorem dX10_writeBranch_103 : decode cX10_writeBranch 103 = .ok (.iload_n 3, 1) := by decide +kernel
theorem dX10_writeBranch_104 : decode cX10_writeBranch 104 = .ok (.iload_n 2, 1) := by decide +kernel
theorem dX10_writeBranch_105 : decode cX10_writeBranch 105 = .ok (.invokevirtual 270, 3) := by decide +kernel
theorem dX10_writeBranch_108 : decode cX10_writeBranch 108 = .ok (.istore_n 3, 1) := by decide +kernel
theorem dX10_writeBranch_109 : decode cX10_writeBranch 109 = .ok (.goto (-80), 3) := by decide +kernel
theorem dX10_writeBranch_112 : decode cX10_writeBranch 112 = .ok (.aload_n 0, 1) := by decide +kernel
theorem dX10_writeBranch_113 : decode cX10_writeBranch 113 = .ok (.getfield 258, 3) := by decide +kernel
theorem dX10_writeBranch_116 : decode cX10_writeBranch 116 = .ok (.ireturn, 1) := by decide +kernel
set_option maxHeartbeats 4000000 in
set_option maxRecDepth 20000 in
theorem m_writeBranch (l : Launch) (D : va_G) (aT : Nat → ClassId) (ad : Nat → Nat) (S : MSt) (x : Int32) (hF : FoW (S 0)) : MdI l yX10_writeBranch cX10_writeBranch 5 .int 5 113 D aT ad [.ref (ad 0), .int x] S (fun r S1 => (fnd (fun k => S 0 (29 + 4 * k)) x (nM (S 0)) = none ∧ r = -1 ∧ S1 = ss S 8 (nI 1)) ∨ (∃ q, fnd (fun k => S 0 (29 + 4 * k)) x (nM (S 0)) = some q ∧ r = nI (brF (S 0) (prM (S 0)) (nM (S 0)) q 13 (some q) (S 12) 0).2 ∧ (brF (S 0) (prM (S 0)) (nM (S 0)) q 13 (some q) (S 12) 0).2 ≤ 400 ∧ S1 = lnS (ss S 8 (nI 0)) (brF (S 0) (prM (S 0)) (nM (S 0)) q 13 (some q) (S 12) 0).1 (brF (S 0) (prM (S 0)) (nM (S 0)) q 13 (some q) (S 12) 0).2)) := by
  refine MdI.of (by decide +kernel) rfl (Nat.le_of_ble_eq_true rfl) ?_
  intro p e s m below meth c A ls C hml hl hA hr hlocks hW
  have hl : lv_has ls 5 [(0, .ref (ad 0)), (1, .int x)] := hl
  have hx := C.1
  have hb := C.2.1
  refine lv_aload_n hx hb dX10_writeBranch_0 rfl (lv_at hl 0 rfl) ?_
  refine lv_iconst (v := nI 0) hx hb dX10_writeBranch_1 (by decide) ?_
  refine md_put_thrown C hW dX10_writeBranch_2 (fun H locs hW => ?_)
  have hW : MdB D aT ad (ss S 8 (nI 0)) A s.heap H locs := hW
  refine lv_aload_n hx hb dX10_writeBranch_5 rfl (lv_at hl 0 rfl) ?_
  refine lv_iload_n hx hb dX10_writeBranch_6 rfl (lv_at hl 1 rfl) ?_
  refine md_callg C hml hl.1 (As := [.int x]) (rest := []) (m_find l D aT ad (ss S 8 (nI 0)) (x) (nM (S 0)) hF.1 hF.2.1) gT_find hd_find rfl ⟨Nat.le_of_ble_eq_true rfl, Nat.le_of_ble_eq_true rfl⟩ ⟨Nat.le_refl _, Nat.le_refl _⟩ hW hA rfl (Nat.le_of_ble_eq_true rfl) dX10_writeBranch_7 (fun r_7 H locs hq hW => ?_)
  subst hq
  refine lv_istore_n (lv' := [(2, .int (oi (fnd (fun k => (ss S 8 (nI 0)) 0 (29 + 4 * k)) (x) (nM (S 0))))), (0, .ref (ad 0)), (1, .int x)]) hx hb dX10_writeBranch_10 rfl hl (by decide) rfl (fun ls hl => ?_)
  refine lv_iload_n hx hb dX10_writeBranch_11 rfl (lv_at hl 0 rfl) ?_
  refine lv_iconst (v := (-1)) hx hb dX10_writeBranch_12 (by decide) ?_
  refine r_oi_ne hx hb (o := (fnd (fun k => (ss S 8 (nI 0)) 0 (29 + 4 * k)) (x) (nM (S 0)))) (fun j hj => by have := (fnd_some hj).1; have := hF.n12; omega) (tgt := 22) dX10_writeBranch_13 (by decide) (fun j_13 c_13 => ?_) (fun c_13 => ?_)
  · have hl : lv_has ls 5 [(2, .int (nI j_13)), (0, .ref (ad 0)), (1, .int x)] := by rw [c_13] at hl; exact hl
    have hq0 := (fnd_some c_13).1
    have h12 := hF.n12
    refine lv_aload_n hx hb dX10_writeBranch_22 rfl (lv_at hl 1 rfl) ?_
    refine lv_iconst (v := nI 0) hx hb dX10_writeBranch_23 (by decide) ?_
    refine md_put_lineMany C hW dX10_writeBranch_24 (fun H locs hW => ?_)
    have hW : MdB D aT ad (lnS (ss S 8 (nI 0)) (S 12) 0) A s.heap H locs := (congrArg (fun T1 => MdB D aT ad T1 A s.heap H locs) (lnS_00 (T := (ss S 8 (nI 0))))).mp hW
    refine lv_iload_n hx hb dX10_writeBranch_27 rfl (lv_at hl 0 rfl) ?_
    refine lv_istore_n (lv' := [(3, .int (nI j_13)), (2, .int (nI j_13)), (0, .ref (ad 0)), (1, .int x)]) hx hb dX10_writeBranch_28 rfl hl (by decide) rfl (fun ls hl => ?_)
    refine W_loopH (σ := Option Nat × (Nat → Int32) × Nat × Nat) (fun z_ => z_.2.2.2) (fun z_ H locs g => ∃ ls, g = F0 m 29 ls [] ∧ lv_has ls 5 [(0, .ref (ad 0)), (2, .int (nI j_13)), (3, .int (oi z_.1))] ∧ MdB D aT ad (lnS (ss S 8 (nI 0)) z_.2.1 z_.2.2.1) A s.heap H locs ∧ (brF (S 0) (prM (S 0)) (nM (S 0)) j_13 z_.2.2.2 z_.1 z_.2.1 z_.2.2.1 = (brF (S 0) (prM (S 0)) (nM (S 0)) j_13 13 (some j_13) (S 12) 0) ∧ z_.2.2.1 ≤ 400 ∧ ∀ w, z_.1 = some w → w < (nM (S 0)) ∧ anc (prM (S 0)) j_13 w = true ∧ z_.2.2.1 + 25 * (muB (prM (S 0)) (nM (S 0)) w + 1) + dep (prM (S 0)) w ≤ 380 ∧ muB (prM (S 0)) (nM (S 0)) w < z_.2.2.2)) ?_ ((some j_13), (S 12), 0, 13) _ ⟨_, rfl, lv_sub hl [2, 1, 0] rfl, hW, ⟨rfl, Nat.zero_le _, fun w hw => by obtain rfl := Option.some.inj hw; have := dep_le hF.ok _ hq0; have : muB (prM (S 0)) (nM (S 0)) j_13 ≤ (nM (S 0)) := cnA_n _; exact ⟨hq0, anc_self _ _, by dsimp only; omega, by dsimp only; omega⟩⟩⟩
    clear hW hl
    rintro ⟨o, f, k, d⟩ H locs g ⟨ls, rfl, hl, hW, hR, hk4, hw⟩ ih_29
    dsimp only at hl hW hR hk4 hw ⊢
    refine lv_iload_n hx hb dX10_writeBranch_29 rfl (lv_at hl 2 rfl) ?_
    refine lv_iconst (v := (-1)) hx hb dX10_writeBranch_30 (by decide) ?_
    refine r_oi_eq hx hb (o := o) (fun j hj => by have := (hw j hj).1; have := hF.n12; omega) (tgt := 112) dX10_writeBranch_31 (by decide) (fun c_31 => ?_) (fun j_31 c_31 => ?_)
    · subst c_31
      have hl : lv_has ls 5 [(0, .ref (ad 0)), (2, .int (nI j_13)), (3, .int (-1))] := hl
      refine lv_aload_n hx hb dX10_writeBranch_112 rfl (lv_at hl 0 rfl) ?_
      refine md_get_lineMany C hW dX10_writeBranch_113 ?_
      refine r_eq (y := (nI k)) (rfl) ?_
      exact md_iret C hr hlocks rfl hW (Or.inr ⟨j_13, c_13, by rw [← hR, brF_none], by rw [← hR, brF_none]; exact hk4, by rw [← hR, brF_none]⟩) dX10_writeBranch_116
    · subst c_31
      have hl : lv_has ls 5 [(0, .ref (ad 0)), (2, .int (nI j_13)), (3, .int (nI j_31))] := hl
      obtain ⟨hwn, hwa, hkb, hmd⟩ := hw j_31 rfl
      have b1 : (wm1 (S 0) j_31 f k).2 ≤ k + 10 := whF_k.1
      have ht := hF.2.2.2.2.2.2 j_31 hwn
      have b2 : (wm2 (S 0) j_31 f k).2 = (wm1 (S 0) j_31 f k).2 + 1 + 1 := by rw [wm2, ht.1]; exact whF_1 (by omega)
      have b3 : (wmF (S 0) j_31 f k).2 ≤ (wm2 (S 0) j_31 f k).2 + 1 + 10 := whF_k.1
      refine lv_aload_n hx hb dX10_writeBranch_34 rfl (lv_at hl 0 rfl) ?_
      refine lv_aload_n hx hb dX10_writeBranch_35 rfl (lv_at hl 0 rfl) ?_
      refine lv_iload_n hx hb dX10_writeBranch_36 rfl (lv_at hl 2 rfl) ?_
      refine lv_iconst (v := nI 0) hx hb dX10_writeBranch_37 (by decide) ?_
      refine md_callg C hml hl.1 (As := [.int (nI j_31), .int (nI 0)]) (rest := [.ref (ad 0)]) (m_of l D aT ad (lnS (ss S 8 (nI 0)) f k) j_31 0 (by omega)) gT_of hd_of rfl ⟨Nat.le_of_ble_eq_true rfl, Nat.le_of_ble_eq_true rfl⟩ ⟨Nat.le_refl _, Nat.le_refl _⟩ hW hA rfl (Nat.le_of_ble_eq_true rfl) dX10_writeBranch_38 (fun r_38 H locs hq hW => ?_)
      subst hq
      refine md_callv C hml hl.1 (As := [.int (S 0 (29 + 4 * j_31 + 0))]) (rest := []) (m_writesWhole l D aT ad (ss S 8 (nI 0)) f k (by omega) (S 0 (29 + 4 * j_31 + 0))) gT_writesWhole hd_writesWhole rfl ⟨Nat.le_of_ble_eq_true rfl, Nat.le_of_ble_eq_true rfl⟩ ⟨Nat.le_refl _, Nat.le_refl _⟩ hW hA rfl (Nat.le_of_ble_eq_true rfl) dX10_writeBranch_41 (fun S_41 H locs hq hW => ?_)
      subst hq
      refine lv_aload_n hx hb dX10_writeBranch_44 rfl (lv_at hl 0 rfl) ?_
      refine lv_bipush (v := nI 58) hx hb dX10_writeBranch_45 (by decide) ?_
      refine md_callv C hml hl.1 (As := [.int (nI 58)]) (rest := []) (m_sign l D aT ad (ss S 8 (nI 0)) ((wm1 (S 0) j_31 f k).1) ((wm1 (S 0) j_31 f k).2) (by omega) (nI 58)) gT_sign hd_sign rfl ⟨Nat.le_of_ble_eq_true rfl, Nat.le_of_ble_eq_true rfl⟩ ⟨Nat.le_refl _, Nat.le_refl _⟩ hW hA rfl (Nat.le_of_ble_eq_true rfl) dX10_writeBranch_47 (fun S_47 H locs hq hW => ?_)
      subst hq
      refine lv_aload_n hx hb dX10_writeBranch_50 rfl (lv_at hl 0 rfl) ?_
      refine lv_aload_n hx hb dX10_writeBranch_51 rfl (lv_at hl 0 rfl) ?_
      refine lv_iload_n hx hb dX10_writeBranch_52 rfl (lv_at hl 2 rfl) ?_
      refine lv_iconst (v := nI 2) hx hb dX10_writeBranch_53 (by decide) ?_
      refine md_callg C hml hl.1 (As := [.int (nI j_31), .int (nI 2)]) (rest := [.ref (ad 0)]) (m_of l D aT ad (lnS (ss S 8 (nI 0)) (upd ((wm1 (S 0) j_31 f k).1) ((wm1 (S 0) j_31 f k).2) (nI 58)) ((wm1 (S 0) j_31 f k).2 + 1)) j_31 2 (by omega)) gT_of hd_of rfl ⟨Nat.le_of_ble_eq_true rfl, Nat.le_of_ble_eq_true rfl⟩ ⟨Nat.le_refl _, Nat.le_refl _⟩ hW hA rfl (Nat.le_of_ble_eq_true rfl) dX10_writeBranch_54 (fun r_54 H locs hq hW => ?_)
      subst hq
      refine md_callv C hml hl.1 (As := [.int (S 0 (29 + 4 * j_31 + 2))]) (rest := []) (m_writesWhole l D aT ad (ss S 8 (nI 0)) (upd ((wm1 (S 0) j_31 f k).1) ((wm1 (S 0) j_31 f k).2) (nI 58)) ((wm1 (S 0) j_31 f k).2 + 1) (by omega) (S 0 (29 + 4 * j_31 + 2))) gT_writesWhole hd_writesWhole rfl ⟨Nat.le_of_ble_eq_true rfl, Nat.le_of_ble_eq_true rfl⟩ ⟨Nat.le_refl _, Nat.le_refl _⟩ hW hA rfl (Nat.le_of_ble_eq_true rfl) dX10_writeBranch_57 (fun S_57 H locs hq hW => ?_)
      subst hq
      refine lv_aload_n hx hb dX10_writeBranch_60 rfl (lv_at hl 0 rfl) ?_
      refine lv_bipush (v := nI 42) hx hb dX10_writeBranch_61 (by decide) ?_
      refine md_callv C hml hl.1 (As := [.int (nI 42)]) (rest := []) (m_sign l D aT ad (ss S 8 (nI 0)) ((wm2 (S 0) j_31 f k).1) ((wm2 (S 0) j_31 f k).2) (by omega) (nI 42)) gT_sign hd_sign rfl ⟨Nat.le_of_ble_eq_true rfl, Nat.le_of_ble_eq_true rfl⟩ ⟨Nat.le_refl _, Nat.le_refl _⟩ hW hA rfl (Nat.le_of_ble_eq_true rfl) dX10_writeBranch_63 (fun S_63 H locs hq hW => ?_)
      subst hq
      refine lv_aload_n hx hb dX10_writeBranch_66 rfl (lv_at hl 0 rfl) ?_
      refine lv_aload_n hx hb dX10_writeBranch_67 rfl (lv_at hl 0 rfl) ?_
      refine lv_iload_n hx hb dX10_writeBranch_68 rfl (lv_at hl 2 rfl) ?_
      refine lv_iconst (v := nI 3) hx hb dX10_writeBranch_69 (by decide) ?_
      refine md_callg C hml hl.1 (As := [.int (nI j_31), .int (nI 3)]) (rest := [.ref (ad 0)]) (m_of l D aT ad (lnS (ss S 8 (nI 0)) (upd ((wm2 (S 0) j_31 f k).1) ((wm2 (S 0) j_31 f k).2) (nI 42)) ((wm2 (S 0) j_31 f k).2 + 1)) j_31 3 (by omega)) gT_of hd_of rfl ⟨Nat.le_of_ble_eq_true rfl, Nat.le_of_ble_eq_true rfl⟩ ⟨Nat.le_refl _, Nat.le_refl _⟩ hW hA rfl (Nat.le_of_ble_eq_true rfl) dX10_writeBranch_70 (fun r_70 H locs hq hW => ?_)
      subst hq
      refine md_callv C hml hl.1 (As := [.int (S 0 (29 + 4 * j_31 + 3))]) (rest := []) (m_writesWhole l D aT ad (ss S 8 (nI 0)) (upd ((wm2 (S 0) j_31 f k).1) ((wm2 (S 0) j_31 f k).2) (nI 42)) ((wm2 (S 0) j_31 f k).2 + 1) (by omega) (S 0 (29 + 4 * j_31 + 3))) gT_writesWhole hd_writesWhole rfl ⟨Nat.le_of_ble_eq_true rfl, Nat.le_of_ble_eq_true rfl⟩ ⟨Nat.le_refl _, Nat.le_refl _⟩ hW hA rfl (Nat.le_of_ble_eq_true rfl) dX10_writeBranch_73 (fun S_73 H locs hq hW => ?_)
      subst hq
      refine lv_aload_n hx hb dX10_writeBranch_76 rfl (lv_at hl 0 rfl) ?_
      refine lv_iconst (v := nI 0) hx hb dX10_writeBranch_77 (by decide) ?_
      refine lv_iload_n hx hb dX10_writeBranch_78 rfl (lv_at hl 2 rfl) ?_
      refine md_callg C hml hl.1 (As := [.int (nI 0), .int (nI j_31)]) (rest := []) (m_childFrom l D aT ad (lnS (ss S 8 (nI 0)) (wmF (S 0) j_31 f k).1 (wmF (S 0) j_31 f k).2) (nM (S 0)) (idM (S 0)) (prM (S 0)) (tnM (S 0)) hF 0 j_31 (Nat.zero_le _) hwn) gT_childFrom hd_childFrom rfl ⟨Nat.le_of_ble_eq_true rfl, Nat.le_of_ble_eq_true rfl⟩ ⟨Nat.le_refl _, Nat.le_refl _⟩ hW hA rfl (Nat.le_of_ble_eq_true rfl) dX10_writeBranch_79 (fun r_79 H locs hq hW => ?_)
      subst hq
      refine lv_istore (lv' := [(4, .int (oi (chF (prM (S 0)) j_31 (nM (S 0)) (nM (S 0))))), (0, .ref (ad 0)), (2, .int (nI j_13)), (3, .int (nI j_31))]) hx hb dX10_writeBranch_82 hl (by decide) rfl (fun ls hl => ?_)
      refine lv_iload hx hb dX10_writeBranch_84 (lv_at hl 0 rfl) ?_
      refine lv_iconst (v := (-1)) hx hb dX10_writeBranch_86 (by decide) ?_
      refine r_oi_eq hx hb (o := (chF (prM (S 0)) j_31 (nM (S 0)) (nM (S 0)))) (by intro q hq; have := chF_lt (Nat.le_refl _) hq; omega) (tgt := 102) dX10_writeBranch_87 (by decide) (fun c_87 => ?_) (fun j_87 c_87 => ?_)
      · have hl : lv_has ls 5 [(4, .int (-1)), (0, .ref (ad 0)), (2, .int (nI j_13)), (3, .int (nI j_31))] := by rw [c_87] at hl; exact hl
        have hz := kyR_next (w0 := j_31) hF.ok h12 (nM (S 0)) j_31 (wmF (S 0) j_31 f k).1 (wmF (S 0) j_31 f k).2 hwn hwa (by have := p13 (e := 11 - dep (prM (S 0)) j_31); omega)
        refine lv_aload_n hx hb dX10_writeBranch_102 rfl (lv_at hl 1 rfl) ?_
        refine lv_iload_n hx hb dX10_writeBranch_103 rfl (lv_at hl 3 rfl) ?_
        refine lv_iload_n hx hb dX10_writeBranch_104 rfl (lv_at hl 2 rfl) ?_
        refine md_calli C hml hl.1 (As := [.int (nI j_31), .int (nI j_13)]) (rest := []) (m_next l D aT ad (ss S 8 (nI 0)) (nM (S 0)) (idM (S 0)) (prM (S 0)) (tnM (S 0)) hF j_31 j_13 hwn hq0 hwa (wmF (S 0) j_31 f k).1 (wmF (S 0) j_31 f k).2 (by omega)) gT_next hd_next rfl ⟨Nat.le_of_ble_eq_true rfl, Nat.le_of_ble_eq_true rfl⟩ ⟨Nat.le_refl _, Nat.le_refl _⟩ hW hA rfl (Nat.le_of_ble_eq_true rfl) dX10_writeBranch_105 (fun r_105 S_105 H locs hq hW => ?_)
        obtain ⟨rfl, rfl⟩ := hq
        refine lv_istore_n (lv' := [(3, .int (oi ((nxF (prM (S 0)) (nM (S 0)) j_13 (nM (S 0)) j_31 (wmF (S 0) j_31 f k).1 (wmF (S 0) j_31 f k).2).1))), (4, .int (-1)), (0, .ref (ad 0)), (2, .int (nI j_13))]) hx hb dX10_writeBranch_108 rfl hl (by decide) rfl (fun ls hl => ?_)
        refine lv_goto (tgt := 29) hx hb dX10_writeBranch_109 (by decide) ?_
        exact ih_29 ((nxF (prM (S 0)) (nM (S 0)) j_13 (nM (S 0)) j_31 (wmF (S 0) j_31 f k).1 (wmF (S 0) j_31 f k).2).1, (nxF (prM (S 0)) (nM (S 0)) j_13 (nM (S 0)) j_31 (wmF (S 0) j_31 f k).1 (wmF (S 0) j_31 f k).2).2.1, (nxF (prM (S 0)) (nM (S 0)) j_13 (nM (S 0)) j_31 (wmF (S 0) j_31 f k).1 (wmF (S 0) j_31 f k).2).2.2, (d - 1)) _ _ _ (by dsimp only; omega) ⟨_, rfl, lv_sub hl [2, 3, 0] rfl, hW, ⟨by rw [← hR, show d = d - 1 + 1 by omega, brF_n c_87]; rfl, by have := hz.1; dsimp only; omega, fun w2 hw2 => by have z := hz.2 w2 hw2; have hmu := muB_lt z.2.1 z.1; exact ⟨z.2.1, z.2.2.1, by have := z.2.2.2; dsimp only; omega, by dsimp only; omega⟩⟩⟩
      · have hl : lv_has ls 5 [(4, .int (nI j_87)), (0, .ref (ad 0)), (2, .int (nI j_13)), (3, .int (nI j_31))] := by rw [c_87] at hl; exact hl
        have hc := chF_lt (Nat.le_refl _) c_87
        have hmu := muB_lt hc.1 (kyR_child hF.ok hc.1 hc.2.2)
        have hdp := dep_some hF.ok hc.1 hc.2.2
        refine lv_aload_n hx hb dX10_writeBranch_90 rfl (lv_at hl 1 rfl) ?_
        refine lv_bipush (v := nI 40) hx hb dX10_writeBranch_91 (by decide) ?_
        refine md_callv C hml hl.1 (As := [.int (nI 40)]) (rest := []) (m_sign l D aT ad (ss S 8 (nI 0)) ((wmF (S 0) j_31 f k).1) ((wmF (S 0) j_31 f k).2) (by omega) (nI 40)) gT_sign hd_sign rfl ⟨Nat.le_of_ble_eq_true rfl, Nat.le_of_ble_eq_true rfl⟩ ⟨Nat.le_refl _, Nat.le_refl _⟩ hW hA rfl (Nat.le_of_ble_eq_true rfl) dX10_writeBranch_93 (fun S_93 H locs hq hW => ?_)
        subst hq
        refine lv_iload hx hb dX10_writeBranch_96 (lv_at hl 0 rfl) ?_
        refine lv_istore_n (lv' := [(3, .int (nI j_87)), (4, .int (nI j_87)), (0, .ref (ad 0)), (2, .int (nI j_13))]) hx hb dX10_writeBranch_98 rfl hl (by decide) rfl (fun ls hl => ?_)
        refine lv_goto (tgt := 109) hx hb dX10_writeBranch_99 (by decide) ?_
        refine lv_goto (tgt := 29) hx hb dX10_writeBranch_109 (by decide) ?_
        exact ih_29 ((some j_87), (upd ((wmF (S 0) j_31 f k).1) ((wmF (S 0) j_31 f k).2) (nI 40)), ((wmF (S 0) j_31 f k).2 + 1), (d - 1)) _ _ _ (by dsimp only; omega) ⟨_, rfl, lv_sub hl [2, 3, 0] rfl, hW, ⟨by rw [← hR, show d = d - 1 + 1 by omega, brF_c c_87]; rfl, by dsimp only; omega, fun w2 hw2 => by obtain rfl := Option.some.inj hw2; exact ⟨hc.1, anc_dn hF.ok hc.1 hc.2.2 hwa, by dsimp only; omega, by dsimp only; omega⟩⟩⟩
  · have hl : lv_has ls 5 [(2, .int (-1)), (0, .ref (ad 0)), (1, .int x)] := by rw [c_13] at hl; exact hl
    refine lv_aload_n hx hb dX10_writeBranch_16 rfl (lv_at hl 1 rfl) ?_
    refine lv_iconst (v := nI 1) hx hb dX10_writeBranch_17 (by decide) ?_
    refine md_calli C hml hl.1 (As := [.int (nI 1)]) (rest := []) (m_throwing l D aT ad (ss S 8 (nI 0)) 1) gT_throwing hd_throwing rfl ⟨Nat.le_of_ble_eq_true rfl, Nat.le_of_ble_eq_true rfl⟩ ⟨Nat.le_refl _, Nat.le_refl _⟩ hW hA rfl (Nat.le_of_ble_eq_true rfl) dX10_writeBranch_18 (fun r_18 S_18 H locs hq hW => ?_)
    obtain ⟨rfl, rfl⟩ := hq
    exact md_iret C hr hlocks rfl hW (Or.inl ⟨c_13, rfl, ss_ss _ _ _ _⟩) dX10_writeBranch_21
