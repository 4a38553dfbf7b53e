/-! how many motions stand in a branch -/
def sN (f : Nat → Nat) : Nat → Nat
  | 0 => 0
  | n + 1 => sN f n + f n
theorem sN_le {f g : Nat → Nat} : ∀ n, (∀ k, k < n → f k ≤ g k) → sN f n ≤ sN g n
  | 0, _ => Nat.le_refl _
  | n + 1, h => Nat.add_le_add (sN_le n (fun k hk => h k (by omega))) (h n (by omega))
theorem sN_eq {f g : Nat → Nat} : ∀ n, (∀ k, k < n → f k = g k) → sN f n = sN g n
  | 0, _ => rfl
  | n + 1, h => by rw [sN, sN, sN_eq n (fun k hk => h k (by omega)), h n (by omega)]
theorem sN_0 {f : Nat → Nat} : ∀ n, (∀ k, k < n → f k = 0) → sN f n = 0
  | 0, _ => rfl
  | n + 1, h => by rw [sN, sN_0 n (fun k hk => h k (by omega)), h n (by omega)]
theorem sN_add {f g : Nat → Nat} : ∀ n, sN (fun k => f k + g k) n = sN f n + sN g n
  | 0 => rfl
  | n + 1 => by rw [sN, sN, sN, sN_add n]; omega
theorem sN_one {x i : Nat} : ∀ n, sN (fun k => if k = i then x else 0) n = if i < n then x else 0
  | 0 => rfl
  | n + 1 => by
    rw [sN, sN_one n]
    by_cases h : n = i
    · subst h; rw [if_neg (by omega), if_pos rfl, if_pos (by omega)]; omega
    · rw [if_neg h]
      by_cases h2 : i < n
      · rw [if_pos h2, if_pos (by omega)]; rfl
      · rw [if_neg h2, if_neg (by omega)]
theorem sN_1 : ∀ n, sN (fun _ => 1) n = n
  | 0 => rfl
  | n + 1 => by rw [sN, sN_1 n]
theorem sN_swap {f : Nat → Nat → Nat} {m : Nat} : ∀ n, sN (fun k => sN (fun j => f j k) m) n = sN (fun j => sN (fun k => f j k) n) m
  | 0 => (sN_0 m (fun _ _ => rfl)).symm
  | n + 1 => by
    rw [sN, sN_swap n, ← sN_add]
    rfl
theorem sN_mono {f : Nat → Nat} {a b : Nat} (h : a ≤ b) : sN f a ≤ sN f b := by
  induction b with
  | zero => rw [show a = 0 by omega]; exact Nat.le_refl _
  | succ b ih =>
    by_cases e : a = b + 1
    · subst e; exact Nat.le_refl _
    · exact Nat.le_trans (ih (by omega)) (Nat.le_add_right _ _)
def ancN (pr : Nat → Option Nat) (i : Nat) : Nat → Nat → Nat
  | 0, k => if k = i then 1 else 0
  | f + 1, k => if k = i then 1 else match pr k with
    | none => 0
    | some q => ancN pr i f q
section ANC
variable {pr : Nat → Option Nat} {nm : Nat}
theorem anc_fu (hp : ∀ k q, k < nm → pr k = some q → q < k) (i : Nat) : ∀ f k, k ≤ f → k < nm → ancN pr i f k = ancN pr i (f + 1) k := by
  intro f
  induction f with
  | zero =>
    intro k hk hn
    obtain rfl : k = 0 := by omega
    rw [ancN, ancN]
    by_cases h : 0 = i
    · rw [if_pos h, if_pos h]
    · rw [if_neg h, if_neg h]
      cases e : pr 0 with
      | none => rfl
      | some q => exact absurd (hp 0 q hn e) (by omega)
  | succ f ih =>
    intro k hk hn
    rw [ancN, ancN]
    by_cases h : k = i
    · rw [if_pos h, if_pos h]
    · rw [if_neg h, if_neg h]
      cases e : pr k with
      | none => rfl
      | some q =>
        have := hp k q hn e
        exact ih q (by omega) (by omega)
/-- 1 where i stands on the way from k to the root -/
def anN (pr : Nat → Option Nat) (nm i k : Nat) : Nat := ancN pr i nm k
theorem an_i {i : Nat} : anN pr nm i i = 1 := by
  unfold anN
  cases nm <;> simp [ancN]
theorem an_n {i k : Nat} (hn : k < nm) (h : k ≠ i) (e : pr k = none) : anN pr nm i k = 0 := by
  unfold anN
  obtain ⟨f, rfl⟩ : ∃ f, nm = f + 1 := ⟨nm - 1, by omega⟩
  rw [ancN, if_neg h, e]
theorem an_s (hp : ∀ k q, k < nm → pr k = some q → q < k) {i k q : Nat} (hn : k < nm) (h : k ≠ i) (e : pr k = some q) : anN pr nm i k = anN pr nm i q := by
  unfold anN
  obtain ⟨f, rfl⟩ : ∃ f, nm = f + 1 := ⟨nm - 1, by omega⟩
  have hq := hp k q hn e
  rw [ancN, if_neg h, e]
  exact anc_fu hp i f q (by omega) (by omega)
theorem an_gt (hp : ∀ k q, k < nm → pr k = some q → q < k) {i : Nat} : ∀ k, k < nm → k < i → anN pr nm i k = 0 := by
  intro k
  induction k using Nat.strongRecOn with
  | ind k ih =>
    intro hn hi
    cases e : pr k with
    | none => exact an_n hn (by omega) e
    | some q =>
      have hq := hp k q hn e
      rw [an_s hp hn (by omega) e]
      exact ih q hq (by omega) (by omega)
theorem an_1 (hp : ∀ k q, k < nm → pr k = some q → q < k) {i : Nat} : ∀ k, k < nm → anN pr nm i k ≤ 1 := by
  intro k
  induction k using Nat.strongRecOn with
  | ind k ih =>
    intro hn
    by_cases h : k = i
    · subst h; rw [an_i]; exact Nat.le_refl _
    · cases e : pr k with
      | none => rw [an_n hn h e]; omega
      | some q =>
        have hq := hp k q hn e
        rw [an_s hp hn h e]
        exact ih q hq (by omega)
theorem an_k (hp : ∀ k q, k < nm → pr k = some q → q < k) {i : Nat} : ∀ k, k < nm → (if k = i then 1 else 0) + sN (fun j => if pr j = some i then anN pr nm j k else 0) nm ≤ anN pr nm i k := by
  intro k
  induction k using Nat.strongRecOn with
  | ind k ih =>
    intro hn
    by_cases h : k = i
    · subst h
      have h0 : sN (fun j => if pr j = some k then anN pr nm j k else 0) nm = 0 := sN_0 nm (fun j hj => by
        by_cases e : pr j = some k
        · rw [if_pos e]; exact an_gt hp k hn (hp j k hj e)
        · rw [if_neg e])
      rw [if_pos rfl, an_i, h0]
      exact Nat.le_refl _
    · rw [if_neg h]
      cases e : pr k with
      | none =>
        have h0 : sN (fun j => if pr j = some i then anN pr nm j k else 0) nm = 0 := sN_0 nm (fun j hj => by
          by_cases ej : pr j = some i
          · rw [if_pos ej]; exact an_n hn (fun ek => by subst ek; rw [e] at ej; cases ej) e
          · rw [if_neg ej])
        rw [an_n hn h e, h0]
        exact Nat.le_refl _
      | some q =>
        have hq := hp k q hn e
        have h9 := ih q hq (by omega)
        rw [an_s hp hn h e]
        refine Nat.le_trans ?_ h9
        have es : sN (fun j => if pr j = some i then anN pr nm j k else 0) nm = sN (fun j => (if pr j = some i then anN pr nm j q else 0) + (if j = k then (if q = i then 1 else 0) else 0)) nm := by
          refine sN_eq nm (fun j hj => ?_)
          by_cases ej : j = k
          · subst ej
            rw [if_pos rfl, an_i, an_gt hp q (by omega) hq, e]
            by_cases eq : q = i
            · subst eq; simp
            · rw [if_neg eq, if_neg (fun z => eq (Option.some.inj z)), if_neg (fun z => eq (Option.some.inj z))]
          · rw [if_neg ej, an_s hp hn (fun z => ej z.symm) e]; rfl
        rw [es, sN_add, sN_one, if_pos hn]
        omega
/-- how many motions stand in the branch of i -/
def brN (pr : Nat → Option Nat) (nm i : Nat) : Nat := sN (fun k => anN pr nm i k) nm
theorem br_le (hp : ∀ k q, k < nm → pr k = some q → q < k) (i : Nat) : brN pr nm i ≤ nm := by
  have h := sN_le nm (fun k hk => an_1 hp (i := i) k hk)
  rw [sN_1] at h
  exact h
theorem br_ch (hp : ∀ k q, k < nm → pr k = some q → q < k) {i : Nat} (hi : i < nm) : 1 + sN (fun j => if pr j = some i then brN pr nm j else 0) nm ≤ brN pr nm i := by
  have h := sN_le nm (fun k hk => an_k hp (i := i) k hk)
  rw [sN_add, sN_one, if_pos hi, sN_swap] at h
  refine Nat.le_trans (Nat.le_of_eq ?_) h
  refine congrArg (1 + ·) (sN_eq nm (fun j hj => ?_))
  unfold brN
  by_cases e : pr j = some i
  · rw [if_pos e]; exact sN_eq nm (fun k _ => by rw [if_pos e])
  · rw [if_neg e]; exact (sN_0 nm (fun k _ => by rw [if_neg e])).symm
end ANC
theorem dg_7 {w : Nat} (h : w < 1048576) : sb_dg w ≤ 7 := by
  unfold sb_dg
  repeat (first | (split; omega) | omega)
  all_goals omega
theorem dg_1 {w : Nat} (h : w ≤ 9) : sb_dg w = 1 := by unfold sb_dg; rw [if_pos (by omega)]
theorem wt_any (x : Int32) : (∃ w, w < 2147483648 ∧ x = nI w) ∨ ∃ w, (0 < w ∧ w ≤ 2147483648) ∧ x = -nI w := by
  have h1 := Int32.le_toInt x
  have h2 := Int32.toInt_lt x
  by_cases h : 0 ≤ x.toInt
  · refine Or.inl ⟨x.toInt.toNat, by omega, ?_⟩
    apply Int32.toInt_inj.mp
    rw [nI_toInt (by omega)]
    omega
  · refine Or.inr ⟨(-x.toInt).toNat, ⟨by omega, by omega⟩, ?_⟩
    apply Int32.toInt_inj.mp
    rw [nz_T (by omega)]
    omega
theorem oi_lim {pr : Nat → Option Nat} {nm k : Nat} (h12 : nm ≤ 12) (hp : ParOk pr nm) (hk : k < nm) : ∀ j, pr k = some j → j < 2 ^ 31 := fun j hj => by
  have := hp k j hk hj
  omega
/-- the branches below i, up to place j -/
theorem br_ac {pr : Nat → Option Nat} {nm i : Nat} (hp : ParOk pr nm) (hi : i < nm) : ∃ ac : Nat → Nat, 1 + ac nm ≤ brN pr nm i ∧ (∀ j, pr j = some i → ac (j + 1) = ac j + brN pr nm j) ∧ (∀ j, pr j ≠ some i → ac (j + 1) = ac j) ∧ (∀ j, j ≤ nm → ac j ≤ ac nm) ∧ (∀ j, j < nm → 1 ≤ brN pr nm j) :=
  ⟨sN (fun j => if pr j = some i then brN pr nm j else 0), br_ch (fun k q h => hp k q h) hi, fun j h => by rw [sN, if_pos h], fun j h => by rw [sN, if_neg h]; rfl, fun j h => sN_mono h, fun j h => by have := br_ch (fun k q h => hp k q h) h; omega⟩
theorem wp_nat {x : Int32} {b : Nat} (hb : b < 2 ^ 31) (h1 : ¬ x < 0) (h2 : x < nI b) : ∃ v, v < b ∧ x = nI v := by
  rcases wt_any x with ⟨w, hw, rfl⟩ | ⟨w, hw, rfl⟩
  · exact ⟨w, (nI_ltI hw hb).mp h2, rfl⟩
  · exact absurd (nz_g hw.1 hw.2) h1
def WpC (dd d : Nat) : Prop := ∀ (l : Launch) (_ : l.stackTraces = false) (D : va_G) (aT : Nat → ClassId) (a5 : Nat) (a6 : Nat) (a7 : Nat) (a8 : Nat) (a9 : Nat) (fI : Nat → Int32) (fN : Nat → Int32) (fW : Nat → Int32) (fP : Nat → Int32) (nm : Nat) (nx : Int32) (idn : Nat → Nat) (pr : Nat → Option Nat) (tn : Nat → Nat) (hO : MoC fI fN fP nm idn pr tn) (o0 : Nat) (ov : Nat) (cn : Nat) (cp : Nat) (fO : Nat → Int32) (mb : Int32) (hfit : sb_Fit fO) (hcn : cn ≤ cp) (hcp : cp ≤ 4000) (i : Nat) (hi : i < nm) (hq : cn + 23 * brN pr nm i ≤ 280), CxG l yX9_writePart cX9_writePart 6 none (10 + d) (8 * brN pr nm i - 1) (1124 * brN pr nm i) (300 + 25 * d) D aT [.ref a5, .int (nI i), .int (nI (dd)), .ref o0] [(a5, .inr (8, [.ref a6, .ref a7, .ref a8, .ref a9, .int (nI nm), .int nx])), (a6, .inl (aT 0, 12, .inl fI)), (a7, .inl (aT 0, 12, .inl fN)), (a8, .inl (aT 0, 12, .inl fW)), (a9, .inl (aT 0, 12, .inl fP)), (o0, .inr (1, [.ref ov, .int (nI 0), .int mb, .int (nI cn)])), (ov, .inl (aT 4, cp, .inl fO))] (qV D aT (fun W1 => ∃ (c2 p2 ov2 : Nat) (f2 : Nat → Int32), (sb_Fit f2 ∧ c2 ≤ p2 ∧ cp ≤ p2 ∧ p2 ≤ max cp 562 ∧ c2 + 1 ≤ cn + 23 * brN pr nm i) ∧ W1 = [(a5, .inr (8, [.ref a6, .ref a7, .ref a8, .ref a9, .int (nI nm), .int nx])), (a6, .inl (aT 0, 12, .inl fI)), (a7, .inl (aT 0, 12, .inl fN)), (a8, .inl (aT 0, 12, .inl fW)), (a9, .inl (aT 0, 12, .inl fP)), (o0, .inr (1, [.ref ov2, .int (nI 0), .int mb, .int (nI c2)])), (ov2, .inl (aT 4, p2, .inl f2))])) (fun _ _ => False)
theorem dX9_writePart_0 : decode cX9_writePart 0 = .ok (.iload_n 2, 1) := by decide +kernel
theorem dX9_writePart_1 : decode cX9_writePart 1 = .ok (.bipush 12, 2) := by decide +kernel
theorem dX9_writePart_3 : decode cX9_writePart 3 = .ok (.if_icmp .lt 4, 3) := by decide +kernel
theorem dX9_writePart_6 : decode cX9_writePart 6 = .ok (.return_, 1) := by decide +kernel
theorem dX9_writePart_7 : decode cX9_writePart 7 = .ok (.aload_n 3, 1) := by decide +kernel
theorem dX9_writePart_8 : decode cX9_writePart 8 = .ok (.aload_n 0, 1) := by decide +kernel
theorem dX9_writePart_9 : decode cX9_writePart 9 = .ok (.getfield 150, 3) := by decide +kernel
theorem dX9_writePart_12 : decode cX9_writePart 12 = .ok (.iload_n 1, 1) := by decide +kernel
theorem dX9_writePart_13 : decode cX9_writePart 13 = .ok (.iaload, 1) := by decide +kernel
theorem dX9_writePart_14 : decode cX9_writePart 14 = .ok (.invokevirtual 359, 3) := by decide +kernel
theorem dX9_writePart_17 : decode cX9_writePart 17 = .ok (.pop, 1) := by decide +kernel
theorem dX9_writePart_18 : decode cX9_writePart 18 = .ok (.aload_n 3, 1) := by decide +kernel
theorem dX9_writePart_19 : decode cX9_writePart 19 = .ok (.bipush 58, 2) := by decide +kernel
theorem dX9_writePart_21 : decode cX9_writePart 21 = .ok (.invokevirtual 363, 3) := by decide +kernel
theorem dX9_writePart_24 : decode cX9_writePart 24 = .ok (.pop, 1) := by decide +kernel
theorem dX9_writePart_25 : decode cX9_writePart 25 = .ok (.aload_n 3, 1) := by decide +kernel
theorem dX9_writePart_26 : decode cX9_writePart 26 = .ok (.aload_n 0, 1) := by decide +kernel
theorem dX9_writePart_27 : decode cX9_writePart 27 = .ok (.getfield 136, 3) := by decide +kernel
theorem dX9_writePart_30 : decode cX9_writePart 30 = .ok (.iload_n 1, 1) := by decide +kernel
theorem dX9_writePart_31 : decode cX9_writePart 31 = .ok (.iaload, 1) := by decide +kernel
theorem dX9_writePart_32 : decode cX9_writePart 32 = .ok (.invokevirtual 359, 3) := by decide +kernel
theorem dX9_writePart_35 : decode cX9_writePart 35 = .ok (.pop, 1) := by decide +kernel
theorem dX9_writePart_36 : decode cX9_writePart 36 = .ok (.aload_n 3, 1) := by decide +kernel
theorem dX9_writePart_37 : decode cX9_writePart 37 = .ok (.bipush 42, 2) := by decide +kernel
theorem dX9_writePart_39 : decode cX9_writePart 39 = .ok (.invokevirtual 363, 3) := by decide +kernel
theorem dX9_writePart_42 : decode cX9_writePart 42 = .ok (.pop, 1) := by decide +kernel
theorem dX9_writePart_43 : decode cX9_writePart 43 = .ok (.aload_n 3, 1) := by decide +kernel
theorem dX9_writePart_44 : decode cX9_writePart 44 = .ok (.aload_n 0, 1) := by decide +kernel
theorem dX9_writePart_45 : decode cX9_writePart 45 = .ok (.getfield 153, 3) := by decide +kernel
theorem dX9_writePart_48 : decode cX9_writePart 48 = .ok (.iload_n 1, 1) := by decide +kernel
theorem dX9_writePart_49 : decode cX9_writePart 49 = .ok (.iaload, 1) := by decide +kernel
theorem dX9_writePart_50 : decode cX9_writePart 50 = .ok (.invokevirtual 359, 3) := by decide +kernel
theorem dX9_writePart_53 : decode cX9_writePart 53 = .ok (.pop, 1) := by decide +kernel
theorem dX9_writePart_54 : decode cX9_writePart 54 = .ok (.bipush 40, 2) := by decide +kernel
theorem dX9_writePart_56 : decode cX9_writePart 56 = .ok (.istore 4, 2) := by decide +kernel
theorem dX9_writePart_58 : decode cX9_writePart 58 = .ok (.iload_n 1, 1) := by decide +kernel
theorem dX9_writePart_59 : decode cX9_writePart 59 = .ok (.iconst 1, 1) := by decide +kernel
theorem dX9_writePart_60 : decode cX9_writePart 60 = .ok (.iadd, 1) := by decide +kernel
theorem dX9_writePart_61 : decode cX9_writePart 61 = .ok (.istore 5, 2) := by decide +kernel
theorem dX9_writePart_63 : decode cX9_writePart 63 = .ok (.iload 5, 2) := by decide +kernel
theorem dX9_writePart_65 : decode cX9_writePart 65 = .ok (.aload_n 0, 1) := by decide +kernel
theorem dX9_writePart_66 : decode cX9_writePart 66 = .ok (.getfield 146, 3) := by decide +kernel
theorem dX9_writePart_69 : decode cX9_writePart 69 = .ok (.if_icmp .ge 41, 3) := by decide +kernel
theorem dX9_writePart_72 : decode cX9_writePart 72 = .ok (.aload_n 0, 1) := by decide +kernel
theorem dX9_writePart_73 : decode cX9_writePart 73 = .ok (.getfield 156, 3) := by decide +kernel
theorem dX9_writePart_76 : decode cX9_writePart 76 = .ok (.iload 5, 2) := by decide +kernel
theorem dX9_writePart_78 : decode cX9_writePart 78 = .ok (.iaload, 1) := by decide +kernel
theorem dX9_writePart_79 : decode cX9_writePart 79 = .ok (.iload_n 1, 1) := by decide +kernel
theorem dX9_writePart_80 : decode cX9_writePart 80 = .ok (.if_icmp .ne 24, 3) := by decide +kernel
theorem dX9_writePart_83 : decode cX9_writePart 83 = .ok (.aload_n 3, 1) := by decide +kernel
theorem dX9_writePart_84 : decode cX9_writePart 84 = .ok (.iload 4, 2) := by decide +kernel
theorem dX9_writePart_86 : decode cX9_writePart 86 = .ok (.invokevirtual 363, 3) := by decide +kernel
theorem dX9_writePart_89 : decode cX9_writePart 89 = .ok (.pop, 1) := by decide +kernel
theorem dX9_writePart_90 : decode cX9_writePart 90 = .ok (.aload_n 0, 1) := by decide +kernel
theorem dX9_writePart_91 : decode cX9_writePart 91 = .ok (.iload 5, 2) := by decide +kernel
theorem dX9_writePart_93 : decode cX9_writePart 93 = .ok (.iload_n 2, 1) := by decide +kernel
theorem dX9_writePart_94 : decode cX9_writePart 94 = .ok (.iconst 1, 1) := by decide +kernel
theorem dX9_writePart_95 : decode cX9_writePart 95 = .ok (.iadd, 1) := by decide +kernel
theorem dX9_writePart_96 : decode cX9_writePart 96 = .ok (.aload_n 3, 1) := by decide +kernel
theorem dX9_writePart_97 : decode cX9_writePart 97 = .ok (.invokestatic 293, 3) := by decide +kernel
theorem dX9_writePart_100 : decode cX9_writePart 100 = .ok (.bipush 44, 2) := by decide +kernel
theorem dX9_writePart_102 : decode cX9_writePart 102 = .ok (.istore 4, 2) := by decide +kernel
theorem dX9_writePart_104 : decode cX9_writePart 104 = .ok (.iinc 5 1, 3) := by decide +kernel
theorem dX9_writePart_107 : decode cX9_writePart 107 = .ok (.goto (-44), 3) := by decide +kernel
theorem dX9_writePart_110 : decode cX9_writePart 110 = .ok (.iload 4, 2) := by decide +kernel
theorem dX9_writePart_112 : decode cX9_writePart 112 = .ok (.bipush 44, 2) := by decide +kernel
theorem dX9_writePart_114 : decode cX9_writePart 114 = .ok (.if_icmp .ne 10, 3) := by decide +kernel
theorem dX9_writePart_117 : decode cX9_writePart 117 = .ok (.aload_n 3, 1) := by decide +kernel
theorem dX9_writePart_118 : decode cX9_writePart 118 = .ok (.bipush 41, 2) := by decide +kernel
theorem dX9_writePart_120 : decode cX9_writePart 120 = .ok (.invokevirtual 363, 3) := by decide +kernel
theorem dX9_writePart_123 : decode cX9_writePart 123 = .ok (.pop, 1) := by decide +kernel
theorem dX9_writePart_124 : decode cX9_writePart 124 = .ok (.return_, 1) := by decide +kernel
theorem gV_X9_J4_append_bf812_359 : GoodIn gw (wsV RX9 359 RJ4 yJ4_append_bf812 (Cond.code yJ4_append_bf812 cJ4_append_bf812 2 (some (.object "java/lang/StringBuilder")) :: gw)) := gdV gw_1564 gw_1443 gw_1444 gw_78 gw_1445
theorem hV_J4_append_bf812 : yJ4_append_bf812.cls = RJ4 ∧ yJ4_append_bf812.cls ≠ "java/lang/invoke/MethodHandle" ∧ yJ4_append_bf812.cls ≠ "java/lang/invoke/VarHandle" ∧ (parseMethodDescriptor yJ4_append_bf812.desc).map (fun d => d.parameters.length) = some 1 := ⟨rfl, by decide +kernel, by decide +kernel, by decide +kernel⟩
theorem gV_X9_J4_append_cf468_363 : GoodIn gw (wsV RX9 363 RJ4 yJ4_append_cf468 (Cond.code yJ4_append_cf468 cJ4_append_cf468 2 (some (.object "java/lang/StringBuilder")) :: gw)) := gdV gw_1565 gw_1566 gw_1567 gw_78 gw_1568
theorem hV_J4_append_cf468 : yJ4_append_cf468.cls = RJ4 ∧ yJ4_append_cf468.cls ≠ "java/lang/invoke/MethodHandle" ∧ yJ4_append_cf468.cls ≠ "java/lang/invoke/VarHandle" ∧ (parseMethodDescriptor yJ4_append_cf468.desc).map (fun d => d.parameters.length) = some 1 := ⟨rfl, by decide +kernel, by decide +kernel, by decide +kernel⟩
theorem gS_X9_X9_writePart_293 : GoodIn gw (va_wsS RX9 293 yX9_writePart (Cond.code yX9_writePart cX9_writePart 6 (none) :: gw)) := gdS2 gw_1561 gw_1562 gw_67 gw_1563
theorem hS_X9_writePart : yX9_writePart.cls ≠ "java/lang/invoke/MethodHandle" ∧ yX9_writePart.cls ≠ "java/lang/invoke/VarHandle" ∧ (parseMethodDescriptor yX9_writePart.desc).map (fun d => d.parameters.length) = some 4 := ⟨by decide +kernel, by decide +kernel, by decide +kernel⟩
set_option maxHeartbeats 2000000 in
set_option maxRecDepth 20000 in
theorem k_wpS (l : Launch) (hfl : l.stackTraces = false) (D : va_G) (aT : Nat → ClassId) (dd : Nat) (dq : Nat) (h2 : dd < 12) (hrec : WpC (dd + 1) dq) (a5 : Nat) (a6 : Nat) (a7 : Nat) (a8 : Nat) (a9 : Nat) (fI : Nat → Int32) (fN : Nat → Int32) (fW : Nat → Int32) (fP : Nat → Int32) (nm : Nat) (nx : Int32) (idn : Nat → Nat) (pr : Nat → Option Nat) (tn : Nat → Nat) (hO : MoC fI fN fP nm idn pr tn) (o0 : Nat) (ov : Nat) (cn : Nat) (cp : Nat) (fO : Nat → Int32) (mb : Int32) (hfit : sb_Fit fO) (hcn : cn ≤ cp) (hcp : cp ≤ 4000) (i : Nat) (hi : i < nm) (hq : cn + 23 * brN pr nm i ≤ 280) : CxG l yX9_writePart cX9_writePart 6 none (10 + (dq + 1)) (8 * brN pr nm i - 1) (1124 * brN pr nm i) (300 + 25 * (dq + 1)) D aT [.ref a5, .int (nI i), .int (nI dd), .ref o0] [(a5, .inr (8, [.ref a6, .ref a7, .ref a8, .ref a9, .int (nI nm), .int nx])), (a6, .inl (aT 0, 12, .inl fI)), (a7, .inl (aT 0, 12, .inl fN)), (a8, .inl (aT 0, 12, .inl fW)), (a9, .inl (aT 0, 12, .inl fP)), (o0, .inr (1, [.ref ov, .int (nI 0), .int mb, .int (nI cn)])), (ov, .inl (aT 4, cp, .inl fO))] (qV D aT (fun W1 => ∃ (c2 p2 ov2 : Nat) (f2 : Nat → Int32), (sb_Fit f2 ∧ c2 ≤ p2 ∧ cp ≤ p2 ∧ p2 ≤ max cp 562 ∧ c2 + 1 ≤ cn + 23 * brN pr nm i) ∧ W1 = [(a5, .inr (8, [.ref a6, .ref a7, .ref a8, .ref a9, .int (nI nm), .int nx])), (a6, .inl (aT 0, 12, .inl fI)), (a7, .inl (aT 0, 12, .inl fN)), (a8, .inl (aT 0, 12, .inl fW)), (a9, .inl (aT 0, 12, .inl fP)), (o0, .inr (1, [.ref ov2, .int (nI 0), .int mb, .int (nI c2)])), (ov2, .inl (aT 4, p2, .inl f2))])) (fun _ _ => False) := by
  have h12 := hO.1
  have hpk := hO.2.2.2.1
  have hid := dg_7 (hO.2.1 i hi).2
  have hid1 := sb_dg_in (idn i)
  have htn := dg_1 (hO.2.2.2.2.2 i hi).2
  obtain ⟨ac, hT, haS, haN, haM, hb1⟩ := br_ac hpk hi
  have hbi := hb1 i hi
  have haI := haM (i + 1) (by omega)
  refine CxG.of RX9 (by decide +kernel) rfl (Nat.le_of_ble_eq_true rfl) ?_
  intro p e s m below meth c A ls C hml hl hA hr hlocks hex hnm hZ hW
  have hl : lv_has ls 6 [(0, .ref a5), (1, .int (nI i)), (2, .int (nI dd)), (3, .ref o0)] := hl
  have hx := C.1
  have hb := C.2.1
  refine lv_iload_n hx hb dX9_writePart_0 rfl (lv_at hl 2 rfl) ?_
  refine lv_bipush (v := nI 12) hx hb dX9_writePart_1 (by decide) ?_
  refine r_ltN hx hb (a := dd) (b := 12) (by omega) (by omega) (tgt := 7) dX9_writePart_3 (by decide) (fun c_3 => ?_) (fun c_3 => ?_)
  · refine lv_aload_n hx hb dX9_writePart_7 rfl (lv_at hl 3 rfl) ?_
    refine lv_aload_n hx hb dX9_writePart_8 rfl (lv_at hl 0 rfl) ?_
    refine cx_getN C hZ hW 0 0 rfl rfl (by decide) inX5 nw_149 rfl rfl dX9_writePart_9 ?_
    refine lv_iload_n hx hb dX9_writePart_12 rfl (lv_at hl 1 rfl) ?_
    refine cx_ald C hW 1 0 (j := i) rfl rfl rfl (by omega) (by decide) dX9_writePart_13 ?_
    refine r_eq (y := (nI (idn i))) ((hO.2.1 i (by first | assumption | omega)).1) ?_
    have hg17 := gcp_f cp (cn + sb_dg (idn i))
    refine cx_callr (Wr := [(a5, .inr (8, [.ref a6, .ref a7, .ref a8, .ref a9, .int (nI nm), .int nx])), (a6, .inl (aT 0, 12, .inl fI)), (a7, .inl (aT 0, 12, .inl fN)), (a8, .inl (aT 0, 12, .inl fW)), (a9, .inl (aT 0, 12, .inl fP))]) (cx_runV C hml hl.1 hZ hW hA (As := [.int (nI (idn i))]) (rest := []) (k_appendI4_0 l hfl D aT o0 ov cn cp fO mb (by assumption) (by omega) (by omega) (idn i) (by have := (hO.2.1 i hi).2; omega) (by omega)) gV_X9_J4_append_bf812_359 hV_J4_append_bf812 rfl ⟨by first | omega | (dsimp only [cxR]; omega), by first | omega | (dsimp only [cxR]; omega)⟩ ⟨by first | omega | (dsimp only [cxR]; omega), by first | omega | (dsimp only [cxR]; omega)⟩ [5, 6] rfl (by decide) 5 1 rfl rfl rfl rfl (Nat.le_of_ble_eq_true rfl) dX9_writePart_14) hW hA [5, 6] [0, 1, 2, 3, 4] rfl rfl (by decide) (by decide) (fun _ _ _ _ _ _ h9 => h9.elim) (fun r_14 W_14 H locs hq hW => ?_)
    obtain ⟨ov_14, f_14, rfl, hf_14, rfl⟩ := hq
    have hW : CxB D [(a5, .inr (8, [.ref a6, .ref a7, .ref a8, .ref a9, .int (nI nm), .int nx])), (a6, .inl (aT 0, 12, .inl fI)), (a7, .inl (aT 0, 12, .inl fN)), (a8, .inl (aT 0, 12, .inl fW)), (a9, .inl (aT 0, 12, .inl fP)), (o0, .inr (1, [.ref ov_14, .int (nI 0), .int mb, .int (nI (cn + sb_dg (idn i)))])), (ov_14, .inl (aT 4, (gcp cp (cn + sb_dg (idn i))), .inl f_14))] A s.heap H _ := hW
    obtain ⟨u17, eu17⟩ : ∃ x, x = gcp cp (cn + sb_dg (idn i)) := ⟨_, rfl⟩
    rw [← eu17] at hW hg17
    have hW : CxB D [(a5, .inr (8, [.ref a6, .ref a7, .ref a8, .ref a9, .int (nI nm), .int nx])), (a6, .inl (aT 0, 12, .inl fI)), (a7, .inl (aT 0, 12, .inl fN)), (a8, .inl (aT 0, 12, .inl fW)), (a9, .inl (aT 0, 12, .inl fP)), (o0, .inr (1, [.ref ov_14, .int (nI 0), .int mb, .int (nI (cn + sb_dg (idn i)))])), (ov_14, .inl (aT 4, u17, .inl f_14))] A s.heap H _ := hW
    refine lv_pop hx hb dX9_writePart_17 rfl ?_
    refine lv_aload_n hx hb dX9_writePart_18 rfl (lv_at hl 3 rfl) ?_
    refine lv_bipush (v := nI 58) hx hb dX9_writePart_19 (by decide) ?_
    have hg24 := gcp_f u17 ((cn + sb_dg (idn i)) + 1)
    refine cx_callr (Wr := [(a5, .inr (8, [.ref a6, .ref a7, .ref a8, .ref a9, .int (nI nm), .int nx])), (a6, .inl (aT 0, 12, .inl fI)), (a7, .inl (aT 0, 12, .inl fN)), (a8, .inl (aT 0, 12, .inl fW)), (a9, .inl (aT 0, 12, .inl fP))]) (cx_runV C hml hl.1 hZ hW hA (As := [.int (nI 58)]) (rest := []) (k_appendC4 l hfl D aT o0 ov_14 (cn + sb_dg (idn i)) u17 f_14 mb (by assumption) (by omega) (by omega) 58 (by first | decide | omega) (by omega)) gV_X9_J4_append_cf468_363 hV_J4_append_cf468 rfl ⟨by first | omega | (dsimp only [cxR]; omega), by first | omega | (dsimp only [cxR]; omega)⟩ ⟨by first | omega | (dsimp only [cxR]; omega), by first | omega | (dsimp only [cxR]; omega)⟩ [5, 6] rfl (by decide) 5 1 rfl rfl rfl rfl (Nat.le_of_ble_eq_true rfl) dX9_writePart_21) hW hA [5, 6] [0, 1, 2, 3, 4] rfl rfl (by decide) (by decide) (fun _ _ _ _ _ _ h9 => h9.elim) (fun r_21 W_21 H locs hq hW => ?_)
    obtain ⟨ov_21, f_21, rfl, hf_21, rfl⟩ := hq
    have hW : CxB D [(a5, .inr (8, [.ref a6, .ref a7, .ref a8, .ref a9, .int (nI nm), .int nx])), (a6, .inl (aT 0, 12, .inl fI)), (a7, .inl (aT 0, 12, .inl fN)), (a8, .inl (aT 0, 12, .inl fW)), (a9, .inl (aT 0, 12, .inl fP)), (o0, .inr (1, [.ref ov_21, .int (nI 0), .int mb, .int (nI ((cn + sb_dg (idn i)) + 1))])), (ov_21, .inl (aT 4, (gcp u17 ((cn + sb_dg (idn i)) + 1)), .inl f_21))] A s.heap H _ := hW
    obtain ⟨u24, eu24⟩ : ∃ x, x = gcp u17 ((cn + sb_dg (idn i)) + 1) := ⟨_, rfl⟩
    rw [← eu24] at hW hg24
    have hW : CxB D [(a5, .inr (8, [.ref a6, .ref a7, .ref a8, .ref a9, .int (nI nm), .int nx])), (a6, .inl (aT 0, 12, .inl fI)), (a7, .inl (aT 0, 12, .inl fN)), (a8, .inl (aT 0, 12, .inl fW)), (a9, .inl (aT 0, 12, .inl fP)), (o0, .inr (1, [.ref ov_21, .int (nI 0), .int mb, .int (nI ((cn + sb_dg (idn i)) + 1))])), (ov_21, .inl (aT 4, u24, .inl f_21))] A s.heap H _ := hW
    refine lv_pop hx hb dX9_writePart_24 rfl ?_
    refine lv_aload_n hx hb dX9_writePart_25 rfl (lv_at hl 3 rfl) ?_
    refine lv_aload_n hx hb dX9_writePart_26 rfl (lv_at hl 0 rfl) ?_
    refine cx_getN C hZ hW 0 1 rfl rfl (by decide) inX5 nw_152 rfl rfl dX9_writePart_27 ?_
    refine lv_iload_n hx hb dX9_writePart_30 rfl (lv_at hl 1 rfl) ?_
    refine cx_ald C hW 2 0 (j := i) rfl rfl rfl (by omega) (by decide) dX9_writePart_31 ?_
    refine r_eq (y := (nI (tn i))) ((hO.2.2.2.2.2 i (by first | assumption | omega)).1) ?_
    have hg35 := gcp_f u24 (((cn + sb_dg (idn i)) + 1) + sb_dg (tn i))
    refine cx_callr (Wr := [(a5, .inr (8, [.ref a6, .ref a7, .ref a8, .ref a9, .int (nI nm), .int nx])), (a6, .inl (aT 0, 12, .inl fI)), (a7, .inl (aT 0, 12, .inl fN)), (a8, .inl (aT 0, 12, .inl fW)), (a9, .inl (aT 0, 12, .inl fP))]) (cx_runV C hml hl.1 hZ hW hA (As := [.int (nI (tn i))]) (rest := []) (k_appendI4_0 l hfl D aT o0 ov_21 ((cn + sb_dg (idn i)) + 1) u24 f_21 mb (by assumption) (by omega) (by omega) (tn i) (by have := (hO.2.2.2.2.2 i hi).2; omega) (by omega)) gV_X9_J4_append_bf812_359 hV_J4_append_bf812 rfl ⟨by first | omega | (dsimp only [cxR]; omega), by first | omega | (dsimp only [cxR]; omega)⟩ ⟨by first | omega | (dsimp only [cxR]; omega), by first | omega | (dsimp only [cxR]; omega)⟩ [5, 6] rfl (by decide) 5 1 rfl rfl rfl rfl (Nat.le_of_ble_eq_true rfl) dX9_writePart_32) hW hA [5, 6] [0, 1, 2, 3, 4] rfl rfl (by decide) (by decide) (fun _ _ _ _ _ _ h9 => h9.elim) (fun r_32 W_32 H locs hq hW => ?_)
    obtain ⟨ov_32, f_32, rfl, hf_32, rfl⟩ := hq
    have hW : CxB D [(a5, .inr (8, [.ref a6, .ref a7, .ref a8, .ref a9, .int (nI nm), .int nx])), (a6, .inl (aT 0, 12, .inl fI)), (a7, .inl (aT 0, 12, .inl fN)), (a8, .inl (aT 0, 12, .inl fW)), (a9, .inl (aT 0, 12, .inl fP)), (o0, .inr (1, [.ref ov_32, .int (nI 0), .int mb, .int (nI (((cn + sb_dg (idn i)) + 1) + sb_dg (tn i)))])), (ov_32, .inl (aT 4, (gcp u24 (((cn + sb_dg (idn i)) + 1) + sb_dg (tn i))), .inl f_32))] A s.heap H _ := hW
    obtain ⟨u35, eu35⟩ : ∃ x, x = gcp u24 (((cn + sb_dg (idn i)) + 1) + sb_dg (tn i)) := ⟨_, rfl⟩
    rw [← eu35] at hW hg35
    have hW : CxB D [(a5, .inr (8, [.ref a6, .ref a7, .ref a8, .ref a9, .int (nI nm), .int nx])), (a6, .inl (aT 0, 12, .inl fI)), (a7, .inl (aT 0, 12, .inl fN)), (a8, .inl (aT 0, 12, .inl fW)), (a9, .inl (aT 0, 12, .inl fP)), (o0, .inr (1, [.ref ov_32, .int (nI 0), .int mb, .int (nI (((cn + sb_dg (idn i)) + 1) + sb_dg (tn i)))])), (ov_32, .inl (aT 4, u35, .inl f_32))] A s.heap H _ := hW
    refine lv_pop hx hb dX9_writePart_35 rfl ?_
    refine lv_aload_n hx hb dX9_writePart_36 rfl (lv_at hl 3 rfl) ?_
    refine lv_bipush (v := nI 42) hx hb dX9_writePart_37 (by decide) ?_
    have hg42 := gcp_f u35 ((((cn + sb_dg (idn i)) + 1) + sb_dg (tn i)) + 1)
    refine cx_callr (Wr := [(a5, .inr (8, [.ref a6, .ref a7, .ref a8, .ref a9, .int (nI nm), .int nx])), (a6, .inl (aT 0, 12, .inl fI)), (a7, .inl (aT 0, 12, .inl fN)), (a8, .inl (aT 0, 12, .inl fW)), (a9, .inl (aT 0, 12, .inl fP))]) (cx_runV C hml hl.1 hZ hW hA (As := [.int (nI 42)]) (rest := []) (k_appendC4 l hfl D aT o0 ov_32 (((cn + sb_dg (idn i)) + 1) + sb_dg (tn i)) u35 f_32 mb (by assumption) (by omega) (by omega) 42 (by first | decide | omega) (by omega)) gV_X9_J4_append_cf468_363 hV_J4_append_cf468 rfl ⟨by first | omega | (dsimp only [cxR]; omega), by first | omega | (dsimp only [cxR]; omega)⟩ ⟨by first | omega | (dsimp only [cxR]; omega), by first | omega | (dsimp only [cxR]; omega)⟩ [5, 6] rfl (by decide) 5 1 rfl rfl rfl rfl (Nat.le_of_ble_eq_true rfl) dX9_writePart_39) hW hA [5, 6] [0, 1, 2, 3, 4] rfl rfl (by decide) (by decide) (fun _ _ _ _ _ _ h9 => h9.elim) (fun r_39 W_39 H locs hq hW => ?_)
    obtain ⟨ov_39, f_39, rfl, hf_39, rfl⟩ := hq
    have hW : CxB D [(a5, .inr (8, [.ref a6, .ref a7, .ref a8, .ref a9, .int (nI nm), .int nx])), (a6, .inl (aT 0, 12, .inl fI)), (a7, .inl (aT 0, 12, .inl fN)), (a8, .inl (aT 0, 12, .inl fW)), (a9, .inl (aT 0, 12, .inl fP)), (o0, .inr (1, [.ref ov_39, .int (nI 0), .int mb, .int (nI ((((cn + sb_dg (idn i)) + 1) + sb_dg (tn i)) + 1))])), (ov_39, .inl (aT 4, (gcp u35 ((((cn + sb_dg (idn i)) + 1) + sb_dg (tn i)) + 1)), .inl f_39))] A s.heap H _ := hW
    obtain ⟨u42, eu42⟩ : ∃ x, x = gcp u35 ((((cn + sb_dg (idn i)) + 1) + sb_dg (tn i)) + 1) := ⟨_, rfl⟩
    rw [← eu42] at hW hg42
    have hW : CxB D [(a5, .inr (8, [.ref a6, .ref a7, .ref a8, .ref a9, .int (nI nm), .int nx])), (a6, .inl (aT 0, 12, .inl fI)), (a7, .inl (aT 0, 12, .inl fN)), (a8, .inl (aT 0, 12, .inl fW)), (a9, .inl (aT 0, 12, .inl fP)), (o0, .inr (1, [.ref ov_39, .int (nI 0), .int mb, .int (nI ((((cn + sb_dg (idn i)) + 1) + sb_dg (tn i)) + 1))])), (ov_39, .inl (aT 4, u42, .inl f_39))] A s.heap H _ := hW
    refine lv_pop hx hb dX9_writePart_42 rfl ?_
    refine lv_aload_n hx hb dX9_writePart_43 rfl (lv_at hl 3 rfl) ?_
    refine lv_aload_n hx hb dX9_writePart_44 rfl (lv_at hl 0 rfl) ?_
    refine cx_getN C hZ hW 0 2 rfl rfl (by decide) inX5 nw_156 rfl rfl dX9_writePart_45 ?_
    refine lv_iload_n hx hb dX9_writePart_48 rfl (lv_at hl 1 rfl) ?_
    refine cx_ald C hW 3 0 (j := i) rfl rfl rfl (by omega) (by decide) dX9_writePart_49 ?_
    rcases wt_any (fW i) with ⟨w9, hw9, e9⟩ | ⟨w9, hw9, e9⟩
    · refine r_eq (y := (nI w9)) e9 ?_
      have hd9 := sb_dg_in w9
      have hg53 := gcp_f u42 (((((cn + sb_dg (idn i)) + 1) + sb_dg (tn i)) + 1) + sb_dg w9)
      refine cx_callr (Wr := [(a5, .inr (8, [.ref a6, .ref a7, .ref a8, .ref a9, .int (nI nm), .int nx])), (a6, .inl (aT 0, 12, .inl fI)), (a7, .inl (aT 0, 12, .inl fN)), (a8, .inl (aT 0, 12, .inl fW)), (a9, .inl (aT 0, 12, .inl fP))]) (cx_runV C hml hl.1 hZ hW hA (As := [.int (nI w9)]) (rest := []) (k_appendI4_0 l hfl D aT o0 ov_39 ((((cn + sb_dg (idn i)) + 1) + sb_dg (tn i)) + 1) u42 f_39 mb (by assumption) (by omega) (by omega) w9 hw9 (by omega)) gV_X9_J4_append_bf812_359 hV_J4_append_bf812 rfl ⟨by first | omega | (dsimp only [cxR]; omega), by first | omega | (dsimp only [cxR]; omega)⟩ ⟨by first | omega | (dsimp only [cxR]; omega), by first | omega | (dsimp only [cxR]; omega)⟩ [5, 6] rfl (by decide) 5 1 rfl rfl rfl rfl (Nat.le_of_ble_eq_true rfl) dX9_writePart_50) hW hA [5, 6] [0, 1, 2, 3, 4] rfl rfl (by decide) (by decide) (fun _ _ _ _ _ _ h9 => h9.elim) (fun r_50 W_50 H locs hq hW => ?_)
      obtain ⟨ov_50, f_50, rfl, hf_50, rfl⟩ := hq
      have hW : CxB D [(a5, .inr (8, [.ref a6, .ref a7, .ref a8, .ref a9, .int (nI nm), .int nx])), (a6, .inl (aT 0, 12, .inl fI)), (a7, .inl (aT 0, 12, .inl fN)), (a8, .inl (aT 0, 12, .inl fW)), (a9, .inl (aT 0, 12, .inl fP)), (o0, .inr (1, [.ref ov_50, .int (nI 0), .int mb, .int (nI (((((cn + sb_dg (idn i)) + 1) + sb_dg (tn i)) + 1) + sb_dg w9))])), (ov_50, .inl (aT 4, (gcp u42 (((((cn + sb_dg (idn i)) + 1) + sb_dg (tn i)) + 1) + sb_dg w9)), .inl f_50))] A s.heap H _ := hW
      obtain ⟨u53, eu53⟩ : ∃ x, x = gcp u42 (((((cn + sb_dg (idn i)) + 1) + sb_dg (tn i)) + 1) + sb_dg w9) := ⟨_, rfl⟩
      rw [← eu53] at hW hg53
      have hW : CxB D [(a5, .inr (8, [.ref a6, .ref a7, .ref a8, .ref a9, .int (nI nm), .int nx])), (a6, .inl (aT 0, 12, .inl fI)), (a7, .inl (aT 0, 12, .inl fN)), (a8, .inl (aT 0, 12, .inl fW)), (a9, .inl (aT 0, 12, .inl fP)), (o0, .inr (1, [.ref ov_50, .int (nI 0), .int mb, .int (nI (((((cn + sb_dg (idn i)) + 1) + sb_dg (tn i)) + 1) + sb_dg w9))])), (ov_50, .inl (aT 4, u53, .inl f_50))] A s.heap H _ := hW
      refine lv_pop hx hb dX9_writePart_53 rfl ?_
      refine lv_bipush (v := nI 40) hx hb dX9_writePart_54 (by decide) ?_
      refine lv_istore (lv' := [(4, .int (nI 40)), (0, .ref a5), (1, .int (nI i)), (2, .int (nI dd)), (3, .ref o0)]) hx hb dX9_writePart_56 hl (by decide) rfl (fun ls hl => ?_)
      refine lv_iload_n hx hb dX9_writePart_58 rfl (lv_at hl 2 rfl) ?_
      refine lv_iconst (v := nI 1) hx hb dX9_writePart_59 (by decide) ?_
      refine r_iaddN hx hb (a := i) (b := 1) dX9_writePart_60 ?_
      refine lv_istore (lv' := [(5, .int (nI (i + 1))), (4, .int (nI 40)), (0, .ref a5), (1, .int (nI i)), (2, .int (nI dd)), (3, .ref o0)]) hx hb dX9_writePart_61 hl (by decide) rfl (fun ls hl => ?_)
      refine W.widen (k := 5 + 8 * ac (i + 1)) (n := 2 * u53 - 2 * cp + 1124 * ac (i + 1)) (by omega) (by omega) ?_
      refine W_loopC (σ := Nat × Nat × Nat × Nat × (Nat → Int32) × Nat) (fun z_ => nm - z_.1) (fun z_ => 5 + 8 * ac z_.1) (fun z_ => 2 * z_.2.2.1 - 2 * cp + 1124 * ac z_.1) (fun z_ H locs g => ∃ ls, g = F0 m 63 ls [] ∧ lv_has ls 6 [(0, .ref a5), (1, .int (nI i)), (2, .int (nI dd)), (3, .ref o0), (4, .int (nI z_.2.2.2.2.2)), (5, .int (nI z_.1))] ∧ CxB D [(a5, .inr (8, [.ref a6, .ref a7, .ref a8, .ref a9, .int (nI nm), .int nx])), (a6, .inl (aT 0, 12, .inl fI)), (a7, .inl (aT 0, 12, .inl fN)), (a8, .inl (aT 0, 12, .inl fW)), (a9, .inl (aT 0, 12, .inl fP)), (o0, .inr (1, [.ref z_.2.2.2.1, .int (nI 0), .int mb, .int (nI z_.2.1)])), (z_.2.2.2.1, .inl (aT 4, z_.2.2.1, .inl z_.2.2.2.2.1))] A s.heap H locs ∧ ((i < z_.1 ∧ z_.1 ≤ nm) ∧ (z_.2.2.2.2.2 = 40 ∨ z_.2.2.2.2.2 = 44) ∧ sb_Fit z_.2.2.2.2.1 ∧ z_.2.1 ≤ z_.2.2.1 ∧ cp ≤ z_.2.2.1 ∧ z_.2.2.1 ≤ max cp 562 ∧ z_.2.1 + 2 ≤ cn + 23 + 23 * ac z_.1)) ?_ ((i + 1), ((((cn + sb_dg (idn i)) + 1) + sb_dg (tn i)) + 1) + sb_dg w9, u53, ov_50, f_50, 40) _ ⟨_, rfl, lv_sub hl [2, 3, 4, 5, 1, 0] rfl, hW, ⟨by dsimp only; omega, Or.inl rfl, (by assumption), (by dsimp only; omega), (by dsimp only; omega), (by dsimp only; omega), (by dsimp only; omega)⟩⟩
      clear hW hl
      rintro ⟨j, cz, pz, oz, fz, sz⟩ H locs g ⟨ls, rfl, hl, hW, ⟨⟨hij, hjn⟩, hsp, hfz, hcz, hpz, hpq, hcl⟩⟩ ih_63
      dsimp only at hl hW hij hjn hsp hfz hcz hpz hpq hcl ⊢
      refine lv_iload hx hb dX9_writePart_63 (lv_at hl 5 rfl) ?_
      refine lv_aload_n hx hb dX9_writePart_65 rfl (lv_at hl 0 rfl) ?_
      refine cx_getN C hZ hW 0 4 rfl rfl (by decide) inX5 nw_164 rfl rfl dX9_writePart_66 ?_
      refine r_geN hx hb (a := j) (b := nm) (by omega) (by omega) (tgt := 110) dX9_writePart_69 (by decide) (fun c_69 => ?_) (fun c_69 => ?_)
      · have haj0 := haM j (by omega)
        have ejn : j = nm := by omega
        refine lv_iload hx hb dX9_writePart_110 (lv_at hl 4 rfl) ?_
        refine lv_bipush (v := nI 44) hx hb dX9_writePart_112 (by decide) ?_
        refine r_neN hx hb (a := sz) (b := 44) (by omega) (by omega) (tgt := 124) dX9_writePart_114 (by decide) (fun c_114 => ?_) (fun c_114 => ?_)
        · exact cx_vret C hr hlocks hW ⟨by first | omega | (dsimp only [cxR]; omega), by first | omega | (dsimp only [cxR]; omega)⟩ (⟨_, _, _, _, ⟨by assumption, by omega, by omega, by omega, by omega⟩, rfl⟩) dX9_writePart_124
        · refine lv_aload_n hx hb dX9_writePart_117 rfl (lv_at hl 3 rfl) ?_
          refine lv_bipush (v := nI 41) hx hb dX9_writePart_118 (by decide) ?_
          have hg123 := gcp_f pz (cz + 1)
          refine cx_callr (Wr := [(a5, .inr (8, [.ref a6, .ref a7, .ref a8, .ref a9, .int (nI nm), .int nx])), (a6, .inl (aT 0, 12, .inl fI)), (a7, .inl (aT 0, 12, .inl fN)), (a8, .inl (aT 0, 12, .inl fW)), (a9, .inl (aT 0, 12, .inl fP))]) (cx_runV C hml hl.1 hZ hW hA (As := [.int (nI 41)]) (rest := []) (k_appendC4 l hfl D aT o0 oz cz pz fz mb (by assumption) (by omega) (by omega) 41 (by first | decide | omega) (by omega)) gV_X9_J4_append_cf468_363 hV_J4_append_cf468 rfl ⟨by first | omega | (dsimp only [cxR]; omega), by first | omega | (dsimp only [cxR]; omega)⟩ ⟨by first | omega | (dsimp only [cxR]; omega), by first | omega | (dsimp only [cxR]; omega)⟩ [5, 6] rfl (by decide) 5 1 rfl rfl rfl rfl (Nat.le_of_ble_eq_true rfl) dX9_writePart_120) hW hA [5, 6] [0, 1, 2, 3, 4] rfl rfl (by decide) (by decide) (fun _ _ _ _ _ _ h9 => h9.elim) (fun r_120 W_120 H locs hq hW => ?_)
          obtain ⟨ov_120, f_120, rfl, hf_120, rfl⟩ := hq
          have hW : CxB D [(a5, .inr (8, [.ref a6, .ref a7, .ref a8, .ref a9, .int (nI nm), .int nx])), (a6, .inl (aT 0, 12, .inl fI)), (a7, .inl (aT 0, 12, .inl fN)), (a8, .inl (aT 0, 12, .inl fW)), (a9, .inl (aT 0, 12, .inl fP)), (o0, .inr (1, [.ref ov_120, .int (nI 0), .int mb, .int (nI (cz + 1))])), (ov_120, .inl (aT 4, (gcp pz (cz + 1)), .inl f_120))] A s.heap H _ := hW
          obtain ⟨u123, eu123⟩ : ∃ x, x = gcp pz (cz + 1) := ⟨_, rfl⟩
          rw [← eu123] at hW hg123
          have hW : CxB D [(a5, .inr (8, [.ref a6, .ref a7, .ref a8, .ref a9, .int (nI nm), .int nx])), (a6, .inl (aT 0, 12, .inl fI)), (a7, .inl (aT 0, 12, .inl fN)), (a8, .inl (aT 0, 12, .inl fW)), (a9, .inl (aT 0, 12, .inl fP)), (o0, .inr (1, [.ref ov_120, .int (nI 0), .int mb, .int (nI (cz + 1))])), (ov_120, .inl (aT 4, u123, .inl f_120))] A s.heap H _ := hW
          refine lv_pop hx hb dX9_writePart_123 rfl ?_
          exact cx_vret C hr hlocks hW ⟨by first | omega | (dsimp only [cxR]; omega), by first | omega | (dsimp only [cxR]; omega)⟩ (⟨_, _, _, _, ⟨by assumption, by omega, by omega, by omega, by omega⟩, rfl⟩) dX9_writePart_124
      · have haj0 := haM j (by omega)
        refine lv_aload_n hx hb dX9_writePart_72 rfl (lv_at hl 0 rfl) ?_
        refine cx_getN C hZ hW 0 3 rfl rfl (by decide) inX5 nw_160 rfl rfl dX9_writePart_73 ?_
        refine lv_iload hx hb dX9_writePart_76 (lv_at hl 5 rfl) ?_
        refine cx_ald C hW 4 0 (j := j) rfl rfl rfl (by omega) (by decide) dX9_writePart_78 ?_
        refine r_eq (y := (oi (pr j))) (hO.2.2.1 j (by first | assumption | omega)) ?_
        refine lv_iload_n hx hb dX9_writePart_79 rfl (lv_at hl 1 rfl) ?_
        refine r_on_ne hx hb (o := (pr j)) (q := i) (oi_lim h12 hpk (by omega)) (by omega) (tgt := 104) dX9_writePart_80 (by decide) (fun c_80 => ?_) (fun c_80 => ?_)
        · have haj := haN j c_80
          refine lv_iinc (v := (nI (j + 1))) (lv' := [(5, .int (nI (j + 1))), (0, .ref a5), (1, .int (nI i)), (2, .int (nI dd)), (3, .ref o0), (4, .int (nI sz))]) hx hb dX9_writePart_104 hl (k := 5) rfl (nI_1 _) (by decide) rfl (fun ls hl => ?_)
          refine lv_goto (tgt := 63) hx hb dX9_writePart_107 (by decide) ?_
          refine W.widen (k := 5 + 8 * ac (j + 1)) (n := 2 * pz - 2 * cp + 1124 * ac (j + 1)) (by omega) (by omega) ?_
          exact ih_63 ((j + 1), cz, pz, oz, fz, sz) _ _ _ (by first | omega | (dsimp only; omega)) ⟨_, rfl, lv_sub hl [1, 2, 3, 4, 5, 0] rfl, hW, ⟨by dsimp only; omega, hsp, (by assumption), (by dsimp only; omega), (by dsimp only; omega), (by dsimp only; omega), (by dsimp only; omega)⟩⟩
        · have haj := haS j c_80
          have haj2 := haM (j + 1) (by omega)
          have hbj := hb1 j (by omega)
          refine lv_aload_n hx hb dX9_writePart_83 rfl (lv_at hl 3 rfl) ?_
          refine lv_iload hx hb dX9_writePart_84 (lv_at hl 4 rfl) ?_
          have hg89 := gcp_f pz (cz + 1)
          refine cx_callr (Wr := [(a5, .inr (8, [.ref a6, .ref a7, .ref a8, .ref a9, .int (nI nm), .int nx])), (a6, .inl (aT 0, 12, .inl fI)), (a7, .inl (aT 0, 12, .inl fN)), (a8, .inl (aT 0, 12, .inl fW)), (a9, .inl (aT 0, 12, .inl fP))]) (cx_runV C hml hl.1 hZ hW hA (As := [.int (nI sz)]) (rest := []) (k_appendC4 l hfl D aT o0 oz cz pz fz mb (by assumption) (by omega) (by omega) sz (by first | decide | omega) (by omega)) gV_X9_J4_append_cf468_363 hV_J4_append_cf468 rfl ⟨by first | omega | (dsimp only [cxR]; omega), by first | omega | (dsimp only [cxR]; omega)⟩ ⟨by first | omega | (dsimp only [cxR]; omega), by first | omega | (dsimp only [cxR]; omega)⟩ [5, 6] rfl (by decide) 5 1 rfl rfl rfl rfl (Nat.le_of_ble_eq_true rfl) dX9_writePart_86) hW hA [5, 6] [0, 1, 2, 3, 4] rfl rfl (by decide) (by decide) (fun _ _ _ _ _ _ h9 => h9.elim) (fun r_86 W_86 H locs hq hW => ?_)
          obtain ⟨ov_86, f_86, rfl, hf_86, rfl⟩ := hq
          have hW : CxB D [(a5, .inr (8, [.ref a6, .ref a7, .ref a8, .ref a9, .int (nI nm), .int nx])), (a6, .inl (aT 0, 12, .inl fI)), (a7, .inl (aT 0, 12, .inl fN)), (a8, .inl (aT 0, 12, .inl fW)), (a9, .inl (aT 0, 12, .inl fP)), (o0, .inr (1, [.ref ov_86, .int (nI 0), .int mb, .int (nI (cz + 1))])), (ov_86, .inl (aT 4, (gcp pz (cz + 1)), .inl f_86))] A s.heap H _ := hW
          obtain ⟨u89, eu89⟩ : ∃ x, x = gcp pz (cz + 1) := ⟨_, rfl⟩
          rw [← eu89] at hW hg89
          have hW : CxB D [(a5, .inr (8, [.ref a6, .ref a7, .ref a8, .ref a9, .int (nI nm), .int nx])), (a6, .inl (aT 0, 12, .inl fI)), (a7, .inl (aT 0, 12, .inl fN)), (a8, .inl (aT 0, 12, .inl fW)), (a9, .inl (aT 0, 12, .inl fP)), (o0, .inr (1, [.ref ov_86, .int (nI 0), .int mb, .int (nI (cz + 1))])), (ov_86, .inl (aT 4, u89, .inl f_86))] A s.heap H _ := hW
          refine lv_pop hx hb dX9_writePart_89 rfl ?_
          refine lv_aload_n hx hb dX9_writePart_90 rfl (lv_at hl 0 rfl) ?_
          refine lv_iload hx hb dX9_writePart_91 (lv_at hl 5 rfl) ?_
          refine lv_iload_n hx hb dX9_writePart_93 rfl (lv_at hl 2 rfl) ?_
          refine lv_iconst (v := nI 1) hx hb dX9_writePart_94 (by decide) ?_
          refine r_iaddN hx hb (a := dd) (b := 1) dX9_writePart_95 ?_
          refine lv_aload_n hx hb dX9_writePart_96 rfl (lv_at hl 3 rfl) ?_
          refine cx_callv (Wr := []) (cx_runS C hml hl.1 hZ hW hA (As := [.ref a5, .int (nI j), .int (nI (dd + 1)), .ref o0]) (rest := []) (hrec l hfl D aT a5 a6 a7 a8 a9 fI fN fW fP nm nx idn pr tn hO o0 ov_86 (cz + 1) u89 f_86 mb (by assumption) (by omega) (by omega) j (by omega) (by omega)) gS_X9_X9_writePart_293 hS_X9_writePart rfl ⟨by first | omega | (dsimp only [cxR]; omega), by first | omega | (dsimp only [cxR]; omega)⟩ ⟨by first | omega | (dsimp only [cxR]; omega), by first | omega | (dsimp only [cxR]; omega)⟩ [0, 1, 2, 3, 4, 5, 6] rfl (by decide) rfl (Nat.le_of_ble_eq_true rfl) dX9_writePart_97) hW hA [0, 1, 2, 3, 4, 5, 6] [] rfl rfl (by decide) (by decide) (fun _ _ _ _ _ _ h9 => h9.elim) (fun W_97 H locs hq hW => ?_)
          obtain ⟨c2_97, p2_97, ov_97, f_97, ⟨hf_97, hcn_97, hcp_97, hcq_97, hcl_97⟩, rfl⟩ := hq
          have hW : CxB D [(a5, .inr (8, [.ref a6, .ref a7, .ref a8, .ref a9, .int (nI nm), .int nx])), (a6, .inl (aT 0, 12, .inl fI)), (a7, .inl (aT 0, 12, .inl fN)), (a8, .inl (aT 0, 12, .inl fW)), (a9, .inl (aT 0, 12, .inl fP)), (o0, .inr (1, [.ref ov_97, .int (nI 0), .int mb, .int (nI c2_97)])), (ov_97, .inl (aT 4, p2_97, .inl f_97))] A s.heap H _ := hW
          refine lv_bipush (v := nI 44) hx hb dX9_writePart_100 (by decide) ?_
          refine lv_istore (lv' := [(4, .int (nI 44)), (0, .ref a5), (1, .int (nI i)), (2, .int (nI dd)), (3, .ref o0), (5, .int (nI j))]) hx hb dX9_writePart_102 hl (by decide) rfl (fun ls hl => ?_)
          refine lv_iinc (v := (nI (j + 1))) (lv' := [(5, .int (nI (j + 1))), (4, .int (nI 44)), (0, .ref a5), (1, .int (nI i)), (2, .int (nI dd)), (3, .ref o0)]) hx hb dX9_writePart_104 hl (k := 5) rfl (nI_1 _) (by decide) rfl (fun ls hl => ?_)
          refine lv_goto (tgt := 63) hx hb dX9_writePart_107 (by decide) ?_
          refine W.widen (k := 5 + 8 * ac (j + 1)) (n := 2 * p2_97 - 2 * cp + 1124 * ac (j + 1)) (by omega) (by omega) ?_
          exact ih_63 ((j + 1), c2_97, p2_97, ov_97, f_97, 44) _ _ _ (by first | omega | (dsimp only; omega)) ⟨_, rfl, lv_sub hl [2, 3, 4, 5, 1, 0] rfl, hW, ⟨by dsimp only; omega, Or.inr rfl, (by assumption), (by dsimp only; omega), (by dsimp only; omega), (by dsimp only; omega), (by dsimp only; omega)⟩⟩
    · refine r_eq (y := (-nI w9)) e9 ?_
      have hd9 := sb_dg_in w9
      have hg53 := gcp_f u42 (((((cn + sb_dg (idn i)) + 1) + sb_dg (tn i)) + 1) + sb_dg w9 + 1)
      refine cx_callr (Wr := [(a5, .inr (8, [.ref a6, .ref a7, .ref a8, .ref a9, .int (nI nm), .int nx])), (a6, .inl (aT 0, 12, .inl fI)), (a7, .inl (aT 0, 12, .inl fN)), (a8, .inl (aT 0, 12, .inl fW)), (a9, .inl (aT 0, 12, .inl fP))]) (cx_runV C hml hl.1 hZ hW hA (As := [.int (-nI w9)]) (rest := []) (k_appendI4_1 l hfl D aT o0 ov_39 ((((cn + sb_dg (idn i)) + 1) + sb_dg (tn i)) + 1) u42 f_39 mb (by assumption) (by omega) (by omega) w9 hw9 (by omega)) gV_X9_J4_append_bf812_359 hV_J4_append_bf812 rfl ⟨by first | omega | (dsimp only [cxR]; omega), by first | omega | (dsimp only [cxR]; omega)⟩ ⟨by first | omega | (dsimp only [cxR]; omega), by first | omega | (dsimp only [cxR]; omega)⟩ [5, 6] rfl (by decide) 5 1 rfl rfl rfl rfl (Nat.le_of_ble_eq_true rfl) dX9_writePart_50) hW hA [5, 6] [0, 1, 2, 3, 4] rfl rfl (by decide) (by decide) (fun _ _ _ _ _ _ h9 => h9.elim) (fun r_50 W_50 H locs hq hW => ?_)
      obtain ⟨ov_50, f_50, rfl, hf_50, rfl⟩ := hq
      have hW : CxB D [(a5, .inr (8, [.ref a6, .ref a7, .ref a8, .ref a9, .int (nI nm), .int nx])), (a6, .inl (aT 0, 12, .inl fI)), (a7, .inl (aT 0, 12, .inl fN)), (a8, .inl (aT 0, 12, .inl fW)), (a9, .inl (aT 0, 12, .inl fP)), (o0, .inr (1, [.ref ov_50, .int (nI 0), .int mb, .int (nI (((((cn + sb_dg (idn i)) + 1) + sb_dg (tn i)) + 1) + sb_dg w9 + 1))])), (ov_50, .inl (aT 4, (gcp u42 (((((cn + sb_dg (idn i)) + 1) + sb_dg (tn i)) + 1) + sb_dg w9 + 1)), .inl f_50))] A s.heap H _ := hW
      obtain ⟨u53, eu53⟩ : ∃ x, x = gcp u42 (((((cn + sb_dg (idn i)) + 1) + sb_dg (tn i)) + 1) + sb_dg w9 + 1) := ⟨_, rfl⟩
      rw [← eu53] at hW hg53
      have hW : CxB D [(a5, .inr (8, [.ref a6, .ref a7, .ref a8, .ref a9, .int (nI nm), .int nx])), (a6, .inl (aT 0, 12, .inl fI)), (a7, .inl (aT 0, 12, .inl fN)), (a8, .inl (aT 0, 12, .inl fW)), (a9, .inl (aT 0, 12, .inl fP)), (o0, .inr (1, [.ref ov_50, .int (nI 0), .int mb, .int (nI (((((cn + sb_dg (idn i)) + 1) + sb_dg (tn i)) + 1) + sb_dg w9 + 1))])), (ov_50, .inl (aT 4, u53, .inl f_50))] A s.heap H _ := hW
      refine lv_pop hx hb dX9_writePart_53 rfl ?_
      refine lv_bipush (v := nI 40) hx hb dX9_writePart_54 (by decide) ?_
      refine lv_istore (lv' := [(4, .int (nI 40)), (0, .ref a5), (1, .int (nI i)), (2, .int (nI dd)), (3, .ref o0)]) hx hb dX9_writePart_56 hl (by decide) rfl (fun ls hl => ?_)
      refine lv_iload_n hx hb dX9_writePart_58 rfl (lv_at hl 2 rfl) ?_
      refine lv_iconst (v := nI 1) hx hb dX9_writePart_59 (by decide) ?_
      refine r_iaddN hx hb (a := i) (b := 1) dX9_writePart_60 ?_
      refine lv_istore (lv' := [(5, .int (nI (i + 1))), (4, .int (nI 40)), (0, .ref a5), (1, .int (nI i)), (2, .int (nI dd)), (3, .ref o0)]) hx hb dX9_writePart_61 hl (by decide) rfl (fun ls hl => ?_)
      refine W.widen (k := 5 + 8 * ac (i + 1)) (n := 2 * u53 - 2 * cp + 1124 * ac (i + 1)) (by omega) (by omega) ?_
      refine W_loopC (σ := Nat × Nat × Nat × Nat × (Nat → Int32) × Nat) (fun z_ => nm - z_.1) (fun z_ => 5 + 8 * ac z_.1) (fun z_ => 2 * z_.2.2.1 - 2 * cp + 1124 * ac z_.1) (fun z_ H locs g => ∃ ls, g = F0 m 63 ls [] ∧ lv_has ls 6 [(0, .ref a5), (1, .int (nI i)), (2, .int (nI dd)), (3, .ref o0), (4, .int (nI z_.2.2.2.2.2)), (5, .int (nI z_.1))] ∧ CxB D [(a5, .inr (8, [.ref a6, .ref a7, .ref a8, .ref a9, .int (nI nm), .int nx])), (a6, .inl (aT 0, 12, .inl fI)), (a7, .inl (aT 0, 12, .inl fN)), (a8, .inl (aT 0, 12, .inl fW)), (a9, .inl (aT 0, 12, .inl fP)), (o0, .inr (1, [.ref z_.2.2.2.1, .int (nI 0), .int mb, .int (nI z_.2.1)])), (z_.2.2.2.1, .inl (aT 4, z_.2.2.1, .inl z_.2.2.2.2.1))] A s.heap H locs ∧ ((i < z_.1 ∧ z_.1 ≤ nm) ∧ (z_.2.2.2.2.2 = 40 ∨ z_.2.2.2.2.2 = 44) ∧ sb_Fit z_.2.2.2.2.1 ∧ z_.2.1 ≤ z_.2.2.1 ∧ cp ≤ z_.2.2.1 ∧ z_.2.2.1 ≤ max cp 562 ∧ z_.2.1 + 2 ≤ cn + 23 + 23 * ac z_.1)) ?_ ((i + 1), ((((cn + sb_dg (idn i)) + 1) + sb_dg (tn i)) + 1) + sb_dg w9 + 1, u53, ov_50, f_50, 40) _ ⟨_, rfl, lv_sub hl [2, 3, 4, 5, 1, 0] rfl, hW, ⟨by dsimp only; omega, Or.inl rfl, (by assumption), (by dsimp only; omega), (by dsimp only; omega), (by dsimp only; omega), (by dsimp only; omega)⟩⟩
      clear hW hl
      rintro ⟨j, cz, pz, oz, fz, sz⟩ H locs g ⟨ls, rfl, hl, hW, ⟨⟨hij, hjn⟩, hsp, hfz, hcz, hpz, hpq, hcl⟩⟩ ih_63
      dsimp only at hl hW hij hjn hsp hfz hcz hpz hpq hcl ⊢
      refine lv_iload hx hb dX9_writePart_63 (lv_at hl 5 rfl) ?_
      refine lv_aload_n hx hb dX9_writePart_65 rfl (lv_at hl 0 rfl) ?_
      refine cx_getN C hZ hW 0 4 rfl rfl (by decide) inX5 nw_164 rfl rfl dX9_writePart_66 ?_
      refine r_geN hx hb (a := j) (b := nm) (by omega) (by omega) (tgt := 110) dX9_writePart_69 (by decide) (fun c_69 => ?_) (fun c_69 => ?_)
      · have haj0 := haM j (by omega)
        have ejn : j = nm := by omega
        refine lv_iload hx hb dX9_writePart_110 (lv_at hl 4 rfl) ?_
        refine lv_bipush (v := nI 44) hx hb dX9_writePart_112 (by decide) ?_
        refine r_neN hx hb (a := sz) (b := 44) (by omega) (by omega) (tgt := 124) dX9_writePart_114 (by decide) (fun c_114 => ?_) (fun c_114 => ?_)
        · exact cx_vret C hr hlocks hW ⟨by first | omega | (dsimp only [cxR]; omega), by first | omega | (dsimp only [cxR]; omega)⟩ (⟨_, _, _, _, ⟨by assumption, by omega, by omega, by omega, by omega⟩, rfl⟩) dX9_writePart_124
        · refine lv_aload_n hx hb dX9_writePart_117 rfl (lv_at hl 3 rfl) ?_
          refine lv_bipush (v := nI 41) hx hb dX9_writePart_118 (by decide) ?_
          have hg123 := gcp_f pz (cz + 1)
          refine cx_callr (Wr := [(a5, .inr (8, [.ref a6, .ref a7, .ref a8, .ref a9, .int (nI nm), .int nx])), (a6, .inl (aT 0, 12, .inl fI)), (a7, .inl (aT 0, 12, .inl fN)), (a8, .inl (aT 0, 12, .inl fW)), (a9, .inl (aT 0, 12, .inl fP))]) (cx_runV C hml hl.1 hZ hW hA (As := [.int (nI 41)]) (rest := []) (k_appendC4 l hfl D aT o0 oz cz pz fz mb (by assumption) (by omega) (by omega) 41 (by first | decide | omega) (by omega)) gV_X9_J4_append_cf468_363 hV_J4_append_cf468 rfl ⟨by first | omega | (dsimp only [cxR]; omega), by first | omega | (dsimp only [cxR]; omega)⟩ ⟨by first | omega | (dsimp only [cxR]; omega), by first | omega | (dsimp only [cxR]; omega)⟩ [5, 6] rfl (by decide) 5 1 rfl rfl rfl rfl (Nat.le_of_ble_eq_true rfl) dX9_writePart_120) hW hA [5, 6] [0, 1, 2, 3, 4] rfl rfl (by decide) (by decide) (fun _ _ _ _ _ _ h9 => h9.elim) (fun r_120 W_120 H locs hq hW => ?_)
          obtain ⟨ov_120, f_120, rfl, hf_120, rfl⟩ := hq
          have hW : CxB D [(a5, .inr (8, [.ref a6, .ref a7, .ref a8, .ref a9, .int (nI nm), .int nx])), (a6, .inl (aT 0, 12, .inl fI)), (a7, .inl (aT 0, 12, .inl fN)), (a8, .inl (aT 0, 12, .inl fW)), (a9, .inl (aT 0, 12, .inl fP)), (o0, .inr (1, [.ref ov_120, .int (nI 0), .int mb, .int (nI (cz + 1))])), (ov_120, .inl (aT 4, (gcp pz (cz + 1)), .inl f_120))] A s.heap H _ := hW
          obtain ⟨u123, eu123⟩ : ∃ x, x = gcp pz (cz + 1) := ⟨_, rfl⟩
          rw [← eu123] at hW hg123
          have hW : CxB D [(a5, .inr (8, [.ref a6, .ref a7, .ref a8, .ref a9, .int (nI nm), .int nx])), (a6, .inl (aT 0, 12, .inl fI)), (a7, .inl (aT 0, 12, .inl fN)), (a8, .inl (aT 0, 12, .inl fW)), (a9, .inl (aT 0, 12, .inl fP)), (o0, .inr (1, [.ref ov_120, .int (nI 0), .int mb, .int (nI (cz + 1))])), (ov_120, .inl (aT 4, u123, .inl f_120))] A s.heap H _ := hW
          refine lv_pop hx hb dX9_writePart_123 rfl ?_
          exact cx_vret C hr hlocks hW ⟨by first | omega | (dsimp only [cxR]; omega), by first | omega | (dsimp only [cxR]; omega)⟩ (⟨_, _, _, _, ⟨by assumption, by omega, by omega, by omega, by omega⟩, rfl⟩) dX9_writePart_124
      · have haj0 := haM j (by omega)
        refine lv_aload_n hx hb dX9_writePart_72 rfl (lv_at hl 0 rfl) ?_
        refine cx_getN C hZ hW 0 3 rfl rfl (by decide) inX5 nw_160 rfl rfl dX9_writePart_73 ?_
        refine lv_iload hx hb dX9_writePart_76 (lv_at hl 5 rfl) ?_
        refine cx_ald C hW 4 0 (j := j) rfl rfl rfl (by omega) (by decide) dX9_writePart_78 ?_
        refine r_eq (y := (oi (pr j))) (hO.2.2.1 j (by first | assumption | omega)) ?_
        refine lv_iload_n hx hb dX9_writePart_79 rfl (lv_at hl 1 rfl) ?_
        refine r_on_ne hx hb (o := (pr j)) (q := i) (oi_lim h12 hpk (by omega)) (by omega) (tgt := 104) dX9_writePart_80 (by decide) (fun c_80 => ?_) (fun c_80 => ?_)
        · have haj := haN j c_80
          refine lv_iinc (v := (nI (j + 1))) (lv' := [(5, .int (nI (j + 1))), (0, .ref a5), (1, .int (nI i)), (2, .int (nI dd)), (3, .ref o0), (4, .int (nI sz))]) hx hb dX9_writePart_104 hl (k := 5) rfl (nI_1 _) (by decide) rfl (fun ls hl => ?_)
          refine lv_goto (tgt := 63) hx hb dX9_writePart_107 (by decide) ?_
          refine W.widen (k := 5 + 8 * ac (j + 1)) (n := 2 * pz - 2 * cp + 1124 * ac (j + 1)) (by omega) (by omega) ?_
          exact ih_63 ((j + 1), cz, pz, oz, fz, sz) _ _ _ (by first | omega | (dsimp only; omega)) ⟨_, rfl, lv_sub hl [1, 2, 3, 4, 5, 0] rfl, hW, ⟨by dsimp only; omega, hsp, (by assumption), (by dsimp only; omega), (by dsimp only; omega), (by dsimp only; omega), (by dsimp only; omega)⟩⟩
        · have haj := haS j c_80
          have haj2 := haM (j + 1) (by omega)
          have hbj := hb1 j (by omega)
          refine lv_aload_n hx hb dX9_writePart_83 rfl (lv_at hl 3 rfl) ?_
          refine lv_iload hx hb dX9_writePart_84 (lv_at hl 4 rfl) ?_
          have hg89 := gcp_f pz (cz + 1)
          refine cx_callr (Wr := [(a5, .inr (8, [.ref a6, .ref a7, .ref a8, .ref a9, .int (nI nm), .int nx])), (a6, .inl (aT 0, 12, .inl fI)), (a7, .inl (aT 0, 12, .inl fN)), (a8, .inl (aT 0, 12, .inl fW)), (a9, .inl (aT 0, 12, .inl fP))]) (cx_runV C hml hl.1 hZ hW hA (As := [.int (nI sz)]) (rest := []) (k_appendC4 l hfl D aT o0 oz cz pz fz mb (by assumption) (by omega) (by omega) sz (by first | decide | omega) (by omega)) gV_X9_J4_append_cf468_363 hV_J4_append_cf468 rfl ⟨by first | omega | (dsimp only [cxR]; omega), by first | omega | (dsimp only [cxR]; omega)⟩ ⟨by first | omega | (dsimp only [cxR]; omega), by first | omega | (dsimp only [cxR]; omega)⟩ [5, 6] rfl (by decide) 5 1 rfl rfl rfl rfl (Nat.le_of_ble_eq_true rfl) dX9_writePart_86) hW hA [5, 6] [0, 1, 2, 3, 4] rfl rfl (by decide) (by decide) (fun _ _ _ _ _ _ h9 => h9.elim) (fun r_86 W_86 H locs hq hW => ?_)
          obtain ⟨ov_86, f_86, rfl, hf_86, rfl⟩ := hq
          have hW : CxB D [(a5, .inr (8, [.ref a6, .ref a7, .ref a8, .ref a9, .int (nI nm), .int nx])), (a6, .inl (aT 0, 12, .inl fI)), (a7, .inl (aT 0, 12, .inl fN)), (a8, .inl (aT 0, 12, .inl fW)), (a9, .inl (aT 0, 12, .inl fP)), (o0, .inr (1, [.ref ov_86, .int (nI 0), .int mb, .int (nI (cz + 1))])), (ov_86, .inl (aT 4, (gcp pz (cz + 1)), .inl f_86))] A s.heap H _ := hW
          obtain ⟨u89, eu89⟩ : ∃ x, x = gcp pz (cz + 1) := ⟨_, rfl⟩
          rw [← eu89] at hW hg89
          have hW : CxB D [(a5, .inr (8, [.ref a6, .ref a7, .ref a8, .ref a9, .int (nI nm), .int nx])), (a6, .inl (aT 0, 12, .inl fI)), (a7, .inl (aT 0, 12, .inl fN)), (a8, .inl (aT 0, 12, .inl fW)), (a9, .inl (aT 0, 12, .inl fP)), (o0, .inr (1, [.ref ov_86, .int (nI 0), .int mb, .int (nI (cz + 1))])), (ov_86, .inl (aT 4, u89, .inl f_86))] A s.heap H _ := hW
          refine lv_pop hx hb dX9_writePart_89 rfl ?_
          refine lv_aload_n hx hb dX9_writePart_90 rfl (lv_at hl 0 rfl) ?_
          refine lv_iload hx hb dX9_writePart_91 (lv_at hl 5 rfl) ?_
          refine lv_iload_n hx hb dX9_writePart_93 rfl (lv_at hl 2 rfl) ?_
          refine lv_iconst (v := nI 1) hx hb dX9_writePart_94 (by decide) ?_
          refine r_iaddN hx hb (a := dd) (b := 1) dX9_writePart_95 ?_
          refine lv_aload_n hx hb dX9_writePart_96 rfl (lv_at hl 3 rfl) ?_
          refine cx_callv (Wr := []) (cx_runS C hml hl.1 hZ hW hA (As := [.ref a5, .int (nI j), .int (nI (dd + 1)), .ref o0]) (rest := []) (hrec l hfl D aT a5 a6 a7 a8 a9 fI fN fW fP nm nx idn pr tn hO o0 ov_86 (cz + 1) u89 f_86 mb (by assumption) (by omega) (by omega) j (by omega) (by omega)) gS_X9_X9_writePart_293 hS_X9_writePart rfl ⟨by first | omega | (dsimp only [cxR]; omega), by first | omega | (dsimp only [cxR]; omega)⟩ ⟨by first | omega | (dsimp only [cxR]; omega), by first | omega | (dsimp only [cxR]; omega)⟩ [0, 1, 2, 3, 4, 5, 6] rfl (by decide) rfl (Nat.le_of_ble_eq_true rfl) dX9_writePart_97) hW hA [0, 1, 2, 3, 4, 5, 6] [] rfl rfl (by decide) (by decide) (fun _ _ _ _ _ _ h9 => h9.elim) (fun W_97 H locs hq hW => ?_)
          obtain ⟨c2_97, p2_97, ov_97, f_97, ⟨hf_97, hcn_97, hcp_97, hcq_97, hcl_97⟩, rfl⟩ := hq
          have hW : CxB D [(a5, .inr (8, [.ref a6, .ref a7, .ref a8, .ref a9, .int (nI nm), .int nx])), (a6, .inl (aT 0, 12, .inl fI)), (a7, .inl (aT 0, 12, .inl fN)), (a8, .inl (aT 0, 12, .inl fW)), (a9, .inl (aT 0, 12, .inl fP)), (o0, .inr (1, [.ref ov_97, .int (nI 0), .int mb, .int (nI c2_97)])), (ov_97, .inl (aT 4, p2_97, .inl f_97))] A s.heap H _ := hW
          refine lv_bipush (v := nI 44) hx hb dX9_writePart_100 (by decide) ?_
          refine lv_istore (lv' := [(4, .int (nI 44)), (0, .ref a5), (1, .int (nI i)), (2, .int (nI dd)), (3, .ref o0), (5, .int (nI j))]) hx hb dX9_writePart_102 hl (by decide) rfl (fun ls hl => ?_)
          refine lv_iinc (v := (nI (j + 1))) (lv' := [(5, .int (nI (j + 1))), (4, .int (nI 44)), (0, .ref a5), (1, .int (nI i)), (2, .int (nI dd)), (3, .ref o0)]) hx hb dX9_writePart_104 hl (k := 5) rfl (nI_1 _) (by decide) rfl (fun ls hl => ?_)
          refine lv_goto (tgt := 63) hx hb dX9_writePart_107 (by decide) ?_
          refine W.widen (k := 5 + 8 * ac (j + 1)) (n := 2 * p2_97 - 2 * cp + 1124 * ac (j + 1)) (by omega) (by omega) ?_
          exact ih_63 ((j + 1), c2_97, p2_97, ov_97, f_97, 44) _ _ _ (by first | omega | (dsimp only; omega)) ⟨_, rfl, lv_sub hl [2, 3, 4, 5, 1, 0] rfl, hW, ⟨by dsimp only; omega, Or.inr rfl, (by assumption), (by dsimp only; omega), (by dsimp only; omega), (by dsimp only; omega), (by dsimp only; omega)⟩⟩
  · exact absurd c_3 (by omega)
set_option maxHeartbeats 2000000 in
set_option maxRecDepth 20000 in
theorem k_wp0 (l : Launch) (hfl : l.stackTraces = false) (D : va_G) (aT : Nat → ClassId) (a5 : Nat) (a6 : Nat) (a7 : Nat) (a8 : Nat) (a9 : Nat) (fI : Nat → Int32) (fN : Nat → Int32) (fW : Nat → Int32) (fP : Nat → Int32) (nm : Nat) (nx : Int32) (idn : Nat → Nat) (pr : Nat → Option Nat) (tn : Nat → Nat) (hO : MoC fI fN fP nm idn pr tn) (o0 : Nat) (ov : Nat) (cn : Nat) (cp : Nat) (fO : Nat → Int32) (mb : Int32) (hfit : sb_Fit fO) (hcn : cn ≤ cp) (hcp : cp ≤ 4000) (i : Nat) (hi : i < nm) (hq : cn + 23 * brN pr nm i ≤ 280) : CxG l yX9_writePart cX9_writePart 6 none (10 + 0) (8 * brN pr nm i - 1) (1124 * brN pr nm i) (300 + 25 * 0) D aT [.ref a5, .int (nI i), .int (nI 12), .ref o0] [(a5, .inr (8, [.ref a6, .ref a7, .ref a8, .ref a9, .int (nI nm), .int nx])), (a6, .inl (aT 0, 12, .inl fI)), (a7, .inl (aT 0, 12, .inl fN)), (a8, .inl (aT 0, 12, .inl fW)), (a9, .inl (aT 0, 12, .inl fP)), (o0, .inr (1, [.ref ov, .int (nI 0), .int mb, .int (nI cn)])), (ov, .inl (aT 4, cp, .inl fO))] (qV D aT (fun W1 => ∃ (c2 p2 ov2 : Nat) (f2 : Nat → Int32), (sb_Fit f2 ∧ c2 ≤ p2 ∧ cp ≤ p2 ∧ p2 ≤ max cp 562 ∧ c2 + 1 ≤ cn + 23 * brN pr nm i) ∧ W1 = [(a5, .inr (8, [.ref a6, .ref a7, .ref a8, .ref a9, .int (nI nm), .int nx])), (a6, .inl (aT 0, 12, .inl fI)), (a7, .inl (aT 0, 12, .inl fN)), (a8, .inl (aT 0, 12, .inl fW)), (a9, .inl (aT 0, 12, .inl fP)), (o0, .inr (1, [.ref ov2, .int (nI 0), .int mb, .int (nI c2)])), (ov2, .inl (aT 4, p2, .inl f2))])) (fun _ _ => False) := by
  have hbi : 1 ≤ brN pr nm i := by have := br_ch (fun k q h => hO.2.2.2.1 k q h) hi; omega
  refine CxG.of RX9 (by decide +kernel) rfl (Nat.le_of_ble_eq_true rfl) ?_
  intro p e s m below meth c A ls C hml hl hA hr hlocks hex hnm hZ hW
  have hl : lv_has ls 6 [(0, .ref a5), (1, .int (nI i)), (2, .int (nI 12)), (3, .ref o0)] := hl
  have hx := C.1
  have hb := C.2.1
  refine lv_iload_n hx hb dX9_writePart_0 rfl (lv_at hl 2 rfl) ?_
  refine lv_bipush (v := nI 12) hx hb dX9_writePart_1 (by decide) ?_
  refine lv_icmp_lt hx hb (x := (nI 12)) (y := (nI 12)) (tgt := 7) dX9_writePart_3 (by decide) (fun c_3 => ?_) (fun c_3 => ?_)
  · exact absurd c_3 (by decide)
  · exact cx_vret C hr hlocks hW ⟨Nat.le_of_ble_eq_true rfl, Nat.le_of_ble_eq_true rfl⟩ (⟨_, _, _, _, ⟨hfit, hcn, Nat.le_refl _, by omega, by omega⟩, rfl⟩) dX9_writePart_6
theorem k_wp : ∀ d, d ≤ 12 → WpC (12 - d) d := by
  intro d
  induction d with
  | zero => exact fun _ => fun l hfl D aT a5 a6 a7 a8 a9 fI fN fW fP nm nx idn pr tn hO o0 ov cn cp fO mb hfit hcn hcp i hi hq => k_wp0 l hfl D aT a5 a6 a7 a8 a9 fI fN fW fP nm nx idn pr tn hO o0 ov cn cp fO mb hfit hcn hcp i hi hq
  | succ d ih =>
    intro hd
    obtain ⟨dd, e⟩ : ∃ dd, dd = 12 - (d + 1) := ⟨_, rfl⟩
    have e2 : 12 - d = dd + 1 := by omega
    have ih := ih (by omega)
    rw [e2] at ih
    rw [← e]
    exact fun l hfl D aT a5 a6 a7 a8 a9 fI fN fW fP nm nx idn pr tn hO o0 ov cn cp fO mb hfit hcn hcp i hi hq => k_wpS l hfl D aT dd d (by omega) ih a5 a6 a7 a8 a9 fI fN fW fP nm nx idn pr tn hO o0 ov cn cp fO mb hfit hcn hcp i hi hq
theorem k_wpA : WpC 0 12 := k_wp 12 (Nat.le_refl _)

theorem dX9_writeBranch_0 : decode cX9_writeBranch 0 = .ok (.aload_n 0, 1) := by decide +kernel
theorem dX9_writeBranch_1 : decode cX9_writeBranch 1 = .ok (.getfield 10, 3) := by decide +kernel
theorem dX9_writeBranch_4 : decode cX9_writeBranch 4 = .ok (.getfield 127, 3) := by decide +kernel
theorem dX9_writeBranch_7 : decode cX9_writeBranch 7 = .ok (.iload_n 1, 1) := by decide +kernel
theorem dX9_writeBranch_8 : decode cX9_writeBranch 8 = .ok (.invokevirtual 131, 3) := by decide +kernel
theorem dX9_writeBranch_11 : decode cX9_writeBranch 11 = .ok (.istore_n 2, 1) := by decide +kernel
theorem dX9_writeBranch_12 : decode cX9_writeBranch 12 = .ok (.aload_n 0, 1) := by decide +kernel
theorem dX9_writeBranch_13 : decode cX9_writeBranch 13 = .ok (.getfield 43, 3) := by decide +kernel
theorem dX9_writeBranch_16 : decode cX9_writeBranch 16 = .ok (.iconst 0, 1) := by decide +kernel
theorem dX9_writeBranch_17 : decode cX9_writeBranch 17 = .ok (.invokevirtual 290, 3) := by decide +kernel
theorem dX9_writeBranch_20 : decode cX9_writeBranch 20 = .ok (.aload_n 0, 1) := by decide +kernel
theorem dX9_writeBranch_21 : decode cX9_writeBranch 21 = .ok (.getfield 10, 3) := by decide +kernel
theorem dX9_writeBranch_24 : decode cX9_writeBranch 24 = .ok (.getfield 127, 3) := by decide +kernel
theorem dX9_writeBranch_27 : decode cX9_writeBranch 27 = .ok (.iload_n 2, 1) := by decide +kernel
theorem dX9_writeBranch_28 : decode cX9_writeBranch 28 = .ok (.iconst 0, 1) := by decide +kernel
theorem dX9_writeBranch_29 : decode cX9_writeBranch 29 = .ok (.aload_n 0, 1) := by decide +kernel
theorem dX9_writeBranch_30 : decode cX9_writeBranch 30 = .ok (.getfield 43, 3) := by decide +kernel
theorem dX9_writeBranch_33 : decode cX9_writeBranch 33 = .ok (.invokestatic 293, 3) := by decide +kernel
theorem dX9_writeBranch_36 : decode cX9_writeBranch 36 = .ok (.aload_n 0, 1) := by decide +kernel
theorem dX9_writeBranch_37 : decode cX9_writeBranch 37 = .ok (.getfield 43, 3) := by decide +kernel
theorem dX9_writeBranch_40 : decode cX9_writeBranch 40 = .ok (.invokevirtual 297, 3) := by decide +kernel
theorem dX9_writeBranch_43 : decode cX9_writeBranch 43 = .ok (.ireturn, 1) := by decide +kernel
theorem gV_X9_J4_setLength_d00df_290 : GoodIn gw (wsV RX9 290 RJ4 yJ4_setLength_d00df (Cond.code yJ4_setLength_d00df cJ4_setLength_d00df 2 (none) :: gw)) := gdV gw_1341 gw_1342 gw_1343 gw_78 gw_1344
theorem hV_J4_setLength_d00df : yJ4_setLength_d00df.cls = RJ4 ∧ yJ4_setLength_d00df.cls ≠ "java/lang/invoke/MethodHandle" ∧ yJ4_setLength_d00df.cls ≠ "java/lang/invoke/VarHandle" ∧ (parseMethodDescriptor yJ4_setLength_d00df.desc).map (fun d => d.parameters.length) = some 1 := ⟨rfl, by decide +kernel, by decide +kernel, by decide +kernel⟩
theorem gV_X9_J4_length_8abf5_297 : GoodIn gw (wsV RX9 297 RJ4 yJ4_length_8abf5 (Cond.code yJ4_length_8abf5 cJ4_length_8abf5 1 (some .int) :: gw)) := gdV gw_1578 gw_1488 gw_2107 gw_78 gw_1489
theorem hV_J4_length_8abf5 : yJ4_length_8abf5.cls = RJ4 ∧ yJ4_length_8abf5.cls ≠ "java/lang/invoke/MethodHandle" ∧ yJ4_length_8abf5.cls ≠ "java/lang/invoke/VarHandle" ∧ (parseMethodDescriptor yJ4_length_8abf5.desc).map (fun d => d.parameters.length) = some 0 := ⟨rfl, by decide +kernel, by decide +kernel, by decide +kernel⟩
set_option maxHeartbeats 2000000 in
set_option maxRecDepth 20000 in
theorem k_X9_writeBranch (l : Launch) (hfl : l.stackTraces = false) (D : va_G) (aT : Nat → ClassId) (x0 : Nat) (v0 : Nat) (t0 : Nat) (p0 : Nat) (o0 : Nat) (sv : Bool) (le : Int32) (lf : Int32) (h0 : Nat) (a0 : Nat) (a1 : Nat) (a2 : Nat) (a3 : Nat) (a4 : Nat) (a5 : Nat) (a6 : Nat) (a7 : Nat) (a8 : Nat) (a9 : Nat) (a10 : Nat) (bb : Nat → Nat → Int32) (nh : Nat) (nm : Nat) (M : Nat → Int32) (Bd : Nat) (hBd : Bd < 1048000) (hC : CoW M Bd) (hB : BlC bb nh nm M) (ov : Nat) (cn : Nat) (cp : Nat) (fO : Nat → Int32) (mb : Int32) (hfit : sb_Fit fO) (hcn : cn ≤ cp) (hcp : cp ≤ 4000) (x : Int32) : CxG l yX9_writeBranch cX9_writeBranch 3 (some (.int)) 23 106 13508 625 D aT [.ref x0, .int x] [(x0, .inr (12, [.ref a0, .ref v0, .ref h0, .ref t0, .ref p0, .ref o0, .int (bI sv), .int le, .int lf])), (a0, .inr (10, [.ref a1, .ref a5, .ref a10, .int (bb 8 1), .int (bb 8 2), .int (bb 8 3), .int (bb 8 4), .int (bb 8 5), .int (bb 8 6), .int (bb 8 7), .int (bb 8 8)])), (a1, .inr (6, [.ref a2, .ref a3, .ref a4, .int (nI nh)])), (a2, .inl (aT 0, 6, .inl (bb 0))), (a3, .inl (aT 0, 6, .inl (bb 1))), (a4, .inl (aT 0, 6, .inl (bb 2))), (a5, .inr (8, [.ref a6, .ref a7, .ref a8, .ref a9, .int (nI nm), .int (bb 8 0)])), (a6, .inl (aT 0, 12, .inl (bb 3))), (a7, .inl (aT 0, 12, .inl (bb 4))), (a8, .inl (aT 0, 12, .inl (bb 5))), (a9, .inl (aT 0, 12, .inl (bb 6))), (a10, .inl (aT 0, 4, .inl (bb 7))), (o0, .inr (1, [.ref ov, .int (nI 0), .int mb, .int (nI cn)])), (ov, .inl (aT 4, cp, .inl fO))] (qI D aT (fun r W1 => (∃ q, fnd (fun k => M (29 + 4 * k)) x nm = some q) ∧ ∃ (c2 p2 ov2 : Nat) (f2 : Nat → Int32) (m2 : Int32), (r = nI c2 ∧ sb_Fit f2 ∧ c2 ≤ p2 ∧ p2 ≤ 4000) ∧ W1 = [(x0, .inr (12, [.ref a0, .ref v0, .ref h0, .ref t0, .ref p0, .ref o0, .int (bI sv), .int le, .int lf])), (a0, .inr (10, [.ref a1, .ref a5, .ref a10, .int (bb 8 1), .int (bb 8 2), .int (bb 8 3), .int (bb 8 4), .int (bb 8 5), .int (bb 8 6), .int (bb 8 7), .int (bb 8 8)])), (a1, .inr (6, [.ref a2, .ref a3, .ref a4, .int (nI nh)])), (a2, .inl (aT 0, 6, .inl (bb 0))), (a3, .inl (aT 0, 6, .inl (bb 1))), (a4, .inl (aT 0, 6, .inl (bb 2))), (a5, .inr (8, [.ref a6, .ref a7, .ref a8, .ref a9, .int (nI nm), .int (bb 8 0)])), (a6, .inl (aT 0, 12, .inl (bb 3))), (a7, .inl (aT 0, 12, .inl (bb 4))), (a8, .inl (aT 0, 12, .inl (bb 5))), (a9, .inl (aT 0, 12, .inl (bb 6))), (a10, .inl (aT 0, 4, .inl (bb 7))), (o0, .inr (1, [.ref ov2, .int (nI 0), .int m2, .int (nI c2)])), (ov2, .inl (aT 4, p2, .inl f2))])) (fun E W1 => (E = "java/util/NoSuchElementException" ∧ fnd (fun k => M (29 + 4 * k)) x nm = none) ∧ W1 = [(x0, .inr (12, [.ref a0, .ref v0, .ref h0, .ref t0, .ref p0, .ref o0, .int (bI sv), .int le, .int lf])), (a0, .inr (10, [.ref a1, .ref a5, .ref a10, .int (bb 8 1), .int (bb 8 2), .int (bb 8 3), .int (bb 8 4), .int (bb 8 5), .int (bb 8 6), .int (bb 8 7), .int (bb 8 8)])), (a1, .inr (6, [.ref a2, .ref a3, .ref a4, .int (nI nh)])), (a2, .inl (aT 0, 6, .inl (bb 0))), (a3, .inl (aT 0, 6, .inl (bb 1))), (a4, .inl (aT 0, 6, .inl (bb 2))), (a5, .inr (8, [.ref a6, .ref a7, .ref a8, .ref a9, .int (nI nm), .int (bb 8 0)])), (a6, .inl (aT 0, 12, .inl (bb 3))), (a7, .inl (aT 0, 12, .inl (bb 4))), (a8, .inl (aT 0, 12, .inl (bb 5))), (a9, .inl (aT 0, 12, .inl (bb 6))), (a10, .inl (aT 0, 4, .inl (bb 7))), (o0, .inr (1, [.ref ov, .int (nI 0), .int mb, .int (nI cn)])), (ov, .inl (aT 4, cp, .inl fO))]) := by
  have hH := hB.he hC
  have hO := hB.mo hC
  refine CxG.of RX9 (by decide +kernel) rfl (Nat.le_of_ble_eq_true rfl) ?_
  intro p e s m below meth c A ls C hml hl hA hr hlocks hex hnm hZ hW
  have hl : lv_has ls 3 [(0, .ref x0), (1, .int x)] := hl
  have hx := C.1
  have hb := C.2.1
  refine lv_aload_n hx hb dX9_writeBranch_0 rfl (lv_at hl 0 rfl) ?_
  refine cx_get C hW 0 0 rfl rfl (by decide) inX9 gw_346 rfl rfl dX9_writeBranch_1 ?_
  refine cx_getN C hZ hW 1 1 rfl rfl (by decide) inX7 nw_182 rfl rfl dX9_writeBranch_4 ?_
  refine lv_iload_n hx hb dX9_writeBranch_7 rfl (lv_at hl 1 rfl) ?_
  refine cx_calli (Wr := [(x0, .inr (12, [.ref a0, .ref v0, .ref h0, .ref t0, .ref p0, .ref o0, .int (bI sv), .int le, .int lf])), (a0, .inr (10, [.ref a1, .ref a5, .ref a10, .int (bb 8 1), .int (bb 8 2), .int (bb 8 3), .int (bb 8 4), .int (bb 8 5), .int (bb 8 6), .int (bb 8 7), .int (bb 8 8)])), (a1, .inr (6, [.ref a2, .ref a3, .ref a4, .int (nI nh)])), (a2, .inl (aT 0, 6, .inl (bb 0))), (a3, .inl (aT 0, 6, .inl (bb 1))), (a4, .inl (aT 0, 6, .inl (bb 2))), (a10, .inl (aT 0, 4, .inl (bb 7))), (o0, .inr (1, [.ref ov, .int (nI 0), .int mb, .int (nI cn)])), (ov, .inl (aT 4, cp, .inl fO))]) (cx_runV C hml hl.1 hZ hW hA (As := [.int x]) (rest := []) (k_X5_require l hfl D aT a5 a6 a7 a8 a9 (bb 3) (bb 4) (bb 5) (bb 6) nm (bb 8 0) hO.1 x) gV_X9_X5_require_131 hV_X5_require rfl ⟨Nat.le_of_ble_eq_true rfl, Nat.le_of_ble_eq_true rfl⟩ ⟨Nat.le_of_ble_eq_true rfl, Nat.le_of_ble_eq_true rfl⟩ [6, 7, 8, 9, 10] rfl (by decide) 6 8 rfl rfl rfl rfl (Nat.le_of_ble_eq_true rfl) dX9_writeBranch_8) hW hA [6, 7, 8, 9, 10] [0, 1, 2, 3, 4, 5, 11, 12, 13] rfl rfl (by decide) (by decide) (fun E ce q9 W9 H9 locs9 hE hW9 h7 h8 h9 => by
      obtain ⟨hE1, hE2, rfl⟩ := hE
      exact cx_out C hex hlocks (Wd := [(x0, .inr (12, [.ref a0, .ref v0, .ref h0, .ref t0, .ref p0, .ref o0, .int (bI sv), .int le, .int lf])), (a0, .inr (10, [.ref a1, .ref a5, .ref a10, .int (bb 8 1), .int (bb 8 2), .int (bb 8 3), .int (bb 8 4), .int (bb 8 5), .int (bb 8 6), .int (bb 8 7), .int (bb 8 8)])), (a1, .inr (6, [.ref a2, .ref a3, .ref a4, .int (nI nh)])), (a2, .inl (aT 0, 6, .inl (bb 0))), (a3, .inl (aT 0, 6, .inl (bb 1))), (a4, .inl (aT 0, 6, .inl (bb 2))), (a5, .inr (8, [.ref a6, .ref a7, .ref a8, .ref a9, .int (nI nm), .int (bb 8 0)])), (a6, .inl (aT 0, 12, .inl (bb 3))), (a7, .inl (aT 0, 12, .inl (bb 4))), (a8, .inl (aT 0, 12, .inl (bb 5))), (a9, .inl (aT 0, 12, .inl (bb 6))), (a10, .inl (aT 0, 4, .inl (bb 7))), (o0, .inr (1, [.ref ov, .int (nI 0), .int mb, .int (nI cn)])), (ov, .inl (aT 4, cp, .inl fO))]) (cx_drop hW9 [0, 1, 2, 3, 4, 5, 9, 10, 11, 12, 13, 6, 7, 8] rfl (by decide)) h7 h8 h9 ⟨Nat.le_of_ble_eq_true rfl, Nat.le_of_ble_eq_true rfl⟩ (⟨⟨hE1, (by rw [← hB.fnd_eq]; exact hE2)⟩, rfl⟩)) (fun r_8 W_8 H locs hq hW => ?_)
  obtain ⟨⟨q_8, hq_8, hqn_8, rfl⟩, rfl⟩ := hq
  have hW : CxB D [(x0, .inr (12, [.ref a0, .ref v0, .ref h0, .ref t0, .ref p0, .ref o0, .int (bI sv), .int le, .int lf])), (a0, .inr (10, [.ref a1, .ref a5, .ref a10, .int (bb 8 1), .int (bb 8 2), .int (bb 8 3), .int (bb 8 4), .int (bb 8 5), .int (bb 8 6), .int (bb 8 7), .int (bb 8 8)])), (a1, .inr (6, [.ref a2, .ref a3, .ref a4, .int (nI nh)])), (a2, .inl (aT 0, 6, .inl (bb 0))), (a3, .inl (aT 0, 6, .inl (bb 1))), (a4, .inl (aT 0, 6, .inl (bb 2))), (a10, .inl (aT 0, 4, .inl (bb 7))), (o0, .inr (1, [.ref ov, .int (nI 0), .int mb, .int (nI cn)])), (ov, .inl (aT 4, cp, .inl fO)), (a5, .inr (8, [.ref a6, .ref a7, .ref a8, .ref a9, .int (nI nm), .int (bb 8 0)])), (a6, .inl (aT 0, 12, .inl (bb 3))), (a7, .inl (aT 0, 12, .inl (bb 4))), (a8, .inl (aT 0, 12, .inl (bb 5))), (a9, .inl (aT 0, 12, .inl (bb 6)))] A s.heap H _ := hW
  refine lv_istore_n (lv' := [(2, .int (nI q_8)), (0, .ref x0), (1, .int x)]) hx hb dX9_writeBranch_11 rfl hl (by decide) rfl (fun ls hl => ?_)
  refine lv_aload_n hx hb dX9_writeBranch_12 rfl (lv_at hl 1 rfl) ?_
  refine cx_get C hW 0 5 rfl rfl (by decide) inX9 gw_351 rfl rfl dX9_writeBranch_13 ?_
  refine lv_iconst (v := nI 0) hx hb dX9_writeBranch_16 (by decide) ?_
  refine cx_callv (Wr := [(x0, .inr (12, [.ref a0, .ref v0, .ref h0, .ref t0, .ref p0, .ref o0, .int (bI sv), .int le, .int lf])), (a0, .inr (10, [.ref a1, .ref a5, .ref a10, .int (bb 8 1), .int (bb 8 2), .int (bb 8 3), .int (bb 8 4), .int (bb 8 5), .int (bb 8 6), .int (bb 8 7), .int (bb 8 8)])), (a1, .inr (6, [.ref a2, .ref a3, .ref a4, .int (nI nh)])), (a2, .inl (aT 0, 6, .inl (bb 0))), (a3, .inl (aT 0, 6, .inl (bb 1))), (a4, .inl (aT 0, 6, .inl (bb 2))), (a10, .inl (aT 0, 4, .inl (bb 7))), (a5, .inr (8, [.ref a6, .ref a7, .ref a8, .ref a9, .int (nI nm), .int (bb 8 0)])), (a6, .inl (aT 0, 12, .inl (bb 3))), (a7, .inl (aT 0, 12, .inl (bb 4))), (a8, .inl (aT 0, 12, .inl (bb 5))), (a9, .inl (aT 0, 12, .inl (bb 6)))]) (cx_runV C hml hl.1 hZ hW hA (As := [.int (nI 0)]) (rest := []) (k_setLength4 l hfl D aT o0 ov cn cp fO mb hfit hcn hcp) gV_X9_J4_setLength_d00df_290 hV_J4_setLength_d00df rfl ⟨Nat.le_of_ble_eq_true rfl, Nat.le_of_ble_eq_true rfl⟩ ⟨Nat.le_of_ble_eq_true rfl, Nat.le_of_ble_eq_true rfl⟩ [7, 8] rfl (by decide) 7 1 rfl rfl rfl rfl (Nat.le_of_ble_eq_true rfl) dX9_writeBranch_17) hW hA [7, 8] [0, 1, 2, 3, 4, 5, 6, 9, 10, 11, 12, 13] rfl rfl (by decide) (by decide) (fun _ _ _ _ _ _ h9 => h9.elim) (fun W_17 H locs hq hW => ?_)
  obtain ⟨ov_17, f_17, m_17, hf_17, rfl⟩ := hq
  have hW : CxB D [(x0, .inr (12, [.ref a0, .ref v0, .ref h0, .ref t0, .ref p0, .ref o0, .int (bI sv), .int le, .int lf])), (a0, .inr (10, [.ref a1, .ref a5, .ref a10, .int (bb 8 1), .int (bb 8 2), .int (bb 8 3), .int (bb 8 4), .int (bb 8 5), .int (bb 8 6), .int (bb 8 7), .int (bb 8 8)])), (a1, .inr (6, [.ref a2, .ref a3, .ref a4, .int (nI nh)])), (a2, .inl (aT 0, 6, .inl (bb 0))), (a3, .inl (aT 0, 6, .inl (bb 1))), (a4, .inl (aT 0, 6, .inl (bb 2))), (a10, .inl (aT 0, 4, .inl (bb 7))), (a5, .inr (8, [.ref a6, .ref a7, .ref a8, .ref a9, .int (nI nm), .int (bb 8 0)])), (a6, .inl (aT 0, 12, .inl (bb 3))), (a7, .inl (aT 0, 12, .inl (bb 4))), (a8, .inl (aT 0, 12, .inl (bb 5))), (a9, .inl (aT 0, 12, .inl (bb 6))), (o0, .inr (1, [.ref ov_17, .int (nI 0), .int m_17, .int (nI 0)])), (ov_17, .inl (aT 4, cp, .inl f_17))] A s.heap H _ := hW
  refine lv_aload_n hx hb dX9_writeBranch_20 rfl (lv_at hl 1 rfl) ?_
  refine cx_get C hW 0 0 rfl rfl (by decide) inX9 gw_346 rfl rfl dX9_writeBranch_21 ?_
  refine cx_getN C hZ hW 1 1 rfl rfl (by decide) inX7 nw_182 rfl rfl dX9_writeBranch_24 ?_
  refine lv_iload_n hx hb dX9_writeBranch_27 rfl (lv_at hl 0 rfl) ?_
  refine lv_iconst (v := nI 0) hx hb dX9_writeBranch_28 (by decide) ?_
  refine lv_aload_n hx hb dX9_writeBranch_29 rfl (lv_at hl 1 rfl) ?_
  refine cx_get C hW 0 5 rfl rfl (by decide) inX9 gw_351 rfl rfl dX9_writeBranch_30 ?_
  have hb12 := br_le (fun k q h => hO.2.2.2.1 k q h) q_8
  have h12 := hO.1
  refine cx_callv (Wr := [(x0, .inr (12, [.ref a0, .ref v0, .ref h0, .ref t0, .ref p0, .ref o0, .int (bI sv), .int le, .int lf])), (a0, .inr (10, [.ref a1, .ref a5, .ref a10, .int (bb 8 1), .int (bb 8 2), .int (bb 8 3), .int (bb 8 4), .int (bb 8 5), .int (bb 8 6), .int (bb 8 7), .int (bb 8 8)])), (a1, .inr (6, [.ref a2, .ref a3, .ref a4, .int (nI nh)])), (a2, .inl (aT 0, 6, .inl (bb 0))), (a3, .inl (aT 0, 6, .inl (bb 1))), (a4, .inl (aT 0, 6, .inl (bb 2))), (a10, .inl (aT 0, 4, .inl (bb 7)))]) (cx_runS C hml hl.1 hZ hW hA (As := [.ref a5, .int (nI q_8), .int (nI 0), .ref o0]) (rest := []) (k_wpA l hfl D aT a5 a6 a7 a8 a9 (bb 3) (bb 4) (bb 5) (bb 6) nm (bb 8 0) (idM M) (prM M) (tnM M) hO o0 ov_17 0 cp f_17 m_17 hf_17 (Nat.zero_le _) hcp q_8 hqn_8 (by have h1 := br_le (fun k q h => hO.2.2.2.1 k q h) q_8; have h2 := hO.1; omega)) gS_X9_X9_writePart_293 hS_X9_writePart rfl ⟨Nat.le_of_ble_eq_true rfl, Nat.le_of_ble_eq_true rfl⟩ ⟨by first | omega | (dsimp only [cxR]; omega), by first | omega | (dsimp only [cxR]; omega)⟩ [7, 8, 9, 10, 11, 12, 13] rfl (by decide) rfl (Nat.le_of_ble_eq_true rfl) dX9_writeBranch_33) hW hA [7, 8, 9, 10, 11, 12, 13] [0, 1, 2, 3, 4, 5, 6] rfl rfl (by decide) (by decide) (fun _ _ _ _ _ _ h9 => h9.elim) (fun W_33 H locs hq hW => ?_)
  obtain ⟨c2_33, p2_33, ov_33, f_33, ⟨hf_33, hcn_33, hcp_33, hcq_33, hcl_33⟩, rfl⟩ := hq
  have hW : CxB D [(x0, .inr (12, [.ref a0, .ref v0, .ref h0, .ref t0, .ref p0, .ref o0, .int (bI sv), .int le, .int lf])), (a0, .inr (10, [.ref a1, .ref a5, .ref a10, .int (bb 8 1), .int (bb 8 2), .int (bb 8 3), .int (bb 8 4), .int (bb 8 5), .int (bb 8 6), .int (bb 8 7), .int (bb 8 8)])), (a1, .inr (6, [.ref a2, .ref a3, .ref a4, .int (nI nh)])), (a2, .inl (aT 0, 6, .inl (bb 0))), (a3, .inl (aT 0, 6, .inl (bb 1))), (a4, .inl (aT 0, 6, .inl (bb 2))), (a10, .inl (aT 0, 4, .inl (bb 7))), (a5, .inr (8, [.ref a6, .ref a7, .ref a8, .ref a9, .int (nI nm), .int (bb 8 0)])), (a6, .inl (aT 0, 12, .inl (bb 3))), (a7, .inl (aT 0, 12, .inl (bb 4))), (a8, .inl (aT 0, 12, .inl (bb 5))), (a9, .inl (aT 0, 12, .inl (bb 6))), (o0, .inr (1, [.ref ov_33, .int (nI 0), .int m_17, .int (nI c2_33)])), (ov_33, .inl (aT 4, p2_33, .inl f_33))] A s.heap H _ := hW
  refine lv_aload_n hx hb dX9_writeBranch_36 rfl (lv_at hl 1 rfl) ?_
  refine cx_get C hW 0 5 rfl rfl (by decide) inX9 gw_351 rfl rfl dX9_writeBranch_37 ?_
  refine cx_calli (Wr := [(x0, .inr (12, [.ref a0, .ref v0, .ref h0, .ref t0, .ref p0, .ref o0, .int (bI sv), .int le, .int lf])), (a0, .inr (10, [.ref a1, .ref a5, .ref a10, .int (bb 8 1), .int (bb 8 2), .int (bb 8 3), .int (bb 8 4), .int (bb 8 5), .int (bb 8 6), .int (bb 8 7), .int (bb 8 8)])), (a1, .inr (6, [.ref a2, .ref a3, .ref a4, .int (nI nh)])), (a2, .inl (aT 0, 6, .inl (bb 0))), (a3, .inl (aT 0, 6, .inl (bb 1))), (a4, .inl (aT 0, 6, .inl (bb 2))), (a10, .inl (aT 0, 4, .inl (bb 7))), (a5, .inr (8, [.ref a6, .ref a7, .ref a8, .ref a9, .int (nI nm), .int (bb 8 0)])), (a6, .inl (aT 0, 12, .inl (bb 3))), (a7, .inl (aT 0, 12, .inl (bb 4))), (a8, .inl (aT 0, 12, .inl (bb 5))), (a9, .inl (aT 0, 12, .inl (bb 6)))]) (cx_runV C hml hl.1 hZ hW hA (As := []) (rest := []) (k_J4_length_8abf5 l hfl D aT o0 ov_33 c2_33 p2_33 f_33 m_17 hf_33 hcn_33 (by omega)) gV_X9_J4_length_8abf5_297 hV_J4_length_8abf5 rfl ⟨Nat.le_of_ble_eq_true rfl, Nat.le_of_ble_eq_true rfl⟩ ⟨by first | omega | (dsimp only [cxR]; omega), by first | omega | (dsimp only [cxR]; omega)⟩ [12, 13] rfl (by decide) 12 1 rfl rfl rfl rfl (Nat.le_of_ble_eq_true rfl) dX9_writeBranch_40) hW hA [12, 13] [0, 1, 2, 3, 4, 5, 6, 7, 8, 9, 10, 11] rfl rfl (by decide) (by decide) (fun _ _ _ _ _ _ h9 => h9.elim) (fun r_40 W_40 H locs hq hW => ?_)
  obtain ⟨rfl, rfl⟩ := hq
  have hW : CxB D [(x0, .inr (12, [.ref a0, .ref v0, .ref h0, .ref t0, .ref p0, .ref o0, .int (bI sv), .int le, .int lf])), (a0, .inr (10, [.ref a1, .ref a5, .ref a10, .int (bb 8 1), .int (bb 8 2), .int (bb 8 3), .int (bb 8 4), .int (bb 8 5), .int (bb 8 6), .int (bb 8 7), .int (bb 8 8)])), (a1, .inr (6, [.ref a2, .ref a3, .ref a4, .int (nI nh)])), (a2, .inl (aT 0, 6, .inl (bb 0))), (a3, .inl (aT 0, 6, .inl (bb 1))), (a4, .inl (aT 0, 6, .inl (bb 2))), (a10, .inl (aT 0, 4, .inl (bb 7))), (a5, .inr (8, [.ref a6, .ref a7, .ref a8, .ref a9, .int (nI nm), .int (bb 8 0)])), (a6, .inl (aT 0, 12, .inl (bb 3))), (a7, .inl (aT 0, 12, .inl (bb 4))), (a8, .inl (aT 0, 12, .inl (bb 5))), (a9, .inl (aT 0, 12, .inl (bb 6))), (o0, .inr (1, [.ref ov_33, .int (nI 0), .int m_17, .int (nI c2_33)])), (ov_33, .inl (aT 4, p2_33, .inl f_33))] A s.heap H _ := hW
  have hW : CxB D [(x0, .inr (12, [.ref a0, .ref v0, .ref h0, .ref t0, .ref p0, .ref o0, .int (bI sv), .int le, .int lf])), (a0, .inr (10, [.ref a1, .ref a5, .ref a10, .int (bb 8 1), .int (bb 8 2), .int (bb 8 3), .int (bb 8 4), .int (bb 8 5), .int (bb 8 6), .int (bb 8 7), .int (bb 8 8)])), (a1, .inr (6, [.ref a2, .ref a3, .ref a4, .int (nI nh)])), (a2, .inl (aT 0, 6, .inl (bb 0))), (a3, .inl (aT 0, 6, .inl (bb 1))), (a4, .inl (aT 0, 6, .inl (bb 2))), (a5, .inr (8, [.ref a6, .ref a7, .ref a8, .ref a9, .int (nI nm), .int (bb 8 0)])), (a6, .inl (aT 0, 12, .inl (bb 3))), (a7, .inl (aT 0, 12, .inl (bb 4))), (a8, .inl (aT 0, 12, .inl (bb 5))), (a9, .inl (aT 0, 12, .inl (bb 6))), (a10, .inl (aT 0, 4, .inl (bb 7))), (o0, .inr (1, [.ref ov_33, .int (nI 0), .int m_17, .int (nI c2_33)])), (ov_33, .inl (aT 4, p2_33, .inl f_33))] A s.heap H _ := cx_drop hW [0, 1, 2, 3, 4, 5, 7, 8, 9, 10, 11, 6, 12, 13] rfl (by decide)
  exact cx_iret C hr hlocks rfl hW ⟨by first | omega | (dsimp only [cxR]; omega), by first | omega | (dsimp only [cxR]; omega)⟩ (⟨⟨_, (by rw [← hB.fnd_eq]; exact hq_8)⟩, _, _, _, _, _, ⟨rfl, hf_33, hcn_33, by omega⟩, rfl⟩) dX9_writeBranch_43
theorem dX9_outputAt_0 : decode cX9_outputAt 0 = .ok (.iload_n 1, 1) := by decide +kernel
theorem dX9_outputAt_1 : decode cX9_outputAt 1 = .ok (.ifCond .lt 14, 3) := by decide +kernel
theorem dX9_outputAt_4 : decode cX9_outputAt 4 = .ok (.iload_n 1, 1) := by decide +kernel
theorem dX9_outputAt_5 : decode cX9_outputAt 5 = .ok (.aload_n 0, 1) := by decide +kernel
theorem dX9_outputAt_6 : decode cX9_outputAt 6 = .ok (.getfield 43, 3) := by decide +kernel
theorem dX9_outputAt_9 : decode cX9_outputAt 9 = .ok (.invokevirtual 297, 3) := by decide +kernel
theorem dX9_outputAt_12 : decode cX9_outputAt 12 = .ok (.if_icmp .lt 14, 3) := by decide +kernel
theorem dX9_outputAt_15 : decode cX9_outputAt 15 = .ok (.new 300, 3) := by decide +kernel
theorem dX9_outputAt_18 : decode cX9_outputAt 18 = .ok (.dup, 1) := by decide +kernel
theorem dX9_outputAt_19 : decode cX9_outputAt 19 = .ok (.ldc_w 302, 3) := by decide +kernel
theorem dX9_outputAt_22 : decode cX9_outputAt 22 = .ok (.invokespecial 304, 3) := by decide +kernel
theorem dX9_outputAt_25 : decode cX9_outputAt 25 = .ok (.athrow, 1) := by decide +kernel
theorem dX9_outputAt_26 : decode cX9_outputAt 26 = .ok (.aload_n 0, 1) := by decide +kernel
theorem dX9_outputAt_27 : decode cX9_outputAt 27 = .ok (.getfield 43, 3) := by decide +kernel
theorem dX9_outputAt_30 : decode cX9_outputAt 30 = .ok (.iload_n 1, 1) := by decide +kernel
theorem dX9_outputAt_31 : decode cX9_outputAt 31 = .ok (.invokevirtual 305, 3) := by decide +kernel
theorem dX9_outputAt_34 : decode cX9_outputAt 34 = .ok (.ireturn, 1) := by decide +kernel
theorem gV_X9_J4_charAt_5068e_305 : GoodIn gw (wsV RX9 305 RJ4 yJ4_charAt_5068e (Cond.code yJ4_charAt_5068e cJ4_charAt_5068e 2 (some .char) :: gw)) := gdV gw_1587 gw_1588 gw_1589 gw_78 gw_1590
theorem hV_J4_charAt_5068e : yJ4_charAt_5068e.cls = RJ4 ∧ yJ4_charAt_5068e.cls ≠ "java/lang/invoke/MethodHandle" ∧ yJ4_charAt_5068e.cls ≠ "java/lang/invoke/VarHandle" ∧ (parseMethodDescriptor yJ4_charAt_5068e.desc).map (fun d => d.parameters.length) = some 1 := ⟨rfl, by decide +kernel, by decide +kernel, by decide +kernel⟩
set_option maxHeartbeats 2000000 in
set_option maxRecDepth 20000 in
theorem k_X9_outputAt (l : Launch) (hfl : l.stackTraces = false) (D : va_G) (aT : Nat → ClassId) (x0 : Nat) (v0 : Nat) (t0 : Nat) (p0 : Nat) (o0 : Nat) (sv : Bool) (le : Int32) (lf : Int32) (h0 : Nat) (a0 : Nat) (ov : Nat) (cn : Nat) (cp : Nat) (fO : Nat → Int32) (mb : Int32) (hfit : sb_Fit fO) (hcn : cn ≤ cp) (hcp : cp ≤ 4000) (x : Int32) : CxG l yX9_outputAt cX9_outputAt 2 (some (.char)) 6 1 6 90 D aT [.ref x0, .int x] [(x0, .inr (12, [.ref a0, .ref v0, .ref h0, .ref t0, .ref p0, .ref o0, .int (bI sv), .int le, .int lf])), (o0, .inr (1, [.ref ov, .int (nI 0), .int mb, .int (nI cn)])), (ov, .inl (aT 4, cp, .inl fO))] (qI D aT (fun r W1 => ∃ y : Int32, r = (y.toUInt32 % 65536).toInt32 ∧ W1 = [(x0, .inr (12, [.ref a0, .ref v0, .ref h0, .ref t0, .ref p0, .ref o0, .int (bI sv), .int le, .int lf])), (o0, .inr (1, [.ref ov, .int (nI 0), .int mb, .int (nI cn)])), (ov, .inl (aT 4, cp, .inl fO))])) (fun E W1 => E = "java/lang/IndexOutOfBoundsException" ∧ W1 = [(x0, .inr (12, [.ref a0, .ref v0, .ref h0, .ref t0, .ref p0, .ref o0, .int (bI sv), .int le, .int lf])), (o0, .inr (1, [.ref ov, .int (nI 0), .int mb, .int (nI cn)])), (ov, .inl (aT 4, cp, .inl fO))]) := by
  refine CxG.of RX9 (by decide +kernel) rfl (Nat.le_of_ble_eq_true rfl) ?_
  intro p e s m below meth c A ls C hml hl hA hr hlocks hex hnm hZ hW
  have hl : lv_has ls 2 [(0, .ref x0), (1, .int x)] := hl
  have hx := C.1
  have hb := C.2.1
  refine lv_iload_n hx hb dX9_outputAt_0 rfl (lv_at hl 1 rfl) ?_
  refine lv_if_lt hx hb (x := x) (tgt := 15) dX9_outputAt_1 (by decide) (fun c_1 => ?_) (fun c_1 => ?_)
  · exact cx_throwW C hfl hex hml hl.1 hlocks hZ hW at_X9_IndexOutOfBoundsException (List.mem_of_getElem? (i := 22) rfl) gw_835 gw_90 (by decide +kernel) dX9_outputAt_15 dX9_outputAt_18 dX9_outputAt_19 dX9_outputAt_22 dX9_outputAt_25 ⟨Nat.le_of_ble_eq_true rfl, Nat.le_of_ble_eq_true rfl, Nat.le_of_ble_eq_true rfl, Nat.le_of_ble_eq_true rfl⟩ ⟨Nat.le_of_ble_eq_true rfl, Nat.le_of_ble_eq_true rfl⟩ (⟨rfl, rfl⟩)
  · refine lv_iload_n hx hb dX9_outputAt_4 rfl (lv_at hl 1 rfl) ?_
    refine lv_aload_n hx hb dX9_outputAt_5 rfl (lv_at hl 0 rfl) ?_
    refine cx_get C hW 0 5 rfl rfl (by decide) inX9 gw_351 rfl rfl dX9_outputAt_6 ?_
    refine cx_calli (Wr := [(x0, .inr (12, [.ref a0, .ref v0, .ref h0, .ref t0, .ref p0, .ref o0, .int (bI sv), .int le, .int lf]))]) (cx_runV C hml hl.1 hZ hW hA (As := []) (rest := [.int x]) (k_J4_length_8abf5 l hfl D aT o0 ov cn cp fO mb hfit hcn hcp) gV_X9_J4_length_8abf5_297 hV_J4_length_8abf5 rfl ⟨Nat.le_of_ble_eq_true rfl, Nat.le_of_ble_eq_true rfl⟩ ⟨Nat.le_of_ble_eq_true rfl, Nat.le_of_ble_eq_true rfl⟩ [1, 2] rfl (by decide) 1 1 rfl rfl rfl rfl (Nat.le_of_ble_eq_true rfl) dX9_outputAt_9) hW hA [1, 2] [0] rfl rfl (by decide) (by decide) (fun _ _ _ _ _ _ h9 => h9.elim) (fun r_9 W_9 H locs hq hW => ?_)
    obtain ⟨rfl, rfl⟩ := hq
    have hW : CxB D [(x0, .inr (12, [.ref a0, .ref v0, .ref h0, .ref t0, .ref p0, .ref o0, .int (bI sv), .int le, .int lf])), (o0, .inr (1, [.ref ov, .int (nI 0), .int mb, .int (nI cn)])), (ov, .inl (aT 4, cp, .inl fO))] A s.heap H _ := hW
    refine lv_icmp_lt hx hb (x := x) (y := (nI cn)) (tgt := 26) dX9_outputAt_12 (by decide) (fun c_12 => ?_) (fun c_12 => ?_)
    · obtain ⟨i, hi, rfl⟩ := wp_nat (by omega) c_1 c_12
      have hl : lv_has ls 2 [(0, .ref x0), (1, .int (nI i))] := hl
      refine lv_aload_n hx hb dX9_outputAt_26 rfl (lv_at hl 0 rfl) ?_
      refine cx_get C hW 0 5 rfl rfl (by decide) inX9 gw_351 rfl rfl dX9_outputAt_27 ?_
      refine lv_iload_n hx hb dX9_outputAt_30 rfl (lv_at hl 1 rfl) ?_
      refine cx_calli (Wr := [(x0, .inr (12, [.ref a0, .ref v0, .ref h0, .ref t0, .ref p0, .ref o0, .int (bI sv), .int le, .int lf]))]) (cx_runV C hml hl.1 hZ hW hA (As := [.int (nI i)]) (rest := []) (k_charAt4 l hfl D aT o0 ov cn cp fO mb hfit hcn hcp i hi) gV_X9_J4_charAt_5068e_305 hV_J4_charAt_5068e rfl ⟨Nat.le_of_ble_eq_true rfl, Nat.le_of_ble_eq_true rfl⟩ ⟨Nat.le_of_ble_eq_true rfl, Nat.le_of_ble_eq_true rfl⟩ [1, 2] rfl (by decide) 1 1 rfl rfl rfl rfl (Nat.le_of_ble_eq_true rfl) dX9_outputAt_31) hW hA [1, 2] [0] rfl rfl (by decide) (by decide) (fun _ _ _ _ _ _ h9 => h9.elim) (fun r_31 W_31 H locs hq hW => ?_)
      obtain ⟨x_31, rfl, rfl⟩ := hq
      have hW : CxB D [(x0, .inr (12, [.ref a0, .ref v0, .ref h0, .ref t0, .ref p0, .ref o0, .int (bI sv), .int le, .int lf])), (o0, .inr (1, [.ref ov, .int (nI 0), .int mb, .int (nI cn)])), (ov, .inl (aT 4, cp, .inl fO))] A s.heap H _ := hW
      exact cx_iret C hr hlocks (sb_nc _) hW ⟨Nat.le_of_ble_eq_true rfl, Nat.le_of_ble_eq_true rfl⟩ (⟨_, rfl, rfl⟩) dX9_outputAt_34
    · exact cx_throwW C hfl hex hml hl.1 hlocks hZ hW at_X9_IndexOutOfBoundsException (List.mem_of_getElem? (i := 22) rfl) gw_835 gw_90 (by decide +kernel) dX9_outputAt_15 dX9_outputAt_18 dX9_outputAt_19 dX9_outputAt_22 dX9_outputAt_25 ⟨Nat.le_of_ble_eq_true rfl, Nat.le_of_ble_eq_true rfl, Nat.le_of_ble_eq_true rfl, Nat.le_of_ble_eq_true rfl⟩ ⟨Nat.le_of_ble_eq_true rfl, Nat.le_of_ble_eq_true rfl⟩ (⟨rfl, rfl⟩)
