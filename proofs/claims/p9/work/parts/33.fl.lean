section FLT
/-- a datum that is a number or an infinity of the format -/
def okD (f : FP.Core.Fmt) : FP.Core.Datum → Prop
  | .nan => False
  | .inf _ => True
  | .fin _ c q => c < 2 ^ f.p ∧ f.qmin ≤ q ∧ q ≤ f.qmax
theorem bound_ok {f : FP.Core.Fmt} {s : Bool} {c : Nat} {q : Int} (hc : c < 2 ^ f.p) (hq : f.qmin ≤ q) : okD f (FP.Core.bound f s c q) := by
  unfold FP.Core.bound; split
  · exact ⟨hc, hq, by assumption⟩
  · trivial
theorem settle_ok {f : FP.Core.Fmt} {s : Bool} {c : Nat} {q : Int} (ht : f.tails < 2 ^ f.p) (hq : f.qmin ≤ q) : okD f (FP.Core.settle f s c q) := by
  unfold FP.Core.settle; split
  · exact bound_ok (by assumption) hq
  · exact bound_ok ht (by omega)
theorem ratio_ok {f : FP.Core.Fmt} {s : Bool} {num den : Nat} {e : Int} (ht : f.tails < 2 ^ f.p) (hz : f.qmin ≤ f.qmax) : okD f (FP.Core.roundRatio f s num den e) := by
  unfold FP.Core.roundRatio; split
  · exact ⟨Nat.two_pow_pos _, Int.le_refl _, hz⟩
  · unfold FP.Core.roundAt; exact settle_ok ht (by unfold FP.Core.quantum; exact Int.le_max_left _ _)
theorem asm_mod {f : FP.Core.Fmt} {s : Bool} {e t : Nat} : FP.Core.assemble f s e t % (f.exps * f.tails) ≤ e * f.tails + t := by
  unfold FP.Core.assemble
  rw [show (s.toNat * f.exps + e) * f.tails + t = (e * f.tails + t) + f.exps * f.tails * s.toNat by rw [Nat.add_mul, Nat.mul_comm (f.exps * f.tails), Nat.mul_assoc]; omega, Nat.add_mul_mod_self_left]
  exact Nat.mod_le _ _
theorem enc_ok {f : FP.Core.Fmt} {d : FP.Core.Datum} (h : okD f d) (h2 : 2 ^ f.p = 2 * f.tails) (h3 : (f.qmax - f.qmin).toNat + 3 = f.exps) : FP.Core.encode f d % (f.exps * f.tails) ≤ (f.exps - 1) * f.tails := by
  cases d with
  | nan => exact h.elim
  | inf s => exact Nat.le_trans asm_mod (by omega)
  | fin s c q =>
    obtain ⟨hc, hq, hq2⟩ := h
    show (if c < f.tails then FP.Core.assemble f s 0 c else FP.Core.assemble f s ((q - f.qmin).toNat + 1) (c - f.tails)) % (f.exps * f.tails) ≤ (f.exps - 1) * f.tails
    split
    · refine Nat.le_trans asm_mod ?_
      have : 1 * f.tails ≤ (f.exps - 1) * f.tails := Nat.mul_le_mul_right _ (by omega)
      omega
    · refine Nat.le_trans asm_mod ?_
      have : ((q - f.qmin).toNat + 1 + 1) * f.tails ≤ (f.exps - 1) * f.tails := Nat.mul_le_mul_right _ (by omega)
      rw [Nat.add_mul] at this
      omega
theorem nn64 {n : Nat} (h : n % 9223372036854775808 ≤ 9218868437227405312) : vf_n64 (.ofNat n) := by
  unfold vf_n64
  rw [UInt64.le_iff_toNat_le, UInt64.toNat_and]
  show (n % 2 ^ 64) &&& (2 ^ 63 - 1) ≤ 9218868437227405312
  rw [Nat.and_two_pow_sub_one_eq_mod]
  omega
theorem nn32 {n : Nat} (h : n % 2147483648 ≤ 2139095040) : vf_n32 (.ofNat n) := by
  unfold vf_n32
  rw [UInt32.le_iff_toNat_le, UInt32.toNat_and]
  show (n % 2 ^ 32) &&& (2 ^ 31 - 1) ≤ 2139095040
  rw [Nat.and_two_pow_sub_one_eq_mod]
  omega
theorem enc64_ok {d : FP.Core.Datum} (h : okD FP.Core.b64 d) : vf_n64 (.ofNat (FP.Core.encode FP.Core.b64 d)) := nn64 (enc_ok h rfl rfl)
theorem enc32_ok {d : FP.Core.Datum} (h : okD FP.Core.b32 d) : vf_n32 (.ofNat (FP.Core.encode FP.Core.b32 d)) := nn32 (enc_ok h rfl rfl)
/-- it decodes to a number, not 0 but for 0 -/
def finB (d : FP.Core.Datum) (n : Nat) : Bool := match d with
  | .fin _ c _ => decide (n = 0 ∨ c ≠ 0)
  | _ => false
theorem finB_of {d : FP.Core.Datum} {n : Nat} (h : finB d n = true) : ∃ s c q, d = .fin s c q ∧ (n = 0 ∨ c ≠ 0) := by
  cases d with
  | nan => cases h
  | inf s => cases h
  | fin s c q => exact ⟨s, c, q, rfl, of_decide_eq_true h⟩
theorem quo_ok {f : FP.Core.Fmt} {x y : FP.Core.Datum} {k : Nat} (hx : x ≠ .nan) (hy : finB y k = true) (hk : k ≠ 0) (ht : f.tails < 2 ^ f.p) (hz : f.qmin ≤ f.qmax) : okD f (FP.Core.quotient f x y) := by
  obtain ⟨t, d, r, rfl, h⟩ := finB_of hy
  cases x with
  | nan => exact absurd rfl hx
  | inf s => trivial
  | fin s c q =>
    show okD f (if d = 0 then (if c = 0 then .nan else .inf (s != t)) else FP.Core.roundRatio f (s != t) c d (q - r))
    rw [if_neg (h.resolve_left hk)]
    exact ratio_ok ht hz
theorem finB_nn {d : FP.Core.Datum} {n : Nat} (h : finB d n = true) : d ≠ .nan := by
  intro q; subst q; cases h
theorem i2d_fin : ∀ n, n < 1024 → finB (FP.Core.decode FP.Core.b64 (FP.i2d (nI n)).toNat) n = true := by decide +kernel
theorem dec32_nn {a : UInt32} (h : vf_n32 a) : FP.Core.decode FP.Core.b32 a.toNat ≠ .nan := by
  unfold vf_n32 at h
  rw [UInt32.le_iff_toNat_le, UInt32.toNat_and] at h
  have h' : a.toNat &&& (2 ^ 31 - 1) ≤ 2139095040 := h
  rw [Nat.and_two_pow_sub_one_eq_mod] at h'
  have ha : a.toNat < 4294967296 := a.toNat_lt
  unfold FP.Core.decode
  split
  · rename_i e
    have e1 : a.toNat / 8388608 % 256 = 255 := e
    have e2 : FP.Core.fieldT FP.Core.b32 a.toNat = 0 := by show a.toNat % 8388608 = 0; omega
    rw [if_pos e2]
    intro q; cases q
  · split <;> intro q <;> cases q
theorem f2d_nn {a : UInt32} (h : vf_n32 a) : vf_n64 (FP.f2d a) := by
  have h1 := dec32_nn h
  have h0 : vf_n64 (.ofNat (FP.Core.encode FP.Core.b64 (FP.Core.round FP.Core.b64 (FP.Core.decode FP.Core.b32 a.toNat)))) := by
    refine enc64_ok ?_
    cases e : FP.Core.decode FP.Core.b32 a.toNat with
    | nan => exact absurd e h1
    | inf s => trivial
    | fin s c q => exact ratio_ok (by decide) (by decide)
  unfold FP.f2d
  have h2 : FP.Core.isNaN FP.Core.b32 a.toNat = false := decide_eq_false h1
  rw [show FP.Core.fIsNaN a = false from h2, if_neg (by decide)]
  exact h0
theorem i2f_nn (x : Int32) : FP.Core.decode FP.Core.b32 (FP.i2f x).toNat ≠ .nan := dec32_nn (enc32_ok (ratio_ok (by decide) (by decide)))
theorem ddiv_nn {n k : Nat} (hn : n < 1024) (hk : k < 1024) (h0 : k ≠ 0) : vf_n64 (FP.ddiv (FP.i2d (nI n)) (FP.i2d (nI k))) := enc64_ok (quo_ok (finB_nn (i2d_fin n hn)) (i2d_fin k hk) h0 (by decide) (by decide))
theorem b32_t : FP.Core.b32.tails = 8388608 := by decide +kernel
theorem b32_e : FP.Core.b32.exps = 256 := by decide +kernel
theorem b32_q : FP.Core.b32.qmin = -149 := by decide +kernel
theorem dec_enc32 {s : Bool} {c : Nat} {q : Int} (h1 : 8388608 ≤ c) (h2 : c < 16777216) (h3 : -149 ≤ q) (h4 : q ≤ 104) : ∃ t d r, FP.Core.decode FP.Core.b32 (UInt32.ofNat (FP.Core.encode FP.Core.b32 (.fin s c q))).toNat = .fin t d r ∧ d ≠ 0 := by
  have hs : s.toNat ≤ 1 := by cases s <;> decide
  have e : FP.Core.encode FP.Core.b32 (.fin s c q) = (s.toNat * 256 + ((q + 149).toNat + 1)) * 8388608 + (c - 8388608) := by
    rw [FP.Core.encode]
    rw [b32_t, if_neg (by omega), b32_q]
    unfold FP.Core.assemble
    rw [b32_t, b32_e, show q - -149 = q + 149 by omega]
  rw [e]
  generalize hN : (s.toNat * 256 + ((q + 149).toNat + 1)) * 8388608 + (c - 8388608) = N
  have hN2 : N < 2 ^ 32 := by omega
  rw [UInt32.toNat_ofNat', Nat.mod_eq_of_lt hN2]
  have hE : FP.Core.fieldE FP.Core.b32 N = (q + 149).toNat + 1 := by unfold FP.Core.fieldE; rw [b32_t, b32_e]; omega
  unfold FP.Core.decode
  rw [hE, b32_e, if_neg (by omega), if_neg (by omega)]
  exact ⟨_, _, _, rfl, by rw [b32_t]; omega⟩
theorem near_1 (m : Nat) : FP.Core.nearest m 1 = m := by
  unfold FP.Core.nearest
  rw [if_pos (by omega), Nat.div_one]
theorem near_in {m d : Nat} : m / d ≤ FP.Core.nearest m d ∧ FP.Core.nearest m d ≤ m / d + 1 := by
  unfold FP.Core.nearest
  split
  · omega
  · split <;> omega
theorem i2f_fin {x : Int32} (h0 : x ≠ 0) : ∃ s c q, FP.Core.decode FP.Core.b32 (FP.i2f x).toNat = .fin s c q ∧ c ≠ 0 := by
  have hn0 : x.toInt ≠ 0 := fun z => h0 (Int32.toInt_inj.mp (by rw [z]; decide))
  have hlo := x.le_toInt
  have hhi := x.toInt_lt
  generalize hn : x.toInt.natAbs = n
  have n0 : n ≠ 0 := by omega
  have n31 : n ≤ 2147483648 := by omega
  have k1 := Nat.log2_self_le n0
  have k2 := @Nat.lt_log2_self n
  generalize hk : n.log2 = k at k1 k2
  have k31 : k ≤ 31 := by
    rcases Nat.lt_or_ge 31 k with w | w
    · have : 2 ^ 32 ≤ 2 ^ k := Nat.pow_le_pow_right (by decide) w
      omega
    · exact w
  have el : FP.Core.leading n 1 = (k : Int) := by
    unfold FP.Core.leading
    rw [hk, show Nat.log2 1 = 0 by decide]
    show (if 1 * 2 ^ ((k : Int) - 0).toNat ≤ n * 2 ^ (-((k : Int) - 0)).toNat then (k : Int) - 0 else (k : Int) - 0 - 1) = k
    rw [show ((k : Int) - 0).toNat = k by omega, show (-((k : Int) - 0)).toNat = 0 by omega, if_pos (by omega)]
    omega
  have eq : FP.Core.quantum FP.Core.b32 n 1 0 = (k : Int) - 23 := by
    unfold FP.Core.quantum
    rw [el]
    show max (-149 : Int) ((k : Int) + 0 - (24 - 1)) = _
    omega
  have key : ∃ c, FP.Core.nearest (FP.Core.unitsNum n 0 ((k : Int) - 23)) (FP.Core.unitsDen 1 0 ((k : Int) - 23)) = c ∧ 8388608 ≤ c ∧ c ≤ 16777216 := by
    refine ⟨_, rfl, ?_⟩
    unfold FP.Core.unitsNum FP.Core.unitsDen
    rw [show (0 - ((k : Int) - 23)).toNat = 23 - k by omega, show ((k : Int) - 23 - 0).toNat = k - 23 by omega, Nat.one_mul]
    rcases Nat.lt_or_ge 23 k with w | w
    · rw [show 23 - k = 0 by omega, Nat.pow_zero, Nat.mul_one]
      have e1 : 2 ^ k = 8388608 * 2 ^ (k - 23) := by rw [show (8388608 : Nat) = 2 ^ 23 by decide, ← Nat.pow_add, show 23 + (k - 23) = k by omega]
      have e2 : 2 ^ (k + 1) = 16777216 * 2 ^ (k - 23) := by rw [show (16777216 : Nat) = 2 ^ 24 by decide, ← Nat.pow_add, show 24 + (k - 23) = k + 1 by omega]
      have hd : 0 < 2 ^ (k - 23) := Nat.two_pow_pos _
      have a1 : 8388608 ≤ n / 2 ^ (k - 23) := (Nat.le_div_iff_mul_le hd).mpr (by omega)
      have a2 : n / 2 ^ (k - 23) < 16777216 := (Nat.div_lt_iff_lt_mul hd).mpr (by omega)
      have a3 := @near_in n (2 ^ (k - 23))
      omega
    · rw [show k - 23 = 0 by omega, Nat.pow_zero, near_1]
      have e1 : 2 ^ k * 2 ^ (23 - k) = 8388608 := by rw [← Nat.pow_add, show k + (23 - k) = 23 by omega]
      have e2 : 2 ^ (k + 1) * 2 ^ (23 - k) = 16777216 := by rw [← Nat.pow_add, show k + 1 + (23 - k) = 24 by omega]
      have a1 := Nat.mul_le_mul_right (2 ^ (23 - k)) k1
      have a2 := Nat.mul_le_mul_right (2 ^ (23 - k)) (Nat.le_of_lt k2)
      omega
  obtain ⟨c, ec, c1, c2⟩ := key
  have ed : ∃ s c q, FP.Core.round FP.Core.b32 (FP.Core.ofInt x.toInt) = .fin s c q ∧ 8388608 ≤ c ∧ c < 16777216 ∧ -149 ≤ q ∧ q ≤ 104 := by
    unfold FP.Core.ofInt
    rw [hn]
    show ∃ s9 c9 q9, FP.Core.roundRatio FP.Core.b32 (decide (x.toInt < 0)) n 1 0 = .fin s9 c9 q9 ∧ _
    unfold FP.Core.roundRatio
    rw [if_neg n0, eq]
    unfold FP.Core.roundAt
    rw [ec]
    unfold FP.Core.settle FP.Core.bound
    show ∃ s9 c9 q9, (if c < 16777216 then (if (k : Int) - 23 ≤ 104 then FP.Core.Datum.fin _ c ((k : Int) - 23) else _) else (if (k : Int) - 23 + 1 ≤ 104 then FP.Core.Datum.fin _ 8388608 ((k : Int) - 23 + 1) else _)) = _ ∧ _
    rw [if_pos (show (k : Int) - 23 ≤ 104 by omega), if_pos (show (k : Int) - 23 + 1 ≤ 104 by omega)]
    split
    · exact ⟨_, _, _, rfl, c1, by assumption, by omega, by omega⟩
    · exact ⟨_, _, _, rfl, by omega, by omega, by omega, by omega⟩
  obtain ⟨s, c', q, e, b1, b2, b3, b4⟩ := ed
  show ∃ t d r, FP.Core.decode FP.Core.b32 (UInt32.ofNat (FP.Core.encode FP.Core.b32 (FP.Core.round FP.Core.b32 (FP.Core.ofInt x.toInt)))).toNat = .fin t d r ∧ d ≠ 0
  rw [e]
  exact dec_enc32 b1 b2 b3 b4
theorem fdiv_nn {x y : Int32} (h0 : y ≠ 0) : vf_n32 (FP.fdiv (FP.i2f x) (FP.i2f y)) := by
  obtain ⟨s, c, q, e, hc⟩ := i2f_fin h0
  exact enc32_ok (quo_ok (k := 1) (i2f_nn x) (by rw [e]; exact decide_eq_true (Or.inr hc)) (by decide) (by decide) (by decide))
end FLT
