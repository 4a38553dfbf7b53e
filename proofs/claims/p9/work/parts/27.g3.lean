/-- a State's rows: 0 leaves, 1 thorns, 2 tastes, 3 ids, 4 tones, 5 weights, 6 parents, 7 minutes; 8 its numbers: 0 next id, 1 season, 2 votes, 3 carried, 4 begun, 5 pruned, 6 rejected, 7 vetoed, 8 adopted -/
def bkO (f0 f1 f2 f3 f4 f5 f6 f7 : Nat → Int32) (x0 x1 x2 x3 x4 x5 x6 x7 x8 : Int32) : Nat → Nat → Int32
  | 0 => f0
  | 1 => f1
  | 2 => f2
  | 3 => f3
  | 4 => f4
  | 5 => f5
  | 6 => f6
  | 7 => f7
  | _ => fun k => match k with
    | 0 => x0
    | 1 => x1
    | 2 => x2
    | 3 => x3
    | 4 => x4
    | 5 => x5
    | 6 => x6
    | 7 => x7
    | _ => x8
/-- the State that holds what the reference's row M holds -/
def BlC (b : Nat → Nat → Int32) (nh nm : Nat) (M : Nat → Int32) : Prop :=
  nh = hM M ∧ nm = nM M ∧ (∀ i, i < nh → b 0 i = M (11 + 3 * i) ∧ b 1 i = M (11 + 3 * i + 1) ∧ b 2 i = M (11 + 3 * i + 2)) ∧
  (∀ k, k < nm → b 3 k = M (29 + 4 * k) ∧ b 4 k = M (29 + 4 * k + 2) ∧ b 5 k = M (29 + 4 * k + 3) ∧ b 6 k = oi (prM M k)) ∧
  (∀ j, j < 4 → b 7 j = M (4 + j)) ∧ (b 8 0 = M 1 ∧ b 8 1 = M 3 ∧ b 8 2 = M 9 ∧ b 8 3 = M 10 ∧ b 8 8 = M 8) ∧ b 8 4 - b 8 5 - b 8 6 - b 8 7 - b 8 8 = smw M nm
theorem BlC.he {b : Nat → Nat → Int32} {nh nm B : Nat} {M : Nat → Int32} (h : BlC b nh nm M) (hC : CoW M B) : HeC (b 0) (b 1) (b 2) nh (lvM M) (thM M) (taM M) := by
  obtain ⟨h1, h2, h3, h4, h5, h6, h7⟩ := h
  obtain ⟨-, g1, g2, g3, g4⟩ := hC.2.1
  subst h1
  exact ⟨g1, fun i hi => by rw [(h3 i hi).1]; exact g2 i hi, fun i hi => by rw [(h3 i hi).2.1]; exact g3 i hi, fun i hi => by rw [(h3 i hi).2.2]; exact g4 i hi⟩
theorem BlC.mo {b : Nat → Nat → Int32} {nh nm B : Nat} {M : Nat → Int32} (h : BlC b nh nm M) (hC : CoW M B) : MoC (b 3) (b 4) (b 6) nm (idM M) (prM M) (tnM M) := by
  obtain ⟨h1, h2, h3, h4, h5, h6, h7⟩ := h
  obtain ⟨-, g1, g2, g3, g4, g5, g6⟩ := hC.1
  subst h2
  exact ⟨g1, fun i hi => by rw [(h4 i hi).1]; exact g2 i hi, fun i hi => (h4 i hi).2.2.2, g4, g5, fun i hi => by rw [(h4 i hi).2.1]; exact g6 i hi⟩
theorem BlC.fnd_eq {b : Nat → Nat → Int32} {nh nm : Nat} {M : Nat → Int32} (h : BlC b nh nm M) (x : Int32) : fnd (b 3) x nm = fnd (fun k => M (29 + 4 * k)) x nm := by
  have key : ∀ i, i ≤ nm → fnd (b 3) x i = fnd (fun k => M (29 + 4 * k)) x i := by
    intro i
    induction i with
    | zero => intro _; rfl
    | succ i ih =>
      intro hi
      show (match fnd (b 3) x i with | some k => some k | none => if b 3 i = x then some i else none) = (match fnd (fun k => M (29 + 4 * k)) x i with | some k => some k | none => if M (29 + 4 * i) = x then some i else none)
      rw [ih (by omega), (h.2.2.2.1 i (by omega)).1]
  exact key nm (Nat.le_refl _)
theorem smw_cong {m m' : Nat → Int32} : ∀ n, (∀ k, k < n → m' (29 + 4 * k + 3) = m (29 + 4 * k + 3)) → smw m' n = smw m n := by
  intro n
  induction n with
  | zero => intro _; rfl
  | succ n ih => intro h; show smw m' n + _ = smw m n + _; rw [ih (fun k hk => h k (by omega)), h n (by omega)]
theorem BlC.sm_eq {b : Nat → Nat → Int32} {nh nm : Nat} {M : Nat → Int32} (h : BlC b nh nm M) : smC (b 5) nm = smw M nm := by
  have key : ∀ i, i ≤ nm → smC (b 5) i = smw M i := by
    intro i
    induction i with
    | zero => intro _; rfl
    | succ i ih => intro hi; show smC (b 5) i + b 5 i = smw M i + _; rw [ih (by omega), (h.2.2.2.1 i (by omega)).2.2.1]
  exact key nm (Nat.le_refl _)
/-- rows that leave all but minutes, votes and the like -/
theorem i_sub1 (a b c d e w : Int32) : (a + w) - b - c - d - e = (a - b - c - d - e) + w := by
  simp only [Int32.sub_eq_add_neg]; ac_rfl
theorem i_sub2 (a b c d e w : Int32) : a - (b + w) - c - d - e = (a - b - c - d - e) - w := by
  simp only [Int32.sub_eq_add_neg, Int32.neg_add]; ac_rfl
theorem i_sub3 (a b c d e w : Int32) : a - b - (c + w) - d - e = (a - b - c - d - e) - w := by
  simp only [Int32.sub_eq_add_neg, Int32.neg_add]; ac_rfl
theorem i_sub4 (a b c d e w : Int32) : a - b - c - (d + w) - e = (a - b - c - d - e) - w := by
  simp only [Int32.sub_eq_add_neg, Int32.neg_add]; ac_rfl
theorem i_sub5 (a b c d e w : Int32) : a - b - c - d - (e + w) = (a - b - c - d - e) - w := by
  simp only [Int32.sub_eq_add_neg, Int32.neg_add]; ac_rfl
theorem hedgeF_o {m : Nat → Int32} {h j : Nat} {x y z : Int32} (h0 : j ≠ 0) (h1 : j < 11 + 3 * h ∨ 11 + 3 * h + 2 < j) : hedgeF m h x y z j = m j := by
  unfold hedgeF
  rw [if_neg h0, if_neg (by omega), if_neg (by omega), if_neg (by omega)]
theorem BlC.hedge {b : Nat → Nat → Int32} {nh nm B : Nat} {M : Nat → Int32} {x y z : Int32} (h : BlC b nh nm M) (hC : CoW M B) (h6 : nh < 6) : BlC (bkO (upd (b 0) nh x) (upd (b 1) nh y) (upd (b 2) nh z) (b 3) (b 4) (b 5) (b 6) (b 7) (b 8 0) (b 8 1) (b 8 2) (b 8 3) (b 8 4) (b 8 5) (b 8 6) (b 8 7) (b 8 8)) (nh + 1) nm (hedgeF M (hM M) x y z) := by
  obtain ⟨h1, h2, h3, h4, h5, h6', h7⟩ := h
  subst h1; subst h2
  have hF : FoR (hedgeF M (hM M) x y z) (nM M) (idM M) (prM M) (tnM M) := FoR.he hC.1 (fun j hj => hedgeF_o (by omega) (by omega))
  have hh : hM (hedgeF M (hM M) x y z) = hM M + 1 := by
    unfold hM hedgeF; rw [if_pos rfl]; exact nI_clamp (by unfold hM at h6; omega)
  have hn := hF.n_eq
  refine ⟨hh.symm, hn.symm, fun i hi => ?_, fun k hk => ?_, fun j hj => ?_, ?_, ?_⟩
  · show upd (b 0) (hM M) x i = _ ∧ upd (b 1) (hM M) y i = _ ∧ upd (b 2) (hM M) z i = _
    by_cases e : i = hM M
    · subst e
      rw [pk_us, pk_us, pk_us]
      unfold hedgeF
      rw [if_neg (by omega), if_neg (by omega), if_neg (by omega), if_pos rfl, if_neg (by omega), if_neg (by omega), if_pos rfl, if_neg (by omega), if_pos rfl]
      exact ⟨rfl, rfl, rfl⟩
    · rw [pk_un e, pk_un e, pk_un e, hedgeF_o (by omega) (by omega), hedgeF_o (by omega) (by omega), hedgeF_o (by omega) (by omega)]
      exact h3 i (by omega)
  · show b 3 k = _ ∧ b 4 k = _ ∧ b 5 k = _ ∧ b 6 k = _
    rw [hF.pr_eq hk, hedgeF_o (by omega) (by omega), hedgeF_o (by omega) (by omega), hedgeF_o (by omega) (by omega)]
    exact h4 k hk
  · show b 7 j = _
    rw [hedgeF_o (by omega) (by omega)]; exact h5 j hj
  · show b 8 0 = _ ∧ b 8 1 = _ ∧ b 8 2 = _ ∧ b 8 3 = _ ∧ b 8 8 = _
    rw [hedgeF_o (by omega) (by omega), hedgeF_o (by omega) (by omega), hedgeF_o (by omega) (by omega), hedgeF_o (by omega) (by omega), hedgeF_o (by omega) (by omega)]
    exact h6'
  · show b 8 4 - b 8 5 - b 8 6 - b 8 7 - b 8 8 = _
    rw [h7]
    exact (smw_cong _ (fun k hk => hedgeF_o (by omega) (by omega))).symm
theorem BlC.addm {b : Nat → Nat → Int32} {nh nm B t : Nat} {po : Option Nat} {M : Nat → Int32} {w : Int32} (h : BlC b nh nm M) (hC : CoW M B) (hB : B < 1048576) (h12 : nm < 12) (hpo : ∀ j, po = some j → j < nm) (ht : t ≤ 9) : BlC (bkO (b 0) (b 1) (b 2) (upd (b 3) nm (b 8 0)) (upd (b 4) nm (nI t)) (upd (b 5) nm w) (upd (b 6) nm (oi po)) (b 7) (b 8 0 + nI 1) (b 8 1) (b 8 2) (b 8 3) (b 8 4 + w) (b 8 5) (b 8 6) (b 8 7) (b 8 8)) nh (nm + 1) (addF M (nM M) (oi (po.map (idM M))) (nI t) w) := by
  obtain ⟨h1, h2, h3, h4, h5, h6', h7⟩ := h
  subst h1; subst h2
  obtain ⟨c1, c2, c3, nx, c4, c5, c6⟩ := hC
  have hF := FoR.add (n := nM M) c1 c5 c6 (by omega) h12 hpo ht w
  have hH : HeR (addF M (nM M) (oi (po.map (idM M))) (nI t) w) (hM M) (lvM M) (thM M) (taM M) := HeR.cong c2 (fun j hj => addF_o (by omega) (by omega) (by omega))
  have h12' := c2.2.1
  refine ⟨hH.eqs.1.symm, hF.n_eq.symm, fun i hi => ?_, fun k hk => ?_, fun j hj => ?_, ?_, ?_⟩
  · show b 0 i = _ ∧ b 1 i = _ ∧ b 2 i = _
    rw [addF_o (by omega) (by omega) (by omega), addF_o (by omega) (by omega) (by omega), addF_o (by omega) (by omega) (by omega)]
    exact h3 i hi
  · show upd (b 3) (nM M) (b 8 0) k = _ ∧ upd (b 4) (nM M) (nI t) k = _ ∧ upd (b 5) (nM M) w k = _ ∧ upd (b 6) (nM M) (oi po) k = _
    rw [hF.pr_eq hk]
    by_cases e : k = nM M
    · subst e
      rw [pk_us, pk_us, pk_us, pk_us, if_pos rfl, h6'.1]
      unfold addF
      rw [if_neg (by omega), if_neg (by omega), if_neg (by omega), if_neg (by omega), if_neg (by omega), if_pos rfl, if_neg (by omega), if_neg (by omega), if_neg (by omega), if_pos rfl, if_neg (by omega), if_neg (by omega), if_pos rfl]
      exact ⟨rfl, rfl, rfl, rfl⟩
    · rw [pk_un e, pk_un e, pk_un e, pk_un e, if_neg e, addF_o (by omega) (by omega) (by omega), addF_o (by omega) (by omega) (by omega), addF_o (by omega) (by omega) (by omega)]
      exact h4 k (by omega)
  · show b 7 j = _
    rw [addF_o (by omega) (by omega) (by omega)]; exact h5 j hj
  · show b 8 0 + nI 1 = _ ∧ b 8 1 = _ ∧ b 8 2 = _ ∧ b 8 3 = _ ∧ b 8 8 = _
    rw [addF_o (j := 3) (by omega) (by omega) (by omega), addF_o (j := 9) (by omega) (by omega) (by omega), addF_o (j := 10) (by omega) (by omega) (by omega), addF_o (j := 8) (by omega) (by omega) (by omega), h6'.1]
    exact ⟨by unfold addF; rw [if_pos rfl], h6'.2⟩
  · show (b 8 4 + w) - b 8 5 - b 8 6 - b 8 7 - b 8 8 = smw _ (nM M) + _
    rw [i_sub1, h7, smw_cong (m := M) (nM M) (fun k hk => addF_o (by omega) (by omega) (by omega))]
    congr 1
    unfold addF
    rw [if_neg (by omega), if_neg (by omega), if_pos rfl]
/-- the sum without one -/
theorem smw_drop {m : Nat → Int32} {k n : Nat} (hk : k < n) (hn : n ≤ 12) : smw (dropF m k n) (n - 1) = smw m n - m (29 + 4 * k + 3) := by
  have low : ∀ i, i ≤ k → smw (dropF m k n) i = smw m i := fun i hi => smw_cong i (fun j hj => dropF_lo (by omega) (by omega) (by omega))
  have key : ∀ i, k ≤ i → i + 1 ≤ n → smw (dropF m k n) i + m (29 + 4 * k + 3) = smw m (i + 1) := by
    intro i
    induction i with
    | zero =>
      intro h1 h2
      have : k = 0 := by omega
      subst this
      rfl
    | succ i ih =>
      intro h1 h2
      by_cases e : k = i + 1
      · subst e
        rw [low _ (Nat.le_refl _)]
        rfl
      · have h3 := ih (by omega) (by omega)
        show (smw (dropF m k n) i + dropF m k n (29 + 4 * i + 3)) + m (29 + 4 * k + 3) = smw m (i + 1) + m (29 + 4 * (i + 1) + 3)
        rw [← h3, dropF_hi (by omega) (by omega), show 29 + 4 * i + 3 + 4 = 29 + 4 * (i + 1) + 3 by omega]
        ac_rfl
  have h5 := key (n - 1) (by omega) (by omega)
  rw [show n - 1 + 1 = n by omega] at h5
  rw [← h5, Int32.add_sub_cancel]
theorem BlC.drp {b : Nat → Nat → Int32} {nh nm B k : Nat} {M : Nat → Int32} {x5 x6 x7 : Int32} (h : BlC b nh nm M) (hC : CoW M B) (hk : k < nm) (ht : ∀ j, j < nm → prM M j ≠ some k) (hx : b 8 4 - x5 - x6 - x7 - b 8 8 = smw M nm - b 5 k) : BlC (bkO (b 0) (b 1) (b 2) (rmF (b 3) k nm) (rmF (b 4) k nm) (rmF (b 5) k nm) (rmP (b 6) k nm) (b 7) (b 8 0) (b 8 1) (b 8 2) (b 8 3) (b 8 4) x5 x6 x7 (b 8 8)) nh (nm - 1) (dropF M k nm) := by
  have hO := h.mo hC
  obtain ⟨h1, h2, h3, h4, h5, h6', h7⟩ := h
  subst h1; subst h2
  obtain ⟨c1, c2, c3, c4⟩ := hC
  have h12 := c1.n12
  have h6h := c2.2.1
  have hF := FoR.drop c1 hk ht
  have hH : HeR (dropF M k (nM M)) (hM M) (lvM M) (thM M) (taM M) := HeR.cong c2 (fun j hj => dropF_low (by omega) (by omega))
  refine ⟨hH.eqs.1.symm, hF.n_eq.symm, fun i hi => ?_, fun j hj => ?_, fun j hj => ?_, ?_, ?_⟩
  · show b 0 i = _ ∧ b 1 i = _ ∧ b 2 i = _
    rw [dropF_low (by omega) (by omega), dropF_low (by omega) (by omega), dropF_low (by omega) (by omega)]
    exact h3 i hi
  · show rmF (b 3) k (nM M) j = _ ∧ rmF (b 4) k (nM M) j = _ ∧ rmF (b 5) k (nM M) j = _ ∧ rmP (b 6) k (nM M) j = _
    have hs := sk_lt (k := k) hj
    rw [hF.pr_eq hj, rmF_at hj, rmF_at hj, rmF_at hj, rmP_at hk h12 hO.2.2.1 hO.2.2.2.1 ht hj]
    have a0 := dropF_at (m := M) (k := k) (n := nM M) (j := j) (w := 0) (by omega) (by omega)
    have a2 := dropF_at (m := M) (k := k) (n := nM M) (j := j) (w := 2) (by omega) (by omega)
    have a3 := dropF_at (m := M) (k := k) (n := nM M) (j := j) (w := 3) (by omega) (by omega)
    rw [Nat.add_zero, Nat.add_zero] at a0
    rw [a0, a2, a3]
    exact ⟨(h4 _ hs).1, (h4 _ hs).2.1, (h4 _ hs).2.2.1, rfl⟩
  · show b 7 j = _
    rw [dropF_low (by omega) (by omega)]; exact h5 j hj
  · show b 8 0 = _ ∧ b 8 1 = _ ∧ b 8 2 = _ ∧ b 8 3 = _ ∧ b 8 8 = _
    rw [dropF_low (by omega) (by omega), dropF_low (by omega) (by omega), dropF_low (by omega) (by omega), dropF_low (by omega) (by omega), dropF_low (by omega) (by omega)]
    exact h6'
  · show b 8 4 - x5 - x6 - x7 - b 8 8 = _
    rw [hx, smw_drop hk h12, (h4 k hk).2.2.1]
theorem BlC.cut {b : Nat → Nat → Int32} {nh nm B k : Nat} {M : Nat → Int32} (h : BlC b nh nm M) (hC : CoW M B) (hk : k < nm) (ht : ∀ j, j < nm → prM M j ≠ some k) : BlC (bkO (b 0) (b 1) (b 2) (rmF (b 3) k nm) (rmF (b 4) k nm) (rmF (b 5) k nm) (rmP (b 6) k nm) (b 7) (b 8 0) (b 8 1) (b 8 2) (b 8 3) (b 8 4) (b 8 5 + b 5 k) (b 8 6) (b 8 7) (b 8 8)) nh (nm - 1) (dropF M k nm) :=
  h.drp hC hk ht (by rw [i_sub2, h.2.2.2.2.2.2])
/-- the same without the accounts -/
def BlQ (b : Nat → Nat → Int32) (nh nm : Nat) (M : Nat → Int32) : Prop :=
  nh = hM M ∧ nm = nM M ∧ (∀ i, i < nh → b 0 i = M (11 + 3 * i) ∧ b 1 i = M (11 + 3 * i + 1) ∧ b 2 i = M (11 + 3 * i + 2)) ∧
  (∀ k, k < nm → b 3 k = M (29 + 4 * k) ∧ b 4 k = M (29 + 4 * k + 2) ∧ b 5 k = M (29 + 4 * k + 3) ∧ b 6 k = oi (prM M k)) ∧
  (∀ j, j < 4 → b 7 j = M (4 + j)) ∧ (b 8 0 = M 1 ∧ b 8 1 = M 3 ∧ b 8 2 = M 9 ∧ b 8 3 = M 10 ∧ b 8 8 = M 8)
theorem BlC.q {b : Nat → Nat → Int32} {nh nm : Nat} {M : Nat → Int32} (h : BlC b nh nm M) : BlQ b nh nm M := ⟨h.1, h.2.1, h.2.2.1, h.2.2.2.1, h.2.2.2.2.1, h.2.2.2.2.2.1⟩
theorem BlC.acc {b : Nat → Nat → Int32} {nh nm : Nat} {M : Nat → Int32} (h : BlC b nh nm M) : b 8 4 - b 8 5 - b 8 6 - b 8 7 - b 8 8 = smw M nm := h.2.2.2.2.2.2
theorem BlQ.c {b : Nat → Nat → Int32} {nh nm : Nat} {M : Nat → Int32} (h : BlQ b nh nm M) (ha : b 8 4 - b 8 5 - b 8 6 - b 8 7 - b 8 8 = smw M nm) : BlC b nh nm M := ⟨h.1, h.2.1, h.2.2.1, h.2.2.2.1, h.2.2.2.2.1, h.2.2.2.2.2, ha⟩
theorem BlQ.drp {b b' : Nat → Nat → Int32} {nh nm k : Nat} {M : Nat → Int32} (h : BlQ b nh nm M) (hF : FoW M) (hH : HeW M) (hk : k < nm) (ht : ∀ j, j < nm → prM M j ≠ some k) (e0 : b' 0 = b 0) (e1 : b' 1 = b 1) (e2 : b' 2 = b 2) (e3 : b' 3 = rmF (b 3) k nm) (e4 : b' 4 = rmF (b 4) k nm) (e5 : b' 5 = rmF (b 5) k nm) (e6 : b' 6 = rmP (b 6) k nm) (e7 : b' 7 = b 7) (e8 : b' 8 0 = b 8 0 ∧ b' 8 1 = b 8 1 ∧ b' 8 2 = b 8 2 ∧ b' 8 3 = b 8 3 ∧ b' 8 8 = b 8 8) : BlQ b' nh (nm - 1) (dropF M k nm) := by
  obtain ⟨h1, h2, h3, h4, h5, h6'⟩ := h
  subst h1; subst h2
  have h12 := hF.n12
  have h6h := hH.2.1
  have hF2 := FoR.drop hF hk ht
  have hH2 : HeR (dropF M k (nM M)) (hM M) (lvM M) (thM M) (taM M) := HeR.cong hH (fun j hj => dropF_low (by omega) (by omega))
  refine ⟨hH2.eqs.1.symm, hF2.n_eq.symm, fun i hi => ?_, fun j hj => ?_, fun j hj => ?_, ?_⟩
  · rw [e0, e1, e2, dropF_low (by omega) (by omega), dropF_low (by omega) (by omega), dropF_low (by omega) (by omega)]
    exact h3 i hi
  · have hs := sk_lt (k := k) hj
    rw [e3, e4, e5, e6, hF2.pr_eq hj, rmF_at hj, rmF_at hj, rmF_at hj, rmP_at hk h12 (fun i hi => (h4 i hi).2.2.2) hF.ok ht hj]
    have a0 := dropF_at (m := M) (k := k) (n := nM M) (j := j) (w := 0) (by omega) (by omega)
    have a2 := dropF_at (m := M) (k := k) (n := nM M) (j := j) (w := 2) (by omega) (by omega)
    have a3 := dropF_at (m := M) (k := k) (n := nM M) (j := j) (w := 3) (by omega) (by omega)
    rw [Nat.add_zero, Nat.add_zero] at a0
    rw [a0, a2, a3]
    exact ⟨(h4 _ hs).1, (h4 _ hs).2.1, (h4 _ hs).2.2.1, rfl⟩
  · rw [e7, dropF_low (by omega) (by omega)]; exact h5 j hj
  · rw [e8.1, e8.2.1, e8.2.2.1, e8.2.2.2.1, e8.2.2.2.2, dropF_low (by omega) (by omega), dropF_low (by omega) (by omega), dropF_low (by omega) (by omega), dropF_low (by omega) (by omega), dropF_low (by omega) (by omega)]
    exact h6'
/-- the reference's thorns and its flag, as the class's -/
theorem vtF_row {t : Nat} {M : Nat → Int32} (H : HeW M) : ∀ i, i ≤ hM M → (∀ j, j < hM M → (vtF t M i).1 (11 + 3 * j + 1) = nI (thV (vvF (thM M) (taM M) t) (thM M) i j)) ∧ (vtF t M i).2 = anV (vvF (thM M) (taM M) t) i := by
  intro i
  induction i with
  | zero =>
    intro _
    refine ⟨fun j hj => ?_, rfl⟩
    rw [thV_0]
    exact (H.2.2.2.1 j hj).1
  | succ i ih =>
    intro hi
    obtain ⟨r1, r2⟩ := ih (by omega)
    obtain ⟨a1, a2, a3, a4, a5⟩ := vtF_ok (t := t) H i (by omega)
    have ht : thM (vtF t M i).1 i = thM M i := by
      unfold thM
      rw [r1 i (by omega), thV_i]
      exact nI_clamp (by have := (H.2.2.2.1 i (by omega)).2; unfold thM at this ⊢; omega)
    have hd : vetB (dif (taM (vtF t M i).1 i) t) (thM (vtF t M i).1 i) = vvF (thM M) (taM M) t i := by rw [ht, a5 i (by omega)]; rfl
    unfold vtF
    cases hv : vvF (thM M) (taM M) t i with
    | true =>
      rw [hd, hv, if_pos rfl]
      refine ⟨fun j hj => ?_, anV_1 hv⟩
      dsimp only
      rw [ht]
      by_cases e : j = i
      · subst e
        rw [pk_us]
        unfold thV
        rw [if_pos ⟨by omega, hv⟩]
      · rw [pk_un (by omega), r1 j hj]
        congr 1
        unfold thV
        by_cases q : j < i ∧ vvF (thM M) (taM M) t j = true
        · rw [if_pos q, if_pos ⟨by omega, q.2⟩]
        · rw [if_neg q, if_neg (fun z => q ⟨by omega, z.2⟩)]
    | false =>
      rw [hd, hv, if_neg (by decide)]
      refine ⟨fun j hj => ?_, by rw [r2]; exact anV_0 hv⟩
      rw [r1 j hj]
      congr 1
      unfold thV
      by_cases q : j < i ∧ vvF (thM M) (taM M) t j = true
      · rw [if_pos q, if_pos ⟨by omega, q.2⟩]
      · rw [if_neg q, if_neg (fun z => q ⟨by
          rcases Nat.lt_or_ge j i with w | w
          · exact w
          · have : j = i := by omega
            subst this; rw [hv] at z; exact absurd z.2 (by decide), z.2⟩)]
/-- behind the vote of the hedges, and its count -/
theorem BlQ.vt {b : Nat → Nat → Int32} {nh nm t : Nat} {M f : Nat → Int32} (h : BlQ b nh nm M) (hF : FoW M) (hH : HeW M) (hf : ∀ i, i < nh → f i = nI (thV (vvF (thM M) (taM M) t) (thM M) nh i)) {b' : Nat → Nat → Int32} (e : b' = bkO (b 0) f (b 2) (b 3) (b 4) (b 5) (b 6) (b 7) (b 8 0) (b 8 1) (b 8 2 + nI 1) (b 8 3) (b 8 4) (b 8 5) (b 8 6) (b 8 7) (b 8 8)) : BlQ b' nh nm (upd (vtF t M (hM M)).1 9 ((vtF t M (hM M)).1 9 + nI 1)) ∧ FoR (upd (vtF t M (hM M)).1 9 ((vtF t M (hM M)).1 9 + nI 1)) (nM M) (idM M) (prM M) (tnM M) ∧ HeW (upd (vtF t M (hM M)).1 9 ((vtF t M (hM M)).1 9 + nI 1)) := by
  obtain ⟨h1, h2, h3, h4, h5, h6⟩ := h
  subst h1; subst h2; subst e
  obtain ⟨a1, a2, a3, a4, a5⟩ := vtF_ok (t := t) hH (hM M) (Nat.le_refl _)
  have hr := (vtF_row (t := t) hH (hM M) (Nat.le_refl _)).1
  have h6h := hH.2.1
  have hF1 : FoR (vtF t M (hM M)).1 (nM M) (idM M) (prM M) (tnM M) := FoR.he hF (fun j hj => a3 j (by omega))
  have hF2 : FoR (upd (vtF t M (hM M)).1 9 ((vtF t M (hM M)).1 9 + nI 1)) (nM M) (idM M) (prM M) (tnM M) := hF1.he (fun j hj => pk_un (by omega))
  have hH2 : HeR (upd (vtF t M (hM M)).1 9 ((vtF t M (hM M)).1 9 + nI 1)) (hM (vtF t M (hM M)).1) (lvM (vtF t M (hM M)).1) (thM (vtF t M (hM M)).1) (taM (vtF t M (hM M)).1) := HeR.cong a1 (fun j hj => pk_un (by omega))
  refine ⟨⟨by rw [hH2.eqs.1, a2], hF2.n_eq.symm, fun i hi => ?_, fun k hk => ?_, fun j hj => ?_, ?_⟩, hF2, hH2.w⟩
  · show b 0 i = _ ∧ f i = _ ∧ b 2 i = _
    rw [pk_un (by omega), pk_un (by omega), pk_un (by omega), hr i hi, hf i hi]
    refine ⟨?_, rfl, ?_⟩
    · rw [(a1.2.2.1 i (by rw [a2]; exact hi)).1, a4 i hi, (h3 i hi).1]; exact (hH.2.2.1 i hi).1
    · rw [(a1.2.2.2.2 i (by rw [a2]; exact hi)).1, a5 i hi, (h3 i hi).2.2]; exact (hH.2.2.2.2 i hi).1
  · show b 3 k = _ ∧ b 4 k = _ ∧ b 5 k = _ ∧ b 6 k = _
    rw [hF2.pr_eq hk, pk_un (by omega), pk_un (by omega), pk_un (by omega), a3 _ (by omega), a3 _ (by omega), a3 _ (by omega)]
    exact h4 k hk
  · show b 7 j = _
    rw [pk_un (by omega), a3 _ (by omega)]; exact h5 j hj
  · show b 8 0 = _ ∧ b 8 1 = _ ∧ b 8 2 + nI 1 = _ ∧ b 8 3 = _ ∧ b 8 8 = _
    rw [pk_un (by omega), pk_un (by omega), pk_us, pk_un (by omega), pk_un (by omega), a3 _ (by omega), a3 _ (by omega), a3 _ (by omega), a3 _ (by omega), a3 _ (by omega)]
    exact ⟨h6.1, h6.2.1, by rw [h6.2.2.1], h6.2.2.2⟩
theorem seaF_row {s : Nat} {M : Nat → Int32} (H : HeW M) : ∀ i, i ≤ hM M → ∀ j, j < hM M → (seaF s M i) (11 + 3 * j) = nI (lvS s (lvM M) i j) ∧ (seaF s M i) (11 + 3 * j + 1) = nI (thS s (thM M) i j) ∧ (seaF s M i) (11 + 3 * j + 2) = M (11 + 3 * j + 2) := by
  intro i
  induction i with
  | zero =>
    intro _ j hj
    rw [lvS_0, thS_0]
    exact ⟨(H.2.2.1 j hj).1, (H.2.2.2.1 j hj).1, rfl⟩
  | succ i ih =>
    intro hi j hj
    obtain ⟨r1, r2, r3⟩ := ih (by omega) i (by omega)
    have hl : lvM (seaF s M i) i = lvM M i := by
      unfold lvM; rw [r1, lvS_i]; exact nI_clamp (by have := (H.2.2.1 i (by omega)).2.2; unfold lvM at this ⊢; omega)
    have ht : thM (seaF s M i) i = thM M i := by
      unfold thM; rw [r2, thS_i]; exact nI_clamp (by have := (H.2.2.2.1 i (by omega)).2; unfold thM at this ⊢; omega)
    show upd (upd (seaF s M i) (11 + 3 * i) (nI (leafN s (lvM (seaF s M i) i)))) (11 + 3 * i + 1) (nI (thM (seaF s M i) i + taddN s (thM (seaF s M i) i))) (11 + 3 * j) = _ ∧ upd (upd (seaF s M i) (11 + 3 * i) (nI (leafN s (lvM (seaF s M i) i)))) (11 + 3 * i + 1) (nI (thM (seaF s M i) i + taddN s (thM (seaF s M i) i))) (11 + 3 * j + 1) = _ ∧ upd (upd (seaF s M i) (11 + 3 * i) (nI (leafN s (lvM (seaF s M i) i)))) (11 + 3 * i + 1) (nI (thM (seaF s M i) i + taddN s (thM (seaF s M i) i))) (11 + 3 * j + 2) = _
    rw [hl, ht]
    obtain ⟨q1, q2, q3⟩ := ih (by omega) j hj
    by_cases e : j = i
    · subst e
      rw [pk_un (by omega), pk_us, pk_us, pk_un (by omega), pk_un (by omega)]
      unfold lvS thS
      rw [if_pos (by omega), if_pos (by omega)]
      exact ⟨rfl, rfl, q3⟩
    · rw [pk_un (by omega), pk_un (by omega), pk_un (by omega), pk_un (by omega), pk_un (by omega), pk_un (by omega), q1, q2]
      refine ⟨?_, ?_, q3⟩
      · congr 1; unfold lvS
        by_cases q : j < i
        · rw [if_pos q, if_pos (by omega)]
        · rw [if_neg q, if_neg (by omega)]
      · congr 1; unfold thS
        by_cases q : j < i
        · rw [if_pos q, if_pos (by omega)]
        · rw [if_neg q, if_neg (by omega)]
theorem BlC.sea {b : Nat → Nat → Int32} {nh nm B s : Nat} {M f q : Nat → Int32} (h : BlC b nh nm M) (hC : CoW M B) (hf : ∀ i, i < nh → f i = nI (lvS s (lvM M) nh i)) (hq : ∀ i, i < nh → q i = nI (thS s (thM M) nh i)) : BlC (bkO f q (b 2) (b 3) (b 4) (b 5) (b 6) (b 7) (b 8 0) (nI s) (b 8 2) (b 8 3) (b 8 4) (b 8 5) (b 8 6) (b 8 7) (b 8 8)) nh nm (seaF s (upd M 3 (nI s)) (hM M)) := by
  obtain ⟨h1, h2, h3, h4, h5, h6, h7⟩ := h
  subst h1; subst h2
  have h6h := hC.2.1.2.1
  have hH0 : HeR (upd M 3 (nI s)) (hM M) (lvM M) (thM M) (taM M) := HeR.cong hC.2.1 (fun j hj => pk_un (by omega))
  have e1 := hH0.eqs
  obtain ⟨a1, a2, a3⟩ := seaF_ok (s := s) hH0.w (hM M) (by rw [e1.1]; exact Nat.le_refl _)
  have hr := seaF_row (s := s) hH0.w (hM M) (by rw [e1.1]; exact Nat.le_refl _)
  have hF : FoR (seaF s (upd M 3 (nI s)) (hM M)) (nM M) (idM M) (prM M) (tnM M) := FoR.he hC.1 (fun j hj => by rw [a3 j (by omega), pk_un (by omega)])
  refine ⟨by rw [a2, e1.1], hF.n_eq.symm, fun i hi => ?_, fun k hk => ?_, fun j hj => ?_, ?_, ?_⟩
  · show f i = _ ∧ q i = _ ∧ b 2 i = _
    obtain ⟨r1, r2, r3⟩ := hr i (by rw [e1.1]; exact hi)
    rw [r1, r2, r3, hf i hi, hq i hi, pk_un (by omega)]
    refine ⟨?_, ?_, (h3 i hi).2.2⟩
    · congr 1; unfold lvS; rw [if_pos hi, if_pos hi, e1.2.1 i hi]
    · congr 1; unfold thS; rw [if_pos hi, if_pos hi, e1.2.2.1 i hi]
  · show b 3 k = _ ∧ b 4 k = _ ∧ b 5 k = _ ∧ b 6 k = _
    rw [hF.pr_eq hk, a3 _ (by omega), a3 _ (by omega), a3 _ (by omega), pk_un (by omega), pk_un (by omega), pk_un (by omega)]
    exact h4 k hk
  · show b 7 j = _
    rw [a3 _ (by omega), pk_un (by omega)]; exact h5 j hj
  · show b 8 0 = _ ∧ nI s = _ ∧ b 8 2 = _ ∧ b 8 3 = _ ∧ b 8 8 = _
    rw [a3 _ (by omega), a3 _ (by omega), a3 _ (by omega), a3 _ (by omega), a3 _ (by omega), pk_un (by omega), pk_us, pk_un (by omega), pk_un (by omega), pk_un (by omega)]
    exact ⟨h6.1, rfl, h6.2.2⟩
  · show b 8 4 - b 8 5 - b 8 6 - b 8 7 - b 8 8 = _
    rw [h7]
    exact (smw_cong _ (fun k hk => by rw [a3 _ (by omega), pk_un (by omega)])).symm
theorem carF_fh {M : Nat → Int32} {q : Nat} (hF : FoR M (nM M) (idM M) (prM M) (tnM M)) (hH : HeW M) (hs : snM M < 4) : FoR (carF M q) (nM M) (idM M) (prM M) (tnM M) ∧ HeR (carF M q) (hM M) (lvM M) (thM M) (taM M) :=
  ⟨hF.cong (fun j hj => carF_keep hs (by rcases hj with hj | hj; exact Or.inr (Or.inr (Or.inl hj)); exact Or.inr (Or.inr (Or.inr (Or.inr (Or.inr hj)))))), HeR.cong hH (fun j hj => carF_keep hs (by rcases hj with hj | hj; exact Or.inl hj; exact Or.inr (Or.inr (Or.inr (Or.inr (Or.inl hj))))))⟩
theorem BlQ.car0 {b b' : Nat → Nat → Int32} {nh nm q s : Nat} {M : Nat → Int32} (h : BlQ b nh nm M) (hF : FoW M) (hH : HeW M) (hs : M 3 = nI s) (hs4 : s < 4) (hq : q < nm) (hp : prM M q = none) (e : b' = bkO (b 0) (b 1) (b 2) (b 3) (b 4) (b 5) (b 6) (upd (b 7) s (b 7 s + nI 1)) (b 8 0) (b 8 1) (b 8 2) (b 8 3 + nI 1) (b 8 4) (b 8 5) (b 8 6) (b 8 7) (b 8 8 + b 5 q)) : BlQ b' nh nm (carF M q) ∧ FoR (carF M q) (nM M) (idM M) (prM M) (tnM M) ∧ HeW (carF M q) ∧ ∀ k, carF M q (29 + 4 * k + 3) = M (29 + 4 * k + 3) := by
  obtain ⟨h1, h2, h3, h4, h5, h6⟩ := h
  subst h1; subst h2; subst e
  have hsn : snM M = s := snM_eq hs hs4
  obtain ⟨f1, f2⟩ := carF_fh (q := q) hF hH (by rw [hsn]; exact hs4)
  have h12 := hF.n12
  have h6h := hH.2.1
  have o : ∀ j, j ≠ 8 → j ≠ 4 + s → j ≠ 10 → carF M q j = M j := fun j a1 a2 a3 => by
    unfold carF; rw [hp, hsn]; dsimp only; rw [pk_un a1, pk_un a2, pk_un a3]
  have o8 : carF M q 8 = M 8 + M (29 + 4 * q + 3) := by unfold carF; rw [hp]; dsimp only; rw [pk_us]
  have o4 : carF M q (4 + s) = M (4 + s) + nI 1 := by unfold carF; rw [hp, hsn]; dsimp only; rw [pk_un (by omega), pk_us]
  have o10 : carF M q 10 = M 10 + nI 1 := by unfold carF; rw [hp, hsn]; dsimp only; rw [pk_un (by omega), pk_un (by omega), pk_us]
  refine ⟨⟨f2.eqs.1.symm, f1.n_eq.symm, fun i hi => ?_, fun k hk => ?_, fun j hj => ?_, ?_⟩, f1, f2.w, fun k => o _ (by omega) (by omega) (by omega)⟩
  · show b 0 i = _ ∧ b 1 i = _ ∧ b 2 i = _
    rw [o _ (by omega) (by omega) (by omega), o _ (by omega) (by omega) (by omega), o _ (by omega) (by omega) (by omega)]
    exact h3 i hi
  · show b 3 k = _ ∧ b 4 k = _ ∧ b 5 k = _ ∧ b 6 k = _
    rw [f1.pr_eq hk, o _ (by omega) (by omega) (by omega), o _ (by omega) (by omega) (by omega), o _ (by omega) (by omega) (by omega)]
    exact h4 k hk
  · show upd (b 7) s (b 7 s + nI 1) j = _
    by_cases e : j = s
    · subst e; rw [pk_us, o4, h5 j hj]
    · rw [pk_un e, o _ (by omega) (by omega) (by omega)]; exact h5 j hj
  · show b 8 0 = _ ∧ b 8 1 = _ ∧ b 8 2 = _ ∧ b 8 3 + nI 1 = _ ∧ b 8 8 + b 5 q = _
    rw [o 1 (by omega) (by omega) (by omega), o 3 (by omega) (by omega) (by omega), o 9 (by omega) (by omega) (by omega), o10, o8, h6.2.2.2.1, h6.2.2.2.2, (h4 q hq).2.2.1]
    exact ⟨h6.1, h6.2.1, h6.2.2.1, rfl, rfl⟩
theorem smw_put {m m' : Nat → Int32} {p : Nat} {w : Int32} (ho : ∀ k, k ≠ p → m' (29 + 4 * k + 3) = m (29 + 4 * k + 3)) (hp : m' (29 + 4 * p + 3) = m (29 + 4 * p + 3) + w) : ∀ n, p < n → smw m' n = smw m n + w := by
  intro n
  induction n with
  | zero => intro h; omega
  | succ n ih =>
    intro h
    show smw m' n + m' (29 + 4 * n + 3) = (smw m n + m (29 + 4 * n + 3)) + w
    by_cases e : n = p
    · subst e
      rw [hp, smw_cong n (fun k hk => ho k (by omega))]
      ac_rfl
    · rw [ih (by omega), ho n e]
      ac_rfl
theorem BlQ.car1 {b b' : Nat → Nat → Int32} {nh nm q p s : Nat} {M : Nat → Int32} (h : BlQ b nh nm M) (hF : FoW M) (hH : HeW M) (hs : M 3 = nI s) (hs4 : s < 4) (hq : q < nm) (hp : prM M q = some p) (e : b' = bkO (b 0) (b 1) (b 2) (b 3) (b 4) (upd (b 5) p (b 5 p + b 5 q)) (b 6) (b 7) (b 8 0) (b 8 1) (b 8 2) (b 8 3 + nI 1) (b 8 4) (b 8 5) (b 8 6) (b 8 7) (b 8 8)) : BlQ b' nh nm (carF M q) ∧ FoR (carF M q) (nM M) (idM M) (prM M) (tnM M) ∧ HeW (carF M q) ∧ smw (carF M q) nm = smw M nm + b 5 q ∧ carF M q (29 + 4 * q + 3) = M (29 + 4 * q + 3) := by
  obtain ⟨h1, h2, h3, h4, h5, h6⟩ := h
  subst h1; subst h2; subst e
  have hsn : snM M = s := snM_eq hs hs4
  obtain ⟨f1, f2⟩ := carF_fh (q := q) hF hH (by rw [hsn]; exact hs4)
  have h12 := hF.n12
  have h6h := hH.2.1
  have hpq := hF.ok q p hq hp
  have o : ∀ j, j ≠ 29 + 4 * p + 3 → j ≠ 10 → carF M q j = M j := fun j a1 a3 => by
    unfold carF; rw [hp]; dsimp only; rw [pk_un a1, pk_un a3]
  have op : carF M q (29 + 4 * p + 3) = M (29 + 4 * p + 3) + M (29 + 4 * q + 3) := by unfold carF; rw [hp]; dsimp only; rw [pk_us]
  have o10 : carF M q 10 = M 10 + nI 1 := by unfold carF; rw [hp]; dsimp only; rw [pk_un (by omega), pk_us]
  have w5 := (h4 q hq).2.2.1
  refine ⟨⟨f2.eqs.1.symm, f1.n_eq.symm, fun i hi => ?_, fun k hk => ?_, fun j hj => ?_, ?_⟩, f1, f2.w, ?_, o _ (by omega) (by omega)⟩
  · show b 0 i = _ ∧ b 1 i = _ ∧ b 2 i = _
    rw [o _ (by omega) (by omega), o _ (by omega) (by omega), o _ (by omega) (by omega)]
    exact h3 i hi
  · show b 3 k = _ ∧ b 4 k = _ ∧ upd (b 5) p (b 5 p + b 5 q) k = _ ∧ b 6 k = _
    rw [f1.pr_eq hk, o (29 + 4 * k) (by omega) (by omega), o (29 + 4 * k + 2) (by omega) (by omega)]
    by_cases e : k = p
    · subst e
      rw [pk_us, op, w5, (h4 k hk).2.2.1]
      exact ⟨(h4 k hk).1, (h4 k hk).2.1, rfl, (h4 k hk).2.2.2⟩
    · rw [pk_un e, o (29 + 4 * k + 3) (by omega) (by omega)]
      exact h4 k hk
  · show b 7 j = _
    rw [o _ (by omega) (by omega)]; exact h5 j hj
  · show b 8 0 = _ ∧ b 8 1 = _ ∧ b 8 2 = _ ∧ b 8 3 + nI 1 = _ ∧ b 8 8 = _
    rw [o 1 (by omega) (by omega), o 3 (by omega) (by omega), o 9 (by omega) (by omega), o10, o 8 (by omega) (by omega), h6.2.2.2.1]
    exact ⟨h6.1, h6.2.1, h6.2.2.1, rfl, h6.2.2.2.2⟩
  · rw [smw_put (m := M) (p := p) (w := M (29 + 4 * q + 3)) (fun k hk => o _ (by omega) (by omega)) op _ (by omega), w5]
theorem carB_eq {t : Nat} {M : Nat → Int32} (H : HeW M) : carB (vtF t M (hM M)).1 t = decide (sml (lvM M) (hM M) < 2 * fav (lvM M) (taM M) t (hM M)) := by
  obtain ⟨a1, a2, a3, a4, a5⟩ := vtF_ok (t := t) H (hM M) (Nat.le_refl _)
  unfold carB
  rw [a2, sml_cong (fun k hk => a4 k hk), fav_cong (fun k hk => a4 k hk) (fun k hk => a5 k hk)]
theorem i_acc0 (a w : Int32) : a - w - w = a - w - w := rfl
section VOTE
variable {b : Nat → Nat → Int32} {nh nm B q s : Nat} {M f : Nat → Int32}
theorem BlC.vote (h : BlC b nh nm M) (hC : CoW M B) (hq : q < nm) (ht : tipB (prM M) q nm = true) (hf : ∀ i, i < nh → f i = nI (thV (vvF (thM M) (taM M) (tnM M q)) (thM M) nh i)) :
    (anV (vvF (thM M) (taM M) (tnM M q)) nh = true → votC M q = 118 ∧ BlC (bkO (b 0) f (b 2) (rmF (b 3) q nm) (rmF (b 4) q nm) (rmF (b 5) q nm) (rmP (b 6) q nm) (b 7) (b 8 0) (b 8 1) (b 8 2 + nI 1) (b 8 3) (b 8 4) (b 8 5) (b 8 6) (b 8 7 + b 5 q) (b 8 8)) nh (nm - 1) (votF M q)) ∧
    (anV (vvF (thM M) (taM M) (tnM M q)) nh = false → ¬ sml (lvM M) nh < 2 * fav (lvM M) (taM M) (tnM M q) nh → votC M q = 114 ∧ BlC (bkO (b 0) f (b 2) (rmF (b 3) q nm) (rmF (b 4) q nm) (rmF (b 5) q nm) (rmP (b 6) q nm) (b 7) (b 8 0) (b 8 1) (b 8 2 + nI 1) (b 8 3) (b 8 4) (b 8 5) (b 8 6 + b 5 q) (b 8 7) (b 8 8)) nh (nm - 1) (votF M q)) ∧
    (anV (vvF (thM M) (taM M) (tnM M q)) nh = false → sml (lvM M) nh < 2 * fav (lvM M) (taM M) (tnM M q) nh → prM M q = none → M 3 = nI s → s < 4 → votC M q = 99 ∧ BlC (bkO (b 0) f (b 2) (rmF (b 3) q nm) (rmF (b 4) q nm) (rmF (b 5) q nm) (rmP (b 6) q nm) (upd (b 7) s (b 7 s + nI 1)) (b 8 0) (b 8 1) (b 8 2 + nI 1) (b 8 3 + nI 1) (b 8 4) (b 8 5) (b 8 6) (b 8 7) (b 8 8 + b 5 q)) nh (nm - 1) (votF M q)) ∧
    (∀ p, anV (vvF (thM M) (taM M) (tnM M q)) nh = false → sml (lvM M) nh < 2 * fav (lvM M) (taM M) (tnM M q) nh → prM M q = some p → M 3 = nI s → s < 4 → votC M q = 99 ∧ BlC (bkO (b 0) f (b 2) (rmF (b 3) q nm) (rmF (b 4) q nm) (rmF (upd (b 5) p (b 5 p + b 5 q)) q nm) (rmP (b 6) q nm) (b 7) (b 8 0) (b 8 1) (b 8 2 + nI 1) (b 8 3 + nI 1) (b 8 4) (b 8 5) (b 8 6) (b 8 7) (b 8 8)) nh (nm - 1) (votF M q)) := by
  have hq0 := h.q
  have ha := h.acc
  have h1 := h.1
  have h2 := h.2.1
  have w5 := (h.2.2.2.1 q hq).2.2.1
  have h6h := hC.2.1.2.1
  have h12 := hC.1.n12
  subst h1; subst h2
  obtain ⟨v1, v2, v3⟩ := hq0.vt (t := tnM M q) hC.1 hC.2.1 hf rfl
  have va := (vtF_row (t := tnM M q) hC.2.1 (hM M) (Nat.le_refl _)).2
  have vo := (vtF_ok (t := tnM M q) hC.2.1 (hM M) (Nat.le_refl _)).2.2.1
  have e1 : ∀ j, 29 ≤ j → upd (vtF (tnM M q) M (hM M)).1 9 ((vtF (tnM M q) M (hM M)).1 9 + nI 1) j = M j := fun j hj => by rw [pk_un (by omega), vo j (by omega)]
  have e3 : upd (vtF (tnM M q) M (hM M)).1 9 ((vtF (tnM M q) M (hM M)).1 9 + nI 1) 3 = M 3 := by rw [pk_un (by omega), vo 3 (by omega)]
  have sm1 : smw (upd (vtF (tnM M q) M (hM M)).1 9 ((vtF (tnM M q) M (hM M)).1 9 + nI 1)) (nM M) = smw M (nM M) := smw_cong _ (fun k hk => e1 _ (by omega))
  have tp : ∀ j, j < nM M → prM (upd (vtF (tnM M q) M (hM M)).1 9 ((vtF (tnM M q) M (hM M)).1 9 + nI 1)) j ≠ some q := fun j hj => by rw [v2.pr_eq hj]; exact tipB_no ht j hj
  have hv2 : ∀ x, (vtF (tnM M q) M (hM M)).2 = x → ((vtF (tnM M q) M (hM M)).1, x) = vtF (tnM M q) M (hM M) := fun x hx => by rw [← hx]
  have hk2 : snM (upd (vtF (tnM M q) M (hM M)).1 9 ((vtF (tnM M q) M (hM M)).1 9 + nI 1)) = snM M := by unfold snM; rw [e3]
  refine ⟨fun g => ?_, fun g gc => ?_, fun g gc gp gs gs4 => ?_, fun p g gc gp gs gs4 => ?_⟩
  · obtain ⟨z1, z2⟩ := votF_v (hv2 true (va.trans g))
    refine ⟨z1, ?_⟩
    rw [z2]
    refine BlQ.c (BlQ.drp v1 v2.w v3 hq tp rfl rfl rfl rfl rfl rfl rfl rfl ⟨rfl, rfl, rfl, rfl, rfl⟩) ?_
    show b 8 4 - b 8 5 - b 8 6 - (b 8 7 + b 5 q) - b 8 8 = _
    rw [i_sub4, ha, smw_drop hq h12, sm1, e1 _ (by omega), w5]
  · obtain ⟨z1, z2⟩ := votF_r (hv2 false (va.trans g)) (by rw [carB_eq hC.2.1]; exact decide_eq_false gc)
    refine ⟨z1, ?_⟩
    rw [z2]
    refine BlQ.c (BlQ.drp v1 v2.w v3 hq tp rfl rfl rfl rfl rfl rfl rfl rfl ⟨rfl, rfl, rfl, rfl, rfl⟩) ?_
    show b 8 4 - b 8 5 - (b 8 6 + b 5 q) - b 8 7 - b 8 8 = _
    rw [i_sub3, ha, smw_drop hq h12, sm1, e1 _ (by omega), w5]
  · obtain ⟨z1, z2⟩ := votF_c (hv2 false (va.trans g)) (by rw [carB_eq hC.2.1]; exact decide_eq_true gc)
    refine ⟨z1, ?_⟩
    rw [z2]
    obtain ⟨c1, c2, c3, c4⟩ := v1.car0 v2.w v3 (by rw [e3]; exact gs) gs4 hq (by rw [v2.pr_eq hq]; exact gp) rfl
    rw [v2.n_eq] at c2
    have c2' : FoR (carF (upd (vtF (tnM M q) M (hM M)).1 9 ((vtF (tnM M q) M (hM M)).1 9 + nI 1)) q) (nM M) _ _ _ := c2
    refine BlQ.c (BlQ.drp c1 c2'.w c3 hq (fun j hj => by rw [c2'.pr_eq hj]; exact tp j hj) rfl rfl rfl rfl rfl rfl rfl rfl ⟨rfl, rfl, rfl, rfl, rfl⟩) ?_
    show b 8 4 - b 8 5 - b 8 6 - b 8 7 - (b 8 8 + b 5 q) = _
    rw [i_sub5, ha, smw_drop hq h12, c4, e1 _ (by omega), smw_cong _ (fun k hk => c4 k), sm1, w5]
  · obtain ⟨z1, z2⟩ := votF_c (hv2 false (va.trans g)) (by rw [carB_eq hC.2.1]; exact decide_eq_true gc)
    refine ⟨z1, ?_⟩
    rw [z2]
    obtain ⟨c1, c2, c3, c4, c5⟩ := v1.car1 v2.w v3 (by rw [e3]; exact gs) gs4 hq (by rw [v2.pr_eq hq]; exact gp) rfl
    rw [v2.n_eq] at c2
    have hpq := hC.1.ok q p hq gp
    have c2' : FoR (carF (upd (vtF (tnM M q) M (hM M)).1 9 ((vtF (tnM M q) M (hM M)).1 9 + nI 1)) q) (nM M) _ _ _ := c2
    refine BlQ.c (BlQ.drp c1 c2'.w c3 hq (fun j hj => by rw [c2'.pr_eq hj]; exact tp j hj) rfl rfl rfl rfl rfl rfl rfl rfl ⟨rfl, rfl, rfl, rfl, rfl⟩) ?_
    show b 8 4 - b 8 5 - b 8 6 - b 8 7 - b 8 8 = _
    rw [ha, smw_drop hq h12, c4, c5, e1 _ (by omega), sm1, ← w5]
    show _ = smw M (nM M) + b 5 q - b 5 q
    rw [Int32.add_sub_cancel]
end VOTE
/-- a pruning loop's row, still to come -/
theorem prn_end {r dp : Nat} {m : Nat → Int32} {c : Nat} : prnF r dp 0 m c = (m, c) := rfl
