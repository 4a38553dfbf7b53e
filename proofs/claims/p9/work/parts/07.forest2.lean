/-- places behind and ahead of a motion that is taken out -/
def sk (k j : Nat) : Nat := if j < k then j else j + 1
def un (k i : Nat) : Nat := if i < k then i else i - 1
def drP (pr : Nat → Option Nat) (k : Nat) : Nat → Option Nat := fun j => (pr (sk k j)).map (un k)
theorem sk_un {k i : Nat} (h : i ≠ k) : sk k (un k i) = i := by
  unfold sk un; split <;> (try split) <;> omega
theorem un_sk {k j : Nat} : un k (sk k j) = j := by
  unfold sk un; split <;> (try split) <;> omega
theorem sk_inj {k i j : Nat} (h : sk k i = sk k j) : i = j := by
  unfold sk at h; split at h <;> split at h <;> omega
theorem sk_lt {k j n : Nat} (h : j < n - 1) : sk k j < n := by
  unfold sk; split <;> omega
theorem drP_ok {pr : Nat → Option Nat} {n k : Nat} (h : ParOk pr n) (ht : ∀ j, j < n → pr j ≠ some k) : ParOk (drP pr k) (n - 1) := by
  intro j i hj hp
  unfold drP at hp
  cases hq : pr (sk k j) with
  | none => rw [hq] at hp; cases hp
  | some q =>
    rw [hq] at hp
    have h1 := h _ _ (sk_lt hj) hq
    have h2 : q ≠ k := fun z => ht _ (sk_lt hj) (by rw [hq, z])
    have h3 : un k q = i := Option.some.inj hp
    unfold sk at h1
    unfold un at h3
    split at h1 <;> split at h3 <;> omega
theorem drP_dep {pr : Nat → Option Nat} {n k : Nat} (h : ParOk pr n) (ht : ∀ j, j < n → pr j ≠ some k) : ∀ j, j < n - 1 → dep (drP pr k) j = dep pr (sk k j) := by
  intro j
  induction j using Nat.strongRecOn with
  | _ j ih =>
    intro hj
    cases hq : pr (sk k j) with
    | none => rw [dep_none hq, dep_none (by unfold drP; rw [hq]; rfl)]
    | some q =>
      have hp : drP pr k j = some (un k q) := by unfold drP; rw [hq]; rfl
      have h2 : q ≠ k := fun z => ht _ (sk_lt hj) (by rw [hq, z])
      have h4 := drP_ok h ht j _ hj hp
      rw [dep_some h (sk_lt hj) hq, dep_some (drP_ok h ht) hj hp, ih _ h4 (by omega), sk_un h2]
theorem drP_anc {pr : Nat → Option Nat} {n k r : Nat} (h : ParOk pr n) (ht : ∀ j, j < n → pr j ≠ some k) : ∀ j, j < n - 1 → anc (drP pr k) r j = anc pr (sk k r) (sk k j) := by
  intro j
  induction j using Nat.strongRecOn with
  | _ j ih =>
    intro hj
    by_cases hr : j = r
    · subst hr; rw [anc_self, anc_self]
    · rw [anc_O (drP_ok h ht) hj hr, anc_O h (sk_lt hj) (fun z => hr (sk_inj z))]
      cases hq : pr (sk k j) with
      | none => rw [show drP pr k j = none by unfold drP; rw [hq]; rfl]; rfl
      | some q =>
        have hp : drP pr k j = some (un k q) := by unfold drP; rw [hq]; rfl
        have h2 : q ≠ k := fun z => ht _ (sk_lt hj) (by rw [hq, z])
        have h4 := drP_ok h ht j _ hj hp
        rw [hp]
        show anc (drP pr k) r (un k q) = anc pr (sk k r) q
        rw [ih _ h4 (by omega), sk_un h2]
theorem dropF_lo {m : Nat → Int32} {k n j : Nat} (h : j < 29 + 4 * k) (h2 : j ≠ 2) (h7 : j < 73) : dropF m k n j = m j := by
  unfold dropF drzF drpF
  rw [if_neg h2, if_neg (by omega), if_neg (by omega)]
theorem dropF_hi {m : Nat → Int32} {k n j : Nat} (h : 29 + 4 * k ≤ j) (h7 : j < 73) : dropF m k n j = m (j + 4) := by
  unfold dropF drzF drpF
  rw [if_neg (by omega), if_neg (by omega), if_pos (by omega)]
theorem dropF_at {m : Nat → Int32} {k n j w : Nat} (hj : 29 + 4 * j + w < 73) (hw : w < 4) : dropF m k n (29 + 4 * j + w) = m (29 + 4 * sk k j + w) := by
  unfold sk
  split
  · exact dropF_lo (by omega) (by omega) hj
  · rw [dropF_hi (by omega) hj]; congr 1; omega
theorem FoR.drop {m : Nat → Int32} {n : Nat} {idn : Nat → Nat} {pr : Nat → Option Nat} {tn : Nat → Nat} (h : FoR m n idn pr tn) {k : Nat} (hk : k < n) (ht : ∀ j, j < n → pr j ≠ some k) : FoR (dropF m k n) (n - 1) (fun j => idn (sk k j)) (drP pr k) (fun j => tn (sk k j)) := by
  obtain ⟨h1, h2, h3, h4, h5, h6, h7⟩ := h
  refine ⟨by unfold dropF; rw [if_pos rfl], by omega, fun j hj => ?_, fun j hj => ?_, drP_ok h5 ht, fun i j hi hj => h6 _ _ (by unfold sk; split <;> split <;> omega) (sk_lt hj), fun j hj => ?_⟩
  · have := dropF_at (m := m) (k := k) (n := n) (j := j) (w := 0) (by omega) (by omega)
    simp only [Nat.add_zero] at this
    rw [this]; exact h3 _ (sk_lt hj)
  · rw [dropF_at (by omega) (by omega), h4 _ (sk_lt hj)]
    congr 1
    unfold drP
    cases hq : pr (sk k j) with
    | none => rfl
    | some q =>
      have h2 : q ≠ k := fun z => ht _ (sk_lt hj) (by rw [hq, z])
      simp only [Option.map_some]
      rw [sk_un h2]
  · rw [dropF_at (by omega) (by omega)]; exact h7 _ (sk_lt hj)
theorem FoR.cong {m m' : Nat → Int32} {n : Nat} {idn : Nat → Nat} {pr : Nat → Option Nat} {tn : Nat → Nat} (h : FoR m n idn pr tn) (e : ∀ j, (j = 2 ∨ ∃ k w, k < 12 ∧ w < 3 ∧ j = 29 + 4 * k + w) → m' j = m j) : FoR m' n idn pr tn := by
  obtain ⟨h1, h2, h3, h4, h5, h6, h7⟩ := h
  refine ⟨by rw [e 2 (Or.inl rfl)]; exact h1, h2, fun j hj => ?_, fun j hj => ?_, h5, h6, fun j hj => ?_⟩
  · rw [show 29 + 4 * j = 29 + 4 * j + 0 from rfl, e _ (Or.inr ⟨j, 0, by omega, by omega, rfl⟩)]; exact h3 j hj
  · rw [e _ (Or.inr ⟨j, 1, by omega, by omega, rfl⟩)]; exact h4 j hj
  · rw [e _ (Or.inr ⟨j, 2, by omega, by omega, rfl⟩)]; exact h7 j hj
theorem HeR.cong {m m' : Nat → Int32} {h : Nat} {lv th ta : Nat → Nat} (H : HeR m h lv th ta) (e : ∀ j, (j = 0 ∨ (11 ≤ j ∧ j < 29)) → m' j = m j) : HeR m' h lv th ta := by
  obtain ⟨h1, h2, h3, h4, h5⟩ := H
  refine ⟨by rw [e 0 (Or.inl rfl)]; exact h1, h2, fun j hj => ?_, fun j hj => ?_, fun j hj => ?_⟩
  · rw [e _ (Or.inr (by omega))]; exact h3 j hj
  · rw [e _ (Or.inr (by omega))]; exact h4 j hj
  · rw [e _ (Or.inr (by omega))]; exact h5 j hj
/-- what a row says of its motions, read off it -/
def nM (m : Nat → Int32) : Nat := (m 2).toNatClampNeg
def idM (m : Nat → Int32) (k : Nat) : Nat := (m (29 + 4 * k)).toNatClampNeg
def prM (m : Nat → Int32) (k : Nat) : Option Nat := if m (29 + 4 * k + 1) = -1 then none else fnd (fun k => m (29 + 4 * k)) (m (29 + 4 * k + 1)) (nM m)
def tnM (m : Nat → Int32) (k : Nat) : Nat := (m (29 + 4 * k + 2)).toNatClampNeg
def FoW (m : Nat → Int32) : Prop := FoR m (nM m) (idM m) (prM m) (tnM m)
theorem FoR.n_eq {m : Nat → Int32} {n : Nat} {idn : Nat → Nat} {pr : Nat → Option Nat} {tn : Nat → Nat} (h : FoR m n idn pr tn) : nM m = n := by
  unfold nM; rw [h.1, nI_clamp (by have := h.2.1; omega)]
theorem FoR.pr_eq {m : Nat → Int32} {n : Nat} {idn : Nat → Nat} {pr : Nat → Option Nat} {tn : Nat → Nat} (h : FoR m n idn pr tn) {k : Nat} (hk : k < n) : prM m k = pr k := by
  unfold prM
  rw [h.n_eq]
  have e := h.2.2.2.1 k hk
  cases hq : pr k with
  | none => rw [e, hq]; exact if_pos rfl
  | some j =>
    have hj := h.par hk hq
    have h1 : ¬ m (29 + 4 * k + 1) = -1 := by
      rw [e, hq]
      intro z
      exact nI_m1 (q := idn j) (by have := (h.2.2.1 j hj).2; omega) z.symm
    rw [if_neg h1, e, hq]
    exact h.find hj
theorem FoR.w {m : Nat → Int32} {n : Nat} {idn : Nat → Nat} {pr : Nat → Option Nat} {tn : Nat → Nat} (h : FoR m n idn pr tn) : FoW m := by
  have hn := h.n_eq
  have hid : ∀ k, k < n → idM m k = idn k := fun k hk => by unfold idM; rw [(h.2.2.1 k hk).1, nI_clamp (by have := (h.2.2.1 k hk).2; omega)]
  have htn : ∀ k, k < n → tnM m k = tn k := fun k hk => by unfold tnM; rw [(h.2.2.2.2.2.2 k hk).1, nI_clamp (by have := (h.2.2.2.2.2.2 k hk).2; omega)]
  unfold FoW
  rw [hn]
  obtain ⟨h1, h2, h3, h4, h5, h6, h7⟩ := id h
  refine ⟨h1, h2, fun k hk => by rw [hid k hk]; exact h3 k hk, fun k hk => ?_, fun k j hk hp => h5 k j hk (by rw [← h.pr_eq hk]; exact hp), fun j k hj hk => by rw [hid j (by omega), hid k hk]; exact h6 j k hj hk, fun k hk => by rw [htn k hk]; exact h7 k hk⟩
  rw [h4 k hk, h.pr_eq hk]
  cases hq : pr k with
  | none => rfl
  | some j => simp only [Option.map_some]; rw [hid j (h.par hk hq)]
theorem FoW.n12 {m : Nat → Int32} (h : FoW m) : nM m ≤ 12 := h.2.1
theorem dep_cong {pr pr' : Nat → Option Nat} {n : Nat} (h : ParOk pr n) (e : ∀ k, k < n → pr' k = pr k) : ∀ k, k < n → dep pr' k = dep pr k := by
  intro k
  induction k using Nat.strongRecOn with
  | _ k ih =>
    intro hk
    have h' : ParOk pr' n := fun k j hk hp => h k j hk (by rw [← e k hk]; exact hp)
    cases hq : pr k with
    | none => rw [dep_none hq, dep_none (by rw [e k hk]; exact hq)]
    | some j =>
      have hj := h k j hk hq
      rw [dep_some h hk hq, dep_some h' hk (by rw [e k hk]; exact hq), ih j hj (by omega)]
theorem anc_cong {pr pr' : Nat → Option Nat} {n r : Nat} (h : ParOk pr n) (e : ∀ k, k < n → pr' k = pr k) : ∀ k, k < n → anc pr' r k = anc pr r k := by
  intro k
  induction k using Nat.strongRecOn with
  | _ k ih =>
    intro hk
    have h' : ParOk pr' n := fun k j hk hp => h k j hk (by rw [← e k hk]; exact hp)
    by_cases hr : k = r
    · subst hr; rw [anc_self, anc_self]
    · rw [anc_O h' hk hr, anc_O h hk hr, e k hk]
      cases hq : pr k with
      | none => rfl
      | some j => exact ih j (h k j hk hq) (by have := h k j hk hq; omega)
theorem FoW.drop {m : Nat → Int32} (h : FoW m) {k : Nat} (hk : k < nM m) (ht : ∀ j, j < nM m → prM m j ≠ some k) : FoW (dropF m k (nM m)) ∧ nM (dropF m k (nM m)) = nM m - 1 ∧ (∀ j, j < nM m - 1 → dep (prM (dropF m k (nM m))) j = dep (prM m) (sk k j)) ∧ ∀ r j, j < nM m - 1 → anc (prM (dropF m k (nM m))) r j = anc (prM m) (sk k r) (sk k j) := by
  have h1 := FoR.drop h hk ht
  have e : ∀ j, j < nM m - 1 → prM (dropF m k (nM m)) j = drP (prM m) k j := fun j hj => h1.pr_eq hj
  refine ⟨h1.w, h1.n_eq, fun j hj => ?_, fun r j hj => ?_⟩
  · rw [dep_cong (drP_ok h.ok ht) e j hj]; exact drP_dep h.ok ht j hj
  · rw [anc_cong (drP_ok h.ok ht) e j hj]; exact drP_anc h.ok ht j hj
/-- the row and the count behind pruning: the places r + 1 .. r + i are still to be looked at -/
def prnF (r dp : Nat) : Nat → (Nat → Int32) → Nat → (Nat → Int32) × Nat
  | 0, m, c => (m, c)
  | i + 1, m, c => if anc (prM m) r (r + (i + 1)) && decide (dp < dep (prM m) (r + (i + 1))) then prnF r dp i (dropF m (r + (i + 1)) (nM m)) (c + 1) else prnF r dp i m c
/-- what is already looked at holds nothing to be pruned -/
def prnOk (r dp i : Nat) (m : Nat → Int32) : Prop := FoW m ∧ r + i < nM m ∧ ∀ j, r + i < j → j < nM m → ¬ (anc (prM m) r j = true ∧ dp < dep (prM m) j)
theorem prn_tip {r dp i : Nat} {m : Nat → Int32} (h : prnOk r dp (i + 1) m) (h1 : anc (prM m) r (r + (i + 1)) = true) (h2 : dp < dep (prM m) (r + (i + 1))) : ∀ j, j < nM m → prM m j ≠ some (r + (i + 1)) := by
  obtain ⟨hw, hlt, hc⟩ := h
  intro j hj hp
  have h3 := hw.ok j _ hj hp
  refine hc j h3 hj ⟨?_, ?_⟩
  · rw [anc_O hw.ok hj (by omega), hp]; exact h1
  · rw [dep_some hw.ok hj hp]; omega
theorem prn_skip {r dp i : Nat} {m : Nat → Int32} (h : prnOk r dp (i + 1) m) (h1 : ¬ (anc (prM m) r (r + (i + 1)) = true ∧ dp < dep (prM m) (r + (i + 1)))) : prnOk r dp i m := by
  obtain ⟨hw, hlt, hc⟩ := h
  refine ⟨hw, by omega, fun j hj1 hj2 => ?_⟩
  rcases Nat.lt_or_ge (r + (i + 1)) j with q | q
  · exact hc j q hj2
  · rw [show j = r + (i + 1) by omega]; exact h1
theorem prn_drop {r dp i : Nat} {m : Nat → Int32} (h : prnOk r dp (i + 1) m) (h1 : anc (prM m) r (r + (i + 1)) = true) (h2 : dp < dep (prM m) (r + (i + 1))) : prnOk r dp i (dropF m (r + (i + 1)) (nM m)) := by
  have ht := prn_tip h h1 h2
  obtain ⟨hw, hlt, hc⟩ := h
  obtain ⟨e1, e2, e3, e4⟩ := hw.drop hlt ht
  refine ⟨e1, by rw [e2]; omega, fun j hj1 hj2 => ?_⟩
  rw [e2] at hj2
  rw [e3 j hj2, e4 r j hj2]
  have hs : sk (r + (i + 1)) j = j + 1 := by unfold sk; rw [if_neg (by omega)]
  have hr : sk (r + (i + 1)) r = r := by unfold sk; rw [if_pos (by omega)]
  rw [hs, hr]
  exact hc (j + 1) (by omega) (by omega)
theorem rg_nat {a b : Int64} {x : Int32} (h : rgB a b x = true) (ha : a.toInt = 0 ∨ a.toInt = 1) (hb : b.toInt < 1024) : ∃ v : Nat, x = nI v ∧ (v : Int) ≤ b.toInt ∧ a.toInt ≤ (v : Int) := by
  unfold rgB at h
  have h1 := of_decide_eq_true h
  have e1 := Int64.le_iff_toInt_le.mp h1.1
  have e2 := Int64.le_iff_toInt_le.mp h1.2
  rw [Int32.toInt_toInt64] at e1 e2
  refine ⟨x.toInt.toNat, ?_, by omega, by omega⟩
  apply Int32.toInt_inj.mp
  rw [nI_toInt (by omega)]
  omega
