/-- a row that a committee can hold: its motions, its hedges, its season, its next id (at most B) -/
def CoW (m : Nat → Int32) (B : Nat) : Prop := FoW m ∧ HeW m ∧ (∃ s, s < 4 ∧ m 3 = nI s) ∧ ∃ nx, nx ≤ B ∧ m 1 = nI nx ∧ ∀ k, k < nM m → idM m k < nx
theorem CoW.mono {m : Nat → Int32} {B C : Nat} (h : CoW m B) (hBC : B ≤ C) : CoW m C := by
  obtain ⟨h1, h2, h3, nx, h4, h5, h6⟩ := h
  exact ⟨h1, h2, h3, nx, Nat.le_trans h4 hBC, h5, h6⟩
theorem FoR.id_eq {m : Nat → Int32} {n : Nat} {idn : Nat → Nat} {pr : Nat → Option Nat} {tn : Nat → Nat} (h : FoR m n idn pr tn) {k : Nat} (hk : k < n) : idM m k = idn k := by
  unfold idM; rw [(h.2.2.1 k hk).1, nI_clamp (by have := (h.2.2.1 k hk).2; omega)]
theorem CoW.of {m : Nat → Int32} {B n nx s h : Nat} {idn : Nat → Nat} {pr : Nat → Option Nat} {tn lv th ta : Nat → Nat} (hF : FoR m n idn pr tn) (hH : HeR m h lv th ta) (hs : s < 4) (h3 : m 3 = nI s) (hn : nx ≤ B) (h1 : m 1 = nI nx) (hid : ∀ k, k < n → idn k < nx) : CoW m B :=
  ⟨hF.w, hH.w, ⟨s, hs, h3⟩, nx, hn, h1, fun k hk => by rw [hF.n_eq] at hk; rw [hF.id_eq hk]; exact hid k hk⟩
/-- the numbers of rows that leave motions and hedges -/
theorem CoW.keep {m m' : Nat → Int32} {B : Nat} (h : CoW m B) (e : ∀ j, (j = 0 ∨ j = 1 ∨ j = 2 ∨ j = 3 ∨ (11 ≤ j ∧ j < 29) ∨ ∃ k w, k < 12 ∧ w < 3 ∧ j = 29 + 4 * k + w) → m' j = m j) : CoW m' B := by
  obtain ⟨h1, h2, ⟨s, hs, h3⟩, nx, h4, h5, h6⟩ := h
  have hF : FoR m' (nM m) (idM m) (prM m) (tnM m) := FoR.cong h1 (fun j hj => e j (by rcases hj with hj | hj; exact Or.inr (Or.inr (Or.inl hj)); exact Or.inr (Or.inr (Or.inr (Or.inr (Or.inr hj))))))
  have hH : HeR m' (hM m) (lvM m) (thM m) (taM m) := HeR.cong h2 (fun j hj => e j (by omega))
  exact CoW.of hF hH hs (by rw [e 3 (by omega)]; exact h3) h4 (by rw [e 1 (by omega)]; exact h5) h6
theorem rg_of {a b : Int64} {x : Int32} (h : rgB a b x = true) (ha : a.toInt = 0 ∨ a.toInt = 1) {bb : Nat} (hb : b.toInt = bb) (hb2 : bb < 1024) : ∃ v : Nat, x = nI v ∧ v ≤ bb ∧ a.toInt ≤ (v : Int) := by
  obtain ⟨v, h1, h2, h3⟩ := rg_nat h ha (by omega)
  exact ⟨v, h1, by omega, h3⟩
theorem CoW.hedge {m : Nat → Int32} {B : Nat} (h : CoW m B) {x y z : Int32} (hr : (rgB 1 99 x && rgB 0 9 y && rgB 0 9 z) = true) (h6 : hM m < 6) : CoW (hedgeF m (hM m) x y z) B := by
  obtain ⟨h1, h2, ⟨s, hs, h3⟩, nx, h4, h5, h7⟩ := h
  rw [Bool.and_eq_true, Bool.and_eq_true] at hr
  obtain ⟨a, ea, ha, ha1⟩ := rg_of hr.1.1 (Or.inr (by decide)) (bb := 99) (by decide) (by decide)
  obtain ⟨b, eb, hb, -⟩ := rg_of hr.1.2 (Or.inl (by decide)) (bb := 9) (by decide) (by decide)
  obtain ⟨c, ec, hc, -⟩ := rg_of hr.2 (Or.inl (by decide)) (bb := 9) (by decide) (by decide)
  have ha1 : 1 ≤ a := by
    have : (1 : Int64).toInt = 1 := by decide
    omega
  subst ea; subst eb; subst ec
  have hF : FoR (hedgeF m (hM m) (nI a) (nI b) (nI c)) (nM m) (idM m) (prM m) (tnM m) := FoR.he h1 (fun j hj => by unfold hedgeF; rw [if_neg (by omega), if_neg (by omega), if_neg (by omega), if_neg (by omega)])
  have hH : HeR (hedgeF m (hM m) (nI a) (nI b) (nI c)) (hM m + 1) (fun k => if k = hM m then a else lvM m k) (fun k => if k = hM m then b else thM m k) (fun k => if k = hM m then c else taM m k) := by
    obtain ⟨g1, g2, g3, g4, g5⟩ := h2
    refine ⟨by unfold hedgeF; rw [if_pos rfl], by omega, fun k hk => ?_, fun k hk => ?_, fun k hk => ?_⟩
    · by_cases hkh : k = hM m
      · subst hkh; dsimp only; rw [if_pos rfl]; unfold hedgeF
        rw [if_neg (by omega), if_neg (by omega), if_neg (by omega), if_pos rfl]; exact ⟨rfl, ha1, ha⟩
      · dsimp only; rw [if_neg hkh]; unfold hedgeF
        rw [if_neg (by omega), if_neg (by omega), if_neg (by omega), if_neg (by omega)]; exact g3 k (by omega)
    · by_cases hkh : k = hM m
      · subst hkh; dsimp only; rw [if_pos rfl]; unfold hedgeF
        rw [if_neg (by omega), if_neg (by omega), if_pos rfl]; exact ⟨rfl, hb⟩
      · dsimp only; rw [if_neg hkh]; unfold hedgeF
        rw [if_neg (by omega), if_neg (by omega), if_neg (by omega), if_neg (by omega)]; exact g4 k (by omega)
    · by_cases hkh : k = hM m
      · subst hkh; dsimp only; rw [if_pos rfl]; unfold hedgeF
        rw [if_neg (by omega), if_pos rfl]; exact ⟨rfl, hc⟩
      · dsimp only; rw [if_neg hkh]; unfold hedgeF
        rw [if_neg (by omega), if_neg (by omega), if_neg (by omega), if_neg (by omega)]; exact g5 k (by omega)
  exact CoW.of hF hH hs (by unfold hedgeF; rw [if_neg (by omega), if_neg (by omega), if_neg (by omega), if_neg (by omega)]; exact h3) h4 (by unfold hedgeF; rw [if_neg (by omega), if_neg (by omega), if_neg (by omega), if_neg (by omega)]; exact h5) h7
theorem addF_o {m : Nat → Int32} {n j : Nat} {p x w : Int32} (h1 : j ≠ 1) (h2 : j ≠ 2) (h3 : j < 29 + 4 * n ∨ 29 + 4 * n + 3 < j) : addF m n p x w j = m j := by
  unfold addF
  rw [if_neg h1, if_neg h2, if_neg (by omega), if_neg (by omega), if_neg (by omega), if_neg (by omega)]
theorem FoR.add {m : Nat → Int32} {n nx t : Nat} {idn : Nat → Nat} {pr : Nat → Option Nat} {tn : Nat → Nat} (h : FoR m n idn pr tn) (h1 : m 1 = nI nx) (hid : ∀ k, k < n → idn k < nx) (hnx : nx < 1048576) (h12 : n < 12) {po : Option Nat} (hpo : ∀ j, po = some j → j < n) (ht : t ≤ 9) (w : Int32) :
    FoR (addF m n (oi (po.map idn)) (nI t) w) (n + 1) (fun k => if k = n then nx else idn k) (fun k => if k = n then po else pr k) (fun k => if k = n then t else tn k) := by
  obtain ⟨g1, g2, g3, g4, g5, g6, g7⟩ := h
  refine ⟨by unfold addF; rw [if_neg (by decide), if_pos rfl], by omega, fun k hk => ?_, fun k hk => ?_, fun k j hk hp => ?_, fun j k hj hk => ?_, fun k hk => ?_⟩
  · by_cases hkn : k = n
    · subst hkn; dsimp only; rw [if_pos rfl]; unfold addF
      rw [if_neg (by omega), if_neg (by omega), if_neg (by omega), if_neg (by omega), if_neg (by omega), if_pos rfl]; exact ⟨h1, hnx⟩
    · dsimp only; rw [if_neg hkn, addF_o (by omega) (by omega) (by omega)]; exact g3 k (by omega)
  · by_cases hkn : k = n
    · subst hkn; dsimp only; rw [if_pos rfl]; unfold addF
      rw [if_neg (by omega), if_neg (by omega), if_neg (by omega), if_neg (by omega), if_pos rfl]
      cases po with
      | none => rfl
      | some j => simp only [Option.map_some]; rw [if_neg (by have := hpo j rfl; omega)]
    · dsimp only; rw [if_neg hkn, addF_o (by omega) (by omega) (by omega), g4 k (by omega)]
      cases hq : pr k with
      | none => rfl
      | some j => simp only [Option.map_some]; rw [if_neg (by have := g5 k j (by omega) hq; omega)]
  · by_cases hkn : k = n
    · subst hkn; dsimp only at hp; rw [if_pos rfl] at hp; exact hpo j hp
    · dsimp only at hp; rw [if_neg hkn] at hp; exact g5 k j (by omega) hp
  · dsimp only
    by_cases hkn : k = n
    · subst hkn; rw [if_pos rfl, if_neg (by omega)]; exact hid j hj
    · rw [if_neg hkn, if_neg (by omega)]; exact g6 j k hj (by omega)
  · by_cases hkn : k = n
    · subst hkn; dsimp only; rw [if_pos rfl]; unfold addF
      rw [if_neg (by omega), if_neg (by omega), if_neg (by omega), if_pos rfl]; exact ⟨rfl, ht⟩
    · dsimp only; rw [if_neg hkn, addF_o (by omega) (by omega) (by omega)]; exact g7 k (by omega)
theorem CoW.add {m : Nat → Int32} {B t : Nat} (h : CoW m B) (hB : B < 1048576) (h12 : nM m < 12) {po : Option Nat} (hpo : ∀ j, po = some j → j < nM m) (ht : t ≤ 9) (w : Int32) : CoW (addF m (nM m) (oi (po.map (idM m))) (nI t) w) (B + 1) := by
  obtain ⟨h1, h2, ⟨s, hs, h3⟩, nx, h4, h5, h7⟩ := h
  have hF := FoR.add (n := nM m) h1 h5 h7 (by omega) h12 hpo ht w
  have hH : HeR (addF m (nM m) (oi (po.map (idM m))) (nI t) w) (hM m) (lvM m) (thM m) (taM m) := HeR.cong h2 (fun j hj => addF_o (by omega) (by omega) (by omega))
  refine CoW.of (nx := nx + 1) hF hH hs (by rw [addF_o (by omega) (by omega) (by omega)]; exact h3) (by omega) (by unfold addF; rw [if_pos rfl, h5, nI_add]) (fun k hk => ?_)
  by_cases hkn : k = nM m
  · rw [if_pos hkn]; omega
  · rw [if_neg hkn]; have := h7 k (by omega); omega
theorem dropF_low {m : Nat → Int32} {k n j : Nat} (h : j < 29) (h2 : j ≠ 2) : dropF m k n j = m j := dropF_lo (by omega) h2 (by omega)
theorem CoW.drop {m : Nat → Int32} {B k : Nat} (h : CoW m B) (hk : k < nM m) (ht : ∀ j, j < nM m → prM m j ≠ some k) : CoW (dropF m k (nM m)) B := by
  obtain ⟨h1, h2, ⟨s, hs, h3⟩, nx, h4, h5, h7⟩ := h
  have hF := FoR.drop h1 hk ht
  have hH : HeR (dropF m k (nM m)) (hM m) (lvM m) (thM m) (taM m) := HeR.cong h2 (fun j hj => dropF_low (by omega) (by omega))
  exact CoW.of hF hH hs (by rw [dropF_low (by omega) (by omega)]; exact h3) h4 (by rw [dropF_low (by omega) (by omega)]; exact h5) (fun j hj => h7 _ (sk_lt hj))
theorem CoW.prn {r dp : Nat} {B : Nat} : ∀ (i : Nat) (m : Nat → Int32) (c : Nat), prnOk r dp i m → CoW m B → CoW (prnF r dp i m c).1 B := by
  intro i
  induction i with
  | zero => intro m c _ h; exact h
  | succ i ih =>
    intro m c hok h
    by_cases h1 : anc (prM m) r (r + (i + 1)) = true ∧ dp < dep (prM m) (r + (i + 1))
    · rw [prnF_yes h1.1 h1.2]
      exact ih _ _ (prn_drop hok h1.1 h1.2) (h.drop hok.2.1 (prn_tip hok h1.1 h1.2))
    · rw [prnF_no (by
        rw [Bool.and_eq_false_iff]
        by_cases h2 : anc (prM m) r (r + (i + 1)) = true
        · exact Or.inr (decide_eq_false (fun z => h1 ⟨h2, z⟩))
        · exact Or.inl (by simpa using h2))]
      exact ih _ _ (prn_skip hok h1) h
theorem tipB_no {pr : Nat → Option Nat} {p : Nat} : ∀ {i : Nat}, tipB pr p i = true → ∀ j, j < i → pr j ≠ some p := by
  intro i
  induction i with
  | zero => intro _ j hj; omega
  | succ i ih =>
    intro h j hj hp
    unfold tipB at h
    rw [Bool.and_eq_true] at h
    rcases Nat.lt_or_ge j i with q | q
    · exact ih h.1 j q hp
    · have e : j = i := by omega
      subst e
      simp [hp] at h
theorem carF_keep {m : Nat → Int32} {k j : Nat} (hs : snM m < 4) (hj : j = 0 ∨ j = 1 ∨ j = 2 ∨ j = 3 ∨ (11 ≤ j ∧ j < 29) ∨ ∃ k w, k < 12 ∧ w < 3 ∧ j = 29 + 4 * k + w) : carF m k j = m j := by
  rcases hj with rfl | rfl | rfl | rfl | hj | ⟨a, w, h1, h2, rfl⟩
  · exact carF_o (by decide) (Or.inl (by decide)) (by decide) (Or.inl (by decide)) hs
  · exact carF_o (by decide) (Or.inl (by decide)) (by decide) (Or.inl (by decide)) hs
  · exact carF_o (by decide) (Or.inl (by decide)) (by decide) (Or.inl (by decide)) hs
  · exact carF_o (by decide) (Or.inl (by decide)) (by decide) (Or.inl (by decide)) hs
  · exact carF_o (by omega) (Or.inr (by omega)) (by omega) (Or.inl (by omega)) hs
  · exact carF_o (by omega) (Or.inr (by omega)) (by omega) (Or.inr (fun p => by omega)) hs
theorem CoW.snM {m : Nat → Int32} {B : Nat} (h : CoW m B) : snM m < 4 := by
  obtain ⟨-, -, ⟨s, hs, h3⟩, -⟩ := h
  rw [snM_eq h3 hs]; exact hs
theorem CoW.vote {m : Nat → Int32} {B q : Nat} (h : CoW m B) (hq : q < nM m) (ht : tipB (prM m) q (nM m) = true) : CoW (votF m q) B := by
  have hv := vtF_ok (t := tnM m q) h.2.1 (hM m) (Nat.le_refl _)
  obtain ⟨a1, a2, a3, a4, a5⟩ := hv
  obtain ⟨h1, h2, ⟨s, hs, h3⟩, nx, h4, h5, h7⟩ := id h
  have hF : FoR (vtF (tnM m q) m (hM m)).1 (nM m) (idM m) (prM m) (tnM m) := FoR.he h1 (fun j hj => a3 j (by omega))
  have hC : CoW (vtF (tnM m q) m (hM m)).1 B := CoW.of hF a1 hs (by rw [a3 3 (by omega)]; exact h3) h4 (by rw [a3 1 (by omega)]; exact h5) h7
  have hC2 : CoW (upd (vtF (tnM m q) m (hM m)).1 9 ((vtF (tnM m q) m (hM m)).1 9 + nI 1)) B := hC.keep (fun j hj => pk_un (by rcases hj with rfl | rfl | rfl | rfl | hj | ⟨a, w, _, _, rfl⟩ <;> omega))
  have hF2 : FoR (upd (vtF (tnM m q) m (hM m)).1 9 ((vtF (tnM m q) m (hM m)).1 9 + nI 1)) (nM m) (idM m) (prM m) (tnM m) := hF.he (fun j hj => pk_un (by omega))
  have key : ∀ m2, CoW m2 B → FoR m2 (nM m) (idM m) (prM m) (tnM m) → CoW (dropF m2 q (nM m)) B := by
    intro m2 c2 f2
    have := c2.drop (k := q) (by rw [f2.n_eq]; exact hq) (fun j hj => by rw [f2.n_eq] at hj; rw [f2.pr_eq hj]; exact tipB_no ht j hj)
    rw [f2.n_eq] at this
    exact this
  unfold votF
  split
  · refine key _ (hC2.keep (fun j hj => carF_keep hC2.snM hj)) (hF2.cong (fun j hj => carF_keep hC2.snM (by rcases hj with hj | hj; exact Or.inr (Or.inr (Or.inl hj)); exact Or.inr (Or.inr (Or.inr (Or.inr (Or.inr hj)))))))
  · exact key _ hC2 hF2
theorem CoW.season {m : Nat → Int32} {B s1 : Nat} (h : CoW m B) (hs1 : s1 < 4) : CoW (seaF s1 (upd m 3 (nI s1)) (hM m)) B := by
  obtain ⟨h1, h2, ⟨s, hs, h3⟩, nx, h4, h5, h7⟩ := id h
  have hH0 : HeR (upd m 3 (nI s1)) (hM m) (lvM m) (thM m) (taM m) := HeR.cong h2 (fun j hj => pk_un (by omega))
  obtain ⟨a1, a2, a3⟩ := seaF_ok (s := s1) hH0.w (hM m) (by rw [hH0.eqs.1]; exact Nat.le_refl _)
  have hF : FoR (seaF s1 (upd m 3 (nI s1)) (hM m)) (nM m) (idM m) (prM m) (tnM m) := FoR.he h1 (fun j hj => by rw [a3 j (by omega), pk_un (by omega)])
  exact CoW.of hF a1 hs1 (by rw [a3 3 (by omega), pk_us]) h4 (by rw [a3 1 (by omega), pk_un (by omega)]; exact h5) h7
/-- what a command leaves is a row again -/
theorem CoW.do {m m1 : Nat → Int32} {B w : Nat} {a b c : Int32} (h : CoW m B) (hB : B < 1048576) (hw : w < 7) (hd : doF m w a b c = some m1) : CoW m1 (B + 1) := by
  have hF := h.1
  match w, hw, hd with
  | 0, _, hd =>
    rw [doF_0] at hd; split at hd
    · rename_i z; cases hd; exact (h.hedge z.1 z.2).mono (by omega)
    · cases hd
  | 1, _, hd =>
    rw [doF_1] at hd; split at hd
    · rename_i z; cases hd
      rw [Bool.and_eq_true] at z
      obtain ⟨t, et, ht, -⟩ := rg_of z.1.1 (Or.inl (by decide)) (bb := 9) (by decide) (by decide)
      subst et
      exact h.add (po := none) hB z.2 (fun j hj => by cases hj) ht b
    · cases hd
  | 2, _, hd =>
    rw [doF_2] at hd
    cases hq : fnd (fun k => m (29 + 4 * k)) a (nM m) with
    | none => rw [hq] at hd; cases hd
    | some q =>
      rw [hq] at hd; dsimp only at hd; split at hd
      · rename_i z; cases hd
        rw [Bool.and_eq_true] at z
        obtain ⟨t, et, ht, -⟩ := rg_of z.1.1 (Or.inl (by decide)) (bb := 9) (by decide) (by decide)
        subst et
        obtain ⟨hqn, hqa, -⟩ := fnd_some hq
        have ea : a = oi ((some q).map (idM m)) := by rw [← hqa]; exact (hF.2.2.1 q hqn).1
        rw [ea]
        exact h.add (po := some q) hB z.2 (fun j hj => by cases hj; exact hqn) ht c
      · cases hd
  | 3, _, hd =>
    rw [doF_3] at hd
    cases hq : fnd (fun k => m (29 + 4 * k)) a (nM m) with
    | none => rw [hq] at hd; cases hd
    | some q =>
      rw [hq] at hd; dsimp only at hd; split at hd
      · cases hd
        exact (CoW.prn _ _ _ (prnOk_0 hF (fnd_some hq).1) h).mono (by omega)
      · cases hd
  | 4, _, hd =>
    rw [doF_4] at hd
    cases hq : fnd (fun k => m (29 + 4 * k)) a (nM m) with
    | none => rw [hq] at hd; cases hd
    | some q =>
      rw [hq] at hd; dsimp only at hd
      by_cases h12 : nM m < 12
      · rw [if_pos h12] at hd
        cases ht : ltp (prM m) (nM m) q (nM m) with
        | none => rw [ht] at hd; cases hd
        | some t =>
          rw [ht] at hd; dsimp only at hd; cases hd
          have htn := ltp_lt ht
          have ea : m (29 + 4 * t) = oi ((some t).map (idM m)) := (hF.2.2.1 t htn).1
          rw [ea]
          exact h.add (po := some t) hB h12 (fun j hj => by cases hj; exact htn) (by omega) _
      · rw [if_neg h12] at hd; cases hd
  | 5, _, hd =>
    rw [doF_5] at hd
    cases hq : fnd (fun k => m (29 + 4 * k)) a (nM m) with
    | none => rw [hq] at hd; cases hd
    | some q =>
      rw [hq] at hd; dsimp only at hd
      by_cases hz : hM m = 0 ∨ tipB (prM m) q (nM m) = false
      · rw [if_pos hz] at hd; cases hd
      · rw [if_neg hz] at hd; cases hd
        exact (h.vote (fnd_some hq).1 (by cases ht : tipB (prM m) q (nM m) with | true => rfl | false => exact absurd (Or.inr ht) hz)).mono (by omega)
  | 6, _, hd =>
    rw [doF_6] at hd; cases hd
    exact (h.season (by omega)).mono (by omega)
