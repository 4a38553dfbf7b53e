/-- a fresh state of the reference -/
def MF (S : MSt) : Prop := S 0 = (fun _ => nI 0) ∧ S 12 = (fun _ => nI 0) ∧ (∀ k, S 13 k = if k = 6 ∨ k = 7 then -1 else nI 0) ∧ WdOk S
theorem MF.n {S : MSt} (h : MF S) : nM (S 0) = 0 := by unfold nM; rw [h.1]; exact nI_clamp (by decide)
theorem MF.h {S : MSt} (h : MF S) : hM (S 0) = 0 := by unfold hM; rw [h.1]; exact nI_clamp (by decide)
theorem MF.fo {S : MSt} (h : MF S) : FoW (S 0) := by
  unfold FoW
  rw [h.n]
  exact ⟨by rw [h.1], by decide, fun k hk => absurd hk (Nat.not_lt_zero _), fun k hk => absurd hk (Nat.not_lt_zero _), fun k j hk => absurd hk (Nat.not_lt_zero _), fun j k _ hk => absurd hk (Nat.not_lt_zero _), fun k hk => absurd hk (Nat.not_lt_zero _)⟩
theorem MF.he {S : MSt} (h : MF S) : HeW (S 0) := by
  unfold HeW
  rw [h.h]
  exact ⟨by rw [h.1], by decide, fun k hk => absurd hk (Nat.not_lt_zero _), fun k hk => absurd hk (Nat.not_lt_zero _), fun k hk => absurd hk (Nat.not_lt_zero _)⟩
theorem MF.co {S : MSt} (h : MF S) : CoW (S 0) 0 := ⟨h.fo, h.he, ⟨0, by decide, by rw [h.1]⟩, 0, Nat.le_refl _, by rw [h.1], fun k hk => absurd hk (by rw [h.n]; exact Nat.not_lt_zero _)⟩
theorem MF.c3 {S : MSt} (h : MF S) : S 13 3 = bI false := by rw [h.2.2.1]; rfl
theorem MF.c5 {S : MSt} (h : MF S) : S 13 5 = nI 0 := by rw [h.2.2.1]; rfl
theorem MF.c10 {S : MSt} (h : MF S) : S 13 10 = nI 0 := by rw [h.2.2.1]; rfl
theorem MF.c25 {S : MSt} (h : MF S) : S 13 25 = nI 0 := by rw [h.2.2.1]; rfl
theorem ss8 (S : MSt) (x : Int32) : (ss S 8 x) 13 8 = x := by simp [ss, sr, upd]
theorem fai8 (S : MSt) (t : Nat) : (faiS S t) 13 8 = nI t := ss8 _ _
theorem chg8 (S : MSt) (m : Nat → Int32) (ch : Nat) : (chgS S m ch) 13 8 = nI 0 := by simp [chgS, begS, ss, sr, upd]
theorem isHB0 (x : Int32) : isHB 0 x = false := by unfold isHB; exact decide_eq_false (by omega)
theorem isHBn (x : Int32) : (isHB 0 x = true) = False := by rw [isHB0]; simp
theorem prs0 (f cm : Nat → Int32) : (prsR f 0 cm).1.2 = true := by
  unfold prsR
  rw [prsF_1 (Or.inr (Nat.zero_le _))]
  have hw := wdP_le (f := f) (sz := 0) (u := 0) 6
  have hb := bgN_in (wdP f 0 0 6) (by omega)
  have hl := lkF_le (f := f) (sz := 0) (u := 0) (w := wdP f 0 0 6) (Nat.le_refl _)
  unfold cmdP
  rw [if_pos (by omega)]

theorem fr_leaves {S S1 : MSt} {r : Int32} {x : Int32} (hm : MF S) (hq : (isHB (hM (S 0)) x = false ∧ r = -1 ∧ S1 = ss S 8 (nI 1)) ∨ (∃ i, i < hM (S 0) ∧ x = nI i ∧ r = nI (lvM (S 0) i) ∧ S1 = ss S 8 (nI 0))) : S1 13 8 = nI 1 := by
  rcases hq with ⟨_, _, rfl⟩ | hq
  · exact ss8 _ _
  · exfalso; simp [hm.n, hm.h, fnd, isHB0, isHBn] at hq
theorem fr_thorns {S S1 : MSt} {r : Int32} {x : Int32} (hm : MF S) (hq : (isHB (hM (S 0)) x = false ∧ r = -1 ∧ S1 = ss S 8 (nI 1)) ∨ (∃ i, i < hM (S 0) ∧ x = nI i ∧ r = nI (thM (S 0) i) ∧ S1 = ss S 8 (nI 0))) : S1 13 8 = nI 1 := by
  rcases hq with ⟨_, _, rfl⟩ | hq
  · exact ss8 _ _
  · exfalso; simp [hm.n, hm.h, fnd, isHB0, isHBn] at hq
theorem fr_hedgeAtRank {S S1 : MSt} {r : Int32} {x : Int32} (hm : MF S) (hq : (fnd (fun k => nI (rkN (hAh (lvM (S 0)) (thM (S 0))) k (hM (S 0)))) x (hM (S 0)) = none ∧ r = -1 ∧ S1 = ss S 8 (nI 1)) ∨ (∃ k, fnd (fun k => nI (rkN (hAh (lvM (S 0)) (thM (S 0))) k (hM (S 0)))) x (hM (S 0)) = some k ∧ r = nI k ∧ S1 = ss S 8 (nI 0))) : S1 13 8 = nI 1 := by
  rcases hq with ⟨_, _, rfl⟩ | hq
  · exact ss8 _ _
  · exfalso; simp [hm.n, hm.h, fnd, isHB0, isHBn] at hq
theorem fr_leavesInFavour {S S1 : MSt} {r : Int32} {x : Int32} (hm : MF S) (hq : (fnd (fun k => S 0 (29 + 4 * k)) x (nM (S 0)) = none ∧ r = -1 ∧ S1 = ss S 8 (nI 1)) ∨ (∃ q, fnd (fun k => S 0 (29 + 4 * k)) x (nM (S 0)) = some q ∧ r = nI (fav (lvM (S 0)) (taM (S 0)) (tnM (S 0) q) (hM (S 0))) ∧ S1 = ss S 8 (nI 0))) : S1 13 8 = nI 1 := by
  rcases hq with ⟨_, _, rfl⟩ | hq
  · exact ss8 _ _
  · exfalso; simp [hm.n, hm.h, fnd, isHB0, isHBn] at hq
theorem fr_motionAt {S S1 : MSt} {r : Int32} {x : Int32} (hm : MF S) (hq : (isHB (nM (S 0)) x = false ∧ r = -1 ∧ S1 = ss S 8 (nI 1)) ∨ (∃ i, i < nM (S 0) ∧ x = nI i ∧ r = S 0 (29 + 4 * i) ∧ S1 = ss S 8 (nI 0))) : S1 13 8 = nI 1 := by
  rcases hq with ⟨_, _, rfl⟩ | hq
  · exact ss8 _ _
  · exfalso; simp [hm.n, hm.h, fnd, isHB0, isHBn] at hq
theorem fr_tone {S S1 : MSt} {r : Int32} {x : Int32} (hm : MF S) (hq : (fnd (fun k => S 0 (29 + 4 * k)) x (nM (S 0)) = none ∧ r = -1 ∧ S1 = ss S 8 (nI 1)) ∨ (∃ q, fnd (fun k => S 0 (29 + 4 * k)) x (nM (S 0)) = some q ∧ r = S 0 (29 + 4 * q + 2) ∧ S1 = ss S 8 (nI 0))) : S1 13 8 = nI 1 := by
  rcases hq with ⟨_, _, rfl⟩ | hq
  · exact ss8 _ _
  · exfalso; simp [hm.n, hm.h, fnd, isHB0, isHBn] at hq
theorem fr_weight {S S1 : MSt} {r : Int32} {x : Int32} (hm : MF S) (hq : (fnd (fun k => S 0 (29 + 4 * k)) x (nM (S 0)) = none ∧ r = -1 ∧ S1 = ss S 8 (nI 1)) ∨ (∃ q, fnd (fun k => S 0 (29 + 4 * k)) x (nM (S 0)) = some q ∧ r = S 0 (29 + 4 * q + 3) ∧ S1 = ss S 8 (nI 0))) : S1 13 8 = nI 1 := by
  rcases hq with ⟨_, _, rfl⟩ | hq
  · exact ss8 _ _
  · exfalso; simp [hm.n, hm.h, fnd, isHB0, isHBn] at hq
theorem fr_depth {S S1 : MSt} {r : Int32} {x : Int32} (hm : MF S) (hq : (fnd (fun k => S 0 (29 + 4 * k)) x (nM (S 0)) = none ∧ r = -1 ∧ S1 = ss S 8 (nI 1)) ∨ (∃ q, fnd (fun k => S 0 (29 + 4 * k)) x (nM (S 0)) = some q ∧ r = nI (dep (prM (S 0)) q) ∧ S1 = ss S 8 (nI 0))) : S1 13 8 = nI 1 := by
  rcases hq with ⟨_, _, rfl⟩ | hq
  · exact ss8 _ _
  · exfalso; simp [hm.n, hm.h, fnd, isHB0, isHBn] at hq
theorem fr_isTip {S S1 : MSt} {r : Int32} {x : Int32} (hm : MF S) (hq : (fnd (fun k => S 0 (29 + 4 * k)) x (nM (S 0)) = none ∧ r = nI 0 ∧ S1 = ss S 8 (nI 1)) ∨ (∃ q, fnd (fun k => S 0 (29 + 4 * k)) x (nM (S 0)) = some q ∧ r = bI (tipB (prM (S 0)) q (nM (S 0))) ∧ S1 = ss S 8 (nI 0))) : S1 13 8 = nI 1 := by
  rcases hq with ⟨_, _, rfl⟩ | hq
  · exact ss8 _ _
  · exfalso; simp [hm.n, hm.h, fnd, isHB0, isHBn] at hq
theorem fr_branchSize {S S1 : MSt} {r : Int32} {x : Int32} (hm : MF S) (hq : (fnd (fun k => S 0 (29 + 4 * k)) x (nM (S 0)) = none ∧ r = -1 ∧ S1 = ss S 8 (nI 1)) ∨ (∃ q, fnd (fun k => S 0 (29 + 4 * k)) x (nM (S 0)) = some q ∧ r = nI (brs (prM (S 0)) q (nM (S 0))) ∧ S1 = ss S 8 (nI 0))) : S1 13 8 = nI 1 := by
  rcases hq with ⟨_, _, rfl⟩ | hq
  · exact ss8 _ _
  · exfalso; simp [hm.n, hm.h, fnd, isHB0, isHBn] at hq
theorem fr_lastTip {S S1 : MSt} {r : Int32} {x : Int32} (hm : MF S) (hq : (fnd (fun k => S 0 (29 + 4 * k)) x (nM (S 0)) = none ∧ r = -1 ∧ S1 = ss S 8 (nI 1)) ∨ (∃ q t, fnd (fun k => S 0 (29 + 4 * k)) x (nM (S 0)) = some q ∧ ltp (prM (S 0)) (nM (S 0)) q (nM (S 0)) = some t ∧ r = S 0 (29 + 4 * t) ∧ S1 = ss S 8 (nI 0))) : S1 13 8 = nI 1 := by
  rcases hq with ⟨_, _, rfl⟩ | hq
  · exact ss8 _ _
  · exfalso; simp [hm.n, hm.h, fnd, isHB0, isHBn] at hq
theorem fr_motionAtRank {S S1 : MSt} {r : Int32} {x : Int32} (hm : MF S) (hq : (fnd (fun k => nI (rkN (mAh (S 0)) k (nM (S 0)))) x (nM (S 0)) = none ∧ r = -1 ∧ S1 = ss S 8 (nI 1)) ∨ (∃ k, fnd (fun k => nI (rkN (mAh (S 0)) k (nM (S 0)))) x (nM (S 0)) = some k ∧ r = S 0 (29 + 4 * k) ∧ S1 = ss S 8 (nI 0))) : S1 13 8 = nI 1 := by
  rcases hq with ⟨_, _, rfl⟩ | hq
  · exact ss8 _ _
  · exfalso; simp [hm.n, hm.h, fnd, isHB0, isHBn] at hq
theorem fr_longestPath {S S1 : MSt} {r : Int32} {x : Int32} (hm : MF S) (hq : (fnd (fun k => S 0 (29 + 4 * k)) x (nM (S 0)) = none ∧ r = -1 ∧ S1 = ss S 8 (nI 1)) ∨ (∃ q, fnd (fun k => S 0 (29 + 4 * k)) x (nM (S 0)) = some q ∧ r = nI (lpO (prM (S 0)) (nM (S 0)) q (nM (S 0)) + 1) ∧ S1 = ss S 8 (nI 0))) : S1 13 8 = nI 1 := by
  rcases hq with ⟨_, _, rfl⟩ | hq
  · exact ss8 _ _
  · exfalso; simp [hm.n, hm.h, fnd, isHB0, isHBn] at hq
theorem fr_longestPathBySweeps {S S1 : MSt} {r : Int32} {x : Int32} (hm : MF S) (hq : (fnd (fun k => S 0 (29 + 4 * k)) x (nM (S 0)) = none ∧ r = -1 ∧ S1 = ss S 8 (nI 1)) ∨ (∃ q, fnd (fun k => S 0 (29 + 4 * k)) x (nM (S 0)) = some q ∧ r = nI (lpO (prM (S 0)) (nM (S 0)) q (nM (S 0)) + 1) ∧ S1 = ss S 8 (nI 0))) : S1 13 8 = nI 1 := by
  rcases hq with ⟨_, _, rfl⟩ | hq
  · exact ss8 _ _
  · exfalso; simp [hm.n, hm.h, fnd, isHB0, isHBn] at hq
theorem fr_writeBranch {S S1 : MSt} {r : Int32} {x : Int32} (hm : MF S) (hq : (fnd (fun k => S 0 (29 + 4 * k)) x (nM (S 0)) = none ∧ r = -1 ∧ S1 = ss S 8 (nI 1)) ∨ (∃ q, fnd (fun k => S 0 (29 + 4 * k)) x (nM (S 0)) = some q ∧ r = nI (brF (S 0) (prM (S 0)) (nM (S 0)) q 13 (some q) (S 12) 0).2 ∧ (brF (S 0) (prM (S 0)) (nM (S 0)) q 13 (some q) (S 12) 0).2 ≤ 400 ∧ S1 = lnS (ss S 8 (nI 0)) (brF (S 0) (prM (S 0)) (nM (S 0)) q 13 (some q) (S 12) 0).1 (brF (S 0) (prM (S 0)) (nM (S 0)) q 13 (some q) (S 12) 0).2)) : S1 13 8 = nI 1 := by
  rcases hq with ⟨_, _, rfl⟩ | hq
  · exact ss8 _ _
  · exfalso; simp [hm.n, hm.h, fnd, isHB0, isHBn] at hq
theorem fr_parent {S S1 : MSt} {r : Int32} {x : Int32} (hm : MF S) (hq : (fnd (fun k => S 0 (29 + 4 * k)) x (nM (S 0)) = none ∧ r = -1 ∧ S1 = ss S 8 (nI 1)) ∨ (∃ q, fnd (fun k => S 0 (29 + 4 * k)) x (nM (S 0)) = some q ∧ prM (S 0) q = none ∧ r = -1 ∧ S1 = ss S 8 (nI 1)) ∨ (∃ q j, fnd (fun k => S 0 (29 + 4 * k)) x (nM (S 0)) = some q ∧ prM (S 0) q = some j ∧ r = nI (idM (S 0) j) ∧ S1 = ss S 8 (nI 0))) : S1 13 8 = nI 1 := by
  rcases hq with ⟨_, _, rfl⟩ | hq
  · exact ss8 _ _
  · exfalso; simp [hm.n, hm.h, fnd, isHB0, isHBn] at hq
theorem fr_wouldVeto {S S1 : MSt} {r : Int32} {x y : Int32} (hm : MF S) (hq : (isHB (hM (S 0)) x = false ∧ r = nI 0 ∧ S1 = ss S 8 (nI 1)) ∨ (isHB (hM (S 0)) x = true ∧ fnd (fun k => S 0 (29 + 4 * k)) y (nM (S 0)) = none ∧ r = nI 0 ∧ S1 = ss S 8 (nI 2)) ∨ (∃ i q, i < hM (S 0) ∧ x = nI i ∧ fnd (fun k => S 0 (29 + 4 * k)) y (nM (S 0)) = some q ∧ r = bI (vetB (dif (taM (S 0) i) (tnM (S 0) q)) (thM (S 0) i)) ∧ S1 = ss S 8 (nI 0))) : S1 13 8 = nI 1 := by
  rcases hq with ⟨_, _, rfl⟩ | hq
  · exact ss8 _ _
  · exfalso; simp [hm.n, hm.h, fnd, isHB0, isHBn] at hq
theorem fr_commonMotion {S S1 : MSt} {r : Int32} {x y : Int32} (hm : MF S) (hq : ((fnd (fun k => S 0 (29 + 4 * k)) x (nM (S 0)) = none ∨ fnd (fun k => S 0 (29 + 4 * k)) y (nM (S 0)) = none) ∧ r = -1 ∧ S1 = ss S 8 (nI 1)) ∨ (∃ a b, fnd (fun k => S 0 (29 + 4 * k)) x (nM (S 0)) = some a ∧ fnd (fun k => S 0 (29 + 4 * k)) y (nM (S 0)) = some b ∧ cmF (prM (S 0)) a b (nM (S 0)) = none ∧ r = -1 ∧ S1 = ss S 8 (nI 2)) ∨ (∃ a b k, fnd (fun k => S 0 (29 + 4 * k)) x (nM (S 0)) = some a ∧ fnd (fun k => S 0 (29 + 4 * k)) y (nM (S 0)) = some b ∧ cmF (prM (S 0)) a b (nM (S 0)) = some k ∧ r = S 0 (29 + 4 * k) ∧ S1 = ss S 8 (nI 0))) : S1 13 8 = nI 1 := by
  rcases hq with ⟨_, _, rfl⟩ | hq
  · exact ss8 _ _
  · exfalso; simp [hm.n, hm.h, fnd, isHB0, isHBn] at hq
theorem fr_commonMotionByRows {S S1 : MSt} {r : Int32} {x y : Int32} (hm : MF S) (hq : ((fnd (fun k => S 0 (29 + 4 * k)) x (nM (S 0)) = none ∨ fnd (fun k => S 0 (29 + 4 * k)) y (nM (S 0)) = none) ∧ r = -1 ∧ S1 = ss S 8 (nI 1)) ∨ (∃ a b, fnd (fun k => S 0 (29 + 4 * k)) x (nM (S 0)) = some a ∧ fnd (fun k => S 0 (29 + 4 * k)) y (nM (S 0)) = some b ∧ cmF (prM (S 0)) a b (nM (S 0)) = none ∧ r = -1 ∧ S1 = ss S 8 (nI 2)) ∨ (∃ a b k, fnd (fun k => S 0 (29 + 4 * k)) x (nM (S 0)) = some a ∧ fnd (fun k => S 0 (29 + 4 * k)) y (nM (S 0)) = some b ∧ cmF (prM (S 0)) a b (nM (S 0)) = some k ∧ r = S 0 (29 + 4 * k) ∧ S1 = ss S 8 (nI 0))) : S1 13 8 = nI 1 := by
  rcases hq with ⟨_, _, rfl⟩ | hq
  · exact ss8 _ _
  · exfalso; simp [hm.n, hm.h, fnd, isHB0, isHBn] at hq
theorem fr_pathSize {S S1 : MSt} {r : Int32} {x y : Int32} (hm : MF S) (hq : ((fnd (fun k => S 0 (29 + 4 * k)) x (nM (S 0)) = none ∨ fnd (fun k => S 0 (29 + 4 * k)) y (nM (S 0)) = none) ∧ r = -1 ∧ S1 = ss S 8 (nI 1)) ∨ (∃ a b, fnd (fun k => S 0 (29 + 4 * k)) x (nM (S 0)) = some a ∧ fnd (fun k => S 0 (29 + 4 * k)) y (nM (S 0)) = some b ∧ cmF (prM (S 0)) a b (nM (S 0)) = none ∧ r = -1 ∧ S1 = ss S 8 (nI 2)) ∨ (∃ a b k, fnd (fun k => S 0 (29 + 4 * k)) x (nM (S 0)) = some a ∧ fnd (fun k => S 0 (29 + 4 * k)) y (nM (S 0)) = some b ∧ cmF (prM (S 0)) a b (nM (S 0)) = some k ∧ r = nI (stN (prM (S 0)) (nM (S 0)) a b + 1) ∧ S1 = ss S 8 (nI 0))) : S1 13 8 = nI 1 := by
  rcases hq with ⟨_, _, rfl⟩ | hq
  · exact ss8 _ _
  · exfalso; simp [hm.n, hm.h, fnd, isHB0, isHBn] at hq
theorem fr_amend {S S1 : MSt} {r : Int32} {x y z : Int32} (hm : MF S) (hq : (fnd (fun k => S 0 (29 + 4 * k)) x 0 = none ∧ r = -1 ∧ S1 = faiS S 1) ∨ (∃ q, fnd (fun k => S 0 (29 + 4 * k)) x 0 = some q ∧ (rgB 0 9 y && rgB 1 20 z) = false ∧ r = -1 ∧ S1 = faiS S 2) ∨ (∃ q, fnd (fun k => S 0 (29 + 4 * k)) x 0 = some q ∧ (rgB 0 9 y && rgB 1 20 z) = true ∧ 0 = 12 ∧ r = -1 ∧ S1 = faiS S 3) ∨ (∃ q, fnd (fun k => S 0 (29 + 4 * k)) x 0 = some q ∧ (rgB 0 9 y && rgB 1 20 z) = true ∧ 0 < 12 ∧ r = S 0 1 ∧ S1 = chgS S (addF (S 0) 0 x y z) 0)) : S1 13 8 = nI 1 := by
  rcases hq with ⟨_, _, rfl⟩ | hq
  · exact fai8 _ _
  · exfalso; simp [hm.n, hm.h, fnd, isHB0, isHBn] at hq
theorem fr_prune {S S1 : MSt} {r : Int32} {x y : Int32} (hm : MF S) (hq : (fnd (fun k => S 0 (29 + 4 * k)) x (nM (S 0)) = none ∧ r = -1 ∧ S1 = faiS S 1) ∨ (∃ q, fnd (fun k => S 0 (29 + 4 * k)) x (nM (S 0)) = some q ∧ rgB 0 9 y = false ∧ r = -1 ∧ S1 = faiS S 2) ∨ (∃ q v, fnd (fun k => S 0 (29 + 4 * k)) x (nM (S 0)) = some q ∧ y = nI v ∧ v ≤ 9 ∧ rgB 0 9 y = true ∧ r = nI (prnR (S 0) q v).2 ∧ S1 = chgS S (prnR (S 0) q v).1 0)) : S1 13 8 = nI 1 := by
  rcases hq with ⟨_, _, rfl⟩ | hq
  · exact fai8 _ _
  · exfalso; simp [hm.n, hm.h, fnd, isHB0, isHBn] at hq
theorem fr_regrow {S S1 : MSt} {r : Int32} {x : Int32} (hm : MF S) (hq : (fnd (fun k => S 0 (29 + 4 * k)) x (nM (S 0)) = none ∧ r = -1 ∧ S1 = faiS S 1) ∨ (∃ q, fnd (fun k => S 0 (29 + 4 * k)) x (nM (S 0)) = some q ∧ nM (S 0) = 12 ∧ r = -1 ∧ S1 = faiS S 2) ∨ (∃ q t, fnd (fun k => S 0 (29 + 4 * k)) x (nM (S 0)) = some q ∧ nM (S 0) < 12 ∧ ltp (prM (S 0)) (nM (S 0)) q (nM (S 0)) = some t ∧ r = S 0 1 ∧ S1 = chgS S (addF (S 0) (nM (S 0)) (S 0 (29 + 4 * t)) (nI ((tnM (S 0) t + 1) % 10)) (hlfF (S 0 (29 + 4 * t + 3)))) 0)) : S1 13 8 = nI 1 := by
  rcases hq with ⟨_, _, rfl⟩ | hq
  · exact fai8 _ _
  · exfalso; simp [hm.n, hm.h, fnd, isHB0, isHBn] at hq
theorem fr_vote {S S1 : MSt} {r : Int32} {x : Int32} (hm : MF S) (hq : (fnd (fun k => S 0 (29 + 4 * k)) x (nM (S 0)) = none ∧ r = c16 (-1) ∧ S1 = faiS S 1) ∨ (∃ q, fnd (fun k => S 0 (29 + 4 * k)) x (nM (S 0)) = some q ∧ (hM (S 0) = 0 ∨ tipB (prM (S 0)) q (nM (S 0)) = false) ∧ r = c16 (-1) ∧ S1 = faiS S 2) ∨ (∃ q, fnd (fun k => S 0 (29 + 4 * k)) x (nM (S 0)) = some q ∧ 0 < hM (S 0) ∧ tipB (prM (S 0)) q (nM (S 0)) = true ∧ r = c16 (nI (votC (S 0) q)) ∧ S1 = chgS S (votF (S 0) q) 0)) : S1 13 8 = nI 1 := by
  rcases hq with ⟨_, _, rfl⟩ | hq
  · exact fai8 _ _
  · exfalso; simp [hm.n, hm.h, fnd, isHB0, isHBn] at hq
theorem fr_outputAt {S S1 : MSt} {r : Int32} {x : Int32} (hm : MF S) (hq : (isHB 0 x = false ∧ r = c16 (-1) ∧ S1 = ss S 8 (nI 1)) ∨ (∃ i, i < 0 ∧ x = nI i ∧ r = c16 (S 12 i) ∧ S1 = ss S 8 (nI 0))) : S1 13 8 = nI 1 := by
  rcases hq with ⟨_, _, rfl⟩ | hq
  · exact ss8 _ _
  · exfalso; simp [hm.n, hm.h, fnd, isHB0, isHBn] at hq
theorem fr_undo {S S1 : MSt} {r : Int32} (hm : MF S) (hq : (0 = 0 ∧ r = -1 ∧ S1 = ss S 8 (nI 1)) ∨ (0 < 0 ∧ r = nI (0 - 1) ∧ S1 = sr (ss (ss S 8 (nI 0)) 5 (nI (0 - 1))) 0 (getF (S 0) (S 3) (77 * (0 - 1)) 77))) : S1 13 8 = nI 1 := by
  rcases hq with ⟨_, _, rfl⟩ | hq
  · exact ss8 _ _
  · exfalso; simp [hm.n, hm.h, fnd, isHB0, isHBn] at hq
theorem fr_errorPosition {S S1 : MSt} {r : Int32} (hm : MF S) (hq : (S 13 6 = -1 ∧ r = -1 ∧ S1 = ss S 8 (nI 1)) ∨ (S 13 6 ≠ -1 ∧ r = S 13 6 ∧ S1 = ss S 8 (nI 0))) : S1 13 8 = nI 1 := by
  rcases hq with ⟨_, _, rfl⟩ | hq
  · exact ss8 _ _
  · exact absurd (by rw [hm.2.2.1]; rfl) hq.1
theorem fr_failedCommand {S S1 : MSt} {r : Int32} (hm : MF S) (hq : (S 13 7 = -1 ∧ r = -1 ∧ S1 = ss S 8 (nI 1)) ∨ (S 13 7 ≠ -1 ∧ r = S 13 7 ∧ S1 = ss S 8 (nI 0))) : S1 13 8 = nI 1 := by
  rcases hq with ⟨_, _, rfl⟩ | hq
  · exact ss8 _ _
  · exact absurd (by rw [hm.2.2.1]; rfl) hq.1
theorem fr_restore {S S1 : MSt} (hm : MF S) (hq : (false = false ∧ S1 = ss S 8 (nI 1)) ∨ (false = true ∧ S1 = ss (sr (ss S 8 (nI 0)) 0 (cpyF (S 0) (S 2) 77)) 5 (nI 0))) : S1 13 8 = nI 1 := by
  rcases hq with ⟨_, rfl⟩ | hq
  · exact ss8 _ _
  · exact absurd hq.1 (by decide)
theorem fr_addHedge {S S1 : MSt} {r : Int32} {x y z : Int32} (hm : MF S) (hq : ((rgB 1 99 x && rgB 0 9 y && rgB 0 9 z) = false ∧ r = -1 ∧ S1 = faiS S 1) ∨ ((rgB 1 99 x && rgB 0 9 y && rgB 0 9 z) = true ∧ 0 = 6 ∧ r = -1 ∧ S1 = faiS S 2) ∨ ((rgB 1 99 x && rgB 0 9 y && rgB 0 9 z) = true ∧ 0 < 6 ∧ r = nI 0 ∧ S1 = chgS S (hedgeF (S 0) 0 x y z) 0)) : ((rgB 1 99 x && rgB 0 9 y && rgB 0 9 z) = false ∧ S1 13 8 = nI 1) ∨ ((rgB 1 99 x && rgB 0 9 y && rgB 0 9 z) = true ∧ r = nI 0 ∧ S1 13 8 = nI 0) := by
  rcases hq with ⟨h1, _, rfl⟩ | ⟨_, h2, _⟩ | ⟨h1, _, h2, rfl⟩
  · exact Or.inl ⟨h1, fai8 _ _⟩
  · exact absurd h2 (by decide)
  · exact Or.inr ⟨h1, h2, chg8 _ _ _⟩
theorem fr_propose {S S1 : MSt} {r : Int32} {x y : Int32} (hm : MF S) (hq : ((rgB 0 9 x && rgB 1 20 y) = false ∧ r = -1 ∧ S1 = faiS S 1) ∨ ((rgB 0 9 x && rgB 1 20 y) = true ∧ 0 = 12 ∧ r = -1 ∧ S1 = faiS S 2) ∨ ((rgB 0 9 x && rgB 1 20 y) = true ∧ 0 < 12 ∧ r = S 0 1 ∧ S1 = chgS S (addF (S 0) 0 (-1) x y) 0)) : ((rgB 0 9 x && rgB 1 20 y) = false ∧ S1 13 8 = nI 1) ∨ ((rgB 0 9 x && rgB 1 20 y) = true ∧ r = nI 0 ∧ S1 13 8 = nI 0) := by
  rcases hq with ⟨h1, _, rfl⟩ | ⟨_, h2, _⟩ | ⟨h1, _, h2, rfl⟩
  · exact Or.inl ⟨h1, fai8 _ _⟩
  · exact absurd h2 (by decide)
  · exact Or.inr ⟨h1, by rw [h2, hm.1], chg8 _ _ _⟩
theorem fr_minutesIn {S S1 : MSt} {r : Int32} {x : Int32} (hm : MF S) (hq : (rgB 0 3 x = false ∧ r = -1 ∧ S1 = ss S 8 (nI 1)) ∨ (∃ v, v ≤ 3 ∧ x = nI v ∧ r = S 0 (4 + v) ∧ S1 = ss S 8 (nI 0))) : (rgB 0 3 x = false ∧ S1 13 8 = nI 1) ∨ (rgB 0 3 x = true ∧ r = nI 0 ∧ S1 13 8 = nI 0) := by
  rcases hq with ⟨h1, _, rfl⟩ | ⟨v, hv, rfl, h2, rfl⟩
  · exact Or.inl ⟨h1, ss8 _ _⟩
  · exact Or.inr ⟨mi_in (by omega), by rw [h2, hm.1], ss8 _ _⟩
theorem fr_append {S S1 : MSt} {r : Int32} {x : Int32} (hm : MF S) (hq : (0 = 60 ∧ r = -1 ∧ S1 = ss S 8 (nI 1)) ∨ (0 < 60 ∧ r = nI (0 + 1) ∧ S1 = ss (sr (ss S 8 (nI 0)) 4 (upd (S 4) 0 x)) 10 (nI (0 + 1)))) : r = nI 1 ∧ S1 13 8 = nI 0 := by
  rcases hq with ⟨h1, _⟩ | ⟨_, h2, rfl⟩
  · exact absurd h1 (by decide)
  · exact ⟨h2, by simp [ss, sr, upd]⟩
theorem fr_passSeason {S S1 : MSt} {r : Int32} (hm : MF S) (hq : r = nI ((0 + 1) % 4) ∧ S1 = chgS S (seaF ((0 + 1) % 4) (upd (S 0) 3 (nI ((0 + 1) % 4))) (hM (S 0))) 0) : r = nI 1 := by
  rw [hq.1]
theorem fr_hedgeCount {S S1 : MSt} {r : Int32} (hm : MF S) (hq : r = nI (hM (S 0)) ∧ S1 = ss S 8 (nI 0)) : r = nI 0 := by
  rw [hq.1, hm.h]
theorem fr_motionCount {S S1 : MSt} {r : Int32} (hm : MF S) (hq : r = nI (nM (S 0)) ∧ S1 = ss S 8 (nI 0)) : r = nI 0 := by
  rw [hq.1, hm.n]
theorem fr_bestWorth {S S1 : MSt} {r : Int32} (hm : MF S) (hq : r = (meaR (ss S 8 (nI 0))).2.2.2.2.1 ∧ S1 = (meaT (ss S 8 (nI 0)) (meaR (ss S 8 (nI 0))))) : r = nI 0 := by
  have e : nM ((ss S 8 (nI 0)) 0) = 0 := hm.n
  rw [hq.1]
  unfold meaR
  rw [e]
  rfl
theorem fr_bestWorthBySets {S S1 : MSt} {r : Int32} (hm : MF S) (hq : r = (meaR (ss S 8 (nI 0))).2.2.2.2.1 ∧ S1 = (meaT (ss S 8 (nI 0)) (meaR (ss S 8 (nI 0))))) : r = nI 0 := by
  have e : nM ((ss S 8 (nI 0)) 0) = 0 := hm.n
  rw [hq.1]
  unfold meaR
  rw [e]
  rfl
theorem fr_goodSets {S S1 : MSt} {r : Int32} (hm : MF S) (hq : r = (meaR (ss S 8 (nI 0))).2.2.2.2.2 ∧ S1 = (meaT (ss S 8 (nI 0)) (meaR (ss S 8 (nI 0))))) : r = nI 1 := by
  have e : nM ((ss S 8 (nI 0)) 0) = 0 := hm.n
  rw [hq.1]
  unfold meaR
  rw [e]
  rfl
theorem fr_season {S S1 : MSt} {r : Int32} (hm : MF S) (hq : r = S 0 3 ∧ S1 = ss S 8 (nI 0)) : r = nI 0 := by
  rw [hq.1, hm.1]
theorem fr_adoptedWeight {S S1 : MSt} {r : Int32} (hm : MF S) (hq : r = S 0 8 ∧ S1 = ss S 8 (nI 0)) : r = nI 0 := by
  rw [hq.1, hm.1]
theorem fr_weightTotal {S S1 : MSt} {r : Int32} (hm : MF S) (hq : r = smw (S 0) (nM (S 0)) ∧ S1 = ss S 8 (nI 0)) : r = nI 0 := by
  rw [hq.1, hm.n]; rfl
theorem fr_weightByAccounts {S S1 : MSt} {r : Int32} (hm : MF S) (hq : r = smw (S 0) (nM (S 0)) ∧ S1 = ss S 8 (nI 0)) : r = nI 0 := by
  rw [hq.1, hm.n]; rfl
theorem fr_isConsistent {S S1 : MSt} {r : Int32} (hm : MF S) (hq : r = nI 1 ∧ S1 = ss S 8 (nI 0)) : r = nI 1 := by
  exact hq.1
theorem fr_run {S S1 : MSt} {r : Int32} (hm : MF S) (hq : (∃ u k cm, prsR (S 4) 0 (S 11) = ((u, true), k, cm) ∧ r = -1 ∧ S1 = runE S 0 u k cm) ∨ (∃ u k cm mm t i, prsR (S 4) 0 (S 11) = ((u, false), k, cm) ∧ i < k ∧ runF (S 0) cm i = some mm ∧ runF (S 0) cm (i + 1) = none ∧ r = -1 ∧ S1 = runX S 0 u k cm mm t i) ∨ (∃ u k cm mm, prsR (S 4) 0 (S 11) = ((u, false), k, cm) ∧ runF (S 0) cm k = some mm ∧ CoW mm (0 + k) ∧ r = nI k ∧ S1 = runC S 0 u k cm mm 0)) : S1 13 8 = nI 1 := by
  rcases hq with ⟨u, k, cm, _, _, rfl⟩ | ⟨u, k, cm, mm, t, i, h1, _⟩ | ⟨u, k, cm, mm, h1, _⟩
  · exact ss8 _ _
  · have := prs0 (S 4) (S 11); rw [h1] at this; cases this
  · have := prs0 (S 4) (S 11); rw [h1] at this; cases this
theorem dX10_meanLeaves_0 : decode cX10_meanLeaves 0 = .ok (.aload_n 0, 1) := by decide +kernel
theorem dX10_meanLeaves_1 : decode cX10_meanLeaves 1 = .ok (.iconst 0, 1) := by decide +kernel
theorem dX10_meanLeaves_2 : decode cX10_meanLeaves 2 = .ok (.putfield 57, 3) := by decide +kernel
theorem dX10_meanLeaves_5 : decode cX10_meanLeaves 5 = .ok (.aload_n 0, 1) := by decide +kernel
theorem dX10_meanLeaves_6 : decode cX10_meanLeaves 6 = .ok (.getfield 9, 3) := by decide +kernel
theorem dX10_meanLeaves_9 : decode cX10_meanLeaves 9 = .ok (.iconst 0, 1) := by decide +kernel
theorem dX10_meanLeaves_10 : decode cX10_meanLeaves 10 = .ok (.iaload, 1) := by decide +kernel
theorem dX10_meanLeaves_11 : decode cX10_meanLeaves 11 = .ok (.ifCond .ne 11, 3) := by decide +kernel
theorem dX10_meanLeaves_14 : decode cX10_meanLeaves 14 = .ok (.aload_n 0, 1) := by decide +kernel
theorem dX10_meanLeaves_15 : decode cX10_meanLeaves 15 = .ok (.iconst 1, 1) := by decide +kernel
theorem dX10_meanLeaves_16 : decode cX10_meanLeaves 16 = .ok (.invokevirtual 101, 3) := by decide +kernel
theorem dX10_meanLeaves_19 : decode cX10_meanLeaves 19 = .ok (.pop, 1) := by decide +kernel
theorem dX10_meanLeaves_20 : decode cX10_meanLeaves 20 = .ok (.dconst 0, 1) := by decide +kernel
theorem dX10_meanLeaves_21 : decode cX10_meanLeaves 21 = .ok (.dreturn, 1) := by decide +kernel
theorem dX10_meanLeaves_22 : decode cX10_meanLeaves 22 = .ok (.aload_n 0, 1) := by decide +kernel
theorem dX10_meanLeaves_23 : decode cX10_meanLeaves 23 = .ok (.invokevirtual 150, 3) := by decide +kernel
theorem dX10_meanLeaves_26 : decode cX10_meanLeaves 26 = .ok (.i2d, 1) := by decide +kernel
theorem dX10_meanLeaves_27 : decode cX10_meanLeaves 27 = .ok (.aload_n 0, 1) := by decide +kernel
theorem dX10_meanLeaves_28 : decode cX10_meanLeaves 28 = .ok (.getfield 9, 3) := by decide +kernel
theorem dX10_meanLeaves_31 : decode cX10_meanLeaves 31 = .ok (.iconst 0, 1) := by decide +kernel
theorem dX10_meanLeaves_32 : decode cX10_meanLeaves 32 = .ok (.iaload, 1) := by decide +kernel
theorem dX10_meanLeaves_33 : decode cX10_meanLeaves 33 = .ok (.i2d, 1) := by decide +kernel
theorem dX10_meanLeaves_34 : decode cX10_meanLeaves 34 = .ok (.ddiv, 1) := by decide +kernel
theorem dX10_meanLeaves_35 : decode cX10_meanLeaves 35 = .ok (.dreturn, 1) := by decide +kernel
set_option maxRecDepth 20000 in
theorem f_meanLeaves (l : Launch) (D : va_G) (aT : Nat → ClassId) (ad : Nat → Nat) (S : MSt) (hm : MF S) : ∀ sz, Met l yX10_meanLeaves (Cond.code yX10_meanLeaves cX10_meanLeaves 1 (some .double) :: gw) (mdR 1 30) (va_Pc [.ref (ad 0)] (mdB1 D aT ad S sz)) (va_Qd (fun _ S1 => S1 13 8 = nI 1) (mdB2 D aT ad S sz) (va_A (mdW aT ad S) sz)) 0 0 (va_A (mdW aT ad S) sz) := by
  intro sz
  refine Met.ofW (cc := cX10_meanLeaves) (maxL := 1) (ret := some .double) (by decide +kernel) rfl ?_
  intro p e s m args below meth c s₁ B hml hv
  obtain ⟨rfl, hsz, hP, hK, hD0⟩ := hv
  have hts := atoms_spec (ws := Cond.code yX10_meanLeaves cX10_meanLeaves 1 (some .double) :: gw) B.pre
  have hown : s.vm.findClass RX10 = some m.cls := findClass_of_methodNamed B.named
  subst hsz
  have hl := lv_entry [.ref (ad 0)] (n := 1) (Nat.le_of_ble_eq_true rfl)
  rw [lg_entry_eq]
  generalize (lg_sl [.ref (ad 0)] ++ List.replicate (1 - (lg_sl [.ref (ad 0)]).length) Slot.unset).toArray = ls at hl ⊢
  have hl : lv_has ls 1 [(0, .ref (ad 0))] := hl
  have hx := B.exec
  have hb := B.bytes
  have C : MdX p c cX10_meanLeaves s [Value.ref (ad 0)].toArray m D aT := ⟨hx, hb, fun w hw => hts w (List.mem_cons_of_mem _ hw), hown, hK⟩
  have hA : ∀ q, s.heap.size ≤ q → va_A (mdW aT ad S) s.heap.size q := fun q h => Or.inr h
  have hW : MdB D aT ad S (va_A (mdW aT ad S) s.heap.size) s.heap s.heap [] := ⟨hP, hD0.self (sz := s.heap.size), va_S.rf⟩
  refine lv_aload_n hx hb dX10_meanLeaves_0 rfl (lv_at hl 0 rfl) ?_
  refine lv_iconst (v := nI 0) hx hb dX10_meanLeaves_1 (by decide) ?_
  refine md_put_thrown C hW dX10_meanLeaves_2 (fun H locs hW => ?_)
  refine lv_aload_n hx hb dX10_meanLeaves_5 rfl (lv_at hl 0 rfl) ?_
  refine md_geta_m C hW dX10_meanLeaves_6 ?_
  refine lv_iconst (v := nI 0) hx hb dX10_meanLeaves_9 (by decide) ?_
  refine md_ald_m C hW (i := 0) (by decide) dX10_meanLeaves_10 ?_
  refine r_eq (y := nI 0) (by show S 0 0 = nI 0; rw [hm.1]) ?_
  refine lv_if_ne hx hb (x := nI 0) (tgt := 22) dX10_meanLeaves_11 (by decide) (fun c1 => ?_) (fun _ => ?_)
  · exact absurd rfl c1
  · refine lv_aload_n hx hb dX10_meanLeaves_14 rfl (lv_at hl 0 rfl) ?_
    refine lv_iconst (v := nI 1) hx hb dX10_meanLeaves_15 (by decide) ?_
    refine md_calli C hml hl.1 (As := [.int (nI 1)]) (rest := []) (m_throwing l D aT ad (ss S 8 (nI 0)) 1) gT_throwing hd_throwing rfl ⟨Nat.le_of_ble_eq_true rfl, Nat.le_of_ble_eq_true rfl⟩ ⟨Nat.le_refl _, Nat.le_refl _⟩ hW hA rfl (Nat.le_of_ble_eq_true rfl) dX10_meanLeaves_16 (fun r S1 H locs hq hW => ?_)
    obtain ⟨rfl, rfl⟩ := hq
    refine lv_pop hx hb dX10_meanLeaves_19 rfl ?_
    refine lv_dconst0 hx hb dX10_meanLeaves_20 ?_
    exact W.dret hx hb B.returns (fun t ht hW' => ⟨⟨_, _, rfl, ss8 _ _, by rw [ht]; exact hW.1, va_K.moved hW'.alike hK, hW.2.1⟩, hW.2.2.F ht⟩) hW.2.2.2.2 dX10_meanLeaves_21 B.notSynchronized
theorem dX10_carriedShare_0 : decode cX10_carriedShare 0 = .ok (.aload_n 0, 1) := by decide +kernel
theorem dX10_carriedShare_1 : decode cX10_carriedShare 1 = .ok (.iconst 0, 1) := by decide +kernel
theorem dX10_carriedShare_2 : decode cX10_carriedShare 2 = .ok (.putfield 57, 3) := by decide +kernel
theorem dX10_carriedShare_5 : decode cX10_carriedShare 5 = .ok (.aload_n 0, 1) := by decide +kernel
theorem dX10_carriedShare_6 : decode cX10_carriedShare 6 = .ok (.getfield 9, 3) := by decide +kernel
theorem dX10_carriedShare_9 : decode cX10_carriedShare 9 = .ok (.bipush 9, 2) := by decide +kernel
theorem dX10_carriedShare_11 : decode cX10_carriedShare 11 = .ok (.iaload, 1) := by decide +kernel
theorem dX10_carriedShare_12 : decode cX10_carriedShare 12 = .ok (.ifCond .ne 11, 3) := by decide +kernel
theorem dX10_carriedShare_15 : decode cX10_carriedShare 15 = .ok (.aload_n 0, 1) := by decide +kernel
theorem dX10_carriedShare_16 : decode cX10_carriedShare 16 = .ok (.iconst 1, 1) := by decide +kernel
theorem dX10_carriedShare_17 : decode cX10_carriedShare 17 = .ok (.invokevirtual 101, 3) := by decide +kernel
theorem dX10_carriedShare_20 : decode cX10_carriedShare 20 = .ok (.pop, 1) := by decide +kernel
theorem dX10_carriedShare_21 : decode cX10_carriedShare 21 = .ok (.fconst 0, 1) := by decide +kernel
theorem dX10_carriedShare_22 : decode cX10_carriedShare 22 = .ok (.freturn, 1) := by decide +kernel
theorem dX10_carriedShare_23 : decode cX10_carriedShare 23 = .ok (.aload_n 0, 1) := by decide +kernel
theorem dX10_carriedShare_24 : decode cX10_carriedShare 24 = .ok (.getfield 9, 3) := by decide +kernel
theorem dX10_carriedShare_27 : decode cX10_carriedShare 27 = .ok (.bipush 10, 2) := by decide +kernel
theorem dX10_carriedShare_29 : decode cX10_carriedShare 29 = .ok (.iaload, 1) := by decide +kernel
theorem dX10_carriedShare_30 : decode cX10_carriedShare 30 = .ok (.i2f, 1) := by decide +kernel
theorem dX10_carriedShare_31 : decode cX10_carriedShare 31 = .ok (.aload_n 0, 1) := by decide +kernel
theorem dX10_carriedShare_32 : decode cX10_carriedShare 32 = .ok (.getfield 9, 3) := by decide +kernel
theorem dX10_carriedShare_35 : decode cX10_carriedShare 35 = .ok (.bipush 9, 2) := by decide +kernel
theorem dX10_carriedShare_37 : decode cX10_carriedShare 37 = .ok (.iaload, 1) := by decide +kernel
theorem dX10_carriedShare_38 : decode cX10_carriedShare 38 = .ok (.i2f, 1) := by decide +kernel
theorem dX10_carriedShare_39 : decode cX10_carriedShare 39 = .ok (.fdiv, 1) := by decide +kernel
theorem dX10_carriedShare_40 : decode cX10_carriedShare 40 = .ok (.freturn, 1) := by decide +kernel
set_option maxRecDepth 20000 in
theorem f_carriedShare (l : Launch) (D : va_G) (aT : Nat → ClassId) (ad : Nat → Nat) (S : MSt) (hm : MF S) : ∀ sz, Met l yX10_carriedShare (Cond.code yX10_carriedShare cX10_carriedShare 1 (some .float) :: gw) (mdR 1 30) (va_Pc [.ref (ad 0)] (mdB1 D aT ad S sz)) (va_Qf (fun _ S1 => S1 13 8 = nI 1) (mdB2 D aT ad S sz) (va_A (mdW aT ad S) sz)) 0 0 (va_A (mdW aT ad S) sz) := by
  intro sz
  refine Met.ofW (cc := cX10_carriedShare) (maxL := 1) (ret := some .float) (by decide +kernel) rfl ?_
  intro p e s m args below meth c s₁ B hml hv
  obtain ⟨rfl, hsz, hP, hK, hD0⟩ := hv
  have hts := atoms_spec (ws := Cond.code yX10_carriedShare cX10_carriedShare 1 (some .float) :: gw) B.pre
  have hown : s.vm.findClass RX10 = some m.cls := findClass_of_methodNamed B.named
  subst hsz
  have hl := lv_entry [.ref (ad 0)] (n := 1) (Nat.le_of_ble_eq_true rfl)
  rw [lg_entry_eq]
  generalize (lg_sl [.ref (ad 0)] ++ List.replicate (1 - (lg_sl [.ref (ad 0)]).length) Slot.unset).toArray = ls at hl ⊢
  have hl : lv_has ls 1 [(0, .ref (ad 0))] := hl
  have hx := B.exec
  have hb := B.bytes
  have C : MdX p c cX10_carriedShare s [Value.ref (ad 0)].toArray m D aT := ⟨hx, hb, fun w hw => hts w (List.mem_cons_of_mem _ hw), hown, hK⟩
  have hA : ∀ q, s.heap.size ≤ q → va_A (mdW aT ad S) s.heap.size q := fun q h => Or.inr h
  have hW : MdB D aT ad S (va_A (mdW aT ad S) s.heap.size) s.heap s.heap [] := ⟨hP, hD0.self (sz := s.heap.size), va_S.rf⟩
  refine lv_aload_n hx hb dX10_carriedShare_0 rfl (lv_at hl 0 rfl) ?_
  refine lv_iconst (v := nI 0) hx hb dX10_carriedShare_1 (by decide) ?_
  refine md_put_thrown C hW dX10_carriedShare_2 (fun H locs hW => ?_)
  refine lv_aload_n hx hb dX10_carriedShare_5 rfl (lv_at hl 0 rfl) ?_
  refine md_geta_m C hW dX10_carriedShare_6 ?_
  refine lv_bipush (v := nI 9) hx hb dX10_carriedShare_9 (by decide) ?_
  refine md_ald_m C hW (i := 9) (by decide) dX10_carriedShare_11 ?_
  refine r_eq (y := nI 0) (by show S 0 9 = nI 0; rw [hm.1]) ?_
  refine lv_if_ne hx hb (x := nI 0) (tgt := 23) dX10_carriedShare_12 (by decide) (fun c1 => ?_) (fun _ => ?_)
  · exact absurd rfl c1
  · refine lv_aload_n hx hb dX10_carriedShare_15 rfl (lv_at hl 0 rfl) ?_
    refine lv_iconst (v := nI 1) hx hb dX10_carriedShare_16 (by decide) ?_
    refine md_calli C hml hl.1 (As := [.int (nI 1)]) (rest := []) (m_throwing l D aT ad (ss S 8 (nI 0)) 1) gT_throwing hd_throwing rfl ⟨Nat.le_of_ble_eq_true rfl, Nat.le_of_ble_eq_true rfl⟩ ⟨Nat.le_refl _, Nat.le_refl _⟩ hW hA rfl (Nat.le_of_ble_eq_true rfl) dX10_carriedShare_17 (fun r S1 H locs hq hW => ?_)
    obtain ⟨rfl, rfl⟩ := hq
    refine lv_pop hx hb dX10_carriedShare_20 rfl ?_
    refine lv_fconst0 hx hb dX10_carriedShare_21 ?_
    exact W.fret hx hb B.returns (fun t ht hW' => ⟨⟨_, _, rfl, ss8 _ _, by rw [ht]; exact hW.1, va_K.moved hW'.alike hK, hW.2.1⟩, hW.2.2.F ht⟩) hW.2.2.2.2 dX10_carriedShare_22 B.notSynchronized
