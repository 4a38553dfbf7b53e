section CLF
variable {S : MSt} {Bd : Nat} {b vb : Nat → Nat → Int32} {nh nm vh vm : Nat} {sv : Bool} {BB : Nat → Nat → Nat → Int32} {NH NM : Nat → Nat} {hc ln : Nat} {fX : Nat → Int32} {le lf : Int32}
/-- a change -/
theorem clf_chg (h : ClF S Bd b vb nh nm vh vm sv BB NH NM hc ln fX le lf) {M1 : Nat → Int32} {Bd2 nh2 nm2 hc2 : Nat} {b2 : Nat → Nat → Int32} {BB2 : Nat → Nat → Nat → Int32} {NH2 NM2 : Nat → Nat} (hB2 : Bd ≤ Bd2) (hC : CoW M1 Bd2) (hb : BlC b2 nh2 nm2 M1) (h2 : hc2 = min hc 7 + 1) (hH : HiC BB2 NH2 NM2 hc2 (nxP (fun k j => S 3 (77 * k + j)) hc (S 0)) Bd) : ClF (chgS S M1 hc) Bd2 b2 vb nh2 nm2 vh vm sv BB2 NH2 NM2 hc2 ln fX le lf := by
  obtain ⟨g1, g2, g3, g4, g5, g6, g7, g8, g9, g10, g11, g12⟩ := h
  refine ⟨hC, hb, g3, fun e => ⟨(g4 e).1.mono hB2, (g4 e).2⟩, (HiC.pst (S3 := S 3) (S1 := S 1) g5.1 h2 hH).mono hB2, ?_, g7, g8, g9, g10, g11, g12⟩
  rw [h2]; rfl
/-- a change that is refused -/
theorem clf_fai (h : ClF S Bd b vb nh nm vh vm sv BB NH NM hc ln fX le lf) {BB2 : Nat → Nat → Nat → Int32} {NH2 NM2 : Nat → Nat} (t : Nat) (hH : HiC BB2 NH2 NM2 hc (fun k j => S 3 (77 * k + j)) Bd) : ClF (faiS S t) Bd b vb nh nm vh vm sv BB2 NH2 NM2 hc ln fX le lf := by
  obtain ⟨g1, g2, g3, g4, g5, g6, g7, g8, g9, g10, g11, g12⟩ := h
  exact ⟨g1, g2, g3, g4, hH, g6, g7, g8, g9, g10, g11, g12⟩
/-- a question -/
theorem clf_q (h : ClF S Bd b vb nh nm vh vm sv BB NH NM hc ln fX le lf) (x : Int32) : ClF (ss S 8 x) Bd b vb nh nm vh vm sv BB NH NM hc ln fX le lf := by
  obtain ⟨g1, g2, g3, g4, g5, g6, g7, g8, g9, g10, g11, g12⟩ := h
  exact ⟨g1, g2, g3, g4, g5, g6, g7, g8, g9, g10, g11, g12⟩
/-- save -/
theorem clf_save (h : ClF S Bd b vb nh nm vh vm sv BB NH NM hc ln fX le lf) {v2 : Nat → Nat → Int32} (hv : BlC v2 nh nm (S 0)) : ClF (ss (sr (ss S 8 (nI 0)) 2 (cpyF (S 2) (S 0) 77)) 3 (nI 1)) Bd b v2 nh nm nh nm true BB NH NM hc ln fX le lf := by
  obtain ⟨g1, g2, g3, g4, g5, g6, g7, g8, g9, g10, g11, g12⟩ := h
  have e : ∀ j, j < 77 → cpyF (S 2) (S 0) 77 j = S 0 j := fun j hj => by unfold cpyF; rw [if_pos hj]
  exact ⟨g1, g2, rfl, fun _ => ⟨g1.cong e, hv.cong g1 e⟩, g5, g6, g7, g8, g9, g10, g11, g12⟩
/-- restore -/
theorem clf_restore (h : ClF S Bd b vb nh nm vh vm true BB NH NM hc ln fX le lf) {b2 : Nat → Nat → Int32} {BB2 : Nat → Nat → Nat → Int32} {NH2 NM2 : Nat → Nat} (hb : BlC b2 vh vm (S 2)) : ClF (ss (sr (ss S 8 (nI 0)) 0 (cpyF (S 0) (S 2) 77)) 5 (nI 0)) Bd b2 vb vh vm vh vm true BB2 NH2 NM2 0 ln fX le lf := by
  obtain ⟨g1, g2, g3, g4, g5, g6, g7, g8, g9, g10, g11, g12⟩ := h
  have e : ∀ j, j < 77 → cpyF (S 0) (S 2) 77 j = S 2 j := fun j hj => by unfold cpyF; rw [if_pos hj]
  exact ⟨(g4 rfl).1.cong e, hb.cong (g4 rfl).1 e, g3, g4, ⟨Nat.zero_le _, fun k hk => absurd hk (Nat.not_lt_zero k)⟩, rfl, g7, g8, g9, g10, g11, g12⟩
/-- undo -/
theorem clf_undo (h : ClF S Bd b vb nh nm vh vm sv BB NH NM hc ln fX le lf) (h0 : 0 < hc) {b2 : Nat → Nat → Int32} (hb : BlC b2 (NH (hc - 1)) (NM (hc - 1)) (fun j => S 3 (77 * (hc - 1) + j))) : ClF (sr (ss (ss S 8 (nI 0)) 5 (nI (hc - 1))) 0 (getF (S 0) (S 3) (77 * (hc - 1)) 77)) Bd b2 vb (NH (hc - 1)) (NM (hc - 1)) vh vm sv BB NH NM (hc - 1) ln fX le lf := by
  obtain ⟨g1, g2, g3, g4, g5, g6, g7, g8, g9, g10, g11, g12⟩ := h
  have e : ∀ j, j < 77 → getF (S 0) (S 3) (77 * (hc - 1)) 77 j = S 3 (77 * (hc - 1) + j) := fun j hj => by unfold getF; rw [if_pos hj]
  obtain ⟨-, hC⟩ := g5.2 (hc - 1) (by omega)
  exact ⟨hC.cong e, hb.cong hC e, g3, g4, ⟨by have := g5.1; omega, fun k hk => g5.2 k (by omega)⟩, rfl, g7, g8, g9, g10, g11, g12⟩
/-- a letter -/
theorem clf_append (h : ClF S Bd b vb nh nm vh vm sv BB NH NM hc ln fX le lf) (h60 : ln < 60) {x y : Int32} (hxy : x = y) : ClF (ss (sr (ss S 8 (nI 0)) 4 (upd (S 4) ln x)) 10 (nI (ln + 1))) Bd b vb nh nm vh vm sv BB NH NM hc (ln + 1) (upd fX ln y) le lf := by
  obtain ⟨g1, g2, g3, g4, g5, g6, g7, g8, g9, g10, g11, g12⟩ := h
  refine ⟨g1, g2, g3, g4, g5, g6, by omega, rfl, ?_, g10, g11, g12⟩
  show upd (S 4) ln x = upd fX ln y
  rw [g9, hxy]
/-- a text that is no program -/
theorem clf_runE (h : ClF S Bd b vb nh nm vh vm sv BB NH NM hc ln fX le lf) {n2 m2 : Nat} {b2 : Nat → Nat → Int32} {BB2 : Nat → Nat → Nat → Int32} {NH2 NM2 : Nat → Nat} (hb : BlC b2 n2 m2 (S 0)) (hH : HiC BB2 NH2 NM2 hc (fun k j => S 3 (77 * k + j)) Bd) (u k : Nat) (cm : Nat → Int32) : ClF (runE S ln u k cm) Bd b2 vb n2 m2 vh vm sv BB2 NH2 NM2 hc 0 fX (nI u) lf := by
  obtain ⟨g1, g2, g3, g4, g5, g6, g7, g8, g9, g10, g11, g12⟩ := h
  exact ⟨g1, hb, g3, g4, hH, g6, by omega, rfl, g9, rfl, g11, g12⟩
/-- a program with a command that fails -/
theorem clf_runX (h : ClF S Bd b vb nh nm vh vm sv BB NH NM hc ln fX le lf) {n2 m2 : Nat} {b2 : Nat → Nat → Int32} {BB2 : Nat → Nat → Nat → Int32} {NH2 NM2 : Nat → Nat} (hb : BlC b2 n2 m2 (S 0)) (hH : HiC BB2 NH2 NM2 hc (fun k j => S 3 (77 * k + j)) Bd) (u k : Nat) (cm mm : Nat → Int32) (t i : Nat) : ClF (runX S ln u k cm mm t i) Bd b2 vb n2 m2 vh vm sv BB2 NH2 NM2 hc 0 fX le (nI i) := by
  obtain ⟨g1, g2, g3, g4, g5, g6, g7, g8, g9, g10, g11, g12⟩ := h
  have e : ∀ j, j < 77 → cpyF mm (cpyF (S 1) (S 0) 77) 77 j = S 0 j := fun j hj => by unfold cpyF; rw [if_pos hj, if_pos hj]
  exact ⟨g1.cong e, hb.cong g1 e, g3, g4, hH, g6, by omega, rfl, g9, g10, rfl, g12⟩
/-- a program carried out -/
theorem clf_runC (h : ClF S Bd b vb nh nm vh vm sv BB NH NM hc ln fX le lf) {M1 : Nat → Int32} {Bd2 nh2 nm2 hc2 : Nat} {b2 : Nat → Nat → Int32} {BB2 : Nat → Nat → Nat → Int32} {NH2 NM2 : Nat → Nat} (hB2 : Bd ≤ Bd2) (hC : CoW M1 Bd2) (hb : BlC b2 nh2 nm2 M1) (h2 : hc2 = min hc 7 + 1) (hH : HiC BB2 NH2 NM2 hc2 (nxP (fun k j => S 3 (77 * k + j)) hc (S 0)) Bd) (u k : Nat) (cm : Nat → Int32) : ClF (runC S ln u k cm M1 hc) Bd2 b2 vb nh2 nm2 vh vm sv BB2 NH2 NM2 hc2 0 fX le lf := by
  obtain ⟨g1, g2, g3, g4, g5, g6, g7, g8, g9, g10, g11, g12⟩ := h
  refine ⟨hC, hb, g3, fun e => ⟨(g4 e).1.mono hB2, (g4 e).2⟩, (HiC.pst (S3 := S 3) (S1 := S 1) g5.1 h2 hH).mono hB2, ?_, by omega, rfl, g9, g10, g11, g12⟩
  rw [h2]; rfl
end CLF
