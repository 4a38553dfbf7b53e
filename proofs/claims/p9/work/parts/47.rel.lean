theorem fnd_co {f g : Nat → Int32} {x : Int32} : ∀ n, (∀ k, k < n → f k = g k) → fnd f x n = fnd g x n
  | 0, _ => rfl
  | n + 1, h => by rw [fnd, fnd, fnd_co n (fun k hk => h k (by omega)), h n (by omega)]
theorem BlC.cong {b : Nat → Nat → Int32} {nh nm B : Nat} {M M' : Nat → Int32} (h : BlC b nh nm M) (hC : CoW M B) (e : ∀ j, j < 77 → M' j = M j) : BlC b nh nm M' := by
  have l6 := (h.he hC).1
  have l12 := (h.mo hC).1
  obtain ⟨h1, h2, h3, h4, h5, h6, h7⟩ := h
  refine ⟨?_, ?_, fun i hi => ?_, fun k hk => ?_, fun j hj => ?_, ?_, ?_⟩
  · rw [h1]; unfold hM; rw [e 0 (by decide)]
  · rw [h2]; unfold nM; rw [e 2 (by decide)]
  · rw [e _ (by omega), e _ (by omega), e _ (by omega)]; exact h3 i hi
  · have en : nM M' = nM M := by unfold nM; rw [e 2 (by decide)]
    have ep : prM M' k = prM M k := by
      unfold prM
      rw [e _ (by omega), en, fnd_co (f := fun k => M' (29 + 4 * k)) (g := fun k => M (29 + 4 * k)) (nM M) (fun j hj => e _ (by omega))]
    rw [e _ (by omega), e _ (by omega), e _ (by omega), ep]; exact h4 k hk
  · rw [e _ (by omega)]; exact h5 j hj
  · rw [e 1 (by decide), e 3 (by decide), e 9 (by decide), e 10 (by decide), e 8 (by decide)]; exact h6
  · rw [smw_cong nm (fun k hk => e _ (by omega))]; exact h7
theorem CoW.cong {M M' : Nat → Int32} {B : Nat} (h : CoW M B) (e : ∀ j, j < 77 → M' j = M j) : CoW M' B := h.keep (fun j hj => by
  refine e j ?_
  rcases hj with h | h | h | h | h | ⟨k, w, h1, h2, h3⟩ <;> omega)
/-- the reference's past behind a change -/
theorem HiC.pst {BB : Nat → Nat → Nat → Int32} {NH NM : Nat → Nat} {hc hc2 B : Nat} {S3 S1 M : Nat → Int32} (h8 : hc ≤ 8) (h2 : hc2 = min hc 7 + 1) (h : HiC BB NH NM hc2 (nxP (fun k j => S3 (77 * k + j)) hc M) B) : HiC BB NH NM hc2 (fun k j => pstF S3 (cpyF S1 M 77) hc (77 * k + j)) B := by
  refine ⟨h.1, fun k hk => ?_⟩
  obtain ⟨hb, hC⟩ := h.2 k hk
  have e : ∀ j, j < 77 → pstF S3 (cpyF S1 M 77) hc (77 * k + j) = nxP (fun k j => S3 (77 * k + j)) hc M k j := by
    intro j hj
    unfold pstF nxP putF
    by_cases e8 : hc = 8
    · subst e8
      rw [if_pos rfl, if_pos rfl]
      by_cases e7 : k = 7
      · subst e7
        rw [if_pos rfl, if_pos (by omega)]
        unfold cpyF
        rw [if_pos (by omega)]
        exact congrArg M (by omega)
      · rw [if_neg e7, if_neg (by omega)]
        unfold shF
        rw [if_pos (by omega)]
        exact congrArg S3 (by omega)
    · rw [if_neg e8, if_neg e8]
      by_cases e7 : k = hc
      · subst e7
        rw [if_pos rfl, if_pos (by omega)]
        unfold cpyF
        rw [if_pos (by omega)]
        exact congrArg M (by omega)
      · rw [if_neg e7, if_neg (by omega)]
  exact ⟨hb.cong hC e, hC.cong e⟩
