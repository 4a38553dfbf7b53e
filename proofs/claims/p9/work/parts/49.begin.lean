theorem co_0 : CoW (fun _ => nI 0) 0 := by
  have hn : nM (fun _ => nI 0) = 0 := nI_clamp (by decide)
  have hh : hM (fun _ => nI 0) = 0 := nI_clamp (by decide)
  refine ⟨?_, ?_, ⟨0, by decide, rfl⟩, 0, Nat.le_refl _, rfl, fun k hk => absurd hk (by rw [hn]; omega)⟩
  · refine ⟨by rw [hn], by rw [hn]; decide, ?_⟩
    rw [hn]
    refine ⟨?_, ?_, ?_, ?_, ?_⟩ <;> intros <;> omega
  · refine ⟨by rw [hh], by rw [hh]; decide, ?_⟩
    rw [hh]
    refine ⟨?_, ?_, ?_⟩ <;> intros <;> omega
theorem bl_0 : BlC (fun _ _ => nI 0) 0 0 (fun _ => nI 0) := by
  have hn : nM (fun _ => nI 0) = 0 := nI_clamp (by decide)
  have hh : hM (fun _ => nI 0) = 0 := nI_clamp (by decide)
  refine ⟨hh.symm, hn.symm, fun i hi => absurd hi (Nat.not_lt_zero i), fun i hi => absurd hi (Nat.not_lt_zero i), fun _ _ => rfl, ⟨rfl, rfl, rfl, rfl, rfl⟩, by decide⟩
theorem clf_0 {S : MSt} (h0 : S 0 = (fun _ => nI 0)) (h13 : ∀ k, S 13 k = if k = 6 ∨ k = 7 then -1 else nI 0) (hw : WdOk S) (h4 : S 4 = (fun _ => nI 0)) {vb : Nat → Nat → Int32} {vh vm : Nat} {BB : Nat → Nat → Nat → Int32} {NH NM : Nat → Nat} : ClF S 0 (fun _ _ => nI 0) vb 0 0 vh vm false BB NH NM 0 0 (fun _ => nI 0) (-1) (-1) :=
  ⟨by rw [h0]; exact co_0, by rw [h0]; exact bl_0, by rw [h13]; rfl, (fun e => by cases e), ⟨Nat.zero_le _, fun k hk => absurd hk (Nat.not_lt_zero k)⟩, by rw [h13]; rfl, by decide, by rw [h13]; rfl, h4, by rw [h13]; rfl, by rw [h13]; rfl, hw⟩
