/-! a part of a world, looked at as a whole: X ++ (K ++ T), the callee takes K -/
def sgK (X K : va_W) : List Nat := tlR X.length K
def sgR (X K T : va_W) : List Nat := List.range X.length ++ tlR (X.length + K.length) T
theorem sg_his (X K T : va_W) : (sgK X K).map (fun i => (X ++ (K ++ T))[i]?) = K.map some := by
  unfold sgK tlR
  rw [List.map_map]
  apply List.ext_getElem?
  intro j
  rw [List.getElem?_map, List.getElem?_map]
  by_cases hj : j < K.length
  · rw [List.getElem?_range hj]
    show some ((X ++ (K ++ T))[j + X.length]?) = _
    rw [List.getElem?_append_right (by omega), Nat.add_sub_cancel, List.getElem?_append_left hj, List.getElem?_eq_getElem hj]
    rfl
  · rw [List.getElem?_eq_none (by simp; omega), List.getElem?_eq_none (by omega)]; rfl
theorem sg_hR (X K T : va_W) : (sgR X K T).map (fun i => (X ++ (K ++ T))[i]?) = (X ++ T).map some := by
  unfold sgR
  rw [List.map_append, List.map_append]
  congr 1
  · apply List.ext_getElem?
    intro j
    rw [List.getElem?_map, List.getElem?_map]
    by_cases hj : j < X.length
    · rw [List.getElem?_range hj, List.getElem?_eq_getElem hj]
      show some ((X ++ (K ++ T))[j]?) = _
      rw [List.getElem?_append_left hj, List.getElem?_eq_getElem hj]
      rfl
    · rw [List.getElem?_eq_none (by simp; omega), List.getElem?_eq_none (by omega)]; rfl
  · unfold tlR
    rw [List.map_map]
    apply List.ext_getElem?
    intro j
    rw [List.getElem?_map, List.getElem?_map]
    by_cases hj : j < T.length
    · rw [List.getElem?_range hj]
      show some ((X ++ (K ++ T))[j + (X.length + K.length)]?) = _
      rw [List.getElem?_append_right (by omega), List.getElem?_append_right (by omega), show j + (X.length + K.length) - X.length - K.length = j by omega, List.getElem?_eq_getElem hj]
      rfl
    · rw [List.getElem?_eq_none (by simp; omega), List.getElem?_eq_none (by omega)]; rfl
theorem sg_tl {n : Nat} {T : va_W} : (tlR n T).Nodup := List.Pairwise.map _ (fun a b hab => by omega) List.nodup_range
theorem sg_in {n k : Nat} {T : va_W} (h : k ∈ tlR n T) : n ≤ k ∧ k < n + T.length := by
  obtain ⟨j, hj, rfl⟩ := List.mem_map.mp h
  have := List.mem_range.mp hj
  omega
theorem sg_nd (X K : va_W) : va_nd (sgK X K) = true := (nd_iff _).mpr sg_tl
theorem sg_ndR (X K T : va_W) : va_nd (sgR X K T) = true := (nd_iff _).mpr (List.nodup_append.mpr ⟨List.nodup_range, sg_tl, fun a ha b hb e => by
  have h1 := List.mem_range.mp ha
  have h2 := sg_in hb
  omega⟩)
theorem sg_dis (X K T : va_W) : ∀ i ∈ sgR X K T, i ∉ sgK X K := by
  intro i hi hk
  have h2 := sg_in hk
  rcases List.mem_append.mp hi with h | h
  · have h1 := List.mem_range.mp h
    omega
  · have h1 := sg_in h
    omega
theorem sg_at {D : va_G} {cl : List vw_C} {a : Nat} {c : ClassId} {n : Nat} {f g : Nat → Option Nat} {H : Heap} (h : ∀ j, j < n → f j = g j) (z : va_at D cl (a, .inl (c, (n, .inr (.inr (.inr (.inr f)))))) H) : va_at D cl (a, .inl (c, (n, .inr (.inr (.inr (.inr g)))))) H := by
  have e : arrV c n (fun j => va_rf (f j)) = arrV c n (fun j => va_rf (g j)) := arrV_same (fun j hj => by show va_rf (f j) = va_rf (g j); rw [h j hj])
  exact z.trans (congrArg some e)
theorem sg_mid {X Y : va_W} {x y : Nat × va_E} {i : Nat} {q : Nat × va_E} (h : ((X ++ [y]) ++ Y)[i]? = some q) : (i = X.length ∧ q = y ∧ ((X ++ [x]) ++ Y)[i]? = some x) ∨ ((X ++ [x]) ++ Y)[i]? = some q := by
  rw [List.append_assoc] at h ⊢
  by_cases h1 : i < X.length
  · rw [List.getElem?_append_left h1] at h
    exact Or.inr (by rw [List.getElem?_append_left h1]; exact h)
  · rw [List.getElem?_append_right (by omega)] at h
    rw [List.getElem?_append_right (by omega)]
    by_cases h2 : i = X.length
    · subst h2
      rw [Nat.sub_self] at h ⊢
      exact Or.inl ⟨rfl, (Option.some.inj h).symm, rfl⟩
    · obtain ⟨k, hk⟩ : ∃ k, i - X.length = k + 1 := ⟨i - X.length - 1, by omega⟩
      rw [hk] at h ⊢
      exact Or.inr h
/-- a row of references, equal as far as it goes -/
theorem sg_row {D : va_G} {X Y : va_W} {A : Nat → Prop} {H0 H : Heap} {locs : List Loc} {a n : Nat} {k : ClassId} {f g : Nat → Option Nat} (h : ∀ j, j < n → f j = g j) (hW : CxB D ((X ++ [(a, .inl (k, n, .inr (.inr (.inr (.inr f)))))]) ++ Y) A H0 H locs) : CxB D ((X ++ [(a, .inl (k, n, .inr (.inr (.inr (.inr g)))))]) ++ Y) A H0 H locs := by
  obtain ⟨h1, ⟨h2, h3⟩, h4⟩ := hW
  have key : ∀ (i : Nat) (q : Nat × va_E), ((X ++ [(a, .inl (k, n, .inr (.inr (.inr (.inr g)))))]) ++ Y)[i]? = some q → ∃ q1 : Nat × va_E, ((X ++ [(a, .inl (k, n, .inr (.inr (.inr (.inr f)))))]) ++ Y)[i]? = some q1 ∧ q1.1 = q.1 := by
    intro i q hq
    rcases sg_mid (x := (a, .inl (k, n, .inr (.inr (.inr (.inr f)))))) hq with ⟨-, rfl, h9⟩ | h9
    · exact ⟨_, h9, rfl⟩
    · exact ⟨q, h9, rfl⟩
  refine ⟨fun i q hq => ?_, ⟨fun i j p q hi hj he => ?_, fun i q hq => ?_⟩, h4⟩
  · rcases sg_mid (x := (a, .inl (k, n, .inr (.inr (.inr (.inr f)))))) hq with ⟨-, rfl, h9⟩ | h9
    · exact sg_at h (h1 i _ h9)
    · exact h1 i q h9
  · obtain ⟨p1, hp1, ep⟩ := key i p hi
    obtain ⟨q1, hq1, eq⟩ := key j q hj
    exact h2 i j p1 q1 hp1 hq1 (by rw [ep, eq]; exact he)
  · obtain ⟨q1, hq1, eq⟩ := key i q hq
    rw [← eq]
    exact h3 i q1 hq1
