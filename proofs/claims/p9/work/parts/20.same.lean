theorem arrV_same {c : ClassId} {n : Nat} {f g : Nat → Value} (h : ∀ j, j < n → f j = g j) : arrV c n f = arrV c n g := by
  unfold arrV
  rw [show (fun j : Fin n => f j.val) = fun j : Fin n => g j.val from funext fun j => h j.val j.isLt]
theorem at_same {D : va_G} {cl : List vw_C} {a : Nat} {c : ClassId} {n : Nat} {f g : Nat → Int32} {H : Heap} (h : ∀ j, j < n → f j = g j) (z : va_at D cl (a, .inl (c, (n, .inl f))) H) : va_at D cl (a, .inl (c, (n, .inl g))) H := by
  have e : arrV c n (fun j => .int (f j)) = arrV c n (fun j => .int (g j)) := arrV_same (fun j hj => by show Value.int (f j) = Value.int (g j); rw [h j hj])
  exact z.trans (congrArg some e)
/-- the lengths of the reference's rows -/
def rwN (r : Nat) : Nat := [77, 77, 77, 616, 60, 12, 12, 12, 12, 41, 8, 244, 400].getD r 0
/-- two states that no cell tells apart -/
def MSame (S S' : MSt) : Prop := (∀ r, r < 13 → ∀ j, j < rwN r → S r j = S' r j) ∧ S 13 = S' 13
theorem MSame.refl {S : MSt} : MSame S S := ⟨fun _ _ _ _ => rfl, rfl⟩
theorem MSame.symm {S S' : MSt} (h : MSame S S') : MSame S' S := ⟨fun r hr j hj => (h.1 r hr j hj).symm, h.2.symm⟩
theorem MSame.trans {S S' S2 : MSt} (h : MSame S S') (h1 : MSame S' S2) : MSame S S2 := ⟨fun r hr j hj => (h.1 r hr j hj).trans (h1.1 r hr j hj), h.2.trans h1.2⟩
theorem mdW_same {D : va_G} {aT : Nat → ClassId} {ad : Nat → Nat} {S S' : MSt} {H : Heap} (h : MSame S S') (hW : va_P D vwCl (mdW aT ad S) H) : va_P D vwCl (mdW aT ad S') H := by
  intro k q hq
  match k, hq with
  | 0, hq =>
    have e : (mdW aT ad S')[0]? = (mdW aT ad S)[0]? := by simp only [mdW, h.2, List.getElem?_cons_zero]
    exact hW 0 q (e.symm.trans hq)
  | 1, hq => obtain rfl := Option.some.inj hq; exact at_same (h.1 0 (by decide)) (hW 1 _ rfl)
  | 2, hq => obtain rfl := Option.some.inj hq; exact at_same (h.1 1 (by decide)) (hW 2 _ rfl)
  | 3, hq => obtain rfl := Option.some.inj hq; exact at_same (h.1 2 (by decide)) (hW 3 _ rfl)
  | 4, hq => obtain rfl := Option.some.inj hq; exact at_same (h.1 3 (by decide)) (hW 4 _ rfl)
  | 5, hq => obtain rfl := Option.some.inj hq; exact at_same (h.1 4 (by decide)) (hW 5 _ rfl)
  | 6, hq => obtain rfl := Option.some.inj hq; exact at_same (h.1 5 (by decide)) (hW 6 _ rfl)
  | 7, hq => obtain rfl := Option.some.inj hq; exact at_same (h.1 6 (by decide)) (hW 7 _ rfl)
  | 8, hq => obtain rfl := Option.some.inj hq; exact at_same (h.1 7 (by decide)) (hW 8 _ rfl)
  | 9, hq => obtain rfl := Option.some.inj hq; exact at_same (h.1 8 (by decide)) (hW 9 _ rfl)
  | 10, hq => obtain rfl := Option.some.inj hq; exact at_same (h.1 9 (by decide)) (hW 10 _ rfl)
  | 11, hq => obtain rfl := Option.some.inj hq; exact at_same (h.1 10 (by decide)) (hW 11 _ rfl)
  | 12, hq => obtain rfl := Option.some.inj hq; exact at_same (h.1 11 (by decide)) (hW 12 _ rfl)
  | 13, hq => obtain rfl := Option.some.inj hq; exact at_same (h.1 12 (by decide)) (hW 13 _ rfl)
  | k + 14, hq => exact absurd (show (none : Option (Nat × va_E)) = some q from hq) (by simp)
theorem MdB.same {D : va_G} {aT : Nat → ClassId} {ad : Nat → Nat} {S S' : MSt} {A : Nat → Prop} {H0 H : Heap} {locs : List Loc} (h : MSame S S') (hW : MdB D aT ad S A H0 H locs) : MdB D aT ad S' A H0 H locs := ⟨mdW_same h hW.1, mdW_D hW.2.1, hW.2.2⟩
/-- behind a run that fails the row stands as before it -/
theorem runX_same {S : MSt} {sz u k t i : Nat} {cm mm : Nat → Int32} : MSame (runX S sz u k cm mm t i) (ss (ss (psT (rnS S sz) u false k cm) 7 (nI i)) 8 (nI 2)) := by
  refine ⟨fun r hr j hj => ?_, ?_⟩
  · by_cases h0 : r = 0
    · subst h0
      show cpyF mm (cpyF (S 1) (S 0) 77) 77 j = S 0 j
      have hj : j < 77 := hj
      simp [cpyF, hj]
    · have h13 : r ≠ 13 := by omega
      simp [runX, ss, sr, h0, h13]
  · funext j
    show upd (upd (upd (psT (rnS S sz) u false k cm 13) 8 (nI t)) 7 (nI i)) 8 (nI 2) j = upd (upd (psT (rnS S sz) u false k cm 13) 7 (nI i)) 8 (nI 2) j
    by_cases h8 : j = 8
    · subst h8; exact pk_us.trans pk_us.symm
    · rw [pk_un h8, pk_un h8]
      by_cases h7 : j = 7
      · subst h7; exact pk_us.trans pk_us.symm
      · rw [pk_un h7, pk_un h7, pk_un h8]
