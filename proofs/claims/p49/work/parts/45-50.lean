section
/-! a part of a world, looked at as a whole: X ++ (K ++ T), the callee takes K -/
def sgK (X K : va_W) : List Nat := tlR X.length K
def sgR (X K T : va_W) : List Nat := List.range X.length ++ tlR (X.length + K.length) T
theorem sg_his (X K T : va_W) : (sgK X K).map (fun i => (X ++ (K ++ T))[i]?) = K.map some := by
  unfold sgK tlR
  rw [List.map_map]
  apply List.ext_getElem?
  intro j
  rw [List.getElem?_map, List.getElem?_map]
  by_cases hj : j < K.length
  · rw [List.getElem?_range hj]
    show some ((X ++ (K ++ T))[j + X.length]?) = _
    rw [List.getElem?_append_right (by omega), Nat.add_sub_cancel, List.getElem?_append_left hj, List.getElem?_eq_getElem hj]
    rfl
  · rw [List.getElem?_eq_none (by simp; omega), List.getElem?_eq_none (by omega)]; rfl
theorem sg_hR (X K T : va_W) : (sgR X K T).map (fun i => (X ++ (K ++ T))[i]?) = (X ++ T).map some := by
  unfold sgR
  rw [List.map_append, List.map_append]
  congr 1
  · apply List.ext_getElem?
    intro j
    rw [List.getElem?_map, List.getElem?_map]
    by_cases hj : j < X.length
    · rw [List.getElem?_range hj, List.getElem?_eq_getElem hj]
      show some ((X ++ (K ++ T))[j]?) = _
      rw [List.getElem?_append_left hj, List.getElem?_eq_getElem hj]
      rfl
    · rw [List.getElem?_eq_none (by simp; omega), List.getElem?_eq_none (by omega)]; rfl
  · unfold tlR
    rw [List.map_map]
    apply List.ext_getElem?
    intro j
    rw [List.getElem?_map, List.getElem?_map]
    by_cases hj : j < T.length
    · rw [List.getElem?_range hj]
      show some ((X ++ (K ++ T))[j + (X.length + K.length)]?) = _
      rw [List.getElem?_append_right (by omega), List.getElem?_append_right (by omega), show j + (X.length + K.length) - X.length - K.length = j by omega, List.getElem?_eq_getElem hj]
      rfl
    · rw [List.getElem?_eq_none (by simp; omega), List.getElem?_eq_none (by omega)]; rfl
theorem sg_tl {n : Nat} {T : va_W} : (tlR n T).Nodup := List.Pairwise.map _ (fun a b hab => by omega) List.nodup_range
theorem sg_in {n k : Nat} {T : va_W} (h : k ∈ tlR n T) : n ≤ k ∧ k < n + T.length := by
  obtain ⟨j, hj, rfl⟩ := List.mem_map.mp h
  have := List.mem_range.mp hj
  omega
theorem sg_nd (X K : va_W) : va_nd (sgK X K) = true := (nd_iff _).mpr sg_tl
theorem sg_ndR (X K T : va_W) : va_nd (sgR X K T) = true := (nd_iff _).mpr (List.nodup_append.mpr ⟨List.nodup_range, sg_tl, fun a ha b hb e => by
  have h1 := List.mem_range.mp ha
  have h2 := sg_in hb
  omega⟩)
theorem sg_dis (X K T : va_W) : ∀ i ∈ sgR X K T, i ∉ sgK X K := by
  intro i hi hk
  have h2 := sg_in hk
  rcases List.mem_append.mp hi with h | h
  · have h1 := List.mem_range.mp h
    omega
  · have h1 := sg_in h
    omega
theorem sg_at {D : va_G} {cl : List vw_C} {a : Nat} {c : ClassId} {n : Nat} {f g : Nat → Option Nat} {H : Heap} (h : ∀ j, j < n → f j = g j) (z : va_at D cl (a, .inl (c, (n, .inr (.inr (.inr (.inr f)))))) H) : va_at D cl (a, .inl (c, (n, .inr (.inr (.inr (.inr g)))))) H := by
  have e : arrV c n (fun j => va_rf (f j)) = arrV c n (fun j => va_rf (g j)) := arrV_same (fun j hj => by show va_rf (f j) = va_rf (g j); rw [h j hj])
  exact z.trans (congrArg some e)
theorem sg_mid {X Y : va_W} {x y : Nat × va_E} {i : Nat} {q : Nat × va_E} (h : ((X ++ [y]) ++ Y)[i]? = some q) : (i = X.length ∧ q = y ∧ ((X ++ [x]) ++ Y)[i]? = some x) ∨ ((X ++ [x]) ++ Y)[i]? = some q := by
  rw [List.append_assoc] at h ⊢
  by_cases h1 : i < X.length
  · rw [List.getElem?_append_left h1] at h
    exact Or.inr (by rw [List.getElem?_append_left h1]; exact h)
  · rw [List.getElem?_append_right (by omega)] at h
    rw [List.getElem?_append_right (by omega)]
    by_cases h2 : i = X.length
    · subst h2
      rw [Nat.sub_self] at h ⊢
      exact Or.inl ⟨rfl, (Option.some.inj h).symm, rfl⟩
    · obtain ⟨k, hk⟩ : ∃ k, i - X.length = k + 1 := ⟨i - X.length - 1, by omega⟩
      rw [hk] at h ⊢
      exact Or.inr h
/-- a row of references, equal as far as it goes -/
theorem sg_row {D : va_G} {X Y : va_W} {A : Nat → Prop} {H0 H : Heap} {locs : List Loc} {a n : Nat} {k : ClassId} {f g : Nat → Option Nat} (h : ∀ j, j < n → f j = g j) (hW : CxB D ((X ++ ([(a, .inl (k, n, .inr (.inr (.inr (.inr f)))))] : va_W)) ++ Y) A H0 H locs) : CxB D ((X ++ ([(a, .inl (k, n, .inr (.inr (.inr (.inr g)))))] : va_W)) ++ Y) A H0 H locs := by
  obtain ⟨h1, ⟨h2, h3⟩, h4⟩ := hW
  have key : ∀ (i : Nat) (q : Nat × va_E), ((X ++ ([(a, .inl (k, n, .inr (.inr (.inr (.inr g)))))] : va_W)) ++ Y)[i]? = some q → ∃ q1 : Nat × va_E, ((X ++ ([(a, .inl (k, n, .inr (.inr (.inr (.inr f)))))] : va_W)) ++ Y)[i]? = some q1 ∧ q1.1 = q.1 := by
    intro i q hq
    rcases sg_mid (x := (a, .inl (k, n, .inr (.inr (.inr (.inr f)))))) hq with ⟨-, rfl, h9⟩ | h9
    · exact ⟨_, h9, rfl⟩
    · exact ⟨q, h9, rfl⟩
  refine ⟨fun i q hq => ?_, ⟨fun i j p q hi hj he => ?_, fun i q hq => ?_⟩, h4⟩
  · rcases sg_mid (x := (a, .inl (k, n, .inr (.inr (.inr (.inr f)))))) hq with ⟨-, rfl, h9⟩ | h9
    · exact sg_at h (h1 i _ h9)
    · exact h1 i q h9
  · obtain ⟨p1, hp1, ep⟩ := key i p hi
    obtain ⟨q1, hq1, eq⟩ := key j q hj
    exact h2 i j p1 q1 hp1 hq1 (by rw [ep, eq]; exact he)
  · obtain ⟨q1, hq1, eq⟩ := key i q hq
    rw [← eq]
    exact h3 i q1 hq1
end
section
/-- the class's object -/
def sX (x0 a0 v0 h0 t0 p0 o0 : Nat) (sv : Bool) (le lf : Int32) : va_W := [(x0, .inr (12, [.ref a0, .ref v0, .ref h0, .ref t0, .ref p0, .ref o0, .int (bI sv), .int le, .int lf]))]
def sH (aT : Nat → ClassId) (h0 h1 hc : Nat) (AD : Nat → Nat → Nat) (BB : Nat → Nat → Nat → Int32) (NH NM : Nat → Nat) : va_W := ([(h0, .inr (7, [.ref h1, .int (nI hc)])), (h1, .inl (aT 5, 9, .inr (.inr (.inr (.inr (fun j => some (AD j 0)))))))] : va_W) ++ (hisL aT AD BB NH NM 0 ++ (hisL aT AD BB NH NM 1 ++ (hisL aT AD BB NH NM 2 ++ (hisL aT AD BB NH NM 3 ++ (hisL aT AD BB NH NM 4 ++ (hisL aT AD BB NH NM 5 ++ (hisL aT AD BB NH NM 6 ++ (hisL aT AD BB NH NM 7 ++ (hisL aT AD BB NH NM 8)))))))))
theorem sH_eq (aT : Nat → ClassId) (h0 h1 hc : Nat) (AD : Nat → Nat → Nat) (BB : Nat → Nat → Nat → Int32) (NH NM : Nat → Nat) : sH aT h0 h1 hc AD BB NH NM = [(h0, .inr (7, [.ref h1, .int (nI hc)])), (h1, .inl (aT 5, 9, .inr (.inr (.inr (.inr (fun j => some (AD j 0))))))), (hk0 (AD 0) (BB 0)), (hk1 (AD 0) (NH 0)), (hk2 aT (AD 0) (BB 0)), (hk3 aT (AD 0) (BB 0)), (hk4 aT (AD 0) (BB 0)), (hk5 (AD 0) (BB 0) (NM 0)), (hk6 aT (AD 0) (BB 0)), (hk7 aT (AD 0) (BB 0)), (hk8 aT (AD 0) (BB 0)), (hk9 aT (AD 0) (BB 0)), (hk10 aT (AD 0) (BB 0)), (hk0 (AD 1) (BB 1)), (hk1 (AD 1) (NH 1)), (hk2 aT (AD 1) (BB 1)), (hk3 aT (AD 1) (BB 1)), (hk4 aT (AD 1) (BB 1)), (hk5 (AD 1) (BB 1) (NM 1)), (hk6 aT (AD 1) (BB 1)), (hk7 aT (AD 1) (BB 1)), (hk8 aT (AD 1) (BB 1)), (hk9 aT (AD 1) (BB 1)), (hk10 aT (AD 1) (BB 1)), (hk0 (AD 2) (BB 2)), (hk1 (AD 2) (NH 2)), (hk2 aT (AD 2) (BB 2)), (hk3 aT (AD 2) (BB 2)), (hk4 aT (AD 2) (BB 2)), (hk5 (AD 2) (BB 2) (NM 2)), (hk6 aT (AD 2) (BB 2)), (hk7 aT (AD 2) (BB 2)), (hk8 aT (AD 2) (BB 2)), (hk9 aT (AD 2) (BB 2)), (hk10 aT (AD 2) (BB 2)), (hk0 (AD 3) (BB 3)), (hk1 (AD 3) (NH 3)), (hk2 aT (AD 3) (BB 3)), (hk3 aT (AD 3) (BB 3)), (hk4 aT (AD 3) (BB 3)), (hk5 (AD 3) (BB 3) (NM 3)), (hk6 aT (AD 3) (BB 3)), (hk7 aT (AD 3) (BB 3)), (hk8 aT (AD 3) (BB 3)), (hk9 aT (AD 3) (BB 3)), (hk10 aT (AD 3) (BB 3)), (hk0 (AD 4) (BB 4)), (hk1 (AD 4) (NH 4)), (hk2 aT (AD 4) (BB 4)), (hk3 aT (AD 4) (BB 4)), (hk4 aT (AD 4) (BB 4)), (hk5 (AD 4) (BB 4) (NM 4)), (hk6 aT (AD 4) (BB 4)), (hk7 aT (AD 4) (BB 4)), (hk8 aT (AD 4) (BB 4)), (hk9 aT (AD 4) (BB 4)), (hk10 aT (AD 4) (BB 4)), (hk0 (AD 5) (BB 5)), (hk1 (AD 5) (NH 5)), (hk2 aT (AD 5) (BB 5)), (hk3 aT (AD 5) (BB 5)), (hk4 aT (AD 5) (BB 5)), (hk5 (AD 5) (BB 5) (NM 5)), (hk6 aT (AD 5) (BB 5)), (hk7 aT (AD 5) (BB 5)), (hk8 aT (AD 5) (BB 5)), (hk9 aT (AD 5) (BB 5)), (hk10 aT (AD 5) (BB 5)), (hk0 (AD 6) (BB 6)), (hk1 (AD 6) (NH 6)), (hk2 aT (AD 6) (BB 6)), (hk3 aT (AD 6) (BB 6)), (hk4 aT (AD 6) (BB 6)), (hk5 (AD 6) (BB 6) (NM 6)), (hk6 aT (AD 6) (BB 6)), (hk7 aT (AD 6) (BB 6)), (hk8 aT (AD 6) (BB 6)), (hk9 aT (AD 6) (BB 6)), (hk10 aT (AD 6) (BB 6)), (hk0 (AD 7) (BB 7)), (hk1 (AD 7) (NH 7)), (hk2 aT (AD 7) (BB 7)), (hk3 aT (AD 7) (BB 7)), (hk4 aT (AD 7) (BB 7)), (hk5 (AD 7) (BB 7) (NM 7)), (hk6 aT (AD 7) (BB 7)), (hk7 aT (AD 7) (BB 7)), (hk8 aT (AD 7) (BB 7)), (hk9 aT (AD 7) (BB 7)), (hk10 aT (AD 7) (BB 7)), (hk0 (AD 8) (BB 8)), (hk1 (AD 8) (NH 8)), (hk2 aT (AD 8) (BB 8)), (hk3 aT (AD 8) (BB 8)), (hk4 aT (AD 8) (BB 8)), (hk5 (AD 8) (BB 8) (NM 8)), (hk6 aT (AD 8) (BB 8)), (hk7 aT (AD 8) (BB 8)), (hk8 aT (AD 8) (BB 8)), (hk9 aT (AD 8) (BB 8)), (hk10 aT (AD 8) (BB 8))] := rfl
def sT (aT : Nat → ClassId) (t : Nat → Nat) (r1 r2 r3 r4 : Nat → Int32) (r5 r6 : Nat → Int64) : va_W := [((t 0), .inr (11, [.ref (t 1), .ref (t 2), .ref (t 3), .ref (t 4), .ref (t 5), .ref (t 6)])), ((t 1), .inl (aT 0, 12, .inl r1)), ((t 2), .inl (aT 0, 12, .inl r2)), ((t 3), .inl (aT 0, 12, .inl r3)), ((t 4), .inl (aT 0, 12, .inl r4)), ((t 5), .inl (aT 2, 12, .inr (.inl r5))), ((t 6), .inl (aT 2, 12, .inr (.inl r6)))]
def sP (aT : Nat → ClassId) (p0 p1 p2 p3 ln at_ : Nat) (fX fA : Nat → Int32) : va_W := [(p0, .inr (9, [.ref p1, .ref p2, .ref p3, .int (nI ln), .int (nI at_)])), (p1, .inl (aT 1, 60, .inl fX)), (p2, .inl (aT 0, 3, .inl fA))]
def sO (aT : Nat → ClassId) (o0 ov cn cp : Nat) (fO : Nat → Int32) (mb : Int32) : va_W := [(o0, .inr (1, [.ref ov, .int (nI 0), .int mb, .int (nI cn)])), (ov, .inl (aT 4, cp, .inl fO))]
/-- what the class's world says of the reference's state -/
def ClF (S : MSt) (Bd : Nat) (b vb : Nat → Nat → Int32) (nh nm vh vm : Nat) (sv : Bool) (BB : Nat → Nat → Nat → Int32) (NH NM : Nat → Nat) (hc ln : Nat) (fX : Nat → Int32) (le lf : Int32) : Prop :=
  CoW (S 0) Bd ∧ BlC b nh nm (S 0) ∧ S 13 3 = bI sv ∧ (sv = true → CoW (S 2) Bd ∧ BlC vb vh vm (S 2)) ∧ HiC BB NH NM hc (fun k j => S 3 (77 * k + j)) Bd ∧ S 13 5 = nI hc ∧ ln ≤ 60 ∧ S 13 10 = nI ln ∧ S 4 = fX ∧ S 13 6 = le ∧ S 13 7 = lf ∧ WdOk S
/-- the class's world, of the state S -/
def ClO (D : va_G) (aT : Nat → ClassId) (x0 : Nat) (S : MSt) (Bd : Nat) (W : va_W) : Prop :=
  ∃ (a v t : Nat → Nat) (h0 h1 p0 p1 p2 p3 o0 ov : Nat) (AD : Nat → Nat → Nat) (b vb : Nat → Nat → Int32) (BB : Nat → Nat → Nat → Int32) (NH NM : Nat → Nat) (nh nm vh vm hc ln at_ cn cp : Nat) (sv : Bool) (fX fA fO : Nat → Int32) (r1 r2 r3 r4 : Nat → Int32) (r5 r6 : Nat → Int64) (mb le lf : Int32) (LL : va_W),
    ClF S Bd b vb nh nm vh vm sv BB NH NM hc ln fX le lf ∧ ListF D aT p3 LL ∧ (sb_Fit fO ∧ cn ≤ cp ∧ cp ≤ 4000) ∧
    W.Perm (sX x0 (a 0) (v 0) h0 (t 0) p0 o0 sv le lf ++ (blkL aT a b nh nm ++ (blkL aT v vb vh vm ++ (sH aT h0 h1 hc AD BB NH NM ++ (sT aT t r1 r2 r3 r4 r5 r6 ++ (sP aT p0 p1 p2 p3 ln at_ fX fA ++ (LL ++ sO aT o0 ov cn cp fO mb)))))))
end
section
theorem fnd_co {f g : Nat → Int32} {x : Int32} : ∀ n, (∀ k, k < n → f k = g k) → fnd f x n = fnd g x n
  | 0, _ => rfl
  | n + 1, h => by rw [fnd, fnd, fnd_co n (fun k hk => h k (by omega)), h n (by omega)]
theorem BlC.cong {b : Nat → Nat → Int32} {nh nm B : Nat} {M M' : Nat → Int32} (h : BlC b nh nm M) (hC : CoW M B) (e : ∀ j, j < 77 → M' j = M j) : BlC b nh nm M' := by
  have l6 := (h.he hC).1
  have l12 := (h.mo hC).1
  obtain ⟨h1, h2, h3, h4, h5, h6, h7⟩ := h
  refine ⟨?_, ?_, fun i hi => ?_, fun k hk => ?_, fun j hj => ?_, ?_, ?_⟩
  · rw [h1]; unfold hM; rw [e 0 (by decide)]
  · rw [h2]; unfold nM; rw [e 2 (by decide)]
  · rw [e _ (by omega), e _ (by omega), e _ (by omega)]; exact h3 i hi
  · have en : nM M' = nM M := by unfold nM; rw [e 2 (by decide)]
    have ep : prM M' k = prM M k := by
      unfold prM
      rw [e _ (by omega), en, fnd_co (f := fun k => M' (29 + 4 * k)) (g := fun k => M (29 + 4 * k)) (nM M) (fun j hj => e _ (by omega))]
    rw [e _ (by omega), e _ (by omega), e _ (by omega), ep]; exact h4 k hk
  · rw [e _ (by omega)]; exact h5 j hj
  · rw [e 1 (by decide), e 3 (by decide), e 9 (by decide), e 10 (by decide), e 8 (by decide)]; exact h6
  · rw [smw_cong nm (fun k hk => e _ (by omega))]; exact h7
theorem CoW.cong {M M' : Nat → Int32} {B : Nat} (h : CoW M B) (e : ∀ j, j < 77 → M' j = M j) : CoW M' B := h.keep (fun j hj => by
  refine e j ?_
  rcases hj with h | h | h | h | h | ⟨k, w, h1, h2, h3⟩ <;> omega)
/-- the reference's past behind a change -/
theorem HiC.pst {BB : Nat → Nat → Nat → Int32} {NH NM : Nat → Nat} {hc hc2 B : Nat} {S3 S1 M : Nat → Int32} (h8 : hc ≤ 8) (h2 : hc2 = min hc 7 + 1) (h : HiC BB NH NM hc2 (nxP (fun k j => S3 (77 * k + j)) hc M) B) : HiC BB NH NM hc2 (fun k j => pstF S3 (cpyF S1 M 77) hc (77 * k + j)) B := by
  refine ⟨h.1, fun k hk => ?_⟩
  obtain ⟨hb, hC⟩ := h.2 k hk
  have e : ∀ j, j < 77 → pstF S3 (cpyF S1 M 77) hc (77 * k + j) = nxP (fun k j => S3 (77 * k + j)) hc M k j := by
    intro j hj
    unfold pstF nxP putF
    by_cases e8 : hc = 8
    · subst e8
      rw [if_pos rfl, if_pos rfl]
      by_cases e7 : k = 7
      · subst e7
        rw [if_pos rfl, if_pos (by omega)]
        unfold cpyF
        rw [if_pos (by omega)]
        exact congrArg M (by omega)
      · rw [if_neg e7, if_neg (by omega)]
        unfold shF
        rw [if_pos (by omega)]
        exact congrArg S3 (by omega)
    · rw [if_neg e8, if_neg e8]
      by_cases e7 : k = hc
      · subst e7
        rw [if_pos rfl, if_pos (by omega)]
        unfold cpyF
        rw [if_pos (by omega)]
        exact congrArg M (by omega)
      · rw [if_neg e7, if_neg (by omega)]
  exact ⟨hb.cong hC e, hC.cong e⟩
end
section
section CLF
variable {S : MSt} {Bd : Nat} {b vb : Nat → Nat → Int32} {nh nm vh vm : Nat} {sv : Bool} {BB : Nat → Nat → Nat → Int32} {NH NM : Nat → Nat} {hc ln : Nat} {fX : Nat → Int32} {le lf : Int32}
/-- a change -/
theorem clf_chg (h : ClF S Bd b vb nh nm vh vm sv BB NH NM hc ln fX le lf) {M1 : Nat → Int32} {Bd2 nh2 nm2 hc2 : Nat} {b2 : Nat → Nat → Int32} {BB2 : Nat → Nat → Nat → Int32} {NH2 NM2 : Nat → Nat} (hB2 : Bd ≤ Bd2) (hC : CoW M1 Bd2) (hb : BlC b2 nh2 nm2 M1) (h2 : hc2 = min hc 7 + 1) (hH : HiC BB2 NH2 NM2 hc2 (nxP (fun k j => S 3 (77 * k + j)) hc (S 0)) Bd) : ClF (chgS S M1 hc) Bd2 b2 vb nh2 nm2 vh vm sv BB2 NH2 NM2 hc2 ln fX le lf := by
  obtain ⟨g1, g2, g3, g4, g5, g6, g7, g8, g9, g10, g11, g12⟩ := h
  refine ⟨hC, hb, g3, fun e => ⟨(g4 e).1.mono hB2, (g4 e).2⟩, (HiC.pst (S3 := S 3) (S1 := S 1) g5.1 h2 hH).mono hB2, ?_, g7, g8, g9, g10, g11, g12⟩
  rw [h2]; rfl
/-- a change that is refused -/
theorem clf_fai (h : ClF S Bd b vb nh nm vh vm sv BB NH NM hc ln fX le lf) {BB2 : Nat → Nat → Nat → Int32} {NH2 NM2 : Nat → Nat} (t : Nat) (hH : HiC BB2 NH2 NM2 hc (fun k j => S 3 (77 * k + j)) Bd) : ClF (faiS S t) Bd b vb nh nm vh vm sv BB2 NH2 NM2 hc ln fX le lf := by
  obtain ⟨g1, g2, g3, g4, g5, g6, g7, g8, g9, g10, g11, g12⟩ := h
  exact ⟨g1, g2, g3, g4, hH, g6, g7, g8, g9, g10, g11, g12⟩
/-- a question -/
theorem clf_q (h : ClF S Bd b vb nh nm vh vm sv BB NH NM hc ln fX le lf) (x : Int32) : ClF (ss S 8 x) Bd b vb nh nm vh vm sv BB NH NM hc ln fX le lf := by
  obtain ⟨g1, g2, g3, g4, g5, g6, g7, g8, g9, g10, g11, g12⟩ := h
  exact ⟨g1, g2, g3, g4, g5, g6, g7, g8, g9, g10, g11, g12⟩
/-- save -/
theorem clf_save (h : ClF S Bd b vb nh nm vh vm sv BB NH NM hc ln fX le lf) {v2 : Nat → Nat → Int32} (hv : BlC v2 nh nm (S 0)) : ClF (ss (sr (ss S 8 (nI 0)) 2 (cpyF (S 2) (S 0) 77)) 3 (nI 1)) Bd b v2 nh nm nh nm true BB NH NM hc ln fX le lf := by
  obtain ⟨g1, g2, g3, g4, g5, g6, g7, g8, g9, g10, g11, g12⟩ := h
  have e : ∀ j, j < 77 → cpyF (S 2) (S 0) 77 j = S 0 j := fun j hj => by unfold cpyF; rw [if_pos hj]
  exact ⟨g1, g2, rfl, fun _ => ⟨g1.cong e, hv.cong g1 e⟩, g5, g6, g7, g8, g9, g10, g11, g12⟩
/-- restore -/
theorem clf_restore (h : ClF S Bd b vb nh nm vh vm true BB NH NM hc ln fX le lf) {b2 : Nat → Nat → Int32} {BB2 : Nat → Nat → Nat → Int32} {NH2 NM2 : Nat → Nat} (hb : BlC b2 vh vm (S 2)) : ClF (ss (sr (ss S 8 (nI 0)) 0 (cpyF (S 0) (S 2) 77)) 5 (nI 0)) Bd b2 vb vh vm vh vm true BB2 NH2 NM2 0 ln fX le lf := by
  obtain ⟨g1, g2, g3, g4, g5, g6, g7, g8, g9, g10, g11, g12⟩ := h
  have e : ∀ j, j < 77 → cpyF (S 0) (S 2) 77 j = S 2 j := fun j hj => by unfold cpyF; rw [if_pos hj]
  exact ⟨(g4 rfl).1.cong e, hb.cong (g4 rfl).1 e, g3, g4, ⟨Nat.zero_le _, fun k hk => absurd hk (Nat.not_lt_zero k)⟩, rfl, g7, g8, g9, g10, g11, g12⟩
/-- undo -/
theorem clf_undo (h : ClF S Bd b vb nh nm vh vm sv BB NH NM hc ln fX le lf) (h0 : 0 < hc) {b2 : Nat → Nat → Int32} (hb : BlC b2 (NH (hc - 1)) (NM (hc - 1)) (fun j => S 3 (77 * (hc - 1) + j))) : ClF (sr (ss (ss S 8 (nI 0)) 5 (nI (hc - 1))) 0 (getF (S 0) (S 3) (77 * (hc - 1)) 77)) Bd b2 vb (NH (hc - 1)) (NM (hc - 1)) vh vm sv BB NH NM (hc - 1) ln fX le lf := by
  obtain ⟨g1, g2, g3, g4, g5, g6, g7, g8, g9, g10, g11, g12⟩ := h
  have e : ∀ j, j < 77 → getF (S 0) (S 3) (77 * (hc - 1)) 77 j = S 3 (77 * (hc - 1) + j) := fun j hj => by unfold getF; rw [if_pos hj]
  obtain ⟨-, hC⟩ := g5.2 (hc - 1) (by omega)
  exact ⟨hC.cong e, hb.cong hC e, g3, g4, ⟨by have := g5.1; omega, fun k hk => g5.2 k (by omega)⟩, rfl, g7, g8, g9, g10, g11, g12⟩
/-- a letter -/
theorem clf_append (h : ClF S Bd b vb nh nm vh vm sv BB NH NM hc ln fX le lf) (h60 : ln < 60) {x y : Int32} (hxy : x = y) : ClF (ss (sr (ss S 8 (nI 0)) 4 (upd (S 4) ln x)) 10 (nI (ln + 1))) Bd b vb nh nm vh vm sv BB NH NM hc (ln + 1) (upd fX ln y) le lf := by
  obtain ⟨g1, g2, g3, g4, g5, g6, g7, g8, g9, g10, g11, g12⟩ := h
  refine ⟨g1, g2, g3, g4, g5, g6, by omega, rfl, ?_, g10, g11, g12⟩
  show upd (S 4) ln x = upd fX ln y
  rw [g9, hxy]
/-- a text that is no program -/
theorem clf_runE (h : ClF S Bd b vb nh nm vh vm sv BB NH NM hc ln fX le lf) {n2 m2 : Nat} {b2 : Nat → Nat → Int32} {BB2 : Nat → Nat → Nat → Int32} {NH2 NM2 : Nat → Nat} (hb : BlC b2 n2 m2 (S 0)) (hH : HiC BB2 NH2 NM2 hc (fun k j => S 3 (77 * k + j)) Bd) (u k : Nat) (cm : Nat → Int32) : ClF (runE S ln u k cm) Bd b2 vb n2 m2 vh vm sv BB2 NH2 NM2 hc 0 fX (nI u) lf := by
  obtain ⟨g1, g2, g3, g4, g5, g6, g7, g8, g9, g10, g11, g12⟩ := h
  exact ⟨g1, hb, g3, g4, hH, g6, by omega, rfl, g9, rfl, g11, g12⟩
/-- a program with a command that fails -/
theorem clf_runX (h : ClF S Bd b vb nh nm vh vm sv BB NH NM hc ln fX le lf) {n2 m2 : Nat} {b2 : Nat → Nat → Int32} {BB2 : Nat → Nat → Nat → Int32} {NH2 NM2 : Nat → Nat} (hb : BlC b2 n2 m2 (S 0)) (hH : HiC BB2 NH2 NM2 hc (fun k j => S 3 (77 * k + j)) Bd) (u k : Nat) (cm mm : Nat → Int32) (t i : Nat) : ClF (runX S ln u k cm mm t i) Bd b2 vb n2 m2 vh vm sv BB2 NH2 NM2 hc 0 fX le (nI i) := by
  obtain ⟨g1, g2, g3, g4, g5, g6, g7, g8, g9, g10, g11, g12⟩ := h
  have e : ∀ j, j < 77 → cpyF mm (cpyF (S 1) (S 0) 77) 77 j = S 0 j := fun j hj => by unfold cpyF; rw [if_pos hj, if_pos hj]
  exact ⟨g1.cong e, hb.cong g1 e, g3, g4, hH, g6, by omega, rfl, g9, g10, rfl, g12⟩
/-- a program carried out -/
theorem clf_runC (h : ClF S Bd b vb nh nm vh vm sv BB NH NM hc ln fX le lf) {M1 : Nat → Int32} {Bd2 nh2 nm2 hc2 : Nat} {b2 : Nat → Nat → Int32} {BB2 : Nat → Nat → Nat → Int32} {NH2 NM2 : Nat → Nat} (hB2 : Bd ≤ Bd2) (hC : CoW M1 Bd2) (hb : BlC b2 nh2 nm2 M1) (h2 : hc2 = min hc 7 + 1) (hH : HiC BB2 NH2 NM2 hc2 (nxP (fun k j => S 3 (77 * k + j)) hc (S 0)) Bd) (u k : Nat) (cm : Nat → Int32) : ClF (runC S ln u k cm M1 hc) Bd2 b2 vb nh2 nm2 vh vm sv BB2 NH2 NM2 hc2 0 fX le lf := by
  obtain ⟨g1, g2, g3, g4, g5, g6, g7, g8, g9, g10, g11, g12⟩ := h
  refine ⟨hC, hb, g3, fun e => ⟨(g4 e).1.mono hB2, (g4 e).2⟩, (HiC.pst (S3 := S 3) (S1 := S 1) g5.1 h2 hH).mono hB2, ?_, by omega, rfl, g9, g10, g11, g12⟩
  rw [h2]; rfl
end CLF
end
section
theorem co_0 : CoW (fun _ => nI 0) 0 := by
  have hn : nM (fun _ => nI 0) = 0 := nI_clamp (by decide)
  have hh : hM (fun _ => nI 0) = 0 := nI_clamp (by decide)
  refine ⟨?_, ?_, ⟨0, by decide, rfl⟩, 0, Nat.le_refl _, rfl, fun k hk => absurd hk (by rw [hn]; omega)⟩
  · refine ⟨by rw [hn], by rw [hn]; decide, ?_⟩
    rw [hn]
    refine ⟨?_, ?_, ?_, ?_, ?_⟩ <;> intros <;> omega
  · refine ⟨by rw [hh], by rw [hh]; decide, ?_⟩
    rw [hh]
    refine ⟨?_, ?_, ?_⟩ <;> intros <;> omega
theorem bl_0 : BlC (fun _ _ => nI 0) 0 0 (fun _ => nI 0) := by
  have hn : nM (fun _ => nI 0) = 0 := nI_clamp (by decide)
  have hh : hM (fun _ => nI 0) = 0 := nI_clamp (by decide)
  refine ⟨hh.symm, hn.symm, fun i hi => absurd hi (Nat.not_lt_zero i), fun i hi => absurd hi (Nat.not_lt_zero i), fun _ _ => rfl, ⟨rfl, rfl, rfl, rfl, rfl⟩, by decide⟩
theorem clf_0 {S : MSt} (h0 : S 0 = (fun _ => nI 0)) (h13 : ∀ k, S 13 k = if k = 6 ∨ k = 7 then -1 else nI 0) (hw : WdOk S) (h4 : S 4 = (fun _ => nI 0)) {vb : Nat → Nat → Int32} {vh vm : Nat} {BB : Nat → Nat → Nat → Int32} {NH NM : Nat → Nat} : ClF S 0 (fun _ _ => nI 0) vb 0 0 vh vm false BB NH NM 0 0 (fun _ => nI 0) (-1) (-1) :=
  ⟨by rw [h0]; exact co_0, by rw [h0]; exact bl_0, by rw [h13]; rfl, (fun e => by cases e), ⟨Nat.zero_le _, fun k hk => absurd hk (Nat.not_lt_zero k)⟩, by rw [h13]; rfl, by decide, by rw [h13]; rfl, h4, by rw [h13]; rfl, by rw [h13]; rfl, hw⟩
end
section
theorem dL_addHedge_0 : decode cL_addHedge 0 = .ok (.aload 4, 2) := by decide +kernel
theorem dL_addHedge_2 : decode cL_addHedge 2 = .ok (.iconst 0, 1) := by decide +kernel
theorem dL_addHedge_3 : decode cL_addHedge 3 = .ok (.aload_n 0, 1) := by decide +kernel
theorem dL_addHedge_4 : decode cL_addHedge 4 = .ok (.iload_n 1, 1) := by decide +kernel
theorem dL_addHedge_5 : decode cL_addHedge 5 = .ok (.iload_n 2, 1) := by decide +kernel
theorem dL_addHedge_6 : decode cL_addHedge 6 = .ok (.iload_n 3, 1) := by decide +kernel
theorem dL_addHedge_7 : decode cL_addHedge 7 = .ok (.invokevirtual 7, 3) := by decide +kernel
theorem dL_addHedge_10 : decode cL_addHedge 10 = .ok (.i2l, 1) := by decide +kernel
theorem dL_addHedge_11 : decode cL_addHedge 11 = .ok (.lastore, 1) := by decide +kernel
theorem dL_addHedge_12 : decode cL_addHedge 12 = .ok (.goto 11, 3) := by decide +kernel
theorem dL_addHedge_15 : decode cL_addHedge 15 = .ok (.astore 5, 2) := by decide +kernel
theorem dL_addHedge_17 : decode cL_addHedge 17 = .ok (.iconst 1, 1) := by decide +kernel
theorem dL_addHedge_18 : decode cL_addHedge 18 = .ok (.ireturn, 1) := by decide +kernel
theorem dL_addHedge_19 : decode cL_addHedge 19 = .ok (.astore 5, 2) := by decide +kernel
theorem dL_addHedge_21 : decode cL_addHedge 21 = .ok (.iconst 2, 1) := by decide +kernel
theorem dL_addHedge_22 : decode cL_addHedge 22 = .ok (.ireturn, 1) := by decide +kernel
theorem dL_addHedge_23 : decode cL_addHedge 23 = .ok (.iconst 0, 1) := by decide +kernel
theorem dL_addHedge_24 : decode cL_addHedge 24 = .ok (.ireturn, 1) := by decide +kernel
theorem gV_L_X9_addHedge_7 : GoodIn gw (wsV RL 7 RX9 yX9_addHedge (Cond.code yX9_addHedge cX9_addHedge 5 (some .int) :: gw)) := gdV gw_548 gw_549 gw_550 gw_67 gw_551
theorem hV_X9_addHedge : yX9_addHedge.cls = RX9 ∧ yX9_addHedge.cls ≠ "java/lang/invoke/MethodHandle" ∧ yX9_addHedge.cls ≠ "java/lang/invoke/VarHandle" ∧ (parseMethodDescriptor yX9_addHedge.desc).map (fun d => d.parameters.length) = some 3 := ⟨rfl, by decide +kernel, by decide +kernel, by decide +kernel⟩
set_option maxHeartbeats 2000000 in
set_option maxRecDepth 20000 in
theorem k_L_addHedge (l : Launch) (hfl : l.stackTraces = false) (D : va_G) (aT : Nat → ClassId) (u0 : Nat) (o : Nat → Int64) (x0 : Nat) (v0 : Nat) (t0 : Nat) (p0 : Nat) (o0 : Nat) (sv : Bool) (le : Int32) (lf : Int32) (a0 : Nat) (a1 : Nat) (a2 : Nat) (a3 : Nat) (a4 : Nat) (a5 : Nat) (a6 : Nat) (a7 : Nat) (a8 : Nat) (a9 : Nat) (a10 : Nat) (bb : Nat → Nat → Int32) (nh : Nat) (nm : Nat) (M : Nat → Int32) (Bd : Nat) (hBd : Bd < 1048000) (hC : CoW M Bd) (hB : BlC bb nh nm M) (h0 : Nat) (h1 : Nat) (AD : Nat → Nat → Nat) (BB : Nat → Nat → Nat → Int32) (NH : Nat → Nat) (NM : Nat → Nat) (hc : Nat) (PR : Nat → Nat → Int32) (hHi : HiC BB NH NM hc PR Bd) (x : Int32) (y : Int32) (z : Int32) : CxT l yL_addHedge cL_addHedge 6 (some (.int)) [(0, 12, 15, 13), (0, 12, 19, 15)] 8 1 6 147 D aT [.ref x0, .int x, .int y, .int z, .ref u0] [(u0, .inl (aT 2, 1, .inr (.inl o))), (x0, .inr (12, [.ref a0, .ref v0, .ref h0, .ref t0, .ref p0, .ref o0, .int (bI sv), .int le, .int lf])), (a0, .inr (10, [.ref a1, .ref a5, .ref a10, .int (bb 8 1), .int (bb 8 2), .int (bb 8 3), .int (bb 8 4), .int (bb 8 5), .int (bb 8 6), .int (bb 8 7), .int (bb 8 8)])), (a1, .inr (6, [.ref a2, .ref a3, .ref a4, .int (nI nh)])), (a2, .inl (aT 0, 6, .inl (bb 0))), (a3, .inl (aT 0, 6, .inl (bb 1))), (a4, .inl (aT 0, 6, .inl (bb 2))), (a5, .inr (8, [.ref a6, .ref a7, .ref a8, .ref a9, .int (nI nm), .int (bb 8 0)])), (a6, .inl (aT 0, 12, .inl (bb 3))), (a7, .inl (aT 0, 12, .inl (bb 4))), (a8, .inl (aT 0, 12, .inl (bb 5))), (a9, .inl (aT 0, 12, .inl (bb 6))), (a10, .inl (aT 0, 4, .inl (bb 7))), (h0, .inr (7, [.ref h1, .int (nI hc)])), (h1, .inl (aT 5, 9, .inr (.inr (.inr (.inr (fun j => some (AD j 0))))))), (hk0 (AD 0) (BB 0)), (hk1 (AD 0) (NH 0)), (hk2 aT (AD 0) (BB 0)), (hk3 aT (AD 0) (BB 0)), (hk4 aT (AD 0) (BB 0)), (hk5 (AD 0) (BB 0) (NM 0)), (hk6 aT (AD 0) (BB 0)), (hk7 aT (AD 0) (BB 0)), (hk8 aT (AD 0) (BB 0)), (hk9 aT (AD 0) (BB 0)), (hk10 aT (AD 0) (BB 0)), (hk0 (AD 1) (BB 1)), (hk1 (AD 1) (NH 1)), (hk2 aT (AD 1) (BB 1)), (hk3 aT (AD 1) (BB 1)), (hk4 aT (AD 1) (BB 1)), (hk5 (AD 1) (BB 1) (NM 1)), (hk6 aT (AD 1) (BB 1)), (hk7 aT (AD 1) (BB 1)), (hk8 aT (AD 1) (BB 1)), (hk9 aT (AD 1) (BB 1)), (hk10 aT (AD 1) (BB 1)), (hk0 (AD 2) (BB 2)), (hk1 (AD 2) (NH 2)), (hk2 aT (AD 2) (BB 2)), (hk3 aT (AD 2) (BB 2)), (hk4 aT (AD 2) (BB 2)), (hk5 (AD 2) (BB 2) (NM 2)), (hk6 aT (AD 2) (BB 2)), (hk7 aT (AD 2) (BB 2)), (hk8 aT (AD 2) (BB 2)), (hk9 aT (AD 2) (BB 2)), (hk10 aT (AD 2) (BB 2)), (hk0 (AD 3) (BB 3)), (hk1 (AD 3) (NH 3)), (hk2 aT (AD 3) (BB 3)), (hk3 aT (AD 3) (BB 3)), (hk4 aT (AD 3) (BB 3)), (hk5 (AD 3) (BB 3) (NM 3)), (hk6 aT (AD 3) (BB 3)), (hk7 aT (AD 3) (BB 3)), (hk8 aT (AD 3) (BB 3)), (hk9 aT (AD 3) (BB 3)), (hk10 aT (AD 3) (BB 3)), (hk0 (AD 4) (BB 4)), (hk1 (AD 4) (NH 4)), (hk2 aT (AD 4) (BB 4)), (hk3 aT (AD 4) (BB 4)), (hk4 aT (AD 4) (BB 4)), (hk5 (AD 4) (BB 4) (NM 4)), (hk6 aT (AD 4) (BB 4)), (hk7 aT (AD 4) (BB 4)), (hk8 aT (AD 4) (BB 4)), (hk9 aT (AD 4) (BB 4)), (hk10 aT (AD 4) (BB 4)), (hk0 (AD 5) (BB 5)), (hk1 (AD 5) (NH 5)), (hk2 aT (AD 5) (BB 5)), (hk3 aT (AD 5) (BB 5)), (hk4 aT (AD 5) (BB 5)), (hk5 (AD 5) (BB 5) (NM 5)), (hk6 aT (AD 5) (BB 5)), (hk7 aT (AD 5) (BB 5)), (hk8 aT (AD 5) (BB 5)), (hk9 aT (AD 5) (BB 5)), (hk10 aT (AD 5) (BB 5)), (hk0 (AD 6) (BB 6)), (hk1 (AD 6) (NH 6)), (hk2 aT (AD 6) (BB 6)), (hk3 aT (AD 6) (BB 6)), (hk4 aT (AD 6) (BB 6)), (hk5 (AD 6) (BB 6) (NM 6)), (hk6 aT (AD 6) (BB 6)), (hk7 aT (AD 6) (BB 6)), (hk8 aT (AD 6) (BB 6)), (hk9 aT (AD 6) (BB 6)), (hk10 aT (AD 6) (BB 6)), (hk0 (AD 7) (BB 7)), (hk1 (AD 7) (NH 7)), (hk2 aT (AD 7) (BB 7)), (hk3 aT (AD 7) (BB 7)), (hk4 aT (AD 7) (BB 7)), (hk5 (AD 7) (BB 7) (NM 7)), (hk6 aT (AD 7) (BB 7)), (hk7 aT (AD 7) (BB 7)), (hk8 aT (AD 7) (BB 7)), (hk9 aT (AD 7) (BB 7)), (hk10 aT (AD 7) (BB 7)), (hk0 (AD 8) (BB 8)), (hk1 (AD 8) (NH 8)), (hk2 aT (AD 8) (BB 8)), (hk3 aT (AD 8) (BB 8)), (hk4 aT (AD 8) (BB 8)), (hk5 (AD 8) (BB 8) (NM 8)), (hk6 aT (AD 8) (BB 8)), (hk7 aT (AD 8) (BB 8)), (hk8 aT (AD 8) (BB 8)), (hk9 aT (AD 8) (BB 8)), (hk10 aT (AD 8) (BB 8))] (qI D aT (fun r W1 => ∃ (W2 : va_W) (o2 : Nat → Int64), ((∃ r0 : Int32, r = nI 0 ∧ o2 0 = r0.toInt64 ∧ (fun r W1 => ∃ (AD2 : Nat → Nat → Nat) (BB2 : Nat → Nat → Nat → Int32) (NH2 NM2 : Nat → Nat) (hc2 : Nat) (b2 : Nat → Nat → Int32), ((rgB 1 99 x && rgB 0 9 y && rgB 0 9 z) = true ∧ nh < 6 ∧ r = nI nh) ∧ BlC b2 (nh + 1) (nm) (hedgeF M (hM M) x y z) ∧ hc2 = min hc 7 + 1 ∧ HiC BB2 NH2 NM2 hc2 (nxP PR hc M) Bd ∧ W1 = ([(x0, .inr (12, [.ref a0, .ref v0, .ref h0, .ref t0, .ref p0, .ref o0, .int (bI sv), .int le, .int lf])), (a0, .inr (10, [.ref a1, .ref a5, .ref a10, .int (b2 8 1), .int (b2 8 2), .int (b2 8 3), .int (b2 8 4), .int (b2 8 5), .int (b2 8 6), .int (b2 8 7), .int (b2 8 8)])), (a1, .inr (6, [.ref a2, .ref a3, .ref a4, .int (nI (nh + 1))])), (a2, .inl (aT 0, 6, .inl (b2 0))), (a3, .inl (aT 0, 6, .inl (b2 1))), (a4, .inl (aT 0, 6, .inl (b2 2))), (a5, .inr (8, [.ref a6, .ref a7, .ref a8, .ref a9, .int (nI nm), .int (b2 8 0)])), (a6, .inl (aT 0, 12, .inl (b2 3))), (a7, .inl (aT 0, 12, .inl (b2 4))), (a8, .inl (aT 0, 12, .inl (b2 5))), (a9, .inl (aT 0, 12, .inl (b2 6))), (a10, .inl (aT 0, 4, .inl (b2 7))), (h0, .inr (7, [.ref h1, .int (nI hc2)])), (h1, .inl (aT 5, 9, .inr (.inr (.inr (.inr (fun j => some (AD2 j 0))))))), (hk0 (AD2 0) (BB2 0)), (hk1 (AD2 0) (NH2 0)), (hk2 aT (AD2 0) (BB2 0)), (hk3 aT (AD2 0) (BB2 0)), (hk4 aT (AD2 0) (BB2 0)), (hk5 (AD2 0) (BB2 0) (NM2 0)), (hk6 aT (AD2 0) (BB2 0)), (hk7 aT (AD2 0) (BB2 0)), (hk8 aT (AD2 0) (BB2 0)), (hk9 aT (AD2 0) (BB2 0)), (hk10 aT (AD2 0) (BB2 0)), (hk0 (AD2 1) (BB2 1)), (hk1 (AD2 1) (NH2 1)), (hk2 aT (AD2 1) (BB2 1)), (hk3 aT (AD2 1) (BB2 1)), (hk4 aT (AD2 1) (BB2 1)), (hk5 (AD2 1) (BB2 1) (NM2 1)), (hk6 aT (AD2 1) (BB2 1)), (hk7 aT (AD2 1) (BB2 1)), (hk8 aT (AD2 1) (BB2 1)), (hk9 aT (AD2 1) (BB2 1)), (hk10 aT (AD2 1) (BB2 1)), (hk0 (AD2 2) (BB2 2)), (hk1 (AD2 2) (NH2 2)), (hk2 aT (AD2 2) (BB2 2)), (hk3 aT (AD2 2) (BB2 2)), (hk4 aT (AD2 2) (BB2 2)), (hk5 (AD2 2) (BB2 2) (NM2 2)), (hk6 aT (AD2 2) (BB2 2)), (hk7 aT (AD2 2) (BB2 2)), (hk8 aT (AD2 2) (BB2 2)), (hk9 aT (AD2 2) (BB2 2)), (hk10 aT (AD2 2) (BB2 2)), (hk0 (AD2 3) (BB2 3)), (hk1 (AD2 3) (NH2 3)), (hk2 aT (AD2 3) (BB2 3)), (hk3 aT (AD2 3) (BB2 3)), (hk4 aT (AD2 3) (BB2 3)), (hk5 (AD2 3) (BB2 3) (NM2 3)), (hk6 aT (AD2 3) (BB2 3)), (hk7 aT (AD2 3) (BB2 3)), (hk8 aT (AD2 3) (BB2 3)), (hk9 aT (AD2 3) (BB2 3)), (hk10 aT (AD2 3) (BB2 3)), (hk0 (AD2 4) (BB2 4)), (hk1 (AD2 4) (NH2 4)), (hk2 aT (AD2 4) (BB2 4)), (hk3 aT (AD2 4) (BB2 4)), (hk4 aT (AD2 4) (BB2 4)), (hk5 (AD2 4) (BB2 4) (NM2 4)), (hk6 aT (AD2 4) (BB2 4)), (hk7 aT (AD2 4) (BB2 4)), (hk8 aT (AD2 4) (BB2 4)), (hk9 aT (AD2 4) (BB2 4)), (hk10 aT (AD2 4) (BB2 4)), (hk0 (AD2 5) (BB2 5)), (hk1 (AD2 5) (NH2 5)), (hk2 aT (AD2 5) (BB2 5)), (hk3 aT (AD2 5) (BB2 5)), (hk4 aT (AD2 5) (BB2 5)), (hk5 (AD2 5) (BB2 5) (NM2 5)), (hk6 aT (AD2 5) (BB2 5)), (hk7 aT (AD2 5) (BB2 5)), (hk8 aT (AD2 5) (BB2 5)), (hk9 aT (AD2 5) (BB2 5)), (hk10 aT (AD2 5) (BB2 5)), (hk0 (AD2 6) (BB2 6)), (hk1 (AD2 6) (NH2 6)), (hk2 aT (AD2 6) (BB2 6)), (hk3 aT (AD2 6) (BB2 6)), (hk4 aT (AD2 6) (BB2 6)), (hk5 (AD2 6) (BB2 6) (NM2 6)), (hk6 aT (AD2 6) (BB2 6)), (hk7 aT (AD2 6) (BB2 6)), (hk8 aT (AD2 6) (BB2 6)), (hk9 aT (AD2 6) (BB2 6)), (hk10 aT (AD2 6) (BB2 6)), (hk0 (AD2 7) (BB2 7)), (hk1 (AD2 7) (NH2 7)), (hk2 aT (AD2 7) (BB2 7)), (hk3 aT (AD2 7) (BB2 7)), (hk4 aT (AD2 7) (BB2 7)), (hk5 (AD2 7) (BB2 7) (NM2 7)), (hk6 aT (AD2 7) (BB2 7)), (hk7 aT (AD2 7) (BB2 7)), (hk8 aT (AD2 7) (BB2 7)), (hk9 aT (AD2 7) (BB2 7)), (hk10 aT (AD2 7) (BB2 7)), (hk0 (AD2 8) (BB2 8)), (hk1 (AD2 8) (NH2 8)), (hk2 aT (AD2 8) (BB2 8)), (hk3 aT (AD2 8) (BB2 8)), (hk4 aT (AD2 8) (BB2 8)), (hk5 (AD2 8) (BB2 8) (NM2 8)), (hk6 aT (AD2 8) (BB2 8)), (hk7 aT (AD2 8) (BB2 8)), (hk8 aT (AD2 8) (BB2 8)), (hk9 aT (AD2 8) (BB2 8)), (hk10 aT (AD2 8) (BB2 8))] : va_W)) r0 W2) ∨ (∃ E9 : String, (fun E W1 => ((E = "java/lang/IllegalArgumentException" ∧ (rgB 1 99 x && rgB 0 9 y && rgB 0 9 z) = false) ∨ (E = "java/lang/IllegalStateException" ∧ (rgB 1 99 x && rgB 0 9 y && rgB 0 9 z) = true ∧ nh = 6)) ∧ ∃ (BB2 : Nat → Nat → Nat → Int32) (NH2 NM2 : Nat → Nat), HiC BB2 NH2 NM2 hc PR Bd ∧ W1 = ([(x0, .inr (12, [.ref a0, .ref v0, .ref h0, .ref t0, .ref p0, .ref o0, .int (bI sv), .int le, .int lf])), (a0, .inr (10, [.ref a1, .ref a5, .ref a10, .int (bb 8 1), .int (bb 8 2), .int (bb 8 3), .int (bb 8 4), .int (bb 8 5), .int (bb 8 6), .int (bb 8 7), .int (bb 8 8)])), (a1, .inr (6, [.ref a2, .ref a3, .ref a4, .int (nI nh)])), (a2, .inl (aT 0, 6, .inl (bb 0))), (a3, .inl (aT 0, 6, .inl (bb 1))), (a4, .inl (aT 0, 6, .inl (bb 2))), (a5, .inr (8, [.ref a6, .ref a7, .ref a8, .ref a9, .int (nI nm), .int (bb 8 0)])), (a6, .inl (aT 0, 12, .inl (bb 3))), (a7, .inl (aT 0, 12, .inl (bb 4))), (a8, .inl (aT 0, 12, .inl (bb 5))), (a9, .inl (aT 0, 12, .inl (bb 6))), (a10, .inl (aT 0, 4, .inl (bb 7))), (h0, .inr (7, [.ref h1, .int (nI hc)])), (h1, .inl (aT 5, 9, .inr (.inr (.inr (.inr (fun j => some (AD j 0))))))), (hk0 (AD 0) (BB2 0)), (hk1 (AD 0) (NH2 0)), (hk2 aT (AD 0) (BB2 0)), (hk3 aT (AD 0) (BB2 0)), (hk4 aT (AD 0) (BB2 0)), (hk5 (AD 0) (BB2 0) (NM2 0)), (hk6 aT (AD 0) (BB2 0)), (hk7 aT (AD 0) (BB2 0)), (hk8 aT (AD 0) (BB2 0)), (hk9 aT (AD 0) (BB2 0)), (hk10 aT (AD 0) (BB2 0)), (hk0 (AD 1) (BB2 1)), (hk1 (AD 1) (NH2 1)), (hk2 aT (AD 1) (BB2 1)), (hk3 aT (AD 1) (BB2 1)), (hk4 aT (AD 1) (BB2 1)), (hk5 (AD 1) (BB2 1) (NM2 1)), (hk6 aT (AD 1) (BB2 1)), (hk7 aT (AD 1) (BB2 1)), (hk8 aT (AD 1) (BB2 1)), (hk9 aT (AD 1) (BB2 1)), (hk10 aT (AD 1) (BB2 1)), (hk0 (AD 2) (BB2 2)), (hk1 (AD 2) (NH2 2)), (hk2 aT (AD 2) (BB2 2)), (hk3 aT (AD 2) (BB2 2)), (hk4 aT (AD 2) (BB2 2)), (hk5 (AD 2) (BB2 2) (NM2 2)), (hk6 aT (AD 2) (BB2 2)), (hk7 aT (AD 2) (BB2 2)), (hk8 aT (AD 2) (BB2 2)), (hk9 aT (AD 2) (BB2 2)), (hk10 aT (AD 2) (BB2 2)), (hk0 (AD 3) (BB2 3)), (hk1 (AD 3) (NH2 3)), (hk2 aT (AD 3) (BB2 3)), (hk3 aT (AD 3) (BB2 3)), (hk4 aT (AD 3) (BB2 3)), (hk5 (AD 3) (BB2 3) (NM2 3)), (hk6 aT (AD 3) (BB2 3)), (hk7 aT (AD 3) (BB2 3)), (hk8 aT (AD 3) (BB2 3)), (hk9 aT (AD 3) (BB2 3)), (hk10 aT (AD 3) (BB2 3)), (hk0 (AD 4) (BB2 4)), (hk1 (AD 4) (NH2 4)), (hk2 aT (AD 4) (BB2 4)), (hk3 aT (AD 4) (BB2 4)), (hk4 aT (AD 4) (BB2 4)), (hk5 (AD 4) (BB2 4) (NM2 4)), (hk6 aT (AD 4) (BB2 4)), (hk7 aT (AD 4) (BB2 4)), (hk8 aT (AD 4) (BB2 4)), (hk9 aT (AD 4) (BB2 4)), (hk10 aT (AD 4) (BB2 4)), (hk0 (AD 5) (BB2 5)), (hk1 (AD 5) (NH2 5)), (hk2 aT (AD 5) (BB2 5)), (hk3 aT (AD 5) (BB2 5)), (hk4 aT (AD 5) (BB2 5)), (hk5 (AD 5) (BB2 5) (NM2 5)), (hk6 aT (AD 5) (BB2 5)), (hk7 aT (AD 5) (BB2 5)), (hk8 aT (AD 5) (BB2 5)), (hk9 aT (AD 5) (BB2 5)), (hk10 aT (AD 5) (BB2 5)), (hk0 (AD 6) (BB2 6)), (hk1 (AD 6) (NH2 6)), (hk2 aT (AD 6) (BB2 6)), (hk3 aT (AD 6) (BB2 6)), (hk4 aT (AD 6) (BB2 6)), (hk5 (AD 6) (BB2 6) (NM2 6)), (hk6 aT (AD 6) (BB2 6)), (hk7 aT (AD 6) (BB2 6)), (hk8 aT (AD 6) (BB2 6)), (hk9 aT (AD 6) (BB2 6)), (hk10 aT (AD 6) (BB2 6)), (hk0 (AD 7) (BB2 7)), (hk1 (AD 7) (NH2 7)), (hk2 aT (AD 7) (BB2 7)), (hk3 aT (AD 7) (BB2 7)), (hk4 aT (AD 7) (BB2 7)), (hk5 (AD 7) (BB2 7) (NM2 7)), (hk6 aT (AD 7) (BB2 7)), (hk7 aT (AD 7) (BB2 7)), (hk8 aT (AD 7) (BB2 7)), (hk9 aT (AD 7) (BB2 7)), (hk10 aT (AD 7) (BB2 7)), (hk0 (AD 8) (BB2 8)), (hk1 (AD 8) (NH2 8)), (hk2 aT (AD 8) (BB2 8)), (hk3 aT (AD 8) (BB2 8)), (hk4 aT (AD 8) (BB2 8)), (hk5 (AD 8) (BB2 8) (NM2 8)), (hk6 aT (AD 8) (BB2 8)), (hk7 aT (AD 8) (BB2 8)), (hk8 aT (AD 8) (BB2 8)), (hk9 aT (AD 8) (BB2 8)), (hk10 aT (AD 8) (BB2 8))] : va_W)) E9 W2 ∧ ((E9 = "java/lang/IllegalArgumentException" ∧ r = nI 1) ∨ (E9 = "java/lang/IllegalStateException" ∧ r = nI 2)))) ∧ W1 = (([(u0, .inl (aT 2, 1, .inr (.inl o2)))] : va_W) ++ W2))) := by
  refine CxT.of RL (by decide +kernel) rfl (Nat.le_of_ble_eq_true rfl) ?_
  intro p e s m below meth c A ls C hml hl hA hr hlocks htb hZ hW
  have hl : lv_has ls 6 [(0, .ref x0), (1, .int x), (2, .int y), (3, .int z), (4, .ref u0)] := hl
  have hx := C.1
  have hb := C.2.1
  refine lv_aload hx hb dL_addHedge_0 (lv_at hl 4 rfl) ?_
  refine lv_iconst (v := nI 0) hx hb dL_addHedge_2 (by decide) ?_
  refine lv_aload_n hx hb dL_addHedge_3 rfl (lv_at hl 0 rfl) ?_
  refine lv_iload_n hx hb dL_addHedge_4 rfl (lv_at hl 1 rfl) ?_
  refine lv_iload_n hx hb dL_addHedge_5 rfl (lv_at hl 2 rfl) ?_
  refine lv_iload_n hx hb dL_addHedge_6 rfl (lv_at hl 3 rfl) ?_
  refine cx_calli (cx_runV C hml hl.1 hZ hW hA (As := [.int x, .int y, .int z]) (rest := [.int (nI 0), .ref u0]) (k_X9_addHedge l hfl D aT x0 v0 t0 p0 o0 sv le lf a0 a1 a2 a3 a4 a5 a6 a7 a8 a9 a10 bb nh nm M Bd hBd hC hB h0 h1 AD BB NH NM hc PR hHi x y z) gV_L_X9_addHedge_7 hV_X9_addHedge rfl ⟨Nat.le_of_ble_eq_true rfl, Nat.le_of_ble_eq_true rfl⟩ ⟨Nat.le_of_ble_eq_true rfl, Nat.le_of_ble_eq_true rfl⟩ [1, 2, 3, 4, 5, 6, 7, 8, 9, 10, 11, 12, 13, 14, 15, 16, 17, 18, 19, 20, 21, 22, 23, 24, 25, 26, 27, 28, 29, 30, 31, 32, 33, 34, 35, 36, 37, 38, 39, 40, 41, 42, 43, 44, 45, 46, 47, 48, 49, 50, 51, 52, 53, 54, 55, 56, 57, 58, 59, 60, 61, 62, 63, 64, 65, 66, 67, 68, 69, 70, 71, 72, 73, 74, 75, 76, 77, 78, 79, 80, 81, 82, 83, 84, 85, 86, 87, 88, 89, 90, 91, 92, 93, 94, 95, 96, 97, 98, 99, 100, 101, 102, 103, 104, 105, 106, 107, 108, 109, 110, 111, 112, 113] (pk_h [(1, 113)] 114 (by exact rfl) (by decide +kernel) (by decide +kernel) (by exact rfl)) (by decide +kernel) 1 12 rfl rfl rfl rfl (Nat.le_of_ble_eq_true rfl) dL_addHedge_7) hW hA [1, 2, 3, 4, 5, 6, 7, 8, 9, 10, 11, 12, 13, 14, 15, 16, 17, 18, 19, 20, 21, 22, 23, 24, 25, 26, 27, 28, 29, 30, 31, 32, 33, 34, 35, 36, 37, 38, 39, 40, 41, 42, 43, 44, 45, 46, 47, 48, 49, 50, 51, 52, 53, 54, 55, 56, 57, 58, 59, 60, 61, 62, 63, 64, 65, 66, 67, 68, 69, 70, 71, 72, 73, 74, 75, 76, 77, 78, 79, 80, 81, 82, 83, 84, 85, 86, 87, 88, 89, 90, 91, 92, 93, 94, 95, 96, 97, 98, 99, 100, 101, 102, 103, 104, 105, 106, 107, 108, 109, 110, 111, 112, 113] [0] (pk_h [(1, 113)] 114 (by exact rfl) (by decide +kernel) (by decide +kernel) (by exact rfl)) (pk_g [(0, 1)] 114 (by exact rfl) (by decide +kernel) (by decide +kernel)) (by decide +kernel) (by decide +kernel) ?_ (fun r_7 W_7 H locs hq hW => ?_)
  rotate_left
  obtain hq := hq
  have hW : CxB D (([(u0, .inl (aT 2, 1, .inr (.inl o)))] : va_W) ++ W_7) A s.heap H _ := hW
  refine lv_i2l (v := (r_7).toInt64) hx hb dL_addHedge_10 rfl ?_
  refine cx_last C hW 0 2 (j := 0) (W1 := (([(u0, .inl (aT 2, 1, .inr (.inl (vp_updL o 0 ((r_7).toInt64)))))] : va_W) ++ W_7)) rfl rfl rfl (by omega) (by decide) rfl dL_addHedge_11 (fun H locs hW => ?_)
  refine lv_goto (tgt := 23) hx hb dL_addHedge_12 (by decide) ?_
  refine lv_iconst (v := nI 0) hx hb dL_addHedge_23 (by decide) ?_
  exact cx_tret C hr hlocks rfl hW ⟨Nat.le_of_ble_eq_true rfl, Nat.le_of_ble_eq_true rfl⟩ (⟨W_7, _, Or.inl ⟨r_7, rfl, rfl, hq⟩, rfl⟩) dL_addHedge_24
  · intro E ce q9 W9 H locs hE hW h7 h8 h9
    have hE2 := hE
    rcases (show E = "java/lang/IllegalArgumentException" ∨ E = "java/lang/IllegalStateException" from by
      clear hW
      revert hE
      grind) with rfl | rfl
    · have hW : CxB D (([(u0, .inl (aT 2, 1, .inr (.inl o)))] : va_W) ++ W9) A s.heap H _ := hW
      refine cx_catchT C hZ (nm := "java/lang/IllegalArgumentException") [] ⟨0, 12, 15, 13⟩ (tableOf [(0, 12, 19, 15)]) htb (fun z hz => by cases hz) (by decide) (by decide) gw_546 nw_561 h7 h8 h9 ?_
      refine lv_astore (lv' := [(5, .ref q9), (0, .ref x0), (1, .int x), (2, .int y), (3, .int z), (4, .ref u0)]) hx hb dL_addHedge_15 hl (by decide) rfl (fun ls hl => ?_)
      refine lv_iconst (v := nI 1) hx hb dL_addHedge_17 (by decide) ?_
      exact cx_tret C hr hlocks rfl hW ⟨Nat.le_of_ble_eq_true rfl, Nat.le_of_ble_eq_true rfl⟩ (⟨W9, _, Or.inr ⟨_, hE2, Or.inl ⟨rfl, rfl⟩⟩, rfl⟩) dL_addHedge_18
    · have hW : CxB D (([(u0, .inl (aT 2, 1, .inr (.inl o)))] : va_W) ++ W9) A s.heap H _ := hW
      refine cx_catchT C hZ (nm := "java/lang/IllegalStateException") [⟨0, 12, 15, 13⟩] ⟨0, 12, 19, 15⟩ (tableOf []) htb (fun z hz => by
          simp only [List.mem_cons, List.not_mem_nil, or_false] at hz
          rcases hz with rfl
          · exact Or.inr ⟨by decide, "java/lang/IllegalArgumentException", gw_546, List.mem_of_getElem? (i := 3) rfl⟩) (by decide) (by decide) gw_547 nw_637 h7 h8 h9 ?_
      refine lv_astore (lv' := [(5, .ref q9), (0, .ref x0), (1, .int x), (2, .int y), (3, .int z), (4, .ref u0)]) hx hb dL_addHedge_19 hl (by decide) rfl (fun ls hl => ?_)
      refine lv_iconst (v := nI 2) hx hb dL_addHedge_21 (by decide) ?_
      exact cx_tret C hr hlocks rfl hW ⟨Nat.le_of_ble_eq_true rfl, Nat.le_of_ble_eq_true rfl⟩ (⟨W9, _, Or.inr ⟨_, hE2, Or.inr (⟨rfl, rfl⟩)⟩, rfl⟩) dL_addHedge_22
theorem dL_propose_0 : decode cL_propose 0 = .ok (.aload_n 3, 1) := by decide +kernel
theorem dL_propose_1 : decode cL_propose 1 = .ok (.iconst 0, 1) := by decide +kernel
theorem dL_propose_2 : decode cL_propose 2 = .ok (.aload_n 0, 1) := by decide +kernel
theorem dL_propose_3 : decode cL_propose 3 = .ok (.iload_n 1, 1) := by decide +kernel
theorem dL_propose_4 : decode cL_propose 4 = .ok (.iload_n 2, 1) := by decide +kernel
theorem dL_propose_5 : decode cL_propose 5 = .ok (.invokevirtual 17, 3) := by decide +kernel
theorem dL_propose_8 : decode cL_propose 8 = .ok (.i2l, 1) := by decide +kernel
theorem dL_propose_9 : decode cL_propose 9 = .ok (.lastore, 1) := by decide +kernel
theorem dL_propose_10 : decode cL_propose 10 = .ok (.goto 11, 3) := by decide +kernel
theorem dL_propose_13 : decode cL_propose 13 = .ok (.astore 4, 2) := by decide +kernel
theorem dL_propose_15 : decode cL_propose 15 = .ok (.iconst 1, 1) := by decide +kernel
theorem dL_propose_16 : decode cL_propose 16 = .ok (.ireturn, 1) := by decide +kernel
theorem dL_propose_17 : decode cL_propose 17 = .ok (.astore 4, 2) := by decide +kernel
theorem dL_propose_19 : decode cL_propose 19 = .ok (.iconst 2, 1) := by decide +kernel
theorem dL_propose_20 : decode cL_propose 20 = .ok (.ireturn, 1) := by decide +kernel
theorem dL_propose_21 : decode cL_propose 21 = .ok (.iconst 0, 1) := by decide +kernel
theorem dL_propose_22 : decode cL_propose 22 = .ok (.ireturn, 1) := by decide +kernel
theorem gV_L_X9_propose_17 : GoodIn gw (wsV RL 17 RX9 yX9_propose (Cond.code yX9_propose cX9_propose 4 (some .int) :: gw)) := gdV gw_658 gw_659 gw_660 gw_67 gw_661
theorem hV_X9_propose : yX9_propose.cls = RX9 ∧ yX9_propose.cls ≠ "java/lang/invoke/MethodHandle" ∧ yX9_propose.cls ≠ "java/lang/invoke/VarHandle" ∧ (parseMethodDescriptor yX9_propose.desc).map (fun d => d.parameters.length) = some 2 := ⟨rfl, by decide +kernel, by decide +kernel, by decide +kernel⟩
set_option maxHeartbeats 2000000 in
set_option maxRecDepth 20000 in
theorem k_L_propose (l : Launch) (hfl : l.stackTraces = false) (D : va_G) (aT : Nat → ClassId) (u0 : Nat) (o : Nat → Int64) (x0 : Nat) (v0 : Nat) (t0 : Nat) (p0 : Nat) (o0 : Nat) (sv : Bool) (le : Int32) (lf : Int32) (a0 : Nat) (a1 : Nat) (a2 : Nat) (a3 : Nat) (a4 : Nat) (a5 : Nat) (a6 : Nat) (a7 : Nat) (a8 : Nat) (a9 : Nat) (a10 : Nat) (bb : Nat → Nat → Int32) (nh : Nat) (nm : Nat) (M : Nat → Int32) (Bd : Nat) (hBd : Bd < 1048000) (hC : CoW M Bd) (hB : BlC bb nh nm M) (h0 : Nat) (h1 : Nat) (AD : Nat → Nat → Nat) (BB : Nat → Nat → Nat → Int32) (NH : Nat → Nat) (NM : Nat → Nat) (hc : Nat) (PR : Nat → Nat → Int32) (hHi : HiC BB NH NM hc PR Bd) (x : Int32) (y : Int32) : CxT l yL_propose cL_propose 5 (some (.int)) [(0, 10, 13, 13), (0, 10, 17, 15)] 9 2 12 156 D aT [.ref x0, .int x, .int y, .ref u0] [(u0, .inl (aT 2, 1, .inr (.inl o))), (x0, .inr (12, [.ref a0, .ref v0, .ref h0, .ref t0, .ref p0, .ref o0, .int (bI sv), .int le, .int lf])), (a0, .inr (10, [.ref a1, .ref a5, .ref a10, .int (bb 8 1), .int (bb 8 2), .int (bb 8 3), .int (bb 8 4), .int (bb 8 5), .int (bb 8 6), .int (bb 8 7), .int (bb 8 8)])), (a1, .inr (6, [.ref a2, .ref a3, .ref a4, .int (nI nh)])), (a2, .inl (aT 0, 6, .inl (bb 0))), (a3, .inl (aT 0, 6, .inl (bb 1))), (a4, .inl (aT 0, 6, .inl (bb 2))), (a5, .inr (8, [.ref a6, .ref a7, .ref a8, .ref a9, .int (nI nm), .int (bb 8 0)])), (a6, .inl (aT 0, 12, .inl (bb 3))), (a7, .inl (aT 0, 12, .inl (bb 4))), (a8, .inl (aT 0, 12, .inl (bb 5))), (a9, .inl (aT 0, 12, .inl (bb 6))), (a10, .inl (aT 0, 4, .inl (bb 7))), (h0, .inr (7, [.ref h1, .int (nI hc)])), (h1, .inl (aT 5, 9, .inr (.inr (.inr (.inr (fun j => some (AD j 0))))))), (hk0 (AD 0) (BB 0)), (hk1 (AD 0) (NH 0)), (hk2 aT (AD 0) (BB 0)), (hk3 aT (AD 0) (BB 0)), (hk4 aT (AD 0) (BB 0)), (hk5 (AD 0) (BB 0) (NM 0)), (hk6 aT (AD 0) (BB 0)), (hk7 aT (AD 0) (BB 0)), (hk8 aT (AD 0) (BB 0)), (hk9 aT (AD 0) (BB 0)), (hk10 aT (AD 0) (BB 0)), (hk0 (AD 1) (BB 1)), (hk1 (AD 1) (NH 1)), (hk2 aT (AD 1) (BB 1)), (hk3 aT (AD 1) (BB 1)), (hk4 aT (AD 1) (BB 1)), (hk5 (AD 1) (BB 1) (NM 1)), (hk6 aT (AD 1) (BB 1)), (hk7 aT (AD 1) (BB 1)), (hk8 aT (AD 1) (BB 1)), (hk9 aT (AD 1) (BB 1)), (hk10 aT (AD 1) (BB 1)), (hk0 (AD 2) (BB 2)), (hk1 (AD 2) (NH 2)), (hk2 aT (AD 2) (BB 2)), (hk3 aT (AD 2) (BB 2)), (hk4 aT (AD 2) (BB 2)), (hk5 (AD 2) (BB 2) (NM 2)), (hk6 aT (AD 2) (BB 2)), (hk7 aT (AD 2) (BB 2)), (hk8 aT (AD 2) (BB 2)), (hk9 aT (AD 2) (BB 2)), (hk10 aT (AD 2) (BB 2)), (hk0 (AD 3) (BB 3)), (hk1 (AD 3) (NH 3)), (hk2 aT (AD 3) (BB 3)), (hk3 aT (AD 3) (BB 3)), (hk4 aT (AD 3) (BB 3)), (hk5 (AD 3) (BB 3) (NM 3)), (hk6 aT (AD 3) (BB 3)), (hk7 aT (AD 3) (BB 3)), (hk8 aT (AD 3) (BB 3)), (hk9 aT (AD 3) (BB 3)), (hk10 aT (AD 3) (BB 3)), (hk0 (AD 4) (BB 4)), (hk1 (AD 4) (NH 4)), (hk2 aT (AD 4) (BB 4)), (hk3 aT (AD 4) (BB 4)), (hk4 aT (AD 4) (BB 4)), (hk5 (AD 4) (BB 4) (NM 4)), (hk6 aT (AD 4) (BB 4)), (hk7 aT (AD 4) (BB 4)), (hk8 aT (AD 4) (BB 4)), (hk9 aT (AD 4) (BB 4)), (hk10 aT (AD 4) (BB 4)), (hk0 (AD 5) (BB 5)), (hk1 (AD 5) (NH 5)), (hk2 aT (AD 5) (BB 5)), (hk3 aT (AD 5) (BB 5)), (hk4 aT (AD 5) (BB 5)), (hk5 (AD 5) (BB 5) (NM 5)), (hk6 aT (AD 5) (BB 5)), (hk7 aT (AD 5) (BB 5)), (hk8 aT (AD 5) (BB 5)), (hk9 aT (AD 5) (BB 5)), (hk10 aT (AD 5) (BB 5)), (hk0 (AD 6) (BB 6)), (hk1 (AD 6) (NH 6)), (hk2 aT (AD 6) (BB 6)), (hk3 aT (AD 6) (BB 6)), (hk4 aT (AD 6) (BB 6)), (hk5 (AD 6) (BB 6) (NM 6)), (hk6 aT (AD 6) (BB 6)), (hk7 aT (AD 6) (BB 6)), (hk8 aT (AD 6) (BB 6)), (hk9 aT (AD 6) (BB 6)), (hk10 aT (AD 6) (BB 6)), (hk0 (AD 7) (BB 7)), (hk1 (AD 7) (NH 7)), (hk2 aT (AD 7) (BB 7)), (hk3 aT (AD 7) (BB 7)), (hk4 aT (AD 7) (BB 7)), (hk5 (AD 7) (BB 7) (NM 7)), (hk6 aT (AD 7) (BB 7)), (hk7 aT (AD 7) (BB 7)), (hk8 aT (AD 7) (BB 7)), (hk9 aT (AD 7) (BB 7)), (hk10 aT (AD 7) (BB 7)), (hk0 (AD 8) (BB 8)), (hk1 (AD 8) (NH 8)), (hk2 aT (AD 8) (BB 8)), (hk3 aT (AD 8) (BB 8)), (hk4 aT (AD 8) (BB 8)), (hk5 (AD 8) (BB 8) (NM 8)), (hk6 aT (AD 8) (BB 8)), (hk7 aT (AD 8) (BB 8)), (hk8 aT (AD 8) (BB 8)), (hk9 aT (AD 8) (BB 8)), (hk10 aT (AD 8) (BB 8))] (qI D aT (fun r W1 => ∃ (W2 : va_W) (o2 : Nat → Int64), ((∃ r0 : Int32, r = nI 0 ∧ o2 0 = r0.toInt64 ∧ (fun r W1 => ∃ (AD2 : Nat → Nat → Nat) (BB2 : Nat → Nat → Nat → Int32) (NH2 NM2 : Nat → Nat) (hc2 : Nat) (b2 : Nat → Nat → Int32), ((rgB 0 9 x && rgB 1 20 y) = true ∧ nm < 12 ∧ r = M 1) ∧ BlC b2 (nh) (nm + 1) (addF M (nM M) (-1) x y) ∧ hc2 = min hc 7 + 1 ∧ HiC BB2 NH2 NM2 hc2 (nxP PR hc M) Bd ∧ W1 = ([(x0, .inr (12, [.ref a0, .ref v0, .ref h0, .ref t0, .ref p0, .ref o0, .int (bI sv), .int le, .int lf])), (a0, .inr (10, [.ref a1, .ref a5, .ref a10, .int (b2 8 1), .int (b2 8 2), .int (b2 8 3), .int (b2 8 4), .int (b2 8 5), .int (b2 8 6), .int (b2 8 7), .int (b2 8 8)])), (a1, .inr (6, [.ref a2, .ref a3, .ref a4, .int (nI nh)])), (a2, .inl (aT 0, 6, .inl (b2 0))), (a3, .inl (aT 0, 6, .inl (b2 1))), (a4, .inl (aT 0, 6, .inl (b2 2))), (a5, .inr (8, [.ref a6, .ref a7, .ref a8, .ref a9, .int (nI (nm + 1)), .int (b2 8 0)])), (a6, .inl (aT 0, 12, .inl (b2 3))), (a7, .inl (aT 0, 12, .inl (b2 4))), (a8, .inl (aT 0, 12, .inl (b2 5))), (a9, .inl (aT 0, 12, .inl (b2 6))), (a10, .inl (aT 0, 4, .inl (b2 7))), (h0, .inr (7, [.ref h1, .int (nI hc2)])), (h1, .inl (aT 5, 9, .inr (.inr (.inr (.inr (fun j => some (AD2 j 0))))))), (hk0 (AD2 0) (BB2 0)), (hk1 (AD2 0) (NH2 0)), (hk2 aT (AD2 0) (BB2 0)), (hk3 aT (AD2 0) (BB2 0)), (hk4 aT (AD2 0) (BB2 0)), (hk5 (AD2 0) (BB2 0) (NM2 0)), (hk6 aT (AD2 0) (BB2 0)), (hk7 aT (AD2 0) (BB2 0)), (hk8 aT (AD2 0) (BB2 0)), (hk9 aT (AD2 0) (BB2 0)), (hk10 aT (AD2 0) (BB2 0)), (hk0 (AD2 1) (BB2 1)), (hk1 (AD2 1) (NH2 1)), (hk2 aT (AD2 1) (BB2 1)), (hk3 aT (AD2 1) (BB2 1)), (hk4 aT (AD2 1) (BB2 1)), (hk5 (AD2 1) (BB2 1) (NM2 1)), (hk6 aT (AD2 1) (BB2 1)), (hk7 aT (AD2 1) (BB2 1)), (hk8 aT (AD2 1) (BB2 1)), (hk9 aT (AD2 1) (BB2 1)), (hk10 aT (AD2 1) (BB2 1)), (hk0 (AD2 2) (BB2 2)), (hk1 (AD2 2) (NH2 2)), (hk2 aT (AD2 2) (BB2 2)), (hk3 aT (AD2 2) (BB2 2)), (hk4 aT (AD2 2) (BB2 2)), (hk5 (AD2 2) (BB2 2) (NM2 2)), (hk6 aT (AD2 2) (BB2 2)), (hk7 aT (AD2 2) (BB2 2)), (hk8 aT (AD2 2) (BB2 2)), (hk9 aT (AD2 2) (BB2 2)), (hk10 aT (AD2 2) (BB2 2)), (hk0 (AD2 3) (BB2 3)), (hk1 (AD2 3) (NH2 3)), (hk2 aT (AD2 3) (BB2 3)), (hk3 aT (AD2 3) (BB2 3)), (hk4 aT (AD2 3) (BB2 3)), (hk5 (AD2 3) (BB2 3) (NM2 3)), (hk6 aT (AD2 3) (BB2 3)), (hk7 aT (AD2 3) (BB2 3)), (hk8 aT (AD2 3) (BB2 3)), (hk9 aT (AD2 3) (BB2 3)), (hk10 aT (AD2 3) (BB2 3)), (hk0 (AD2 4) (BB2 4)), (hk1 (AD2 4) (NH2 4)), (hk2 aT (AD2 4) (BB2 4)), (hk3 aT (AD2 4) (BB2 4)), (hk4 aT (AD2 4) (BB2 4)), (hk5 (AD2 4) (BB2 4) (NM2 4)), (hk6 aT (AD2 4) (BB2 4)), (hk7 aT (AD2 4) (BB2 4)), (hk8 aT (AD2 4) (BB2 4)), (hk9 aT (AD2 4) (BB2 4)), (hk10 aT (AD2 4) (BB2 4)), (hk0 (AD2 5) (BB2 5)), (hk1 (AD2 5) (NH2 5)), (hk2 aT (AD2 5) (BB2 5)), (hk3 aT (AD2 5) (BB2 5)), (hk4 aT (AD2 5) (BB2 5)), (hk5 (AD2 5) (BB2 5) (NM2 5)), (hk6 aT (AD2 5) (BB2 5)), (hk7 aT (AD2 5) (BB2 5)), (hk8 aT (AD2 5) (BB2 5)), (hk9 aT (AD2 5) (BB2 5)), (hk10 aT (AD2 5) (BB2 5)), (hk0 (AD2 6) (BB2 6)), (hk1 (AD2 6) (NH2 6)), (hk2 aT (AD2 6) (BB2 6)), (hk3 aT (AD2 6) (BB2 6)), (hk4 aT (AD2 6) (BB2 6)), (hk5 (AD2 6) (BB2 6) (NM2 6)), (hk6 aT (AD2 6) (BB2 6)), (hk7 aT (AD2 6) (BB2 6)), (hk8 aT (AD2 6) (BB2 6)), (hk9 aT (AD2 6) (BB2 6)), (hk10 aT (AD2 6) (BB2 6)), (hk0 (AD2 7) (BB2 7)), (hk1 (AD2 7) (NH2 7)), (hk2 aT (AD2 7) (BB2 7)), (hk3 aT (AD2 7) (BB2 7)), (hk4 aT (AD2 7) (BB2 7)), (hk5 (AD2 7) (BB2 7) (NM2 7)), (hk6 aT (AD2 7) (BB2 7)), (hk7 aT (AD2 7) (BB2 7)), (hk8 aT (AD2 7) (BB2 7)), (hk9 aT (AD2 7) (BB2 7)), (hk10 aT (AD2 7) (BB2 7)), (hk0 (AD2 8) (BB2 8)), (hk1 (AD2 8) (NH2 8)), (hk2 aT (AD2 8) (BB2 8)), (hk3 aT (AD2 8) (BB2 8)), (hk4 aT (AD2 8) (BB2 8)), (hk5 (AD2 8) (BB2 8) (NM2 8)), (hk6 aT (AD2 8) (BB2 8)), (hk7 aT (AD2 8) (BB2 8)), (hk8 aT (AD2 8) (BB2 8)), (hk9 aT (AD2 8) (BB2 8)), (hk10 aT (AD2 8) (BB2 8))] : va_W)) r0 W2) ∨ (∃ E9 : String, (fun E W1 => ((E = "java/lang/IllegalArgumentException" ∧ (rgB 0 9 x && rgB 1 20 y) = false) ∨ (E = "java/lang/IllegalStateException" ∧ (rgB 0 9 x && rgB 1 20 y) = true ∧ nm = 12)) ∧ ∃ (BB2 : Nat → Nat → Nat → Int32) (NH2 NM2 : Nat → Nat), HiC BB2 NH2 NM2 hc PR Bd ∧ W1 = ([(x0, .inr (12, [.ref a0, .ref v0, .ref h0, .ref t0, .ref p0, .ref o0, .int (bI sv), .int le, .int lf])), (a0, .inr (10, [.ref a1, .ref a5, .ref a10, .int (bb 8 1), .int (bb 8 2), .int (bb 8 3), .int (bb 8 4), .int (bb 8 5), .int (bb 8 6), .int (bb 8 7), .int (bb 8 8)])), (a1, .inr (6, [.ref a2, .ref a3, .ref a4, .int (nI nh)])), (a2, .inl (aT 0, 6, .inl (bb 0))), (a3, .inl (aT 0, 6, .inl (bb 1))), (a4, .inl (aT 0, 6, .inl (bb 2))), (a5, .inr (8, [.ref a6, .ref a7, .ref a8, .ref a9, .int (nI nm), .int (bb 8 0)])), (a6, .inl (aT 0, 12, .inl (bb 3))), (a7, .inl (aT 0, 12, .inl (bb 4))), (a8, .inl (aT 0, 12, .inl (bb 5))), (a9, .inl (aT 0, 12, .inl (bb 6))), (a10, .inl (aT 0, 4, .inl (bb 7))), (h0, .inr (7, [.ref h1, .int (nI hc)])), (h1, .inl (aT 5, 9, .inr (.inr (.inr (.inr (fun j => some (AD j 0))))))), (hk0 (AD 0) (BB2 0)), (hk1 (AD 0) (NH2 0)), (hk2 aT (AD 0) (BB2 0)), (hk3 aT (AD 0) (BB2 0)), (hk4 aT (AD 0) (BB2 0)), (hk5 (AD 0) (BB2 0) (NM2 0)), (hk6 aT (AD 0) (BB2 0)), (hk7 aT (AD 0) (BB2 0)), (hk8 aT (AD 0) (BB2 0)), (hk9 aT (AD 0) (BB2 0)), (hk10 aT (AD 0) (BB2 0)), (hk0 (AD 1) (BB2 1)), (hk1 (AD 1) (NH2 1)), (hk2 aT (AD 1) (BB2 1)), (hk3 aT (AD 1) (BB2 1)), (hk4 aT (AD 1) (BB2 1)), (hk5 (AD 1) (BB2 1) (NM2 1)), (hk6 aT (AD 1) (BB2 1)), (hk7 aT (AD 1) (BB2 1)), (hk8 aT (AD 1) (BB2 1)), (hk9 aT (AD 1) (BB2 1)), (hk10 aT (AD 1) (BB2 1)), (hk0 (AD 2) (BB2 2)), (hk1 (AD 2) (NH2 2)), (hk2 aT (AD 2) (BB2 2)), (hk3 aT (AD 2) (BB2 2)), (hk4 aT (AD 2) (BB2 2)), (hk5 (AD 2) (BB2 2) (NM2 2)), (hk6 aT (AD 2) (BB2 2)), (hk7 aT (AD 2) (BB2 2)), (hk8 aT (AD 2) (BB2 2)), (hk9 aT (AD 2) (BB2 2)), (hk10 aT (AD 2) (BB2 2)), (hk0 (AD 3) (BB2 3)), (hk1 (AD 3) (NH2 3)), (hk2 aT (AD 3) (BB2 3)), (hk3 aT (AD 3) (BB2 3)), (hk4 aT (AD 3) (BB2 3)), (hk5 (AD 3) (BB2 3) (NM2 3)), (hk6 aT (AD 3) (BB2 3)), (hk7 aT (AD 3) (BB2 3)), (hk8 aT (AD 3) (BB2 3)), (hk9 aT (AD 3) (BB2 3)), (hk10 aT (AD 3) (BB2 3)), (hk0 (AD 4) (BB2 4)), (hk1 (AD 4) (NH2 4)), (hk2 aT (AD 4) (BB2 4)), (hk3 aT (AD 4) (BB2 4)), (hk4 aT (AD 4) (BB2 4)), (hk5 (AD 4) (BB2 4) (NM2 4)), (hk6 aT (AD 4) (BB2 4)), (hk7 aT (AD 4) (BB2 4)), (hk8 aT (AD 4) (BB2 4)), (hk9 aT (AD 4) (BB2 4)), (hk10 aT (AD 4) (BB2 4)), (hk0 (AD 5) (BB2 5)), (hk1 (AD 5) (NH2 5)), (hk2 aT (AD 5) (BB2 5)), (hk3 aT (AD 5) (BB2 5)), (hk4 aT (AD 5) (BB2 5)), (hk5 (AD 5) (BB2 5) (NM2 5)), (hk6 aT (AD 5) (BB2 5)), (hk7 aT (AD 5) (BB2 5)), (hk8 aT (AD 5) (BB2 5)), (hk9 aT (AD 5) (BB2 5)), (hk10 aT (AD 5) (BB2 5)), (hk0 (AD 6) (BB2 6)), (hk1 (AD 6) (NH2 6)), (hk2 aT (AD 6) (BB2 6)), (hk3 aT (AD 6) (BB2 6)), (hk4 aT (AD 6) (BB2 6)), (hk5 (AD 6) (BB2 6) (NM2 6)), (hk6 aT (AD 6) (BB2 6)), (hk7 aT (AD 6) (BB2 6)), (hk8 aT (AD 6) (BB2 6)), (hk9 aT (AD 6) (BB2 6)), (hk10 aT (AD 6) (BB2 6)), (hk0 (AD 7) (BB2 7)), (hk1 (AD 7) (NH2 7)), (hk2 aT (AD 7) (BB2 7)), (hk3 aT (AD 7) (BB2 7)), (hk4 aT (AD 7) (BB2 7)), (hk5 (AD 7) (BB2 7) (NM2 7)), (hk6 aT (AD 7) (BB2 7)), (hk7 aT (AD 7) (BB2 7)), (hk8 aT (AD 7) (BB2 7)), (hk9 aT (AD 7) (BB2 7)), (hk10 aT (AD 7) (BB2 7)), (hk0 (AD 8) (BB2 8)), (hk1 (AD 8) (NH2 8)), (hk2 aT (AD 8) (BB2 8)), (hk3 aT (AD 8) (BB2 8)), (hk4 aT (AD 8) (BB2 8)), (hk5 (AD 8) (BB2 8) (NM2 8)), (hk6 aT (AD 8) (BB2 8)), (hk7 aT (AD 8) (BB2 8)), (hk8 aT (AD 8) (BB2 8)), (hk9 aT (AD 8) (BB2 8)), (hk10 aT (AD 8) (BB2 8))] : va_W)) E9 W2 ∧ ((E9 = "java/lang/IllegalArgumentException" ∧ r = nI 1) ∨ (E9 = "java/lang/IllegalStateException" ∧ r = nI 2)))) ∧ W1 = (([(u0, .inl (aT 2, 1, .inr (.inl o2)))] : va_W) ++ W2))) := by
  refine CxT.of RL (by decide +kernel) rfl (Nat.le_of_ble_eq_true rfl) ?_
  intro p e s m below meth c A ls C hml hl hA hr hlocks htb hZ hW
  have hl : lv_has ls 5 [(0, .ref x0), (1, .int x), (2, .int y), (3, .ref u0)] := hl
  have hx := C.1
  have hb := C.2.1
  refine lv_aload_n hx hb dL_propose_0 rfl (lv_at hl 3 rfl) ?_
  refine lv_iconst (v := nI 0) hx hb dL_propose_1 (by decide) ?_
  refine lv_aload_n hx hb dL_propose_2 rfl (lv_at hl 0 rfl) ?_
  refine lv_iload_n hx hb dL_propose_3 rfl (lv_at hl 1 rfl) ?_
  refine lv_iload_n hx hb dL_propose_4 rfl (lv_at hl 2 rfl) ?_
  refine cx_calli (cx_runV C hml hl.1 hZ hW hA (As := [.int x, .int y]) (rest := [.int (nI 0), .ref u0]) (k_X9_propose l hfl D aT x0 v0 t0 p0 o0 sv le lf a0 a1 a2 a3 a4 a5 a6 a7 a8 a9 a10 bb nh nm M Bd hBd hC hB h0 h1 AD BB NH NM hc PR hHi x y) gV_L_X9_propose_17 hV_X9_propose rfl ⟨Nat.le_of_ble_eq_true rfl, Nat.le_of_ble_eq_true rfl⟩ ⟨Nat.le_of_ble_eq_true rfl, Nat.le_of_ble_eq_true rfl⟩ [1, 2, 3, 4, 5, 6, 7, 8, 9, 10, 11, 12, 13, 14, 15, 16, 17, 18, 19, 20, 21, 22, 23, 24, 25, 26, 27, 28, 29, 30, 31, 32, 33, 34, 35, 36, 37, 38, 39, 40, 41, 42, 43, 44, 45, 46, 47, 48, 49, 50, 51, 52, 53, 54, 55, 56, 57, 58, 59, 60, 61, 62, 63, 64, 65, 66, 67, 68, 69, 70, 71, 72, 73, 74, 75, 76, 77, 78, 79, 80, 81, 82, 83, 84, 85, 86, 87, 88, 89, 90, 91, 92, 93, 94, 95, 96, 97, 98, 99, 100, 101, 102, 103, 104, 105, 106, 107, 108, 109, 110, 111, 112, 113] (pk_h [(1, 113)] 114 (by exact rfl) (by decide +kernel) (by decide +kernel) (by exact rfl)) (by decide +kernel) 1 12 rfl rfl rfl rfl (Nat.le_of_ble_eq_true rfl) dL_propose_5) hW hA [1, 2, 3, 4, 5, 6, 7, 8, 9, 10, 11, 12, 13, 14, 15, 16, 17, 18, 19, 20, 21, 22, 23, 24, 25, 26, 27, 28, 29, 30, 31, 32, 33, 34, 35, 36, 37, 38, 39, 40, 41, 42, 43, 44, 45, 46, 47, 48, 49, 50, 51, 52, 53, 54, 55, 56, 57, 58, 59, 60, 61, 62, 63, 64, 65, 66, 67, 68, 69, 70, 71, 72, 73, 74, 75, 76, 77, 78, 79, 80, 81, 82, 83, 84, 85, 86, 87, 88, 89, 90, 91, 92, 93, 94, 95, 96, 97, 98, 99, 100, 101, 102, 103, 104, 105, 106, 107, 108, 109, 110, 111, 112, 113] [0] (pk_h [(1, 113)] 114 (by exact rfl) (by decide +kernel) (by decide +kernel) (by exact rfl)) (pk_g [(0, 1)] 114 (by exact rfl) (by decide +kernel) (by decide +kernel)) (by decide +kernel) (by decide +kernel) ?_ (fun r_5 W_5 H locs hq hW => ?_)
  rotate_left
  obtain hq := hq
  have hW : CxB D (([(u0, .inl (aT 2, 1, .inr (.inl o)))] : va_W) ++ W_5) A s.heap H _ := hW
  refine lv_i2l (v := (r_5).toInt64) hx hb dL_propose_8 rfl ?_
  refine cx_last C hW 0 2 (j := 0) (W1 := (([(u0, .inl (aT 2, 1, .inr (.inl (vp_updL o 0 ((r_5).toInt64)))))] : va_W) ++ W_5)) rfl rfl rfl (by omega) (by decide) rfl dL_propose_9 (fun H locs hW => ?_)
  refine lv_goto (tgt := 21) hx hb dL_propose_10 (by decide) ?_
  refine lv_iconst (v := nI 0) hx hb dL_propose_21 (by decide) ?_
  exact cx_tret C hr hlocks rfl hW ⟨Nat.le_of_ble_eq_true rfl, Nat.le_of_ble_eq_true rfl⟩ (⟨W_5, _, Or.inl ⟨r_5, rfl, rfl, hq⟩, rfl⟩) dL_propose_22
  · intro E ce q9 W9 H locs hE hW h7 h8 h9
    have hE2 := hE
    rcases (show E = "java/lang/IllegalArgumentException" ∨ E = "java/lang/IllegalStateException" from by
      clear hW
      revert hE
      grind) with rfl | rfl
    · have hW : CxB D (([(u0, .inl (aT 2, 1, .inr (.inl o)))] : va_W) ++ W9) A s.heap H _ := hW
      refine cx_catchT C hZ (nm := "java/lang/IllegalArgumentException") [] ⟨0, 10, 13, 13⟩ (tableOf [(0, 10, 17, 15)]) htb (fun z hz => by cases hz) (by decide) (by decide) gw_546 nw_561 h7 h8 h9 ?_
      refine lv_astore (lv' := [(4, .ref q9), (0, .ref x0), (1, .int x), (2, .int y), (3, .ref u0)]) hx hb dL_propose_13 hl (by decide) rfl (fun ls hl => ?_)
      refine lv_iconst (v := nI 1) hx hb dL_propose_15 (by decide) ?_
      exact cx_tret C hr hlocks rfl hW ⟨Nat.le_of_ble_eq_true rfl, Nat.le_of_ble_eq_true rfl⟩ (⟨W9, _, Or.inr ⟨_, hE2, Or.inl ⟨rfl, rfl⟩⟩, rfl⟩) dL_propose_16
    · have hW : CxB D (([(u0, .inl (aT 2, 1, .inr (.inl o)))] : va_W) ++ W9) A s.heap H _ := hW
      refine cx_catchT C hZ (nm := "java/lang/IllegalStateException") [⟨0, 10, 13, 13⟩] ⟨0, 10, 17, 15⟩ (tableOf []) htb (fun z hz => by
          simp only [List.mem_cons, List.not_mem_nil, or_false] at hz
          rcases hz with rfl
          · exact Or.inr ⟨by decide, "java/lang/IllegalArgumentException", gw_546, List.mem_of_getElem? (i := 3) rfl⟩) (by decide) (by decide) gw_547 nw_637 h7 h8 h9 ?_
      refine lv_astore (lv' := [(4, .ref q9), (0, .ref x0), (1, .int x), (2, .int y), (3, .ref u0)]) hx hb dL_propose_17 hl (by decide) rfl (fun ls hl => ?_)
      refine lv_iconst (v := nI 2) hx hb dL_propose_19 (by decide) ?_
      exact cx_tret C hr hlocks rfl hW ⟨Nat.le_of_ble_eq_true rfl, Nat.le_of_ble_eq_true rfl⟩ (⟨W9, _, Or.inr ⟨_, hE2, Or.inr (⟨rfl, rfl⟩)⟩, rfl⟩) dL_propose_20
theorem dL_amend_0 : decode cL_amend 0 = .ok (.aload 4, 2) := by decide +kernel
theorem dL_amend_2 : decode cL_amend 2 = .ok (.iconst 0, 1) := by decide +kernel
theorem dL_amend_3 : decode cL_amend 3 = .ok (.aload_n 0, 1) := by decide +kernel
theorem dL_amend_4 : decode cL_amend 4 = .ok (.iload_n 1, 1) := by decide +kernel
theorem dL_amend_5 : decode cL_amend 5 = .ok (.iload_n 2, 1) := by decide +kernel
theorem dL_amend_6 : decode cL_amend 6 = .ok (.iload_n 3, 1) := by decide +kernel
theorem dL_amend_7 : decode cL_amend 7 = .ok (.invokevirtual 21, 3) := by decide +kernel
theorem dL_amend_10 : decode cL_amend 10 = .ok (.i2l, 1) := by decide +kernel
theorem dL_amend_11 : decode cL_amend 11 = .ok (.lastore, 1) := by decide +kernel
theorem dL_amend_12 : decode cL_amend 12 = .ok (.goto 15, 3) := by decide +kernel
theorem dL_amend_15 : decode cL_amend 15 = .ok (.astore 5, 2) := by decide +kernel
theorem dL_amend_17 : decode cL_amend 17 = .ok (.iconst 1, 1) := by decide +kernel
theorem dL_amend_18 : decode cL_amend 18 = .ok (.ireturn, 1) := by decide +kernel
theorem dL_amend_19 : decode cL_amend 19 = .ok (.astore 5, 2) := by decide +kernel
theorem dL_amend_21 : decode cL_amend 21 = .ok (.iconst 2, 1) := by decide +kernel
theorem dL_amend_22 : decode cL_amend 22 = .ok (.ireturn, 1) := by decide +kernel
theorem dL_amend_23 : decode cL_amend 23 = .ok (.astore 5, 2) := by decide +kernel
theorem dL_amend_25 : decode cL_amend 25 = .ok (.iconst 3, 1) := by decide +kernel
theorem dL_amend_26 : decode cL_amend 26 = .ok (.ireturn, 1) := by decide +kernel
theorem dL_amend_27 : decode cL_amend 27 = .ok (.iconst 0, 1) := by decide +kernel
theorem dL_amend_28 : decode cL_amend 28 = .ok (.ireturn, 1) := by decide +kernel
theorem gV_L_X9_amend_21 : GoodIn gw (wsV RL 21 RX9 yX9_amend (Cond.code yX9_amend cX9_amend 5 (some .int) :: gw)) := gdV gw_691 gw_692 gw_693 gw_67 gw_694
theorem hV_X9_amend : yX9_amend.cls = RX9 ∧ yX9_amend.cls ≠ "java/lang/invoke/MethodHandle" ∧ yX9_amend.cls ≠ "java/lang/invoke/VarHandle" ∧ (parseMethodDescriptor yX9_amend.desc).map (fun d => d.parameters.length) = some 3 := ⟨rfl, by decide +kernel, by decide +kernel, by decide +kernel⟩
set_option maxHeartbeats 2000000 in
set_option maxRecDepth 20000 in
theorem k_L_amend (l : Launch) (hfl : l.stackTraces = false) (D : va_G) (aT : Nat → ClassId) (u0 : Nat) (o : Nat → Int64) (x0 : Nat) (v0 : Nat) (t0 : Nat) (p0 : Nat) (o0 : Nat) (sv : Bool) (le : Int32) (lf : Int32) (a0 : Nat) (a1 : Nat) (a2 : Nat) (a3 : Nat) (a4 : Nat) (a5 : Nat) (a6 : Nat) (a7 : Nat) (a8 : Nat) (a9 : Nat) (a10 : Nat) (bb : Nat → Nat → Int32) (nh : Nat) (nm : Nat) (M : Nat → Int32) (Bd : Nat) (hBd : Bd < 1048000) (hC : CoW M Bd) (hB : BlC bb nh nm M) (h0 : Nat) (h1 : Nat) (AD : Nat → Nat → Nat) (BB : Nat → Nat → Nat → Int32) (NH : Nat → Nat) (NM : Nat → Nat) (hc : Nat) (PR : Nat → Nat → Int32) (hHi : HiC BB NH NM hc PR Bd) (x : Int32) (y : Int32) (z : Int32) : CxT l yL_amend cL_amend 6 (some (.int)) [(0, 12, 15, 24), (0, 12, 19, 13), (0, 12, 23, 15)] 9 3 18 160 D aT [.ref x0, .int x, .int y, .int z, .ref u0] [(u0, .inl (aT 2, 1, .inr (.inl o))), (x0, .inr (12, [.ref a0, .ref v0, .ref h0, .ref t0, .ref p0, .ref o0, .int (bI sv), .int le, .int lf])), (a0, .inr (10, [.ref a1, .ref a5, .ref a10, .int (bb 8 1), .int (bb 8 2), .int (bb 8 3), .int (bb 8 4), .int (bb 8 5), .int (bb 8 6), .int (bb 8 7), .int (bb 8 8)])), (a1, .inr (6, [.ref a2, .ref a3, .ref a4, .int (nI nh)])), (a2, .inl (aT 0, 6, .inl (bb 0))), (a3, .inl (aT 0, 6, .inl (bb 1))), (a4, .inl (aT 0, 6, .inl (bb 2))), (a5, .inr (8, [.ref a6, .ref a7, .ref a8, .ref a9, .int (nI nm), .int (bb 8 0)])), (a6, .inl (aT 0, 12, .inl (bb 3))), (a7, .inl (aT 0, 12, .inl (bb 4))), (a8, .inl (aT 0, 12, .inl (bb 5))), (a9, .inl (aT 0, 12, .inl (bb 6))), (a10, .inl (aT 0, 4, .inl (bb 7))), (h0, .inr (7, [.ref h1, .int (nI hc)])), (h1, .inl (aT 5, 9, .inr (.inr (.inr (.inr (fun j => some (AD j 0))))))), (hk0 (AD 0) (BB 0)), (hk1 (AD 0) (NH 0)), (hk2 aT (AD 0) (BB 0)), (hk3 aT (AD 0) (BB 0)), (hk4 aT (AD 0) (BB 0)), (hk5 (AD 0) (BB 0) (NM 0)), (hk6 aT (AD 0) (BB 0)), (hk7 aT (AD 0) (BB 0)), (hk8 aT (AD 0) (BB 0)), (hk9 aT (AD 0) (BB 0)), (hk10 aT (AD 0) (BB 0)), (hk0 (AD 1) (BB 1)), (hk1 (AD 1) (NH 1)), (hk2 aT (AD 1) (BB 1)), (hk3 aT (AD 1) (BB 1)), (hk4 aT (AD 1) (BB 1)), (hk5 (AD 1) (BB 1) (NM 1)), (hk6 aT (AD 1) (BB 1)), (hk7 aT (AD 1) (BB 1)), (hk8 aT (AD 1) (BB 1)), (hk9 aT (AD 1) (BB 1)), (hk10 aT (AD 1) (BB 1)), (hk0 (AD 2) (BB 2)), (hk1 (AD 2) (NH 2)), (hk2 aT (AD 2) (BB 2)), (hk3 aT (AD 2) (BB 2)), (hk4 aT (AD 2) (BB 2)), (hk5 (AD 2) (BB 2) (NM 2)), (hk6 aT (AD 2) (BB 2)), (hk7 aT (AD 2) (BB 2)), (hk8 aT (AD 2) (BB 2)), (hk9 aT (AD 2) (BB 2)), (hk10 aT (AD 2) (BB 2)), (hk0 (AD 3) (BB 3)), (hk1 (AD 3) (NH 3)), (hk2 aT (AD 3) (BB 3)), (hk3 aT (AD 3) (BB 3)), (hk4 aT (AD 3) (BB 3)), (hk5 (AD 3) (BB 3) (NM 3)), (hk6 aT (AD 3) (BB 3)), (hk7 aT (AD 3) (BB 3)), (hk8 aT (AD 3) (BB 3)), (hk9 aT (AD 3) (BB 3)), (hk10 aT (AD 3) (BB 3)), (hk0 (AD 4) (BB 4)), (hk1 (AD 4) (NH 4)), (hk2 aT (AD 4) (BB 4)), (hk3 aT (AD 4) (BB 4)), (hk4 aT (AD 4) (BB 4)), (hk5 (AD 4) (BB 4) (NM 4)), (hk6 aT (AD 4) (BB 4)), (hk7 aT (AD 4) (BB 4)), (hk8 aT (AD 4) (BB 4)), (hk9 aT (AD 4) (BB 4)), (hk10 aT (AD 4) (BB 4)), (hk0 (AD 5) (BB 5)), (hk1 (AD 5) (NH 5)), (hk2 aT (AD 5) (BB 5)), (hk3 aT (AD 5) (BB 5)), (hk4 aT (AD 5) (BB 5)), (hk5 (AD 5) (BB 5) (NM 5)), (hk6 aT (AD 5) (BB 5)), (hk7 aT (AD 5) (BB 5)), (hk8 aT (AD 5) (BB 5)), (hk9 aT (AD 5) (BB 5)), (hk10 aT (AD 5) (BB 5)), (hk0 (AD 6) (BB 6)), (hk1 (AD 6) (NH 6)), (hk2 aT (AD 6) (BB 6)), (hk3 aT (AD 6) (BB 6)), (hk4 aT (AD 6) (BB 6)), (hk5 (AD 6) (BB 6) (NM 6)), (hk6 aT (AD 6) (BB 6)), (hk7 aT (AD 6) (BB 6)), (hk8 aT (AD 6) (BB 6)), (hk9 aT (AD 6) (BB 6)), (hk10 aT (AD 6) (BB 6)), (hk0 (AD 7) (BB 7)), (hk1 (AD 7) (NH 7)), (hk2 aT (AD 7) (BB 7)), (hk3 aT (AD 7) (BB 7)), (hk4 aT (AD 7) (BB 7)), (hk5 (AD 7) (BB 7) (NM 7)), (hk6 aT (AD 7) (BB 7)), (hk7 aT (AD 7) (BB 7)), (hk8 aT (AD 7) (BB 7)), (hk9 aT (AD 7) (BB 7)), (hk10 aT (AD 7) (BB 7)), (hk0 (AD 8) (BB 8)), (hk1 (AD 8) (NH 8)), (hk2 aT (AD 8) (BB 8)), (hk3 aT (AD 8) (BB 8)), (hk4 aT (AD 8) (BB 8)), (hk5 (AD 8) (BB 8) (NM 8)), (hk6 aT (AD 8) (BB 8)), (hk7 aT (AD 8) (BB 8)), (hk8 aT (AD 8) (BB 8)), (hk9 aT (AD 8) (BB 8)), (hk10 aT (AD 8) (BB 8))] (qI D aT (fun r W1 => ∃ (W2 : va_W) (o2 : Nat → Int64), ((∃ r0 : Int32, r = nI 0 ∧ o2 0 = r0.toInt64 ∧ (fun r W1 => ∃ (AD2 : Nat → Nat → Nat) (BB2 : Nat → Nat → Nat → Int32) (NH2 NM2 : Nat → Nat) (hc2 : Nat) (b2 : Nat → Nat → Int32), ((∃ q, fnd (fun k => M (29 + 4 * k)) x nm = some q) ∧ (rgB 0 9 y && rgB 1 20 z) = true ∧ nm < 12 ∧ r = M 1) ∧ BlC b2 (nh) (nm + 1) (addF M (nM M) x y z) ∧ hc2 = min hc 7 + 1 ∧ HiC BB2 NH2 NM2 hc2 (nxP PR hc M) Bd ∧ W1 = ([(x0, .inr (12, [.ref a0, .ref v0, .ref h0, .ref t0, .ref p0, .ref o0, .int (bI sv), .int le, .int lf])), (a0, .inr (10, [.ref a1, .ref a5, .ref a10, .int (b2 8 1), .int (b2 8 2), .int (b2 8 3), .int (b2 8 4), .int (b2 8 5), .int (b2 8 6), .int (b2 8 7), .int (b2 8 8)])), (a1, .inr (6, [.ref a2, .ref a3, .ref a4, .int (nI nh)])), (a2, .inl (aT 0, 6, .inl (b2 0))), (a3, .inl (aT 0, 6, .inl (b2 1))), (a4, .inl (aT 0, 6, .inl (b2 2))), (a5, .inr (8, [.ref a6, .ref a7, .ref a8, .ref a9, .int (nI (nm + 1)), .int (b2 8 0)])), (a6, .inl (aT 0, 12, .inl (b2 3))), (a7, .inl (aT 0, 12, .inl (b2 4))), (a8, .inl (aT 0, 12, .inl (b2 5))), (a9, .inl (aT 0, 12, .inl (b2 6))), (a10, .inl (aT 0, 4, .inl (b2 7))), (h0, .inr (7, [.ref h1, .int (nI hc2)])), (h1, .inl (aT 5, 9, .inr (.inr (.inr (.inr (fun j => some (AD2 j 0))))))), (hk0 (AD2 0) (BB2 0)), (hk1 (AD2 0) (NH2 0)), (hk2 aT (AD2 0) (BB2 0)), (hk3 aT (AD2 0) (BB2 0)), (hk4 aT (AD2 0) (BB2 0)), (hk5 (AD2 0) (BB2 0) (NM2 0)), (hk6 aT (AD2 0) (BB2 0)), (hk7 aT (AD2 0) (BB2 0)), (hk8 aT (AD2 0) (BB2 0)), (hk9 aT (AD2 0) (BB2 0)), (hk10 aT (AD2 0) (BB2 0)), (hk0 (AD2 1) (BB2 1)), (hk1 (AD2 1) (NH2 1)), (hk2 aT (AD2 1) (BB2 1)), (hk3 aT (AD2 1) (BB2 1)), (hk4 aT (AD2 1) (BB2 1)), (hk5 (AD2 1) (BB2 1) (NM2 1)), (hk6 aT (AD2 1) (BB2 1)), (hk7 aT (AD2 1) (BB2 1)), (hk8 aT (AD2 1) (BB2 1)), (hk9 aT (AD2 1) (BB2 1)), (hk10 aT (AD2 1) (BB2 1)), (hk0 (AD2 2) (BB2 2)), (hk1 (AD2 2) (NH2 2)), (hk2 aT (AD2 2) (BB2 2)), (hk3 aT (AD2 2) (BB2 2)), (hk4 aT (AD2 2) (BB2 2)), (hk5 (AD2 2) (BB2 2) (NM2 2)), (hk6 aT (AD2 2) (BB2 2)), (hk7 aT (AD2 2) (BB2 2)), (hk8 aT (AD2 2) (BB2 2)), (hk9 aT (AD2 2) (BB2 2)), (hk10 aT (AD2 2) (BB2 2)), (hk0 (AD2 3) (BB2 3)), (hk1 (AD2 3) (NH2 3)), (hk2 aT (AD2 3) (BB2 3)), (hk3 aT (AD2 3) (BB2 3)), (hk4 aT (AD2 3) (BB2 3)), (hk5 (AD2 3) (BB2 3) (NM2 3)), (hk6 aT (AD2 3) (BB2 3)), (hk7 aT (AD2 3) (BB2 3)), (hk8 aT (AD2 3) (BB2 3)), (hk9 aT (AD2 3) (BB2 3)), (hk10 aT (AD2 3) (BB2 3)), (hk0 (AD2 4) (BB2 4)), (hk1 (AD2 4) (NH2 4)), (hk2 aT (AD2 4) (BB2 4)), (hk3 aT (AD2 4) (BB2 4)), (hk4 aT (AD2 4) (BB2 4)), (hk5 (AD2 4) (BB2 4) (NM2 4)), (hk6 aT (AD2 4) (BB2 4)), (hk7 aT (AD2 4) (BB2 4)), (hk8 aT (AD2 4) (BB2 4)), (hk9 aT (AD2 4) (BB2 4)), (hk10 aT (AD2 4) (BB2 4)), (hk0 (AD2 5) (BB2 5)), (hk1 (AD2 5) (NH2 5)), (hk2 aT (AD2 5) (BB2 5)), (hk3 aT (AD2 5) (BB2 5)), (hk4 aT (AD2 5) (BB2 5)), (hk5 (AD2 5) (BB2 5) (NM2 5)), (hk6 aT (AD2 5) (BB2 5)), (hk7 aT (AD2 5) (BB2 5)), (hk8 aT (AD2 5) (BB2 5)), (hk9 aT (AD2 5) (BB2 5)), (hk10 aT (AD2 5) (BB2 5)), (hk0 (AD2 6) (BB2 6)), (hk1 (AD2 6) (NH2 6)), (hk2 aT (AD2 6) (BB2 6)), (hk3 aT (AD2 6) (BB2 6)), (hk4 aT (AD2 6) (BB2 6)), (hk5 (AD2 6) (BB2 6) (NM2 6)), (hk6 aT (AD2 6) (BB2 6)), (hk7 aT (AD2 6) (BB2 6)), (hk8 aT (AD2 6) (BB2 6)), (hk9 aT (AD2 6) (BB2 6)), (hk10 aT (AD2 6) (BB2 6)), (hk0 (AD2 7) (BB2 7)), (hk1 (AD2 7) (NH2 7)), (hk2 aT (AD2 7) (BB2 7)), (hk3 aT (AD2 7) (BB2 7)), (hk4 aT (AD2 7) (BB2 7)), (hk5 (AD2 7) (BB2 7) (NM2 7)), (hk6 aT (AD2 7) (BB2 7)), (hk7 aT (AD2 7) (BB2 7)), (hk8 aT (AD2 7) (BB2 7)), (hk9 aT (AD2 7) (BB2 7)), (hk10 aT (AD2 7) (BB2 7)), (hk0 (AD2 8) (BB2 8)), (hk1 (AD2 8) (NH2 8)), (hk2 aT (AD2 8) (BB2 8)), (hk3 aT (AD2 8) (BB2 8)), (hk4 aT (AD2 8) (BB2 8)), (hk5 (AD2 8) (BB2 8) (NM2 8)), (hk6 aT (AD2 8) (BB2 8)), (hk7 aT (AD2 8) (BB2 8)), (hk8 aT (AD2 8) (BB2 8)), (hk9 aT (AD2 8) (BB2 8)), (hk10 aT (AD2 8) (BB2 8))] : va_W)) r0 W2) ∨ (∃ E9 : String, (fun E W1 => ((E = "java/util/NoSuchElementException" ∧ fnd (fun k => M (29 + 4 * k)) x nm = none) ∨ ((∃ q, fnd (fun k => M (29 + 4 * k)) x nm = some q) ∧ ((E = "java/lang/IllegalArgumentException" ∧ (rgB 0 9 y && rgB 1 20 z) = false) ∨ (E = "java/lang/IllegalStateException" ∧ (rgB 0 9 y && rgB 1 20 z) = true ∧ nm = 12)))) ∧ ∃ (BB2 : Nat → Nat → Nat → Int32) (NH2 NM2 : Nat → Nat), HiC BB2 NH2 NM2 hc PR Bd ∧ W1 = ([(x0, .inr (12, [.ref a0, .ref v0, .ref h0, .ref t0, .ref p0, .ref o0, .int (bI sv), .int le, .int lf])), (a0, .inr (10, [.ref a1, .ref a5, .ref a10, .int (bb 8 1), .int (bb 8 2), .int (bb 8 3), .int (bb 8 4), .int (bb 8 5), .int (bb 8 6), .int (bb 8 7), .int (bb 8 8)])), (a1, .inr (6, [.ref a2, .ref a3, .ref a4, .int (nI nh)])), (a2, .inl (aT 0, 6, .inl (bb 0))), (a3, .inl (aT 0, 6, .inl (bb 1))), (a4, .inl (aT 0, 6, .inl (bb 2))), (a5, .inr (8, [.ref a6, .ref a7, .ref a8, .ref a9, .int (nI nm), .int (bb 8 0)])), (a6, .inl (aT 0, 12, .inl (bb 3))), (a7, .inl (aT 0, 12, .inl (bb 4))), (a8, .inl (aT 0, 12, .inl (bb 5))), (a9, .inl (aT 0, 12, .inl (bb 6))), (a10, .inl (aT 0, 4, .inl (bb 7))), (h0, .inr (7, [.ref h1, .int (nI hc)])), (h1, .inl (aT 5, 9, .inr (.inr (.inr (.inr (fun j => some (AD j 0))))))), (hk0 (AD 0) (BB2 0)), (hk1 (AD 0) (NH2 0)), (hk2 aT (AD 0) (BB2 0)), (hk3 aT (AD 0) (BB2 0)), (hk4 aT (AD 0) (BB2 0)), (hk5 (AD 0) (BB2 0) (NM2 0)), (hk6 aT (AD 0) (BB2 0)), (hk7 aT (AD 0) (BB2 0)), (hk8 aT (AD 0) (BB2 0)), (hk9 aT (AD 0) (BB2 0)), (hk10 aT (AD 0) (BB2 0)), (hk0 (AD 1) (BB2 1)), (hk1 (AD 1) (NH2 1)), (hk2 aT (AD 1) (BB2 1)), (hk3 aT (AD 1) (BB2 1)), (hk4 aT (AD 1) (BB2 1)), (hk5 (AD 1) (BB2 1) (NM2 1)), (hk6 aT (AD 1) (BB2 1)), (hk7 aT (AD 1) (BB2 1)), (hk8 aT (AD 1) (BB2 1)), (hk9 aT (AD 1) (BB2 1)), (hk10 aT (AD 1) (BB2 1)), (hk0 (AD 2) (BB2 2)), (hk1 (AD 2) (NH2 2)), (hk2 aT (AD 2) (BB2 2)), (hk3 aT (AD 2) (BB2 2)), (hk4 aT (AD 2) (BB2 2)), (hk5 (AD 2) (BB2 2) (NM2 2)), (hk6 aT (AD 2) (BB2 2)), (hk7 aT (AD 2) (BB2 2)), (hk8 aT (AD 2) (BB2 2)), (hk9 aT (AD 2) (BB2 2)), (hk10 aT (AD 2) (BB2 2)), (hk0 (AD 3) (BB2 3)), (hk1 (AD 3) (NH2 3)), (hk2 aT (AD 3) (BB2 3)), (hk3 aT (AD 3) (BB2 3)), (hk4 aT (AD 3) (BB2 3)), (hk5 (AD 3) (BB2 3) (NM2 3)), (hk6 aT (AD 3) (BB2 3)), (hk7 aT (AD 3) (BB2 3)), (hk8 aT (AD 3) (BB2 3)), (hk9 aT (AD 3) (BB2 3)), (hk10 aT (AD 3) (BB2 3)), (hk0 (AD 4) (BB2 4)), (hk1 (AD 4) (NH2 4)), (hk2 aT (AD 4) (BB2 4)), (hk3 aT (AD 4) (BB2 4)), (hk4 aT (AD 4) (BB2 4)), (hk5 (AD 4) (BB2 4) (NM2 4)), (hk6 aT (AD 4) (BB2 4)), (hk7 aT (AD 4) (BB2 4)), (hk8 aT (AD 4) (BB2 4)), (hk9 aT (AD 4) (BB2 4)), (hk10 aT (AD 4) (BB2 4)), (hk0 (AD 5) (BB2 5)), (hk1 (AD 5) (NH2 5)), (hk2 aT (AD 5) (BB2 5)), (hk3 aT (AD 5) (BB2 5)), (hk4 aT (AD 5) (BB2 5)), (hk5 (AD 5) (BB2 5) (NM2 5)), (hk6 aT (AD 5) (BB2 5)), (hk7 aT (AD 5) (BB2 5)), (hk8 aT (AD 5) (BB2 5)), (hk9 aT (AD 5) (BB2 5)), (hk10 aT (AD 5) (BB2 5)), (hk0 (AD 6) (BB2 6)), (hk1 (AD 6) (NH2 6)), (hk2 aT (AD 6) (BB2 6)), (hk3 aT (AD 6) (BB2 6)), (hk4 aT (AD 6) (BB2 6)), (hk5 (AD 6) (BB2 6) (NM2 6)), (hk6 aT (AD 6) (BB2 6)), (hk7 aT (AD 6) (BB2 6)), (hk8 aT (AD 6) (BB2 6)), (hk9 aT (AD 6) (BB2 6)), (hk10 aT (AD 6) (BB2 6)), (hk0 (AD 7) (BB2 7)), (hk1 (AD 7) (NH2 7)), (hk2 aT (AD 7) (BB2 7)), (hk3 aT (AD 7) (BB2 7)), (hk4 aT (AD 7) (BB2 7)), (hk5 (AD 7) (BB2 7) (NM2 7)), (hk6 aT (AD 7) (BB2 7)), (hk7 aT (AD 7) (BB2 7)), (hk8 aT (AD 7) (BB2 7)), (hk9 aT (AD 7) (BB2 7)), (hk10 aT (AD 7) (BB2 7)), (hk0 (AD 8) (BB2 8)), (hk1 (AD 8) (NH2 8)), (hk2 aT (AD 8) (BB2 8)), (hk3 aT (AD 8) (BB2 8)), (hk4 aT (AD 8) (BB2 8)), (hk5 (AD 8) (BB2 8) (NM2 8)), (hk6 aT (AD 8) (BB2 8)), (hk7 aT (AD 8) (BB2 8)), (hk8 aT (AD 8) (BB2 8)), (hk9 aT (AD 8) (BB2 8)), (hk10 aT (AD 8) (BB2 8))] : va_W)) E9 W2 ∧ ((E9 = "java/util/NoSuchElementException" ∧ r = nI 1) ∨ (E9 = "java/lang/IllegalArgumentException" ∧ r = nI 2) ∨ (E9 = "java/lang/IllegalStateException" ∧ r = nI 3)))) ∧ W1 = (([(u0, .inl (aT 2, 1, .inr (.inl o2)))] : va_W) ++ W2))) := by
  refine CxT.of RL (by decide +kernel) rfl (Nat.le_of_ble_eq_true rfl) ?_
  intro p e s m below meth c A ls C hml hl hA hr hlocks htb hZ hW
  have hl : lv_has ls 6 [(0, .ref x0), (1, .int x), (2, .int y), (3, .int z), (4, .ref u0)] := hl
  have hx := C.1
  have hb := C.2.1
  refine lv_aload hx hb dL_amend_0 (lv_at hl 4 rfl) ?_
  refine lv_iconst (v := nI 0) hx hb dL_amend_2 (by decide) ?_
  refine lv_aload_n hx hb dL_amend_3 rfl (lv_at hl 0 rfl) ?_
  refine lv_iload_n hx hb dL_amend_4 rfl (lv_at hl 1 rfl) ?_
  refine lv_iload_n hx hb dL_amend_5 rfl (lv_at hl 2 rfl) ?_
  refine lv_iload_n hx hb dL_amend_6 rfl (lv_at hl 3 rfl) ?_
  refine cx_calli (cx_runV C hml hl.1 hZ hW hA (As := [.int x, .int y, .int z]) (rest := [.int (nI 0), .ref u0]) (k_X9_amend l hfl D aT x0 v0 t0 p0 o0 sv le lf a0 a1 a2 a3 a4 a5 a6 a7 a8 a9 a10 bb nh nm M Bd hBd hC hB h0 h1 AD BB NH NM hc PR hHi x y z) gV_L_X9_amend_21 hV_X9_amend rfl ⟨Nat.le_of_ble_eq_true rfl, Nat.le_of_ble_eq_true rfl⟩ ⟨Nat.le_of_ble_eq_true rfl, Nat.le_of_ble_eq_true rfl⟩ [1, 2, 3, 4, 5, 6, 7, 8, 9, 10, 11, 12, 13, 14, 15, 16, 17, 18, 19, 20, 21, 22, 23, 24, 25, 26, 27, 28, 29, 30, 31, 32, 33, 34, 35, 36, 37, 38, 39, 40, 41, 42, 43, 44, 45, 46, 47, 48, 49, 50, 51, 52, 53, 54, 55, 56, 57, 58, 59, 60, 61, 62, 63, 64, 65, 66, 67, 68, 69, 70, 71, 72, 73, 74, 75, 76, 77, 78, 79, 80, 81, 82, 83, 84, 85, 86, 87, 88, 89, 90, 91, 92, 93, 94, 95, 96, 97, 98, 99, 100, 101, 102, 103, 104, 105, 106, 107, 108, 109, 110, 111, 112, 113] (pk_h [(1, 113)] 114 (by exact rfl) (by decide +kernel) (by decide +kernel) (by exact rfl)) (by decide +kernel) 1 12 rfl rfl rfl rfl (Nat.le_of_ble_eq_true rfl) dL_amend_7) hW hA [1, 2, 3, 4, 5, 6, 7, 8, 9, 10, 11, 12, 13, 14, 15, 16, 17, 18, 19, 20, 21, 22, 23, 24, 25, 26, 27, 28, 29, 30, 31, 32, 33, 34, 35, 36, 37, 38, 39, 40, 41, 42, 43, 44, 45, 46, 47, 48, 49, 50, 51, 52, 53, 54, 55, 56, 57, 58, 59, 60, 61, 62, 63, 64, 65, 66, 67, 68, 69, 70, 71, 72, 73, 74, 75, 76, 77, 78, 79, 80, 81, 82, 83, 84, 85, 86, 87, 88, 89, 90, 91, 92, 93, 94, 95, 96, 97, 98, 99, 100, 101, 102, 103, 104, 105, 106, 107, 108, 109, 110, 111, 112, 113] [0] (pk_h [(1, 113)] 114 (by exact rfl) (by decide +kernel) (by decide +kernel) (by exact rfl)) (pk_g [(0, 1)] 114 (by exact rfl) (by decide +kernel) (by decide +kernel)) (by decide +kernel) (by decide +kernel) ?_ (fun r_7 W_7 H locs hq hW => ?_)
  rotate_left
  obtain hq := hq
  have hW : CxB D (([(u0, .inl (aT 2, 1, .inr (.inl o)))] : va_W) ++ W_7) A s.heap H _ := hW
  refine lv_i2l (v := (r_7).toInt64) hx hb dL_amend_10 rfl ?_
  refine cx_last C hW 0 2 (j := 0) (W1 := (([(u0, .inl (aT 2, 1, .inr (.inl (vp_updL o 0 ((r_7).toInt64)))))] : va_W) ++ W_7)) rfl rfl rfl (by omega) (by decide) rfl dL_amend_11 (fun H locs hW => ?_)
  refine lv_goto (tgt := 27) hx hb dL_amend_12 (by decide) ?_
  refine lv_iconst (v := nI 0) hx hb dL_amend_27 (by decide) ?_
  exact cx_tret C hr hlocks rfl hW ⟨Nat.le_of_ble_eq_true rfl, Nat.le_of_ble_eq_true rfl⟩ (⟨W_7, _, Or.inl ⟨r_7, rfl, rfl, hq⟩, rfl⟩) dL_amend_28
  · intro E ce q9 W9 H locs hE hW h7 h8 h9
    have hE2 := hE
    rcases (show E = "java/util/NoSuchElementException" ∨ E = "java/lang/IllegalArgumentException" ∨ E = "java/lang/IllegalStateException" from by
      clear hW
      revert hE
      grind) with rfl | rfl | rfl
    · have hW : CxB D (([(u0, .inl (aT 2, 1, .inr (.inl o)))] : va_W) ++ W9) A s.heap H _ := hW
      refine cx_catchT C hZ (nm := "java/util/NoSuchElementException") [] ⟨0, 12, 15, 24⟩ (tableOf [(0, 12, 19, 13), (0, 12, 23, 15)]) htb (fun z hz => by cases hz) (by decide) (by decide) gw_690 nw_705 h7 h8 h9 ?_
      refine lv_astore (lv' := [(5, .ref q9), (0, .ref x0), (1, .int x), (2, .int y), (3, .int z), (4, .ref u0)]) hx hb dL_amend_15 hl (by decide) rfl (fun ls hl => ?_)
      refine lv_iconst (v := nI 1) hx hb dL_amend_17 (by decide) ?_
      exact cx_tret C hr hlocks rfl hW ⟨Nat.le_of_ble_eq_true rfl, Nat.le_of_ble_eq_true rfl⟩ (⟨W9, _, Or.inr ⟨_, hE2, Or.inl ⟨rfl, rfl⟩⟩, rfl⟩) dL_amend_18
    · have hW : CxB D (([(u0, .inl (aT 2, 1, .inr (.inl o)))] : va_W) ++ W9) A s.heap H _ := hW
      refine cx_catchT C hZ (nm := "java/lang/IllegalArgumentException") [⟨0, 12, 15, 24⟩] ⟨0, 12, 19, 13⟩ (tableOf [(0, 12, 23, 15)]) htb (fun z hz => by
          simp only [List.mem_cons, List.not_mem_nil, or_false] at hz
          rcases hz with rfl
          · exact Or.inr ⟨by decide, "java/util/NoSuchElementException", gw_690, List.mem_of_getElem? (i := 0) rfl⟩) (by decide) (by decide) gw_546 nw_561 h7 h8 h9 ?_
      refine lv_astore (lv' := [(5, .ref q9), (0, .ref x0), (1, .int x), (2, .int y), (3, .int z), (4, .ref u0)]) hx hb dL_amend_19 hl (by decide) rfl (fun ls hl => ?_)
      refine lv_iconst (v := nI 2) hx hb dL_amend_21 (by decide) ?_
      exact cx_tret C hr hlocks rfl hW ⟨Nat.le_of_ble_eq_true rfl, Nat.le_of_ble_eq_true rfl⟩ (⟨W9, _, Or.inr ⟨_, hE2, Or.inr (Or.inl ⟨rfl, rfl⟩)⟩, rfl⟩) dL_amend_22
    · have hW : CxB D (([(u0, .inl (aT 2, 1, .inr (.inl o)))] : va_W) ++ W9) A s.heap H _ := hW
      refine cx_catchT C hZ (nm := "java/lang/IllegalStateException") [⟨0, 12, 15, 24⟩, ⟨0, 12, 19, 13⟩] ⟨0, 12, 23, 15⟩ (tableOf []) htb (fun z hz => by
          simp only [List.mem_cons, List.not_mem_nil, or_false] at hz
          rcases hz with rfl | rfl
          · exact Or.inr ⟨by decide, "java/util/NoSuchElementException", gw_690, List.mem_of_getElem? (i := 1) rfl⟩
          · exact Or.inr ⟨by decide, "java/lang/IllegalArgumentException", gw_546, List.mem_of_getElem? (i := 3) rfl⟩) (by decide) (by decide) gw_547 nw_637 h7 h8 h9 ?_
      refine lv_astore (lv' := [(5, .ref q9), (0, .ref x0), (1, .int x), (2, .int y), (3, .int z), (4, .ref u0)]) hx hb dL_amend_23 hl (by decide) rfl (fun ls hl => ?_)
      refine lv_iconst (v := nI 3) hx hb dL_amend_25 (by decide) ?_
      exact cx_tret C hr hlocks rfl hW ⟨Nat.le_of_ble_eq_true rfl, Nat.le_of_ble_eq_true rfl⟩ (⟨W9, _, Or.inr ⟨_, hE2, Or.inr (Or.inr (⟨rfl, rfl⟩))⟩, rfl⟩) dL_amend_26
theorem dL_prune_0 : decode cL_prune 0 = .ok (.aload_n 3, 1) := by decide +kernel
theorem dL_prune_1 : decode cL_prune 1 = .ok (.iconst 0, 1) := by decide +kernel
theorem dL_prune_2 : decode cL_prune 2 = .ok (.aload_n 0, 1) := by decide +kernel
theorem dL_prune_3 : decode cL_prune 3 = .ok (.iload_n 1, 1) := by decide +kernel
theorem dL_prune_4 : decode cL_prune 4 = .ok (.iload_n 2, 1) := by decide +kernel
theorem dL_prune_5 : decode cL_prune 5 = .ok (.invokevirtual 26, 3) := by decide +kernel
theorem dL_prune_8 : decode cL_prune 8 = .ok (.i2l, 1) := by decide +kernel
theorem dL_prune_9 : decode cL_prune 9 = .ok (.lastore, 1) := by decide +kernel
theorem dL_prune_10 : decode cL_prune 10 = .ok (.goto 11, 3) := by decide +kernel
theorem dL_prune_13 : decode cL_prune 13 = .ok (.astore 4, 2) := by decide +kernel
theorem dL_prune_15 : decode cL_prune 15 = .ok (.iconst 1, 1) := by decide +kernel
theorem dL_prune_16 : decode cL_prune 16 = .ok (.ireturn, 1) := by decide +kernel
theorem dL_prune_17 : decode cL_prune 17 = .ok (.astore 4, 2) := by decide +kernel
theorem dL_prune_19 : decode cL_prune 19 = .ok (.iconst 2, 1) := by decide +kernel
theorem dL_prune_20 : decode cL_prune 20 = .ok (.ireturn, 1) := by decide +kernel
theorem dL_prune_21 : decode cL_prune 21 = .ok (.iconst 0, 1) := by decide +kernel
theorem dL_prune_22 : decode cL_prune 22 = .ok (.ireturn, 1) := by decide +kernel
theorem gV_L_X9_prune_26 : GoodIn gw (wsV RL 26 RX9 yX9_prune (Cond.code yX9_prune cX9_prune 4 (some .int) :: gw)) := gdV gw_722 gw_723 gw_724 gw_67 gw_725
theorem hV_X9_prune : yX9_prune.cls = RX9 ∧ yX9_prune.cls ≠ "java/lang/invoke/MethodHandle" ∧ yX9_prune.cls ≠ "java/lang/invoke/VarHandle" ∧ (parseMethodDescriptor yX9_prune.desc).map (fun d => d.parameters.length) = some 2 := ⟨rfl, by decide +kernel, by decide +kernel, by decide +kernel⟩
set_option maxHeartbeats 2000000 in
set_option maxRecDepth 20000 in
theorem k_L_prune (l : Launch) (hfl : l.stackTraces = false) (D : va_G) (aT : Nat → ClassId) (u0 : Nat) (o : Nat → Int64) (x0 : Nat) (v0 : Nat) (t0 : Nat) (p0 : Nat) (o0 : Nat) (sv : Bool) (le : Int32) (lf : Int32) (a0 : Nat) (a1 : Nat) (a2 : Nat) (a3 : Nat) (a4 : Nat) (a5 : Nat) (a6 : Nat) (a7 : Nat) (a8 : Nat) (a9 : Nat) (a10 : Nat) (bb : Nat → Nat → Int32) (nh : Nat) (nm : Nat) (M : Nat → Int32) (Bd : Nat) (hBd : Bd < 1048000) (hC : CoW M Bd) (hB : BlC bb nh nm M) (h0 : Nat) (h1 : Nat) (AD : Nat → Nat → Nat) (BB : Nat → Nat → Nat → Int32) (NH : Nat → Nat) (NM : Nat → Nat) (hc : Nat) (PR : Nat → Nat → Int32) (hHi : HiC BB NH NM hc PR Bd) (x : Int32) (y : Int32) : CxT l yL_prune cL_prune 5 (some (.int)) [(0, 10, 13, 24), (0, 10, 17, 13)] 9 2 12 161 D aT [.ref x0, .int x, .int y, .ref u0] [(u0, .inl (aT 2, 1, .inr (.inl o))), (x0, .inr (12, [.ref a0, .ref v0, .ref h0, .ref t0, .ref p0, .ref o0, .int (bI sv), .int le, .int lf])), (a0, .inr (10, [.ref a1, .ref a5, .ref a10, .int (bb 8 1), .int (bb 8 2), .int (bb 8 3), .int (bb 8 4), .int (bb 8 5), .int (bb 8 6), .int (bb 8 7), .int (bb 8 8)])), (a1, .inr (6, [.ref a2, .ref a3, .ref a4, .int (nI nh)])), (a2, .inl (aT 0, 6, .inl (bb 0))), (a3, .inl (aT 0, 6, .inl (bb 1))), (a4, .inl (aT 0, 6, .inl (bb 2))), (a5, .inr (8, [.ref a6, .ref a7, .ref a8, .ref a9, .int (nI nm), .int (bb 8 0)])), (a6, .inl (aT 0, 12, .inl (bb 3))), (a7, .inl (aT 0, 12, .inl (bb 4))), (a8, .inl (aT 0, 12, .inl (bb 5))), (a9, .inl (aT 0, 12, .inl (bb 6))), (a10, .inl (aT 0, 4, .inl (bb 7))), (h0, .inr (7, [.ref h1, .int (nI hc)])), (h1, .inl (aT 5, 9, .inr (.inr (.inr (.inr (fun j => some (AD j 0))))))), (hk0 (AD 0) (BB 0)), (hk1 (AD 0) (NH 0)), (hk2 aT (AD 0) (BB 0)), (hk3 aT (AD 0) (BB 0)), (hk4 aT (AD 0) (BB 0)), (hk5 (AD 0) (BB 0) (NM 0)), (hk6 aT (AD 0) (BB 0)), (hk7 aT (AD 0) (BB 0)), (hk8 aT (AD 0) (BB 0)), (hk9 aT (AD 0) (BB 0)), (hk10 aT (AD 0) (BB 0)), (hk0 (AD 1) (BB 1)), (hk1 (AD 1) (NH 1)), (hk2 aT (AD 1) (BB 1)), (hk3 aT (AD 1) (BB 1)), (hk4 aT (AD 1) (BB 1)), (hk5 (AD 1) (BB 1) (NM 1)), (hk6 aT (AD 1) (BB 1)), (hk7 aT (AD 1) (BB 1)), (hk8 aT (AD 1) (BB 1)), (hk9 aT (AD 1) (BB 1)), (hk10 aT (AD 1) (BB 1)), (hk0 (AD 2) (BB 2)), (hk1 (AD 2) (NH 2)), (hk2 aT (AD 2) (BB 2)), (hk3 aT (AD 2) (BB 2)), (hk4 aT (AD 2) (BB 2)), (hk5 (AD 2) (BB 2) (NM 2)), (hk6 aT (AD 2) (BB 2)), (hk7 aT (AD 2) (BB 2)), (hk8 aT (AD 2) (BB 2)), (hk9 aT (AD 2) (BB 2)), (hk10 aT (AD 2) (BB 2)), (hk0 (AD 3) (BB 3)), (hk1 (AD 3) (NH 3)), (hk2 aT (AD 3) (BB 3)), (hk3 aT (AD 3) (BB 3)), (hk4 aT (AD 3) (BB 3)), (hk5 (AD 3) (BB 3) (NM 3)), (hk6 aT (AD 3) (BB 3)), (hk7 aT (AD 3) (BB 3)), (hk8 aT (AD 3) (BB 3)), (hk9 aT (AD 3) (BB 3)), (hk10 aT (AD 3) (BB 3)), (hk0 (AD 4) (BB 4)), (hk1 (AD 4) (NH 4)), (hk2 aT (AD 4) (BB 4)), (hk3 aT (AD 4) (BB 4)), (hk4 aT (AD 4) (BB 4)), (hk5 (AD 4) (BB 4) (NM 4)), (hk6 aT (AD 4) (BB 4)), (hk7 aT (AD 4) (BB 4)), (hk8 aT (AD 4) (BB 4)), (hk9 aT (AD 4) (BB 4)), (hk10 aT (AD 4) (BB 4)), (hk0 (AD 5) (BB 5)), (hk1 (AD 5) (NH 5)), (hk2 aT (AD 5) (BB 5)), (hk3 aT (AD 5) (BB 5)), (hk4 aT (AD 5) (BB 5)), (hk5 (AD 5) (BB 5) (NM 5)), (hk6 aT (AD 5) (BB 5)), (hk7 aT (AD 5) (BB 5)), (hk8 aT (AD 5) (BB 5)), (hk9 aT (AD 5) (BB 5)), (hk10 aT (AD 5) (BB 5)), (hk0 (AD 6) (BB 6)), (hk1 (AD 6) (NH 6)), (hk2 aT (AD 6) (BB 6)), (hk3 aT (AD 6) (BB 6)), (hk4 aT (AD 6) (BB 6)), (hk5 (AD 6) (BB 6) (NM 6)), (hk6 aT (AD 6) (BB 6)), (hk7 aT (AD 6) (BB 6)), (hk8 aT (AD 6) (BB 6)), (hk9 aT (AD 6) (BB 6)), (hk10 aT (AD 6) (BB 6)), (hk0 (AD 7) (BB 7)), (hk1 (AD 7) (NH 7)), (hk2 aT (AD 7) (BB 7)), (hk3 aT (AD 7) (BB 7)), (hk4 aT (AD 7) (BB 7)), (hk5 (AD 7) (BB 7) (NM 7)), (hk6 aT (AD 7) (BB 7)), (hk7 aT (AD 7) (BB 7)), (hk8 aT (AD 7) (BB 7)), (hk9 aT (AD 7) (BB 7)), (hk10 aT (AD 7) (BB 7)), (hk0 (AD 8) (BB 8)), (hk1 (AD 8) (NH 8)), (hk2 aT (AD 8) (BB 8)), (hk3 aT (AD 8) (BB 8)), (hk4 aT (AD 8) (BB 8)), (hk5 (AD 8) (BB 8) (NM 8)), (hk6 aT (AD 8) (BB 8)), (hk7 aT (AD 8) (BB 8)), (hk8 aT (AD 8) (BB 8)), (hk9 aT (AD 8) (BB 8)), (hk10 aT (AD 8) (BB 8))] (qI D aT (fun r W1 => ∃ (W2 : va_W) (o2 : Nat → Int64), ((∃ r0 : Int32, r = nI 0 ∧ o2 0 = r0.toInt64 ∧ (fun r W1 => ∃ (q v n2 : Nat) (AD2 : Nat → Nat → Nat) (BB2 : Nat → Nat → Nat → Int32) (NH2 NM2 : Nat → Nat) (hc2 : Nat) (b2 : Nat → Nat → Int32), (fnd (fun k => M (29 + 4 * k)) x nm = some q ∧ y = nI v ∧ v ≤ 9 ∧ rgB 0 9 y = true ∧ r = nI (prnR M q v).2) ∧ BlC b2 (nh) (n2) (prnR M q v).1 ∧ hc2 = min hc 7 + 1 ∧ HiC BB2 NH2 NM2 hc2 (nxP PR hc M) Bd ∧ W1 = ([(x0, .inr (12, [.ref a0, .ref v0, .ref h0, .ref t0, .ref p0, .ref o0, .int (bI sv), .int le, .int lf])), (a0, .inr (10, [.ref a1, .ref a5, .ref a10, .int (b2 8 1), .int (b2 8 2), .int (b2 8 3), .int (b2 8 4), .int (b2 8 5), .int (b2 8 6), .int (b2 8 7), .int (b2 8 8)])), (a1, .inr (6, [.ref a2, .ref a3, .ref a4, .int (nI nh)])), (a2, .inl (aT 0, 6, .inl (b2 0))), (a3, .inl (aT 0, 6, .inl (b2 1))), (a4, .inl (aT 0, 6, .inl (b2 2))), (a5, .inr (8, [.ref a6, .ref a7, .ref a8, .ref a9, .int (nI n2), .int (b2 8 0)])), (a6, .inl (aT 0, 12, .inl (b2 3))), (a7, .inl (aT 0, 12, .inl (b2 4))), (a8, .inl (aT 0, 12, .inl (b2 5))), (a9, .inl (aT 0, 12, .inl (b2 6))), (a10, .inl (aT 0, 4, .inl (b2 7))), (h0, .inr (7, [.ref h1, .int (nI hc2)])), (h1, .inl (aT 5, 9, .inr (.inr (.inr (.inr (fun j => some (AD2 j 0))))))), (hk0 (AD2 0) (BB2 0)), (hk1 (AD2 0) (NH2 0)), (hk2 aT (AD2 0) (BB2 0)), (hk3 aT (AD2 0) (BB2 0)), (hk4 aT (AD2 0) (BB2 0)), (hk5 (AD2 0) (BB2 0) (NM2 0)), (hk6 aT (AD2 0) (BB2 0)), (hk7 aT (AD2 0) (BB2 0)), (hk8 aT (AD2 0) (BB2 0)), (hk9 aT (AD2 0) (BB2 0)), (hk10 aT (AD2 0) (BB2 0)), (hk0 (AD2 1) (BB2 1)), (hk1 (AD2 1) (NH2 1)), (hk2 aT (AD2 1) (BB2 1)), (hk3 aT (AD2 1) (BB2 1)), (hk4 aT (AD2 1) (BB2 1)), (hk5 (AD2 1) (BB2 1) (NM2 1)), (hk6 aT (AD2 1) (BB2 1)), (hk7 aT (AD2 1) (BB2 1)), (hk8 aT (AD2 1) (BB2 1)), (hk9 aT (AD2 1) (BB2 1)), (hk10 aT (AD2 1) (BB2 1)), (hk0 (AD2 2) (BB2 2)), (hk1 (AD2 2) (NH2 2)), (hk2 aT (AD2 2) (BB2 2)), (hk3 aT (AD2 2) (BB2 2)), (hk4 aT (AD2 2) (BB2 2)), (hk5 (AD2 2) (BB2 2) (NM2 2)), (hk6 aT (AD2 2) (BB2 2)), (hk7 aT (AD2 2) (BB2 2)), (hk8 aT (AD2 2) (BB2 2)), (hk9 aT (AD2 2) (BB2 2)), (hk10 aT (AD2 2) (BB2 2)), (hk0 (AD2 3) (BB2 3)), (hk1 (AD2 3) (NH2 3)), (hk2 aT (AD2 3) (BB2 3)), (hk3 aT (AD2 3) (BB2 3)), (hk4 aT (AD2 3) (BB2 3)), (hk5 (AD2 3) (BB2 3) (NM2 3)), (hk6 aT (AD2 3) (BB2 3)), (hk7 aT (AD2 3) (BB2 3)), (hk8 aT (AD2 3) (BB2 3)), (hk9 aT (AD2 3) (BB2 3)), (hk10 aT (AD2 3) (BB2 3)), (hk0 (AD2 4) (BB2 4)), (hk1 (AD2 4) (NH2 4)), (hk2 aT (AD2 4) (BB2 4)), (hk3 aT (AD2 4) (BB2 4)), (hk4 aT (AD2 4) (BB2 4)), (hk5 (AD2 4) (BB2 4) (NM2 4)), (hk6 aT (AD2 4) (BB2 4)), (hk7 aT (AD2 4) (BB2 4)), (hk8 aT (AD2 4) (BB2 4)), (hk9 aT (AD2 4) (BB2 4)), (hk10 aT (AD2 4) (BB2 4)), (hk0 (AD2 5) (BB2 5)), (hk1 (AD2 5) (NH2 5)), (hk2 aT (AD2 5) (BB2 5)), (hk3 aT (AD2 5) (BB2 5)), (hk4 aT (AD2 5) (BB2 5)), (hk5 (AD2 5) (BB2 5) (NM2 5)), (hk6 aT (AD2 5) (BB2 5)), (hk7 aT (AD2 5) (BB2 5)), (hk8 aT (AD2 5) (BB2 5)), (hk9 aT (AD2 5) (BB2 5)), (hk10 aT (AD2 5) (BB2 5)), (hk0 (AD2 6) (BB2 6)), (hk1 (AD2 6) (NH2 6)), (hk2 aT (AD2 6) (BB2 6)), (hk3 aT (AD2 6) (BB2 6)), (hk4 aT (AD2 6) (BB2 6)), (hk5 (AD2 6) (BB2 6) (NM2 6)), (hk6 aT (AD2 6) (BB2 6)), (hk7 aT (AD2 6) (BB2 6)), (hk8 aT (AD2 6) (BB2 6)), (hk9 aT (AD2 6) (BB2 6)), (hk10 aT (AD2 6) (BB2 6)), (hk0 (AD2 7) (BB2 7)), (hk1 (AD2 7) (NH2 7)), (hk2 aT (AD2 7) (BB2 7)), (hk3 aT (AD2 7) (BB2 7)), (hk4 aT (AD2 7) (BB2 7)), (hk5 (AD2 7) (BB2 7) (NM2 7)), (hk6 aT (AD2 7) (BB2 7)), (hk7 aT (AD2 7) (BB2 7)), (hk8 aT (AD2 7) (BB2 7)), (hk9 aT (AD2 7) (BB2 7)), (hk10 aT (AD2 7) (BB2 7)), (hk0 (AD2 8) (BB2 8)), (hk1 (AD2 8) (NH2 8)), (hk2 aT (AD2 8) (BB2 8)), (hk3 aT (AD2 8) (BB2 8)), (hk4 aT (AD2 8) (BB2 8)), (hk5 (AD2 8) (BB2 8) (NM2 8)), (hk6 aT (AD2 8) (BB2 8)), (hk7 aT (AD2 8) (BB2 8)), (hk8 aT (AD2 8) (BB2 8)), (hk9 aT (AD2 8) (BB2 8)), (hk10 aT (AD2 8) (BB2 8))] : va_W)) r0 W2) ∨ (∃ E9 : String, (fun E W1 => ((E = "java/util/NoSuchElementException" ∧ fnd (fun k => M (29 + 4 * k)) x nm = none) ∨ ((∃ q, fnd (fun k => M (29 + 4 * k)) x nm = some q) ∧ E = "java/lang/IllegalArgumentException" ∧ rgB 0 9 y = false)) ∧ ∃ (BB2 : Nat → Nat → Nat → Int32) (NH2 NM2 : Nat → Nat), HiC BB2 NH2 NM2 hc PR Bd ∧ W1 = ([(x0, .inr (12, [.ref a0, .ref v0, .ref h0, .ref t0, .ref p0, .ref o0, .int (bI sv), .int le, .int lf])), (a0, .inr (10, [.ref a1, .ref a5, .ref a10, .int (bb 8 1), .int (bb 8 2), .int (bb 8 3), .int (bb 8 4), .int (bb 8 5), .int (bb 8 6), .int (bb 8 7), .int (bb 8 8)])), (a1, .inr (6, [.ref a2, .ref a3, .ref a4, .int (nI nh)])), (a2, .inl (aT 0, 6, .inl (bb 0))), (a3, .inl (aT 0, 6, .inl (bb 1))), (a4, .inl (aT 0, 6, .inl (bb 2))), (a5, .inr (8, [.ref a6, .ref a7, .ref a8, .ref a9, .int (nI nm), .int (bb 8 0)])), (a6, .inl (aT 0, 12, .inl (bb 3))), (a7, .inl (aT 0, 12, .inl (bb 4))), (a8, .inl (aT 0, 12, .inl (bb 5))), (a9, .inl (aT 0, 12, .inl (bb 6))), (a10, .inl (aT 0, 4, .inl (bb 7))), (h0, .inr (7, [.ref h1, .int (nI hc)])), (h1, .inl (aT 5, 9, .inr (.inr (.inr (.inr (fun j => some (AD j 0))))))), (hk0 (AD 0) (BB2 0)), (hk1 (AD 0) (NH2 0)), (hk2 aT (AD 0) (BB2 0)), (hk3 aT (AD 0) (BB2 0)), (hk4 aT (AD 0) (BB2 0)), (hk5 (AD 0) (BB2 0) (NM2 0)), (hk6 aT (AD 0) (BB2 0)), (hk7 aT (AD 0) (BB2 0)), (hk8 aT (AD 0) (BB2 0)), (hk9 aT (AD 0) (BB2 0)), (hk10 aT (AD 0) (BB2 0)), (hk0 (AD 1) (BB2 1)), (hk1 (AD 1) (NH2 1)), (hk2 aT (AD 1) (BB2 1)), (hk3 aT (AD 1) (BB2 1)), (hk4 aT (AD 1) (BB2 1)), (hk5 (AD 1) (BB2 1) (NM2 1)), (hk6 aT (AD 1) (BB2 1)), (hk7 aT (AD 1) (BB2 1)), (hk8 aT (AD 1) (BB2 1)), (hk9 aT (AD 1) (BB2 1)), (hk10 aT (AD 1) (BB2 1)), (hk0 (AD 2) (BB2 2)), (hk1 (AD 2) (NH2 2)), (hk2 aT (AD 2) (BB2 2)), (hk3 aT (AD 2) (BB2 2)), (hk4 aT (AD 2) (BB2 2)), (hk5 (AD 2) (BB2 2) (NM2 2)), (hk6 aT (AD 2) (BB2 2)), (hk7 aT (AD 2) (BB2 2)), (hk8 aT (AD 2) (BB2 2)), (hk9 aT (AD 2) (BB2 2)), (hk10 aT (AD 2) (BB2 2)), (hk0 (AD 3) (BB2 3)), (hk1 (AD 3) (NH2 3)), (hk2 aT (AD 3) (BB2 3)), (hk3 aT (AD 3) (BB2 3)), (hk4 aT (AD 3) (BB2 3)), (hk5 (AD 3) (BB2 3) (NM2 3)), (hk6 aT (AD 3) (BB2 3)), (hk7 aT (AD 3) (BB2 3)), (hk8 aT (AD 3) (BB2 3)), (hk9 aT (AD 3) (BB2 3)), (hk10 aT (AD 3) (BB2 3)), (hk0 (AD 4) (BB2 4)), (hk1 (AD 4) (NH2 4)), (hk2 aT (AD 4) (BB2 4)), (hk3 aT (AD 4) (BB2 4)), (hk4 aT (AD 4) (BB2 4)), (hk5 (AD 4) (BB2 4) (NM2 4)), (hk6 aT (AD 4) (BB2 4)), (hk7 aT (AD 4) (BB2 4)), (hk8 aT (AD 4) (BB2 4)), (hk9 aT (AD 4) (BB2 4)), (hk10 aT (AD 4) (BB2 4)), (hk0 (AD 5) (BB2 5)), (hk1 (AD 5) (NH2 5)), (hk2 aT (AD 5) (BB2 5)), (hk3 aT (AD 5) (BB2 5)), (hk4 aT (AD 5) (BB2 5)), (hk5 (AD 5) (BB2 5) (NM2 5)), (hk6 aT (AD 5) (BB2 5)), (hk7 aT (AD 5) (BB2 5)), (hk8 aT (AD 5) (BB2 5)), (hk9 aT (AD 5) (BB2 5)), (hk10 aT (AD 5) (BB2 5)), (hk0 (AD 6) (BB2 6)), (hk1 (AD 6) (NH2 6)), (hk2 aT (AD 6) (BB2 6)), (hk3 aT (AD 6) (BB2 6)), (hk4 aT (AD 6) (BB2 6)), (hk5 (AD 6) (BB2 6) (NM2 6)), (hk6 aT (AD 6) (BB2 6)), (hk7 aT (AD 6) (BB2 6)), (hk8 aT (AD 6) (BB2 6)), (hk9 aT (AD 6) (BB2 6)), (hk10 aT (AD 6) (BB2 6)), (hk0 (AD 7) (BB2 7)), (hk1 (AD 7) (NH2 7)), (hk2 aT (AD 7) (BB2 7)), (hk3 aT (AD 7) (BB2 7)), (hk4 aT (AD 7) (BB2 7)), (hk5 (AD 7) (BB2 7) (NM2 7)), (hk6 aT (AD 7) (BB2 7)), (hk7 aT (AD 7) (BB2 7)), (hk8 aT (AD 7) (BB2 7)), (hk9 aT (AD 7) (BB2 7)), (hk10 aT (AD 7) (BB2 7)), (hk0 (AD 8) (BB2 8)), (hk1 (AD 8) (NH2 8)), (hk2 aT (AD 8) (BB2 8)), (hk3 aT (AD 8) (BB2 8)), (hk4 aT (AD 8) (BB2 8)), (hk5 (AD 8) (BB2 8) (NM2 8)), (hk6 aT (AD 8) (BB2 8)), (hk7 aT (AD 8) (BB2 8)), (hk8 aT (AD 8) (BB2 8)), (hk9 aT (AD 8) (BB2 8)), (hk10 aT (AD 8) (BB2 8))] : va_W)) E9 W2 ∧ ((E9 = "java/util/NoSuchElementException" ∧ r = nI 1) ∨ (E9 = "java/lang/IllegalArgumentException" ∧ r = nI 2)))) ∧ W1 = (([(u0, .inl (aT 2, 1, .inr (.inl o2)))] : va_W) ++ W2))) := by
  refine CxT.of RL (by decide +kernel) rfl (Nat.le_of_ble_eq_true rfl) ?_
  intro p e s m below meth c A ls C hml hl hA hr hlocks htb hZ hW
  have hl : lv_has ls 5 [(0, .ref x0), (1, .int x), (2, .int y), (3, .ref u0)] := hl
  have hx := C.1
  have hb := C.2.1
  refine lv_aload_n hx hb dL_prune_0 rfl (lv_at hl 3 rfl) ?_
  refine lv_iconst (v := nI 0) hx hb dL_prune_1 (by decide) ?_
  refine lv_aload_n hx hb dL_prune_2 rfl (lv_at hl 0 rfl) ?_
  refine lv_iload_n hx hb dL_prune_3 rfl (lv_at hl 1 rfl) ?_
  refine lv_iload_n hx hb dL_prune_4 rfl (lv_at hl 2 rfl) ?_
  refine cx_calli (cx_runV C hml hl.1 hZ hW hA (As := [.int x, .int y]) (rest := [.int (nI 0), .ref u0]) (k_X9_prune l hfl D aT x0 v0 t0 p0 o0 sv le lf a0 a1 a2 a3 a4 a5 a6 a7 a8 a9 a10 bb nh nm M Bd hBd hC hB h0 h1 AD BB NH NM hc PR hHi x y) gV_L_X9_prune_26 hV_X9_prune rfl ⟨Nat.le_of_ble_eq_true rfl, Nat.le_of_ble_eq_true rfl⟩ ⟨Nat.le_of_ble_eq_true rfl, Nat.le_of_ble_eq_true rfl⟩ [1, 2, 3, 4, 5, 6, 7, 8, 9, 10, 11, 12, 13, 14, 15, 16, 17, 18, 19, 20, 21, 22, 23, 24, 25, 26, 27, 28, 29, 30, 31, 32, 33, 34, 35, 36, 37, 38, 39, 40, 41, 42, 43, 44, 45, 46, 47, 48, 49, 50, 51, 52, 53, 54, 55, 56, 57, 58, 59, 60, 61, 62, 63, 64, 65, 66, 67, 68, 69, 70, 71, 72, 73, 74, 75, 76, 77, 78, 79, 80, 81, 82, 83, 84, 85, 86, 87, 88, 89, 90, 91, 92, 93, 94, 95, 96, 97, 98, 99, 100, 101, 102, 103, 104, 105, 106, 107, 108, 109, 110, 111, 112, 113] (pk_h [(1, 113)] 114 (by exact rfl) (by decide +kernel) (by decide +kernel) (by exact rfl)) (by decide +kernel) 1 12 rfl rfl rfl rfl (Nat.le_of_ble_eq_true rfl) dL_prune_5) hW hA [1, 2, 3, 4, 5, 6, 7, 8, 9, 10, 11, 12, 13, 14, 15, 16, 17, 18, 19, 20, 21, 22, 23, 24, 25, 26, 27, 28, 29, 30, 31, 32, 33, 34, 35, 36, 37, 38, 39, 40, 41, 42, 43, 44, 45, 46, 47, 48, 49, 50, 51, 52, 53, 54, 55, 56, 57, 58, 59, 60, 61, 62, 63, 64, 65, 66, 67, 68, 69, 70, 71, 72, 73, 74, 75, 76, 77, 78, 79, 80, 81, 82, 83, 84, 85, 86, 87, 88, 89, 90, 91, 92, 93, 94, 95, 96, 97, 98, 99, 100, 101, 102, 103, 104, 105, 106, 107, 108, 109, 110, 111, 112, 113] [0] (pk_h [(1, 113)] 114 (by exact rfl) (by decide +kernel) (by decide +kernel) (by exact rfl)) (pk_g [(0, 1)] 114 (by exact rfl) (by decide +kernel) (by decide +kernel)) (by decide +kernel) (by decide +kernel) ?_ (fun r_5 W_5 H locs hq hW => ?_)
  rotate_left
  obtain hq := hq
  have hW : CxB D (([(u0, .inl (aT 2, 1, .inr (.inl o)))] : va_W) ++ W_5) A s.heap H _ := hW
  refine lv_i2l (v := (r_5).toInt64) hx hb dL_prune_8 rfl ?_
  refine cx_last C hW 0 2 (j := 0) (W1 := (([(u0, .inl (aT 2, 1, .inr (.inl (vp_updL o 0 ((r_5).toInt64)))))] : va_W) ++ W_5)) rfl rfl rfl (by omega) (by decide) rfl dL_prune_9 (fun H locs hW => ?_)
  refine lv_goto (tgt := 21) hx hb dL_prune_10 (by decide) ?_
  refine lv_iconst (v := nI 0) hx hb dL_prune_21 (by decide) ?_
  exact cx_tret C hr hlocks rfl hW ⟨Nat.le_of_ble_eq_true rfl, Nat.le_of_ble_eq_true rfl⟩ (⟨W_5, _, Or.inl ⟨r_5, rfl, rfl, hq⟩, rfl⟩) dL_prune_22
  · intro E ce q9 W9 H locs hE hW h7 h8 h9
    have hE2 := hE
    rcases (show E = "java/util/NoSuchElementException" ∨ E = "java/lang/IllegalArgumentException" from by
      clear hW
      revert hE
      grind) with rfl | rfl
    · have hW : CxB D (([(u0, .inl (aT 2, 1, .inr (.inl o)))] : va_W) ++ W9) A s.heap H _ := hW
      refine cx_catchT C hZ (nm := "java/util/NoSuchElementException") [] ⟨0, 10, 13, 24⟩ (tableOf [(0, 10, 17, 13)]) htb (fun z hz => by cases hz) (by decide) (by decide) gw_690 nw_705 h7 h8 h9 ?_
      refine lv_astore (lv' := [(4, .ref q9), (0, .ref x0), (1, .int x), (2, .int y), (3, .ref u0)]) hx hb dL_prune_13 hl (by decide) rfl (fun ls hl => ?_)
      refine lv_iconst (v := nI 1) hx hb dL_prune_15 (by decide) ?_
      exact cx_tret C hr hlocks rfl hW ⟨Nat.le_of_ble_eq_true rfl, Nat.le_of_ble_eq_true rfl⟩ (⟨W9, _, Or.inr ⟨_, hE2, Or.inl ⟨rfl, rfl⟩⟩, rfl⟩) dL_prune_16
    · have hW : CxB D (([(u0, .inl (aT 2, 1, .inr (.inl o)))] : va_W) ++ W9) A s.heap H _ := hW
      refine cx_catchT C hZ (nm := "java/lang/IllegalArgumentException") [⟨0, 10, 13, 24⟩] ⟨0, 10, 17, 13⟩ (tableOf []) htb (fun z hz => by
          simp only [List.mem_cons, List.not_mem_nil, or_false] at hz
          rcases hz with rfl
          · exact Or.inr ⟨by decide, "java/util/NoSuchElementException", gw_690, List.mem_of_getElem? (i := 0) rfl⟩) (by decide) (by decide) gw_546 nw_561 h7 h8 h9 ?_
      refine lv_astore (lv' := [(4, .ref q9), (0, .ref x0), (1, .int x), (2, .int y), (3, .ref u0)]) hx hb dL_prune_17 hl (by decide) rfl (fun ls hl => ?_)
      refine lv_iconst (v := nI 2) hx hb dL_prune_19 (by decide) ?_
      exact cx_tret C hr hlocks rfl hW ⟨Nat.le_of_ble_eq_true rfl, Nat.le_of_ble_eq_true rfl⟩ (⟨W9, _, Or.inr ⟨_, hE2, Or.inr (⟨rfl, rfl⟩)⟩, rfl⟩) dL_prune_20
theorem dL_regrow_0 : decode cL_regrow 0 = .ok (.aload_n 2, 1) := by decide +kernel
theorem dL_regrow_1 : decode cL_regrow 1 = .ok (.iconst 0, 1) := by decide +kernel
theorem dL_regrow_2 : decode cL_regrow 2 = .ok (.aload_n 0, 1) := by decide +kernel
theorem dL_regrow_3 : decode cL_regrow 3 = .ok (.iload_n 1, 1) := by decide +kernel
theorem dL_regrow_4 : decode cL_regrow 4 = .ok (.invokevirtual 29, 3) := by decide +kernel
theorem dL_regrow_7 : decode cL_regrow 7 = .ok (.i2l, 1) := by decide +kernel
theorem dL_regrow_8 : decode cL_regrow 8 = .ok (.lastore, 1) := by decide +kernel
theorem dL_regrow_9 : decode cL_regrow 9 = .ok (.goto 9, 3) := by decide +kernel
theorem dL_regrow_12 : decode cL_regrow 12 = .ok (.astore_n 3, 1) := by decide +kernel
theorem dL_regrow_13 : decode cL_regrow 13 = .ok (.iconst 1, 1) := by decide +kernel
theorem dL_regrow_14 : decode cL_regrow 14 = .ok (.ireturn, 1) := by decide +kernel
theorem dL_regrow_15 : decode cL_regrow 15 = .ok (.astore_n 3, 1) := by decide +kernel
theorem dL_regrow_16 : decode cL_regrow 16 = .ok (.iconst 2, 1) := by decide +kernel
theorem dL_regrow_17 : decode cL_regrow 17 = .ok (.ireturn, 1) := by decide +kernel
theorem dL_regrow_18 : decode cL_regrow 18 = .ok (.iconst 0, 1) := by decide +kernel
theorem dL_regrow_19 : decode cL_regrow 19 = .ok (.ireturn, 1) := by decide +kernel
theorem gV_L_X9_regrow_29 : GoodIn gw (wsV RL 29 RX9 yX9_regrow (Cond.code yX9_regrow cX9_regrow 3 (some .int) :: gw)) := gdV gw_740 gw_741 gw_742 gw_67 gw_743
theorem hV_X9_regrow : yX9_regrow.cls = RX9 ∧ yX9_regrow.cls ≠ "java/lang/invoke/MethodHandle" ∧ yX9_regrow.cls ≠ "java/lang/invoke/VarHandle" ∧ (parseMethodDescriptor yX9_regrow.desc).map (fun d => d.parameters.length) = some 1 := ⟨rfl, by decide +kernel, by decide +kernel, by decide +kernel⟩
set_option maxHeartbeats 2000000 in
set_option maxRecDepth 20000 in
theorem k_L_regrow (l : Launch) (hfl : l.stackTraces = false) (D : va_G) (aT : Nat → ClassId) (u0 : Nat) (o : Nat → Int64) (x0 : Nat) (v0 : Nat) (t0 : Nat) (p0 : Nat) (o0 : Nat) (sv : Bool) (le : Int32) (lf : Int32) (a0 : Nat) (a1 : Nat) (a2 : Nat) (a3 : Nat) (a4 : Nat) (a5 : Nat) (a6 : Nat) (a7 : Nat) (a8 : Nat) (a9 : Nat) (a10 : Nat) (bb : Nat → Nat → Int32) (nh : Nat) (nm : Nat) (M : Nat → Int32) (Bd : Nat) (hBd : Bd < 1048000) (hC : CoW M Bd) (hB : BlC bb nh nm M) (h0 : Nat) (h1 : Nat) (AD : Nat → Nat → Nat) (BB : Nat → Nat → Nat → Int32) (NH : Nat → Nat) (NM : Nat → Nat) (hc : Nat) (PR : Nat → Nat → Int32) (hHi : HiC BB NH NM hc PR Bd) (x : Int32) : CxT l yL_regrow cL_regrow 4 (some (.int)) [(0, 9, 12, 24), (0, 9, 15, 15)] 9 2 12 157 D aT [.ref x0, .int x, .ref u0] [(u0, .inl (aT 2, 1, .inr (.inl o))), (x0, .inr (12, [.ref a0, .ref v0, .ref h0, .ref t0, .ref p0, .ref o0, .int (bI sv), .int le, .int lf])), (a0, .inr (10, [.ref a1, .ref a5, .ref a10, .int (bb 8 1), .int (bb 8 2), .int (bb 8 3), .int (bb 8 4), .int (bb 8 5), .int (bb 8 6), .int (bb 8 7), .int (bb 8 8)])), (a1, .inr (6, [.ref a2, .ref a3, .ref a4, .int (nI nh)])), (a2, .inl (aT 0, 6, .inl (bb 0))), (a3, .inl (aT 0, 6, .inl (bb 1))), (a4, .inl (aT 0, 6, .inl (bb 2))), (a5, .inr (8, [.ref a6, .ref a7, .ref a8, .ref a9, .int (nI nm), .int (bb 8 0)])), (a6, .inl (aT 0, 12, .inl (bb 3))), (a7, .inl (aT 0, 12, .inl (bb 4))), (a8, .inl (aT 0, 12, .inl (bb 5))), (a9, .inl (aT 0, 12, .inl (bb 6))), (a10, .inl (aT 0, 4, .inl (bb 7))), (h0, .inr (7, [.ref h1, .int (nI hc)])), (h1, .inl (aT 5, 9, .inr (.inr (.inr (.inr (fun j => some (AD j 0))))))), (hk0 (AD 0) (BB 0)), (hk1 (AD 0) (NH 0)), (hk2 aT (AD 0) (BB 0)), (hk3 aT (AD 0) (BB 0)), (hk4 aT (AD 0) (BB 0)), (hk5 (AD 0) (BB 0) (NM 0)), (hk6 aT (AD 0) (BB 0)), (hk7 aT (AD 0) (BB 0)), (hk8 aT (AD 0) (BB 0)), (hk9 aT (AD 0) (BB 0)), (hk10 aT (AD 0) (BB 0)), (hk0 (AD 1) (BB 1)), (hk1 (AD 1) (NH 1)), (hk2 aT (AD 1) (BB 1)), (hk3 aT (AD 1) (BB 1)), (hk4 aT (AD 1) (BB 1)), (hk5 (AD 1) (BB 1) (NM 1)), (hk6 aT (AD 1) (BB 1)), (hk7 aT (AD 1) (BB 1)), (hk8 aT (AD 1) (BB 1)), (hk9 aT (AD 1) (BB 1)), (hk10 aT (AD 1) (BB 1)), (hk0 (AD 2) (BB 2)), (hk1 (AD 2) (NH 2)), (hk2 aT (AD 2) (BB 2)), (hk3 aT (AD 2) (BB 2)), (hk4 aT (AD 2) (BB 2)), (hk5 (AD 2) (BB 2) (NM 2)), (hk6 aT (AD 2) (BB 2)), (hk7 aT (AD 2) (BB 2)), (hk8 aT (AD 2) (BB 2)), (hk9 aT (AD 2) (BB 2)), (hk10 aT (AD 2) (BB 2)), (hk0 (AD 3) (BB 3)), (hk1 (AD 3) (NH 3)), (hk2 aT (AD 3) (BB 3)), (hk3 aT (AD 3) (BB 3)), (hk4 aT (AD 3) (BB 3)), (hk5 (AD 3) (BB 3) (NM 3)), (hk6 aT (AD 3) (BB 3)), (hk7 aT (AD 3) (BB 3)), (hk8 aT (AD 3) (BB 3)), (hk9 aT (AD 3) (BB 3)), (hk10 aT (AD 3) (BB 3)), (hk0 (AD 4) (BB 4)), (hk1 (AD 4) (NH 4)), (hk2 aT (AD 4) (BB 4)), (hk3 aT (AD 4) (BB 4)), (hk4 aT (AD 4) (BB 4)), (hk5 (AD 4) (BB 4) (NM 4)), (hk6 aT (AD 4) (BB 4)), (hk7 aT (AD 4) (BB 4)), (hk8 aT (AD 4) (BB 4)), (hk9 aT (AD 4) (BB 4)), (hk10 aT (AD 4) (BB 4)), (hk0 (AD 5) (BB 5)), (hk1 (AD 5) (NH 5)), (hk2 aT (AD 5) (BB 5)), (hk3 aT (AD 5) (BB 5)), (hk4 aT (AD 5) (BB 5)), (hk5 (AD 5) (BB 5) (NM 5)), (hk6 aT (AD 5) (BB 5)), (hk7 aT (AD 5) (BB 5)), (hk8 aT (AD 5) (BB 5)), (hk9 aT (AD 5) (BB 5)), (hk10 aT (AD 5) (BB 5)), (hk0 (AD 6) (BB 6)), (hk1 (AD 6) (NH 6)), (hk2 aT (AD 6) (BB 6)), (hk3 aT (AD 6) (BB 6)), (hk4 aT (AD 6) (BB 6)), (hk5 (AD 6) (BB 6) (NM 6)), (hk6 aT (AD 6) (BB 6)), (hk7 aT (AD 6) (BB 6)), (hk8 aT (AD 6) (BB 6)), (hk9 aT (AD 6) (BB 6)), (hk10 aT (AD 6) (BB 6)), (hk0 (AD 7) (BB 7)), (hk1 (AD 7) (NH 7)), (hk2 aT (AD 7) (BB 7)), (hk3 aT (AD 7) (BB 7)), (hk4 aT (AD 7) (BB 7)), (hk5 (AD 7) (BB 7) (NM 7)), (hk6 aT (AD 7) (BB 7)), (hk7 aT (AD 7) (BB 7)), (hk8 aT (AD 7) (BB 7)), (hk9 aT (AD 7) (BB 7)), (hk10 aT (AD 7) (BB 7)), (hk0 (AD 8) (BB 8)), (hk1 (AD 8) (NH 8)), (hk2 aT (AD 8) (BB 8)), (hk3 aT (AD 8) (BB 8)), (hk4 aT (AD 8) (BB 8)), (hk5 (AD 8) (BB 8) (NM 8)), (hk6 aT (AD 8) (BB 8)), (hk7 aT (AD 8) (BB 8)), (hk8 aT (AD 8) (BB 8)), (hk9 aT (AD 8) (BB 8)), (hk10 aT (AD 8) (BB 8))] (qI D aT (fun r W1 => ∃ (W2 : va_W) (o2 : Nat → Int64), ((∃ r0 : Int32, r = nI 0 ∧ o2 0 = r0.toInt64 ∧ (fun r W1 => ∃ (q t : Nat) (AD2 : Nat → Nat → Nat) (BB2 : Nat → Nat → Nat → Int32) (NH2 NM2 : Nat → Nat) (hc2 : Nat) (b2 : Nat → Nat → Int32), (fnd (fun k => M (29 + 4 * k)) x nm = some q ∧ nm < 12 ∧ ltp (prM M) nm q nm = some t ∧ r = M 1) ∧ BlC b2 (nh) (nm + 1) (addF M (nM M) (M (29 + 4 * t)) (nI ((tnM M t + 1) % 10)) (hlfF (M (29 + 4 * t + 3)))) ∧ hc2 = min hc 7 + 1 ∧ HiC BB2 NH2 NM2 hc2 (nxP PR hc M) Bd ∧ W1 = ([(x0, .inr (12, [.ref a0, .ref v0, .ref h0, .ref t0, .ref p0, .ref o0, .int (bI sv), .int le, .int lf])), (a0, .inr (10, [.ref a1, .ref a5, .ref a10, .int (b2 8 1), .int (b2 8 2), .int (b2 8 3), .int (b2 8 4), .int (b2 8 5), .int (b2 8 6), .int (b2 8 7), .int (b2 8 8)])), (a1, .inr (6, [.ref a2, .ref a3, .ref a4, .int (nI nh)])), (a2, .inl (aT 0, 6, .inl (b2 0))), (a3, .inl (aT 0, 6, .inl (b2 1))), (a4, .inl (aT 0, 6, .inl (b2 2))), (a5, .inr (8, [.ref a6, .ref a7, .ref a8, .ref a9, .int (nI (nm + 1)), .int (b2 8 0)])), (a6, .inl (aT 0, 12, .inl (b2 3))), (a7, .inl (aT 0, 12, .inl (b2 4))), (a8, .inl (aT 0, 12, .inl (b2 5))), (a9, .inl (aT 0, 12, .inl (b2 6))), (a10, .inl (aT 0, 4, .inl (b2 7))), (h0, .inr (7, [.ref h1, .int (nI hc2)])), (h1, .inl (aT 5, 9, .inr (.inr (.inr (.inr (fun j => some (AD2 j 0))))))), (hk0 (AD2 0) (BB2 0)), (hk1 (AD2 0) (NH2 0)), (hk2 aT (AD2 0) (BB2 0)), (hk3 aT (AD2 0) (BB2 0)), (hk4 aT (AD2 0) (BB2 0)), (hk5 (AD2 0) (BB2 0) (NM2 0)), (hk6 aT (AD2 0) (BB2 0)), (hk7 aT (AD2 0) (BB2 0)), (hk8 aT (AD2 0) (BB2 0)), (hk9 aT (AD2 0) (BB2 0)), (hk10 aT (AD2 0) (BB2 0)), (hk0 (AD2 1) (BB2 1)), (hk1 (AD2 1) (NH2 1)), (hk2 aT (AD2 1) (BB2 1)), (hk3 aT (AD2 1) (BB2 1)), (hk4 aT (AD2 1) (BB2 1)), (hk5 (AD2 1) (BB2 1) (NM2 1)), (hk6 aT (AD2 1) (BB2 1)), (hk7 aT (AD2 1) (BB2 1)), (hk8 aT (AD2 1) (BB2 1)), (hk9 aT (AD2 1) (BB2 1)), (hk10 aT (AD2 1) (BB2 1)), (hk0 (AD2 2) (BB2 2)), (hk1 (AD2 2) (NH2 2)), (hk2 aT (AD2 2) (BB2 2)), (hk3 aT (AD2 2) (BB2 2)), (hk4 aT (AD2 2) (BB2 2)), (hk5 (AD2 2) (BB2 2) (NM2 2)), (hk6 aT (AD2 2) (BB2 2)), (hk7 aT (AD2 2) (BB2 2)), (hk8 aT (AD2 2) (BB2 2)), (hk9 aT (AD2 2) (BB2 2)), (hk10 aT (AD2 2) (BB2 2)), (hk0 (AD2 3) (BB2 3)), (hk1 (AD2 3) (NH2 3)), (hk2 aT (AD2 3) (BB2 3)), (hk3 aT (AD2 3) (BB2 3)), (hk4 aT (AD2 3) (BB2 3)), (hk5 (AD2 3) (BB2 3) (NM2 3)), (hk6 aT (AD2 3) (BB2 3)), (hk7 aT (AD2 3) (BB2 3)), (hk8 aT (AD2 3) (BB2 3)), (hk9 aT (AD2 3) (BB2 3)), (hk10 aT (AD2 3) (BB2 3)), (hk0 (AD2 4) (BB2 4)), (hk1 (AD2 4) (NH2 4)), (hk2 aT (AD2 4) (BB2 4)), (hk3 aT (AD2 4) (BB2 4)), (hk4 aT (AD2 4) (BB2 4)), (hk5 (AD2 4) (BB2 4) (NM2 4)), (hk6 aT (AD2 4) (BB2 4)), (hk7 aT (AD2 4) (BB2 4)), (hk8 aT (AD2 4) (BB2 4)), (hk9 aT (AD2 4) (BB2 4)), (hk10 aT (AD2 4) (BB2 4)), (hk0 (AD2 5) (BB2 5)), (hk1 (AD2 5) (NH2 5)), (hk2 aT (AD2 5) (BB2 5)), (hk3 aT (AD2 5) (BB2 5)), (hk4 aT (AD2 5) (BB2 5)), (hk5 (AD2 5) (BB2 5) (NM2 5)), (hk6 aT (AD2 5) (BB2 5)), (hk7 aT (AD2 5) (BB2 5)), (hk8 aT (AD2 5) (BB2 5)), (hk9 aT (AD2 5) (BB2 5)), (hk10 aT (AD2 5) (BB2 5)), (hk0 (AD2 6) (BB2 6)), (hk1 (AD2 6) (NH2 6)), (hk2 aT (AD2 6) (BB2 6)), (hk3 aT (AD2 6) (BB2 6)), (hk4 aT (AD2 6) (BB2 6)), (hk5 (AD2 6) (BB2 6) (NM2 6)), (hk6 aT (AD2 6) (BB2 6)), (hk7 aT (AD2 6) (BB2 6)), (hk8 aT (AD2 6) (BB2 6)), (hk9 aT (AD2 6) (BB2 6)), (hk10 aT (AD2 6) (BB2 6)), (hk0 (AD2 7) (BB2 7)), (hk1 (AD2 7) (NH2 7)), (hk2 aT (AD2 7) (BB2 7)), (hk3 aT (AD2 7) (BB2 7)), (hk4 aT (AD2 7) (BB2 7)), (hk5 (AD2 7) (BB2 7) (NM2 7)), (hk6 aT (AD2 7) (BB2 7)), (hk7 aT (AD2 7) (BB2 7)), (hk8 aT (AD2 7) (BB2 7)), (hk9 aT (AD2 7) (BB2 7)), (hk10 aT (AD2 7) (BB2 7)), (hk0 (AD2 8) (BB2 8)), (hk1 (AD2 8) (NH2 8)), (hk2 aT (AD2 8) (BB2 8)), (hk3 aT (AD2 8) (BB2 8)), (hk4 aT (AD2 8) (BB2 8)), (hk5 (AD2 8) (BB2 8) (NM2 8)), (hk6 aT (AD2 8) (BB2 8)), (hk7 aT (AD2 8) (BB2 8)), (hk8 aT (AD2 8) (BB2 8)), (hk9 aT (AD2 8) (BB2 8)), (hk10 aT (AD2 8) (BB2 8))] : va_W)) r0 W2) ∨ (∃ E9 : String, (fun E W1 => ((E = "java/util/NoSuchElementException" ∧ fnd (fun k => M (29 + 4 * k)) x nm = none) ∨ ((∃ q, fnd (fun k => M (29 + 4 * k)) x nm = some q) ∧ E = "java/lang/IllegalStateException" ∧ nm = 12)) ∧ ∃ (BB2 : Nat → Nat → Nat → Int32) (NH2 NM2 : Nat → Nat), HiC BB2 NH2 NM2 hc PR Bd ∧ W1 = ([(x0, .inr (12, [.ref a0, .ref v0, .ref h0, .ref t0, .ref p0, .ref o0, .int (bI sv), .int le, .int lf])), (a0, .inr (10, [.ref a1, .ref a5, .ref a10, .int (bb 8 1), .int (bb 8 2), .int (bb 8 3), .int (bb 8 4), .int (bb 8 5), .int (bb 8 6), .int (bb 8 7), .int (bb 8 8)])), (a1, .inr (6, [.ref a2, .ref a3, .ref a4, .int (nI nh)])), (a2, .inl (aT 0, 6, .inl (bb 0))), (a3, .inl (aT 0, 6, .inl (bb 1))), (a4, .inl (aT 0, 6, .inl (bb 2))), (a5, .inr (8, [.ref a6, .ref a7, .ref a8, .ref a9, .int (nI nm), .int (bb 8 0)])), (a6, .inl (aT 0, 12, .inl (bb 3))), (a7, .inl (aT 0, 12, .inl (bb 4))), (a8, .inl (aT 0, 12, .inl (bb 5))), (a9, .inl (aT 0, 12, .inl (bb 6))), (a10, .inl (aT 0, 4, .inl (bb 7))), (h0, .inr (7, [.ref h1, .int (nI hc)])), (h1, .inl (aT 5, 9, .inr (.inr (.inr (.inr (fun j => some (AD j 0))))))), (hk0 (AD 0) (BB2 0)), (hk1 (AD 0) (NH2 0)), (hk2 aT (AD 0) (BB2 0)), (hk3 aT (AD 0) (BB2 0)), (hk4 aT (AD 0) (BB2 0)), (hk5 (AD 0) (BB2 0) (NM2 0)), (hk6 aT (AD 0) (BB2 0)), (hk7 aT (AD 0) (BB2 0)), (hk8 aT (AD 0) (BB2 0)), (hk9 aT (AD 0) (BB2 0)), (hk10 aT (AD 0) (BB2 0)), (hk0 (AD 1) (BB2 1)), (hk1 (AD 1) (NH2 1)), (hk2 aT (AD 1) (BB2 1)), (hk3 aT (AD 1) (BB2 1)), (hk4 aT (AD 1) (BB2 1)), (hk5 (AD 1) (BB2 1) (NM2 1)), (hk6 aT (AD 1) (BB2 1)), (hk7 aT (AD 1) (BB2 1)), (hk8 aT (AD 1) (BB2 1)), (hk9 aT (AD 1) (BB2 1)), (hk10 aT (AD 1) (BB2 1)), (hk0 (AD 2) (BB2 2)), (hk1 (AD 2) (NH2 2)), (hk2 aT (AD 2) (BB2 2)), (hk3 aT (AD 2) (BB2 2)), (hk4 aT (AD 2) (BB2 2)), (hk5 (AD 2) (BB2 2) (NM2 2)), (hk6 aT (AD 2) (BB2 2)), (hk7 aT (AD 2) (BB2 2)), (hk8 aT (AD 2) (BB2 2)), (hk9 aT (AD 2) (BB2 2)), (hk10 aT (AD 2) (BB2 2)), (hk0 (AD 3) (BB2 3)), (hk1 (AD 3) (NH2 3)), (hk2 aT (AD 3) (BB2 3)), (hk3 aT (AD 3) (BB2 3)), (hk4 aT (AD 3) (BB2 3)), (hk5 (AD 3) (BB2 3) (NM2 3)), (hk6 aT (AD 3) (BB2 3)), (hk7 aT (AD 3) (BB2 3)), (hk8 aT (AD 3) (BB2 3)), (hk9 aT (AD 3) (BB2 3)), (hk10 aT (AD 3) (BB2 3)), (hk0 (AD 4) (BB2 4)), (hk1 (AD 4) (NH2 4)), (hk2 aT (AD 4) (BB2 4)), (hk3 aT (AD 4) (BB2 4)), (hk4 aT (AD 4) (BB2 4)), (hk5 (AD 4) (BB2 4) (NM2 4)), (hk6 aT (AD 4) (BB2 4)), (hk7 aT (AD 4) (BB2 4)), (hk8 aT (AD 4) (BB2 4)), (hk9 aT (AD 4) (BB2 4)), (hk10 aT (AD 4) (BB2 4)), (hk0 (AD 5) (BB2 5)), (hk1 (AD 5) (NH2 5)), (hk2 aT (AD 5) (BB2 5)), (hk3 aT (AD 5) (BB2 5)), (hk4 aT (AD 5) (BB2 5)), (hk5 (AD 5) (BB2 5) (NM2 5)), (hk6 aT (AD 5) (BB2 5)), (hk7 aT (AD 5) (BB2 5)), (hk8 aT (AD 5) (BB2 5)), (hk9 aT (AD 5) (BB2 5)), (hk10 aT (AD 5) (BB2 5)), (hk0 (AD 6) (BB2 6)), (hk1 (AD 6) (NH2 6)), (hk2 aT (AD 6) (BB2 6)), (hk3 aT (AD 6) (BB2 6)), (hk4 aT (AD 6) (BB2 6)), (hk5 (AD 6) (BB2 6) (NM2 6)), (hk6 aT (AD 6) (BB2 6)), (hk7 aT (AD 6) (BB2 6)), (hk8 aT (AD 6) (BB2 6)), (hk9 aT (AD 6) (BB2 6)), (hk10 aT (AD 6) (BB2 6)), (hk0 (AD 7) (BB2 7)), (hk1 (AD 7) (NH2 7)), (hk2 aT (AD 7) (BB2 7)), (hk3 aT (AD 7) (BB2 7)), (hk4 aT (AD 7) (BB2 7)), (hk5 (AD 7) (BB2 7) (NM2 7)), (hk6 aT (AD 7) (BB2 7)), (hk7 aT (AD 7) (BB2 7)), (hk8 aT (AD 7) (BB2 7)), (hk9 aT (AD 7) (BB2 7)), (hk10 aT (AD 7) (BB2 7)), (hk0 (AD 8) (BB2 8)), (hk1 (AD 8) (NH2 8)), (hk2 aT (AD 8) (BB2 8)), (hk3 aT (AD 8) (BB2 8)), (hk4 aT (AD 8) (BB2 8)), (hk5 (AD 8) (BB2 8) (NM2 8)), (hk6 aT (AD 8) (BB2 8)), (hk7 aT (AD 8) (BB2 8)), (hk8 aT (AD 8) (BB2 8)), (hk9 aT (AD 8) (BB2 8)), (hk10 aT (AD 8) (BB2 8))] : va_W)) E9 W2 ∧ ((E9 = "java/util/NoSuchElementException" ∧ r = nI 1) ∨ (E9 = "java/lang/IllegalStateException" ∧ r = nI 2)))) ∧ W1 = (([(u0, .inl (aT 2, 1, .inr (.inl o2)))] : va_W) ++ W2))) := by
  refine CxT.of RL (by decide +kernel) rfl (Nat.le_of_ble_eq_true rfl) ?_
  intro p e s m below meth c A ls C hml hl hA hr hlocks htb hZ hW
  have hl : lv_has ls 4 [(0, .ref x0), (1, .int x), (2, .ref u0)] := hl
  have hx := C.1
  have hb := C.2.1
  refine lv_aload_n hx hb dL_regrow_0 rfl (lv_at hl 2 rfl) ?_
  refine lv_iconst (v := nI 0) hx hb dL_regrow_1 (by decide) ?_
  refine lv_aload_n hx hb dL_regrow_2 rfl (lv_at hl 0 rfl) ?_
  refine lv_iload_n hx hb dL_regrow_3 rfl (lv_at hl 1 rfl) ?_
  refine cx_calli (cx_runV C hml hl.1 hZ hW hA (As := [.int x]) (rest := [.int (nI 0), .ref u0]) (k_X9_regrow l hfl D aT x0 v0 t0 p0 o0 sv le lf a0 a1 a2 a3 a4 a5 a6 a7 a8 a9 a10 bb nh nm M Bd hBd hC hB h0 h1 AD BB NH NM hc PR hHi x) gV_L_X9_regrow_29 hV_X9_regrow rfl ⟨Nat.le_of_ble_eq_true rfl, Nat.le_of_ble_eq_true rfl⟩ ⟨Nat.le_of_ble_eq_true rfl, Nat.le_of_ble_eq_true rfl⟩ [1, 2, 3, 4, 5, 6, 7, 8, 9, 10, 11, 12, 13, 14, 15, 16, 17, 18, 19, 20, 21, 22, 23, 24, 25, 26, 27, 28, 29, 30, 31, 32, 33, 34, 35, 36, 37, 38, 39, 40, 41, 42, 43, 44, 45, 46, 47, 48, 49, 50, 51, 52, 53, 54, 55, 56, 57, 58, 59, 60, 61, 62, 63, 64, 65, 66, 67, 68, 69, 70, 71, 72, 73, 74, 75, 76, 77, 78, 79, 80, 81, 82, 83, 84, 85, 86, 87, 88, 89, 90, 91, 92, 93, 94, 95, 96, 97, 98, 99, 100, 101, 102, 103, 104, 105, 106, 107, 108, 109, 110, 111, 112, 113] (pk_h [(1, 113)] 114 (by exact rfl) (by decide +kernel) (by decide +kernel) (by exact rfl)) (by decide +kernel) 1 12 rfl rfl rfl rfl (Nat.le_of_ble_eq_true rfl) dL_regrow_4) hW hA [1, 2, 3, 4, 5, 6, 7, 8, 9, 10, 11, 12, 13, 14, 15, 16, 17, 18, 19, 20, 21, 22, 23, 24, 25, 26, 27, 28, 29, 30, 31, 32, 33, 34, 35, 36, 37, 38, 39, 40, 41, 42, 43, 44, 45, 46, 47, 48, 49, 50, 51, 52, 53, 54, 55, 56, 57, 58, 59, 60, 61, 62, 63, 64, 65, 66, 67, 68, 69, 70, 71, 72, 73, 74, 75, 76, 77, 78, 79, 80, 81, 82, 83, 84, 85, 86, 87, 88, 89, 90, 91, 92, 93, 94, 95, 96, 97, 98, 99, 100, 101, 102, 103, 104, 105, 106, 107, 108, 109, 110, 111, 112, 113] [0] (pk_h [(1, 113)] 114 (by exact rfl) (by decide +kernel) (by decide +kernel) (by exact rfl)) (pk_g [(0, 1)] 114 (by exact rfl) (by decide +kernel) (by decide +kernel)) (by decide +kernel) (by decide +kernel) ?_ (fun r_4 W_4 H locs hq hW => ?_)
  rotate_left
  obtain hq := hq
  have hW : CxB D (([(u0, .inl (aT 2, 1, .inr (.inl o)))] : va_W) ++ W_4) A s.heap H _ := hW
  refine lv_i2l (v := (r_4).toInt64) hx hb dL_regrow_7 rfl ?_
  refine cx_last C hW 0 2 (j := 0) (W1 := (([(u0, .inl (aT 2, 1, .inr (.inl (vp_updL o 0 ((r_4).toInt64)))))] : va_W) ++ W_4)) rfl rfl rfl (by omega) (by decide) rfl dL_regrow_8 (fun H locs hW => ?_)
  refine lv_goto (tgt := 18) hx hb dL_regrow_9 (by decide) ?_
  refine lv_iconst (v := nI 0) hx hb dL_regrow_18 (by decide) ?_
  exact cx_tret C hr hlocks rfl hW ⟨Nat.le_of_ble_eq_true rfl, Nat.le_of_ble_eq_true rfl⟩ (⟨W_4, _, Or.inl ⟨r_4, rfl, rfl, hq⟩, rfl⟩) dL_regrow_19
  · intro E ce q9 W9 H locs hE hW h7 h8 h9
    have hE2 := hE
    rcases (show E = "java/util/NoSuchElementException" ∨ E = "java/lang/IllegalStateException" from by
      clear hW
      revert hE
      grind) with rfl | rfl
    · have hW : CxB D (([(u0, .inl (aT 2, 1, .inr (.inl o)))] : va_W) ++ W9) A s.heap H _ := hW
      refine cx_catchT C hZ (nm := "java/util/NoSuchElementException") [] ⟨0, 9, 12, 24⟩ (tableOf [(0, 9, 15, 15)]) htb (fun z hz => by cases hz) (by decide) (by decide) gw_690 nw_705 h7 h8 h9 ?_
      refine lv_astore_n (lv' := [(3, .ref q9), (0, .ref x0), (1, .int x), (2, .ref u0)]) hx hb dL_regrow_12 rfl hl (by decide) rfl (fun ls hl => ?_)
      refine lv_iconst (v := nI 1) hx hb dL_regrow_13 (by decide) ?_
      exact cx_tret C hr hlocks rfl hW ⟨Nat.le_of_ble_eq_true rfl, Nat.le_of_ble_eq_true rfl⟩ (⟨W9, _, Or.inr ⟨_, hE2, Or.inl ⟨rfl, rfl⟩⟩, rfl⟩) dL_regrow_14
    · have hW : CxB D (([(u0, .inl (aT 2, 1, .inr (.inl o)))] : va_W) ++ W9) A s.heap H _ := hW
      refine cx_catchT C hZ (nm := "java/lang/IllegalStateException") [⟨0, 9, 12, 24⟩] ⟨0, 9, 15, 15⟩ (tableOf []) htb (fun z hz => by
          simp only [List.mem_cons, List.not_mem_nil, or_false] at hz
          rcases hz with rfl
          · exact Or.inr ⟨by decide, "java/util/NoSuchElementException", gw_690, List.mem_of_getElem? (i := 1) rfl⟩) (by decide) (by decide) gw_547 nw_637 h7 h8 h9 ?_
      refine lv_astore_n (lv' := [(3, .ref q9), (0, .ref x0), (1, .int x), (2, .ref u0)]) hx hb dL_regrow_15 rfl hl (by decide) rfl (fun ls hl => ?_)
      refine lv_iconst (v := nI 2) hx hb dL_regrow_16 (by decide) ?_
      exact cx_tret C hr hlocks rfl hW ⟨Nat.le_of_ble_eq_true rfl, Nat.le_of_ble_eq_true rfl⟩ (⟨W9, _, Or.inr ⟨_, hE2, Or.inr (⟨rfl, rfl⟩)⟩, rfl⟩) dL_regrow_17
theorem dL_vote_0 : decode cL_vote 0 = .ok (.aload_n 2, 1) := by decide +kernel
theorem dL_vote_1 : decode cL_vote 1 = .ok (.iconst 0, 1) := by decide +kernel
theorem dL_vote_2 : decode cL_vote 2 = .ok (.aload_n 0, 1) := by decide +kernel
theorem dL_vote_3 : decode cL_vote 3 = .ok (.iload_n 1, 1) := by decide +kernel
theorem dL_vote_4 : decode cL_vote 4 = .ok (.invokevirtual 33, 3) := by decide +kernel
theorem dL_vote_7 : decode cL_vote 7 = .ok (.i2l, 1) := by decide +kernel
theorem dL_vote_8 : decode cL_vote 8 = .ok (.lastore, 1) := by decide +kernel
theorem dL_vote_9 : decode cL_vote 9 = .ok (.goto 9, 3) := by decide +kernel
theorem dL_vote_12 : decode cL_vote 12 = .ok (.astore_n 3, 1) := by decide +kernel
theorem dL_vote_13 : decode cL_vote 13 = .ok (.iconst 1, 1) := by decide +kernel
theorem dL_vote_14 : decode cL_vote 14 = .ok (.ireturn, 1) := by decide +kernel
theorem dL_vote_15 : decode cL_vote 15 = .ok (.astore_n 3, 1) := by decide +kernel
theorem dL_vote_16 : decode cL_vote 16 = .ok (.iconst 2, 1) := by decide +kernel
theorem dL_vote_17 : decode cL_vote 17 = .ok (.ireturn, 1) := by decide +kernel
theorem dL_vote_18 : decode cL_vote 18 = .ok (.iconst 0, 1) := by decide +kernel
theorem dL_vote_19 : decode cL_vote 19 = .ok (.ireturn, 1) := by decide +kernel
theorem gV_L_X9_vote_33 : GoodIn gw (wsV RL 33 RX9 yX9_vote (Cond.code yX9_vote cX9_vote 3 (some .char) :: gw)) := gdV gw_761 gw_762 gw_763 gw_67 gw_764
theorem hV_X9_vote : yX9_vote.cls = RX9 ∧ yX9_vote.cls ≠ "java/lang/invoke/MethodHandle" ∧ yX9_vote.cls ≠ "java/lang/invoke/VarHandle" ∧ (parseMethodDescriptor yX9_vote.desc).map (fun d => d.parameters.length) = some 1 := ⟨rfl, by decide +kernel, by decide +kernel, by decide +kernel⟩
set_option maxHeartbeats 2000000 in
set_option maxRecDepth 20000 in
theorem k_L_vote (l : Launch) (hfl : l.stackTraces = false) (D : va_G) (aT : Nat → ClassId) (u0 : Nat) (o : Nat → Int64) (x0 : Nat) (v0 : Nat) (t0 : Nat) (p0 : Nat) (o0 : Nat) (sv : Bool) (le : Int32) (lf : Int32) (a0 : Nat) (a1 : Nat) (a2 : Nat) (a3 : Nat) (a4 : Nat) (a5 : Nat) (a6 : Nat) (a7 : Nat) (a8 : Nat) (a9 : Nat) (a10 : Nat) (bb : Nat → Nat → Int32) (nh : Nat) (nm : Nat) (M : Nat → Int32) (Bd : Nat) (hBd : Bd < 1048000) (hC : CoW M Bd) (hB : BlC bb nh nm M) (h0 : Nat) (h1 : Nat) (AD : Nat → Nat → Nat) (BB : Nat → Nat → Nat → Int32) (NH : Nat → Nat) (NM : Nat → Nat) (hc : Nat) (PR : Nat → Nat → Int32) (hHi : HiC BB NH NM hc PR Bd) (s0 : Nat) (hs0 : bb 8 1 = nI s0) (hs4 : s0 < 4) (x : Int32) : CxT l yL_vote cL_vote 4 (some (.int)) [(0, 9, 12, 24), (0, 9, 15, 15)] 9 2 12 157 D aT [.ref x0, .int x, .ref u0] [(u0, .inl (aT 2, 1, .inr (.inl o))), (x0, .inr (12, [.ref a0, .ref v0, .ref h0, .ref t0, .ref p0, .ref o0, .int (bI sv), .int le, .int lf])), (a0, .inr (10, [.ref a1, .ref a5, .ref a10, .int (bb 8 1), .int (bb 8 2), .int (bb 8 3), .int (bb 8 4), .int (bb 8 5), .int (bb 8 6), .int (bb 8 7), .int (bb 8 8)])), (a1, .inr (6, [.ref a2, .ref a3, .ref a4, .int (nI nh)])), (a2, .inl (aT 0, 6, .inl (bb 0))), (a3, .inl (aT 0, 6, .inl (bb 1))), (a4, .inl (aT 0, 6, .inl (bb 2))), (a5, .inr (8, [.ref a6, .ref a7, .ref a8, .ref a9, .int (nI nm), .int (bb 8 0)])), (a6, .inl (aT 0, 12, .inl (bb 3))), (a7, .inl (aT 0, 12, .inl (bb 4))), (a8, .inl (aT 0, 12, .inl (bb 5))), (a9, .inl (aT 0, 12, .inl (bb 6))), (a10, .inl (aT 0, 4, .inl (bb 7))), (h0, .inr (7, [.ref h1, .int (nI hc)])), (h1, .inl (aT 5, 9, .inr (.inr (.inr (.inr (fun j => some (AD j 0))))))), (hk0 (AD 0) (BB 0)), (hk1 (AD 0) (NH 0)), (hk2 aT (AD 0) (BB 0)), (hk3 aT (AD 0) (BB 0)), (hk4 aT (AD 0) (BB 0)), (hk5 (AD 0) (BB 0) (NM 0)), (hk6 aT (AD 0) (BB 0)), (hk7 aT (AD 0) (BB 0)), (hk8 aT (AD 0) (BB 0)), (hk9 aT (AD 0) (BB 0)), (hk10 aT (AD 0) (BB 0)), (hk0 (AD 1) (BB 1)), (hk1 (AD 1) (NH 1)), (hk2 aT (AD 1) (BB 1)), (hk3 aT (AD 1) (BB 1)), (hk4 aT (AD 1) (BB 1)), (hk5 (AD 1) (BB 1) (NM 1)), (hk6 aT (AD 1) (BB 1)), (hk7 aT (AD 1) (BB 1)), (hk8 aT (AD 1) (BB 1)), (hk9 aT (AD 1) (BB 1)), (hk10 aT (AD 1) (BB 1)), (hk0 (AD 2) (BB 2)), (hk1 (AD 2) (NH 2)), (hk2 aT (AD 2) (BB 2)), (hk3 aT (AD 2) (BB 2)), (hk4 aT (AD 2) (BB 2)), (hk5 (AD 2) (BB 2) (NM 2)), (hk6 aT (AD 2) (BB 2)), (hk7 aT (AD 2) (BB 2)), (hk8 aT (AD 2) (BB 2)), (hk9 aT (AD 2) (BB 2)), (hk10 aT (AD 2) (BB 2)), (hk0 (AD 3) (BB 3)), (hk1 (AD 3) (NH 3)), (hk2 aT (AD 3) (BB 3)), (hk3 aT (AD 3) (BB 3)), (hk4 aT (AD 3) (BB 3)), (hk5 (AD 3) (BB 3) (NM 3)), (hk6 aT (AD 3) (BB 3)), (hk7 aT (AD 3) (BB 3)), (hk8 aT (AD 3) (BB 3)), (hk9 aT (AD 3) (BB 3)), (hk10 aT (AD 3) (BB 3)), (hk0 (AD 4) (BB 4)), (hk1 (AD 4) (NH 4)), (hk2 aT (AD 4) (BB 4)), (hk3 aT (AD 4) (BB 4)), (hk4 aT (AD 4) (BB 4)), (hk5 (AD 4) (BB 4) (NM 4)), (hk6 aT (AD 4) (BB 4)), (hk7 aT (AD 4) (BB 4)), (hk8 aT (AD 4) (BB 4)), (hk9 aT (AD 4) (BB 4)), (hk10 aT (AD 4) (BB 4)), (hk0 (AD 5) (BB 5)), (hk1 (AD 5) (NH 5)), (hk2 aT (AD 5) (BB 5)), (hk3 aT (AD 5) (BB 5)), (hk4 aT (AD 5) (BB 5)), (hk5 (AD 5) (BB 5) (NM 5)), (hk6 aT (AD 5) (BB 5)), (hk7 aT (AD 5) (BB 5)), (hk8 aT (AD 5) (BB 5)), (hk9 aT (AD 5) (BB 5)), (hk10 aT (AD 5) (BB 5)), (hk0 (AD 6) (BB 6)), (hk1 (AD 6) (NH 6)), (hk2 aT (AD 6) (BB 6)), (hk3 aT (AD 6) (BB 6)), (hk4 aT (AD 6) (BB 6)), (hk5 (AD 6) (BB 6) (NM 6)), (hk6 aT (AD 6) (BB 6)), (hk7 aT (AD 6) (BB 6)), (hk8 aT (AD 6) (BB 6)), (hk9 aT (AD 6) (BB 6)), (hk10 aT (AD 6) (BB 6)), (hk0 (AD 7) (BB 7)), (hk1 (AD 7) (NH 7)), (hk2 aT (AD 7) (BB 7)), (hk3 aT (AD 7) (BB 7)), (hk4 aT (AD 7) (BB 7)), (hk5 (AD 7) (BB 7) (NM 7)), (hk6 aT (AD 7) (BB 7)), (hk7 aT (AD 7) (BB 7)), (hk8 aT (AD 7) (BB 7)), (hk9 aT (AD 7) (BB 7)), (hk10 aT (AD 7) (BB 7)), (hk0 (AD 8) (BB 8)), (hk1 (AD 8) (NH 8)), (hk2 aT (AD 8) (BB 8)), (hk3 aT (AD 8) (BB 8)), (hk4 aT (AD 8) (BB 8)), (hk5 (AD 8) (BB 8) (NM 8)), (hk6 aT (AD 8) (BB 8)), (hk7 aT (AD 8) (BB 8)), (hk8 aT (AD 8) (BB 8)), (hk9 aT (AD 8) (BB 8)), (hk10 aT (AD 8) (BB 8))] (qI D aT (fun r W1 => ∃ (W2 : va_W) (o2 : Nat → Int64), ((∃ r0 : Int32, r = nI 0 ∧ o2 0 = r0.toInt64 ∧ (fun r W1 => ∃ (q : Nat) (AD2 : Nat → Nat → Nat) (BB2 : Nat → Nat → Nat → Int32) (NH2 NM2 : Nat → Nat) (hc2 : Nat) (b2 : Nat → Nat → Int32), (fnd (fun k => M (29 + 4 * k)) x nm = some q ∧ 0 < nh ∧ tipB (prM M) q nm = true ∧ r = nI (votC M q)) ∧ BlC b2 (nh) (nm - 1) (votF M q) ∧ hc2 = min hc 7 + 1 ∧ HiC BB2 NH2 NM2 hc2 (nxP PR hc M) Bd ∧ W1 = ([(x0, .inr (12, [.ref a0, .ref v0, .ref h0, .ref t0, .ref p0, .ref o0, .int (bI sv), .int le, .int lf])), (a0, .inr (10, [.ref a1, .ref a5, .ref a10, .int (b2 8 1), .int (b2 8 2), .int (b2 8 3), .int (b2 8 4), .int (b2 8 5), .int (b2 8 6), .int (b2 8 7), .int (b2 8 8)])), (a1, .inr (6, [.ref a2, .ref a3, .ref a4, .int (nI nh)])), (a2, .inl (aT 0, 6, .inl (b2 0))), (a3, .inl (aT 0, 6, .inl (b2 1))), (a4, .inl (aT 0, 6, .inl (b2 2))), (a5, .inr (8, [.ref a6, .ref a7, .ref a8, .ref a9, .int (nI (nm - 1)), .int (b2 8 0)])), (a6, .inl (aT 0, 12, .inl (b2 3))), (a7, .inl (aT 0, 12, .inl (b2 4))), (a8, .inl (aT 0, 12, .inl (b2 5))), (a9, .inl (aT 0, 12, .inl (b2 6))), (a10, .inl (aT 0, 4, .inl (b2 7))), (h0, .inr (7, [.ref h1, .int (nI hc2)])), (h1, .inl (aT 5, 9, .inr (.inr (.inr (.inr (fun j => some (AD2 j 0))))))), (hk0 (AD2 0) (BB2 0)), (hk1 (AD2 0) (NH2 0)), (hk2 aT (AD2 0) (BB2 0)), (hk3 aT (AD2 0) (BB2 0)), (hk4 aT (AD2 0) (BB2 0)), (hk5 (AD2 0) (BB2 0) (NM2 0)), (hk6 aT (AD2 0) (BB2 0)), (hk7 aT (AD2 0) (BB2 0)), (hk8 aT (AD2 0) (BB2 0)), (hk9 aT (AD2 0) (BB2 0)), (hk10 aT (AD2 0) (BB2 0)), (hk0 (AD2 1) (BB2 1)), (hk1 (AD2 1) (NH2 1)), (hk2 aT (AD2 1) (BB2 1)), (hk3 aT (AD2 1) (BB2 1)), (hk4 aT (AD2 1) (BB2 1)), (hk5 (AD2 1) (BB2 1) (NM2 1)), (hk6 aT (AD2 1) (BB2 1)), (hk7 aT (AD2 1) (BB2 1)), (hk8 aT (AD2 1) (BB2 1)), (hk9 aT (AD2 1) (BB2 1)), (hk10 aT (AD2 1) (BB2 1)), (hk0 (AD2 2) (BB2 2)), (hk1 (AD2 2) (NH2 2)), (hk2 aT (AD2 2) (BB2 2)), (hk3 aT (AD2 2) (BB2 2)), (hk4 aT (AD2 2) (BB2 2)), (hk5 (AD2 2) (BB2 2) (NM2 2)), (hk6 aT (AD2 2) (BB2 2)), (hk7 aT (AD2 2) (BB2 2)), (hk8 aT (AD2 2) (BB2 2)), (hk9 aT (AD2 2) (BB2 2)), (hk10 aT (AD2 2) (BB2 2)), (hk0 (AD2 3) (BB2 3)), (hk1 (AD2 3) (NH2 3)), (hk2 aT (AD2 3) (BB2 3)), (hk3 aT (AD2 3) (BB2 3)), (hk4 aT (AD2 3) (BB2 3)), (hk5 (AD2 3) (BB2 3) (NM2 3)), (hk6 aT (AD2 3) (BB2 3)), (hk7 aT (AD2 3) (BB2 3)), (hk8 aT (AD2 3) (BB2 3)), (hk9 aT (AD2 3) (BB2 3)), (hk10 aT (AD2 3) (BB2 3)), (hk0 (AD2 4) (BB2 4)), (hk1 (AD2 4) (NH2 4)), (hk2 aT (AD2 4) (BB2 4)), (hk3 aT (AD2 4) (BB2 4)), (hk4 aT (AD2 4) (BB2 4)), (hk5 (AD2 4) (BB2 4) (NM2 4)), (hk6 aT (AD2 4) (BB2 4)), (hk7 aT (AD2 4) (BB2 4)), (hk8 aT (AD2 4) (BB2 4)), (hk9 aT (AD2 4) (BB2 4)), (hk10 aT (AD2 4) (BB2 4)), (hk0 (AD2 5) (BB2 5)), (hk1 (AD2 5) (NH2 5)), (hk2 aT (AD2 5) (BB2 5)), (hk3 aT (AD2 5) (BB2 5)), (hk4 aT (AD2 5) (BB2 5)), (hk5 (AD2 5) (BB2 5) (NM2 5)), (hk6 aT (AD2 5) (BB2 5)), (hk7 aT (AD2 5) (BB2 5)), (hk8 aT (AD2 5) (BB2 5)), (hk9 aT (AD2 5) (BB2 5)), (hk10 aT (AD2 5) (BB2 5)), (hk0 (AD2 6) (BB2 6)), (hk1 (AD2 6) (NH2 6)), (hk2 aT (AD2 6) (BB2 6)), (hk3 aT (AD2 6) (BB2 6)), (hk4 aT (AD2 6) (BB2 6)), (hk5 (AD2 6) (BB2 6) (NM2 6)), (hk6 aT (AD2 6) (BB2 6)), (hk7 aT (AD2 6) (BB2 6)), (hk8 aT (AD2 6) (BB2 6)), (hk9 aT (AD2 6) (BB2 6)), (hk10 aT (AD2 6) (BB2 6)), (hk0 (AD2 7) (BB2 7)), (hk1 (AD2 7) (NH2 7)), (hk2 aT (AD2 7) (BB2 7)), (hk3 aT (AD2 7) (BB2 7)), (hk4 aT (AD2 7) (BB2 7)), (hk5 (AD2 7) (BB2 7) (NM2 7)), (hk6 aT (AD2 7) (BB2 7)), (hk7 aT (AD2 7) (BB2 7)), (hk8 aT (AD2 7) (BB2 7)), (hk9 aT (AD2 7) (BB2 7)), (hk10 aT (AD2 7) (BB2 7)), (hk0 (AD2 8) (BB2 8)), (hk1 (AD2 8) (NH2 8)), (hk2 aT (AD2 8) (BB2 8)), (hk3 aT (AD2 8) (BB2 8)), (hk4 aT (AD2 8) (BB2 8)), (hk5 (AD2 8) (BB2 8) (NM2 8)), (hk6 aT (AD2 8) (BB2 8)), (hk7 aT (AD2 8) (BB2 8)), (hk8 aT (AD2 8) (BB2 8)), (hk9 aT (AD2 8) (BB2 8)), (hk10 aT (AD2 8) (BB2 8))] : va_W)) r0 W2) ∨ (∃ E9 : String, (fun E W1 => ((E = "java/util/NoSuchElementException" ∧ fnd (fun k => M (29 + 4 * k)) x nm = none) ∨ (∃ q, fnd (fun k => M (29 + 4 * k)) x nm = some q ∧ E = "java/lang/IllegalStateException" ∧ (nh = 0 ∨ tipB (prM M) q nm = false))) ∧ ∃ (BB2 : Nat → Nat → Nat → Int32) (NH2 NM2 : Nat → Nat), HiC BB2 NH2 NM2 hc PR Bd ∧ W1 = ([(x0, .inr (12, [.ref a0, .ref v0, .ref h0, .ref t0, .ref p0, .ref o0, .int (bI sv), .int le, .int lf])), (a0, .inr (10, [.ref a1, .ref a5, .ref a10, .int (bb 8 1), .int (bb 8 2), .int (bb 8 3), .int (bb 8 4), .int (bb 8 5), .int (bb 8 6), .int (bb 8 7), .int (bb 8 8)])), (a1, .inr (6, [.ref a2, .ref a3, .ref a4, .int (nI nh)])), (a2, .inl (aT 0, 6, .inl (bb 0))), (a3, .inl (aT 0, 6, .inl (bb 1))), (a4, .inl (aT 0, 6, .inl (bb 2))), (a5, .inr (8, [.ref a6, .ref a7, .ref a8, .ref a9, .int (nI nm), .int (bb 8 0)])), (a6, .inl (aT 0, 12, .inl (bb 3))), (a7, .inl (aT 0, 12, .inl (bb 4))), (a8, .inl (aT 0, 12, .inl (bb 5))), (a9, .inl (aT 0, 12, .inl (bb 6))), (a10, .inl (aT 0, 4, .inl (bb 7))), (h0, .inr (7, [.ref h1, .int (nI hc)])), (h1, .inl (aT 5, 9, .inr (.inr (.inr (.inr (fun j => some (AD j 0))))))), (hk0 (AD 0) (BB2 0)), (hk1 (AD 0) (NH2 0)), (hk2 aT (AD 0) (BB2 0)), (hk3 aT (AD 0) (BB2 0)), (hk4 aT (AD 0) (BB2 0)), (hk5 (AD 0) (BB2 0) (NM2 0)), (hk6 aT (AD 0) (BB2 0)), (hk7 aT (AD 0) (BB2 0)), (hk8 aT (AD 0) (BB2 0)), (hk9 aT (AD 0) (BB2 0)), (hk10 aT (AD 0) (BB2 0)), (hk0 (AD 1) (BB2 1)), (hk1 (AD 1) (NH2 1)), (hk2 aT (AD 1) (BB2 1)), (hk3 aT (AD 1) (BB2 1)), (hk4 aT (AD 1) (BB2 1)), (hk5 (AD 1) (BB2 1) (NM2 1)), (hk6 aT (AD 1) (BB2 1)), (hk7 aT (AD 1) (BB2 1)), (hk8 aT (AD 1) (BB2 1)), (hk9 aT (AD 1) (BB2 1)), (hk10 aT (AD 1) (BB2 1)), (hk0 (AD 2) (BB2 2)), (hk1 (AD 2) (NH2 2)), (hk2 aT (AD 2) (BB2 2)), (hk3 aT (AD 2) (BB2 2)), (hk4 aT (AD 2) (BB2 2)), (hk5 (AD 2) (BB2 2) (NM2 2)), (hk6 aT (AD 2) (BB2 2)), (hk7 aT (AD 2) (BB2 2)), (hk8 aT (AD 2) (BB2 2)), (hk9 aT (AD 2) (BB2 2)), (hk10 aT (AD 2) (BB2 2)), (hk0 (AD 3) (BB2 3)), (hk1 (AD 3) (NH2 3)), (hk2 aT (AD 3) (BB2 3)), (hk3 aT (AD 3) (BB2 3)), (hk4 aT (AD 3) (BB2 3)), (hk5 (AD 3) (BB2 3) (NM2 3)), (hk6 aT (AD 3) (BB2 3)), (hk7 aT (AD 3) (BB2 3)), (hk8 aT (AD 3) (BB2 3)), (hk9 aT (AD 3) (BB2 3)), (hk10 aT (AD 3) (BB2 3)), (hk0 (AD 4) (BB2 4)), (hk1 (AD 4) (NH2 4)), (hk2 aT (AD 4) (BB2 4)), (hk3 aT (AD 4) (BB2 4)), (hk4 aT (AD 4) (BB2 4)), (hk5 (AD 4) (BB2 4) (NM2 4)), (hk6 aT (AD 4) (BB2 4)), (hk7 aT (AD 4) (BB2 4)), (hk8 aT (AD 4) (BB2 4)), (hk9 aT (AD 4) (BB2 4)), (hk10 aT (AD 4) (BB2 4)), (hk0 (AD 5) (BB2 5)), (hk1 (AD 5) (NH2 5)), (hk2 aT (AD 5) (BB2 5)), (hk3 aT (AD 5) (BB2 5)), (hk4 aT (AD 5) (BB2 5)), (hk5 (AD 5) (BB2 5) (NM2 5)), (hk6 aT (AD 5) (BB2 5)), (hk7 aT (AD 5) (BB2 5)), (hk8 aT (AD 5) (BB2 5)), (hk9 aT (AD 5) (BB2 5)), (hk10 aT (AD 5) (BB2 5)), (hk0 (AD 6) (BB2 6)), (hk1 (AD 6) (NH2 6)), (hk2 aT (AD 6) (BB2 6)), (hk3 aT (AD 6) (BB2 6)), (hk4 aT (AD 6) (BB2 6)), (hk5 (AD 6) (BB2 6) (NM2 6)), (hk6 aT (AD 6) (BB2 6)), (hk7 aT (AD 6) (BB2 6)), (hk8 aT (AD 6) (BB2 6)), (hk9 aT (AD 6) (BB2 6)), (hk10 aT (AD 6) (BB2 6)), (hk0 (AD 7) (BB2 7)), (hk1 (AD 7) (NH2 7)), (hk2 aT (AD 7) (BB2 7)), (hk3 aT (AD 7) (BB2 7)), (hk4 aT (AD 7) (BB2 7)), (hk5 (AD 7) (BB2 7) (NM2 7)), (hk6 aT (AD 7) (BB2 7)), (hk7 aT (AD 7) (BB2 7)), (hk8 aT (AD 7) (BB2 7)), (hk9 aT (AD 7) (BB2 7)), (hk10 aT (AD 7) (BB2 7)), (hk0 (AD 8) (BB2 8)), (hk1 (AD 8) (NH2 8)), (hk2 aT (AD 8) (BB2 8)), (hk3 aT (AD 8) (BB2 8)), (hk4 aT (AD 8) (BB2 8)), (hk5 (AD 8) (BB2 8) (NM2 8)), (hk6 aT (AD 8) (BB2 8)), (hk7 aT (AD 8) (BB2 8)), (hk8 aT (AD 8) (BB2 8)), (hk9 aT (AD 8) (BB2 8)), (hk10 aT (AD 8) (BB2 8))] : va_W)) E9 W2 ∧ ((E9 = "java/util/NoSuchElementException" ∧ r = nI 1) ∨ (E9 = "java/lang/IllegalStateException" ∧ r = nI 2)))) ∧ W1 = (([(u0, .inl (aT 2, 1, .inr (.inl o2)))] : va_W) ++ W2))) := by
  refine CxT.of RL (by decide +kernel) rfl (Nat.le_of_ble_eq_true rfl) ?_
  intro p e s m below meth c A ls C hml hl hA hr hlocks htb hZ hW
  have hl : lv_has ls 4 [(0, .ref x0), (1, .int x), (2, .ref u0)] := hl
  have hx := C.1
  have hb := C.2.1
  refine lv_aload_n hx hb dL_vote_0 rfl (lv_at hl 2 rfl) ?_
  refine lv_iconst (v := nI 0) hx hb dL_vote_1 (by decide) ?_
  refine lv_aload_n hx hb dL_vote_2 rfl (lv_at hl 0 rfl) ?_
  refine lv_iload_n hx hb dL_vote_3 rfl (lv_at hl 1 rfl) ?_
  refine cx_calli (cx_runV C hml hl.1 hZ hW hA (As := [.int x]) (rest := [.int (nI 0), .ref u0]) (k_X9_vote l hfl D aT x0 v0 t0 p0 o0 sv le lf a0 a1 a2 a3 a4 a5 a6 a7 a8 a9 a10 bb nh nm M Bd hBd hC hB h0 h1 AD BB NH NM hc PR hHi s0 hs0 hs4 x) gV_L_X9_vote_33 hV_X9_vote rfl ⟨Nat.le_of_ble_eq_true rfl, Nat.le_of_ble_eq_true rfl⟩ ⟨Nat.le_of_ble_eq_true rfl, Nat.le_of_ble_eq_true rfl⟩ [1, 2, 3, 4, 5, 6, 7, 8, 9, 10, 11, 12, 13, 14, 15, 16, 17, 18, 19, 20, 21, 22, 23, 24, 25, 26, 27, 28, 29, 30, 31, 32, 33, 34, 35, 36, 37, 38, 39, 40, 41, 42, 43, 44, 45, 46, 47, 48, 49, 50, 51, 52, 53, 54, 55, 56, 57, 58, 59, 60, 61, 62, 63, 64, 65, 66, 67, 68, 69, 70, 71, 72, 73, 74, 75, 76, 77, 78, 79, 80, 81, 82, 83, 84, 85, 86, 87, 88, 89, 90, 91, 92, 93, 94, 95, 96, 97, 98, 99, 100, 101, 102, 103, 104, 105, 106, 107, 108, 109, 110, 111, 112, 113] (pk_h [(1, 113)] 114 (by exact rfl) (by decide +kernel) (by decide +kernel) (by exact rfl)) (by decide +kernel) 1 12 rfl rfl rfl rfl (Nat.le_of_ble_eq_true rfl) dL_vote_4) hW hA [1, 2, 3, 4, 5, 6, 7, 8, 9, 10, 11, 12, 13, 14, 15, 16, 17, 18, 19, 20, 21, 22, 23, 24, 25, 26, 27, 28, 29, 30, 31, 32, 33, 34, 35, 36, 37, 38, 39, 40, 41, 42, 43, 44, 45, 46, 47, 48, 49, 50, 51, 52, 53, 54, 55, 56, 57, 58, 59, 60, 61, 62, 63, 64, 65, 66, 67, 68, 69, 70, 71, 72, 73, 74, 75, 76, 77, 78, 79, 80, 81, 82, 83, 84, 85, 86, 87, 88, 89, 90, 91, 92, 93, 94, 95, 96, 97, 98, 99, 100, 101, 102, 103, 104, 105, 106, 107, 108, 109, 110, 111, 112, 113] [0] (pk_h [(1, 113)] 114 (by exact rfl) (by decide +kernel) (by decide +kernel) (by exact rfl)) (pk_g [(0, 1)] 114 (by exact rfl) (by decide +kernel) (by decide +kernel)) (by decide +kernel) (by decide +kernel) ?_ (fun r_4 W_4 H locs hq hW => ?_)
  rotate_left
  obtain hq := hq
  have hW : CxB D (([(u0, .inl (aT 2, 1, .inr (.inl o)))] : va_W) ++ W_4) A s.heap H _ := hW
  refine lv_i2l (v := (r_4).toInt64) hx hb dL_vote_7 rfl ?_
  refine cx_last C hW 0 2 (j := 0) (W1 := (([(u0, .inl (aT 2, 1, .inr (.inl (vp_updL o 0 ((r_4).toInt64)))))] : va_W) ++ W_4)) rfl rfl rfl (by omega) (by decide) rfl dL_vote_8 (fun H locs hW => ?_)
  refine lv_goto (tgt := 18) hx hb dL_vote_9 (by decide) ?_
  refine lv_iconst (v := nI 0) hx hb dL_vote_18 (by decide) ?_
  exact cx_tret C hr hlocks rfl hW ⟨Nat.le_of_ble_eq_true rfl, Nat.le_of_ble_eq_true rfl⟩ (⟨W_4, _, Or.inl ⟨r_4, rfl, rfl, hq⟩, rfl⟩) dL_vote_19
  · intro E ce q9 W9 H locs hE hW h7 h8 h9
    have hE2 := hE
    rcases (show E = "java/util/NoSuchElementException" ∨ E = "java/lang/IllegalStateException" from by
      clear hW
      revert hE
      grind) with rfl | rfl
    · have hW : CxB D (([(u0, .inl (aT 2, 1, .inr (.inl o)))] : va_W) ++ W9) A s.heap H _ := hW
      refine cx_catchT C hZ (nm := "java/util/NoSuchElementException") [] ⟨0, 9, 12, 24⟩ (tableOf [(0, 9, 15, 15)]) htb (fun z hz => by cases hz) (by decide) (by decide) gw_690 nw_705 h7 h8 h9 ?_
      refine lv_astore_n (lv' := [(3, .ref q9), (0, .ref x0), (1, .int x), (2, .ref u0)]) hx hb dL_vote_12 rfl hl (by decide) rfl (fun ls hl => ?_)
      refine lv_iconst (v := nI 1) hx hb dL_vote_13 (by decide) ?_
      exact cx_tret C hr hlocks rfl hW ⟨Nat.le_of_ble_eq_true rfl, Nat.le_of_ble_eq_true rfl⟩ (⟨W9, _, Or.inr ⟨_, hE2, Or.inl ⟨rfl, rfl⟩⟩, rfl⟩) dL_vote_14
    · have hW : CxB D (([(u0, .inl (aT 2, 1, .inr (.inl o)))] : va_W) ++ W9) A s.heap H _ := hW
      refine cx_catchT C hZ (nm := "java/lang/IllegalStateException") [⟨0, 9, 12, 24⟩] ⟨0, 9, 15, 15⟩ (tableOf []) htb (fun z hz => by
          simp only [List.mem_cons, List.not_mem_nil, or_false] at hz
          rcases hz with rfl
          · exact Or.inr ⟨by decide, "java/util/NoSuchElementException", gw_690, List.mem_of_getElem? (i := 1) rfl⟩) (by decide) (by decide) gw_547 nw_637 h7 h8 h9 ?_
      refine lv_astore_n (lv' := [(3, .ref q9), (0, .ref x0), (1, .int x), (2, .ref u0)]) hx hb dL_vote_15 rfl hl (by decide) rfl (fun ls hl => ?_)
      refine lv_iconst (v := nI 2) hx hb dL_vote_16 (by decide) ?_
      exact cx_tret C hr hlocks rfl hW ⟨Nat.le_of_ble_eq_true rfl, Nat.le_of_ble_eq_true rfl⟩ (⟨W9, _, Or.inr ⟨_, hE2, Or.inr (⟨rfl, rfl⟩)⟩, rfl⟩) dL_vote_17
theorem dL_leaves_0 : decode cL_leaves 0 = .ok (.aload_n 2, 1) := by decide +kernel
theorem dL_leaves_1 : decode cL_leaves 1 = .ok (.iconst 0, 1) := by decide +kernel
theorem dL_leaves_2 : decode cL_leaves 2 = .ok (.aload_n 0, 1) := by decide +kernel
theorem dL_leaves_3 : decode cL_leaves 3 = .ok (.iload_n 1, 1) := by decide +kernel
theorem dL_leaves_4 : decode cL_leaves 4 = .ok (.invokevirtual 37, 3) := by decide +kernel
theorem dL_leaves_7 : decode cL_leaves 7 = .ok (.i2l, 1) := by decide +kernel
theorem dL_leaves_8 : decode cL_leaves 8 = .ok (.lastore, 1) := by decide +kernel
theorem dL_leaves_9 : decode cL_leaves 9 = .ok (.goto 6, 3) := by decide +kernel
theorem dL_leaves_12 : decode cL_leaves 12 = .ok (.astore_n 3, 1) := by decide +kernel
theorem dL_leaves_13 : decode cL_leaves 13 = .ok (.iconst 1, 1) := by decide +kernel
theorem dL_leaves_14 : decode cL_leaves 14 = .ok (.ireturn, 1) := by decide +kernel
theorem dL_leaves_15 : decode cL_leaves 15 = .ok (.iconst 0, 1) := by decide +kernel
theorem dL_leaves_16 : decode cL_leaves 16 = .ok (.ireturn, 1) := by decide +kernel
theorem gV_L_X9_leaves_37 : GoodIn gw (wsV RL 37 RX9 yX9_leaves (Cond.code yX9_leaves cX9_leaves 2 (some .int) :: gw)) := gdV gw_823 gw_824 gw_825 gw_67 gw_826
theorem hV_X9_leaves : yX9_leaves.cls = RX9 ∧ yX9_leaves.cls ≠ "java/lang/invoke/MethodHandle" ∧ yX9_leaves.cls ≠ "java/lang/invoke/VarHandle" ∧ (parseMethodDescriptor yX9_leaves.desc).map (fun d => d.parameters.length) = some 1 := ⟨rfl, by decide +kernel, by decide +kernel, by decide +kernel⟩
set_option maxHeartbeats 2000000 in
set_option maxRecDepth 20000 in
theorem k_L_leaves (l : Launch) (hfl : l.stackTraces = false) (D : va_G) (aT : Nat → ClassId) (u0 : Nat) (o : Nat → Int64) (x0 : Nat) (v0 : Nat) (t0 : Nat) (p0 : Nat) (o0 : Nat) (sv : Bool) (le : Int32) (lf : Int32) (h0 : Nat) (a0 : Nat) (a1 : Nat) (a2 : Nat) (a3 : Nat) (a4 : Nat) (a5 : Nat) (a6 : Nat) (a7 : Nat) (a8 : Nat) (a9 : Nat) (a10 : Nat) (bb : Nat → Nat → Int32) (nh : Nat) (nm : Nat) (M : Nat → Int32) (Bd : Nat) (hBd : Bd < 1048000) (hC : CoW M Bd) (hB : BlC bb nh nm M) (x : Int32) : CxT l yL_leaves cL_leaves 4 (some (.int)) [(0, 9, 12, 40)] 8 1 6 132 D aT [.ref x0, .int x, .ref u0] [(u0, .inl (aT 2, 1, .inr (.inl o))), (x0, .inr (12, [.ref a0, .ref v0, .ref h0, .ref t0, .ref p0, .ref o0, .int (bI sv), .int le, .int lf])), (a0, .inr (10, [.ref a1, .ref a5, .ref a10, .int (bb 8 1), .int (bb 8 2), .int (bb 8 3), .int (bb 8 4), .int (bb 8 5), .int (bb 8 6), .int (bb 8 7), .int (bb 8 8)])), (a1, .inr (6, [.ref a2, .ref a3, .ref a4, .int (nI nh)])), (a2, .inl (aT 0, 6, .inl (bb 0))), (a3, .inl (aT 0, 6, .inl (bb 1))), (a4, .inl (aT 0, 6, .inl (bb 2))), (a5, .inr (8, [.ref a6, .ref a7, .ref a8, .ref a9, .int (nI nm), .int (bb 8 0)])), (a6, .inl (aT 0, 12, .inl (bb 3))), (a7, .inl (aT 0, 12, .inl (bb 4))), (a8, .inl (aT 0, 12, .inl (bb 5))), (a9, .inl (aT 0, 12, .inl (bb 6))), (a10, .inl (aT 0, 4, .inl (bb 7)))] (qI D aT (fun r W1 => ∃ (W2 : va_W) (o2 : Nat → Int64), ((∃ r0 : Int32, r = nI 0 ∧ o2 0 = r0.toInt64 ∧ (fun r W1 => (∃ i, i < nh ∧ x = nI i ∧ r = nI (lvM M i)) ∧ W1 = ([(x0, .inr (12, [.ref a0, .ref v0, .ref h0, .ref t0, .ref p0, .ref o0, .int (bI sv), .int le, .int lf])), (a0, .inr (10, [.ref a1, .ref a5, .ref a10, .int (bb 8 1), .int (bb 8 2), .int (bb 8 3), .int (bb 8 4), .int (bb 8 5), .int (bb 8 6), .int (bb 8 7), .int (bb 8 8)])), (a1, .inr (6, [.ref a2, .ref a3, .ref a4, .int (nI nh)])), (a2, .inl (aT 0, 6, .inl (bb 0))), (a3, .inl (aT 0, 6, .inl (bb 1))), (a4, .inl (aT 0, 6, .inl (bb 2))), (a5, .inr (8, [.ref a6, .ref a7, .ref a8, .ref a9, .int (nI nm), .int (bb 8 0)])), (a6, .inl (aT 0, 12, .inl (bb 3))), (a7, .inl (aT 0, 12, .inl (bb 4))), (a8, .inl (aT 0, 12, .inl (bb 5))), (a9, .inl (aT 0, 12, .inl (bb 6))), (a10, .inl (aT 0, 4, .inl (bb 7)))] : va_W)) r0 W2) ∨ (∃ E9 : String, (fun E W1 => (E = "java/lang/IndexOutOfBoundsException" ∧ isHB nh x = false) ∧ W1 = ([(x0, .inr (12, [.ref a0, .ref v0, .ref h0, .ref t0, .ref p0, .ref o0, .int (bI sv), .int le, .int lf])), (a0, .inr (10, [.ref a1, .ref a5, .ref a10, .int (bb 8 1), .int (bb 8 2), .int (bb 8 3), .int (bb 8 4), .int (bb 8 5), .int (bb 8 6), .int (bb 8 7), .int (bb 8 8)])), (a1, .inr (6, [.ref a2, .ref a3, .ref a4, .int (nI nh)])), (a2, .inl (aT 0, 6, .inl (bb 0))), (a3, .inl (aT 0, 6, .inl (bb 1))), (a4, .inl (aT 0, 6, .inl (bb 2))), (a5, .inr (8, [.ref a6, .ref a7, .ref a8, .ref a9, .int (nI nm), .int (bb 8 0)])), (a6, .inl (aT 0, 12, .inl (bb 3))), (a7, .inl (aT 0, 12, .inl (bb 4))), (a8, .inl (aT 0, 12, .inl (bb 5))), (a9, .inl (aT 0, 12, .inl (bb 6))), (a10, .inl (aT 0, 4, .inl (bb 7)))] : va_W)) E9 W2 ∧ ((E9 = "java/lang/IndexOutOfBoundsException" ∧ r = nI 1)))) ∧ W1 = (([(u0, .inl (aT 2, 1, .inr (.inl o2)))] : va_W) ++ W2))) := by
  refine CxT.of RL (by decide +kernel) rfl (Nat.le_of_ble_eq_true rfl) ?_
  intro p e s m below meth c A ls C hml hl hA hr hlocks htb hZ hW
  have hl : lv_has ls 4 [(0, .ref x0), (1, .int x), (2, .ref u0)] := hl
  have hx := C.1
  have hb := C.2.1
  refine lv_aload_n hx hb dL_leaves_0 rfl (lv_at hl 2 rfl) ?_
  refine lv_iconst (v := nI 0) hx hb dL_leaves_1 (by decide) ?_
  refine lv_aload_n hx hb dL_leaves_2 rfl (lv_at hl 0 rfl) ?_
  refine lv_iload_n hx hb dL_leaves_3 rfl (lv_at hl 1 rfl) ?_
  refine cx_calli (Wr := [(u0, .inl (aT 2, 1, .inr (.inl o)))]) (cx_runV C hml hl.1 hZ hW hA (As := [.int x]) (rest := [.int (nI 0), .ref u0]) (k_X9_leaves l hfl D aT x0 v0 t0 p0 o0 sv le lf h0 a0 a1 a2 a3 a4 a5 a6 a7 a8 a9 a10 bb nh nm M Bd hBd hC hB x) gV_L_X9_leaves_37 hV_X9_leaves rfl ⟨Nat.le_of_ble_eq_true rfl, Nat.le_of_ble_eq_true rfl⟩ ⟨Nat.le_of_ble_eq_true rfl, Nat.le_of_ble_eq_true rfl⟩ [1, 2, 3, 4, 5, 6, 7, 8, 9, 10, 11, 12] rfl (by decide) 1 12 rfl rfl rfl rfl (Nat.le_of_ble_eq_true rfl) dL_leaves_4) hW hA [1, 2, 3, 4, 5, 6, 7, 8, 9, 10, 11, 12] [0] rfl rfl (by decide) (by decide) ?_ (fun r_4 W_4 H locs hq hW => ?_)
  rotate_left
  obtain hq := hq
  have hW : CxB D (([(u0, .inl (aT 2, 1, .inr (.inl o)))] : va_W) ++ W_4) A s.heap H _ := hW
  refine lv_i2l (v := (r_4).toInt64) hx hb dL_leaves_7 rfl ?_
  refine cx_last C hW 0 2 (j := 0) (W1 := (([(u0, .inl (aT 2, 1, .inr (.inl (vp_updL o 0 ((r_4).toInt64)))))] : va_W) ++ W_4)) rfl rfl rfl (by omega) (by decide) rfl dL_leaves_8 (fun H locs hW => ?_)
  refine lv_goto (tgt := 15) hx hb dL_leaves_9 (by decide) ?_
  refine lv_iconst (v := nI 0) hx hb dL_leaves_15 (by decide) ?_
  exact cx_tret C hr hlocks rfl hW ⟨Nat.le_of_ble_eq_true rfl, Nat.le_of_ble_eq_true rfl⟩ (⟨W_4, _, Or.inl ⟨r_4, rfl, rfl, hq⟩, rfl⟩) dL_leaves_16
  · intro E ce q9 W9 H locs hE hW h7 h8 h9
    have hE2 := hE
    rcases (show E = "java/lang/IndexOutOfBoundsException" from by
      clear hW
      revert hE
      grind) with rfl
    · have hW : CxB D (([(u0, .inl (aT 2, 1, .inr (.inl o)))] : va_W) ++ W9) A s.heap H _ := hW
      refine cx_catchT C hZ (nm := "java/lang/IndexOutOfBoundsException") [] ⟨0, 9, 12, 40⟩ (tableOf []) htb (fun z hz => by cases hz) (by decide) (by decide) gw_799 nw_837 h7 h8 h9 ?_
      refine lv_astore_n (lv' := [(3, .ref q9), (0, .ref x0), (1, .int x), (2, .ref u0)]) hx hb dL_leaves_12 rfl hl (by decide) rfl (fun ls hl => ?_)
      refine lv_iconst (v := nI 1) hx hb dL_leaves_13 (by decide) ?_
      exact cx_tret C hr hlocks rfl hW ⟨Nat.le_of_ble_eq_true rfl, Nat.le_of_ble_eq_true rfl⟩ (⟨W9, _, Or.inr ⟨_, hE2, ⟨rfl, rfl⟩⟩, rfl⟩) dL_leaves_14
theorem dL_thorns_0 : decode cL_thorns 0 = .ok (.aload_n 2, 1) := by decide +kernel
theorem dL_thorns_1 : decode cL_thorns 1 = .ok (.iconst 0, 1) := by decide +kernel
theorem dL_thorns_2 : decode cL_thorns 2 = .ok (.aload_n 0, 1) := by decide +kernel
theorem dL_thorns_3 : decode cL_thorns 3 = .ok (.iload_n 1, 1) := by decide +kernel
theorem dL_thorns_4 : decode cL_thorns 4 = .ok (.invokevirtual 42, 3) := by decide +kernel
theorem dL_thorns_7 : decode cL_thorns 7 = .ok (.i2l, 1) := by decide +kernel
theorem dL_thorns_8 : decode cL_thorns 8 = .ok (.lastore, 1) := by decide +kernel
theorem dL_thorns_9 : decode cL_thorns 9 = .ok (.goto 6, 3) := by decide +kernel
theorem dL_thorns_12 : decode cL_thorns 12 = .ok (.astore_n 3, 1) := by decide +kernel
theorem dL_thorns_13 : decode cL_thorns 13 = .ok (.iconst 1, 1) := by decide +kernel
theorem dL_thorns_14 : decode cL_thorns 14 = .ok (.ireturn, 1) := by decide +kernel
theorem dL_thorns_15 : decode cL_thorns 15 = .ok (.iconst 0, 1) := by decide +kernel
theorem dL_thorns_16 : decode cL_thorns 16 = .ok (.ireturn, 1) := by decide +kernel
theorem gV_L_X9_thorns_42 : GoodIn gw (wsV RL 42 RX9 yX9_thorns (Cond.code yX9_thorns cX9_thorns 2 (some .int) :: gw)) := gdV gw_851 gw_852 gw_853 gw_67 gw_854
theorem hV_X9_thorns : yX9_thorns.cls = RX9 ∧ yX9_thorns.cls ≠ "java/lang/invoke/MethodHandle" ∧ yX9_thorns.cls ≠ "java/lang/invoke/VarHandle" ∧ (parseMethodDescriptor yX9_thorns.desc).map (fun d => d.parameters.length) = some 1 := ⟨rfl, by decide +kernel, by decide +kernel, by decide +kernel⟩
set_option maxHeartbeats 2000000 in
set_option maxRecDepth 20000 in
theorem k_L_thorns (l : Launch) (hfl : l.stackTraces = false) (D : va_G) (aT : Nat → ClassId) (u0 : Nat) (o : Nat → Int64) (x0 : Nat) (v0 : Nat) (t0 : Nat) (p0 : Nat) (o0 : Nat) (sv : Bool) (le : Int32) (lf : Int32) (h0 : Nat) (a0 : Nat) (a1 : Nat) (a2 : Nat) (a3 : Nat) (a4 : Nat) (a5 : Nat) (a6 : Nat) (a7 : Nat) (a8 : Nat) (a9 : Nat) (a10 : Nat) (bb : Nat → Nat → Int32) (nh : Nat) (nm : Nat) (M : Nat → Int32) (Bd : Nat) (hBd : Bd < 1048000) (hC : CoW M Bd) (hB : BlC bb nh nm M) (x : Int32) : CxT l yL_thorns cL_thorns 4 (some (.int)) [(0, 9, 12, 40)] 8 1 6 132 D aT [.ref x0, .int x, .ref u0] [(u0, .inl (aT 2, 1, .inr (.inl o))), (x0, .inr (12, [.ref a0, .ref v0, .ref h0, .ref t0, .ref p0, .ref o0, .int (bI sv), .int le, .int lf])), (a0, .inr (10, [.ref a1, .ref a5, .ref a10, .int (bb 8 1), .int (bb 8 2), .int (bb 8 3), .int (bb 8 4), .int (bb 8 5), .int (bb 8 6), .int (bb 8 7), .int (bb 8 8)])), (a1, .inr (6, [.ref a2, .ref a3, .ref a4, .int (nI nh)])), (a2, .inl (aT 0, 6, .inl (bb 0))), (a3, .inl (aT 0, 6, .inl (bb 1))), (a4, .inl (aT 0, 6, .inl (bb 2))), (a5, .inr (8, [.ref a6, .ref a7, .ref a8, .ref a9, .int (nI nm), .int (bb 8 0)])), (a6, .inl (aT 0, 12, .inl (bb 3))), (a7, .inl (aT 0, 12, .inl (bb 4))), (a8, .inl (aT 0, 12, .inl (bb 5))), (a9, .inl (aT 0, 12, .inl (bb 6))), (a10, .inl (aT 0, 4, .inl (bb 7)))] (qI D aT (fun r W1 => ∃ (W2 : va_W) (o2 : Nat → Int64), ((∃ r0 : Int32, r = nI 0 ∧ o2 0 = r0.toInt64 ∧ (fun r W1 => (∃ i, i < nh ∧ x = nI i ∧ r = nI (thM M i)) ∧ W1 = ([(x0, .inr (12, [.ref a0, .ref v0, .ref h0, .ref t0, .ref p0, .ref o0, .int (bI sv), .int le, .int lf])), (a0, .inr (10, [.ref a1, .ref a5, .ref a10, .int (bb 8 1), .int (bb 8 2), .int (bb 8 3), .int (bb 8 4), .int (bb 8 5), .int (bb 8 6), .int (bb 8 7), .int (bb 8 8)])), (a1, .inr (6, [.ref a2, .ref a3, .ref a4, .int (nI nh)])), (a2, .inl (aT 0, 6, .inl (bb 0))), (a3, .inl (aT 0, 6, .inl (bb 1))), (a4, .inl (aT 0, 6, .inl (bb 2))), (a5, .inr (8, [.ref a6, .ref a7, .ref a8, .ref a9, .int (nI nm), .int (bb 8 0)])), (a6, .inl (aT 0, 12, .inl (bb 3))), (a7, .inl (aT 0, 12, .inl (bb 4))), (a8, .inl (aT 0, 12, .inl (bb 5))), (a9, .inl (aT 0, 12, .inl (bb 6))), (a10, .inl (aT 0, 4, .inl (bb 7)))] : va_W)) r0 W2) ∨ (∃ E9 : String, (fun E W1 => (E = "java/lang/IndexOutOfBoundsException" ∧ isHB nh x = false) ∧ W1 = ([(x0, .inr (12, [.ref a0, .ref v0, .ref h0, .ref t0, .ref p0, .ref o0, .int (bI sv), .int le, .int lf])), (a0, .inr (10, [.ref a1, .ref a5, .ref a10, .int (bb 8 1), .int (bb 8 2), .int (bb 8 3), .int (bb 8 4), .int (bb 8 5), .int (bb 8 6), .int (bb 8 7), .int (bb 8 8)])), (a1, .inr (6, [.ref a2, .ref a3, .ref a4, .int (nI nh)])), (a2, .inl (aT 0, 6, .inl (bb 0))), (a3, .inl (aT 0, 6, .inl (bb 1))), (a4, .inl (aT 0, 6, .inl (bb 2))), (a5, .inr (8, [.ref a6, .ref a7, .ref a8, .ref a9, .int (nI nm), .int (bb 8 0)])), (a6, .inl (aT 0, 12, .inl (bb 3))), (a7, .inl (aT 0, 12, .inl (bb 4))), (a8, .inl (aT 0, 12, .inl (bb 5))), (a9, .inl (aT 0, 12, .inl (bb 6))), (a10, .inl (aT 0, 4, .inl (bb 7)))] : va_W)) E9 W2 ∧ ((E9 = "java/lang/IndexOutOfBoundsException" ∧ r = nI 1)))) ∧ W1 = (([(u0, .inl (aT 2, 1, .inr (.inl o2)))] : va_W) ++ W2))) := by
  refine CxT.of RL (by decide +kernel) rfl (Nat.le_of_ble_eq_true rfl) ?_
  intro p e s m below meth c A ls C hml hl hA hr hlocks htb hZ hW
  have hl : lv_has ls 4 [(0, .ref x0), (1, .int x), (2, .ref u0)] := hl
  have hx := C.1
  have hb := C.2.1
  refine lv_aload_n hx hb dL_thorns_0 rfl (lv_at hl 2 rfl) ?_
  refine lv_iconst (v := nI 0) hx hb dL_thorns_1 (by decide) ?_
  refine lv_aload_n hx hb dL_thorns_2 rfl (lv_at hl 0 rfl) ?_
  refine lv_iload_n hx hb dL_thorns_3 rfl (lv_at hl 1 rfl) ?_
  refine cx_calli (Wr := [(u0, .inl (aT 2, 1, .inr (.inl o)))]) (cx_runV C hml hl.1 hZ hW hA (As := [.int x]) (rest := [.int (nI 0), .ref u0]) (k_X9_thorns l hfl D aT x0 v0 t0 p0 o0 sv le lf h0 a0 a1 a2 a3 a4 a5 a6 a7 a8 a9 a10 bb nh nm M Bd hBd hC hB x) gV_L_X9_thorns_42 hV_X9_thorns rfl ⟨Nat.le_of_ble_eq_true rfl, Nat.le_of_ble_eq_true rfl⟩ ⟨Nat.le_of_ble_eq_true rfl, Nat.le_of_ble_eq_true rfl⟩ [1, 2, 3, 4, 5, 6, 7, 8, 9, 10, 11, 12] rfl (by decide) 1 12 rfl rfl rfl rfl (Nat.le_of_ble_eq_true rfl) dL_thorns_4) hW hA [1, 2, 3, 4, 5, 6, 7, 8, 9, 10, 11, 12] [0] rfl rfl (by decide) (by decide) ?_ (fun r_4 W_4 H locs hq hW => ?_)
  rotate_left
  obtain hq := hq
  have hW : CxB D (([(u0, .inl (aT 2, 1, .inr (.inl o)))] : va_W) ++ W_4) A s.heap H _ := hW
  refine lv_i2l (v := (r_4).toInt64) hx hb dL_thorns_7 rfl ?_
  refine cx_last C hW 0 2 (j := 0) (W1 := (([(u0, .inl (aT 2, 1, .inr (.inl (vp_updL o 0 ((r_4).toInt64)))))] : va_W) ++ W_4)) rfl rfl rfl (by omega) (by decide) rfl dL_thorns_8 (fun H locs hW => ?_)
  refine lv_goto (tgt := 15) hx hb dL_thorns_9 (by decide) ?_
  refine lv_iconst (v := nI 0) hx hb dL_thorns_15 (by decide) ?_
  exact cx_tret C hr hlocks rfl hW ⟨Nat.le_of_ble_eq_true rfl, Nat.le_of_ble_eq_true rfl⟩ (⟨W_4, _, Or.inl ⟨r_4, rfl, rfl, hq⟩, rfl⟩) dL_thorns_16
  · intro E ce q9 W9 H locs hE hW h7 h8 h9
    have hE2 := hE
    rcases (show E = "java/lang/IndexOutOfBoundsException" from by
      clear hW
      revert hE
      grind) with rfl
    · have hW : CxB D (([(u0, .inl (aT 2, 1, .inr (.inl o)))] : va_W) ++ W9) A s.heap H _ := hW
      refine cx_catchT C hZ (nm := "java/lang/IndexOutOfBoundsException") [] ⟨0, 9, 12, 40⟩ (tableOf []) htb (fun z hz => by cases hz) (by decide) (by decide) gw_799 nw_837 h7 h8 h9 ?_
      refine lv_astore_n (lv' := [(3, .ref q9), (0, .ref x0), (1, .int x), (2, .ref u0)]) hx hb dL_thorns_12 rfl hl (by decide) rfl (fun ls hl => ?_)
      refine lv_iconst (v := nI 1) hx hb dL_thorns_13 (by decide) ?_
      exact cx_tret C hr hlocks rfl hW ⟨Nat.le_of_ble_eq_true rfl, Nat.le_of_ble_eq_true rfl⟩ (⟨W9, _, Or.inr ⟨_, hE2, ⟨rfl, rfl⟩⟩, rfl⟩) dL_thorns_14
theorem dL_hedgeAtRank_0 : decode cL_hedgeAtRank 0 = .ok (.aload_n 2, 1) := by decide +kernel
theorem dL_hedgeAtRank_1 : decode cL_hedgeAtRank 1 = .ok (.iconst 0, 1) := by decide +kernel
theorem dL_hedgeAtRank_2 : decode cL_hedgeAtRank 2 = .ok (.aload_n 0, 1) := by decide +kernel
theorem dL_hedgeAtRank_3 : decode cL_hedgeAtRank 3 = .ok (.iload_n 1, 1) := by decide +kernel
theorem dL_hedgeAtRank_4 : decode cL_hedgeAtRank 4 = .ok (.invokevirtual 45, 3) := by decide +kernel
theorem dL_hedgeAtRank_7 : decode cL_hedgeAtRank 7 = .ok (.i2l, 1) := by decide +kernel
theorem dL_hedgeAtRank_8 : decode cL_hedgeAtRank 8 = .ok (.lastore, 1) := by decide +kernel
theorem dL_hedgeAtRank_9 : decode cL_hedgeAtRank 9 = .ok (.goto 6, 3) := by decide +kernel
theorem dL_hedgeAtRank_12 : decode cL_hedgeAtRank 12 = .ok (.astore_n 3, 1) := by decide +kernel
theorem dL_hedgeAtRank_13 : decode cL_hedgeAtRank 13 = .ok (.iconst 1, 1) := by decide +kernel
theorem dL_hedgeAtRank_14 : decode cL_hedgeAtRank 14 = .ok (.ireturn, 1) := by decide +kernel
theorem dL_hedgeAtRank_15 : decode cL_hedgeAtRank 15 = .ok (.iconst 0, 1) := by decide +kernel
theorem dL_hedgeAtRank_16 : decode cL_hedgeAtRank 16 = .ok (.ireturn, 1) := by decide +kernel
theorem gV_L_X9_hedgeAtRank_45 : GoodIn gw (wsV RL 45 RX9 yX9_hedgeAtRank (Cond.code yX9_hedgeAtRank cX9_hedgeAtRank 2 (some .int) :: gw)) := gdV gw_858 gw_859 gw_860 gw_67 gw_861
theorem hV_X9_hedgeAtRank : yX9_hedgeAtRank.cls = RX9 ∧ yX9_hedgeAtRank.cls ≠ "java/lang/invoke/MethodHandle" ∧ yX9_hedgeAtRank.cls ≠ "java/lang/invoke/VarHandle" ∧ (parseMethodDescriptor yX9_hedgeAtRank.desc).map (fun d => d.parameters.length) = some 1 := ⟨rfl, by decide +kernel, by decide +kernel, by decide +kernel⟩
set_option maxHeartbeats 2000000 in
set_option maxRecDepth 20000 in
theorem k_L_hedgeAtRank (l : Launch) (hfl : l.stackTraces = false) (D : va_G) (aT : Nat → ClassId) (u0 : Nat) (o : Nat → Int64) (x0 : Nat) (v0 : Nat) (t0 : Nat) (p0 : Nat) (o0 : Nat) (sv : Bool) (le : Int32) (lf : Int32) (h0 : Nat) (a0 : Nat) (a1 : Nat) (a2 : Nat) (a3 : Nat) (a4 : Nat) (a5 : Nat) (a6 : Nat) (a7 : Nat) (a8 : Nat) (a9 : Nat) (a10 : Nat) (bb : Nat → Nat → Int32) (nh : Nat) (nm : Nat) (M : Nat → Int32) (Bd : Nat) (hBd : Bd < 1048000) (hC : CoW M Bd) (hB : BlC bb nh nm M) (x : Int32) : CxT l yL_hedgeAtRank cL_hedgeAtRank 4 (some (.int)) [(0, 9, 12, 24)] 7 1 6 111 D aT [.ref x0, .int x, .ref u0] [(u0, .inl (aT 2, 1, .inr (.inl o))), (x0, .inr (12, [.ref a0, .ref v0, .ref h0, .ref t0, .ref p0, .ref o0, .int (bI sv), .int le, .int lf])), (a0, .inr (10, [.ref a1, .ref a5, .ref a10, .int (bb 8 1), .int (bb 8 2), .int (bb 8 3), .int (bb 8 4), .int (bb 8 5), .int (bb 8 6), .int (bb 8 7), .int (bb 8 8)])), (a1, .inr (6, [.ref a2, .ref a3, .ref a4, .int (nI nh)])), (a2, .inl (aT 0, 6, .inl (bb 0))), (a3, .inl (aT 0, 6, .inl (bb 1))), (a4, .inl (aT 0, 6, .inl (bb 2))), (a5, .inr (8, [.ref a6, .ref a7, .ref a8, .ref a9, .int (nI nm), .int (bb 8 0)])), (a6, .inl (aT 0, 12, .inl (bb 3))), (a7, .inl (aT 0, 12, .inl (bb 4))), (a8, .inl (aT 0, 12, .inl (bb 5))), (a9, .inl (aT 0, 12, .inl (bb 6))), (a10, .inl (aT 0, 4, .inl (bb 7)))] (qI D aT (fun r W1 => ∃ (W2 : va_W) (o2 : Nat → Int64), ((∃ r0 : Int32, r = nI 0 ∧ o2 0 = r0.toInt64 ∧ (fun r W1 => (isHB nh x = true ∧ r = nI (atR (hAh (lvM M) (thM M)) nh x nh)) ∧ W1 = ([(x0, .inr (12, [.ref a0, .ref v0, .ref h0, .ref t0, .ref p0, .ref o0, .int (bI sv), .int le, .int lf])), (a0, .inr (10, [.ref a1, .ref a5, .ref a10, .int (bb 8 1), .int (bb 8 2), .int (bb 8 3), .int (bb 8 4), .int (bb 8 5), .int (bb 8 6), .int (bb 8 7), .int (bb 8 8)])), (a1, .inr (6, [.ref a2, .ref a3, .ref a4, .int (nI nh)])), (a2, .inl (aT 0, 6, .inl (bb 0))), (a3, .inl (aT 0, 6, .inl (bb 1))), (a4, .inl (aT 0, 6, .inl (bb 2))), (a5, .inr (8, [.ref a6, .ref a7, .ref a8, .ref a9, .int (nI nm), .int (bb 8 0)])), (a6, .inl (aT 0, 12, .inl (bb 3))), (a7, .inl (aT 0, 12, .inl (bb 4))), (a8, .inl (aT 0, 12, .inl (bb 5))), (a9, .inl (aT 0, 12, .inl (bb 6))), (a10, .inl (aT 0, 4, .inl (bb 7)))] : va_W)) r0 W2) ∨ (∃ E9 : String, (fun E W1 => (E = "java/util/NoSuchElementException" ∧ isHB nh x = false) ∧ W1 = ([(x0, .inr (12, [.ref a0, .ref v0, .ref h0, .ref t0, .ref p0, .ref o0, .int (bI sv), .int le, .int lf])), (a0, .inr (10, [.ref a1, .ref a5, .ref a10, .int (bb 8 1), .int (bb 8 2), .int (bb 8 3), .int (bb 8 4), .int (bb 8 5), .int (bb 8 6), .int (bb 8 7), .int (bb 8 8)])), (a1, .inr (6, [.ref a2, .ref a3, .ref a4, .int (nI nh)])), (a2, .inl (aT 0, 6, .inl (bb 0))), (a3, .inl (aT 0, 6, .inl (bb 1))), (a4, .inl (aT 0, 6, .inl (bb 2))), (a5, .inr (8, [.ref a6, .ref a7, .ref a8, .ref a9, .int (nI nm), .int (bb 8 0)])), (a6, .inl (aT 0, 12, .inl (bb 3))), (a7, .inl (aT 0, 12, .inl (bb 4))), (a8, .inl (aT 0, 12, .inl (bb 5))), (a9, .inl (aT 0, 12, .inl (bb 6))), (a10, .inl (aT 0, 4, .inl (bb 7)))] : va_W)) E9 W2 ∧ ((E9 = "java/util/NoSuchElementException" ∧ r = nI 1)))) ∧ W1 = (([(u0, .inl (aT 2, 1, .inr (.inl o2)))] : va_W) ++ W2))) := by
  refine CxT.of RL (by decide +kernel) rfl (Nat.le_of_ble_eq_true rfl) ?_
  intro p e s m below meth c A ls C hml hl hA hr hlocks htb hZ hW
  have hl : lv_has ls 4 [(0, .ref x0), (1, .int x), (2, .ref u0)] := hl
  have hx := C.1
  have hb := C.2.1
  refine lv_aload_n hx hb dL_hedgeAtRank_0 rfl (lv_at hl 2 rfl) ?_
  refine lv_iconst (v := nI 0) hx hb dL_hedgeAtRank_1 (by decide) ?_
  refine lv_aload_n hx hb dL_hedgeAtRank_2 rfl (lv_at hl 0 rfl) ?_
  refine lv_iload_n hx hb dL_hedgeAtRank_3 rfl (lv_at hl 1 rfl) ?_
  refine cx_calli (Wr := [(u0, .inl (aT 2, 1, .inr (.inl o)))]) (cx_runV C hml hl.1 hZ hW hA (As := [.int x]) (rest := [.int (nI 0), .ref u0]) (k_X9_hedgeAtRank l hfl D aT x0 v0 t0 p0 o0 sv le lf h0 a0 a1 a2 a3 a4 a5 a6 a7 a8 a9 a10 bb nh nm M Bd hBd hC hB x) gV_L_X9_hedgeAtRank_45 hV_X9_hedgeAtRank rfl ⟨Nat.le_of_ble_eq_true rfl, Nat.le_of_ble_eq_true rfl⟩ ⟨Nat.le_of_ble_eq_true rfl, Nat.le_of_ble_eq_true rfl⟩ [1, 2, 3, 4, 5, 6, 7, 8, 9, 10, 11, 12] rfl (by decide) 1 12 rfl rfl rfl rfl (Nat.le_of_ble_eq_true rfl) dL_hedgeAtRank_4) hW hA [1, 2, 3, 4, 5, 6, 7, 8, 9, 10, 11, 12] [0] rfl rfl (by decide) (by decide) ?_ (fun r_4 W_4 H locs hq hW => ?_)
  rotate_left
  obtain hq := hq
  have hW : CxB D (([(u0, .inl (aT 2, 1, .inr (.inl o)))] : va_W) ++ W_4) A s.heap H _ := hW
  refine lv_i2l (v := (r_4).toInt64) hx hb dL_hedgeAtRank_7 rfl ?_
  refine cx_last C hW 0 2 (j := 0) (W1 := (([(u0, .inl (aT 2, 1, .inr (.inl (vp_updL o 0 ((r_4).toInt64)))))] : va_W) ++ W_4)) rfl rfl rfl (by omega) (by decide) rfl dL_hedgeAtRank_8 (fun H locs hW => ?_)
  refine lv_goto (tgt := 15) hx hb dL_hedgeAtRank_9 (by decide) ?_
  refine lv_iconst (v := nI 0) hx hb dL_hedgeAtRank_15 (by decide) ?_
  exact cx_tret C hr hlocks rfl hW ⟨Nat.le_of_ble_eq_true rfl, Nat.le_of_ble_eq_true rfl⟩ (⟨W_4, _, Or.inl ⟨r_4, rfl, rfl, hq⟩, rfl⟩) dL_hedgeAtRank_16
  · intro E ce q9 W9 H locs hE hW h7 h8 h9
    have hE2 := hE
    rcases (show E = "java/util/NoSuchElementException" from by
      clear hW
      revert hE
      grind) with rfl
    · have hW : CxB D (([(u0, .inl (aT 2, 1, .inr (.inl o)))] : va_W) ++ W9) A s.heap H _ := hW
      refine cx_catchT C hZ (nm := "java/util/NoSuchElementException") [] ⟨0, 9, 12, 24⟩ (tableOf []) htb (fun z hz => by cases hz) (by decide) (by decide) gw_690 nw_705 h7 h8 h9 ?_
      refine lv_astore_n (lv' := [(3, .ref q9), (0, .ref x0), (1, .int x), (2, .ref u0)]) hx hb dL_hedgeAtRank_12 rfl hl (by decide) rfl (fun ls hl => ?_)
      refine lv_iconst (v := nI 1) hx hb dL_hedgeAtRank_13 (by decide) ?_
      exact cx_tret C hr hlocks rfl hW ⟨Nat.le_of_ble_eq_true rfl, Nat.le_of_ble_eq_true rfl⟩ (⟨W9, _, Or.inr ⟨_, hE2, ⟨rfl, rfl⟩⟩, rfl⟩) dL_hedgeAtRank_14
theorem dL_leavesInFavour_0 : decode cL_leavesInFavour 0 = .ok (.aload_n 2, 1) := by decide +kernel
theorem dL_leavesInFavour_1 : decode cL_leavesInFavour 1 = .ok (.iconst 0, 1) := by decide +kernel
theorem dL_leavesInFavour_2 : decode cL_leavesInFavour 2 = .ok (.aload_n 0, 1) := by decide +kernel
theorem dL_leavesInFavour_3 : decode cL_leavesInFavour 3 = .ok (.iload_n 1, 1) := by decide +kernel
theorem dL_leavesInFavour_4 : decode cL_leavesInFavour 4 = .ok (.invokevirtual 48, 3) := by decide +kernel
theorem dL_leavesInFavour_7 : decode cL_leavesInFavour 7 = .ok (.i2l, 1) := by decide +kernel
theorem dL_leavesInFavour_8 : decode cL_leavesInFavour 8 = .ok (.lastore, 1) := by decide +kernel
theorem dL_leavesInFavour_9 : decode cL_leavesInFavour 9 = .ok (.goto 6, 3) := by decide +kernel
theorem dL_leavesInFavour_12 : decode cL_leavesInFavour 12 = .ok (.astore_n 3, 1) := by decide +kernel
theorem dL_leavesInFavour_13 : decode cL_leavesInFavour 13 = .ok (.iconst 1, 1) := by decide +kernel
theorem dL_leavesInFavour_14 : decode cL_leavesInFavour 14 = .ok (.ireturn, 1) := by decide +kernel
theorem dL_leavesInFavour_15 : decode cL_leavesInFavour 15 = .ok (.iconst 0, 1) := by decide +kernel
theorem dL_leavesInFavour_16 : decode cL_leavesInFavour 16 = .ok (.ireturn, 1) := by decide +kernel
theorem gV_L_X9_leavesInFavour_48 : GoodIn gw (wsV RL 48 RX9 yX9_leavesInFavour (Cond.code yX9_leavesInFavour cX9_leavesInFavour 3 (some .int) :: gw)) := gdV gw_880 gw_881 gw_882 gw_67 gw_883
theorem hV_X9_leavesInFavour : yX9_leavesInFavour.cls = RX9 ∧ yX9_leavesInFavour.cls ≠ "java/lang/invoke/MethodHandle" ∧ yX9_leavesInFavour.cls ≠ "java/lang/invoke/VarHandle" ∧ (parseMethodDescriptor yX9_leavesInFavour.desc).map (fun d => d.parameters.length) = some 1 := ⟨rfl, by decide +kernel, by decide +kernel, by decide +kernel⟩
set_option maxHeartbeats 2000000 in
set_option maxRecDepth 20000 in
theorem k_L_leavesInFavour (l : Launch) (hfl : l.stackTraces = false) (D : va_G) (aT : Nat → ClassId) (u0 : Nat) (o : Nat → Int64) (x0 : Nat) (v0 : Nat) (t0 : Nat) (p0 : Nat) (o0 : Nat) (sv : Bool) (le : Int32) (lf : Int32) (h0 : Nat) (a0 : Nat) (a1 : Nat) (a2 : Nat) (a3 : Nat) (a4 : Nat) (a5 : Nat) (a6 : Nat) (a7 : Nat) (a8 : Nat) (a9 : Nat) (a10 : Nat) (bb : Nat → Nat → Int32) (nh : Nat) (nm : Nat) (M : Nat → Int32) (Bd : Nat) (hBd : Bd < 1048000) (hC : CoW M Bd) (hB : BlC bb nh nm M) (x : Int32) : CxT l yL_leavesInFavour cL_leavesInFavour 4 (some (.int)) [(0, 9, 12, 24)] 8 1 6 134 D aT [.ref x0, .int x, .ref u0] [(u0, .inl (aT 2, 1, .inr (.inl o))), (x0, .inr (12, [.ref a0, .ref v0, .ref h0, .ref t0, .ref p0, .ref o0, .int (bI sv), .int le, .int lf])), (a0, .inr (10, [.ref a1, .ref a5, .ref a10, .int (bb 8 1), .int (bb 8 2), .int (bb 8 3), .int (bb 8 4), .int (bb 8 5), .int (bb 8 6), .int (bb 8 7), .int (bb 8 8)])), (a1, .inr (6, [.ref a2, .ref a3, .ref a4, .int (nI nh)])), (a2, .inl (aT 0, 6, .inl (bb 0))), (a3, .inl (aT 0, 6, .inl (bb 1))), (a4, .inl (aT 0, 6, .inl (bb 2))), (a5, .inr (8, [.ref a6, .ref a7, .ref a8, .ref a9, .int (nI nm), .int (bb 8 0)])), (a6, .inl (aT 0, 12, .inl (bb 3))), (a7, .inl (aT 0, 12, .inl (bb 4))), (a8, .inl (aT 0, 12, .inl (bb 5))), (a9, .inl (aT 0, 12, .inl (bb 6))), (a10, .inl (aT 0, 4, .inl (bb 7)))] (qI D aT (fun r W1 => ∃ (W2 : va_W) (o2 : Nat → Int64), ((∃ r0 : Int32, r = nI 0 ∧ o2 0 = r0.toInt64 ∧ (fun r W1 => (∃ q, fnd (fun k => M (29 + 4 * k)) x nm = some q ∧ r = nI (fav (lvM M) (taM M) (tnM M q) nh)) ∧ W1 = ([(x0, .inr (12, [.ref a0, .ref v0, .ref h0, .ref t0, .ref p0, .ref o0, .int (bI sv), .int le, .int lf])), (a0, .inr (10, [.ref a1, .ref a5, .ref a10, .int (bb 8 1), .int (bb 8 2), .int (bb 8 3), .int (bb 8 4), .int (bb 8 5), .int (bb 8 6), .int (bb 8 7), .int (bb 8 8)])), (a1, .inr (6, [.ref a2, .ref a3, .ref a4, .int (nI nh)])), (a2, .inl (aT 0, 6, .inl (bb 0))), (a3, .inl (aT 0, 6, .inl (bb 1))), (a4, .inl (aT 0, 6, .inl (bb 2))), (a5, .inr (8, [.ref a6, .ref a7, .ref a8, .ref a9, .int (nI nm), .int (bb 8 0)])), (a6, .inl (aT 0, 12, .inl (bb 3))), (a7, .inl (aT 0, 12, .inl (bb 4))), (a8, .inl (aT 0, 12, .inl (bb 5))), (a9, .inl (aT 0, 12, .inl (bb 6))), (a10, .inl (aT 0, 4, .inl (bb 7)))] : va_W)) r0 W2) ∨ (∃ E9 : String, (fun E W1 => (E = "java/util/NoSuchElementException" ∧ fnd (fun k => M (29 + 4 * k)) x nm = none) ∧ W1 = ([(x0, .inr (12, [.ref a0, .ref v0, .ref h0, .ref t0, .ref p0, .ref o0, .int (bI sv), .int le, .int lf])), (a0, .inr (10, [.ref a1, .ref a5, .ref a10, .int (bb 8 1), .int (bb 8 2), .int (bb 8 3), .int (bb 8 4), .int (bb 8 5), .int (bb 8 6), .int (bb 8 7), .int (bb 8 8)])), (a1, .inr (6, [.ref a2, .ref a3, .ref a4, .int (nI nh)])), (a2, .inl (aT 0, 6, .inl (bb 0))), (a3, .inl (aT 0, 6, .inl (bb 1))), (a4, .inl (aT 0, 6, .inl (bb 2))), (a5, .inr (8, [.ref a6, .ref a7, .ref a8, .ref a9, .int (nI nm), .int (bb 8 0)])), (a6, .inl (aT 0, 12, .inl (bb 3))), (a7, .inl (aT 0, 12, .inl (bb 4))), (a8, .inl (aT 0, 12, .inl (bb 5))), (a9, .inl (aT 0, 12, .inl (bb 6))), (a10, .inl (aT 0, 4, .inl (bb 7)))] : va_W)) E9 W2 ∧ ((E9 = "java/util/NoSuchElementException" ∧ r = nI 1)))) ∧ W1 = (([(u0, .inl (aT 2, 1, .inr (.inl o2)))] : va_W) ++ W2))) := by
  refine CxT.of RL (by decide +kernel) rfl (Nat.le_of_ble_eq_true rfl) ?_
  intro p e s m below meth c A ls C hml hl hA hr hlocks htb hZ hW
  have hl : lv_has ls 4 [(0, .ref x0), (1, .int x), (2, .ref u0)] := hl
  have hx := C.1
  have hb := C.2.1
  refine lv_aload_n hx hb dL_leavesInFavour_0 rfl (lv_at hl 2 rfl) ?_
  refine lv_iconst (v := nI 0) hx hb dL_leavesInFavour_1 (by decide) ?_
  refine lv_aload_n hx hb dL_leavesInFavour_2 rfl (lv_at hl 0 rfl) ?_
  refine lv_iload_n hx hb dL_leavesInFavour_3 rfl (lv_at hl 1 rfl) ?_
  refine cx_calli (Wr := [(u0, .inl (aT 2, 1, .inr (.inl o)))]) (cx_runV C hml hl.1 hZ hW hA (As := [.int x]) (rest := [.int (nI 0), .ref u0]) (k_X9_leavesInFavour l hfl D aT x0 v0 t0 p0 o0 sv le lf h0 a0 a1 a2 a3 a4 a5 a6 a7 a8 a9 a10 bb nh nm M Bd hBd hC hB x) gV_L_X9_leavesInFavour_48 hV_X9_leavesInFavour rfl ⟨Nat.le_of_ble_eq_true rfl, Nat.le_of_ble_eq_true rfl⟩ ⟨Nat.le_of_ble_eq_true rfl, Nat.le_of_ble_eq_true rfl⟩ [1, 2, 3, 4, 5, 6, 7, 8, 9, 10, 11, 12] rfl (by decide) 1 12 rfl rfl rfl rfl (Nat.le_of_ble_eq_true rfl) dL_leavesInFavour_4) hW hA [1, 2, 3, 4, 5, 6, 7, 8, 9, 10, 11, 12] [0] rfl rfl (by decide) (by decide) ?_ (fun r_4 W_4 H locs hq hW => ?_)
  rotate_left
  obtain hq := hq
  have hW : CxB D (([(u0, .inl (aT 2, 1, .inr (.inl o)))] : va_W) ++ W_4) A s.heap H _ := hW
  refine lv_i2l (v := (r_4).toInt64) hx hb dL_leavesInFavour_7 rfl ?_
  refine cx_last C hW 0 2 (j := 0) (W1 := (([(u0, .inl (aT 2, 1, .inr (.inl (vp_updL o 0 ((r_4).toInt64)))))] : va_W) ++ W_4)) rfl rfl rfl (by omega) (by decide) rfl dL_leavesInFavour_8 (fun H locs hW => ?_)
  refine lv_goto (tgt := 15) hx hb dL_leavesInFavour_9 (by decide) ?_
  refine lv_iconst (v := nI 0) hx hb dL_leavesInFavour_15 (by decide) ?_
  exact cx_tret C hr hlocks rfl hW ⟨Nat.le_of_ble_eq_true rfl, Nat.le_of_ble_eq_true rfl⟩ (⟨W_4, _, Or.inl ⟨r_4, rfl, rfl, hq⟩, rfl⟩) dL_leavesInFavour_16
  · intro E ce q9 W9 H locs hE hW h7 h8 h9
    have hE2 := hE
    rcases (show E = "java/util/NoSuchElementException" from by
      clear hW
      revert hE
      grind) with rfl
    · have hW : CxB D (([(u0, .inl (aT 2, 1, .inr (.inl o)))] : va_W) ++ W9) A s.heap H _ := hW
      refine cx_catchT C hZ (nm := "java/util/NoSuchElementException") [] ⟨0, 9, 12, 24⟩ (tableOf []) htb (fun z hz => by cases hz) (by decide) (by decide) gw_690 nw_705 h7 h8 h9 ?_
      refine lv_astore_n (lv' := [(3, .ref q9), (0, .ref x0), (1, .int x), (2, .ref u0)]) hx hb dL_leavesInFavour_12 rfl hl (by decide) rfl (fun ls hl => ?_)
      refine lv_iconst (v := nI 1) hx hb dL_leavesInFavour_13 (by decide) ?_
      exact cx_tret C hr hlocks rfl hW ⟨Nat.le_of_ble_eq_true rfl, Nat.le_of_ble_eq_true rfl⟩ (⟨W9, _, Or.inr ⟨_, hE2, ⟨rfl, rfl⟩⟩, rfl⟩) dL_leavesInFavour_14
theorem dL_wouldVeto_0 : decode cL_wouldVeto 0 = .ok (.aload_n 3, 1) := by decide +kernel
theorem dL_wouldVeto_1 : decode cL_wouldVeto 1 = .ok (.iconst 0, 1) := by decide +kernel
theorem dL_wouldVeto_2 : decode cL_wouldVeto 2 = .ok (.aload_n 0, 1) := by decide +kernel
theorem dL_wouldVeto_3 : decode cL_wouldVeto 3 = .ok (.iload_n 1, 1) := by decide +kernel
theorem dL_wouldVeto_4 : decode cL_wouldVeto 4 = .ok (.iload_n 2, 1) := by decide +kernel
theorem dL_wouldVeto_5 : decode cL_wouldVeto 5 = .ok (.invokevirtual 51, 3) := by decide +kernel
theorem dL_wouldVeto_8 : decode cL_wouldVeto 8 = .ok (.ifCond .eq 7, 3) := by decide +kernel
theorem dL_wouldVeto_11 : decode cL_wouldVeto 11 = .ok (.lconst 1, 1) := by decide +kernel
theorem dL_wouldVeto_12 : decode cL_wouldVeto 12 = .ok (.goto 4, 3) := by decide +kernel
theorem dL_wouldVeto_15 : decode cL_wouldVeto 15 = .ok (.lconst 0, 1) := by decide +kernel
theorem dL_wouldVeto_16 : decode cL_wouldVeto 16 = .ok (.lastore, 1) := by decide +kernel
theorem dL_wouldVeto_17 : decode cL_wouldVeto 17 = .ok (.goto 11, 3) := by decide +kernel
theorem dL_wouldVeto_20 : decode cL_wouldVeto 20 = .ok (.astore 4, 2) := by decide +kernel
theorem dL_wouldVeto_22 : decode cL_wouldVeto 22 = .ok (.iconst 1, 1) := by decide +kernel
theorem dL_wouldVeto_23 : decode cL_wouldVeto 23 = .ok (.ireturn, 1) := by decide +kernel
theorem dL_wouldVeto_24 : decode cL_wouldVeto 24 = .ok (.astore 4, 2) := by decide +kernel
theorem dL_wouldVeto_26 : decode cL_wouldVeto 26 = .ok (.iconst 2, 1) := by decide +kernel
theorem dL_wouldVeto_27 : decode cL_wouldVeto 27 = .ok (.ireturn, 1) := by decide +kernel
theorem dL_wouldVeto_28 : decode cL_wouldVeto 28 = .ok (.iconst 0, 1) := by decide +kernel
theorem dL_wouldVeto_29 : decode cL_wouldVeto 29 = .ok (.ireturn, 1) := by decide +kernel
theorem gV_L_X9_wouldVeto_51 : GoodIn gw (wsV RL 51 RX9 yX9_wouldVeto (Cond.code yX9_wouldVeto cX9_wouldVeto 4 (some .boolean) :: gw)) := gdV gw_889 gw_890 gw_891 gw_67 gw_892
theorem hV_X9_wouldVeto : yX9_wouldVeto.cls = RX9 ∧ yX9_wouldVeto.cls ≠ "java/lang/invoke/MethodHandle" ∧ yX9_wouldVeto.cls ≠ "java/lang/invoke/VarHandle" ∧ (parseMethodDescriptor yX9_wouldVeto.desc).map (fun d => d.parameters.length) = some 2 := ⟨rfl, by decide +kernel, by decide +kernel, by decide +kernel⟩
set_option maxHeartbeats 2000000 in
set_option maxRecDepth 20000 in
theorem k_L_wouldVeto (l : Launch) (hfl : l.stackTraces = false) (D : va_G) (aT : Nat → ClassId) (u0 : Nat) (o : Nat → Int64) (x0 : Nat) (v0 : Nat) (t0 : Nat) (p0 : Nat) (o0 : Nat) (sv : Bool) (le : Int32) (lf : Int32) (h0 : Nat) (a0 : Nat) (a1 : Nat) (a2 : Nat) (a3 : Nat) (a4 : Nat) (a5 : Nat) (a6 : Nat) (a7 : Nat) (a8 : Nat) (a9 : Nat) (a10 : Nat) (bb : Nat → Nat → Int32) (nh : Nat) (nm : Nat) (M : Nat → Int32) (Bd : Nat) (hBd : Bd < 1048000) (hC : CoW M Bd) (hB : BlC bb nh nm M) (x : Int32) (y : Int32) : CxT l yL_wouldVeto cL_wouldVeto 5 (some (.int)) [(0, 17, 20, 40), (0, 17, 24, 24)] 8 2 12 135 D aT [.ref x0, .int x, .int y, .ref u0] [(u0, .inl (aT 2, 1, .inr (.inl o))), (x0, .inr (12, [.ref a0, .ref v0, .ref h0, .ref t0, .ref p0, .ref o0, .int (bI sv), .int le, .int lf])), (a0, .inr (10, [.ref a1, .ref a5, .ref a10, .int (bb 8 1), .int (bb 8 2), .int (bb 8 3), .int (bb 8 4), .int (bb 8 5), .int (bb 8 6), .int (bb 8 7), .int (bb 8 8)])), (a1, .inr (6, [.ref a2, .ref a3, .ref a4, .int (nI nh)])), (a2, .inl (aT 0, 6, .inl (bb 0))), (a3, .inl (aT 0, 6, .inl (bb 1))), (a4, .inl (aT 0, 6, .inl (bb 2))), (a5, .inr (8, [.ref a6, .ref a7, .ref a8, .ref a9, .int (nI nm), .int (bb 8 0)])), (a6, .inl (aT 0, 12, .inl (bb 3))), (a7, .inl (aT 0, 12, .inl (bb 4))), (a8, .inl (aT 0, 12, .inl (bb 5))), (a9, .inl (aT 0, 12, .inl (bb 6))), (a10, .inl (aT 0, 4, .inl (bb 7)))] (qI D aT (fun r W1 => ∃ (W2 : va_W) (o2 : Nat → Int64), ((∃ r0 : Int32, r = nI 0 ∧ o2 0 = (if r0 = 0 then 0 else 1) ∧ (fun r W1 => (∃ i q, i < nh ∧ x = nI i ∧ fnd (fun k => M (29 + 4 * k)) y nm = some q ∧ r = bI (vetB (dif (taM M i) (tnM M q)) (thM M i))) ∧ W1 = ([(x0, .inr (12, [.ref a0, .ref v0, .ref h0, .ref t0, .ref p0, .ref o0, .int (bI sv), .int le, .int lf])), (a0, .inr (10, [.ref a1, .ref a5, .ref a10, .int (bb 8 1), .int (bb 8 2), .int (bb 8 3), .int (bb 8 4), .int (bb 8 5), .int (bb 8 6), .int (bb 8 7), .int (bb 8 8)])), (a1, .inr (6, [.ref a2, .ref a3, .ref a4, .int (nI nh)])), (a2, .inl (aT 0, 6, .inl (bb 0))), (a3, .inl (aT 0, 6, .inl (bb 1))), (a4, .inl (aT 0, 6, .inl (bb 2))), (a5, .inr (8, [.ref a6, .ref a7, .ref a8, .ref a9, .int (nI nm), .int (bb 8 0)])), (a6, .inl (aT 0, 12, .inl (bb 3))), (a7, .inl (aT 0, 12, .inl (bb 4))), (a8, .inl (aT 0, 12, .inl (bb 5))), (a9, .inl (aT 0, 12, .inl (bb 6))), (a10, .inl (aT 0, 4, .inl (bb 7)))] : va_W)) r0 W2) ∨ (∃ E9 : String, (fun E W1 => ((E = "java/lang/IndexOutOfBoundsException" ∧ isHB nh x = false) ∨ ((∃ i, i < nh ∧ x = nI i) ∧ E = "java/util/NoSuchElementException" ∧ fnd (fun k => M (29 + 4 * k)) y nm = none)) ∧ W1 = ([(x0, .inr (12, [.ref a0, .ref v0, .ref h0, .ref t0, .ref p0, .ref o0, .int (bI sv), .int le, .int lf])), (a0, .inr (10, [.ref a1, .ref a5, .ref a10, .int (bb 8 1), .int (bb 8 2), .int (bb 8 3), .int (bb 8 4), .int (bb 8 5), .int (bb 8 6), .int (bb 8 7), .int (bb 8 8)])), (a1, .inr (6, [.ref a2, .ref a3, .ref a4, .int (nI nh)])), (a2, .inl (aT 0, 6, .inl (bb 0))), (a3, .inl (aT 0, 6, .inl (bb 1))), (a4, .inl (aT 0, 6, .inl (bb 2))), (a5, .inr (8, [.ref a6, .ref a7, .ref a8, .ref a9, .int (nI nm), .int (bb 8 0)])), (a6, .inl (aT 0, 12, .inl (bb 3))), (a7, .inl (aT 0, 12, .inl (bb 4))), (a8, .inl (aT 0, 12, .inl (bb 5))), (a9, .inl (aT 0, 12, .inl (bb 6))), (a10, .inl (aT 0, 4, .inl (bb 7)))] : va_W)) E9 W2 ∧ ((E9 = "java/lang/IndexOutOfBoundsException" ∧ r = nI 1) ∨ (E9 = "java/util/NoSuchElementException" ∧ r = nI 2)))) ∧ W1 = (([(u0, .inl (aT 2, 1, .inr (.inl o2)))] : va_W) ++ W2))) := by
  refine CxT.of RL (by decide +kernel) rfl (Nat.le_of_ble_eq_true rfl) ?_
  intro p e s m below meth c A ls C hml hl hA hr hlocks htb hZ hW
  have hl : lv_has ls 5 [(0, .ref x0), (1, .int x), (2, .int y), (3, .ref u0)] := hl
  have hx := C.1
  have hb := C.2.1
  refine lv_aload_n hx hb dL_wouldVeto_0 rfl (lv_at hl 3 rfl) ?_
  refine lv_iconst (v := nI 0) hx hb dL_wouldVeto_1 (by decide) ?_
  refine lv_aload_n hx hb dL_wouldVeto_2 rfl (lv_at hl 0 rfl) ?_
  refine lv_iload_n hx hb dL_wouldVeto_3 rfl (lv_at hl 1 rfl) ?_
  refine lv_iload_n hx hb dL_wouldVeto_4 rfl (lv_at hl 2 rfl) ?_
  refine cx_calli (Wr := [(u0, .inl (aT 2, 1, .inr (.inl o)))]) (cx_runV C hml hl.1 hZ hW hA (As := [.int x, .int y]) (rest := [.int (nI 0), .ref u0]) (k_X9_wouldVeto l hfl D aT x0 v0 t0 p0 o0 sv le lf h0 a0 a1 a2 a3 a4 a5 a6 a7 a8 a9 a10 bb nh nm M Bd hBd hC hB x y) gV_L_X9_wouldVeto_51 hV_X9_wouldVeto rfl ⟨Nat.le_of_ble_eq_true rfl, Nat.le_of_ble_eq_true rfl⟩ ⟨Nat.le_of_ble_eq_true rfl, Nat.le_of_ble_eq_true rfl⟩ [1, 2, 3, 4, 5, 6, 7, 8, 9, 10, 11, 12] rfl (by decide) 1 12 rfl rfl rfl rfl (Nat.le_of_ble_eq_true rfl) dL_wouldVeto_5) hW hA [1, 2, 3, 4, 5, 6, 7, 8, 9, 10, 11, 12] [0] rfl rfl (by decide) (by decide) ?_ (fun r_5 W_5 H locs hq hW => ?_)
  rotate_left
  obtain hq := hq
  have hW : CxB D (([(u0, .inl (aT 2, 1, .inr (.inl o)))] : va_W) ++ W_5) A s.heap H _ := hW
  refine lv_if_eq hx hb (x := r_5) (tgt := 15) dL_wouldVeto_8 (by decide) (fun c_8 => ?_) (fun c_8 => ?_)
  · refine lv_lconst (v := 0) hx hb dL_wouldVeto_15 (by decide) ?_
    refine cx_last C hW 0 2 (j := 0) (W1 := (([(u0, .inl (aT 2, 1, .inr (.inl (vp_updL o 0 0))))] : va_W) ++ W_5)) rfl rfl rfl (by omega) (by decide) rfl dL_wouldVeto_16 (fun H locs hW => ?_)
    refine lv_goto (tgt := 28) hx hb dL_wouldVeto_17 (by decide) ?_
    refine lv_iconst (v := nI 0) hx hb dL_wouldVeto_28 (by decide) ?_
    exact cx_tret C hr hlocks rfl hW ⟨Nat.le_of_ble_eq_true rfl, Nat.le_of_ble_eq_true rfl⟩ (⟨W_5, _, Or.inl ⟨r_5, rfl, (by first | (show (0 : Int64) = if r_5 = 0 then 0 else 1; rw [if_pos (by assumption)]) | (show (1 : Int64) = if r_5 = 0 then 0 else 1; rw [if_neg (by assumption)])), hq⟩, rfl⟩) dL_wouldVeto_29
  · refine lv_lconst (v := 1) hx hb dL_wouldVeto_11 (by decide) ?_
    refine lv_goto (tgt := 16) hx hb dL_wouldVeto_12 (by decide) ?_
    refine cx_last C hW 0 2 (j := 0) (W1 := (([(u0, .inl (aT 2, 1, .inr (.inl (vp_updL o 0 1))))] : va_W) ++ W_5)) rfl rfl rfl (by omega) (by decide) rfl dL_wouldVeto_16 (fun H locs hW => ?_)
    refine lv_goto (tgt := 28) hx hb dL_wouldVeto_17 (by decide) ?_
    refine lv_iconst (v := nI 0) hx hb dL_wouldVeto_28 (by decide) ?_
    exact cx_tret C hr hlocks rfl hW ⟨Nat.le_of_ble_eq_true rfl, Nat.le_of_ble_eq_true rfl⟩ (⟨W_5, _, Or.inl ⟨r_5, rfl, (by first | (show (0 : Int64) = if r_5 = 0 then 0 else 1; rw [if_pos (by assumption)]) | (show (1 : Int64) = if r_5 = 0 then 0 else 1; rw [if_neg (by assumption)])), hq⟩, rfl⟩) dL_wouldVeto_29
  · intro E ce q9 W9 H locs hE hW h7 h8 h9
    have hE2 := hE
    rcases (show E = "java/lang/IndexOutOfBoundsException" ∨ E = "java/util/NoSuchElementException" from by
      clear hW
      revert hE
      grind) with rfl | rfl
    · have hW : CxB D (([(u0, .inl (aT 2, 1, .inr (.inl o)))] : va_W) ++ W9) A s.heap H _ := hW
      refine cx_catchT C hZ (nm := "java/lang/IndexOutOfBoundsException") [] ⟨0, 17, 20, 40⟩ (tableOf [(0, 17, 24, 24)]) htb (fun z hz => by cases hz) (by decide) (by decide) gw_799 nw_837 h7 h8 h9 ?_
      refine lv_astore (lv' := [(4, .ref q9), (0, .ref x0), (1, .int x), (2, .int y), (3, .ref u0)]) hx hb dL_wouldVeto_20 hl (by decide) rfl (fun ls hl => ?_)
      refine lv_iconst (v := nI 1) hx hb dL_wouldVeto_22 (by decide) ?_
      exact cx_tret C hr hlocks rfl hW ⟨Nat.le_of_ble_eq_true rfl, Nat.le_of_ble_eq_true rfl⟩ (⟨W9, _, Or.inr ⟨_, hE2, Or.inl ⟨rfl, rfl⟩⟩, rfl⟩) dL_wouldVeto_23
    · have hW : CxB D (([(u0, .inl (aT 2, 1, .inr (.inl o)))] : va_W) ++ W9) A s.heap H _ := hW
      refine cx_catchT C hZ (nm := "java/util/NoSuchElementException") [⟨0, 17, 20, 40⟩] ⟨0, 17, 24, 24⟩ (tableOf []) htb (fun z hz => by
          simp only [List.mem_cons, List.not_mem_nil, or_false] at hz
          rcases hz with rfl
          · exact Or.inr ⟨by decide, "java/lang/IndexOutOfBoundsException", gw_799, List.mem_of_getElem? (i := 6) rfl⟩) (by decide) (by decide) gw_690 nw_705 h7 h8 h9 ?_
      refine lv_astore (lv' := [(4, .ref q9), (0, .ref x0), (1, .int x), (2, .int y), (3, .ref u0)]) hx hb dL_wouldVeto_24 hl (by decide) rfl (fun ls hl => ?_)
      refine lv_iconst (v := nI 2) hx hb dL_wouldVeto_26 (by decide) ?_
      exact cx_tret C hr hlocks rfl hW ⟨Nat.le_of_ble_eq_true rfl, Nat.le_of_ble_eq_true rfl⟩ (⟨W9, _, Or.inr ⟨_, hE2, Or.inr (⟨rfl, rfl⟩)⟩, rfl⟩) dL_wouldVeto_27
theorem dL_motionAt_0 : decode cL_motionAt 0 = .ok (.aload_n 2, 1) := by decide +kernel
theorem dL_motionAt_1 : decode cL_motionAt 1 = .ok (.iconst 0, 1) := by decide +kernel
theorem dL_motionAt_2 : decode cL_motionAt 2 = .ok (.aload_n 0, 1) := by decide +kernel
theorem dL_motionAt_3 : decode cL_motionAt 3 = .ok (.iload_n 1, 1) := by decide +kernel
theorem dL_motionAt_4 : decode cL_motionAt 4 = .ok (.invokevirtual 55, 3) := by decide +kernel
theorem dL_motionAt_7 : decode cL_motionAt 7 = .ok (.i2l, 1) := by decide +kernel
theorem dL_motionAt_8 : decode cL_motionAt 8 = .ok (.lastore, 1) := by decide +kernel
theorem dL_motionAt_9 : decode cL_motionAt 9 = .ok (.goto 6, 3) := by decide +kernel
theorem dL_motionAt_12 : decode cL_motionAt 12 = .ok (.astore_n 3, 1) := by decide +kernel
theorem dL_motionAt_13 : decode cL_motionAt 13 = .ok (.iconst 1, 1) := by decide +kernel
theorem dL_motionAt_14 : decode cL_motionAt 14 = .ok (.ireturn, 1) := by decide +kernel
theorem dL_motionAt_15 : decode cL_motionAt 15 = .ok (.iconst 0, 1) := by decide +kernel
theorem dL_motionAt_16 : decode cL_motionAt 16 = .ok (.ireturn, 1) := by decide +kernel
theorem gV_L_X9_motionAt_55 : GoodIn gw (wsV RL 55 RX9 yX9_motionAt (Cond.code yX9_motionAt cX9_motionAt 2 (some .int) :: gw)) := gdV gw_897 gw_898 gw_899 gw_67 gw_900
theorem hV_X9_motionAt : yX9_motionAt.cls = RX9 ∧ yX9_motionAt.cls ≠ "java/lang/invoke/MethodHandle" ∧ yX9_motionAt.cls ≠ "java/lang/invoke/VarHandle" ∧ (parseMethodDescriptor yX9_motionAt.desc).map (fun d => d.parameters.length) = some 1 := ⟨rfl, by decide +kernel, by decide +kernel, by decide +kernel⟩
set_option maxHeartbeats 2000000 in
set_option maxRecDepth 20000 in
theorem k_L_motionAt (l : Launch) (hfl : l.stackTraces = false) (D : va_G) (aT : Nat → ClassId) (u0 : Nat) (o : Nat → Int64) (x0 : Nat) (v0 : Nat) (t0 : Nat) (p0 : Nat) (o0 : Nat) (sv : Bool) (le : Int32) (lf : Int32) (h0 : Nat) (a0 : Nat) (a1 : Nat) (a2 : Nat) (a3 : Nat) (a4 : Nat) (a5 : Nat) (a6 : Nat) (a7 : Nat) (a8 : Nat) (a9 : Nat) (a10 : Nat) (bb : Nat → Nat → Int32) (nh : Nat) (nm : Nat) (M : Nat → Int32) (Bd : Nat) (hBd : Bd < 1048000) (hC : CoW M Bd) (hB : BlC bb nh nm M) (x : Int32) : CxT l yL_motionAt cL_motionAt 4 (some (.int)) [(0, 9, 12, 40)] 8 1 6 132 D aT [.ref x0, .int x, .ref u0] [(u0, .inl (aT 2, 1, .inr (.inl o))), (x0, .inr (12, [.ref a0, .ref v0, .ref h0, .ref t0, .ref p0, .ref o0, .int (bI sv), .int le, .int lf])), (a0, .inr (10, [.ref a1, .ref a5, .ref a10, .int (bb 8 1), .int (bb 8 2), .int (bb 8 3), .int (bb 8 4), .int (bb 8 5), .int (bb 8 6), .int (bb 8 7), .int (bb 8 8)])), (a1, .inr (6, [.ref a2, .ref a3, .ref a4, .int (nI nh)])), (a2, .inl (aT 0, 6, .inl (bb 0))), (a3, .inl (aT 0, 6, .inl (bb 1))), (a4, .inl (aT 0, 6, .inl (bb 2))), (a5, .inr (8, [.ref a6, .ref a7, .ref a8, .ref a9, .int (nI nm), .int (bb 8 0)])), (a6, .inl (aT 0, 12, .inl (bb 3))), (a7, .inl (aT 0, 12, .inl (bb 4))), (a8, .inl (aT 0, 12, .inl (bb 5))), (a9, .inl (aT 0, 12, .inl (bb 6))), (a10, .inl (aT 0, 4, .inl (bb 7)))] (qI D aT (fun r W1 => ∃ (W2 : va_W) (o2 : Nat → Int64), ((∃ r0 : Int32, r = nI 0 ∧ o2 0 = r0.toInt64 ∧ (fun r W1 => (∃ i, i < nm ∧ x = nI i ∧ r = M (29 + 4 * i)) ∧ W1 = ([(x0, .inr (12, [.ref a0, .ref v0, .ref h0, .ref t0, .ref p0, .ref o0, .int (bI sv), .int le, .int lf])), (a0, .inr (10, [.ref a1, .ref a5, .ref a10, .int (bb 8 1), .int (bb 8 2), .int (bb 8 3), .int (bb 8 4), .int (bb 8 5), .int (bb 8 6), .int (bb 8 7), .int (bb 8 8)])), (a1, .inr (6, [.ref a2, .ref a3, .ref a4, .int (nI nh)])), (a2, .inl (aT 0, 6, .inl (bb 0))), (a3, .inl (aT 0, 6, .inl (bb 1))), (a4, .inl (aT 0, 6, .inl (bb 2))), (a5, .inr (8, [.ref a6, .ref a7, .ref a8, .ref a9, .int (nI nm), .int (bb 8 0)])), (a6, .inl (aT 0, 12, .inl (bb 3))), (a7, .inl (aT 0, 12, .inl (bb 4))), (a8, .inl (aT 0, 12, .inl (bb 5))), (a9, .inl (aT 0, 12, .inl (bb 6))), (a10, .inl (aT 0, 4, .inl (bb 7)))] : va_W)) r0 W2) ∨ (∃ E9 : String, (fun E W1 => (E = "java/lang/IndexOutOfBoundsException" ∧ isHB nm x = false) ∧ W1 = ([(x0, .inr (12, [.ref a0, .ref v0, .ref h0, .ref t0, .ref p0, .ref o0, .int (bI sv), .int le, .int lf])), (a0, .inr (10, [.ref a1, .ref a5, .ref a10, .int (bb 8 1), .int (bb 8 2), .int (bb 8 3), .int (bb 8 4), .int (bb 8 5), .int (bb 8 6), .int (bb 8 7), .int (bb 8 8)])), (a1, .inr (6, [.ref a2, .ref a3, .ref a4, .int (nI nh)])), (a2, .inl (aT 0, 6, .inl (bb 0))), (a3, .inl (aT 0, 6, .inl (bb 1))), (a4, .inl (aT 0, 6, .inl (bb 2))), (a5, .inr (8, [.ref a6, .ref a7, .ref a8, .ref a9, .int (nI nm), .int (bb 8 0)])), (a6, .inl (aT 0, 12, .inl (bb 3))), (a7, .inl (aT 0, 12, .inl (bb 4))), (a8, .inl (aT 0, 12, .inl (bb 5))), (a9, .inl (aT 0, 12, .inl (bb 6))), (a10, .inl (aT 0, 4, .inl (bb 7)))] : va_W)) E9 W2 ∧ ((E9 = "java/lang/IndexOutOfBoundsException" ∧ r = nI 1)))) ∧ W1 = (([(u0, .inl (aT 2, 1, .inr (.inl o2)))] : va_W) ++ W2))) := by
  refine CxT.of RL (by decide +kernel) rfl (Nat.le_of_ble_eq_true rfl) ?_
  intro p e s m below meth c A ls C hml hl hA hr hlocks htb hZ hW
  have hl : lv_has ls 4 [(0, .ref x0), (1, .int x), (2, .ref u0)] := hl
  have hx := C.1
  have hb := C.2.1
  refine lv_aload_n hx hb dL_motionAt_0 rfl (lv_at hl 2 rfl) ?_
  refine lv_iconst (v := nI 0) hx hb dL_motionAt_1 (by decide) ?_
  refine lv_aload_n hx hb dL_motionAt_2 rfl (lv_at hl 0 rfl) ?_
  refine lv_iload_n hx hb dL_motionAt_3 rfl (lv_at hl 1 rfl) ?_
  refine cx_calli (Wr := [(u0, .inl (aT 2, 1, .inr (.inl o)))]) (cx_runV C hml hl.1 hZ hW hA (As := [.int x]) (rest := [.int (nI 0), .ref u0]) (k_X9_motionAt l hfl D aT x0 v0 t0 p0 o0 sv le lf h0 a0 a1 a2 a3 a4 a5 a6 a7 a8 a9 a10 bb nh nm M Bd hBd hC hB x) gV_L_X9_motionAt_55 hV_X9_motionAt rfl ⟨Nat.le_of_ble_eq_true rfl, Nat.le_of_ble_eq_true rfl⟩ ⟨Nat.le_of_ble_eq_true rfl, Nat.le_of_ble_eq_true rfl⟩ [1, 2, 3, 4, 5, 6, 7, 8, 9, 10, 11, 12] rfl (by decide) 1 12 rfl rfl rfl rfl (Nat.le_of_ble_eq_true rfl) dL_motionAt_4) hW hA [1, 2, 3, 4, 5, 6, 7, 8, 9, 10, 11, 12] [0] rfl rfl (by decide) (by decide) ?_ (fun r_4 W_4 H locs hq hW => ?_)
  rotate_left
  obtain hq := hq
  have hW : CxB D (([(u0, .inl (aT 2, 1, .inr (.inl o)))] : va_W) ++ W_4) A s.heap H _ := hW
  refine lv_i2l (v := (r_4).toInt64) hx hb dL_motionAt_7 rfl ?_
  refine cx_last C hW 0 2 (j := 0) (W1 := (([(u0, .inl (aT 2, 1, .inr (.inl (vp_updL o 0 ((r_4).toInt64)))))] : va_W) ++ W_4)) rfl rfl rfl (by omega) (by decide) rfl dL_motionAt_8 (fun H locs hW => ?_)
  refine lv_goto (tgt := 15) hx hb dL_motionAt_9 (by decide) ?_
  refine lv_iconst (v := nI 0) hx hb dL_motionAt_15 (by decide) ?_
  exact cx_tret C hr hlocks rfl hW ⟨Nat.le_of_ble_eq_true rfl, Nat.le_of_ble_eq_true rfl⟩ (⟨W_4, _, Or.inl ⟨r_4, rfl, rfl, hq⟩, rfl⟩) dL_motionAt_16
  · intro E ce q9 W9 H locs hE hW h7 h8 h9
    have hE2 := hE
    rcases (show E = "java/lang/IndexOutOfBoundsException" from by
      clear hW
      revert hE
      grind) with rfl
    · have hW : CxB D (([(u0, .inl (aT 2, 1, .inr (.inl o)))] : va_W) ++ W9) A s.heap H _ := hW
      refine cx_catchT C hZ (nm := "java/lang/IndexOutOfBoundsException") [] ⟨0, 9, 12, 40⟩ (tableOf []) htb (fun z hz => by cases hz) (by decide) (by decide) gw_799 nw_837 h7 h8 h9 ?_
      refine lv_astore_n (lv' := [(3, .ref q9), (0, .ref x0), (1, .int x), (2, .ref u0)]) hx hb dL_motionAt_12 rfl hl (by decide) rfl (fun ls hl => ?_)
      refine lv_iconst (v := nI 1) hx hb dL_motionAt_13 (by decide) ?_
      exact cx_tret C hr hlocks rfl hW ⟨Nat.le_of_ble_eq_true rfl, Nat.le_of_ble_eq_true rfl⟩ (⟨W9, _, Or.inr ⟨_, hE2, ⟨rfl, rfl⟩⟩, rfl⟩) dL_motionAt_14
theorem dL_tone_0 : decode cL_tone 0 = .ok (.aload_n 2, 1) := by decide +kernel
theorem dL_tone_1 : decode cL_tone 1 = .ok (.iconst 0, 1) := by decide +kernel
theorem dL_tone_2 : decode cL_tone 2 = .ok (.aload_n 0, 1) := by decide +kernel
theorem dL_tone_3 : decode cL_tone 3 = .ok (.iload_n 1, 1) := by decide +kernel
theorem dL_tone_4 : decode cL_tone 4 = .ok (.invokevirtual 58, 3) := by decide +kernel
theorem dL_tone_7 : decode cL_tone 7 = .ok (.i2l, 1) := by decide +kernel
theorem dL_tone_8 : decode cL_tone 8 = .ok (.lastore, 1) := by decide +kernel
theorem dL_tone_9 : decode cL_tone 9 = .ok (.goto 6, 3) := by decide +kernel
theorem dL_tone_12 : decode cL_tone 12 = .ok (.astore_n 3, 1) := by decide +kernel
theorem dL_tone_13 : decode cL_tone 13 = .ok (.iconst 1, 1) := by decide +kernel
theorem dL_tone_14 : decode cL_tone 14 = .ok (.ireturn, 1) := by decide +kernel
theorem dL_tone_15 : decode cL_tone 15 = .ok (.iconst 0, 1) := by decide +kernel
theorem dL_tone_16 : decode cL_tone 16 = .ok (.ireturn, 1) := by decide +kernel
theorem gV_L_X9_tone_58 : GoodIn gw (wsV RL 58 RX9 yX9_tone (Cond.code yX9_tone cX9_tone 2 (some .int) :: gw)) := gdV gw_909 gw_910 gw_911 gw_67 gw_912
theorem hV_X9_tone : yX9_tone.cls = RX9 ∧ yX9_tone.cls ≠ "java/lang/invoke/MethodHandle" ∧ yX9_tone.cls ≠ "java/lang/invoke/VarHandle" ∧ (parseMethodDescriptor yX9_tone.desc).map (fun d => d.parameters.length) = some 1 := ⟨rfl, by decide +kernel, by decide +kernel, by decide +kernel⟩
set_option maxHeartbeats 2000000 in
set_option maxRecDepth 20000 in
theorem k_L_tone (l : Launch) (hfl : l.stackTraces = false) (D : va_G) (aT : Nat → ClassId) (u0 : Nat) (o : Nat → Int64) (x0 : Nat) (v0 : Nat) (t0 : Nat) (p0 : Nat) (o0 : Nat) (sv : Bool) (le : Int32) (lf : Int32) (h0 : Nat) (a0 : Nat) (a1 : Nat) (a2 : Nat) (a3 : Nat) (a4 : Nat) (a5 : Nat) (a6 : Nat) (a7 : Nat) (a8 : Nat) (a9 : Nat) (a10 : Nat) (bb : Nat → Nat → Int32) (nh : Nat) (nm : Nat) (M : Nat → Int32) (Bd : Nat) (hBd : Bd < 1048000) (hC : CoW M Bd) (hB : BlC bb nh nm M) (x : Int32) : CxT l yL_tone cL_tone 4 (some (.int)) [(0, 9, 12, 24)] 8 1 6 133 D aT [.ref x0, .int x, .ref u0] [(u0, .inl (aT 2, 1, .inr (.inl o))), (x0, .inr (12, [.ref a0, .ref v0, .ref h0, .ref t0, .ref p0, .ref o0, .int (bI sv), .int le, .int lf])), (a0, .inr (10, [.ref a1, .ref a5, .ref a10, .int (bb 8 1), .int (bb 8 2), .int (bb 8 3), .int (bb 8 4), .int (bb 8 5), .int (bb 8 6), .int (bb 8 7), .int (bb 8 8)])), (a1, .inr (6, [.ref a2, .ref a3, .ref a4, .int (nI nh)])), (a2, .inl (aT 0, 6, .inl (bb 0))), (a3, .inl (aT 0, 6, .inl (bb 1))), (a4, .inl (aT 0, 6, .inl (bb 2))), (a5, .inr (8, [.ref a6, .ref a7, .ref a8, .ref a9, .int (nI nm), .int (bb 8 0)])), (a6, .inl (aT 0, 12, .inl (bb 3))), (a7, .inl (aT 0, 12, .inl (bb 4))), (a8, .inl (aT 0, 12, .inl (bb 5))), (a9, .inl (aT 0, 12, .inl (bb 6))), (a10, .inl (aT 0, 4, .inl (bb 7)))] (qI D aT (fun r W1 => ∃ (W2 : va_W) (o2 : Nat → Int64), ((∃ r0 : Int32, r = nI 0 ∧ o2 0 = r0.toInt64 ∧ (fun r W1 => (∃ q, fnd (fun k => M (29 + 4 * k)) x nm = some q ∧ r = M (29 + 4 * q + 2)) ∧ W1 = ([(x0, .inr (12, [.ref a0, .ref v0, .ref h0, .ref t0, .ref p0, .ref o0, .int (bI sv), .int le, .int lf])), (a0, .inr (10, [.ref a1, .ref a5, .ref a10, .int (bb 8 1), .int (bb 8 2), .int (bb 8 3), .int (bb 8 4), .int (bb 8 5), .int (bb 8 6), .int (bb 8 7), .int (bb 8 8)])), (a1, .inr (6, [.ref a2, .ref a3, .ref a4, .int (nI nh)])), (a2, .inl (aT 0, 6, .inl (bb 0))), (a3, .inl (aT 0, 6, .inl (bb 1))), (a4, .inl (aT 0, 6, .inl (bb 2))), (a5, .inr (8, [.ref a6, .ref a7, .ref a8, .ref a9, .int (nI nm), .int (bb 8 0)])), (a6, .inl (aT 0, 12, .inl (bb 3))), (a7, .inl (aT 0, 12, .inl (bb 4))), (a8, .inl (aT 0, 12, .inl (bb 5))), (a9, .inl (aT 0, 12, .inl (bb 6))), (a10, .inl (aT 0, 4, .inl (bb 7)))] : va_W)) r0 W2) ∨ (∃ E9 : String, (fun E W1 => (E = "java/util/NoSuchElementException" ∧ fnd (fun k => M (29 + 4 * k)) x nm = none) ∧ W1 = ([(x0, .inr (12, [.ref a0, .ref v0, .ref h0, .ref t0, .ref p0, .ref o0, .int (bI sv), .int le, .int lf])), (a0, .inr (10, [.ref a1, .ref a5, .ref a10, .int (bb 8 1), .int (bb 8 2), .int (bb 8 3), .int (bb 8 4), .int (bb 8 5), .int (bb 8 6), .int (bb 8 7), .int (bb 8 8)])), (a1, .inr (6, [.ref a2, .ref a3, .ref a4, .int (nI nh)])), (a2, .inl (aT 0, 6, .inl (bb 0))), (a3, .inl (aT 0, 6, .inl (bb 1))), (a4, .inl (aT 0, 6, .inl (bb 2))), (a5, .inr (8, [.ref a6, .ref a7, .ref a8, .ref a9, .int (nI nm), .int (bb 8 0)])), (a6, .inl (aT 0, 12, .inl (bb 3))), (a7, .inl (aT 0, 12, .inl (bb 4))), (a8, .inl (aT 0, 12, .inl (bb 5))), (a9, .inl (aT 0, 12, .inl (bb 6))), (a10, .inl (aT 0, 4, .inl (bb 7)))] : va_W)) E9 W2 ∧ ((E9 = "java/util/NoSuchElementException" ∧ r = nI 1)))) ∧ W1 = (([(u0, .inl (aT 2, 1, .inr (.inl o2)))] : va_W) ++ W2))) := by
  refine CxT.of RL (by decide +kernel) rfl (Nat.le_of_ble_eq_true rfl) ?_
  intro p e s m below meth c A ls C hml hl hA hr hlocks htb hZ hW
  have hl : lv_has ls 4 [(0, .ref x0), (1, .int x), (2, .ref u0)] := hl
  have hx := C.1
  have hb := C.2.1
  refine lv_aload_n hx hb dL_tone_0 rfl (lv_at hl 2 rfl) ?_
  refine lv_iconst (v := nI 0) hx hb dL_tone_1 (by decide) ?_
  refine lv_aload_n hx hb dL_tone_2 rfl (lv_at hl 0 rfl) ?_
  refine lv_iload_n hx hb dL_tone_3 rfl (lv_at hl 1 rfl) ?_
  refine cx_calli (Wr := [(u0, .inl (aT 2, 1, .inr (.inl o)))]) (cx_runV C hml hl.1 hZ hW hA (As := [.int x]) (rest := [.int (nI 0), .ref u0]) (k_X9_tone l hfl D aT x0 v0 t0 p0 o0 sv le lf h0 a0 a1 a2 a3 a4 a5 a6 a7 a8 a9 a10 bb nh nm M Bd hBd hC hB x) gV_L_X9_tone_58 hV_X9_tone rfl ⟨Nat.le_of_ble_eq_true rfl, Nat.le_of_ble_eq_true rfl⟩ ⟨Nat.le_of_ble_eq_true rfl, Nat.le_of_ble_eq_true rfl⟩ [1, 2, 3, 4, 5, 6, 7, 8, 9, 10, 11, 12] rfl (by decide) 1 12 rfl rfl rfl rfl (Nat.le_of_ble_eq_true rfl) dL_tone_4) hW hA [1, 2, 3, 4, 5, 6, 7, 8, 9, 10, 11, 12] [0] rfl rfl (by decide) (by decide) ?_ (fun r_4 W_4 H locs hq hW => ?_)
  rotate_left
  obtain hq := hq
  have hW : CxB D (([(u0, .inl (aT 2, 1, .inr (.inl o)))] : va_W) ++ W_4) A s.heap H _ := hW
  refine lv_i2l (v := (r_4).toInt64) hx hb dL_tone_7 rfl ?_
  refine cx_last C hW 0 2 (j := 0) (W1 := (([(u0, .inl (aT 2, 1, .inr (.inl (vp_updL o 0 ((r_4).toInt64)))))] : va_W) ++ W_4)) rfl rfl rfl (by omega) (by decide) rfl dL_tone_8 (fun H locs hW => ?_)
  refine lv_goto (tgt := 15) hx hb dL_tone_9 (by decide) ?_
  refine lv_iconst (v := nI 0) hx hb dL_tone_15 (by decide) ?_
  exact cx_tret C hr hlocks rfl hW ⟨Nat.le_of_ble_eq_true rfl, Nat.le_of_ble_eq_true rfl⟩ (⟨W_4, _, Or.inl ⟨r_4, rfl, rfl, hq⟩, rfl⟩) dL_tone_16
  · intro E ce q9 W9 H locs hE hW h7 h8 h9
    have hE2 := hE
    rcases (show E = "java/util/NoSuchElementException" from by
      clear hW
      revert hE
      grind) with rfl
    · have hW : CxB D (([(u0, .inl (aT 2, 1, .inr (.inl o)))] : va_W) ++ W9) A s.heap H _ := hW
      refine cx_catchT C hZ (nm := "java/util/NoSuchElementException") [] ⟨0, 9, 12, 24⟩ (tableOf []) htb (fun z hz => by cases hz) (by decide) (by decide) gw_690 nw_705 h7 h8 h9 ?_
      refine lv_astore_n (lv' := [(3, .ref q9), (0, .ref x0), (1, .int x), (2, .ref u0)]) hx hb dL_tone_12 rfl hl (by decide) rfl (fun ls hl => ?_)
      refine lv_iconst (v := nI 1) hx hb dL_tone_13 (by decide) ?_
      exact cx_tret C hr hlocks rfl hW ⟨Nat.le_of_ble_eq_true rfl, Nat.le_of_ble_eq_true rfl⟩ (⟨W9, _, Or.inr ⟨_, hE2, ⟨rfl, rfl⟩⟩, rfl⟩) dL_tone_14
theorem dL_weight_0 : decode cL_weight 0 = .ok (.aload_n 2, 1) := by decide +kernel
theorem dL_weight_1 : decode cL_weight 1 = .ok (.iconst 0, 1) := by decide +kernel
theorem dL_weight_2 : decode cL_weight 2 = .ok (.aload_n 0, 1) := by decide +kernel
theorem dL_weight_3 : decode cL_weight 3 = .ok (.iload_n 1, 1) := by decide +kernel
theorem dL_weight_4 : decode cL_weight 4 = .ok (.invokevirtual 61, 3) := by decide +kernel
theorem dL_weight_7 : decode cL_weight 7 = .ok (.i2l, 1) := by decide +kernel
theorem dL_weight_8 : decode cL_weight 8 = .ok (.lastore, 1) := by decide +kernel
theorem dL_weight_9 : decode cL_weight 9 = .ok (.goto 6, 3) := by decide +kernel
theorem dL_weight_12 : decode cL_weight 12 = .ok (.astore_n 3, 1) := by decide +kernel
theorem dL_weight_13 : decode cL_weight 13 = .ok (.iconst 1, 1) := by decide +kernel
theorem dL_weight_14 : decode cL_weight 14 = .ok (.ireturn, 1) := by decide +kernel
theorem dL_weight_15 : decode cL_weight 15 = .ok (.iconst 0, 1) := by decide +kernel
theorem dL_weight_16 : decode cL_weight 16 = .ok (.ireturn, 1) := by decide +kernel
theorem gV_L_X9_weight_61 : GoodIn gw (wsV RL 61 RX9 yX9_weight (Cond.code yX9_weight cX9_weight 2 (some .int) :: gw)) := gdV gw_916 gw_917 gw_918 gw_67 gw_919
theorem hV_X9_weight : yX9_weight.cls = RX9 ∧ yX9_weight.cls ≠ "java/lang/invoke/MethodHandle" ∧ yX9_weight.cls ≠ "java/lang/invoke/VarHandle" ∧ (parseMethodDescriptor yX9_weight.desc).map (fun d => d.parameters.length) = some 1 := ⟨rfl, by decide +kernel, by decide +kernel, by decide +kernel⟩
set_option maxHeartbeats 2000000 in
set_option maxRecDepth 20000 in
theorem k_L_weight (l : Launch) (hfl : l.stackTraces = false) (D : va_G) (aT : Nat → ClassId) (u0 : Nat) (o : Nat → Int64) (x0 : Nat) (v0 : Nat) (t0 : Nat) (p0 : Nat) (o0 : Nat) (sv : Bool) (le : Int32) (lf : Int32) (h0 : Nat) (a0 : Nat) (a1 : Nat) (a2 : Nat) (a3 : Nat) (a4 : Nat) (a5 : Nat) (a6 : Nat) (a7 : Nat) (a8 : Nat) (a9 : Nat) (a10 : Nat) (bb : Nat → Nat → Int32) (nh : Nat) (nm : Nat) (M : Nat → Int32) (Bd : Nat) (hBd : Bd < 1048000) (hC : CoW M Bd) (hB : BlC bb nh nm M) (x : Int32) : CxT l yL_weight cL_weight 4 (some (.int)) [(0, 9, 12, 24)] 8 1 6 133 D aT [.ref x0, .int x, .ref u0] [(u0, .inl (aT 2, 1, .inr (.inl o))), (x0, .inr (12, [.ref a0, .ref v0, .ref h0, .ref t0, .ref p0, .ref o0, .int (bI sv), .int le, .int lf])), (a0, .inr (10, [.ref a1, .ref a5, .ref a10, .int (bb 8 1), .int (bb 8 2), .int (bb 8 3), .int (bb 8 4), .int (bb 8 5), .int (bb 8 6), .int (bb 8 7), .int (bb 8 8)])), (a1, .inr (6, [.ref a2, .ref a3, .ref a4, .int (nI nh)])), (a2, .inl (aT 0, 6, .inl (bb 0))), (a3, .inl (aT 0, 6, .inl (bb 1))), (a4, .inl (aT 0, 6, .inl (bb 2))), (a5, .inr (8, [.ref a6, .ref a7, .ref a8, .ref a9, .int (nI nm), .int (bb 8 0)])), (a6, .inl (aT 0, 12, .inl (bb 3))), (a7, .inl (aT 0, 12, .inl (bb 4))), (a8, .inl (aT 0, 12, .inl (bb 5))), (a9, .inl (aT 0, 12, .inl (bb 6))), (a10, .inl (aT 0, 4, .inl (bb 7)))] (qI D aT (fun r W1 => ∃ (W2 : va_W) (o2 : Nat → Int64), ((∃ r0 : Int32, r = nI 0 ∧ o2 0 = r0.toInt64 ∧ (fun r W1 => (∃ q, fnd (fun k => M (29 + 4 * k)) x nm = some q ∧ r = M (29 + 4 * q + 3)) ∧ W1 = ([(x0, .inr (12, [.ref a0, .ref v0, .ref h0, .ref t0, .ref p0, .ref o0, .int (bI sv), .int le, .int lf])), (a0, .inr (10, [.ref a1, .ref a5, .ref a10, .int (bb 8 1), .int (bb 8 2), .int (bb 8 3), .int (bb 8 4), .int (bb 8 5), .int (bb 8 6), .int (bb 8 7), .int (bb 8 8)])), (a1, .inr (6, [.ref a2, .ref a3, .ref a4, .int (nI nh)])), (a2, .inl (aT 0, 6, .inl (bb 0))), (a3, .inl (aT 0, 6, .inl (bb 1))), (a4, .inl (aT 0, 6, .inl (bb 2))), (a5, .inr (8, [.ref a6, .ref a7, .ref a8, .ref a9, .int (nI nm), .int (bb 8 0)])), (a6, .inl (aT 0, 12, .inl (bb 3))), (a7, .inl (aT 0, 12, .inl (bb 4))), (a8, .inl (aT 0, 12, .inl (bb 5))), (a9, .inl (aT 0, 12, .inl (bb 6))), (a10, .inl (aT 0, 4, .inl (bb 7)))] : va_W)) r0 W2) ∨ (∃ E9 : String, (fun E W1 => (E = "java/util/NoSuchElementException" ∧ fnd (fun k => M (29 + 4 * k)) x nm = none) ∧ W1 = ([(x0, .inr (12, [.ref a0, .ref v0, .ref h0, .ref t0, .ref p0, .ref o0, .int (bI sv), .int le, .int lf])), (a0, .inr (10, [.ref a1, .ref a5, .ref a10, .int (bb 8 1), .int (bb 8 2), .int (bb 8 3), .int (bb 8 4), .int (bb 8 5), .int (bb 8 6), .int (bb 8 7), .int (bb 8 8)])), (a1, .inr (6, [.ref a2, .ref a3, .ref a4, .int (nI nh)])), (a2, .inl (aT 0, 6, .inl (bb 0))), (a3, .inl (aT 0, 6, .inl (bb 1))), (a4, .inl (aT 0, 6, .inl (bb 2))), (a5, .inr (8, [.ref a6, .ref a7, .ref a8, .ref a9, .int (nI nm), .int (bb 8 0)])), (a6, .inl (aT 0, 12, .inl (bb 3))), (a7, .inl (aT 0, 12, .inl (bb 4))), (a8, .inl (aT 0, 12, .inl (bb 5))), (a9, .inl (aT 0, 12, .inl (bb 6))), (a10, .inl (aT 0, 4, .inl (bb 7)))] : va_W)) E9 W2 ∧ ((E9 = "java/util/NoSuchElementException" ∧ r = nI 1)))) ∧ W1 = (([(u0, .inl (aT 2, 1, .inr (.inl o2)))] : va_W) ++ W2))) := by
  refine CxT.of RL (by decide +kernel) rfl (Nat.le_of_ble_eq_true rfl) ?_
  intro p e s m below meth c A ls C hml hl hA hr hlocks htb hZ hW
  have hl : lv_has ls 4 [(0, .ref x0), (1, .int x), (2, .ref u0)] := hl
  have hx := C.1
  have hb := C.2.1
  refine lv_aload_n hx hb dL_weight_0 rfl (lv_at hl 2 rfl) ?_
  refine lv_iconst (v := nI 0) hx hb dL_weight_1 (by decide) ?_
  refine lv_aload_n hx hb dL_weight_2 rfl (lv_at hl 0 rfl) ?_
  refine lv_iload_n hx hb dL_weight_3 rfl (lv_at hl 1 rfl) ?_
  refine cx_calli (Wr := [(u0, .inl (aT 2, 1, .inr (.inl o)))]) (cx_runV C hml hl.1 hZ hW hA (As := [.int x]) (rest := [.int (nI 0), .ref u0]) (k_X9_weight l hfl D aT x0 v0 t0 p0 o0 sv le lf h0 a0 a1 a2 a3 a4 a5 a6 a7 a8 a9 a10 bb nh nm M Bd hBd hC hB x) gV_L_X9_weight_61 hV_X9_weight rfl ⟨Nat.le_of_ble_eq_true rfl, Nat.le_of_ble_eq_true rfl⟩ ⟨Nat.le_of_ble_eq_true rfl, Nat.le_of_ble_eq_true rfl⟩ [1, 2, 3, 4, 5, 6, 7, 8, 9, 10, 11, 12] rfl (by decide) 1 12 rfl rfl rfl rfl (Nat.le_of_ble_eq_true rfl) dL_weight_4) hW hA [1, 2, 3, 4, 5, 6, 7, 8, 9, 10, 11, 12] [0] rfl rfl (by decide) (by decide) ?_ (fun r_4 W_4 H locs hq hW => ?_)
  rotate_left
  obtain hq := hq
  have hW : CxB D (([(u0, .inl (aT 2, 1, .inr (.inl o)))] : va_W) ++ W_4) A s.heap H _ := hW
  refine lv_i2l (v := (r_4).toInt64) hx hb dL_weight_7 rfl ?_
  refine cx_last C hW 0 2 (j := 0) (W1 := (([(u0, .inl (aT 2, 1, .inr (.inl (vp_updL o 0 ((r_4).toInt64)))))] : va_W) ++ W_4)) rfl rfl rfl (by omega) (by decide) rfl dL_weight_8 (fun H locs hW => ?_)
  refine lv_goto (tgt := 15) hx hb dL_weight_9 (by decide) ?_
  refine lv_iconst (v := nI 0) hx hb dL_weight_15 (by decide) ?_
  exact cx_tret C hr hlocks rfl hW ⟨Nat.le_of_ble_eq_true rfl, Nat.le_of_ble_eq_true rfl⟩ (⟨W_4, _, Or.inl ⟨r_4, rfl, rfl, hq⟩, rfl⟩) dL_weight_16
  · intro E ce q9 W9 H locs hE hW h7 h8 h9
    have hE2 := hE
    rcases (show E = "java/util/NoSuchElementException" from by
      clear hW
      revert hE
      grind) with rfl
    · have hW : CxB D (([(u0, .inl (aT 2, 1, .inr (.inl o)))] : va_W) ++ W9) A s.heap H _ := hW
      refine cx_catchT C hZ (nm := "java/util/NoSuchElementException") [] ⟨0, 9, 12, 24⟩ (tableOf []) htb (fun z hz => by cases hz) (by decide) (by decide) gw_690 nw_705 h7 h8 h9 ?_
      refine lv_astore_n (lv' := [(3, .ref q9), (0, .ref x0), (1, .int x), (2, .ref u0)]) hx hb dL_weight_12 rfl hl (by decide) rfl (fun ls hl => ?_)
      refine lv_iconst (v := nI 1) hx hb dL_weight_13 (by decide) ?_
      exact cx_tret C hr hlocks rfl hW ⟨Nat.le_of_ble_eq_true rfl, Nat.le_of_ble_eq_true rfl⟩ (⟨W9, _, Or.inr ⟨_, hE2, ⟨rfl, rfl⟩⟩, rfl⟩) dL_weight_14
theorem dL_parent_0 : decode cL_parent 0 = .ok (.aload_n 2, 1) := by decide +kernel
theorem dL_parent_1 : decode cL_parent 1 = .ok (.iconst 0, 1) := by decide +kernel
theorem dL_parent_2 : decode cL_parent 2 = .ok (.aload_n 0, 1) := by decide +kernel
theorem dL_parent_3 : decode cL_parent 3 = .ok (.iload_n 1, 1) := by decide +kernel
theorem dL_parent_4 : decode cL_parent 4 = .ok (.invokevirtual 64, 3) := by decide +kernel
theorem dL_parent_7 : decode cL_parent 7 = .ok (.i2l, 1) := by decide +kernel
theorem dL_parent_8 : decode cL_parent 8 = .ok (.lastore, 1) := by decide +kernel
theorem dL_parent_9 : decode cL_parent 9 = .ok (.goto 6, 3) := by decide +kernel
theorem dL_parent_12 : decode cL_parent 12 = .ok (.astore_n 3, 1) := by decide +kernel
theorem dL_parent_13 : decode cL_parent 13 = .ok (.iconst 1, 1) := by decide +kernel
theorem dL_parent_14 : decode cL_parent 14 = .ok (.ireturn, 1) := by decide +kernel
theorem dL_parent_15 : decode cL_parent 15 = .ok (.iconst 0, 1) := by decide +kernel
theorem dL_parent_16 : decode cL_parent 16 = .ok (.ireturn, 1) := by decide +kernel
theorem gV_L_X9_parent_64 : GoodIn gw (wsV RL 64 RX9 yX9_parent (Cond.code yX9_parent cX9_parent 3 (some .int) :: gw)) := gdV gw_923 gw_924 gw_925 gw_67 gw_926
theorem hV_X9_parent : yX9_parent.cls = RX9 ∧ yX9_parent.cls ≠ "java/lang/invoke/MethodHandle" ∧ yX9_parent.cls ≠ "java/lang/invoke/VarHandle" ∧ (parseMethodDescriptor yX9_parent.desc).map (fun d => d.parameters.length) = some 1 := ⟨rfl, by decide +kernel, by decide +kernel, by decide +kernel⟩
set_option maxHeartbeats 2000000 in
set_option maxRecDepth 20000 in
theorem k_L_parent (l : Launch) (hfl : l.stackTraces = false) (D : va_G) (aT : Nat → ClassId) (u0 : Nat) (o : Nat → Int64) (x0 : Nat) (v0 : Nat) (t0 : Nat) (p0 : Nat) (o0 : Nat) (sv : Bool) (le : Int32) (lf : Int32) (h0 : Nat) (a0 : Nat) (a1 : Nat) (a2 : Nat) (a3 : Nat) (a4 : Nat) (a5 : Nat) (a6 : Nat) (a7 : Nat) (a8 : Nat) (a9 : Nat) (a10 : Nat) (bb : Nat → Nat → Int32) (nh : Nat) (nm : Nat) (M : Nat → Int32) (Bd : Nat) (hBd : Bd < 1048000) (hC : CoW M Bd) (hB : BlC bb nh nm M) (x : Int32) : CxT l yL_parent cL_parent 4 (some (.int)) [(0, 9, 12, 24)] 8 2 12 134 D aT [.ref x0, .int x, .ref u0] [(u0, .inl (aT 2, 1, .inr (.inl o))), (x0, .inr (12, [.ref a0, .ref v0, .ref h0, .ref t0, .ref p0, .ref o0, .int (bI sv), .int le, .int lf])), (a0, .inr (10, [.ref a1, .ref a5, .ref a10, .int (bb 8 1), .int (bb 8 2), .int (bb 8 3), .int (bb 8 4), .int (bb 8 5), .int (bb 8 6), .int (bb 8 7), .int (bb 8 8)])), (a1, .inr (6, [.ref a2, .ref a3, .ref a4, .int (nI nh)])), (a2, .inl (aT 0, 6, .inl (bb 0))), (a3, .inl (aT 0, 6, .inl (bb 1))), (a4, .inl (aT 0, 6, .inl (bb 2))), (a5, .inr (8, [.ref a6, .ref a7, .ref a8, .ref a9, .int (nI nm), .int (bb 8 0)])), (a6, .inl (aT 0, 12, .inl (bb 3))), (a7, .inl (aT 0, 12, .inl (bb 4))), (a8, .inl (aT 0, 12, .inl (bb 5))), (a9, .inl (aT 0, 12, .inl (bb 6))), (a10, .inl (aT 0, 4, .inl (bb 7)))] (qI D aT (fun r W1 => ∃ (W2 : va_W) (o2 : Nat → Int64), ((∃ r0 : Int32, r = nI 0 ∧ o2 0 = r0.toInt64 ∧ (fun r W1 => (∃ q j, fnd (fun k => M (29 + 4 * k)) x nm = some q ∧ prM M q = some j ∧ r = nI (idM M j)) ∧ W1 = ([(x0, .inr (12, [.ref a0, .ref v0, .ref h0, .ref t0, .ref p0, .ref o0, .int (bI sv), .int le, .int lf])), (a0, .inr (10, [.ref a1, .ref a5, .ref a10, .int (bb 8 1), .int (bb 8 2), .int (bb 8 3), .int (bb 8 4), .int (bb 8 5), .int (bb 8 6), .int (bb 8 7), .int (bb 8 8)])), (a1, .inr (6, [.ref a2, .ref a3, .ref a4, .int (nI nh)])), (a2, .inl (aT 0, 6, .inl (bb 0))), (a3, .inl (aT 0, 6, .inl (bb 1))), (a4, .inl (aT 0, 6, .inl (bb 2))), (a5, .inr (8, [.ref a6, .ref a7, .ref a8, .ref a9, .int (nI nm), .int (bb 8 0)])), (a6, .inl (aT 0, 12, .inl (bb 3))), (a7, .inl (aT 0, 12, .inl (bb 4))), (a8, .inl (aT 0, 12, .inl (bb 5))), (a9, .inl (aT 0, 12, .inl (bb 6))), (a10, .inl (aT 0, 4, .inl (bb 7)))] : va_W)) r0 W2) ∨ (∃ E9 : String, (fun E W1 => (E = "java/util/NoSuchElementException" ∧ (fnd (fun k => M (29 + 4 * k)) x nm = none ∨ ∃ q, fnd (fun k => M (29 + 4 * k)) x nm = some q ∧ prM M q = none)) ∧ W1 = ([(x0, .inr (12, [.ref a0, .ref v0, .ref h0, .ref t0, .ref p0, .ref o0, .int (bI sv), .int le, .int lf])), (a0, .inr (10, [.ref a1, .ref a5, .ref a10, .int (bb 8 1), .int (bb 8 2), .int (bb 8 3), .int (bb 8 4), .int (bb 8 5), .int (bb 8 6), .int (bb 8 7), .int (bb 8 8)])), (a1, .inr (6, [.ref a2, .ref a3, .ref a4, .int (nI nh)])), (a2, .inl (aT 0, 6, .inl (bb 0))), (a3, .inl (aT 0, 6, .inl (bb 1))), (a4, .inl (aT 0, 6, .inl (bb 2))), (a5, .inr (8, [.ref a6, .ref a7, .ref a8, .ref a9, .int (nI nm), .int (bb 8 0)])), (a6, .inl (aT 0, 12, .inl (bb 3))), (a7, .inl (aT 0, 12, .inl (bb 4))), (a8, .inl (aT 0, 12, .inl (bb 5))), (a9, .inl (aT 0, 12, .inl (bb 6))), (a10, .inl (aT 0, 4, .inl (bb 7)))] : va_W)) E9 W2 ∧ ((E9 = "java/util/NoSuchElementException" ∧ r = nI 1)))) ∧ W1 = (([(u0, .inl (aT 2, 1, .inr (.inl o2)))] : va_W) ++ W2))) := by
  refine CxT.of RL (by decide +kernel) rfl (Nat.le_of_ble_eq_true rfl) ?_
  intro p e s m below meth c A ls C hml hl hA hr hlocks htb hZ hW
  have hl : lv_has ls 4 [(0, .ref x0), (1, .int x), (2, .ref u0)] := hl
  have hx := C.1
  have hb := C.2.1
  refine lv_aload_n hx hb dL_parent_0 rfl (lv_at hl 2 rfl) ?_
  refine lv_iconst (v := nI 0) hx hb dL_parent_1 (by decide) ?_
  refine lv_aload_n hx hb dL_parent_2 rfl (lv_at hl 0 rfl) ?_
  refine lv_iload_n hx hb dL_parent_3 rfl (lv_at hl 1 rfl) ?_
  refine cx_calli (Wr := [(u0, .inl (aT 2, 1, .inr (.inl o)))]) (cx_runV C hml hl.1 hZ hW hA (As := [.int x]) (rest := [.int (nI 0), .ref u0]) (k_X9_parent l hfl D aT x0 v0 t0 p0 o0 sv le lf h0 a0 a1 a2 a3 a4 a5 a6 a7 a8 a9 a10 bb nh nm M Bd hBd hC hB x) gV_L_X9_parent_64 hV_X9_parent rfl ⟨Nat.le_of_ble_eq_true rfl, Nat.le_of_ble_eq_true rfl⟩ ⟨Nat.le_of_ble_eq_true rfl, Nat.le_of_ble_eq_true rfl⟩ [1, 2, 3, 4, 5, 6, 7, 8, 9, 10, 11, 12] rfl (by decide) 1 12 rfl rfl rfl rfl (Nat.le_of_ble_eq_true rfl) dL_parent_4) hW hA [1, 2, 3, 4, 5, 6, 7, 8, 9, 10, 11, 12] [0] rfl rfl (by decide) (by decide) ?_ (fun r_4 W_4 H locs hq hW => ?_)
  rotate_left
  obtain hq := hq
  have hW : CxB D (([(u0, .inl (aT 2, 1, .inr (.inl o)))] : va_W) ++ W_4) A s.heap H _ := hW
  refine lv_i2l (v := (r_4).toInt64) hx hb dL_parent_7 rfl ?_
  refine cx_last C hW 0 2 (j := 0) (W1 := (([(u0, .inl (aT 2, 1, .inr (.inl (vp_updL o 0 ((r_4).toInt64)))))] : va_W) ++ W_4)) rfl rfl rfl (by omega) (by decide) rfl dL_parent_8 (fun H locs hW => ?_)
  refine lv_goto (tgt := 15) hx hb dL_parent_9 (by decide) ?_
  refine lv_iconst (v := nI 0) hx hb dL_parent_15 (by decide) ?_
  exact cx_tret C hr hlocks rfl hW ⟨Nat.le_of_ble_eq_true rfl, Nat.le_of_ble_eq_true rfl⟩ (⟨W_4, _, Or.inl ⟨r_4, rfl, rfl, hq⟩, rfl⟩) dL_parent_16
  · intro E ce q9 W9 H locs hE hW h7 h8 h9
    have hE2 := hE
    rcases (show E = "java/util/NoSuchElementException" from by
      clear hW
      revert hE
      grind) with rfl
    · have hW : CxB D (([(u0, .inl (aT 2, 1, .inr (.inl o)))] : va_W) ++ W9) A s.heap H _ := hW
      refine cx_catchT C hZ (nm := "java/util/NoSuchElementException") [] ⟨0, 9, 12, 24⟩ (tableOf []) htb (fun z hz => by cases hz) (by decide) (by decide) gw_690 nw_705 h7 h8 h9 ?_
      refine lv_astore_n (lv' := [(3, .ref q9), (0, .ref x0), (1, .int x), (2, .ref u0)]) hx hb dL_parent_12 rfl hl (by decide) rfl (fun ls hl => ?_)
      refine lv_iconst (v := nI 1) hx hb dL_parent_13 (by decide) ?_
      exact cx_tret C hr hlocks rfl hW ⟨Nat.le_of_ble_eq_true rfl, Nat.le_of_ble_eq_true rfl⟩ (⟨W9, _, Or.inr ⟨_, hE2, ⟨rfl, rfl⟩⟩, rfl⟩) dL_parent_14
theorem dL_depth_0 : decode cL_depth 0 = .ok (.aload_n 2, 1) := by decide +kernel
theorem dL_depth_1 : decode cL_depth 1 = .ok (.iconst 0, 1) := by decide +kernel
theorem dL_depth_2 : decode cL_depth 2 = .ok (.aload_n 0, 1) := by decide +kernel
theorem dL_depth_3 : decode cL_depth 3 = .ok (.iload_n 1, 1) := by decide +kernel
theorem dL_depth_4 : decode cL_depth 4 = .ok (.invokevirtual 67, 3) := by decide +kernel
theorem dL_depth_7 : decode cL_depth 7 = .ok (.i2l, 1) := by decide +kernel
theorem dL_depth_8 : decode cL_depth 8 = .ok (.lastore, 1) := by decide +kernel
theorem dL_depth_9 : decode cL_depth 9 = .ok (.goto 6, 3) := by decide +kernel
theorem dL_depth_12 : decode cL_depth 12 = .ok (.astore_n 3, 1) := by decide +kernel
theorem dL_depth_13 : decode cL_depth 13 = .ok (.iconst 1, 1) := by decide +kernel
theorem dL_depth_14 : decode cL_depth 14 = .ok (.ireturn, 1) := by decide +kernel
theorem dL_depth_15 : decode cL_depth 15 = .ok (.iconst 0, 1) := by decide +kernel
theorem dL_depth_16 : decode cL_depth 16 = .ok (.ireturn, 1) := by decide +kernel
theorem gV_L_X9_depth_67 : GoodIn gw (wsV RL 67 RX9 yX9_depth (Cond.code yX9_depth cX9_depth 2 (some .int) :: gw)) := gdV gw_931 gw_932 gw_933 gw_67 gw_934
theorem hV_X9_depth : yX9_depth.cls = RX9 ∧ yX9_depth.cls ≠ "java/lang/invoke/MethodHandle" ∧ yX9_depth.cls ≠ "java/lang/invoke/VarHandle" ∧ (parseMethodDescriptor yX9_depth.desc).map (fun d => d.parameters.length) = some 1 := ⟨rfl, by decide +kernel, by decide +kernel, by decide +kernel⟩
set_option maxHeartbeats 2000000 in
set_option maxRecDepth 20000 in
theorem k_L_depth (l : Launch) (hfl : l.stackTraces = false) (D : va_G) (aT : Nat → ClassId) (u0 : Nat) (o : Nat → Int64) (x0 : Nat) (v0 : Nat) (t0 : Nat) (p0 : Nat) (o0 : Nat) (sv : Bool) (le : Int32) (lf : Int32) (h0 : Nat) (a0 : Nat) (a1 : Nat) (a2 : Nat) (a3 : Nat) (a4 : Nat) (a5 : Nat) (a6 : Nat) (a7 : Nat) (a8 : Nat) (a9 : Nat) (a10 : Nat) (bb : Nat → Nat → Int32) (nh : Nat) (nm : Nat) (M : Nat → Int32) (Bd : Nat) (hBd : Bd < 1048000) (hC : CoW M Bd) (hB : BlC bb nh nm M) (x : Int32) : CxT l yL_depth cL_depth 4 (some (.int)) [(0, 9, 12, 24)] 8 1 6 133 D aT [.ref x0, .int x, .ref u0] [(u0, .inl (aT 2, 1, .inr (.inl o))), (x0, .inr (12, [.ref a0, .ref v0, .ref h0, .ref t0, .ref p0, .ref o0, .int (bI sv), .int le, .int lf])), (a0, .inr (10, [.ref a1, .ref a5, .ref a10, .int (bb 8 1), .int (bb 8 2), .int (bb 8 3), .int (bb 8 4), .int (bb 8 5), .int (bb 8 6), .int (bb 8 7), .int (bb 8 8)])), (a1, .inr (6, [.ref a2, .ref a3, .ref a4, .int (nI nh)])), (a2, .inl (aT 0, 6, .inl (bb 0))), (a3, .inl (aT 0, 6, .inl (bb 1))), (a4, .inl (aT 0, 6, .inl (bb 2))), (a5, .inr (8, [.ref a6, .ref a7, .ref a8, .ref a9, .int (nI nm), .int (bb 8 0)])), (a6, .inl (aT 0, 12, .inl (bb 3))), (a7, .inl (aT 0, 12, .inl (bb 4))), (a8, .inl (aT 0, 12, .inl (bb 5))), (a9, .inl (aT 0, 12, .inl (bb 6))), (a10, .inl (aT 0, 4, .inl (bb 7)))] (qI D aT (fun r W1 => ∃ (W2 : va_W) (o2 : Nat → Int64), ((∃ r0 : Int32, r = nI 0 ∧ o2 0 = r0.toInt64 ∧ (fun r W1 => (∃ q, fnd (fun k => M (29 + 4 * k)) x nm = some q ∧ r = nI (dep (prM M) q)) ∧ W1 = ([(x0, .inr (12, [.ref a0, .ref v0, .ref h0, .ref t0, .ref p0, .ref o0, .int (bI sv), .int le, .int lf])), (a0, .inr (10, [.ref a1, .ref a5, .ref a10, .int (bb 8 1), .int (bb 8 2), .int (bb 8 3), .int (bb 8 4), .int (bb 8 5), .int (bb 8 6), .int (bb 8 7), .int (bb 8 8)])), (a1, .inr (6, [.ref a2, .ref a3, .ref a4, .int (nI nh)])), (a2, .inl (aT 0, 6, .inl (bb 0))), (a3, .inl (aT 0, 6, .inl (bb 1))), (a4, .inl (aT 0, 6, .inl (bb 2))), (a5, .inr (8, [.ref a6, .ref a7, .ref a8, .ref a9, .int (nI nm), .int (bb 8 0)])), (a6, .inl (aT 0, 12, .inl (bb 3))), (a7, .inl (aT 0, 12, .inl (bb 4))), (a8, .inl (aT 0, 12, .inl (bb 5))), (a9, .inl (aT 0, 12, .inl (bb 6))), (a10, .inl (aT 0, 4, .inl (bb 7)))] : va_W)) r0 W2) ∨ (∃ E9 : String, (fun E W1 => (E = "java/util/NoSuchElementException" ∧ fnd (fun k => M (29 + 4 * k)) x nm = none) ∧ W1 = ([(x0, .inr (12, [.ref a0, .ref v0, .ref h0, .ref t0, .ref p0, .ref o0, .int (bI sv), .int le, .int lf])), (a0, .inr (10, [.ref a1, .ref a5, .ref a10, .int (bb 8 1), .int (bb 8 2), .int (bb 8 3), .int (bb 8 4), .int (bb 8 5), .int (bb 8 6), .int (bb 8 7), .int (bb 8 8)])), (a1, .inr (6, [.ref a2, .ref a3, .ref a4, .int (nI nh)])), (a2, .inl (aT 0, 6, .inl (bb 0))), (a3, .inl (aT 0, 6, .inl (bb 1))), (a4, .inl (aT 0, 6, .inl (bb 2))), (a5, .inr (8, [.ref a6, .ref a7, .ref a8, .ref a9, .int (nI nm), .int (bb 8 0)])), (a6, .inl (aT 0, 12, .inl (bb 3))), (a7, .inl (aT 0, 12, .inl (bb 4))), (a8, .inl (aT 0, 12, .inl (bb 5))), (a9, .inl (aT 0, 12, .inl (bb 6))), (a10, .inl (aT 0, 4, .inl (bb 7)))] : va_W)) E9 W2 ∧ ((E9 = "java/util/NoSuchElementException" ∧ r = nI 1)))) ∧ W1 = (([(u0, .inl (aT 2, 1, .inr (.inl o2)))] : va_W) ++ W2))) := by
  refine CxT.of RL (by decide +kernel) rfl (Nat.le_of_ble_eq_true rfl) ?_
  intro p e s m below meth c A ls C hml hl hA hr hlocks htb hZ hW
  have hl : lv_has ls 4 [(0, .ref x0), (1, .int x), (2, .ref u0)] := hl
  have hx := C.1
  have hb := C.2.1
  refine lv_aload_n hx hb dL_depth_0 rfl (lv_at hl 2 rfl) ?_
  refine lv_iconst (v := nI 0) hx hb dL_depth_1 (by decide) ?_
  refine lv_aload_n hx hb dL_depth_2 rfl (lv_at hl 0 rfl) ?_
  refine lv_iload_n hx hb dL_depth_3 rfl (lv_at hl 1 rfl) ?_
  refine cx_calli (Wr := [(u0, .inl (aT 2, 1, .inr (.inl o)))]) (cx_runV C hml hl.1 hZ hW hA (As := [.int x]) (rest := [.int (nI 0), .ref u0]) (k_X9_depth l hfl D aT x0 v0 t0 p0 o0 sv le lf h0 a0 a1 a2 a3 a4 a5 a6 a7 a8 a9 a10 bb nh nm M Bd hBd hC hB x) gV_L_X9_depth_67 hV_X9_depth rfl ⟨Nat.le_of_ble_eq_true rfl, Nat.le_of_ble_eq_true rfl⟩ ⟨Nat.le_of_ble_eq_true rfl, Nat.le_of_ble_eq_true rfl⟩ [1, 2, 3, 4, 5, 6, 7, 8, 9, 10, 11, 12] rfl (by decide) 1 12 rfl rfl rfl rfl (Nat.le_of_ble_eq_true rfl) dL_depth_4) hW hA [1, 2, 3, 4, 5, 6, 7, 8, 9, 10, 11, 12] [0] rfl rfl (by decide) (by decide) ?_ (fun r_4 W_4 H locs hq hW => ?_)
  rotate_left
  obtain hq := hq
  have hW : CxB D (([(u0, .inl (aT 2, 1, .inr (.inl o)))] : va_W) ++ W_4) A s.heap H _ := hW
  refine lv_i2l (v := (r_4).toInt64) hx hb dL_depth_7 rfl ?_
  refine cx_last C hW 0 2 (j := 0) (W1 := (([(u0, .inl (aT 2, 1, .inr (.inl (vp_updL o 0 ((r_4).toInt64)))))] : va_W) ++ W_4)) rfl rfl rfl (by omega) (by decide) rfl dL_depth_8 (fun H locs hW => ?_)
  refine lv_goto (tgt := 15) hx hb dL_depth_9 (by decide) ?_
  refine lv_iconst (v := nI 0) hx hb dL_depth_15 (by decide) ?_
  exact cx_tret C hr hlocks rfl hW ⟨Nat.le_of_ble_eq_true rfl, Nat.le_of_ble_eq_true rfl⟩ (⟨W_4, _, Or.inl ⟨r_4, rfl, rfl, hq⟩, rfl⟩) dL_depth_16
  · intro E ce q9 W9 H locs hE hW h7 h8 h9
    have hE2 := hE
    rcases (show E = "java/util/NoSuchElementException" from by
      clear hW
      revert hE
      grind) with rfl
    · have hW : CxB D (([(u0, .inl (aT 2, 1, .inr (.inl o)))] : va_W) ++ W9) A s.heap H _ := hW
      refine cx_catchT C hZ (nm := "java/util/NoSuchElementException") [] ⟨0, 9, 12, 24⟩ (tableOf []) htb (fun z hz => by cases hz) (by decide) (by decide) gw_690 nw_705 h7 h8 h9 ?_
      refine lv_astore_n (lv' := [(3, .ref q9), (0, .ref x0), (1, .int x), (2, .ref u0)]) hx hb dL_depth_12 rfl hl (by decide) rfl (fun ls hl => ?_)
      refine lv_iconst (v := nI 1) hx hb dL_depth_13 (by decide) ?_
      exact cx_tret C hr hlocks rfl hW ⟨Nat.le_of_ble_eq_true rfl, Nat.le_of_ble_eq_true rfl⟩ (⟨W9, _, Or.inr ⟨_, hE2, ⟨rfl, rfl⟩⟩, rfl⟩) dL_depth_14
theorem dL_isTip_0 : decode cL_isTip 0 = .ok (.aload_n 2, 1) := by decide +kernel
theorem dL_isTip_1 : decode cL_isTip 1 = .ok (.iconst 0, 1) := by decide +kernel
theorem dL_isTip_2 : decode cL_isTip 2 = .ok (.aload_n 0, 1) := by decide +kernel
theorem dL_isTip_3 : decode cL_isTip 3 = .ok (.iload_n 1, 1) := by decide +kernel
theorem dL_isTip_4 : decode cL_isTip 4 = .ok (.invokevirtual 70, 3) := by decide +kernel
theorem dL_isTip_7 : decode cL_isTip 7 = .ok (.ifCond .eq 7, 3) := by decide +kernel
theorem dL_isTip_10 : decode cL_isTip 10 = .ok (.lconst 1, 1) := by decide +kernel
theorem dL_isTip_11 : decode cL_isTip 11 = .ok (.goto 4, 3) := by decide +kernel
theorem dL_isTip_14 : decode cL_isTip 14 = .ok (.lconst 0, 1) := by decide +kernel
theorem dL_isTip_15 : decode cL_isTip 15 = .ok (.lastore, 1) := by decide +kernel
theorem dL_isTip_16 : decode cL_isTip 16 = .ok (.goto 6, 3) := by decide +kernel
theorem dL_isTip_19 : decode cL_isTip 19 = .ok (.astore_n 3, 1) := by decide +kernel
theorem dL_isTip_20 : decode cL_isTip 20 = .ok (.iconst 1, 1) := by decide +kernel
theorem dL_isTip_21 : decode cL_isTip 21 = .ok (.ireturn, 1) := by decide +kernel
theorem dL_isTip_22 : decode cL_isTip 22 = .ok (.iconst 0, 1) := by decide +kernel
theorem dL_isTip_23 : decode cL_isTip 23 = .ok (.ireturn, 1) := by decide +kernel
theorem gV_L_X9_isTip_70 : GoodIn gw (wsV RL 70 RX9 yX9_isTip (Cond.code yX9_isTip cX9_isTip 2 (some .boolean) :: gw)) := gdV gw_939 gw_940 gw_941 gw_67 gw_942
theorem hV_X9_isTip : yX9_isTip.cls = RX9 ∧ yX9_isTip.cls ≠ "java/lang/invoke/MethodHandle" ∧ yX9_isTip.cls ≠ "java/lang/invoke/VarHandle" ∧ (parseMethodDescriptor yX9_isTip.desc).map (fun d => d.parameters.length) = some 1 := ⟨rfl, by decide +kernel, by decide +kernel, by decide +kernel⟩
set_option maxHeartbeats 2000000 in
set_option maxRecDepth 20000 in
theorem k_L_isTip (l : Launch) (hfl : l.stackTraces = false) (D : va_G) (aT : Nat → ClassId) (u0 : Nat) (o : Nat → Int64) (x0 : Nat) (v0 : Nat) (t0 : Nat) (p0 : Nat) (o0 : Nat) (sv : Bool) (le : Int32) (lf : Int32) (h0 : Nat) (a0 : Nat) (a1 : Nat) (a2 : Nat) (a3 : Nat) (a4 : Nat) (a5 : Nat) (a6 : Nat) (a7 : Nat) (a8 : Nat) (a9 : Nat) (a10 : Nat) (bb : Nat → Nat → Int32) (nh : Nat) (nm : Nat) (M : Nat → Int32) (Bd : Nat) (hBd : Bd < 1048000) (hC : CoW M Bd) (hB : BlC bb nh nm M) (x : Int32) : CxT l yL_isTip cL_isTip 4 (some (.int)) [(0, 16, 19, 24)] 8 1 6 133 D aT [.ref x0, .int x, .ref u0] [(u0, .inl (aT 2, 1, .inr (.inl o))), (x0, .inr (12, [.ref a0, .ref v0, .ref h0, .ref t0, .ref p0, .ref o0, .int (bI sv), .int le, .int lf])), (a0, .inr (10, [.ref a1, .ref a5, .ref a10, .int (bb 8 1), .int (bb 8 2), .int (bb 8 3), .int (bb 8 4), .int (bb 8 5), .int (bb 8 6), .int (bb 8 7), .int (bb 8 8)])), (a1, .inr (6, [.ref a2, .ref a3, .ref a4, .int (nI nh)])), (a2, .inl (aT 0, 6, .inl (bb 0))), (a3, .inl (aT 0, 6, .inl (bb 1))), (a4, .inl (aT 0, 6, .inl (bb 2))), (a5, .inr (8, [.ref a6, .ref a7, .ref a8, .ref a9, .int (nI nm), .int (bb 8 0)])), (a6, .inl (aT 0, 12, .inl (bb 3))), (a7, .inl (aT 0, 12, .inl (bb 4))), (a8, .inl (aT 0, 12, .inl (bb 5))), (a9, .inl (aT 0, 12, .inl (bb 6))), (a10, .inl (aT 0, 4, .inl (bb 7)))] (qI D aT (fun r W1 => ∃ (W2 : va_W) (o2 : Nat → Int64), ((∃ r0 : Int32, r = nI 0 ∧ o2 0 = (if r0 = 0 then 0 else 1) ∧ (fun r W1 => (∃ q, fnd (fun k => M (29 + 4 * k)) x nm = some q ∧ r = bI (tipB (prM M) q nm)) ∧ W1 = ([(x0, .inr (12, [.ref a0, .ref v0, .ref h0, .ref t0, .ref p0, .ref o0, .int (bI sv), .int le, .int lf])), (a0, .inr (10, [.ref a1, .ref a5, .ref a10, .int (bb 8 1), .int (bb 8 2), .int (bb 8 3), .int (bb 8 4), .int (bb 8 5), .int (bb 8 6), .int (bb 8 7), .int (bb 8 8)])), (a1, .inr (6, [.ref a2, .ref a3, .ref a4, .int (nI nh)])), (a2, .inl (aT 0, 6, .inl (bb 0))), (a3, .inl (aT 0, 6, .inl (bb 1))), (a4, .inl (aT 0, 6, .inl (bb 2))), (a5, .inr (8, [.ref a6, .ref a7, .ref a8, .ref a9, .int (nI nm), .int (bb 8 0)])), (a6, .inl (aT 0, 12, .inl (bb 3))), (a7, .inl (aT 0, 12, .inl (bb 4))), (a8, .inl (aT 0, 12, .inl (bb 5))), (a9, .inl (aT 0, 12, .inl (bb 6))), (a10, .inl (aT 0, 4, .inl (bb 7)))] : va_W)) r0 W2) ∨ (∃ E9 : String, (fun E W1 => (E = "java/util/NoSuchElementException" ∧ fnd (fun k => M (29 + 4 * k)) x nm = none) ∧ W1 = ([(x0, .inr (12, [.ref a0, .ref v0, .ref h0, .ref t0, .ref p0, .ref o0, .int (bI sv), .int le, .int lf])), (a0, .inr (10, [.ref a1, .ref a5, .ref a10, .int (bb 8 1), .int (bb 8 2), .int (bb 8 3), .int (bb 8 4), .int (bb 8 5), .int (bb 8 6), .int (bb 8 7), .int (bb 8 8)])), (a1, .inr (6, [.ref a2, .ref a3, .ref a4, .int (nI nh)])), (a2, .inl (aT 0, 6, .inl (bb 0))), (a3, .inl (aT 0, 6, .inl (bb 1))), (a4, .inl (aT 0, 6, .inl (bb 2))), (a5, .inr (8, [.ref a6, .ref a7, .ref a8, .ref a9, .int (nI nm), .int (bb 8 0)])), (a6, .inl (aT 0, 12, .inl (bb 3))), (a7, .inl (aT 0, 12, .inl (bb 4))), (a8, .inl (aT 0, 12, .inl (bb 5))), (a9, .inl (aT 0, 12, .inl (bb 6))), (a10, .inl (aT 0, 4, .inl (bb 7)))] : va_W)) E9 W2 ∧ ((E9 = "java/util/NoSuchElementException" ∧ r = nI 1)))) ∧ W1 = (([(u0, .inl (aT 2, 1, .inr (.inl o2)))] : va_W) ++ W2))) := by
  refine CxT.of RL (by decide +kernel) rfl (Nat.le_of_ble_eq_true rfl) ?_
  intro p e s m below meth c A ls C hml hl hA hr hlocks htb hZ hW
  have hl : lv_has ls 4 [(0, .ref x0), (1, .int x), (2, .ref u0)] := hl
  have hx := C.1
  have hb := C.2.1
  refine lv_aload_n hx hb dL_isTip_0 rfl (lv_at hl 2 rfl) ?_
  refine lv_iconst (v := nI 0) hx hb dL_isTip_1 (by decide) ?_
  refine lv_aload_n hx hb dL_isTip_2 rfl (lv_at hl 0 rfl) ?_
  refine lv_iload_n hx hb dL_isTip_3 rfl (lv_at hl 1 rfl) ?_
  refine cx_calli (Wr := [(u0, .inl (aT 2, 1, .inr (.inl o)))]) (cx_runV C hml hl.1 hZ hW hA (As := [.int x]) (rest := [.int (nI 0), .ref u0]) (k_X9_isTip l hfl D aT x0 v0 t0 p0 o0 sv le lf h0 a0 a1 a2 a3 a4 a5 a6 a7 a8 a9 a10 bb nh nm M Bd hBd hC hB x) gV_L_X9_isTip_70 hV_X9_isTip rfl ⟨Nat.le_of_ble_eq_true rfl, Nat.le_of_ble_eq_true rfl⟩ ⟨Nat.le_of_ble_eq_true rfl, Nat.le_of_ble_eq_true rfl⟩ [1, 2, 3, 4, 5, 6, 7, 8, 9, 10, 11, 12] rfl (by decide) 1 12 rfl rfl rfl rfl (Nat.le_of_ble_eq_true rfl) dL_isTip_4) hW hA [1, 2, 3, 4, 5, 6, 7, 8, 9, 10, 11, 12] [0] rfl rfl (by decide) (by decide) ?_ (fun r_4 W_4 H locs hq hW => ?_)
  rotate_left
  obtain hq := hq
  have hW : CxB D (([(u0, .inl (aT 2, 1, .inr (.inl o)))] : va_W) ++ W_4) A s.heap H _ := hW
  refine lv_if_eq hx hb (x := r_4) (tgt := 14) dL_isTip_7 (by decide) (fun c_7 => ?_) (fun c_7 => ?_)
  · refine lv_lconst (v := 0) hx hb dL_isTip_14 (by decide) ?_
    refine cx_last C hW 0 2 (j := 0) (W1 := (([(u0, .inl (aT 2, 1, .inr (.inl (vp_updL o 0 0))))] : va_W) ++ W_4)) rfl rfl rfl (by omega) (by decide) rfl dL_isTip_15 (fun H locs hW => ?_)
    refine lv_goto (tgt := 22) hx hb dL_isTip_16 (by decide) ?_
    refine lv_iconst (v := nI 0) hx hb dL_isTip_22 (by decide) ?_
    exact cx_tret C hr hlocks rfl hW ⟨Nat.le_of_ble_eq_true rfl, Nat.le_of_ble_eq_true rfl⟩ (⟨W_4, _, Or.inl ⟨r_4, rfl, (by first | (show (0 : Int64) = if r_4 = 0 then 0 else 1; rw [if_pos (by assumption)]) | (show (1 : Int64) = if r_4 = 0 then 0 else 1; rw [if_neg (by assumption)])), hq⟩, rfl⟩) dL_isTip_23
  · refine lv_lconst (v := 1) hx hb dL_isTip_10 (by decide) ?_
    refine lv_goto (tgt := 15) hx hb dL_isTip_11 (by decide) ?_
    refine cx_last C hW 0 2 (j := 0) (W1 := (([(u0, .inl (aT 2, 1, .inr (.inl (vp_updL o 0 1))))] : va_W) ++ W_4)) rfl rfl rfl (by omega) (by decide) rfl dL_isTip_15 (fun H locs hW => ?_)
    refine lv_goto (tgt := 22) hx hb dL_isTip_16 (by decide) ?_
    refine lv_iconst (v := nI 0) hx hb dL_isTip_22 (by decide) ?_
    exact cx_tret C hr hlocks rfl hW ⟨Nat.le_of_ble_eq_true rfl, Nat.le_of_ble_eq_true rfl⟩ (⟨W_4, _, Or.inl ⟨r_4, rfl, (by first | (show (0 : Int64) = if r_4 = 0 then 0 else 1; rw [if_pos (by assumption)]) | (show (1 : Int64) = if r_4 = 0 then 0 else 1; rw [if_neg (by assumption)])), hq⟩, rfl⟩) dL_isTip_23
  · intro E ce q9 W9 H locs hE hW h7 h8 h9
    have hE2 := hE
    rcases (show E = "java/util/NoSuchElementException" from by
      clear hW
      revert hE
      grind) with rfl
    · have hW : CxB D (([(u0, .inl (aT 2, 1, .inr (.inl o)))] : va_W) ++ W9) A s.heap H _ := hW
      refine cx_catchT C hZ (nm := "java/util/NoSuchElementException") [] ⟨0, 16, 19, 24⟩ (tableOf []) htb (fun z hz => by cases hz) (by decide) (by decide) gw_690 nw_705 h7 h8 h9 ?_
      refine lv_astore_n (lv' := [(3, .ref q9), (0, .ref x0), (1, .int x), (2, .ref u0)]) hx hb dL_isTip_19 rfl hl (by decide) rfl (fun ls hl => ?_)
      refine lv_iconst (v := nI 1) hx hb dL_isTip_20 (by decide) ?_
      exact cx_tret C hr hlocks rfl hW ⟨Nat.le_of_ble_eq_true rfl, Nat.le_of_ble_eq_true rfl⟩ (⟨W9, _, Or.inr ⟨_, hE2, ⟨rfl, rfl⟩⟩, rfl⟩) dL_isTip_21
theorem dL_branchSize_0 : decode cL_branchSize 0 = .ok (.aload_n 2, 1) := by decide +kernel
theorem dL_branchSize_1 : decode cL_branchSize 1 = .ok (.iconst 0, 1) := by decide +kernel
theorem dL_branchSize_2 : decode cL_branchSize 2 = .ok (.aload_n 0, 1) := by decide +kernel
theorem dL_branchSize_3 : decode cL_branchSize 3 = .ok (.iload_n 1, 1) := by decide +kernel
theorem dL_branchSize_4 : decode cL_branchSize 4 = .ok (.invokevirtual 74, 3) := by decide +kernel
theorem dL_branchSize_7 : decode cL_branchSize 7 = .ok (.i2l, 1) := by decide +kernel
theorem dL_branchSize_8 : decode cL_branchSize 8 = .ok (.lastore, 1) := by decide +kernel
theorem dL_branchSize_9 : decode cL_branchSize 9 = .ok (.goto 6, 3) := by decide +kernel
theorem dL_branchSize_12 : decode cL_branchSize 12 = .ok (.astore_n 3, 1) := by decide +kernel
theorem dL_branchSize_13 : decode cL_branchSize 13 = .ok (.iconst 1, 1) := by decide +kernel
theorem dL_branchSize_14 : decode cL_branchSize 14 = .ok (.ireturn, 1) := by decide +kernel
theorem dL_branchSize_15 : decode cL_branchSize 15 = .ok (.iconst 0, 1) := by decide +kernel
theorem dL_branchSize_16 : decode cL_branchSize 16 = .ok (.ireturn, 1) := by decide +kernel
theorem gV_L_X9_branchSize_74 : GoodIn gw (wsV RL 74 RX9 yX9_branchSize (Cond.code yX9_branchSize cX9_branchSize 2 (some .int) :: gw)) := gdV gw_947 gw_948 gw_949 gw_67 gw_950
theorem hV_X9_branchSize : yX9_branchSize.cls = RX9 ∧ yX9_branchSize.cls ≠ "java/lang/invoke/MethodHandle" ∧ yX9_branchSize.cls ≠ "java/lang/invoke/VarHandle" ∧ (parseMethodDescriptor yX9_branchSize.desc).map (fun d => d.parameters.length) = some 1 := ⟨rfl, by decide +kernel, by decide +kernel, by decide +kernel⟩
set_option maxHeartbeats 2000000 in
set_option maxRecDepth 20000 in
theorem k_L_branchSize (l : Launch) (hfl : l.stackTraces = false) (D : va_G) (aT : Nat → ClassId) (u0 : Nat) (o : Nat → Int64) (x0 : Nat) (v0 : Nat) (t0 : Nat) (p0 : Nat) (o0 : Nat) (sv : Bool) (le : Int32) (lf : Int32) (h0 : Nat) (a0 : Nat) (a1 : Nat) (a2 : Nat) (a3 : Nat) (a4 : Nat) (a5 : Nat) (a6 : Nat) (a7 : Nat) (a8 : Nat) (a9 : Nat) (a10 : Nat) (bb : Nat → Nat → Int32) (nh : Nat) (nm : Nat) (M : Nat → Int32) (Bd : Nat) (hBd : Bd < 1048000) (hC : CoW M Bd) (hB : BlC bb nh nm M) (x : Int32) : CxT l yL_branchSize cL_branchSize 4 (some (.int)) [(0, 9, 12, 24)] 8 1 6 133 D aT [.ref x0, .int x, .ref u0] [(u0, .inl (aT 2, 1, .inr (.inl o))), (x0, .inr (12, [.ref a0, .ref v0, .ref h0, .ref t0, .ref p0, .ref o0, .int (bI sv), .int le, .int lf])), (a0, .inr (10, [.ref a1, .ref a5, .ref a10, .int (bb 8 1), .int (bb 8 2), .int (bb 8 3), .int (bb 8 4), .int (bb 8 5), .int (bb 8 6), .int (bb 8 7), .int (bb 8 8)])), (a1, .inr (6, [.ref a2, .ref a3, .ref a4, .int (nI nh)])), (a2, .inl (aT 0, 6, .inl (bb 0))), (a3, .inl (aT 0, 6, .inl (bb 1))), (a4, .inl (aT 0, 6, .inl (bb 2))), (a5, .inr (8, [.ref a6, .ref a7, .ref a8, .ref a9, .int (nI nm), .int (bb 8 0)])), (a6, .inl (aT 0, 12, .inl (bb 3))), (a7, .inl (aT 0, 12, .inl (bb 4))), (a8, .inl (aT 0, 12, .inl (bb 5))), (a9, .inl (aT 0, 12, .inl (bb 6))), (a10, .inl (aT 0, 4, .inl (bb 7)))] (qI D aT (fun r W1 => ∃ (W2 : va_W) (o2 : Nat → Int64), ((∃ r0 : Int32, r = nI 0 ∧ o2 0 = r0.toInt64 ∧ (fun r W1 => (∃ q, fnd (fun k => M (29 + 4 * k)) x nm = some q ∧ r = nI (brs (prM M) q nm)) ∧ W1 = ([(x0, .inr (12, [.ref a0, .ref v0, .ref h0, .ref t0, .ref p0, .ref o0, .int (bI sv), .int le, .int lf])), (a0, .inr (10, [.ref a1, .ref a5, .ref a10, .int (bb 8 1), .int (bb 8 2), .int (bb 8 3), .int (bb 8 4), .int (bb 8 5), .int (bb 8 6), .int (bb 8 7), .int (bb 8 8)])), (a1, .inr (6, [.ref a2, .ref a3, .ref a4, .int (nI nh)])), (a2, .inl (aT 0, 6, .inl (bb 0))), (a3, .inl (aT 0, 6, .inl (bb 1))), (a4, .inl (aT 0, 6, .inl (bb 2))), (a5, .inr (8, [.ref a6, .ref a7, .ref a8, .ref a9, .int (nI nm), .int (bb 8 0)])), (a6, .inl (aT 0, 12, .inl (bb 3))), (a7, .inl (aT 0, 12, .inl (bb 4))), (a8, .inl (aT 0, 12, .inl (bb 5))), (a9, .inl (aT 0, 12, .inl (bb 6))), (a10, .inl (aT 0, 4, .inl (bb 7)))] : va_W)) r0 W2) ∨ (∃ E9 : String, (fun E W1 => (E = "java/util/NoSuchElementException" ∧ fnd (fun k => M (29 + 4 * k)) x nm = none) ∧ W1 = ([(x0, .inr (12, [.ref a0, .ref v0, .ref h0, .ref t0, .ref p0, .ref o0, .int (bI sv), .int le, .int lf])), (a0, .inr (10, [.ref a1, .ref a5, .ref a10, .int (bb 8 1), .int (bb 8 2), .int (bb 8 3), .int (bb 8 4), .int (bb 8 5), .int (bb 8 6), .int (bb 8 7), .int (bb 8 8)])), (a1, .inr (6, [.ref a2, .ref a3, .ref a4, .int (nI nh)])), (a2, .inl (aT 0, 6, .inl (bb 0))), (a3, .inl (aT 0, 6, .inl (bb 1))), (a4, .inl (aT 0, 6, .inl (bb 2))), (a5, .inr (8, [.ref a6, .ref a7, .ref a8, .ref a9, .int (nI nm), .int (bb 8 0)])), (a6, .inl (aT 0, 12, .inl (bb 3))), (a7, .inl (aT 0, 12, .inl (bb 4))), (a8, .inl (aT 0, 12, .inl (bb 5))), (a9, .inl (aT 0, 12, .inl (bb 6))), (a10, .inl (aT 0, 4, .inl (bb 7)))] : va_W)) E9 W2 ∧ ((E9 = "java/util/NoSuchElementException" ∧ r = nI 1)))) ∧ W1 = (([(u0, .inl (aT 2, 1, .inr (.inl o2)))] : va_W) ++ W2))) := by
  refine CxT.of RL (by decide +kernel) rfl (Nat.le_of_ble_eq_true rfl) ?_
  intro p e s m below meth c A ls C hml hl hA hr hlocks htb hZ hW
  have hl : lv_has ls 4 [(0, .ref x0), (1, .int x), (2, .ref u0)] := hl
  have hx := C.1
  have hb := C.2.1
  refine lv_aload_n hx hb dL_branchSize_0 rfl (lv_at hl 2 rfl) ?_
  refine lv_iconst (v := nI 0) hx hb dL_branchSize_1 (by decide) ?_
  refine lv_aload_n hx hb dL_branchSize_2 rfl (lv_at hl 0 rfl) ?_
  refine lv_iload_n hx hb dL_branchSize_3 rfl (lv_at hl 1 rfl) ?_
  refine cx_calli (Wr := [(u0, .inl (aT 2, 1, .inr (.inl o)))]) (cx_runV C hml hl.1 hZ hW hA (As := [.int x]) (rest := [.int (nI 0), .ref u0]) (k_X9_branchSize l hfl D aT x0 v0 t0 p0 o0 sv le lf h0 a0 a1 a2 a3 a4 a5 a6 a7 a8 a9 a10 bb nh nm M Bd hBd hC hB x) gV_L_X9_branchSize_74 hV_X9_branchSize rfl ⟨Nat.le_of_ble_eq_true rfl, Nat.le_of_ble_eq_true rfl⟩ ⟨Nat.le_of_ble_eq_true rfl, Nat.le_of_ble_eq_true rfl⟩ [1, 2, 3, 4, 5, 6, 7, 8, 9, 10, 11, 12] rfl (by decide) 1 12 rfl rfl rfl rfl (Nat.le_of_ble_eq_true rfl) dL_branchSize_4) hW hA [1, 2, 3, 4, 5, 6, 7, 8, 9, 10, 11, 12] [0] rfl rfl (by decide) (by decide) ?_ (fun r_4 W_4 H locs hq hW => ?_)
  rotate_left
  obtain hq := hq
  have hW : CxB D (([(u0, .inl (aT 2, 1, .inr (.inl o)))] : va_W) ++ W_4) A s.heap H _ := hW
  refine lv_i2l (v := (r_4).toInt64) hx hb dL_branchSize_7 rfl ?_
  refine cx_last C hW 0 2 (j := 0) (W1 := (([(u0, .inl (aT 2, 1, .inr (.inl (vp_updL o 0 ((r_4).toInt64)))))] : va_W) ++ W_4)) rfl rfl rfl (by omega) (by decide) rfl dL_branchSize_8 (fun H locs hW => ?_)
  refine lv_goto (tgt := 15) hx hb dL_branchSize_9 (by decide) ?_
  refine lv_iconst (v := nI 0) hx hb dL_branchSize_15 (by decide) ?_
  exact cx_tret C hr hlocks rfl hW ⟨Nat.le_of_ble_eq_true rfl, Nat.le_of_ble_eq_true rfl⟩ (⟨W_4, _, Or.inl ⟨r_4, rfl, rfl, hq⟩, rfl⟩) dL_branchSize_16
  · intro E ce q9 W9 H locs hE hW h7 h8 h9
    have hE2 := hE
    rcases (show E = "java/util/NoSuchElementException" from by
      clear hW
      revert hE
      grind) with rfl
    · have hW : CxB D (([(u0, .inl (aT 2, 1, .inr (.inl o)))] : va_W) ++ W9) A s.heap H _ := hW
      refine cx_catchT C hZ (nm := "java/util/NoSuchElementException") [] ⟨0, 9, 12, 24⟩ (tableOf []) htb (fun z hz => by cases hz) (by decide) (by decide) gw_690 nw_705 h7 h8 h9 ?_
      refine lv_astore_n (lv' := [(3, .ref q9), (0, .ref x0), (1, .int x), (2, .ref u0)]) hx hb dL_branchSize_12 rfl hl (by decide) rfl (fun ls hl => ?_)
      refine lv_iconst (v := nI 1) hx hb dL_branchSize_13 (by decide) ?_
      exact cx_tret C hr hlocks rfl hW ⟨Nat.le_of_ble_eq_true rfl, Nat.le_of_ble_eq_true rfl⟩ (⟨W9, _, Or.inr ⟨_, hE2, ⟨rfl, rfl⟩⟩, rfl⟩) dL_branchSize_14
theorem dL_lastTip_0 : decode cL_lastTip 0 = .ok (.aload_n 2, 1) := by decide +kernel
theorem dL_lastTip_1 : decode cL_lastTip 1 = .ok (.iconst 0, 1) := by decide +kernel
theorem dL_lastTip_2 : decode cL_lastTip 2 = .ok (.aload_n 0, 1) := by decide +kernel
theorem dL_lastTip_3 : decode cL_lastTip 3 = .ok (.iload_n 1, 1) := by decide +kernel
theorem dL_lastTip_4 : decode cL_lastTip 4 = .ok (.invokevirtual 77, 3) := by decide +kernel
theorem dL_lastTip_7 : decode cL_lastTip 7 = .ok (.i2l, 1) := by decide +kernel
theorem dL_lastTip_8 : decode cL_lastTip 8 = .ok (.lastore, 1) := by decide +kernel
theorem dL_lastTip_9 : decode cL_lastTip 9 = .ok (.goto 6, 3) := by decide +kernel
theorem dL_lastTip_12 : decode cL_lastTip 12 = .ok (.astore_n 3, 1) := by decide +kernel
theorem dL_lastTip_13 : decode cL_lastTip 13 = .ok (.iconst 1, 1) := by decide +kernel
theorem dL_lastTip_14 : decode cL_lastTip 14 = .ok (.ireturn, 1) := by decide +kernel
theorem dL_lastTip_15 : decode cL_lastTip 15 = .ok (.iconst 0, 1) := by decide +kernel
theorem dL_lastTip_16 : decode cL_lastTip 16 = .ok (.ireturn, 1) := by decide +kernel
theorem gV_L_X9_lastTip_77 : GoodIn gw (wsV RL 77 RX9 yX9_lastTip (Cond.code yX9_lastTip cX9_lastTip 3 (some .int) :: gw)) := gdV gw_958 gw_959 gw_960 gw_67 gw_961
theorem hV_X9_lastTip : yX9_lastTip.cls = RX9 ∧ yX9_lastTip.cls ≠ "java/lang/invoke/MethodHandle" ∧ yX9_lastTip.cls ≠ "java/lang/invoke/VarHandle" ∧ (parseMethodDescriptor yX9_lastTip.desc).map (fun d => d.parameters.length) = some 1 := ⟨rfl, by decide +kernel, by decide +kernel, by decide +kernel⟩
set_option maxHeartbeats 2000000 in
set_option maxRecDepth 20000 in
theorem k_L_lastTip (l : Launch) (hfl : l.stackTraces = false) (D : va_G) (aT : Nat → ClassId) (u0 : Nat) (o : Nat → Int64) (x0 : Nat) (v0 : Nat) (t0 : Nat) (p0 : Nat) (o0 : Nat) (sv : Bool) (le : Int32) (lf : Int32) (h0 : Nat) (a0 : Nat) (a1 : Nat) (a2 : Nat) (a3 : Nat) (a4 : Nat) (a5 : Nat) (a6 : Nat) (a7 : Nat) (a8 : Nat) (a9 : Nat) (a10 : Nat) (bb : Nat → Nat → Int32) (nh : Nat) (nm : Nat) (M : Nat → Int32) (Bd : Nat) (hBd : Bd < 1048000) (hC : CoW M Bd) (hB : BlC bb nh nm M) (x : Int32) : CxT l yL_lastTip cL_lastTip 4 (some (.int)) [(0, 9, 12, 24)] 8 1 6 134 D aT [.ref x0, .int x, .ref u0] [(u0, .inl (aT 2, 1, .inr (.inl o))), (x0, .inr (12, [.ref a0, .ref v0, .ref h0, .ref t0, .ref p0, .ref o0, .int (bI sv), .int le, .int lf])), (a0, .inr (10, [.ref a1, .ref a5, .ref a10, .int (bb 8 1), .int (bb 8 2), .int (bb 8 3), .int (bb 8 4), .int (bb 8 5), .int (bb 8 6), .int (bb 8 7), .int (bb 8 8)])), (a1, .inr (6, [.ref a2, .ref a3, .ref a4, .int (nI nh)])), (a2, .inl (aT 0, 6, .inl (bb 0))), (a3, .inl (aT 0, 6, .inl (bb 1))), (a4, .inl (aT 0, 6, .inl (bb 2))), (a5, .inr (8, [.ref a6, .ref a7, .ref a8, .ref a9, .int (nI nm), .int (bb 8 0)])), (a6, .inl (aT 0, 12, .inl (bb 3))), (a7, .inl (aT 0, 12, .inl (bb 4))), (a8, .inl (aT 0, 12, .inl (bb 5))), (a9, .inl (aT 0, 12, .inl (bb 6))), (a10, .inl (aT 0, 4, .inl (bb 7)))] (qI D aT (fun r W1 => ∃ (W2 : va_W) (o2 : Nat → Int64), ((∃ r0 : Int32, r = nI 0 ∧ o2 0 = r0.toInt64 ∧ (fun r W1 => (∃ q t, fnd (fun k => M (29 + 4 * k)) x nm = some q ∧ ltp (prM M) nm q nm = some t ∧ r = M (29 + 4 * t)) ∧ W1 = ([(x0, .inr (12, [.ref a0, .ref v0, .ref h0, .ref t0, .ref p0, .ref o0, .int (bI sv), .int le, .int lf])), (a0, .inr (10, [.ref a1, .ref a5, .ref a10, .int (bb 8 1), .int (bb 8 2), .int (bb 8 3), .int (bb 8 4), .int (bb 8 5), .int (bb 8 6), .int (bb 8 7), .int (bb 8 8)])), (a1, .inr (6, [.ref a2, .ref a3, .ref a4, .int (nI nh)])), (a2, .inl (aT 0, 6, .inl (bb 0))), (a3, .inl (aT 0, 6, .inl (bb 1))), (a4, .inl (aT 0, 6, .inl (bb 2))), (a5, .inr (8, [.ref a6, .ref a7, .ref a8, .ref a9, .int (nI nm), .int (bb 8 0)])), (a6, .inl (aT 0, 12, .inl (bb 3))), (a7, .inl (aT 0, 12, .inl (bb 4))), (a8, .inl (aT 0, 12, .inl (bb 5))), (a9, .inl (aT 0, 12, .inl (bb 6))), (a10, .inl (aT 0, 4, .inl (bb 7)))] : va_W)) r0 W2) ∨ (∃ E9 : String, (fun E W1 => (E = "java/util/NoSuchElementException" ∧ fnd (fun k => M (29 + 4 * k)) x nm = none) ∧ W1 = ([(x0, .inr (12, [.ref a0, .ref v0, .ref h0, .ref t0, .ref p0, .ref o0, .int (bI sv), .int le, .int lf])), (a0, .inr (10, [.ref a1, .ref a5, .ref a10, .int (bb 8 1), .int (bb 8 2), .int (bb 8 3), .int (bb 8 4), .int (bb 8 5), .int (bb 8 6), .int (bb 8 7), .int (bb 8 8)])), (a1, .inr (6, [.ref a2, .ref a3, .ref a4, .int (nI nh)])), (a2, .inl (aT 0, 6, .inl (bb 0))), (a3, .inl (aT 0, 6, .inl (bb 1))), (a4, .inl (aT 0, 6, .inl (bb 2))), (a5, .inr (8, [.ref a6, .ref a7, .ref a8, .ref a9, .int (nI nm), .int (bb 8 0)])), (a6, .inl (aT 0, 12, .inl (bb 3))), (a7, .inl (aT 0, 12, .inl (bb 4))), (a8, .inl (aT 0, 12, .inl (bb 5))), (a9, .inl (aT 0, 12, .inl (bb 6))), (a10, .inl (aT 0, 4, .inl (bb 7)))] : va_W)) E9 W2 ∧ ((E9 = "java/util/NoSuchElementException" ∧ r = nI 1)))) ∧ W1 = (([(u0, .inl (aT 2, 1, .inr (.inl o2)))] : va_W) ++ W2))) := by
  refine CxT.of RL (by decide +kernel) rfl (Nat.le_of_ble_eq_true rfl) ?_
  intro p e s m below meth c A ls C hml hl hA hr hlocks htb hZ hW
  have hl : lv_has ls 4 [(0, .ref x0), (1, .int x), (2, .ref u0)] := hl
  have hx := C.1
  have hb := C.2.1
  refine lv_aload_n hx hb dL_lastTip_0 rfl (lv_at hl 2 rfl) ?_
  refine lv_iconst (v := nI 0) hx hb dL_lastTip_1 (by decide) ?_
  refine lv_aload_n hx hb dL_lastTip_2 rfl (lv_at hl 0 rfl) ?_
  refine lv_iload_n hx hb dL_lastTip_3 rfl (lv_at hl 1 rfl) ?_
  refine cx_calli (Wr := [(u0, .inl (aT 2, 1, .inr (.inl o)))]) (cx_runV C hml hl.1 hZ hW hA (As := [.int x]) (rest := [.int (nI 0), .ref u0]) (k_X9_lastTip l hfl D aT x0 v0 t0 p0 o0 sv le lf h0 a0 a1 a2 a3 a4 a5 a6 a7 a8 a9 a10 bb nh nm M Bd hBd hC hB x) gV_L_X9_lastTip_77 hV_X9_lastTip rfl ⟨Nat.le_of_ble_eq_true rfl, Nat.le_of_ble_eq_true rfl⟩ ⟨Nat.le_of_ble_eq_true rfl, Nat.le_of_ble_eq_true rfl⟩ [1, 2, 3, 4, 5, 6, 7, 8, 9, 10, 11, 12] rfl (by decide) 1 12 rfl rfl rfl rfl (Nat.le_of_ble_eq_true rfl) dL_lastTip_4) hW hA [1, 2, 3, 4, 5, 6, 7, 8, 9, 10, 11, 12] [0] rfl rfl (by decide) (by decide) ?_ (fun r_4 W_4 H locs hq hW => ?_)
  rotate_left
  obtain hq := hq
  have hW : CxB D (([(u0, .inl (aT 2, 1, .inr (.inl o)))] : va_W) ++ W_4) A s.heap H _ := hW
  refine lv_i2l (v := (r_4).toInt64) hx hb dL_lastTip_7 rfl ?_
  refine cx_last C hW 0 2 (j := 0) (W1 := (([(u0, .inl (aT 2, 1, .inr (.inl (vp_updL o 0 ((r_4).toInt64)))))] : va_W) ++ W_4)) rfl rfl rfl (by omega) (by decide) rfl dL_lastTip_8 (fun H locs hW => ?_)
  refine lv_goto (tgt := 15) hx hb dL_lastTip_9 (by decide) ?_
  refine lv_iconst (v := nI 0) hx hb dL_lastTip_15 (by decide) ?_
  exact cx_tret C hr hlocks rfl hW ⟨Nat.le_of_ble_eq_true rfl, Nat.le_of_ble_eq_true rfl⟩ (⟨W_4, _, Or.inl ⟨r_4, rfl, rfl, hq⟩, rfl⟩) dL_lastTip_16
  · intro E ce q9 W9 H locs hE hW h7 h8 h9
    have hE2 := hE
    rcases (show E = "java/util/NoSuchElementException" from by
      clear hW
      revert hE
      grind) with rfl
    · have hW : CxB D (([(u0, .inl (aT 2, 1, .inr (.inl o)))] : va_W) ++ W9) A s.heap H _ := hW
      refine cx_catchT C hZ (nm := "java/util/NoSuchElementException") [] ⟨0, 9, 12, 24⟩ (tableOf []) htb (fun z hz => by cases hz) (by decide) (by decide) gw_690 nw_705 h7 h8 h9 ?_
      refine lv_astore_n (lv' := [(3, .ref q9), (0, .ref x0), (1, .int x), (2, .ref u0)]) hx hb dL_lastTip_12 rfl hl (by decide) rfl (fun ls hl => ?_)
      refine lv_iconst (v := nI 1) hx hb dL_lastTip_13 (by decide) ?_
      exact cx_tret C hr hlocks rfl hW ⟨Nat.le_of_ble_eq_true rfl, Nat.le_of_ble_eq_true rfl⟩ (⟨W9, _, Or.inr ⟨_, hE2, ⟨rfl, rfl⟩⟩, rfl⟩) dL_lastTip_14
theorem dL_motionAtRank_0 : decode cL_motionAtRank 0 = .ok (.aload_n 2, 1) := by decide +kernel
theorem dL_motionAtRank_1 : decode cL_motionAtRank 1 = .ok (.iconst 0, 1) := by decide +kernel
theorem dL_motionAtRank_2 : decode cL_motionAtRank 2 = .ok (.aload_n 0, 1) := by decide +kernel
theorem dL_motionAtRank_3 : decode cL_motionAtRank 3 = .ok (.iload_n 1, 1) := by decide +kernel
theorem dL_motionAtRank_4 : decode cL_motionAtRank 4 = .ok (.invokevirtual 80, 3) := by decide +kernel
theorem dL_motionAtRank_7 : decode cL_motionAtRank 7 = .ok (.i2l, 1) := by decide +kernel
theorem dL_motionAtRank_8 : decode cL_motionAtRank 8 = .ok (.lastore, 1) := by decide +kernel
theorem dL_motionAtRank_9 : decode cL_motionAtRank 9 = .ok (.goto 6, 3) := by decide +kernel
theorem dL_motionAtRank_12 : decode cL_motionAtRank 12 = .ok (.astore_n 3, 1) := by decide +kernel
theorem dL_motionAtRank_13 : decode cL_motionAtRank 13 = .ok (.iconst 1, 1) := by decide +kernel
theorem dL_motionAtRank_14 : decode cL_motionAtRank 14 = .ok (.ireturn, 1) := by decide +kernel
theorem dL_motionAtRank_15 : decode cL_motionAtRank 15 = .ok (.iconst 0, 1) := by decide +kernel
theorem dL_motionAtRank_16 : decode cL_motionAtRank 16 = .ok (.ireturn, 1) := by decide +kernel
theorem gV_L_X9_motionAtRank_80 : GoodIn gw (wsV RL 80 RX9 yX9_motionAtRank (Cond.code yX9_motionAtRank cX9_motionAtRank 2 (some .int) :: gw)) := gdV gw_966 gw_967 gw_968 gw_67 gw_969
theorem hV_X9_motionAtRank : yX9_motionAtRank.cls = RX9 ∧ yX9_motionAtRank.cls ≠ "java/lang/invoke/MethodHandle" ∧ yX9_motionAtRank.cls ≠ "java/lang/invoke/VarHandle" ∧ (parseMethodDescriptor yX9_motionAtRank.desc).map (fun d => d.parameters.length) = some 1 := ⟨rfl, by decide +kernel, by decide +kernel, by decide +kernel⟩
set_option maxHeartbeats 2000000 in
set_option maxRecDepth 20000 in
theorem k_L_motionAtRank (l : Launch) (hfl : l.stackTraces = false) (D : va_G) (aT : Nat → ClassId) (u0 : Nat) (o : Nat → Int64) (x0 : Nat) (v0 : Nat) (t0 : Nat) (p0 : Nat) (o0 : Nat) (sv : Bool) (le : Int32) (lf : Int32) (h0 : Nat) (a0 : Nat) (a1 : Nat) (a2 : Nat) (a3 : Nat) (a4 : Nat) (a5 : Nat) (a6 : Nat) (a7 : Nat) (a8 : Nat) (a9 : Nat) (a10 : Nat) (bb : Nat → Nat → Int32) (nh : Nat) (nm : Nat) (M : Nat → Int32) (Bd : Nat) (hBd : Bd < 1048000) (hC : CoW M Bd) (hB : BlC bb nh nm M) (x : Int32) : CxT l yL_motionAtRank cL_motionAtRank 4 (some (.int)) [(0, 9, 12, 40)] 8 1 6 132 D aT [.ref x0, .int x, .ref u0] [(u0, .inl (aT 2, 1, .inr (.inl o))), (x0, .inr (12, [.ref a0, .ref v0, .ref h0, .ref t0, .ref p0, .ref o0, .int (bI sv), .int le, .int lf])), (a0, .inr (10, [.ref a1, .ref a5, .ref a10, .int (bb 8 1), .int (bb 8 2), .int (bb 8 3), .int (bb 8 4), .int (bb 8 5), .int (bb 8 6), .int (bb 8 7), .int (bb 8 8)])), (a1, .inr (6, [.ref a2, .ref a3, .ref a4, .int (nI nh)])), (a2, .inl (aT 0, 6, .inl (bb 0))), (a3, .inl (aT 0, 6, .inl (bb 1))), (a4, .inl (aT 0, 6, .inl (bb 2))), (a5, .inr (8, [.ref a6, .ref a7, .ref a8, .ref a9, .int (nI nm), .int (bb 8 0)])), (a6, .inl (aT 0, 12, .inl (bb 3))), (a7, .inl (aT 0, 12, .inl (bb 4))), (a8, .inl (aT 0, 12, .inl (bb 5))), (a9, .inl (aT 0, 12, .inl (bb 6))), (a10, .inl (aT 0, 4, .inl (bb 7)))] (qI D aT (fun r W1 => ∃ (W2 : va_W) (o2 : Nat → Int64), ((∃ r0 : Int32, r = nI 0 ∧ o2 0 = r0.toInt64 ∧ (fun r W1 => (∃ i, i < nm ∧ x = nI i) ∧ W1 = ([(x0, .inr (12, [.ref a0, .ref v0, .ref h0, .ref t0, .ref p0, .ref o0, .int (bI sv), .int le, .int lf])), (a0, .inr (10, [.ref a1, .ref a5, .ref a10, .int (bb 8 1), .int (bb 8 2), .int (bb 8 3), .int (bb 8 4), .int (bb 8 5), .int (bb 8 6), .int (bb 8 7), .int (bb 8 8)])), (a1, .inr (6, [.ref a2, .ref a3, .ref a4, .int (nI nh)])), (a2, .inl (aT 0, 6, .inl (bb 0))), (a3, .inl (aT 0, 6, .inl (bb 1))), (a4, .inl (aT 0, 6, .inl (bb 2))), (a5, .inr (8, [.ref a6, .ref a7, .ref a8, .ref a9, .int (nI nm), .int (bb 8 0)])), (a6, .inl (aT 0, 12, .inl (bb 3))), (a7, .inl (aT 0, 12, .inl (bb 4))), (a8, .inl (aT 0, 12, .inl (bb 5))), (a9, .inl (aT 0, 12, .inl (bb 6))), (a10, .inl (aT 0, 4, .inl (bb 7)))] : va_W)) r0 W2) ∨ (∃ E9 : String, (fun E W1 => (E = "java/lang/IndexOutOfBoundsException" ∧ isHB nm x = false) ∧ W1 = ([(x0, .inr (12, [.ref a0, .ref v0, .ref h0, .ref t0, .ref p0, .ref o0, .int (bI sv), .int le, .int lf])), (a0, .inr (10, [.ref a1, .ref a5, .ref a10, .int (bb 8 1), .int (bb 8 2), .int (bb 8 3), .int (bb 8 4), .int (bb 8 5), .int (bb 8 6), .int (bb 8 7), .int (bb 8 8)])), (a1, .inr (6, [.ref a2, .ref a3, .ref a4, .int (nI nh)])), (a2, .inl (aT 0, 6, .inl (bb 0))), (a3, .inl (aT 0, 6, .inl (bb 1))), (a4, .inl (aT 0, 6, .inl (bb 2))), (a5, .inr (8, [.ref a6, .ref a7, .ref a8, .ref a9, .int (nI nm), .int (bb 8 0)])), (a6, .inl (aT 0, 12, .inl (bb 3))), (a7, .inl (aT 0, 12, .inl (bb 4))), (a8, .inl (aT 0, 12, .inl (bb 5))), (a9, .inl (aT 0, 12, .inl (bb 6))), (a10, .inl (aT 0, 4, .inl (bb 7)))] : va_W)) E9 W2 ∧ ((E9 = "java/lang/IndexOutOfBoundsException" ∧ r = nI 1)))) ∧ W1 = (([(u0, .inl (aT 2, 1, .inr (.inl o2)))] : va_W) ++ W2))) := by
  refine CxT.of RL (by decide +kernel) rfl (Nat.le_of_ble_eq_true rfl) ?_
  intro p e s m below meth c A ls C hml hl hA hr hlocks htb hZ hW
  have hl : lv_has ls 4 [(0, .ref x0), (1, .int x), (2, .ref u0)] := hl
  have hx := C.1
  have hb := C.2.1
  refine lv_aload_n hx hb dL_motionAtRank_0 rfl (lv_at hl 2 rfl) ?_
  refine lv_iconst (v := nI 0) hx hb dL_motionAtRank_1 (by decide) ?_
  refine lv_aload_n hx hb dL_motionAtRank_2 rfl (lv_at hl 0 rfl) ?_
  refine lv_iload_n hx hb dL_motionAtRank_3 rfl (lv_at hl 1 rfl) ?_
  refine cx_calli (Wr := [(u0, .inl (aT 2, 1, .inr (.inl o)))]) (cx_runV C hml hl.1 hZ hW hA (As := [.int x]) (rest := [.int (nI 0), .ref u0]) (k_X9_motionAtRank l hfl D aT x0 v0 t0 p0 o0 sv le lf h0 a0 a1 a2 a3 a4 a5 a6 a7 a8 a9 a10 bb nh nm M Bd hBd hC hB x) gV_L_X9_motionAtRank_80 hV_X9_motionAtRank rfl ⟨Nat.le_of_ble_eq_true rfl, Nat.le_of_ble_eq_true rfl⟩ ⟨Nat.le_of_ble_eq_true rfl, Nat.le_of_ble_eq_true rfl⟩ [1, 2, 3, 4, 5, 6, 7, 8, 9, 10, 11, 12] rfl (by decide) 1 12 rfl rfl rfl rfl (Nat.le_of_ble_eq_true rfl) dL_motionAtRank_4) hW hA [1, 2, 3, 4, 5, 6, 7, 8, 9, 10, 11, 12] [0] rfl rfl (by decide) (by decide) ?_ (fun r_4 W_4 H locs hq hW => ?_)
  rotate_left
  obtain hq := hq
  have hW : CxB D (([(u0, .inl (aT 2, 1, .inr (.inl o)))] : va_W) ++ W_4) A s.heap H _ := hW
  refine lv_i2l (v := (r_4).toInt64) hx hb dL_motionAtRank_7 rfl ?_
  refine cx_last C hW 0 2 (j := 0) (W1 := (([(u0, .inl (aT 2, 1, .inr (.inl (vp_updL o 0 ((r_4).toInt64)))))] : va_W) ++ W_4)) rfl rfl rfl (by omega) (by decide) rfl dL_motionAtRank_8 (fun H locs hW => ?_)
  refine lv_goto (tgt := 15) hx hb dL_motionAtRank_9 (by decide) ?_
  refine lv_iconst (v := nI 0) hx hb dL_motionAtRank_15 (by decide) ?_
  exact cx_tret C hr hlocks rfl hW ⟨Nat.le_of_ble_eq_true rfl, Nat.le_of_ble_eq_true rfl⟩ (⟨W_4, _, Or.inl ⟨r_4, rfl, rfl, hq⟩, rfl⟩) dL_motionAtRank_16
  · intro E ce q9 W9 H locs hE hW h7 h8 h9
    have hE2 := hE
    rcases (show E = "java/lang/IndexOutOfBoundsException" from by
      clear hW
      revert hE
      grind) with rfl
    · have hW : CxB D (([(u0, .inl (aT 2, 1, .inr (.inl o)))] : va_W) ++ W9) A s.heap H _ := hW
      refine cx_catchT C hZ (nm := "java/lang/IndexOutOfBoundsException") [] ⟨0, 9, 12, 40⟩ (tableOf []) htb (fun z hz => by cases hz) (by decide) (by decide) gw_799 nw_837 h7 h8 h9 ?_
      refine lv_astore_n (lv' := [(3, .ref q9), (0, .ref x0), (1, .int x), (2, .ref u0)]) hx hb dL_motionAtRank_12 rfl hl (by decide) rfl (fun ls hl => ?_)
      refine lv_iconst (v := nI 1) hx hb dL_motionAtRank_13 (by decide) ?_
      exact cx_tret C hr hlocks rfl hW ⟨Nat.le_of_ble_eq_true rfl, Nat.le_of_ble_eq_true rfl⟩ (⟨W9, _, Or.inr ⟨_, hE2, ⟨rfl, rfl⟩⟩, rfl⟩) dL_motionAtRank_14
theorem dL_commonMotion_0 : decode cL_commonMotion 0 = .ok (.aload_n 3, 1) := by decide +kernel
theorem dL_commonMotion_1 : decode cL_commonMotion 1 = .ok (.iconst 0, 1) := by decide +kernel
theorem dL_commonMotion_2 : decode cL_commonMotion 2 = .ok (.aload_n 0, 1) := by decide +kernel
theorem dL_commonMotion_3 : decode cL_commonMotion 3 = .ok (.iload_n 1, 1) := by decide +kernel
theorem dL_commonMotion_4 : decode cL_commonMotion 4 = .ok (.iload_n 2, 1) := by decide +kernel
theorem dL_commonMotion_5 : decode cL_commonMotion 5 = .ok (.invokevirtual 83, 3) := by decide +kernel
theorem dL_commonMotion_8 : decode cL_commonMotion 8 = .ok (.i2l, 1) := by decide +kernel
theorem dL_commonMotion_9 : decode cL_commonMotion 9 = .ok (.lastore, 1) := by decide +kernel
theorem dL_commonMotion_10 : decode cL_commonMotion 10 = .ok (.goto 11, 3) := by decide +kernel
theorem dL_commonMotion_13 : decode cL_commonMotion 13 = .ok (.astore 4, 2) := by decide +kernel
theorem dL_commonMotion_15 : decode cL_commonMotion 15 = .ok (.iconst 1, 1) := by decide +kernel
theorem dL_commonMotion_16 : decode cL_commonMotion 16 = .ok (.ireturn, 1) := by decide +kernel
theorem dL_commonMotion_17 : decode cL_commonMotion 17 = .ok (.astore 4, 2) := by decide +kernel
theorem dL_commonMotion_19 : decode cL_commonMotion 19 = .ok (.iconst 2, 1) := by decide +kernel
theorem dL_commonMotion_20 : decode cL_commonMotion 20 = .ok (.ireturn, 1) := by decide +kernel
theorem dL_commonMotion_21 : decode cL_commonMotion 21 = .ok (.iconst 0, 1) := by decide +kernel
theorem dL_commonMotion_22 : decode cL_commonMotion 22 = .ok (.ireturn, 1) := by decide +kernel
theorem gV_L_X9_commonMotion_83 : GoodIn gw (wsV RL 83 RX9 yX9_commonMotion (Cond.code yX9_commonMotion cX9_commonMotion 5 (some .int) :: gw)) := gdV gw_987 gw_988 gw_989 gw_67 gw_990
theorem hV_X9_commonMotion : yX9_commonMotion.cls = RX9 ∧ yX9_commonMotion.cls ≠ "java/lang/invoke/MethodHandle" ∧ yX9_commonMotion.cls ≠ "java/lang/invoke/VarHandle" ∧ (parseMethodDescriptor yX9_commonMotion.desc).map (fun d => d.parameters.length) = some 2 := ⟨rfl, by decide +kernel, by decide +kernel, by decide +kernel⟩
set_option maxHeartbeats 2000000 in
set_option maxRecDepth 20000 in
theorem k_L_commonMotion (l : Launch) (hfl : l.stackTraces = false) (D : va_G) (aT : Nat → ClassId) (u0 : Nat) (o : Nat → Int64) (x0 : Nat) (v0 : Nat) (t0 : Nat) (p0 : Nat) (o0 : Nat) (sv : Bool) (le : Int32) (lf : Int32) (h0 : Nat) (t1 : Nat) (t2 : Nat) (t3 : Nat) (t4 : Nat) (t5 : Nat) (t6 : Nat) (r1 : Nat → Int32) (r2 : Nat → Int32) (r3 : Nat → Int32) (r4 : Nat → Int32) (r5 : Nat → Int64) (r6 : Nat → Int64) (a0 : Nat) (a1 : Nat) (a2 : Nat) (a3 : Nat) (a4 : Nat) (a5 : Nat) (a6 : Nat) (a7 : Nat) (a8 : Nat) (a9 : Nat) (a10 : Nat) (bb : Nat → Nat → Int32) (nh : Nat) (nm : Nat) (M : Nat → Int32) (Bd : Nat) (hBd : Bd < 1048000) (hC : CoW M Bd) (hB : BlC bb nh nm M) (x : Int32) (y : Int32) : CxT l yL_commonMotion cL_commonMotion 5 (some (.int)) [(0, 10, 13, 24), (0, 10, 17, 86)] 8 3 18 136 D aT [.ref x0, .int x, .int y, .ref u0] [(u0, .inl (aT 2, 1, .inr (.inl o))), (x0, .inr (12, [.ref a0, .ref v0, .ref h0, .ref t0, .ref p0, .ref o0, .int (bI sv), .int le, .int lf])), (t0, .inr (11, [.ref t1, .ref t2, .ref t3, .ref t4, .ref t5, .ref t6])), (t1, .inl (aT 0, 12, .inl r1)), (t2, .inl (aT 0, 12, .inl r2)), (t3, .inl (aT 0, 12, .inl r3)), (t4, .inl (aT 0, 12, .inl r4)), (t5, .inl (aT 2, 12, .inr (.inl r5))), (t6, .inl (aT 2, 12, .inr (.inl r6))), (a0, .inr (10, [.ref a1, .ref a5, .ref a10, .int (bb 8 1), .int (bb 8 2), .int (bb 8 3), .int (bb 8 4), .int (bb 8 5), .int (bb 8 6), .int (bb 8 7), .int (bb 8 8)])), (a1, .inr (6, [.ref a2, .ref a3, .ref a4, .int (nI nh)])), (a2, .inl (aT 0, 6, .inl (bb 0))), (a3, .inl (aT 0, 6, .inl (bb 1))), (a4, .inl (aT 0, 6, .inl (bb 2))), (a5, .inr (8, [.ref a6, .ref a7, .ref a8, .ref a9, .int (nI nm), .int (bb 8 0)])), (a6, .inl (aT 0, 12, .inl (bb 3))), (a7, .inl (aT 0, 12, .inl (bb 4))), (a8, .inl (aT 0, 12, .inl (bb 5))), (a9, .inl (aT 0, 12, .inl (bb 6))), (a10, .inl (aT 0, 4, .inl (bb 7)))] (qI D aT (fun r W1 => ∃ (W2 : va_W) (o2 : Nat → Int64), ((∃ r0 : Int32, r = nI 0 ∧ o2 0 = r0.toInt64 ∧ (fun r W1 => (∃ a b k, fnd (fun k => M (29 + 4 * k)) x nm = some a ∧ fnd (fun k => M (29 + 4 * k)) y nm = some b ∧ cmF (prM M) a b nm = some k ∧ r = M (29 + 4 * k)) ∧ ∃ (g1 g2 g3 g4 : Nat → Int32) (g5 g6 : Nat → Int64), W1 = ([(x0, .inr (12, [.ref a0, .ref v0, .ref h0, .ref t0, .ref p0, .ref o0, .int (bI sv), .int le, .int lf])), (t0, .inr (11, [.ref t1, .ref t2, .ref t3, .ref t4, .ref t5, .ref t6])), (t1, .inl (aT 0, 12, .inl g1)), (t2, .inl (aT 0, 12, .inl g2)), (t3, .inl (aT 0, 12, .inl g3)), (t4, .inl (aT 0, 12, .inl g4)), (t5, .inl (aT 2, 12, .inr (.inl g5))), (t6, .inl (aT 2, 12, .inr (.inl g6))), (a0, .inr (10, [.ref a1, .ref a5, .ref a10, .int (bb 8 1), .int (bb 8 2), .int (bb 8 3), .int (bb 8 4), .int (bb 8 5), .int (bb 8 6), .int (bb 8 7), .int (bb 8 8)])), (a1, .inr (6, [.ref a2, .ref a3, .ref a4, .int (nI nh)])), (a2, .inl (aT 0, 6, .inl (bb 0))), (a3, .inl (aT 0, 6, .inl (bb 1))), (a4, .inl (aT 0, 6, .inl (bb 2))), (a5, .inr (8, [.ref a6, .ref a7, .ref a8, .ref a9, .int (nI nm), .int (bb 8 0)])), (a6, .inl (aT 0, 12, .inl (bb 3))), (a7, .inl (aT 0, 12, .inl (bb 4))), (a8, .inl (aT 0, 12, .inl (bb 5))), (a9, .inl (aT 0, 12, .inl (bb 6))), (a10, .inl (aT 0, 4, .inl (bb 7)))] : va_W)) r0 W2) ∨ (∃ E9 : String, (fun E W1 => (E = "java/util/NoSuchElementException" ∧ (fnd (fun k => M (29 + 4 * k)) x nm = none ∨ fnd (fun k => M (29 + 4 * k)) y nm = none) ∧ W1 = ([(x0, .inr (12, [.ref a0, .ref v0, .ref h0, .ref t0, .ref p0, .ref o0, .int (bI sv), .int le, .int lf])), (t0, .inr (11, [.ref t1, .ref t2, .ref t3, .ref t4, .ref t5, .ref t6])), (t1, .inl (aT 0, 12, .inl r1)), (t2, .inl (aT 0, 12, .inl r2)), (t3, .inl (aT 0, 12, .inl r3)), (t4, .inl (aT 0, 12, .inl r4)), (t5, .inl (aT 2, 12, .inr (.inl r5))), (t6, .inl (aT 2, 12, .inr (.inl r6))), (a0, .inr (10, [.ref a1, .ref a5, .ref a10, .int (bb 8 1), .int (bb 8 2), .int (bb 8 3), .int (bb 8 4), .int (bb 8 5), .int (bb 8 6), .int (bb 8 7), .int (bb 8 8)])), (a1, .inr (6, [.ref a2, .ref a3, .ref a4, .int (nI nh)])), (a2, .inl (aT 0, 6, .inl (bb 0))), (a3, .inl (aT 0, 6, .inl (bb 1))), (a4, .inl (aT 0, 6, .inl (bb 2))), (a5, .inr (8, [.ref a6, .ref a7, .ref a8, .ref a9, .int (nI nm), .int (bb 8 0)])), (a6, .inl (aT 0, 12, .inl (bb 3))), (a7, .inl (aT 0, 12, .inl (bb 4))), (a8, .inl (aT 0, 12, .inl (bb 5))), (a9, .inl (aT 0, 12, .inl (bb 6))), (a10, .inl (aT 0, 4, .inl (bb 7)))] : va_W)) ∨ (E = "java/lang/UnsupportedOperationException" ∧ (∃ a b, fnd (fun k => M (29 + 4 * k)) x nm = some a ∧ fnd (fun k => M (29 + 4 * k)) y nm = some b ∧ cmF (prM M) a b nm = none) ∧ ∃ (g1 g2 g3 g4 : Nat → Int32) (g5 g6 : Nat → Int64), W1 = ([(x0, .inr (12, [.ref a0, .ref v0, .ref h0, .ref t0, .ref p0, .ref o0, .int (bI sv), .int le, .int lf])), (t0, .inr (11, [.ref t1, .ref t2, .ref t3, .ref t4, .ref t5, .ref t6])), (t1, .inl (aT 0, 12, .inl g1)), (t2, .inl (aT 0, 12, .inl g2)), (t3, .inl (aT 0, 12, .inl g3)), (t4, .inl (aT 0, 12, .inl g4)), (t5, .inl (aT 2, 12, .inr (.inl g5))), (t6, .inl (aT 2, 12, .inr (.inl g6))), (a0, .inr (10, [.ref a1, .ref a5, .ref a10, .int (bb 8 1), .int (bb 8 2), .int (bb 8 3), .int (bb 8 4), .int (bb 8 5), .int (bb 8 6), .int (bb 8 7), .int (bb 8 8)])), (a1, .inr (6, [.ref a2, .ref a3, .ref a4, .int (nI nh)])), (a2, .inl (aT 0, 6, .inl (bb 0))), (a3, .inl (aT 0, 6, .inl (bb 1))), (a4, .inl (aT 0, 6, .inl (bb 2))), (a5, .inr (8, [.ref a6, .ref a7, .ref a8, .ref a9, .int (nI nm), .int (bb 8 0)])), (a6, .inl (aT 0, 12, .inl (bb 3))), (a7, .inl (aT 0, 12, .inl (bb 4))), (a8, .inl (aT 0, 12, .inl (bb 5))), (a9, .inl (aT 0, 12, .inl (bb 6))), (a10, .inl (aT 0, 4, .inl (bb 7)))] : va_W))) E9 W2 ∧ ((E9 = "java/util/NoSuchElementException" ∧ r = nI 1) ∨ (E9 = "java/lang/UnsupportedOperationException" ∧ r = nI 2)))) ∧ W1 = (([(u0, .inl (aT 2, 1, .inr (.inl o2)))] : va_W) ++ W2))) := by
  refine CxT.of RL (by decide +kernel) rfl (Nat.le_of_ble_eq_true rfl) ?_
  intro p e s m below meth c A ls C hml hl hA hr hlocks htb hZ hW
  have hl : lv_has ls 5 [(0, .ref x0), (1, .int x), (2, .int y), (3, .ref u0)] := hl
  have hx := C.1
  have hb := C.2.1
  refine lv_aload_n hx hb dL_commonMotion_0 rfl (lv_at hl 3 rfl) ?_
  refine lv_iconst (v := nI 0) hx hb dL_commonMotion_1 (by decide) ?_
  refine lv_aload_n hx hb dL_commonMotion_2 rfl (lv_at hl 0 rfl) ?_
  refine lv_iload_n hx hb dL_commonMotion_3 rfl (lv_at hl 1 rfl) ?_
  refine lv_iload_n hx hb dL_commonMotion_4 rfl (lv_at hl 2 rfl) ?_
  refine cx_calli (Wr := [(u0, .inl (aT 2, 1, .inr (.inl o)))]) (cx_runV C hml hl.1 hZ hW hA (As := [.int x, .int y]) (rest := [.int (nI 0), .ref u0]) (k_X9_commonMotion l hfl D aT x0 v0 t0 p0 o0 sv le lf h0 t1 t2 t3 t4 t5 t6 r1 r2 r3 r4 r5 r6 a0 a1 a2 a3 a4 a5 a6 a7 a8 a9 a10 bb nh nm M Bd hBd hC hB x y) gV_L_X9_commonMotion_83 hV_X9_commonMotion rfl ⟨Nat.le_of_ble_eq_true rfl, Nat.le_of_ble_eq_true rfl⟩ ⟨Nat.le_of_ble_eq_true rfl, Nat.le_of_ble_eq_true rfl⟩ [1, 2, 3, 4, 5, 6, 7, 8, 9, 10, 11, 12, 13, 14, 15, 16, 17, 18, 19] rfl (by decide) 1 12 rfl rfl rfl rfl (Nat.le_of_ble_eq_true rfl) dL_commonMotion_5) hW hA [1, 2, 3, 4, 5, 6, 7, 8, 9, 10, 11, 12, 13, 14, 15, 16, 17, 18, 19] [0] rfl rfl (by decide) (by decide) ?_ (fun r_5 W_5 H locs hq hW => ?_)
  rotate_left
  obtain hq := hq
  have hW : CxB D (([(u0, .inl (aT 2, 1, .inr (.inl o)))] : va_W) ++ W_5) A s.heap H _ := hW
  refine lv_i2l (v := (r_5).toInt64) hx hb dL_commonMotion_8 rfl ?_
  refine cx_last C hW 0 2 (j := 0) (W1 := (([(u0, .inl (aT 2, 1, .inr (.inl (vp_updL o 0 ((r_5).toInt64)))))] : va_W) ++ W_5)) rfl rfl rfl (by omega) (by decide) rfl dL_commonMotion_9 (fun H locs hW => ?_)
  refine lv_goto (tgt := 21) hx hb dL_commonMotion_10 (by decide) ?_
  refine lv_iconst (v := nI 0) hx hb dL_commonMotion_21 (by decide) ?_
  exact cx_tret C hr hlocks rfl hW ⟨Nat.le_of_ble_eq_true rfl, Nat.le_of_ble_eq_true rfl⟩ (⟨W_5, _, Or.inl ⟨r_5, rfl, rfl, hq⟩, rfl⟩) dL_commonMotion_22
  · intro E ce q9 W9 H locs hE hW h7 h8 h9
    have hE2 := hE
    rcases (show E = "java/util/NoSuchElementException" ∨ E = "java/lang/UnsupportedOperationException" from by
      clear hW
      revert hE
      grind) with rfl | rfl
    · have hW : CxB D (([(u0, .inl (aT 2, 1, .inr (.inl o)))] : va_W) ++ W9) A s.heap H _ := hW
      refine cx_catchT C hZ (nm := "java/util/NoSuchElementException") [] ⟨0, 10, 13, 24⟩ (tableOf [(0, 10, 17, 86)]) htb (fun z hz => by cases hz) (by decide) (by decide) gw_690 nw_705 h7 h8 h9 ?_
      refine lv_astore (lv' := [(4, .ref q9), (0, .ref x0), (1, .int x), (2, .int y), (3, .ref u0)]) hx hb dL_commonMotion_13 hl (by decide) rfl (fun ls hl => ?_)
      refine lv_iconst (v := nI 1) hx hb dL_commonMotion_15 (by decide) ?_
      exact cx_tret C hr hlocks rfl hW ⟨Nat.le_of_ble_eq_true rfl, Nat.le_of_ble_eq_true rfl⟩ (⟨W9, _, Or.inr ⟨_, hE2, Or.inl ⟨rfl, rfl⟩⟩, rfl⟩) dL_commonMotion_16
    · have hW : CxB D (([(u0, .inl (aT 2, 1, .inr (.inl o)))] : va_W) ++ W9) A s.heap H _ := hW
      refine cx_catchT C hZ (nm := "java/lang/UnsupportedOperationException") [⟨0, 10, 13, 24⟩] ⟨0, 10, 17, 86⟩ (tableOf []) htb (fun z hz => by
          simp only [List.mem_cons, List.not_mem_nil, or_false] at hz
          rcases hz with rfl
          · exact Or.inr ⟨by decide, "java/util/NoSuchElementException", gw_690, List.mem_of_getElem? (i := 8) rfl⟩) (by decide) (by decide) gw_986 nw_998 h7 h8 h9 ?_
      refine lv_astore (lv' := [(4, .ref q9), (0, .ref x0), (1, .int x), (2, .int y), (3, .ref u0)]) hx hb dL_commonMotion_17 hl (by decide) rfl (fun ls hl => ?_)
      refine lv_iconst (v := nI 2) hx hb dL_commonMotion_19 (by decide) ?_
      exact cx_tret C hr hlocks rfl hW ⟨Nat.le_of_ble_eq_true rfl, Nat.le_of_ble_eq_true rfl⟩ (⟨W9, _, Or.inr ⟨_, hE2, Or.inr (⟨rfl, rfl⟩)⟩, rfl⟩) dL_commonMotion_20
theorem dL_commonMotionByRows_0 : decode cL_commonMotionByRows 0 = .ok (.aload_n 3, 1) := by decide +kernel
theorem dL_commonMotionByRows_1 : decode cL_commonMotionByRows 1 = .ok (.iconst 0, 1) := by decide +kernel
theorem dL_commonMotionByRows_2 : decode cL_commonMotionByRows 2 = .ok (.aload_n 0, 1) := by decide +kernel
theorem dL_commonMotionByRows_3 : decode cL_commonMotionByRows 3 = .ok (.iload_n 1, 1) := by decide +kernel
theorem dL_commonMotionByRows_4 : decode cL_commonMotionByRows 4 = .ok (.iload_n 2, 1) := by decide +kernel
theorem dL_commonMotionByRows_5 : decode cL_commonMotionByRows 5 = .ok (.invokevirtual 88, 3) := by decide +kernel
theorem dL_commonMotionByRows_8 : decode cL_commonMotionByRows 8 = .ok (.i2l, 1) := by decide +kernel
theorem dL_commonMotionByRows_9 : decode cL_commonMotionByRows 9 = .ok (.lastore, 1) := by decide +kernel
theorem dL_commonMotionByRows_10 : decode cL_commonMotionByRows 10 = .ok (.goto 11, 3) := by decide +kernel
theorem dL_commonMotionByRows_13 : decode cL_commonMotionByRows 13 = .ok (.astore 4, 2) := by decide +kernel
theorem dL_commonMotionByRows_15 : decode cL_commonMotionByRows 15 = .ok (.iconst 1, 1) := by decide +kernel
theorem dL_commonMotionByRows_16 : decode cL_commonMotionByRows 16 = .ok (.ireturn, 1) := by decide +kernel
theorem dL_commonMotionByRows_17 : decode cL_commonMotionByRows 17 = .ok (.astore 4, 2) := by decide +kernel
theorem dL_commonMotionByRows_19 : decode cL_commonMotionByRows 19 = .ok (.iconst 2, 1) := by decide +kernel
theorem dL_commonMotionByRows_20 : decode cL_commonMotionByRows 20 = .ok (.ireturn, 1) := by decide +kernel
theorem dL_commonMotionByRows_21 : decode cL_commonMotionByRows 21 = .ok (.iconst 0, 1) := by decide +kernel
theorem dL_commonMotionByRows_22 : decode cL_commonMotionByRows 22 = .ok (.ireturn, 1) := by decide +kernel
theorem gV_L_X9_commonMotionByRows_88 : GoodIn gw (wsV RL 88 RX9 yX9_commonMotionByRows (Cond.code yX9_commonMotionByRows cX9_commonMotionByRows 5 (some .int) :: gw)) := gdV gw_1015 gw_1016 gw_1017 gw_67 gw_1018
theorem hV_X9_commonMotionByRows : yX9_commonMotionByRows.cls = RX9 ∧ yX9_commonMotionByRows.cls ≠ "java/lang/invoke/MethodHandle" ∧ yX9_commonMotionByRows.cls ≠ "java/lang/invoke/VarHandle" ∧ (parseMethodDescriptor yX9_commonMotionByRows.desc).map (fun d => d.parameters.length) = some 2 := ⟨rfl, by decide +kernel, by decide +kernel, by decide +kernel⟩
set_option maxHeartbeats 2000000 in
set_option maxRecDepth 20000 in
theorem k_L_commonMotionByRows (l : Launch) (hfl : l.stackTraces = false) (D : va_G) (aT : Nat → ClassId) (u0 : Nat) (o : Nat → Int64) (x0 : Nat) (v0 : Nat) (t0 : Nat) (p0 : Nat) (o0 : Nat) (sv : Bool) (le : Int32) (lf : Int32) (h0 : Nat) (t1 : Nat) (t2 : Nat) (t3 : Nat) (t4 : Nat) (t5 : Nat) (t6 : Nat) (r1 : Nat → Int32) (r2 : Nat → Int32) (r3 : Nat → Int32) (r4 : Nat → Int32) (r5 : Nat → Int64) (r6 : Nat → Int64) (a0 : Nat) (a1 : Nat) (a2 : Nat) (a3 : Nat) (a4 : Nat) (a5 : Nat) (a6 : Nat) (a7 : Nat) (a8 : Nat) (a9 : Nat) (a10 : Nat) (bb : Nat → Nat → Int32) (nh : Nat) (nm : Nat) (M : Nat → Int32) (Bd : Nat) (hBd : Bd < 1048000) (hC : CoW M Bd) (hB : BlC bb nh nm M) (x : Int32) (y : Int32) : CxT l yL_commonMotionByRows cL_commonMotionByRows 5 (some (.int)) [(0, 10, 13, 24), (0, 10, 17, 86)] 8 3 18 136 D aT [.ref x0, .int x, .int y, .ref u0] [(u0, .inl (aT 2, 1, .inr (.inl o))), (x0, .inr (12, [.ref a0, .ref v0, .ref h0, .ref t0, .ref p0, .ref o0, .int (bI sv), .int le, .int lf])), (t0, .inr (11, [.ref t1, .ref t2, .ref t3, .ref t4, .ref t5, .ref t6])), (t1, .inl (aT 0, 12, .inl r1)), (t2, .inl (aT 0, 12, .inl r2)), (t3, .inl (aT 0, 12, .inl r3)), (t4, .inl (aT 0, 12, .inl r4)), (t5, .inl (aT 2, 12, .inr (.inl r5))), (t6, .inl (aT 2, 12, .inr (.inl r6))), (a0, .inr (10, [.ref a1, .ref a5, .ref a10, .int (bb 8 1), .int (bb 8 2), .int (bb 8 3), .int (bb 8 4), .int (bb 8 5), .int (bb 8 6), .int (bb 8 7), .int (bb 8 8)])), (a1, .inr (6, [.ref a2, .ref a3, .ref a4, .int (nI nh)])), (a2, .inl (aT 0, 6, .inl (bb 0))), (a3, .inl (aT 0, 6, .inl (bb 1))), (a4, .inl (aT 0, 6, .inl (bb 2))), (a5, .inr (8, [.ref a6, .ref a7, .ref a8, .ref a9, .int (nI nm), .int (bb 8 0)])), (a6, .inl (aT 0, 12, .inl (bb 3))), (a7, .inl (aT 0, 12, .inl (bb 4))), (a8, .inl (aT 0, 12, .inl (bb 5))), (a9, .inl (aT 0, 12, .inl (bb 6))), (a10, .inl (aT 0, 4, .inl (bb 7)))] (qI D aT (fun r W1 => ∃ (W2 : va_W) (o2 : Nat → Int64), ((∃ r0 : Int32, r = nI 0 ∧ o2 0 = r0.toInt64 ∧ (fun r W1 => (∃ a b k, fnd (fun k => M (29 + 4 * k)) x nm = some a ∧ fnd (fun k => M (29 + 4 * k)) y nm = some b ∧ cmF (prM M) a b nm = some k ∧ r = M (29 + 4 * k)) ∧ ∃ (g1 g2 g3 g4 : Nat → Int32) (g5 g6 : Nat → Int64), W1 = ([(x0, .inr (12, [.ref a0, .ref v0, .ref h0, .ref t0, .ref p0, .ref o0, .int (bI sv), .int le, .int lf])), (t0, .inr (11, [.ref t1, .ref t2, .ref t3, .ref t4, .ref t5, .ref t6])), (t1, .inl (aT 0, 12, .inl g1)), (t2, .inl (aT 0, 12, .inl g2)), (t3, .inl (aT 0, 12, .inl g3)), (t4, .inl (aT 0, 12, .inl g4)), (t5, .inl (aT 2, 12, .inr (.inl g5))), (t6, .inl (aT 2, 12, .inr (.inl g6))), (a0, .inr (10, [.ref a1, .ref a5, .ref a10, .int (bb 8 1), .int (bb 8 2), .int (bb 8 3), .int (bb 8 4), .int (bb 8 5), .int (bb 8 6), .int (bb 8 7), .int (bb 8 8)])), (a1, .inr (6, [.ref a2, .ref a3, .ref a4, .int (nI nh)])), (a2, .inl (aT 0, 6, .inl (bb 0))), (a3, .inl (aT 0, 6, .inl (bb 1))), (a4, .inl (aT 0, 6, .inl (bb 2))), (a5, .inr (8, [.ref a6, .ref a7, .ref a8, .ref a9, .int (nI nm), .int (bb 8 0)])), (a6, .inl (aT 0, 12, .inl (bb 3))), (a7, .inl (aT 0, 12, .inl (bb 4))), (a8, .inl (aT 0, 12, .inl (bb 5))), (a9, .inl (aT 0, 12, .inl (bb 6))), (a10, .inl (aT 0, 4, .inl (bb 7)))] : va_W)) r0 W2) ∨ (∃ E9 : String, (fun E W1 => (E = "java/util/NoSuchElementException" ∧ (fnd (fun k => M (29 + 4 * k)) x nm = none ∨ fnd (fun k => M (29 + 4 * k)) y nm = none) ∧ W1 = ([(x0, .inr (12, [.ref a0, .ref v0, .ref h0, .ref t0, .ref p0, .ref o0, .int (bI sv), .int le, .int lf])), (t0, .inr (11, [.ref t1, .ref t2, .ref t3, .ref t4, .ref t5, .ref t6])), (t1, .inl (aT 0, 12, .inl r1)), (t2, .inl (aT 0, 12, .inl r2)), (t3, .inl (aT 0, 12, .inl r3)), (t4, .inl (aT 0, 12, .inl r4)), (t5, .inl (aT 2, 12, .inr (.inl r5))), (t6, .inl (aT 2, 12, .inr (.inl r6))), (a0, .inr (10, [.ref a1, .ref a5, .ref a10, .int (bb 8 1), .int (bb 8 2), .int (bb 8 3), .int (bb 8 4), .int (bb 8 5), .int (bb 8 6), .int (bb 8 7), .int (bb 8 8)])), (a1, .inr (6, [.ref a2, .ref a3, .ref a4, .int (nI nh)])), (a2, .inl (aT 0, 6, .inl (bb 0))), (a3, .inl (aT 0, 6, .inl (bb 1))), (a4, .inl (aT 0, 6, .inl (bb 2))), (a5, .inr (8, [.ref a6, .ref a7, .ref a8, .ref a9, .int (nI nm), .int (bb 8 0)])), (a6, .inl (aT 0, 12, .inl (bb 3))), (a7, .inl (aT 0, 12, .inl (bb 4))), (a8, .inl (aT 0, 12, .inl (bb 5))), (a9, .inl (aT 0, 12, .inl (bb 6))), (a10, .inl (aT 0, 4, .inl (bb 7)))] : va_W)) ∨ (E = "java/lang/UnsupportedOperationException" ∧ (∃ a b, fnd (fun k => M (29 + 4 * k)) x nm = some a ∧ fnd (fun k => M (29 + 4 * k)) y nm = some b ∧ cmF (prM M) a b nm = none) ∧ ∃ (g1 g2 g3 g4 : Nat → Int32) (g5 g6 : Nat → Int64), W1 = ([(x0, .inr (12, [.ref a0, .ref v0, .ref h0, .ref t0, .ref p0, .ref o0, .int (bI sv), .int le, .int lf])), (t0, .inr (11, [.ref t1, .ref t2, .ref t3, .ref t4, .ref t5, .ref t6])), (t1, .inl (aT 0, 12, .inl g1)), (t2, .inl (aT 0, 12, .inl g2)), (t3, .inl (aT 0, 12, .inl g3)), (t4, .inl (aT 0, 12, .inl g4)), (t5, .inl (aT 2, 12, .inr (.inl g5))), (t6, .inl (aT 2, 12, .inr (.inl g6))), (a0, .inr (10, [.ref a1, .ref a5, .ref a10, .int (bb 8 1), .int (bb 8 2), .int (bb 8 3), .int (bb 8 4), .int (bb 8 5), .int (bb 8 6), .int (bb 8 7), .int (bb 8 8)])), (a1, .inr (6, [.ref a2, .ref a3, .ref a4, .int (nI nh)])), (a2, .inl (aT 0, 6, .inl (bb 0))), (a3, .inl (aT 0, 6, .inl (bb 1))), (a4, .inl (aT 0, 6, .inl (bb 2))), (a5, .inr (8, [.ref a6, .ref a7, .ref a8, .ref a9, .int (nI nm), .int (bb 8 0)])), (a6, .inl (aT 0, 12, .inl (bb 3))), (a7, .inl (aT 0, 12, .inl (bb 4))), (a8, .inl (aT 0, 12, .inl (bb 5))), (a9, .inl (aT 0, 12, .inl (bb 6))), (a10, .inl (aT 0, 4, .inl (bb 7)))] : va_W))) E9 W2 ∧ ((E9 = "java/util/NoSuchElementException" ∧ r = nI 1) ∨ (E9 = "java/lang/UnsupportedOperationException" ∧ r = nI 2)))) ∧ W1 = (([(u0, .inl (aT 2, 1, .inr (.inl o2)))] : va_W) ++ W2))) := by
  refine CxT.of RL (by decide +kernel) rfl (Nat.le_of_ble_eq_true rfl) ?_
  intro p e s m below meth c A ls C hml hl hA hr hlocks htb hZ hW
  have hl : lv_has ls 5 [(0, .ref x0), (1, .int x), (2, .int y), (3, .ref u0)] := hl
  have hx := C.1
  have hb := C.2.1
  refine lv_aload_n hx hb dL_commonMotionByRows_0 rfl (lv_at hl 3 rfl) ?_
  refine lv_iconst (v := nI 0) hx hb dL_commonMotionByRows_1 (by decide) ?_
  refine lv_aload_n hx hb dL_commonMotionByRows_2 rfl (lv_at hl 0 rfl) ?_
  refine lv_iload_n hx hb dL_commonMotionByRows_3 rfl (lv_at hl 1 rfl) ?_
  refine lv_iload_n hx hb dL_commonMotionByRows_4 rfl (lv_at hl 2 rfl) ?_
  refine cx_calli (Wr := [(u0, .inl (aT 2, 1, .inr (.inl o)))]) (cx_runV C hml hl.1 hZ hW hA (As := [.int x, .int y]) (rest := [.int (nI 0), .ref u0]) (k_X9_commonMotionByRows l hfl D aT x0 v0 t0 p0 o0 sv le lf h0 t1 t2 t3 t4 t5 t6 r1 r2 r3 r4 r5 r6 a0 a1 a2 a3 a4 a5 a6 a7 a8 a9 a10 bb nh nm M Bd hBd hC hB x y) gV_L_X9_commonMotionByRows_88 hV_X9_commonMotionByRows rfl ⟨Nat.le_of_ble_eq_true rfl, Nat.le_of_ble_eq_true rfl⟩ ⟨Nat.le_of_ble_eq_true rfl, Nat.le_of_ble_eq_true rfl⟩ [1, 2, 3, 4, 5, 6, 7, 8, 9, 10, 11, 12, 13, 14, 15, 16, 17, 18, 19] rfl (by decide) 1 12 rfl rfl rfl rfl (Nat.le_of_ble_eq_true rfl) dL_commonMotionByRows_5) hW hA [1, 2, 3, 4, 5, 6, 7, 8, 9, 10, 11, 12, 13, 14, 15, 16, 17, 18, 19] [0] rfl rfl (by decide) (by decide) ?_ (fun r_5 W_5 H locs hq hW => ?_)
  rotate_left
  obtain hq := hq
  have hW : CxB D (([(u0, .inl (aT 2, 1, .inr (.inl o)))] : va_W) ++ W_5) A s.heap H _ := hW
  refine lv_i2l (v := (r_5).toInt64) hx hb dL_commonMotionByRows_8 rfl ?_
  refine cx_last C hW 0 2 (j := 0) (W1 := (([(u0, .inl (aT 2, 1, .inr (.inl (vp_updL o 0 ((r_5).toInt64)))))] : va_W) ++ W_5)) rfl rfl rfl (by omega) (by decide) rfl dL_commonMotionByRows_9 (fun H locs hW => ?_)
  refine lv_goto (tgt := 21) hx hb dL_commonMotionByRows_10 (by decide) ?_
  refine lv_iconst (v := nI 0) hx hb dL_commonMotionByRows_21 (by decide) ?_
  exact cx_tret C hr hlocks rfl hW ⟨Nat.le_of_ble_eq_true rfl, Nat.le_of_ble_eq_true rfl⟩ (⟨W_5, _, Or.inl ⟨r_5, rfl, rfl, hq⟩, rfl⟩) dL_commonMotionByRows_22
  · intro E ce q9 W9 H locs hE hW h7 h8 h9
    have hE2 := hE
    rcases (show E = "java/util/NoSuchElementException" ∨ E = "java/lang/UnsupportedOperationException" from by
      clear hW
      revert hE
      grind) with rfl | rfl
    · have hW : CxB D (([(u0, .inl (aT 2, 1, .inr (.inl o)))] : va_W) ++ W9) A s.heap H _ := hW
      refine cx_catchT C hZ (nm := "java/util/NoSuchElementException") [] ⟨0, 10, 13, 24⟩ (tableOf [(0, 10, 17, 86)]) htb (fun z hz => by cases hz) (by decide) (by decide) gw_690 nw_705 h7 h8 h9 ?_
      refine lv_astore (lv' := [(4, .ref q9), (0, .ref x0), (1, .int x), (2, .int y), (3, .ref u0)]) hx hb dL_commonMotionByRows_13 hl (by decide) rfl (fun ls hl => ?_)
      refine lv_iconst (v := nI 1) hx hb dL_commonMotionByRows_15 (by decide) ?_
      exact cx_tret C hr hlocks rfl hW ⟨Nat.le_of_ble_eq_true rfl, Nat.le_of_ble_eq_true rfl⟩ (⟨W9, _, Or.inr ⟨_, hE2, Or.inl ⟨rfl, rfl⟩⟩, rfl⟩) dL_commonMotionByRows_16
    · have hW : CxB D (([(u0, .inl (aT 2, 1, .inr (.inl o)))] : va_W) ++ W9) A s.heap H _ := hW
      refine cx_catchT C hZ (nm := "java/lang/UnsupportedOperationException") [⟨0, 10, 13, 24⟩] ⟨0, 10, 17, 86⟩ (tableOf []) htb (fun z hz => by
          simp only [List.mem_cons, List.not_mem_nil, or_false] at hz
          rcases hz with rfl
          · exact Or.inr ⟨by decide, "java/util/NoSuchElementException", gw_690, List.mem_of_getElem? (i := 8) rfl⟩) (by decide) (by decide) gw_986 nw_998 h7 h8 h9 ?_
      refine lv_astore (lv' := [(4, .ref q9), (0, .ref x0), (1, .int x), (2, .int y), (3, .ref u0)]) hx hb dL_commonMotionByRows_17 hl (by decide) rfl (fun ls hl => ?_)
      refine lv_iconst (v := nI 2) hx hb dL_commonMotionByRows_19 (by decide) ?_
      exact cx_tret C hr hlocks rfl hW ⟨Nat.le_of_ble_eq_true rfl, Nat.le_of_ble_eq_true rfl⟩ (⟨W9, _, Or.inr ⟨_, hE2, Or.inr (⟨rfl, rfl⟩)⟩, rfl⟩) dL_commonMotionByRows_20
theorem dL_pathSize_0 : decode cL_pathSize 0 = .ok (.aload_n 3, 1) := by decide +kernel
theorem dL_pathSize_1 : decode cL_pathSize 1 = .ok (.iconst 0, 1) := by decide +kernel
theorem dL_pathSize_2 : decode cL_pathSize 2 = .ok (.aload_n 0, 1) := by decide +kernel
theorem dL_pathSize_3 : decode cL_pathSize 3 = .ok (.iload_n 1, 1) := by decide +kernel
theorem dL_pathSize_4 : decode cL_pathSize 4 = .ok (.iload_n 2, 1) := by decide +kernel
theorem dL_pathSize_5 : decode cL_pathSize 5 = .ok (.invokevirtual 91, 3) := by decide +kernel
theorem dL_pathSize_8 : decode cL_pathSize 8 = .ok (.i2l, 1) := by decide +kernel
theorem dL_pathSize_9 : decode cL_pathSize 9 = .ok (.lastore, 1) := by decide +kernel
theorem dL_pathSize_10 : decode cL_pathSize 10 = .ok (.goto 11, 3) := by decide +kernel
theorem dL_pathSize_13 : decode cL_pathSize 13 = .ok (.astore 4, 2) := by decide +kernel
theorem dL_pathSize_15 : decode cL_pathSize 15 = .ok (.iconst 1, 1) := by decide +kernel
theorem dL_pathSize_16 : decode cL_pathSize 16 = .ok (.ireturn, 1) := by decide +kernel
theorem dL_pathSize_17 : decode cL_pathSize 17 = .ok (.astore 4, 2) := by decide +kernel
theorem dL_pathSize_19 : decode cL_pathSize 19 = .ok (.iconst 2, 1) := by decide +kernel
theorem dL_pathSize_20 : decode cL_pathSize 20 = .ok (.ireturn, 1) := by decide +kernel
theorem dL_pathSize_21 : decode cL_pathSize 21 = .ok (.iconst 0, 1) := by decide +kernel
theorem dL_pathSize_22 : decode cL_pathSize 22 = .ok (.ireturn, 1) := by decide +kernel
theorem gV_L_X9_pathSize_91 : GoodIn gw (wsV RL 91 RX9 yX9_pathSize (Cond.code yX9_pathSize cX9_pathSize 7 (some .int) :: gw)) := gdV gw_1023 gw_1024 gw_1025 gw_67 gw_1026
theorem hV_X9_pathSize : yX9_pathSize.cls = RX9 ∧ yX9_pathSize.cls ≠ "java/lang/invoke/MethodHandle" ∧ yX9_pathSize.cls ≠ "java/lang/invoke/VarHandle" ∧ (parseMethodDescriptor yX9_pathSize.desc).map (fun d => d.parameters.length) = some 2 := ⟨rfl, by decide +kernel, by decide +kernel, by decide +kernel⟩
set_option maxHeartbeats 2000000 in
set_option maxRecDepth 20000 in
theorem k_L_pathSize (l : Launch) (hfl : l.stackTraces = false) (D : va_G) (aT : Nat → ClassId) (u0 : Nat) (o : Nat → Int64) (x0 : Nat) (v0 : Nat) (t0 : Nat) (p0 : Nat) (o0 : Nat) (sv : Bool) (le : Int32) (lf : Int32) (h0 : Nat) (t1 : Nat) (t2 : Nat) (t3 : Nat) (t4 : Nat) (t5 : Nat) (t6 : Nat) (r1 : Nat → Int32) (r2 : Nat → Int32) (r3 : Nat → Int32) (r4 : Nat → Int32) (r5 : Nat → Int64) (r6 : Nat → Int64) (a0 : Nat) (a1 : Nat) (a2 : Nat) (a3 : Nat) (a4 : Nat) (a5 : Nat) (a6 : Nat) (a7 : Nat) (a8 : Nat) (a9 : Nat) (a10 : Nat) (bb : Nat → Nat → Int32) (nh : Nat) (nm : Nat) (M : Nat → Int32) (Bd : Nat) (hBd : Bd < 1048000) (hC : CoW M Bd) (hB : BlC bb nh nm M) (x : Int32) (y : Int32) : CxT l yL_pathSize cL_pathSize 5 (some (.int)) [(0, 10, 13, 24), (0, 10, 17, 86)] 8 3 18 138 D aT [.ref x0, .int x, .int y, .ref u0] [(u0, .inl (aT 2, 1, .inr (.inl o))), (x0, .inr (12, [.ref a0, .ref v0, .ref h0, .ref t0, .ref p0, .ref o0, .int (bI sv), .int le, .int lf])), (t0, .inr (11, [.ref t1, .ref t2, .ref t3, .ref t4, .ref t5, .ref t6])), (t1, .inl (aT 0, 12, .inl r1)), (t2, .inl (aT 0, 12, .inl r2)), (t3, .inl (aT 0, 12, .inl r3)), (t4, .inl (aT 0, 12, .inl r4)), (t5, .inl (aT 2, 12, .inr (.inl r5))), (t6, .inl (aT 2, 12, .inr (.inl r6))), (a0, .inr (10, [.ref a1, .ref a5, .ref a10, .int (bb 8 1), .int (bb 8 2), .int (bb 8 3), .int (bb 8 4), .int (bb 8 5), .int (bb 8 6), .int (bb 8 7), .int (bb 8 8)])), (a1, .inr (6, [.ref a2, .ref a3, .ref a4, .int (nI nh)])), (a2, .inl (aT 0, 6, .inl (bb 0))), (a3, .inl (aT 0, 6, .inl (bb 1))), (a4, .inl (aT 0, 6, .inl (bb 2))), (a5, .inr (8, [.ref a6, .ref a7, .ref a8, .ref a9, .int (nI nm), .int (bb 8 0)])), (a6, .inl (aT 0, 12, .inl (bb 3))), (a7, .inl (aT 0, 12, .inl (bb 4))), (a8, .inl (aT 0, 12, .inl (bb 5))), (a9, .inl (aT 0, 12, .inl (bb 6))), (a10, .inl (aT 0, 4, .inl (bb 7)))] (qI D aT (fun r W1 => ∃ (W2 : va_W) (o2 : Nat → Int64), ((∃ r0 : Int32, r = nI 0 ∧ o2 0 = r0.toInt64 ∧ (fun r W1 => (∃ a b k, fnd (fun k => M (29 + 4 * k)) x nm = some a ∧ fnd (fun k => M (29 + 4 * k)) y nm = some b ∧ cmF (prM M) a b nm = some k ∧ r = nI (stN (prM M) nm a b + 1)) ∧ ∃ (g1 g2 g3 g4 : Nat → Int32) (g5 g6 : Nat → Int64), W1 = ([(x0, .inr (12, [.ref a0, .ref v0, .ref h0, .ref t0, .ref p0, .ref o0, .int (bI sv), .int le, .int lf])), (t0, .inr (11, [.ref t1, .ref t2, .ref t3, .ref t4, .ref t5, .ref t6])), (t1, .inl (aT 0, 12, .inl g1)), (t2, .inl (aT 0, 12, .inl g2)), (t3, .inl (aT 0, 12, .inl g3)), (t4, .inl (aT 0, 12, .inl g4)), (t5, .inl (aT 2, 12, .inr (.inl g5))), (t6, .inl (aT 2, 12, .inr (.inl g6))), (a0, .inr (10, [.ref a1, .ref a5, .ref a10, .int (bb 8 1), .int (bb 8 2), .int (bb 8 3), .int (bb 8 4), .int (bb 8 5), .int (bb 8 6), .int (bb 8 7), .int (bb 8 8)])), (a1, .inr (6, [.ref a2, .ref a3, .ref a4, .int (nI nh)])), (a2, .inl (aT 0, 6, .inl (bb 0))), (a3, .inl (aT 0, 6, .inl (bb 1))), (a4, .inl (aT 0, 6, .inl (bb 2))), (a5, .inr (8, [.ref a6, .ref a7, .ref a8, .ref a9, .int (nI nm), .int (bb 8 0)])), (a6, .inl (aT 0, 12, .inl (bb 3))), (a7, .inl (aT 0, 12, .inl (bb 4))), (a8, .inl (aT 0, 12, .inl (bb 5))), (a9, .inl (aT 0, 12, .inl (bb 6))), (a10, .inl (aT 0, 4, .inl (bb 7)))] : va_W)) r0 W2) ∨ (∃ E9 : String, (fun E W1 => (E = "java/util/NoSuchElementException" ∧ (fnd (fun k => M (29 + 4 * k)) x nm = none ∨ fnd (fun k => M (29 + 4 * k)) y nm = none) ∧ W1 = ([(x0, .inr (12, [.ref a0, .ref v0, .ref h0, .ref t0, .ref p0, .ref o0, .int (bI sv), .int le, .int lf])), (t0, .inr (11, [.ref t1, .ref t2, .ref t3, .ref t4, .ref t5, .ref t6])), (t1, .inl (aT 0, 12, .inl r1)), (t2, .inl (aT 0, 12, .inl r2)), (t3, .inl (aT 0, 12, .inl r3)), (t4, .inl (aT 0, 12, .inl r4)), (t5, .inl (aT 2, 12, .inr (.inl r5))), (t6, .inl (aT 2, 12, .inr (.inl r6))), (a0, .inr (10, [.ref a1, .ref a5, .ref a10, .int (bb 8 1), .int (bb 8 2), .int (bb 8 3), .int (bb 8 4), .int (bb 8 5), .int (bb 8 6), .int (bb 8 7), .int (bb 8 8)])), (a1, .inr (6, [.ref a2, .ref a3, .ref a4, .int (nI nh)])), (a2, .inl (aT 0, 6, .inl (bb 0))), (a3, .inl (aT 0, 6, .inl (bb 1))), (a4, .inl (aT 0, 6, .inl (bb 2))), (a5, .inr (8, [.ref a6, .ref a7, .ref a8, .ref a9, .int (nI nm), .int (bb 8 0)])), (a6, .inl (aT 0, 12, .inl (bb 3))), (a7, .inl (aT 0, 12, .inl (bb 4))), (a8, .inl (aT 0, 12, .inl (bb 5))), (a9, .inl (aT 0, 12, .inl (bb 6))), (a10, .inl (aT 0, 4, .inl (bb 7)))] : va_W)) ∨ (E = "java/lang/UnsupportedOperationException" ∧ (∃ a b, fnd (fun k => M (29 + 4 * k)) x nm = some a ∧ fnd (fun k => M (29 + 4 * k)) y nm = some b ∧ cmF (prM M) a b nm = none) ∧ ∃ (g1 g2 g3 g4 : Nat → Int32) (g5 g6 : Nat → Int64), W1 = ([(x0, .inr (12, [.ref a0, .ref v0, .ref h0, .ref t0, .ref p0, .ref o0, .int (bI sv), .int le, .int lf])), (t0, .inr (11, [.ref t1, .ref t2, .ref t3, .ref t4, .ref t5, .ref t6])), (t1, .inl (aT 0, 12, .inl g1)), (t2, .inl (aT 0, 12, .inl g2)), (t3, .inl (aT 0, 12, .inl g3)), (t4, .inl (aT 0, 12, .inl g4)), (t5, .inl (aT 2, 12, .inr (.inl g5))), (t6, .inl (aT 2, 12, .inr (.inl g6))), (a0, .inr (10, [.ref a1, .ref a5, .ref a10, .int (bb 8 1), .int (bb 8 2), .int (bb 8 3), .int (bb 8 4), .int (bb 8 5), .int (bb 8 6), .int (bb 8 7), .int (bb 8 8)])), (a1, .inr (6, [.ref a2, .ref a3, .ref a4, .int (nI nh)])), (a2, .inl (aT 0, 6, .inl (bb 0))), (a3, .inl (aT 0, 6, .inl (bb 1))), (a4, .inl (aT 0, 6, .inl (bb 2))), (a5, .inr (8, [.ref a6, .ref a7, .ref a8, .ref a9, .int (nI nm), .int (bb 8 0)])), (a6, .inl (aT 0, 12, .inl (bb 3))), (a7, .inl (aT 0, 12, .inl (bb 4))), (a8, .inl (aT 0, 12, .inl (bb 5))), (a9, .inl (aT 0, 12, .inl (bb 6))), (a10, .inl (aT 0, 4, .inl (bb 7)))] : va_W))) E9 W2 ∧ ((E9 = "java/util/NoSuchElementException" ∧ r = nI 1) ∨ (E9 = "java/lang/UnsupportedOperationException" ∧ r = nI 2)))) ∧ W1 = (([(u0, .inl (aT 2, 1, .inr (.inl o2)))] : va_W) ++ W2))) := by
  refine CxT.of RL (by decide +kernel) rfl (Nat.le_of_ble_eq_true rfl) ?_
  intro p e s m below meth c A ls C hml hl hA hr hlocks htb hZ hW
  have hl : lv_has ls 5 [(0, .ref x0), (1, .int x), (2, .int y), (3, .ref u0)] := hl
  have hx := C.1
  have hb := C.2.1
  refine lv_aload_n hx hb dL_pathSize_0 rfl (lv_at hl 3 rfl) ?_
  refine lv_iconst (v := nI 0) hx hb dL_pathSize_1 (by decide) ?_
  refine lv_aload_n hx hb dL_pathSize_2 rfl (lv_at hl 0 rfl) ?_
  refine lv_iload_n hx hb dL_pathSize_3 rfl (lv_at hl 1 rfl) ?_
  refine lv_iload_n hx hb dL_pathSize_4 rfl (lv_at hl 2 rfl) ?_
  refine cx_calli (Wr := [(u0, .inl (aT 2, 1, .inr (.inl o)))]) (cx_runV C hml hl.1 hZ hW hA (As := [.int x, .int y]) (rest := [.int (nI 0), .ref u0]) (k_X9_pathSize l hfl D aT x0 v0 t0 p0 o0 sv le lf h0 t1 t2 t3 t4 t5 t6 r1 r2 r3 r4 r5 r6 a0 a1 a2 a3 a4 a5 a6 a7 a8 a9 a10 bb nh nm M Bd hBd hC hB x y) gV_L_X9_pathSize_91 hV_X9_pathSize rfl ⟨Nat.le_of_ble_eq_true rfl, Nat.le_of_ble_eq_true rfl⟩ ⟨Nat.le_of_ble_eq_true rfl, Nat.le_of_ble_eq_true rfl⟩ [1, 2, 3, 4, 5, 6, 7, 8, 9, 10, 11, 12, 13, 14, 15, 16, 17, 18, 19] rfl (by decide) 1 12 rfl rfl rfl rfl (Nat.le_of_ble_eq_true rfl) dL_pathSize_5) hW hA [1, 2, 3, 4, 5, 6, 7, 8, 9, 10, 11, 12, 13, 14, 15, 16, 17, 18, 19] [0] rfl rfl (by decide) (by decide) ?_ (fun r_5 W_5 H locs hq hW => ?_)
  rotate_left
  obtain hq := hq
  have hW : CxB D (([(u0, .inl (aT 2, 1, .inr (.inl o)))] : va_W) ++ W_5) A s.heap H _ := hW
  refine lv_i2l (v := (r_5).toInt64) hx hb dL_pathSize_8 rfl ?_
  refine cx_last C hW 0 2 (j := 0) (W1 := (([(u0, .inl (aT 2, 1, .inr (.inl (vp_updL o 0 ((r_5).toInt64)))))] : va_W) ++ W_5)) rfl rfl rfl (by omega) (by decide) rfl dL_pathSize_9 (fun H locs hW => ?_)
  refine lv_goto (tgt := 21) hx hb dL_pathSize_10 (by decide) ?_
  refine lv_iconst (v := nI 0) hx hb dL_pathSize_21 (by decide) ?_
  exact cx_tret C hr hlocks rfl hW ⟨Nat.le_of_ble_eq_true rfl, Nat.le_of_ble_eq_true rfl⟩ (⟨W_5, _, Or.inl ⟨r_5, rfl, rfl, hq⟩, rfl⟩) dL_pathSize_22
  · intro E ce q9 W9 H locs hE hW h7 h8 h9
    have hE2 := hE
    rcases (show E = "java/util/NoSuchElementException" ∨ E = "java/lang/UnsupportedOperationException" from by
      clear hW
      revert hE
      grind) with rfl | rfl
    · have hW : CxB D (([(u0, .inl (aT 2, 1, .inr (.inl o)))] : va_W) ++ W9) A s.heap H _ := hW
      refine cx_catchT C hZ (nm := "java/util/NoSuchElementException") [] ⟨0, 10, 13, 24⟩ (tableOf [(0, 10, 17, 86)]) htb (fun z hz => by cases hz) (by decide) (by decide) gw_690 nw_705 h7 h8 h9 ?_
      refine lv_astore (lv' := [(4, .ref q9), (0, .ref x0), (1, .int x), (2, .int y), (3, .ref u0)]) hx hb dL_pathSize_13 hl (by decide) rfl (fun ls hl => ?_)
      refine lv_iconst (v := nI 1) hx hb dL_pathSize_15 (by decide) ?_
      exact cx_tret C hr hlocks rfl hW ⟨Nat.le_of_ble_eq_true rfl, Nat.le_of_ble_eq_true rfl⟩ (⟨W9, _, Or.inr ⟨_, hE2, Or.inl ⟨rfl, rfl⟩⟩, rfl⟩) dL_pathSize_16
    · have hW : CxB D (([(u0, .inl (aT 2, 1, .inr (.inl o)))] : va_W) ++ W9) A s.heap H _ := hW
      refine cx_catchT C hZ (nm := "java/lang/UnsupportedOperationException") [⟨0, 10, 13, 24⟩] ⟨0, 10, 17, 86⟩ (tableOf []) htb (fun z hz => by
          simp only [List.mem_cons, List.not_mem_nil, or_false] at hz
          rcases hz with rfl
          · exact Or.inr ⟨by decide, "java/util/NoSuchElementException", gw_690, List.mem_of_getElem? (i := 8) rfl⟩) (by decide) (by decide) gw_986 nw_998 h7 h8 h9 ?_
      refine lv_astore (lv' := [(4, .ref q9), (0, .ref x0), (1, .int x), (2, .int y), (3, .ref u0)]) hx hb dL_pathSize_17 hl (by decide) rfl (fun ls hl => ?_)
      refine lv_iconst (v := nI 2) hx hb dL_pathSize_19 (by decide) ?_
      exact cx_tret C hr hlocks rfl hW ⟨Nat.le_of_ble_eq_true rfl, Nat.le_of_ble_eq_true rfl⟩ (⟨W9, _, Or.inr ⟨_, hE2, Or.inr (⟨rfl, rfl⟩)⟩, rfl⟩) dL_pathSize_20
theorem dL_longestPath_0 : decode cL_longestPath 0 = .ok (.aload_n 2, 1) := by decide +kernel
theorem dL_longestPath_1 : decode cL_longestPath 1 = .ok (.iconst 0, 1) := by decide +kernel
theorem dL_longestPath_2 : decode cL_longestPath 2 = .ok (.aload_n 0, 1) := by decide +kernel
theorem dL_longestPath_3 : decode cL_longestPath 3 = .ok (.iload_n 1, 1) := by decide +kernel
theorem dL_longestPath_4 : decode cL_longestPath 4 = .ok (.invokevirtual 94, 3) := by decide +kernel
theorem dL_longestPath_7 : decode cL_longestPath 7 = .ok (.i2l, 1) := by decide +kernel
theorem dL_longestPath_8 : decode cL_longestPath 8 = .ok (.lastore, 1) := by decide +kernel
theorem dL_longestPath_9 : decode cL_longestPath 9 = .ok (.goto 6, 3) := by decide +kernel
theorem dL_longestPath_12 : decode cL_longestPath 12 = .ok (.astore_n 3, 1) := by decide +kernel
theorem dL_longestPath_13 : decode cL_longestPath 13 = .ok (.iconst 1, 1) := by decide +kernel
theorem dL_longestPath_14 : decode cL_longestPath 14 = .ok (.ireturn, 1) := by decide +kernel
theorem dL_longestPath_15 : decode cL_longestPath 15 = .ok (.iconst 0, 1) := by decide +kernel
theorem dL_longestPath_16 : decode cL_longestPath 16 = .ok (.ireturn, 1) := by decide +kernel
theorem gV_L_X9_longestPath_94 : GoodIn gw (wsV RL 94 RX9 yX9_longestPath (Cond.code yX9_longestPath cX9_longestPath 2 (some .int) :: gw)) := gdV gw_1031 gw_1032 gw_1033 gw_67 gw_1034
theorem hV_X9_longestPath : yX9_longestPath.cls = RX9 ∧ yX9_longestPath.cls ≠ "java/lang/invoke/MethodHandle" ∧ yX9_longestPath.cls ≠ "java/lang/invoke/VarHandle" ∧ (parseMethodDescriptor yX9_longestPath.desc).map (fun d => d.parameters.length) = some 1 := ⟨rfl, by decide +kernel, by decide +kernel, by decide +kernel⟩
set_option maxHeartbeats 2000000 in
set_option maxRecDepth 20000 in
theorem k_L_longestPath (l : Launch) (hfl : l.stackTraces = false) (D : va_G) (aT : Nat → ClassId) (u0 : Nat) (o : Nat → Int64) (x0 : Nat) (v0 : Nat) (t0 : Nat) (p0 : Nat) (o0 : Nat) (sv : Bool) (le : Int32) (lf : Int32) (h0 : Nat) (t1 : Nat) (t2 : Nat) (t3 : Nat) (t4 : Nat) (t5 : Nat) (t6 : Nat) (r1 : Nat → Int32) (r2 : Nat → Int32) (r3 : Nat → Int32) (r4 : Nat → Int32) (r5 : Nat → Int64) (r6 : Nat → Int64) (a0 : Nat) (a1 : Nat) (a2 : Nat) (a3 : Nat) (a4 : Nat) (a5 : Nat) (a6 : Nat) (a7 : Nat) (a8 : Nat) (a9 : Nat) (a10 : Nat) (bb : Nat → Nat → Int32) (nh : Nat) (nm : Nat) (M : Nat → Int32) (Bd : Nat) (hBd : Bd < 1048000) (hC : CoW M Bd) (hB : BlC bb nh nm M) (x : Int32) : CxT l yL_longestPath cL_longestPath 4 (some (.int)) [(0, 9, 12, 24)] 8 1 6 133 D aT [.ref x0, .int x, .ref u0] [(u0, .inl (aT 2, 1, .inr (.inl o))), (x0, .inr (12, [.ref a0, .ref v0, .ref h0, .ref t0, .ref p0, .ref o0, .int (bI sv), .int le, .int lf])), (t0, .inr (11, [.ref t1, .ref t2, .ref t3, .ref t4, .ref t5, .ref t6])), (t1, .inl (aT 0, 12, .inl r1)), (t2, .inl (aT 0, 12, .inl r2)), (t3, .inl (aT 0, 12, .inl r3)), (t4, .inl (aT 0, 12, .inl r4)), (t5, .inl (aT 2, 12, .inr (.inl r5))), (t6, .inl (aT 2, 12, .inr (.inl r6))), (a0, .inr (10, [.ref a1, .ref a5, .ref a10, .int (bb 8 1), .int (bb 8 2), .int (bb 8 3), .int (bb 8 4), .int (bb 8 5), .int (bb 8 6), .int (bb 8 7), .int (bb 8 8)])), (a1, .inr (6, [.ref a2, .ref a3, .ref a4, .int (nI nh)])), (a2, .inl (aT 0, 6, .inl (bb 0))), (a3, .inl (aT 0, 6, .inl (bb 1))), (a4, .inl (aT 0, 6, .inl (bb 2))), (a5, .inr (8, [.ref a6, .ref a7, .ref a8, .ref a9, .int (nI nm), .int (bb 8 0)])), (a6, .inl (aT 0, 12, .inl (bb 3))), (a7, .inl (aT 0, 12, .inl (bb 4))), (a8, .inl (aT 0, 12, .inl (bb 5))), (a9, .inl (aT 0, 12, .inl (bb 6))), (a10, .inl (aT 0, 4, .inl (bb 7)))] (qI D aT (fun r W1 => ∃ (W2 : va_W) (o2 : Nat → Int64), ((∃ r0 : Int32, r = nI 0 ∧ o2 0 = r0.toInt64 ∧ (fun r W1 => (∃ q, fnd (fun k => M (29 + 4 * k)) x nm = some q ∧ r = nI (lpO (prM M) nm q nm + 1)) ∧ ∃ (g1 g2 g3 g4 : Nat → Int32) (g5 g6 : Nat → Int64), W1 = ([(x0, .inr (12, [.ref a0, .ref v0, .ref h0, .ref t0, .ref p0, .ref o0, .int (bI sv), .int le, .int lf])), (t0, .inr (11, [.ref t1, .ref t2, .ref t3, .ref t4, .ref t5, .ref t6])), (t1, .inl (aT 0, 12, .inl g1)), (t2, .inl (aT 0, 12, .inl g2)), (t3, .inl (aT 0, 12, .inl g3)), (t4, .inl (aT 0, 12, .inl g4)), (t5, .inl (aT 2, 12, .inr (.inl g5))), (t6, .inl (aT 2, 12, .inr (.inl g6))), (a0, .inr (10, [.ref a1, .ref a5, .ref a10, .int (bb 8 1), .int (bb 8 2), .int (bb 8 3), .int (bb 8 4), .int (bb 8 5), .int (bb 8 6), .int (bb 8 7), .int (bb 8 8)])), (a1, .inr (6, [.ref a2, .ref a3, .ref a4, .int (nI nh)])), (a2, .inl (aT 0, 6, .inl (bb 0))), (a3, .inl (aT 0, 6, .inl (bb 1))), (a4, .inl (aT 0, 6, .inl (bb 2))), (a5, .inr (8, [.ref a6, .ref a7, .ref a8, .ref a9, .int (nI nm), .int (bb 8 0)])), (a6, .inl (aT 0, 12, .inl (bb 3))), (a7, .inl (aT 0, 12, .inl (bb 4))), (a8, .inl (aT 0, 12, .inl (bb 5))), (a9, .inl (aT 0, 12, .inl (bb 6))), (a10, .inl (aT 0, 4, .inl (bb 7)))] : va_W)) r0 W2) ∨ (∃ E9 : String, (fun E W1 => (E = "java/util/NoSuchElementException" ∧ fnd (fun k => M (29 + 4 * k)) x nm = none) ∧ W1 = ([(x0, .inr (12, [.ref a0, .ref v0, .ref h0, .ref t0, .ref p0, .ref o0, .int (bI sv), .int le, .int lf])), (t0, .inr (11, [.ref t1, .ref t2, .ref t3, .ref t4, .ref t5, .ref t6])), (t1, .inl (aT 0, 12, .inl r1)), (t2, .inl (aT 0, 12, .inl r2)), (t3, .inl (aT 0, 12, .inl r3)), (t4, .inl (aT 0, 12, .inl r4)), (t5, .inl (aT 2, 12, .inr (.inl r5))), (t6, .inl (aT 2, 12, .inr (.inl r6))), (a0, .inr (10, [.ref a1, .ref a5, .ref a10, .int (bb 8 1), .int (bb 8 2), .int (bb 8 3), .int (bb 8 4), .int (bb 8 5), .int (bb 8 6), .int (bb 8 7), .int (bb 8 8)])), (a1, .inr (6, [.ref a2, .ref a3, .ref a4, .int (nI nh)])), (a2, .inl (aT 0, 6, .inl (bb 0))), (a3, .inl (aT 0, 6, .inl (bb 1))), (a4, .inl (aT 0, 6, .inl (bb 2))), (a5, .inr (8, [.ref a6, .ref a7, .ref a8, .ref a9, .int (nI nm), .int (bb 8 0)])), (a6, .inl (aT 0, 12, .inl (bb 3))), (a7, .inl (aT 0, 12, .inl (bb 4))), (a8, .inl (aT 0, 12, .inl (bb 5))), (a9, .inl (aT 0, 12, .inl (bb 6))), (a10, .inl (aT 0, 4, .inl (bb 7)))] : va_W)) E9 W2 ∧ ((E9 = "java/util/NoSuchElementException" ∧ r = nI 1)))) ∧ W1 = (([(u0, .inl (aT 2, 1, .inr (.inl o2)))] : va_W) ++ W2))) := by
  refine CxT.of RL (by decide +kernel) rfl (Nat.le_of_ble_eq_true rfl) ?_
  intro p e s m below meth c A ls C hml hl hA hr hlocks htb hZ hW
  have hl : lv_has ls 4 [(0, .ref x0), (1, .int x), (2, .ref u0)] := hl
  have hx := C.1
  have hb := C.2.1
  refine lv_aload_n hx hb dL_longestPath_0 rfl (lv_at hl 2 rfl) ?_
  refine lv_iconst (v := nI 0) hx hb dL_longestPath_1 (by decide) ?_
  refine lv_aload_n hx hb dL_longestPath_2 rfl (lv_at hl 0 rfl) ?_
  refine lv_iload_n hx hb dL_longestPath_3 rfl (lv_at hl 1 rfl) ?_
  refine cx_calli (Wr := [(u0, .inl (aT 2, 1, .inr (.inl o)))]) (cx_runV C hml hl.1 hZ hW hA (As := [.int x]) (rest := [.int (nI 0), .ref u0]) (k_X9_longestPath l hfl D aT x0 v0 t0 p0 o0 sv le lf h0 t1 t2 t3 t4 t5 t6 r1 r2 r3 r4 r5 r6 a0 a1 a2 a3 a4 a5 a6 a7 a8 a9 a10 bb nh nm M Bd hBd hC hB x) gV_L_X9_longestPath_94 hV_X9_longestPath rfl ⟨Nat.le_of_ble_eq_true rfl, Nat.le_of_ble_eq_true rfl⟩ ⟨Nat.le_of_ble_eq_true rfl, Nat.le_of_ble_eq_true rfl⟩ [1, 2, 3, 4, 5, 6, 7, 8, 9, 10, 11, 12, 13, 14, 15, 16, 17, 18, 19] rfl (by decide) 1 12 rfl rfl rfl rfl (Nat.le_of_ble_eq_true rfl) dL_longestPath_4) hW hA [1, 2, 3, 4, 5, 6, 7, 8, 9, 10, 11, 12, 13, 14, 15, 16, 17, 18, 19] [0] rfl rfl (by decide) (by decide) ?_ (fun r_4 W_4 H locs hq hW => ?_)
  rotate_left
  obtain hq := hq
  have hW : CxB D (([(u0, .inl (aT 2, 1, .inr (.inl o)))] : va_W) ++ W_4) A s.heap H _ := hW
  refine lv_i2l (v := (r_4).toInt64) hx hb dL_longestPath_7 rfl ?_
  refine cx_last C hW 0 2 (j := 0) (W1 := (([(u0, .inl (aT 2, 1, .inr (.inl (vp_updL o 0 ((r_4).toInt64)))))] : va_W) ++ W_4)) rfl rfl rfl (by omega) (by decide) rfl dL_longestPath_8 (fun H locs hW => ?_)
  refine lv_goto (tgt := 15) hx hb dL_longestPath_9 (by decide) ?_
  refine lv_iconst (v := nI 0) hx hb dL_longestPath_15 (by decide) ?_
  exact cx_tret C hr hlocks rfl hW ⟨Nat.le_of_ble_eq_true rfl, Nat.le_of_ble_eq_true rfl⟩ (⟨W_4, _, Or.inl ⟨r_4, rfl, rfl, hq⟩, rfl⟩) dL_longestPath_16
  · intro E ce q9 W9 H locs hE hW h7 h8 h9
    have hE2 := hE
    rcases (show E = "java/util/NoSuchElementException" from by
      clear hW
      revert hE
      grind) with rfl
    · have hW : CxB D (([(u0, .inl (aT 2, 1, .inr (.inl o)))] : va_W) ++ W9) A s.heap H _ := hW
      refine cx_catchT C hZ (nm := "java/util/NoSuchElementException") [] ⟨0, 9, 12, 24⟩ (tableOf []) htb (fun z hz => by cases hz) (by decide) (by decide) gw_690 nw_705 h7 h8 h9 ?_
      refine lv_astore_n (lv' := [(3, .ref q9), (0, .ref x0), (1, .int x), (2, .ref u0)]) hx hb dL_longestPath_12 rfl hl (by decide) rfl (fun ls hl => ?_)
      refine lv_iconst (v := nI 1) hx hb dL_longestPath_13 (by decide) ?_
      exact cx_tret C hr hlocks rfl hW ⟨Nat.le_of_ble_eq_true rfl, Nat.le_of_ble_eq_true rfl⟩ (⟨W9, _, Or.inr ⟨_, hE2, ⟨rfl, rfl⟩⟩, rfl⟩) dL_longestPath_14
theorem dL_longestPathBySweeps_0 : decode cL_longestPathBySweeps 0 = .ok (.aload_n 2, 1) := by decide +kernel
theorem dL_longestPathBySweeps_1 : decode cL_longestPathBySweeps 1 = .ok (.iconst 0, 1) := by decide +kernel
theorem dL_longestPathBySweeps_2 : decode cL_longestPathBySweeps 2 = .ok (.aload_n 0, 1) := by decide +kernel
theorem dL_longestPathBySweeps_3 : decode cL_longestPathBySweeps 3 = .ok (.iload_n 1, 1) := by decide +kernel
theorem dL_longestPathBySweeps_4 : decode cL_longestPathBySweeps 4 = .ok (.invokevirtual 97, 3) := by decide +kernel
theorem dL_longestPathBySweeps_7 : decode cL_longestPathBySweeps 7 = .ok (.i2l, 1) := by decide +kernel
theorem dL_longestPathBySweeps_8 : decode cL_longestPathBySweeps 8 = .ok (.lastore, 1) := by decide +kernel
theorem dL_longestPathBySweeps_9 : decode cL_longestPathBySweeps 9 = .ok (.goto 6, 3) := by decide +kernel
theorem dL_longestPathBySweeps_12 : decode cL_longestPathBySweeps 12 = .ok (.astore_n 3, 1) := by decide +kernel
theorem dL_longestPathBySweeps_13 : decode cL_longestPathBySweeps 13 = .ok (.iconst 1, 1) := by decide +kernel
theorem dL_longestPathBySweeps_14 : decode cL_longestPathBySweeps 14 = .ok (.ireturn, 1) := by decide +kernel
theorem dL_longestPathBySweeps_15 : decode cL_longestPathBySweeps 15 = .ok (.iconst 0, 1) := by decide +kernel
theorem dL_longestPathBySweeps_16 : decode cL_longestPathBySweeps 16 = .ok (.ireturn, 1) := by decide +kernel
theorem gV_L_X9_longestPathBySweeps_97 : GoodIn gw (wsV RL 97 RX9 yX9_longestPathBySweeps (Cond.code yX9_longestPathBySweeps cX9_longestPathBySweeps 2 (some .int) :: gw)) := gdV gw_1039 gw_1040 gw_1041 gw_67 gw_1042
theorem hV_X9_longestPathBySweeps : yX9_longestPathBySweeps.cls = RX9 ∧ yX9_longestPathBySweeps.cls ≠ "java/lang/invoke/MethodHandle" ∧ yX9_longestPathBySweeps.cls ≠ "java/lang/invoke/VarHandle" ∧ (parseMethodDescriptor yX9_longestPathBySweeps.desc).map (fun d => d.parameters.length) = some 1 := ⟨rfl, by decide +kernel, by decide +kernel, by decide +kernel⟩
set_option maxHeartbeats 2000000 in
set_option maxRecDepth 20000 in
theorem k_L_longestPathBySweeps (l : Launch) (hfl : l.stackTraces = false) (D : va_G) (aT : Nat → ClassId) (u0 : Nat) (o : Nat → Int64) (x0 : Nat) (v0 : Nat) (t0 : Nat) (p0 : Nat) (o0 : Nat) (sv : Bool) (le : Int32) (lf : Int32) (h0 : Nat) (t1 : Nat) (t2 : Nat) (t3 : Nat) (t4 : Nat) (t5 : Nat) (t6 : Nat) (r1 : Nat → Int32) (r2 : Nat → Int32) (r3 : Nat → Int32) (r4 : Nat → Int32) (r5 : Nat → Int64) (r6 : Nat → Int64) (a0 : Nat) (a1 : Nat) (a2 : Nat) (a3 : Nat) (a4 : Nat) (a5 : Nat) (a6 : Nat) (a7 : Nat) (a8 : Nat) (a9 : Nat) (a10 : Nat) (bb : Nat → Nat → Int32) (nh : Nat) (nm : Nat) (M : Nat → Int32) (Bd : Nat) (hBd : Bd < 1048000) (hC : CoW M Bd) (hB : BlC bb nh nm M) (x : Int32) : CxT l yL_longestPathBySweeps cL_longestPathBySweeps 4 (some (.int)) [(0, 9, 12, 24)] 8 1 6 133 D aT [.ref x0, .int x, .ref u0] [(u0, .inl (aT 2, 1, .inr (.inl o))), (x0, .inr (12, [.ref a0, .ref v0, .ref h0, .ref t0, .ref p0, .ref o0, .int (bI sv), .int le, .int lf])), (t0, .inr (11, [.ref t1, .ref t2, .ref t3, .ref t4, .ref t5, .ref t6])), (t1, .inl (aT 0, 12, .inl r1)), (t2, .inl (aT 0, 12, .inl r2)), (t3, .inl (aT 0, 12, .inl r3)), (t4, .inl (aT 0, 12, .inl r4)), (t5, .inl (aT 2, 12, .inr (.inl r5))), (t6, .inl (aT 2, 12, .inr (.inl r6))), (a0, .inr (10, [.ref a1, .ref a5, .ref a10, .int (bb 8 1), .int (bb 8 2), .int (bb 8 3), .int (bb 8 4), .int (bb 8 5), .int (bb 8 6), .int (bb 8 7), .int (bb 8 8)])), (a1, .inr (6, [.ref a2, .ref a3, .ref a4, .int (nI nh)])), (a2, .inl (aT 0, 6, .inl (bb 0))), (a3, .inl (aT 0, 6, .inl (bb 1))), (a4, .inl (aT 0, 6, .inl (bb 2))), (a5, .inr (8, [.ref a6, .ref a7, .ref a8, .ref a9, .int (nI nm), .int (bb 8 0)])), (a6, .inl (aT 0, 12, .inl (bb 3))), (a7, .inl (aT 0, 12, .inl (bb 4))), (a8, .inl (aT 0, 12, .inl (bb 5))), (a9, .inl (aT 0, 12, .inl (bb 6))), (a10, .inl (aT 0, 4, .inl (bb 7)))] (qI D aT (fun r W1 => ∃ (W2 : va_W) (o2 : Nat → Int64), ((∃ r0 : Int32, r = nI 0 ∧ o2 0 = r0.toInt64 ∧ (fun r W1 => (∃ q, fnd (fun k => M (29 + 4 * k)) x nm = some q ∧ r = nI (lpO (prM M) nm q nm + 1)) ∧ ∃ (g1 g2 g3 g4 : Nat → Int32) (g5 g6 : Nat → Int64), W1 = ([(x0, .inr (12, [.ref a0, .ref v0, .ref h0, .ref t0, .ref p0, .ref o0, .int (bI sv), .int le, .int lf])), (t0, .inr (11, [.ref t1, .ref t2, .ref t3, .ref t4, .ref t5, .ref t6])), (t1, .inl (aT 0, 12, .inl g1)), (t2, .inl (aT 0, 12, .inl g2)), (t3, .inl (aT 0, 12, .inl g3)), (t4, .inl (aT 0, 12, .inl g4)), (t5, .inl (aT 2, 12, .inr (.inl g5))), (t6, .inl (aT 2, 12, .inr (.inl g6))), (a0, .inr (10, [.ref a1, .ref a5, .ref a10, .int (bb 8 1), .int (bb 8 2), .int (bb 8 3), .int (bb 8 4), .int (bb 8 5), .int (bb 8 6), .int (bb 8 7), .int (bb 8 8)])), (a1, .inr (6, [.ref a2, .ref a3, .ref a4, .int (nI nh)])), (a2, .inl (aT 0, 6, .inl (bb 0))), (a3, .inl (aT 0, 6, .inl (bb 1))), (a4, .inl (aT 0, 6, .inl (bb 2))), (a5, .inr (8, [.ref a6, .ref a7, .ref a8, .ref a9, .int (nI nm), .int (bb 8 0)])), (a6, .inl (aT 0, 12, .inl (bb 3))), (a7, .inl (aT 0, 12, .inl (bb 4))), (a8, .inl (aT 0, 12, .inl (bb 5))), (a9, .inl (aT 0, 12, .inl (bb 6))), (a10, .inl (aT 0, 4, .inl (bb 7)))] : va_W)) r0 W2) ∨ (∃ E9 : String, (fun E W1 => (E = "java/util/NoSuchElementException" ∧ fnd (fun k => M (29 + 4 * k)) x nm = none) ∧ W1 = ([(x0, .inr (12, [.ref a0, .ref v0, .ref h0, .ref t0, .ref p0, .ref o0, .int (bI sv), .int le, .int lf])), (t0, .inr (11, [.ref t1, .ref t2, .ref t3, .ref t4, .ref t5, .ref t6])), (t1, .inl (aT 0, 12, .inl r1)), (t2, .inl (aT 0, 12, .inl r2)), (t3, .inl (aT 0, 12, .inl r3)), (t4, .inl (aT 0, 12, .inl r4)), (t5, .inl (aT 2, 12, .inr (.inl r5))), (t6, .inl (aT 2, 12, .inr (.inl r6))), (a0, .inr (10, [.ref a1, .ref a5, .ref a10, .int (bb 8 1), .int (bb 8 2), .int (bb 8 3), .int (bb 8 4), .int (bb 8 5), .int (bb 8 6), .int (bb 8 7), .int (bb 8 8)])), (a1, .inr (6, [.ref a2, .ref a3, .ref a4, .int (nI nh)])), (a2, .inl (aT 0, 6, .inl (bb 0))), (a3, .inl (aT 0, 6, .inl (bb 1))), (a4, .inl (aT 0, 6, .inl (bb 2))), (a5, .inr (8, [.ref a6, .ref a7, .ref a8, .ref a9, .int (nI nm), .int (bb 8 0)])), (a6, .inl (aT 0, 12, .inl (bb 3))), (a7, .inl (aT 0, 12, .inl (bb 4))), (a8, .inl (aT 0, 12, .inl (bb 5))), (a9, .inl (aT 0, 12, .inl (bb 6))), (a10, .inl (aT 0, 4, .inl (bb 7)))] : va_W)) E9 W2 ∧ ((E9 = "java/util/NoSuchElementException" ∧ r = nI 1)))) ∧ W1 = (([(u0, .inl (aT 2, 1, .inr (.inl o2)))] : va_W) ++ W2))) := by
  refine CxT.of RL (by decide +kernel) rfl (Nat.le_of_ble_eq_true rfl) ?_
  intro p e s m below meth c A ls C hml hl hA hr hlocks htb hZ hW
  have hl : lv_has ls 4 [(0, .ref x0), (1, .int x), (2, .ref u0)] := hl
  have hx := C.1
  have hb := C.2.1
  refine lv_aload_n hx hb dL_longestPathBySweeps_0 rfl (lv_at hl 2 rfl) ?_
  refine lv_iconst (v := nI 0) hx hb dL_longestPathBySweeps_1 (by decide) ?_
  refine lv_aload_n hx hb dL_longestPathBySweeps_2 rfl (lv_at hl 0 rfl) ?_
  refine lv_iload_n hx hb dL_longestPathBySweeps_3 rfl (lv_at hl 1 rfl) ?_
  refine cx_calli (Wr := [(u0, .inl (aT 2, 1, .inr (.inl o)))]) (cx_runV C hml hl.1 hZ hW hA (As := [.int x]) (rest := [.int (nI 0), .ref u0]) (k_X9_longestPathBySweeps l hfl D aT x0 v0 t0 p0 o0 sv le lf h0 t1 t2 t3 t4 t5 t6 r1 r2 r3 r4 r5 r6 a0 a1 a2 a3 a4 a5 a6 a7 a8 a9 a10 bb nh nm M Bd hBd hC hB x) gV_L_X9_longestPathBySweeps_97 hV_X9_longestPathBySweeps rfl ⟨Nat.le_of_ble_eq_true rfl, Nat.le_of_ble_eq_true rfl⟩ ⟨Nat.le_of_ble_eq_true rfl, Nat.le_of_ble_eq_true rfl⟩ [1, 2, 3, 4, 5, 6, 7, 8, 9, 10, 11, 12, 13, 14, 15, 16, 17, 18, 19] rfl (by decide) 1 12 rfl rfl rfl rfl (Nat.le_of_ble_eq_true rfl) dL_longestPathBySweeps_4) hW hA [1, 2, 3, 4, 5, 6, 7, 8, 9, 10, 11, 12, 13, 14, 15, 16, 17, 18, 19] [0] rfl rfl (by decide) (by decide) ?_ (fun r_4 W_4 H locs hq hW => ?_)
  rotate_left
  obtain hq := hq
  have hW : CxB D (([(u0, .inl (aT 2, 1, .inr (.inl o)))] : va_W) ++ W_4) A s.heap H _ := hW
  refine lv_i2l (v := (r_4).toInt64) hx hb dL_longestPathBySweeps_7 rfl ?_
  refine cx_last C hW 0 2 (j := 0) (W1 := (([(u0, .inl (aT 2, 1, .inr (.inl (vp_updL o 0 ((r_4).toInt64)))))] : va_W) ++ W_4)) rfl rfl rfl (by omega) (by decide) rfl dL_longestPathBySweeps_8 (fun H locs hW => ?_)
  refine lv_goto (tgt := 15) hx hb dL_longestPathBySweeps_9 (by decide) ?_
  refine lv_iconst (v := nI 0) hx hb dL_longestPathBySweeps_15 (by decide) ?_
  exact cx_tret C hr hlocks rfl hW ⟨Nat.le_of_ble_eq_true rfl, Nat.le_of_ble_eq_true rfl⟩ (⟨W_4, _, Or.inl ⟨r_4, rfl, rfl, hq⟩, rfl⟩) dL_longestPathBySweeps_16
  · intro E ce q9 W9 H locs hE hW h7 h8 h9
    have hE2 := hE
    rcases (show E = "java/util/NoSuchElementException" from by
      clear hW
      revert hE
      grind) with rfl
    · have hW : CxB D (([(u0, .inl (aT 2, 1, .inr (.inl o)))] : va_W) ++ W9) A s.heap H _ := hW
      refine cx_catchT C hZ (nm := "java/util/NoSuchElementException") [] ⟨0, 9, 12, 24⟩ (tableOf []) htb (fun z hz => by cases hz) (by decide) (by decide) gw_690 nw_705 h7 h8 h9 ?_
      refine lv_astore_n (lv' := [(3, .ref q9), (0, .ref x0), (1, .int x), (2, .ref u0)]) hx hb dL_longestPathBySweeps_12 rfl hl (by decide) rfl (fun ls hl => ?_)
      refine lv_iconst (v := nI 1) hx hb dL_longestPathBySweeps_13 (by decide) ?_
      exact cx_tret C hr hlocks rfl hW ⟨Nat.le_of_ble_eq_true rfl, Nat.le_of_ble_eq_true rfl⟩ (⟨W9, _, Or.inr ⟨_, hE2, ⟨rfl, rfl⟩⟩, rfl⟩) dL_longestPathBySweeps_14
theorem dL_minutesIn_0 : decode cL_minutesIn 0 = .ok (.aload_n 2, 1) := by decide +kernel
theorem dL_minutesIn_1 : decode cL_minutesIn 1 = .ok (.iconst 0, 1) := by decide +kernel
theorem dL_minutesIn_2 : decode cL_minutesIn 2 = .ok (.aload_n 0, 1) := by decide +kernel
theorem dL_minutesIn_3 : decode cL_minutesIn 3 = .ok (.iload_n 1, 1) := by decide +kernel
theorem dL_minutesIn_4 : decode cL_minutesIn 4 = .ok (.invokevirtual 100, 3) := by decide +kernel
theorem dL_minutesIn_7 : decode cL_minutesIn 7 = .ok (.i2l, 1) := by decide +kernel
theorem dL_minutesIn_8 : decode cL_minutesIn 8 = .ok (.lastore, 1) := by decide +kernel
theorem dL_minutesIn_9 : decode cL_minutesIn 9 = .ok (.goto 6, 3) := by decide +kernel
theorem dL_minutesIn_12 : decode cL_minutesIn 12 = .ok (.astore_n 3, 1) := by decide +kernel
theorem dL_minutesIn_13 : decode cL_minutesIn 13 = .ok (.iconst 1, 1) := by decide +kernel
theorem dL_minutesIn_14 : decode cL_minutesIn 14 = .ok (.ireturn, 1) := by decide +kernel
theorem dL_minutesIn_15 : decode cL_minutesIn 15 = .ok (.iconst 0, 1) := by decide +kernel
theorem dL_minutesIn_16 : decode cL_minutesIn 16 = .ok (.ireturn, 1) := by decide +kernel
theorem gV_L_X9_minutesIn_100 : GoodIn gw (wsV RL 100 RX9 yX9_minutesIn (Cond.code yX9_minutesIn cX9_minutesIn 2 (some .int) :: gw)) := gdV gw_1047 gw_1048 gw_1049 gw_67 gw_1050
theorem hV_X9_minutesIn : yX9_minutesIn.cls = RX9 ∧ yX9_minutesIn.cls ≠ "java/lang/invoke/MethodHandle" ∧ yX9_minutesIn.cls ≠ "java/lang/invoke/VarHandle" ∧ (parseMethodDescriptor yX9_minutesIn.desc).map (fun d => d.parameters.length) = some 1 := ⟨rfl, by decide +kernel, by decide +kernel, by decide +kernel⟩
set_option maxHeartbeats 2000000 in
set_option maxRecDepth 20000 in
theorem k_L_minutesIn (l : Launch) (hfl : l.stackTraces = false) (D : va_G) (aT : Nat → ClassId) (u0 : Nat) (o : Nat → Int64) (x0 : Nat) (v0 : Nat) (t0 : Nat) (p0 : Nat) (o0 : Nat) (sv : Bool) (le : Int32) (lf : Int32) (h0 : Nat) (a0 : Nat) (a1 : Nat) (a2 : Nat) (a3 : Nat) (a4 : Nat) (a5 : Nat) (a6 : Nat) (a7 : Nat) (a8 : Nat) (a9 : Nat) (a10 : Nat) (bb : Nat → Nat → Int32) (nh : Nat) (nm : Nat) (M : Nat → Int32) (Bd : Nat) (hBd : Bd < 1048000) (hC : CoW M Bd) (hB : BlC bb nh nm M) (x : Int32) : CxT l yL_minutesIn cL_minutesIn 4 (some (.int)) [(0, 9, 12, 13)] 7 1 6 111 D aT [.ref x0, .int x, .ref u0] [(u0, .inl (aT 2, 1, .inr (.inl o))), (x0, .inr (12, [.ref a0, .ref v0, .ref h0, .ref t0, .ref p0, .ref o0, .int (bI sv), .int le, .int lf])), (a0, .inr (10, [.ref a1, .ref a5, .ref a10, .int (bb 8 1), .int (bb 8 2), .int (bb 8 3), .int (bb 8 4), .int (bb 8 5), .int (bb 8 6), .int (bb 8 7), .int (bb 8 8)])), (a1, .inr (6, [.ref a2, .ref a3, .ref a4, .int (nI nh)])), (a2, .inl (aT 0, 6, .inl (bb 0))), (a3, .inl (aT 0, 6, .inl (bb 1))), (a4, .inl (aT 0, 6, .inl (bb 2))), (a5, .inr (8, [.ref a6, .ref a7, .ref a8, .ref a9, .int (nI nm), .int (bb 8 0)])), (a6, .inl (aT 0, 12, .inl (bb 3))), (a7, .inl (aT 0, 12, .inl (bb 4))), (a8, .inl (aT 0, 12, .inl (bb 5))), (a9, .inl (aT 0, 12, .inl (bb 6))), (a10, .inl (aT 0, 4, .inl (bb 7)))] (qI D aT (fun r W1 => ∃ (W2 : va_W) (o2 : Nat → Int64), ((∃ r0 : Int32, r = nI 0 ∧ o2 0 = r0.toInt64 ∧ (fun r W1 => (∃ v, v ≤ 3 ∧ x = nI v ∧ r = M (4 + v)) ∧ W1 = ([(x0, .inr (12, [.ref a0, .ref v0, .ref h0, .ref t0, .ref p0, .ref o0, .int (bI sv), .int le, .int lf])), (a0, .inr (10, [.ref a1, .ref a5, .ref a10, .int (bb 8 1), .int (bb 8 2), .int (bb 8 3), .int (bb 8 4), .int (bb 8 5), .int (bb 8 6), .int (bb 8 7), .int (bb 8 8)])), (a1, .inr (6, [.ref a2, .ref a3, .ref a4, .int (nI nh)])), (a2, .inl (aT 0, 6, .inl (bb 0))), (a3, .inl (aT 0, 6, .inl (bb 1))), (a4, .inl (aT 0, 6, .inl (bb 2))), (a5, .inr (8, [.ref a6, .ref a7, .ref a8, .ref a9, .int (nI nm), .int (bb 8 0)])), (a6, .inl (aT 0, 12, .inl (bb 3))), (a7, .inl (aT 0, 12, .inl (bb 4))), (a8, .inl (aT 0, 12, .inl (bb 5))), (a9, .inl (aT 0, 12, .inl (bb 6))), (a10, .inl (aT 0, 4, .inl (bb 7)))] : va_W)) r0 W2) ∨ (∃ E9 : String, (fun E W1 => (E = "java/lang/IllegalArgumentException" ∧ isHB 4 x = false) ∧ W1 = ([(x0, .inr (12, [.ref a0, .ref v0, .ref h0, .ref t0, .ref p0, .ref o0, .int (bI sv), .int le, .int lf])), (a0, .inr (10, [.ref a1, .ref a5, .ref a10, .int (bb 8 1), .int (bb 8 2), .int (bb 8 3), .int (bb 8 4), .int (bb 8 5), .int (bb 8 6), .int (bb 8 7), .int (bb 8 8)])), (a1, .inr (6, [.ref a2, .ref a3, .ref a4, .int (nI nh)])), (a2, .inl (aT 0, 6, .inl (bb 0))), (a3, .inl (aT 0, 6, .inl (bb 1))), (a4, .inl (aT 0, 6, .inl (bb 2))), (a5, .inr (8, [.ref a6, .ref a7, .ref a8, .ref a9, .int (nI nm), .int (bb 8 0)])), (a6, .inl (aT 0, 12, .inl (bb 3))), (a7, .inl (aT 0, 12, .inl (bb 4))), (a8, .inl (aT 0, 12, .inl (bb 5))), (a9, .inl (aT 0, 12, .inl (bb 6))), (a10, .inl (aT 0, 4, .inl (bb 7)))] : va_W)) E9 W2 ∧ ((E9 = "java/lang/IllegalArgumentException" ∧ r = nI 1)))) ∧ W1 = (([(u0, .inl (aT 2, 1, .inr (.inl o2)))] : va_W) ++ W2))) := by
  refine CxT.of RL (by decide +kernel) rfl (Nat.le_of_ble_eq_true rfl) ?_
  intro p e s m below meth c A ls C hml hl hA hr hlocks htb hZ hW
  have hl : lv_has ls 4 [(0, .ref x0), (1, .int x), (2, .ref u0)] := hl
  have hx := C.1
  have hb := C.2.1
  refine lv_aload_n hx hb dL_minutesIn_0 rfl (lv_at hl 2 rfl) ?_
  refine lv_iconst (v := nI 0) hx hb dL_minutesIn_1 (by decide) ?_
  refine lv_aload_n hx hb dL_minutesIn_2 rfl (lv_at hl 0 rfl) ?_
  refine lv_iload_n hx hb dL_minutesIn_3 rfl (lv_at hl 1 rfl) ?_
  refine cx_calli (Wr := [(u0, .inl (aT 2, 1, .inr (.inl o)))]) (cx_runV C hml hl.1 hZ hW hA (As := [.int x]) (rest := [.int (nI 0), .ref u0]) (k_X9_minutesIn l hfl D aT x0 v0 t0 p0 o0 sv le lf h0 a0 a1 a2 a3 a4 a5 a6 a7 a8 a9 a10 bb nh nm M Bd hBd hC hB x) gV_L_X9_minutesIn_100 hV_X9_minutesIn rfl ⟨Nat.le_of_ble_eq_true rfl, Nat.le_of_ble_eq_true rfl⟩ ⟨Nat.le_of_ble_eq_true rfl, Nat.le_of_ble_eq_true rfl⟩ [1, 2, 3, 4, 5, 6, 7, 8, 9, 10, 11, 12] rfl (by decide) 1 12 rfl rfl rfl rfl (Nat.le_of_ble_eq_true rfl) dL_minutesIn_4) hW hA [1, 2, 3, 4, 5, 6, 7, 8, 9, 10, 11, 12] [0] rfl rfl (by decide) (by decide) ?_ (fun r_4 W_4 H locs hq hW => ?_)
  rotate_left
  obtain hq := hq
  have hW : CxB D (([(u0, .inl (aT 2, 1, .inr (.inl o)))] : va_W) ++ W_4) A s.heap H _ := hW
  refine lv_i2l (v := (r_4).toInt64) hx hb dL_minutesIn_7 rfl ?_
  refine cx_last C hW 0 2 (j := 0) (W1 := (([(u0, .inl (aT 2, 1, .inr (.inl (vp_updL o 0 ((r_4).toInt64)))))] : va_W) ++ W_4)) rfl rfl rfl (by omega) (by decide) rfl dL_minutesIn_8 (fun H locs hW => ?_)
  refine lv_goto (tgt := 15) hx hb dL_minutesIn_9 (by decide) ?_
  refine lv_iconst (v := nI 0) hx hb dL_minutesIn_15 (by decide) ?_
  exact cx_tret C hr hlocks rfl hW ⟨Nat.le_of_ble_eq_true rfl, Nat.le_of_ble_eq_true rfl⟩ (⟨W_4, _, Or.inl ⟨r_4, rfl, rfl, hq⟩, rfl⟩) dL_minutesIn_16
  · intro E ce q9 W9 H locs hE hW h7 h8 h9
    have hE2 := hE
    rcases (show E = "java/lang/IllegalArgumentException" from by
      clear hW
      revert hE
      grind) with rfl
    · have hW : CxB D (([(u0, .inl (aT 2, 1, .inr (.inl o)))] : va_W) ++ W9) A s.heap H _ := hW
      refine cx_catchT C hZ (nm := "java/lang/IllegalArgumentException") [] ⟨0, 9, 12, 13⟩ (tableOf []) htb (fun z hz => by cases hz) (by decide) (by decide) gw_546 nw_561 h7 h8 h9 ?_
      refine lv_astore_n (lv' := [(3, .ref q9), (0, .ref x0), (1, .int x), (2, .ref u0)]) hx hb dL_minutesIn_12 rfl hl (by decide) rfl (fun ls hl => ?_)
      refine lv_iconst (v := nI 1) hx hb dL_minutesIn_13 (by decide) ?_
      exact cx_tret C hr hlocks rfl hW ⟨Nat.le_of_ble_eq_true rfl, Nat.le_of_ble_eq_true rfl⟩ (⟨W9, _, Or.inr ⟨_, hE2, ⟨rfl, rfl⟩⟩, rfl⟩) dL_minutesIn_14
theorem dL_undo_0 : decode cL_undo 0 = .ok (.aload_n 1, 1) := by decide +kernel
theorem dL_undo_1 : decode cL_undo 1 = .ok (.iconst 0, 1) := by decide +kernel
theorem dL_undo_2 : decode cL_undo 2 = .ok (.aload_n 0, 1) := by decide +kernel
theorem dL_undo_3 : decode cL_undo 3 = .ok (.invokevirtual 133, 3) := by decide +kernel
theorem dL_undo_6 : decode cL_undo 6 = .ok (.i2l, 1) := by decide +kernel
theorem dL_undo_7 : decode cL_undo 7 = .ok (.lastore, 1) := by decide +kernel
theorem dL_undo_8 : decode cL_undo 8 = .ok (.goto 6, 3) := by decide +kernel
theorem dL_undo_11 : decode cL_undo 11 = .ok (.astore_n 2, 1) := by decide +kernel
theorem dL_undo_12 : decode cL_undo 12 = .ok (.iconst 1, 1) := by decide +kernel
theorem dL_undo_13 : decode cL_undo 13 = .ok (.ireturn, 1) := by decide +kernel
theorem dL_undo_14 : decode cL_undo 14 = .ok (.iconst 0, 1) := by decide +kernel
theorem dL_undo_15 : decode cL_undo 15 = .ok (.ireturn, 1) := by decide +kernel
theorem gV_L_X9_undo_133 : GoodIn gw (wsV RL 133 RX9 yX9_undo (Cond.code yX9_undo cX9_undo 1 (some .int) :: gw)) := gdV gw_1600 gw_1601 gw_1602 gw_67 gw_1603
theorem hV_X9_undo : yX9_undo.cls = RX9 ∧ yX9_undo.cls ≠ "java/lang/invoke/MethodHandle" ∧ yX9_undo.cls ≠ "java/lang/invoke/VarHandle" ∧ (parseMethodDescriptor yX9_undo.desc).map (fun d => d.parameters.length) = some 0 := ⟨rfl, by decide +kernel, by decide +kernel, by decide +kernel⟩
set_option maxHeartbeats 2000000 in
set_option maxRecDepth 20000 in
theorem k_L_undo (l : Launch) (hfl : l.stackTraces = false) (D : va_G) (aT : Nat → ClassId) (u0 : Nat) (o : Nat → Int64) (x0 : Nat) (v0 : Nat) (t0 : Nat) (p0 : Nat) (o0 : Nat) (sv : Bool) (le : Int32) (lf : Int32) (a0 : Nat) (a1 : Nat) (a2 : Nat) (a3 : Nat) (a4 : Nat) (a5 : Nat) (a6 : Nat) (a7 : Nat) (a8 : Nat) (a9 : Nat) (a10 : Nat) (bb : Nat → Nat → Int32) (nh : Nat) (nm : Nat) (h0 : Nat) (h1 : Nat) (AD : Nat → Nat → Nat) (BB : Nat → Nat → Nat → Int32) (NH : Nat → Nat) (NM : Nat → Nat) (hc : Nat) (h8 : hc ≤ 8) : CxT l yL_undo cL_undo 3 (some (.int)) [(0, 8, 11, 15)] 7 1 6 143 D aT [.ref x0, .ref u0] [(u0, .inl (aT 2, 1, .inr (.inl o))), (x0, .inr (12, [.ref a0, .ref v0, .ref h0, .ref t0, .ref p0, .ref o0, .int (bI sv), .int le, .int lf])), (a0, .inr (10, [.ref a1, .ref a5, .ref a10, .int (bb 8 1), .int (bb 8 2), .int (bb 8 3), .int (bb 8 4), .int (bb 8 5), .int (bb 8 6), .int (bb 8 7), .int (bb 8 8)])), (a1, .inr (6, [.ref a2, .ref a3, .ref a4, .int (nI nh)])), (a2, .inl (aT 0, 6, .inl (bb 0))), (a3, .inl (aT 0, 6, .inl (bb 1))), (a4, .inl (aT 0, 6, .inl (bb 2))), (a5, .inr (8, [.ref a6, .ref a7, .ref a8, .ref a9, .int (nI nm), .int (bb 8 0)])), (a6, .inl (aT 0, 12, .inl (bb 3))), (a7, .inl (aT 0, 12, .inl (bb 4))), (a8, .inl (aT 0, 12, .inl (bb 5))), (a9, .inl (aT 0, 12, .inl (bb 6))), (a10, .inl (aT 0, 4, .inl (bb 7))), (h0, .inr (7, [.ref h1, .int (nI hc)])), (h1, .inl (aT 5, 9, .inr (.inr (.inr (.inr (fun j => some (AD j 0))))))), (hk0 (AD 0) (BB 0)), (hk1 (AD 0) (NH 0)), (hk2 aT (AD 0) (BB 0)), (hk3 aT (AD 0) (BB 0)), (hk4 aT (AD 0) (BB 0)), (hk5 (AD 0) (BB 0) (NM 0)), (hk6 aT (AD 0) (BB 0)), (hk7 aT (AD 0) (BB 0)), (hk8 aT (AD 0) (BB 0)), (hk9 aT (AD 0) (BB 0)), (hk10 aT (AD 0) (BB 0)), (hk0 (AD 1) (BB 1)), (hk1 (AD 1) (NH 1)), (hk2 aT (AD 1) (BB 1)), (hk3 aT (AD 1) (BB 1)), (hk4 aT (AD 1) (BB 1)), (hk5 (AD 1) (BB 1) (NM 1)), (hk6 aT (AD 1) (BB 1)), (hk7 aT (AD 1) (BB 1)), (hk8 aT (AD 1) (BB 1)), (hk9 aT (AD 1) (BB 1)), (hk10 aT (AD 1) (BB 1)), (hk0 (AD 2) (BB 2)), (hk1 (AD 2) (NH 2)), (hk2 aT (AD 2) (BB 2)), (hk3 aT (AD 2) (BB 2)), (hk4 aT (AD 2) (BB 2)), (hk5 (AD 2) (BB 2) (NM 2)), (hk6 aT (AD 2) (BB 2)), (hk7 aT (AD 2) (BB 2)), (hk8 aT (AD 2) (BB 2)), (hk9 aT (AD 2) (BB 2)), (hk10 aT (AD 2) (BB 2)), (hk0 (AD 3) (BB 3)), (hk1 (AD 3) (NH 3)), (hk2 aT (AD 3) (BB 3)), (hk3 aT (AD 3) (BB 3)), (hk4 aT (AD 3) (BB 3)), (hk5 (AD 3) (BB 3) (NM 3)), (hk6 aT (AD 3) (BB 3)), (hk7 aT (AD 3) (BB 3)), (hk8 aT (AD 3) (BB 3)), (hk9 aT (AD 3) (BB 3)), (hk10 aT (AD 3) (BB 3)), (hk0 (AD 4) (BB 4)), (hk1 (AD 4) (NH 4)), (hk2 aT (AD 4) (BB 4)), (hk3 aT (AD 4) (BB 4)), (hk4 aT (AD 4) (BB 4)), (hk5 (AD 4) (BB 4) (NM 4)), (hk6 aT (AD 4) (BB 4)), (hk7 aT (AD 4) (BB 4)), (hk8 aT (AD 4) (BB 4)), (hk9 aT (AD 4) (BB 4)), (hk10 aT (AD 4) (BB 4)), (hk0 (AD 5) (BB 5)), (hk1 (AD 5) (NH 5)), (hk2 aT (AD 5) (BB 5)), (hk3 aT (AD 5) (BB 5)), (hk4 aT (AD 5) (BB 5)), (hk5 (AD 5) (BB 5) (NM 5)), (hk6 aT (AD 5) (BB 5)), (hk7 aT (AD 5) (BB 5)), (hk8 aT (AD 5) (BB 5)), (hk9 aT (AD 5) (BB 5)), (hk10 aT (AD 5) (BB 5)), (hk0 (AD 6) (BB 6)), (hk1 (AD 6) (NH 6)), (hk2 aT (AD 6) (BB 6)), (hk3 aT (AD 6) (BB 6)), (hk4 aT (AD 6) (BB 6)), (hk5 (AD 6) (BB 6) (NM 6)), (hk6 aT (AD 6) (BB 6)), (hk7 aT (AD 6) (BB 6)), (hk8 aT (AD 6) (BB 6)), (hk9 aT (AD 6) (BB 6)), (hk10 aT (AD 6) (BB 6)), (hk0 (AD 7) (BB 7)), (hk1 (AD 7) (NH 7)), (hk2 aT (AD 7) (BB 7)), (hk3 aT (AD 7) (BB 7)), (hk4 aT (AD 7) (BB 7)), (hk5 (AD 7) (BB 7) (NM 7)), (hk6 aT (AD 7) (BB 7)), (hk7 aT (AD 7) (BB 7)), (hk8 aT (AD 7) (BB 7)), (hk9 aT (AD 7) (BB 7)), (hk10 aT (AD 7) (BB 7)), (hk0 (AD 8) (BB 8)), (hk1 (AD 8) (NH 8)), (hk2 aT (AD 8) (BB 8)), (hk3 aT (AD 8) (BB 8)), (hk4 aT (AD 8) (BB 8)), (hk5 (AD 8) (BB 8) (NM 8)), (hk6 aT (AD 8) (BB 8)), (hk7 aT (AD 8) (BB 8)), (hk8 aT (AD 8) (BB 8)), (hk9 aT (AD 8) (BB 8)), (hk10 aT (AD 8) (BB 8))] (qI D aT (fun r W1 => ∃ (W2 : va_W) (o2 : Nat → Int64), ((∃ r0 : Int32, r = nI 0 ∧ o2 0 = r0.toInt64 ∧ (fun r W1 => (0 < hc ∧ r = nI (hc - 1)) ∧ ∃ b2 : Nat → Nat → Int32, (∀ M : Nat → Int32, NH (hc - 1) ≤ 6 → NM (hc - 1) ≤ 12 → BlC (BB (hc - 1)) (NH (hc - 1)) (NM (hc - 1)) M → BlC b2 (NH (hc - 1)) (NM (hc - 1)) M) ∧ W1 = ([(x0, .inr (12, [.ref a0, .ref v0, .ref h0, .ref t0, .ref p0, .ref o0, .int (bI sv), .int le, .int lf])), (a0, .inr (10, [.ref a1, .ref a5, .ref a10, .int (b2 8 1), .int (b2 8 2), .int (b2 8 3), .int (b2 8 4), .int (b2 8 5), .int (b2 8 6), .int (b2 8 7), .int (b2 8 8)])), (a1, .inr (6, [.ref a2, .ref a3, .ref a4, .int (nI (NH (hc - 1)))])), (a2, .inl (aT 0, 6, .inl (b2 0))), (a3, .inl (aT 0, 6, .inl (b2 1))), (a4, .inl (aT 0, 6, .inl (b2 2))), (a5, .inr (8, [.ref a6, .ref a7, .ref a8, .ref a9, .int (nI (NM (hc - 1))), .int (b2 8 0)])), (a6, .inl (aT 0, 12, .inl (b2 3))), (a7, .inl (aT 0, 12, .inl (b2 4))), (a8, .inl (aT 0, 12, .inl (b2 5))), (a9, .inl (aT 0, 12, .inl (b2 6))), (a10, .inl (aT 0, 4, .inl (b2 7))), (h0, .inr (7, [.ref h1, .int (nI (hc - 1))])), (h1, .inl (aT 5, 9, .inr (.inr (.inr (.inr (fun j => some (AD j 0))))))), (hk0 (AD 0) (BB 0)), (hk1 (AD 0) (NH 0)), (hk2 aT (AD 0) (BB 0)), (hk3 aT (AD 0) (BB 0)), (hk4 aT (AD 0) (BB 0)), (hk5 (AD 0) (BB 0) (NM 0)), (hk6 aT (AD 0) (BB 0)), (hk7 aT (AD 0) (BB 0)), (hk8 aT (AD 0) (BB 0)), (hk9 aT (AD 0) (BB 0)), (hk10 aT (AD 0) (BB 0)), (hk0 (AD 1) (BB 1)), (hk1 (AD 1) (NH 1)), (hk2 aT (AD 1) (BB 1)), (hk3 aT (AD 1) (BB 1)), (hk4 aT (AD 1) (BB 1)), (hk5 (AD 1) (BB 1) (NM 1)), (hk6 aT (AD 1) (BB 1)), (hk7 aT (AD 1) (BB 1)), (hk8 aT (AD 1) (BB 1)), (hk9 aT (AD 1) (BB 1)), (hk10 aT (AD 1) (BB 1)), (hk0 (AD 2) (BB 2)), (hk1 (AD 2) (NH 2)), (hk2 aT (AD 2) (BB 2)), (hk3 aT (AD 2) (BB 2)), (hk4 aT (AD 2) (BB 2)), (hk5 (AD 2) (BB 2) (NM 2)), (hk6 aT (AD 2) (BB 2)), (hk7 aT (AD 2) (BB 2)), (hk8 aT (AD 2) (BB 2)), (hk9 aT (AD 2) (BB 2)), (hk10 aT (AD 2) (BB 2)), (hk0 (AD 3) (BB 3)), (hk1 (AD 3) (NH 3)), (hk2 aT (AD 3) (BB 3)), (hk3 aT (AD 3) (BB 3)), (hk4 aT (AD 3) (BB 3)), (hk5 (AD 3) (BB 3) (NM 3)), (hk6 aT (AD 3) (BB 3)), (hk7 aT (AD 3) (BB 3)), (hk8 aT (AD 3) (BB 3)), (hk9 aT (AD 3) (BB 3)), (hk10 aT (AD 3) (BB 3)), (hk0 (AD 4) (BB 4)), (hk1 (AD 4) (NH 4)), (hk2 aT (AD 4) (BB 4)), (hk3 aT (AD 4) (BB 4)), (hk4 aT (AD 4) (BB 4)), (hk5 (AD 4) (BB 4) (NM 4)), (hk6 aT (AD 4) (BB 4)), (hk7 aT (AD 4) (BB 4)), (hk8 aT (AD 4) (BB 4)), (hk9 aT (AD 4) (BB 4)), (hk10 aT (AD 4) (BB 4)), (hk0 (AD 5) (BB 5)), (hk1 (AD 5) (NH 5)), (hk2 aT (AD 5) (BB 5)), (hk3 aT (AD 5) (BB 5)), (hk4 aT (AD 5) (BB 5)), (hk5 (AD 5) (BB 5) (NM 5)), (hk6 aT (AD 5) (BB 5)), (hk7 aT (AD 5) (BB 5)), (hk8 aT (AD 5) (BB 5)), (hk9 aT (AD 5) (BB 5)), (hk10 aT (AD 5) (BB 5)), (hk0 (AD 6) (BB 6)), (hk1 (AD 6) (NH 6)), (hk2 aT (AD 6) (BB 6)), (hk3 aT (AD 6) (BB 6)), (hk4 aT (AD 6) (BB 6)), (hk5 (AD 6) (BB 6) (NM 6)), (hk6 aT (AD 6) (BB 6)), (hk7 aT (AD 6) (BB 6)), (hk8 aT (AD 6) (BB 6)), (hk9 aT (AD 6) (BB 6)), (hk10 aT (AD 6) (BB 6)), (hk0 (AD 7) (BB 7)), (hk1 (AD 7) (NH 7)), (hk2 aT (AD 7) (BB 7)), (hk3 aT (AD 7) (BB 7)), (hk4 aT (AD 7) (BB 7)), (hk5 (AD 7) (BB 7) (NM 7)), (hk6 aT (AD 7) (BB 7)), (hk7 aT (AD 7) (BB 7)), (hk8 aT (AD 7) (BB 7)), (hk9 aT (AD 7) (BB 7)), (hk10 aT (AD 7) (BB 7)), (hk0 (AD 8) (BB 8)), (hk1 (AD 8) (NH 8)), (hk2 aT (AD 8) (BB 8)), (hk3 aT (AD 8) (BB 8)), (hk4 aT (AD 8) (BB 8)), (hk5 (AD 8) (BB 8) (NM 8)), (hk6 aT (AD 8) (BB 8)), (hk7 aT (AD 8) (BB 8)), (hk8 aT (AD 8) (BB 8)), (hk9 aT (AD 8) (BB 8)), (hk10 aT (AD 8) (BB 8))] : va_W)) r0 W2) ∨ (∃ E9 : String, (fun E W1 => (E = "java/lang/IllegalStateException" ∧ hc = 0) ∧ W1 = ([(x0, .inr (12, [.ref a0, .ref v0, .ref h0, .ref t0, .ref p0, .ref o0, .int (bI sv), .int le, .int lf])), (a0, .inr (10, [.ref a1, .ref a5, .ref a10, .int (bb 8 1), .int (bb 8 2), .int (bb 8 3), .int (bb 8 4), .int (bb 8 5), .int (bb 8 6), .int (bb 8 7), .int (bb 8 8)])), (a1, .inr (6, [.ref a2, .ref a3, .ref a4, .int (nI nh)])), (a2, .inl (aT 0, 6, .inl (bb 0))), (a3, .inl (aT 0, 6, .inl (bb 1))), (a4, .inl (aT 0, 6, .inl (bb 2))), (a5, .inr (8, [.ref a6, .ref a7, .ref a8, .ref a9, .int (nI nm), .int (bb 8 0)])), (a6, .inl (aT 0, 12, .inl (bb 3))), (a7, .inl (aT 0, 12, .inl (bb 4))), (a8, .inl (aT 0, 12, .inl (bb 5))), (a9, .inl (aT 0, 12, .inl (bb 6))), (a10, .inl (aT 0, 4, .inl (bb 7))), (h0, .inr (7, [.ref h1, .int (nI hc)])), (h1, .inl (aT 5, 9, .inr (.inr (.inr (.inr (fun j => some (AD j 0))))))), (hk0 (AD 0) (BB 0)), (hk1 (AD 0) (NH 0)), (hk2 aT (AD 0) (BB 0)), (hk3 aT (AD 0) (BB 0)), (hk4 aT (AD 0) (BB 0)), (hk5 (AD 0) (BB 0) (NM 0)), (hk6 aT (AD 0) (BB 0)), (hk7 aT (AD 0) (BB 0)), (hk8 aT (AD 0) (BB 0)), (hk9 aT (AD 0) (BB 0)), (hk10 aT (AD 0) (BB 0)), (hk0 (AD 1) (BB 1)), (hk1 (AD 1) (NH 1)), (hk2 aT (AD 1) (BB 1)), (hk3 aT (AD 1) (BB 1)), (hk4 aT (AD 1) (BB 1)), (hk5 (AD 1) (BB 1) (NM 1)), (hk6 aT (AD 1) (BB 1)), (hk7 aT (AD 1) (BB 1)), (hk8 aT (AD 1) (BB 1)), (hk9 aT (AD 1) (BB 1)), (hk10 aT (AD 1) (BB 1)), (hk0 (AD 2) (BB 2)), (hk1 (AD 2) (NH 2)), (hk2 aT (AD 2) (BB 2)), (hk3 aT (AD 2) (BB 2)), (hk4 aT (AD 2) (BB 2)), (hk5 (AD 2) (BB 2) (NM 2)), (hk6 aT (AD 2) (BB 2)), (hk7 aT (AD 2) (BB 2)), (hk8 aT (AD 2) (BB 2)), (hk9 aT (AD 2) (BB 2)), (hk10 aT (AD 2) (BB 2)), (hk0 (AD 3) (BB 3)), (hk1 (AD 3) (NH 3)), (hk2 aT (AD 3) (BB 3)), (hk3 aT (AD 3) (BB 3)), (hk4 aT (AD 3) (BB 3)), (hk5 (AD 3) (BB 3) (NM 3)), (hk6 aT (AD 3) (BB 3)), (hk7 aT (AD 3) (BB 3)), (hk8 aT (AD 3) (BB 3)), (hk9 aT (AD 3) (BB 3)), (hk10 aT (AD 3) (BB 3)), (hk0 (AD 4) (BB 4)), (hk1 (AD 4) (NH 4)), (hk2 aT (AD 4) (BB 4)), (hk3 aT (AD 4) (BB 4)), (hk4 aT (AD 4) (BB 4)), (hk5 (AD 4) (BB 4) (NM 4)), (hk6 aT (AD 4) (BB 4)), (hk7 aT (AD 4) (BB 4)), (hk8 aT (AD 4) (BB 4)), (hk9 aT (AD 4) (BB 4)), (hk10 aT (AD 4) (BB 4)), (hk0 (AD 5) (BB 5)), (hk1 (AD 5) (NH 5)), (hk2 aT (AD 5) (BB 5)), (hk3 aT (AD 5) (BB 5)), (hk4 aT (AD 5) (BB 5)), (hk5 (AD 5) (BB 5) (NM 5)), (hk6 aT (AD 5) (BB 5)), (hk7 aT (AD 5) (BB 5)), (hk8 aT (AD 5) (BB 5)), (hk9 aT (AD 5) (BB 5)), (hk10 aT (AD 5) (BB 5)), (hk0 (AD 6) (BB 6)), (hk1 (AD 6) (NH 6)), (hk2 aT (AD 6) (BB 6)), (hk3 aT (AD 6) (BB 6)), (hk4 aT (AD 6) (BB 6)), (hk5 (AD 6) (BB 6) (NM 6)), (hk6 aT (AD 6) (BB 6)), (hk7 aT (AD 6) (BB 6)), (hk8 aT (AD 6) (BB 6)), (hk9 aT (AD 6) (BB 6)), (hk10 aT (AD 6) (BB 6)), (hk0 (AD 7) (BB 7)), (hk1 (AD 7) (NH 7)), (hk2 aT (AD 7) (BB 7)), (hk3 aT (AD 7) (BB 7)), (hk4 aT (AD 7) (BB 7)), (hk5 (AD 7) (BB 7) (NM 7)), (hk6 aT (AD 7) (BB 7)), (hk7 aT (AD 7) (BB 7)), (hk8 aT (AD 7) (BB 7)), (hk9 aT (AD 7) (BB 7)), (hk10 aT (AD 7) (BB 7)), (hk0 (AD 8) (BB 8)), (hk1 (AD 8) (NH 8)), (hk2 aT (AD 8) (BB 8)), (hk3 aT (AD 8) (BB 8)), (hk4 aT (AD 8) (BB 8)), (hk5 (AD 8) (BB 8) (NM 8)), (hk6 aT (AD 8) (BB 8)), (hk7 aT (AD 8) (BB 8)), (hk8 aT (AD 8) (BB 8)), (hk9 aT (AD 8) (BB 8)), (hk10 aT (AD 8) (BB 8))] : va_W)) E9 W2 ∧ ((E9 = "java/lang/IllegalStateException" ∧ r = nI 1)))) ∧ W1 = (([(u0, .inl (aT 2, 1, .inr (.inl o2)))] : va_W) ++ W2))) := by
  refine CxT.of RL (by decide +kernel) rfl (Nat.le_of_ble_eq_true rfl) ?_
  intro p e s m below meth c A ls C hml hl hA hr hlocks htb hZ hW
  have hl : lv_has ls 3 [(0, .ref x0), (1, .ref u0)] := hl
  have hx := C.1
  have hb := C.2.1
  refine lv_aload_n hx hb dL_undo_0 rfl (lv_at hl 1 rfl) ?_
  refine lv_iconst (v := nI 0) hx hb dL_undo_1 (by decide) ?_
  refine lv_aload_n hx hb dL_undo_2 rfl (lv_at hl 0 rfl) ?_
  refine cx_calli (cx_runV C hml hl.1 hZ hW hA (As := []) (rest := [.int (nI 0), .ref u0]) (k_X9_undo l hfl D aT x0 v0 t0 p0 o0 sv le lf a0 a1 a2 a3 a4 a5 a6 a7 a8 a9 a10 bb nh nm h0 h1 AD BB NH NM hc h8) gV_L_X9_undo_133 hV_X9_undo rfl ⟨Nat.le_of_ble_eq_true rfl, Nat.le_of_ble_eq_true rfl⟩ ⟨Nat.le_of_ble_eq_true rfl, Nat.le_of_ble_eq_true rfl⟩ [1, 2, 3, 4, 5, 6, 7, 8, 9, 10, 11, 12, 13, 14, 15, 16, 17, 18, 19, 20, 21, 22, 23, 24, 25, 26, 27, 28, 29, 30, 31, 32, 33, 34, 35, 36, 37, 38, 39, 40, 41, 42, 43, 44, 45, 46, 47, 48, 49, 50, 51, 52, 53, 54, 55, 56, 57, 58, 59, 60, 61, 62, 63, 64, 65, 66, 67, 68, 69, 70, 71, 72, 73, 74, 75, 76, 77, 78, 79, 80, 81, 82, 83, 84, 85, 86, 87, 88, 89, 90, 91, 92, 93, 94, 95, 96, 97, 98, 99, 100, 101, 102, 103, 104, 105, 106, 107, 108, 109, 110, 111, 112, 113] (pk_h [(1, 113)] 114 (by exact rfl) (by decide +kernel) (by decide +kernel) (by exact rfl)) (by decide +kernel) 1 12 rfl rfl rfl rfl (Nat.le_of_ble_eq_true rfl) dL_undo_3) hW hA [1, 2, 3, 4, 5, 6, 7, 8, 9, 10, 11, 12, 13, 14, 15, 16, 17, 18, 19, 20, 21, 22, 23, 24, 25, 26, 27, 28, 29, 30, 31, 32, 33, 34, 35, 36, 37, 38, 39, 40, 41, 42, 43, 44, 45, 46, 47, 48, 49, 50, 51, 52, 53, 54, 55, 56, 57, 58, 59, 60, 61, 62, 63, 64, 65, 66, 67, 68, 69, 70, 71, 72, 73, 74, 75, 76, 77, 78, 79, 80, 81, 82, 83, 84, 85, 86, 87, 88, 89, 90, 91, 92, 93, 94, 95, 96, 97, 98, 99, 100, 101, 102, 103, 104, 105, 106, 107, 108, 109, 110, 111, 112, 113] [0] (pk_h [(1, 113)] 114 (by exact rfl) (by decide +kernel) (by decide +kernel) (by exact rfl)) (pk_g [(0, 1)] 114 (by exact rfl) (by decide +kernel) (by decide +kernel)) (by decide +kernel) (by decide +kernel) ?_ (fun r_3 W_3 H locs hq hW => ?_)
  rotate_left
  obtain hq := hq
  have hW : CxB D (([(u0, .inl (aT 2, 1, .inr (.inl o)))] : va_W) ++ W_3) A s.heap H _ := hW
  refine lv_i2l (v := (r_3).toInt64) hx hb dL_undo_6 rfl ?_
  refine cx_last C hW 0 2 (j := 0) (W1 := (([(u0, .inl (aT 2, 1, .inr (.inl (vp_updL o 0 ((r_3).toInt64)))))] : va_W) ++ W_3)) rfl rfl rfl (by omega) (by decide) rfl dL_undo_7 (fun H locs hW => ?_)
  refine lv_goto (tgt := 14) hx hb dL_undo_8 (by decide) ?_
  refine lv_iconst (v := nI 0) hx hb dL_undo_14 (by decide) ?_
  exact cx_tret C hr hlocks rfl hW ⟨Nat.le_of_ble_eq_true rfl, Nat.le_of_ble_eq_true rfl⟩ (⟨W_3, _, Or.inl ⟨r_3, rfl, rfl, hq⟩, rfl⟩) dL_undo_15
  · intro E ce q9 W9 H locs hE hW h7 h8 h9
    have hE2 := hE
    rcases (show E = "java/lang/IllegalStateException" from by
      clear hW
      revert hE
      grind) with rfl
    · have hW : CxB D (([(u0, .inl (aT 2, 1, .inr (.inl o)))] : va_W) ++ W9) A s.heap H _ := hW
      refine cx_catchT C hZ (nm := "java/lang/IllegalStateException") [] ⟨0, 8, 11, 15⟩ (tableOf []) htb (fun z hz => by cases hz) (by decide) (by decide) gw_547 nw_637 h7 h8 h9 ?_
      refine lv_astore_n (lv' := [(2, .ref q9), (0, .ref x0), (1, .ref u0)]) hx hb dL_undo_11 rfl hl (by decide) rfl (fun ls hl => ?_)
      refine lv_iconst (v := nI 1) hx hb dL_undo_12 (by decide) ?_
      exact cx_tret C hr hlocks rfl hW ⟨Nat.le_of_ble_eq_true rfl, Nat.le_of_ble_eq_true rfl⟩ (⟨W9, _, Or.inr ⟨_, hE2, ⟨rfl, rfl⟩⟩, rfl⟩) dL_undo_13
theorem dL_append_0 : decode cL_append 0 = .ok (.aload_n 2, 1) := by decide +kernel
theorem dL_append_1 : decode cL_append 1 = .ok (.iconst 0, 1) := by decide +kernel
theorem dL_append_2 : decode cL_append 2 = .ok (.aload_n 0, 1) := by decide +kernel
theorem dL_append_3 : decode cL_append 3 = .ok (.iload_n 1, 1) := by decide +kernel
theorem dL_append_4 : decode cL_append 4 = .ok (.invokevirtual 113, 3) := by decide +kernel
theorem dL_append_7 : decode cL_append 7 = .ok (.i2l, 1) := by decide +kernel
theorem dL_append_8 : decode cL_append 8 = .ok (.lastore, 1) := by decide +kernel
theorem dL_append_9 : decode cL_append 9 = .ok (.goto 6, 3) := by decide +kernel
theorem dL_append_12 : decode cL_append 12 = .ok (.astore_n 3, 1) := by decide +kernel
theorem dL_append_13 : decode cL_append 13 = .ok (.iconst 1, 1) := by decide +kernel
theorem dL_append_14 : decode cL_append 14 = .ok (.ireturn, 1) := by decide +kernel
theorem dL_append_15 : decode cL_append 15 = .ok (.iconst 0, 1) := by decide +kernel
theorem dL_append_16 : decode cL_append 16 = .ok (.ireturn, 1) := by decide +kernel
theorem gV_L_X9_append_113 : GoodIn gw (wsV RL 113 RX9 yX9_append (Cond.code yX9_append cX9_append 2 (some .int) :: gw)) := gdV gw_1090 gw_1091 gw_1092 gw_67 gw_1093
theorem hV_X9_append : yX9_append.cls = RX9 ∧ yX9_append.cls ≠ "java/lang/invoke/MethodHandle" ∧ yX9_append.cls ≠ "java/lang/invoke/VarHandle" ∧ (parseMethodDescriptor yX9_append.desc).map (fun d => d.parameters.length) = some 1 := ⟨rfl, by decide +kernel, by decide +kernel, by decide +kernel⟩
set_option maxHeartbeats 2000000 in
set_option maxRecDepth 20000 in
theorem k_L_append (l : Launch) (hfl : l.stackTraces = false) (D : va_G) (aT : Nat → ClassId) (u0 : Nat) (o : Nat → Int64) (x0 : Nat) (v0 : Nat) (t0 : Nat) (p0 : Nat) (o0 : Nat) (sv : Bool) (le : Int32) (lf : Int32) (h0 : Nat) (a0 : Nat) (p1 : Nat) (p2 : Nat) (p3 : Nat) (ln : Nat) (at_ : Nat) (fX : Nat → Int32) (fA : Nat → Int32) (x : Int32) (h60 : ln ≤ 60) : CxT l yL_append cL_append 4 (some (.int)) [(0, 9, 12, 15)] 7 1 6 111 D aT [.ref x0, .int x, .ref u0] [(u0, .inl (aT 2, 1, .inr (.inl o))), (x0, .inr (12, [.ref a0, .ref v0, .ref h0, .ref t0, .ref p0, .ref o0, .int (bI sv), .int le, .int lf])), (p0, .inr (9, [.ref p1, .ref p2, .ref p3, .int (nI ln), .int (nI at_)])), (p1, .inl (aT 1, 60, .inl fX)), (p2, .inl (aT 0, 3, .inl fA))] (qI D aT (fun r W1 => ∃ (W2 : va_W) (o2 : Nat → Int64), ((∃ r0 : Int32, r = nI 0 ∧ o2 0 = r0.toInt64 ∧ (fun r W1 => (ln < 60 ∧ r = nI (ln + 1)) ∧ W1 = ([(x0, .inr (12, [.ref a0, .ref v0, .ref h0, .ref t0, .ref p0, .ref o0, .int (bI sv), .int le, .int lf])), (p0, .inr (9, [.ref p1, .ref p2, .ref p3, .int (nI (ln + 1)), .int (nI at_)])), (p1, .inl (aT 1, 60, .inl (upd fX ln (vp_nar .char (x))))), (p2, .inl (aT 0, 3, .inl fA))] : va_W)) r0 W2) ∨ (∃ E9 : String, (fun E W1 => (E = "java/lang/IllegalStateException" ∧ ln = 60) ∧ W1 = ([(x0, .inr (12, [.ref a0, .ref v0, .ref h0, .ref t0, .ref p0, .ref o0, .int (bI sv), .int le, .int lf])), (p0, .inr (9, [.ref p1, .ref p2, .ref p3, .int (nI ln), .int (nI at_)])), (p1, .inl (aT 1, 60, .inl fX)), (p2, .inl (aT 0, 3, .inl fA))] : va_W)) E9 W2 ∧ ((E9 = "java/lang/IllegalStateException" ∧ r = nI 1)))) ∧ W1 = (([(u0, .inl (aT 2, 1, .inr (.inl o2)))] : va_W) ++ W2))) := by
  refine CxT.of RL (by decide +kernel) rfl (Nat.le_of_ble_eq_true rfl) ?_
  intro p e s m below meth c A ls C hml hl hA hr hlocks htb hZ hW
  have hl : lv_has ls 4 [(0, .ref x0), (1, .int x), (2, .ref u0)] := hl
  have hx := C.1
  have hb := C.2.1
  refine lv_aload_n hx hb dL_append_0 rfl (lv_at hl 2 rfl) ?_
  refine lv_iconst (v := nI 0) hx hb dL_append_1 (by decide) ?_
  refine lv_aload_n hx hb dL_append_2 rfl (lv_at hl 0 rfl) ?_
  refine lv_iload_n hx hb dL_append_3 rfl (lv_at hl 1 rfl) ?_
  refine cx_calli (Wr := [(u0, .inl (aT 2, 1, .inr (.inl o)))]) (cx_runV C hml hl.1 hZ hW hA (As := [.int x]) (rest := [.int (nI 0), .ref u0]) (k_X9_append l hfl D aT x0 v0 t0 p0 o0 sv le lf h0 a0 p1 p2 p3 ln at_ fX fA x h60) gV_L_X9_append_113 hV_X9_append rfl ⟨Nat.le_of_ble_eq_true rfl, Nat.le_of_ble_eq_true rfl⟩ ⟨Nat.le_of_ble_eq_true rfl, Nat.le_of_ble_eq_true rfl⟩ [1, 2, 3, 4] rfl (by decide) 1 12 rfl rfl rfl rfl (Nat.le_of_ble_eq_true rfl) dL_append_4) hW hA [1, 2, 3, 4] [0] rfl rfl (by decide) (by decide) ?_ (fun r_4 W_4 H locs hq hW => ?_)
  rotate_left
  obtain hq := hq
  have hW : CxB D (([(u0, .inl (aT 2, 1, .inr (.inl o)))] : va_W) ++ W_4) A s.heap H _ := hW
  refine lv_i2l (v := (r_4).toInt64) hx hb dL_append_7 rfl ?_
  refine cx_last C hW 0 2 (j := 0) (W1 := (([(u0, .inl (aT 2, 1, .inr (.inl (vp_updL o 0 ((r_4).toInt64)))))] : va_W) ++ W_4)) rfl rfl rfl (by omega) (by decide) rfl dL_append_8 (fun H locs hW => ?_)
  refine lv_goto (tgt := 15) hx hb dL_append_9 (by decide) ?_
  refine lv_iconst (v := nI 0) hx hb dL_append_15 (by decide) ?_
  exact cx_tret C hr hlocks rfl hW ⟨Nat.le_of_ble_eq_true rfl, Nat.le_of_ble_eq_true rfl⟩ (⟨W_4, _, Or.inl ⟨r_4, rfl, rfl, hq⟩, rfl⟩) dL_append_16
  · intro E ce q9 W9 H locs hE hW h7 h8 h9
    have hE2 := hE
    rcases (show E = "java/lang/IllegalStateException" from by
      clear hW
      revert hE
      grind) with rfl
    · have hW : CxB D (([(u0, .inl (aT 2, 1, .inr (.inl o)))] : va_W) ++ W9) A s.heap H _ := hW
      refine cx_catchT C hZ (nm := "java/lang/IllegalStateException") [] ⟨0, 9, 12, 15⟩ (tableOf []) htb (fun z hz => by cases hz) (by decide) (by decide) gw_547 nw_637 h7 h8 h9 ?_
      refine lv_astore_n (lv' := [(3, .ref q9), (0, .ref x0), (1, .int x), (2, .ref u0)]) hx hb dL_append_12 rfl hl (by decide) rfl (fun ls hl => ?_)
      refine lv_iconst (v := nI 1) hx hb dL_append_13 (by decide) ?_
      exact cx_tret C hr hlocks rfl hW ⟨Nat.le_of_ble_eq_true rfl, Nat.le_of_ble_eq_true rfl⟩ (⟨W9, _, Or.inr ⟨_, hE2, ⟨rfl, rfl⟩⟩, rfl⟩) dL_append_14
theorem dL_errorPosition_0 : decode cL_errorPosition 0 = .ok (.aload_n 1, 1) := by decide +kernel
theorem dL_errorPosition_1 : decode cL_errorPosition 1 = .ok (.iconst 0, 1) := by decide +kernel
theorem dL_errorPosition_2 : decode cL_errorPosition 2 = .ok (.aload_n 0, 1) := by decide +kernel
theorem dL_errorPosition_3 : decode cL_errorPosition 3 = .ok (.invokevirtual 121, 3) := by decide +kernel
theorem dL_errorPosition_6 : decode cL_errorPosition 6 = .ok (.i2l, 1) := by decide +kernel
theorem dL_errorPosition_7 : decode cL_errorPosition 7 = .ok (.lastore, 1) := by decide +kernel
theorem dL_errorPosition_8 : decode cL_errorPosition 8 = .ok (.goto 6, 3) := by decide +kernel
theorem dL_errorPosition_11 : decode cL_errorPosition 11 = .ok (.astore_n 2, 1) := by decide +kernel
theorem dL_errorPosition_12 : decode cL_errorPosition 12 = .ok (.iconst 1, 1) := by decide +kernel
theorem dL_errorPosition_13 : decode cL_errorPosition 13 = .ok (.ireturn, 1) := by decide +kernel
theorem dL_errorPosition_14 : decode cL_errorPosition 14 = .ok (.iconst 0, 1) := by decide +kernel
theorem dL_errorPosition_15 : decode cL_errorPosition 15 = .ok (.ireturn, 1) := by decide +kernel
theorem gV_L_X9_errorPosition_121 : GoodIn gw (wsV RL 121 RX9 yX9_errorPosition (Cond.code yX9_errorPosition cX9_errorPosition 1 (some .int) :: gw)) := gdV gw_1321 gw_1322 gw_1323 gw_67 gw_1324
theorem hV_X9_errorPosition : yX9_errorPosition.cls = RX9 ∧ yX9_errorPosition.cls ≠ "java/lang/invoke/MethodHandle" ∧ yX9_errorPosition.cls ≠ "java/lang/invoke/VarHandle" ∧ (parseMethodDescriptor yX9_errorPosition.desc).map (fun d => d.parameters.length) = some 0 := ⟨rfl, by decide +kernel, by decide +kernel, by decide +kernel⟩
set_option maxHeartbeats 2000000 in
set_option maxRecDepth 20000 in
theorem k_L_errorPosition (l : Launch) (hfl : l.stackTraces = false) (D : va_G) (aT : Nat → ClassId) (u0 : Nat) (o : Nat → Int64) (x0 : Nat) (v0 : Nat) (t0 : Nat) (p0 : Nat) (o0 : Nat) (sv : Bool) (le : Int32) (lf : Int32) (h0 : Nat) (a0 : Nat) : CxT l yL_errorPosition cL_errorPosition 3 (some (.int)) [(0, 8, 11, 24)] 7 1 6 110 D aT [.ref x0, .ref u0] [(u0, .inl (aT 2, 1, .inr (.inl o))), (x0, .inr (12, [.ref a0, .ref v0, .ref h0, .ref t0, .ref p0, .ref o0, .int (bI sv), .int le, .int lf]))] (qI D aT (fun r W1 => ∃ (W2 : va_W) (o2 : Nat → Int64), ((∃ r0 : Int32, r = nI 0 ∧ o2 0 = r0.toInt64 ∧ (fun r W1 => (le ≠ -1 ∧ r = le) ∧ W1 = ([(x0, .inr (12, [.ref a0, .ref v0, .ref h0, .ref t0, .ref p0, .ref o0, .int (bI sv), .int le, .int lf]))] : va_W)) r0 W2) ∨ (∃ E9 : String, (fun E W1 => (E = "java/util/NoSuchElementException" ∧ le = -1) ∧ W1 = ([(x0, .inr (12, [.ref a0, .ref v0, .ref h0, .ref t0, .ref p0, .ref o0, .int (bI sv), .int le, .int lf]))] : va_W)) E9 W2 ∧ ((E9 = "java/util/NoSuchElementException" ∧ r = nI 1)))) ∧ W1 = (([(u0, .inl (aT 2, 1, .inr (.inl o2)))] : va_W) ++ W2))) := by
  refine CxT.of RL (by decide +kernel) rfl (Nat.le_of_ble_eq_true rfl) ?_
  intro p e s m below meth c A ls C hml hl hA hr hlocks htb hZ hW
  have hl : lv_has ls 3 [(0, .ref x0), (1, .ref u0)] := hl
  have hx := C.1
  have hb := C.2.1
  refine lv_aload_n hx hb dL_errorPosition_0 rfl (lv_at hl 1 rfl) ?_
  refine lv_iconst (v := nI 0) hx hb dL_errorPosition_1 (by decide) ?_
  refine lv_aload_n hx hb dL_errorPosition_2 rfl (lv_at hl 0 rfl) ?_
  refine cx_calli (Wr := [(u0, .inl (aT 2, 1, .inr (.inl o)))]) (cx_runV C hml hl.1 hZ hW hA (As := []) (rest := [.int (nI 0), .ref u0]) (k_X9_errorPosition l hfl D aT x0 v0 t0 p0 o0 sv le lf h0 a0) gV_L_X9_errorPosition_121 hV_X9_errorPosition rfl ⟨Nat.le_of_ble_eq_true rfl, Nat.le_of_ble_eq_true rfl⟩ ⟨Nat.le_of_ble_eq_true rfl, Nat.le_of_ble_eq_true rfl⟩ [1] rfl (by decide) 1 12 rfl rfl rfl rfl (Nat.le_of_ble_eq_true rfl) dL_errorPosition_3) hW hA [1] [0] rfl rfl (by decide) (by decide) ?_ (fun r_3 W_3 H locs hq hW => ?_)
  rotate_left
  obtain hq := hq
  have hW : CxB D (([(u0, .inl (aT 2, 1, .inr (.inl o)))] : va_W) ++ W_3) A s.heap H _ := hW
  refine lv_i2l (v := (r_3).toInt64) hx hb dL_errorPosition_6 rfl ?_
  refine cx_last C hW 0 2 (j := 0) (W1 := (([(u0, .inl (aT 2, 1, .inr (.inl (vp_updL o 0 ((r_3).toInt64)))))] : va_W) ++ W_3)) rfl rfl rfl (by omega) (by decide) rfl dL_errorPosition_7 (fun H locs hW => ?_)
  refine lv_goto (tgt := 14) hx hb dL_errorPosition_8 (by decide) ?_
  refine lv_iconst (v := nI 0) hx hb dL_errorPosition_14 (by decide) ?_
  exact cx_tret C hr hlocks rfl hW ⟨Nat.le_of_ble_eq_true rfl, Nat.le_of_ble_eq_true rfl⟩ (⟨W_3, _, Or.inl ⟨r_3, rfl, rfl, hq⟩, rfl⟩) dL_errorPosition_15
  · intro E ce q9 W9 H locs hE hW h7 h8 h9
    have hE2 := hE
    rcases (show E = "java/util/NoSuchElementException" from by
      clear hW
      revert hE
      grind) with rfl
    · have hW : CxB D (([(u0, .inl (aT 2, 1, .inr (.inl o)))] : va_W) ++ W9) A s.heap H _ := hW
      refine cx_catchT C hZ (nm := "java/util/NoSuchElementException") [] ⟨0, 8, 11, 24⟩ (tableOf []) htb (fun z hz => by cases hz) (by decide) (by decide) gw_690 nw_705 h7 h8 h9 ?_
      refine lv_astore_n (lv' := [(2, .ref q9), (0, .ref x0), (1, .ref u0)]) hx hb dL_errorPosition_11 rfl hl (by decide) rfl (fun ls hl => ?_)
      refine lv_iconst (v := nI 1) hx hb dL_errorPosition_12 (by decide) ?_
      exact cx_tret C hr hlocks rfl hW ⟨Nat.le_of_ble_eq_true rfl, Nat.le_of_ble_eq_true rfl⟩ (⟨W9, _, Or.inr ⟨_, hE2, ⟨rfl, rfl⟩⟩, rfl⟩) dL_errorPosition_13
theorem dL_failedCommand_0 : decode cL_failedCommand 0 = .ok (.aload_n 1, 1) := by decide +kernel
theorem dL_failedCommand_1 : decode cL_failedCommand 1 = .ok (.iconst 0, 1) := by decide +kernel
theorem dL_failedCommand_2 : decode cL_failedCommand 2 = .ok (.aload_n 0, 1) := by decide +kernel
theorem dL_failedCommand_3 : decode cL_failedCommand 3 = .ok (.invokevirtual 124, 3) := by decide +kernel
theorem dL_failedCommand_6 : decode cL_failedCommand 6 = .ok (.i2l, 1) := by decide +kernel
theorem dL_failedCommand_7 : decode cL_failedCommand 7 = .ok (.lastore, 1) := by decide +kernel
theorem dL_failedCommand_8 : decode cL_failedCommand 8 = .ok (.goto 6, 3) := by decide +kernel
theorem dL_failedCommand_11 : decode cL_failedCommand 11 = .ok (.astore_n 2, 1) := by decide +kernel
theorem dL_failedCommand_12 : decode cL_failedCommand 12 = .ok (.iconst 1, 1) := by decide +kernel
theorem dL_failedCommand_13 : decode cL_failedCommand 13 = .ok (.ireturn, 1) := by decide +kernel
theorem dL_failedCommand_14 : decode cL_failedCommand 14 = .ok (.iconst 0, 1) := by decide +kernel
theorem dL_failedCommand_15 : decode cL_failedCommand 15 = .ok (.ireturn, 1) := by decide +kernel
theorem gV_L_X9_failedCommand_124 : GoodIn gw (wsV RL 124 RX9 yX9_failedCommand (Cond.code yX9_failedCommand cX9_failedCommand 1 (some .int) :: gw)) := gdV gw_1329 gw_1330 gw_1331 gw_67 gw_1332
theorem hV_X9_failedCommand : yX9_failedCommand.cls = RX9 ∧ yX9_failedCommand.cls ≠ "java/lang/invoke/MethodHandle" ∧ yX9_failedCommand.cls ≠ "java/lang/invoke/VarHandle" ∧ (parseMethodDescriptor yX9_failedCommand.desc).map (fun d => d.parameters.length) = some 0 := ⟨rfl, by decide +kernel, by decide +kernel, by decide +kernel⟩
set_option maxHeartbeats 2000000 in
set_option maxRecDepth 20000 in
theorem k_L_failedCommand (l : Launch) (hfl : l.stackTraces = false) (D : va_G) (aT : Nat → ClassId) (u0 : Nat) (o : Nat → Int64) (x0 : Nat) (v0 : Nat) (t0 : Nat) (p0 : Nat) (o0 : Nat) (sv : Bool) (le : Int32) (lf : Int32) (h0 : Nat) (a0 : Nat) : CxT l yL_failedCommand cL_failedCommand 3 (some (.int)) [(0, 8, 11, 24)] 7 1 6 110 D aT [.ref x0, .ref u0] [(u0, .inl (aT 2, 1, .inr (.inl o))), (x0, .inr (12, [.ref a0, .ref v0, .ref h0, .ref t0, .ref p0, .ref o0, .int (bI sv), .int le, .int lf]))] (qI D aT (fun r W1 => ∃ (W2 : va_W) (o2 : Nat → Int64), ((∃ r0 : Int32, r = nI 0 ∧ o2 0 = r0.toInt64 ∧ (fun r W1 => (lf ≠ -1 ∧ r = lf) ∧ W1 = ([(x0, .inr (12, [.ref a0, .ref v0, .ref h0, .ref t0, .ref p0, .ref o0, .int (bI sv), .int le, .int lf]))] : va_W)) r0 W2) ∨ (∃ E9 : String, (fun E W1 => (E = "java/util/NoSuchElementException" ∧ lf = -1) ∧ W1 = ([(x0, .inr (12, [.ref a0, .ref v0, .ref h0, .ref t0, .ref p0, .ref o0, .int (bI sv), .int le, .int lf]))] : va_W)) E9 W2 ∧ ((E9 = "java/util/NoSuchElementException" ∧ r = nI 1)))) ∧ W1 = (([(u0, .inl (aT 2, 1, .inr (.inl o2)))] : va_W) ++ W2))) := by
  refine CxT.of RL (by decide +kernel) rfl (Nat.le_of_ble_eq_true rfl) ?_
  intro p e s m below meth c A ls C hml hl hA hr hlocks htb hZ hW
  have hl : lv_has ls 3 [(0, .ref x0), (1, .ref u0)] := hl
  have hx := C.1
  have hb := C.2.1
  refine lv_aload_n hx hb dL_failedCommand_0 rfl (lv_at hl 1 rfl) ?_
  refine lv_iconst (v := nI 0) hx hb dL_failedCommand_1 (by decide) ?_
  refine lv_aload_n hx hb dL_failedCommand_2 rfl (lv_at hl 0 rfl) ?_
  refine cx_calli (Wr := [(u0, .inl (aT 2, 1, .inr (.inl o)))]) (cx_runV C hml hl.1 hZ hW hA (As := []) (rest := [.int (nI 0), .ref u0]) (k_X9_failedCommand l hfl D aT x0 v0 t0 p0 o0 sv le lf h0 a0) gV_L_X9_failedCommand_124 hV_X9_failedCommand rfl ⟨Nat.le_of_ble_eq_true rfl, Nat.le_of_ble_eq_true rfl⟩ ⟨Nat.le_of_ble_eq_true rfl, Nat.le_of_ble_eq_true rfl⟩ [1] rfl (by decide) 1 12 rfl rfl rfl rfl (Nat.le_of_ble_eq_true rfl) dL_failedCommand_3) hW hA [1] [0] rfl rfl (by decide) (by decide) ?_ (fun r_3 W_3 H locs hq hW => ?_)
  rotate_left
  obtain hq := hq
  have hW : CxB D (([(u0, .inl (aT 2, 1, .inr (.inl o)))] : va_W) ++ W_3) A s.heap H _ := hW
  refine lv_i2l (v := (r_3).toInt64) hx hb dL_failedCommand_6 rfl ?_
  refine cx_last C hW 0 2 (j := 0) (W1 := (([(u0, .inl (aT 2, 1, .inr (.inl (vp_updL o 0 ((r_3).toInt64)))))] : va_W) ++ W_3)) rfl rfl rfl (by omega) (by decide) rfl dL_failedCommand_7 (fun H locs hW => ?_)
  refine lv_goto (tgt := 14) hx hb dL_failedCommand_8 (by decide) ?_
  refine lv_iconst (v := nI 0) hx hb dL_failedCommand_14 (by decide) ?_
  exact cx_tret C hr hlocks rfl hW ⟨Nat.le_of_ble_eq_true rfl, Nat.le_of_ble_eq_true rfl⟩ (⟨W_3, _, Or.inl ⟨r_3, rfl, rfl, hq⟩, rfl⟩) dL_failedCommand_15
  · intro E ce q9 W9 H locs hE hW h7 h8 h9
    have hE2 := hE
    rcases (show E = "java/util/NoSuchElementException" from by
      clear hW
      revert hE
      grind) with rfl
    · have hW : CxB D (([(u0, .inl (aT 2, 1, .inr (.inl o)))] : va_W) ++ W9) A s.heap H _ := hW
      refine cx_catchT C hZ (nm := "java/util/NoSuchElementException") [] ⟨0, 8, 11, 24⟩ (tableOf []) htb (fun z hz => by cases hz) (by decide) (by decide) gw_690 nw_705 h7 h8 h9 ?_
      refine lv_astore_n (lv' := [(2, .ref q9), (0, .ref x0), (1, .ref u0)]) hx hb dL_failedCommand_11 rfl hl (by decide) rfl (fun ls hl => ?_)
      refine lv_iconst (v := nI 1) hx hb dL_failedCommand_12 (by decide) ?_
      exact cx_tret C hr hlocks rfl hW ⟨Nat.le_of_ble_eq_true rfl, Nat.le_of_ble_eq_true rfl⟩ (⟨W9, _, Or.inr ⟨_, hE2, ⟨rfl, rfl⟩⟩, rfl⟩) dL_failedCommand_13
end
