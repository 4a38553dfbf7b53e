section CXL
variable {p : Program} {l : Launch} {e : Env} {R : Room} {s : State} {m : MethodId} {args : Array Value} {below : List Frame} {meth : Method} {c : Code} {H : Heap} {locs : List Loc} {cells slots : Nat} {Q : State → Prop} {cc : ByteArray} {pc : Nat} {ls : Array Slot} {rest : List Value} {D : va_G} {aT : Nat → ClassId} {Wd : va_W} {A : Nat → Prop} {H0 : Heap} {own : String} {a : Nat}
theorem cx_lald (C : CxX p c cc s args m D aT own) (hW : CxB D Wd A H0 H locs) (i t0 : Nat) {n j : Nat} {f : Nat → Int64} {x : Int64} {ty : FieldType} (he : Wd[i]? = some (a, .inl (aT t0, n, .inr (.inl f)))) (ht : (tyG aT)[t0]? = some (aT t0, ty)) (hc : ty = .long) (hj : j < n) (hn : n < 2 ^ 31) (hv : f j = x) (hdg : decode cc pc = .ok (.laload, 1)) (kk : W p l e R s m args below meth c H locs cells slots Q (F0 m (pc + 1) ls (.long x :: rest))) : W p l e R s m args below meth c H locs cells slots Q (F0 m pc ls (.int (nI j) :: .ref a :: rest)) := by
  obtain ⟨hx, hb, hg, hown, hK⟩ := C
  subst hc
  refine va_lald (D := D) hx hb hK hW.1 i t0 he ht (vp_in_nI hj (by omega)) hdg ?_
  rw [nI_clamp (by omega), hv]
  exact kk
theorem cx_last (C : CxX p c cc s args m D aT own) (hW : CxB D Wd A H0 H locs) (i t0 : Nat) {n j : Nat} {f : Nat → Int64} {x : Int64} {ty : FieldType} {W1 : va_W} (he : Wd[i]? = some (a, .inl (aT t0, n, .inr (.inl f)))) (ht : (tyG aT)[t0]? = some (aT t0, ty)) (hc : ty = .long) (hj : j < n) (hn : n < 2 ^ 31) (hW1 : Wd.set i (a, .inl (aT t0, n, .inr (.inl (vp_updL f j x)))) = W1) (hdg : decode cc pc = .ok (.lastore, 1)) (kk : ∀ (H1 : Heap) (locs1 : List Loc), CxB D W1 A H0 H1 locs1 → W p l e R s m args below meth c H1 locs1 cells slots Q (F0 m (pc + 1) ls rest)) : W p l e R s m args below meth c H locs cells slots Q (F0 m pc ls (.long x :: .int (nI j) :: .ref a :: rest)) := by
  obtain ⟨hx, hb, hg, hown, hK⟩ := C
  subst hc
  refine va_last (D := D) hx hb hK hW.1 hW.2.1 hW.2.2 i t0 he ht (vp_in_nI hj (by omega)) hdg (fun H1 locs1 h1 h2 h3 => ?_)
  rw [nI_clamp (by omega)] at h1 h2
  rw [hW1] at h1 h2
  exact kk H1 locs1 ⟨h1, h2, h3⟩
end CXL
theorem dep_pos {pr : Nat → Option Nat} {n k : Nat} (h : ParOk pr n) (hk : k < n) (hd : 0 < dep pr k) : ∃ j, pr k = some j ∧ dep pr k = dep pr j + 1 ∧ j < n := by
  cases hp : pr k with
  | none => rw [dep_none hp] at hd; omega
  | some j => exact ⟨j, rfl, dep_some h hk hp, by have := h k j hk hp; omega⟩
section G5
variable {p : Program} {l : Launch} {e : Env} {R : Room} {s : State} {m : MethodId} {args : Array Value} {below : List Frame} {meth : Method} {c : Code} {H : Heap} {locs : List Loc} {cells slots : Nat} {Q : State → Prop} {cc : ByteArray} {pc : Nat} {ls : Array Slot} {rest : List Value}
theorem r_oi_ltN (hx : p.tables.exec = Jvm.exec) (hb : c.code = cc) {o : Option Nat} {q : Nat} (ho : ∀ j, o = some j → j < 2 ^ 31) (hq : q < 2 ^ 31) {off : Int} {tgt : Nat} (hdg : decode cc pc = .ok (.if_icmp .lt off, 3)) (ht : (pc : Int) + off = (tgt : Int)) (kt : (∀ j, o = some j → j < q) → W p l e R s m args below meth c H locs cells slots Q (F0 m tgt ls rest)) (kf : ∀ j, o = some j → q ≤ j → W p l e R s m args below meth c H locs cells slots Q (F0 m (pc + 3) ls rest)) : W p l e R s m args below meth c H locs cells slots Q (F0 m pc ls (.int (nI q) :: .int (oi o) :: rest)) := by
  refine lv_icmp_lt hx hb hdg ht (fun h => kt (fun j hj => ?_)) (fun h => ?_)
  · subst hj
    exact (nI_ltI (ho j rfl) hq).mp h
  · cases o with
    | none => exact absurd (neg1_lt hq) h
    | some j =>
      refine kf j rfl ?_
      rcases Nat.lt_or_ge j q with w | w
      · exact absurd ((nI_ltI (ho j rfl) hq).mpr w) h
      · exact w
end G5
theorem anc_par {pr : Nat → Option Nat} {n k r : Nat} (h : ParOk pr n) (hk : k < n) (hr : r < k) (ha : anc pr r k = true) : ∃ j, pr k = some j ∧ j < k := by
  rw [anc_O h hk (by omega)] at ha
  cases hp : pr k with
  | none => rw [hp] at ha; simp [ancO] at ha
  | some j => exact ⟨j, rfl, h k j hk hp⟩
theorem fr_step {pr : Nat → Option Nat} {n d i : Nat} {f : Nat → Int32} (h : ParOk pr n) (hj : i < n) (hf : ∀ q, depO pr (some i) ≤ q → q ≤ d → ∃ j, j < n ∧ f q = nI j) : ∀ q, depO pr (pr i) ≤ q → q ≤ d → ∃ j, j < n ∧ upd f (dep pr i) (nI i) q = nI j := fun q h1 h2 => by
  rw [← dep_O h hj] at h1
  by_cases e : q = dep pr i
  · rw [e, pk_us]; exact ⟨i, hj, rfl⟩
  · rw [pk_un e]; exact hf q (show dep pr i + 1 ≤ q by omega) h2
theorem gm_maxl : Cond.code Lib.MathLoose.max_long.x Lib.MathLoose.max_long.code 4 (some .long) ∈ gw := by rw [show Lib.MathLoose.max_long.code = prog_28_method_66_code by decide +kernel]; exact gw_444
theorem sh_eq : ∀ n, n < 13 → nI 1 <<< (nI n &&& 31) = nI (2 ^ n) := by decide
theorem two_le {n : Nat} (h : n ≤ 12) : 2 ^ n ≤ 4096 := Nat.pow_le_pow_right (by decide) h
theorem anc_tr {pr : Nat → Option Nat} {n a b : Nat} (h : ParOk pr n) (hab : anc pr a b = true) : ∀ c, c < n → anc pr b c = true → anc pr a c = true := by
  intro c
  induction c using Nat.strongRecOn with
  | _ c ih =>
    intro hc hb
    by_cases e : c = b
    · rw [e]; exact hab
    · obtain ⟨p, hp, ha, hlt⟩ := anc_up h hc e hb
      exact anc_dn h hc hp (ih p hlt (by omega) ha)
theorem anc_tot {pr : Nat → Option Nat} {n a b : Nat} (h : ParOk pr n) : ∀ k, k < n → anc pr a k = true → anc pr b k = true → dep pr a ≤ dep pr b → anc pr a b = true := by
  intro k
  induction k using Nat.strongRecOn with
  | _ k ih =>
    intro hk ha hb hd
    by_cases e : k = b
    · rw [← e]; exact ha
    · obtain ⟨p, hp, hbp, hlt⟩ := anc_up h hk e hb
      have h1 := anc_dep h p (by omega) hbp
      have h2 := dep_some h hk hp
      by_cases e2 : k = a
      · rw [← e2] at hd; omega
      · obtain ⟨p2, hp2, hap, -⟩ := anc_up h hk e2 ha
        rw [hp] at hp2
        cases hp2
        exact ih p hlt (by omega) hap hbp hd
theorem anc_sd {pr : Nat → Option Nat} {n a b : Nat} (h : ParOk pr n) (hb : b < n) (ha : anc pr a b = true) (hd : dep pr b ≤ dep pr a) : b = a := by
  by_cases e : b = a
  · exact e
  · obtain ⟨p, hp, hap, hlt⟩ := anc_up h hb e ha
    have h1 := anc_dep h p (by omega) hap
    have h2 := dep_some h hb hp
    omega
theorem anc_lt {pr : Nat → Option Nat} {n a b : Nat} (h : ParOk pr n) (hb : b < n) (ha : anc pr a b = true) : a < n := Nat.lt_of_le_of_lt (anc_ge h b hb ha) hb
theorem anc_same {pr : Nat → Option Nat} {n a b k : Nat} (h : ParOk pr n) (hk : k < n) (ha : anc pr a k = true) (hb : anc pr b k = true) (hd : dep pr a = dep pr b) : a = b :=
  (anc_sd h (anc_lt h hk hb) (anc_tot h k hk ha hb (by omega)) (by omega)).symm
/-- two ancestors of one place: the smaller place is the other's ancestor -/
theorem anc_ord {pr : Nat → Option Nat} {n a b k : Nat} (h : ParOk pr n) (hk : k < n) (ha : anc pr a k = true) (hb : anc pr b k = true) (hab : a ≤ b) : anc pr a b = true := by
  rcases Nat.le_total (dep pr a) (dep pr b) with q | q
  · exact anc_tot h k hk ha hb q
  · have h1 := anc_tot h k hk hb ha q
    have h2 := anc_ge h a (anc_lt h hk ha) h1
    have e : a = b := by omega
    rw [e]; exact anc_self pr b
theorem anc_at {pr : Nat → Option Nat} {n : Nat} (h : ParOk pr n) : ∀ k, k < n → ∀ d, d ≤ dep pr k → ∃ s, anc pr s k = true ∧ dep pr s = d := by
  intro k
  induction k using Nat.strongRecOn with
  | _ k ih =>
    intro hk d hd
    by_cases e : d = dep pr k
    · exact ⟨k, anc_self pr k, e.symm⟩
    · cases hp : pr k with
      | none => have := dep_none hp; omega
      | some j =>
        have h1 := dep_some h hk hp
        have h2 := h k j hk hp
        obtain ⟨s, hs, hd2⟩ := ih j h2 (by omega) d (by omega)
        exact ⟨s, anc_dn h hk hp hs, hd2⟩
theorem cmF_deep {pr : Nat → Option Nat} {a b : Nat} : ∀ {n f : Nat}, cmF pr a b n = some f → ∀ k, k < n → anc pr k a = true → anc pr k b = true → dep pr k ≤ dep pr f := by
  intro n
  induction n with
  | zero => intro f h; cases h
  | succ n ih =>
    intro f h k hk h1 h2
    unfold cmF at h
    by_cases hc : cmC pr a b n (cmF pr a b n) = true
    · rw [if_pos hc] at h
      cases h
      rcases Nat.lt_or_ge k n with q | q
      · obtain ⟨g, hg⟩ := cmF_ex h1 h2 q
        have h3 := ih hg k q h1 h2
        unfold cmC at hc
        rw [hg] at hc
        simp only [Bool.and_eq_true, decide_eq_true_eq] at hc
        omega
      · have e : k = n := by omega
        rw [e]; exact Nat.le_refl _
    · rw [if_neg hc] at h
      rcases Nat.lt_or_ge k n with q | q
      · exact ih h k q h1 h2
      · have e : k = n := by omega
        subst e
        rcases Nat.lt_or_ge (dep pr f) (dep pr k) with w | w
        · exact absurd (by unfold cmC; rw [h1, h2, h]; simp [w]) hc
        · exact w
theorem cmF_is {pr : Nat → Option Nat} {n a b f : Nat} (h : ParOk pr n) (ha : a < n) (h1 : anc pr f a = true) (h2 : anc pr f b = true) (hd : ∀ k, anc pr k a = true → anc pr k b = true → dep pr k ≤ dep pr f) : cmF pr a b n = some f := by
  have hfn : f < n := anc_lt h ha h1
  obtain ⟨g, hg⟩ := cmF_ex h1 h2 hfn
  obtain ⟨hgn, g1, g2⟩ := cmF_at hg
  have e1 := cmF_deep hg f hfn h1 h2
  have e2 := hd g g1 g2
  rw [hg, anc_same h ha g1 h1 (by omega)]
theorem cmF_nn {pr : Nat → Option Nat} {n a b : Nat} (hd : ∀ k, anc pr k a = true → anc pr k b = true → False) : cmF pr a b n = none := by
  cases hf : cmF pr a b n with
  | none => rfl
  | some g => obtain ⟨-, g1, g2⟩ := cmF_at hf; exact (hd g g1 g2).elim
/-- the same places lead to i and j as to u and v -/
def CmS (pr : Nat → Option Nat) (i j u v : Nat) : Prop := ∀ r, (anc pr r i = true ∧ anc pr r j = true) ↔ (anc pr r u = true ∧ anc pr r v = true)
theorem CmS.refl {pr : Nat → Option Nat} {i j : Nat} : CmS pr i j i j := fun _ => Iff.rfl
theorem CmS.swap {pr : Nat → Option Nat} {i j u v : Nat} (s : CmS pr i j u v) : CmS pr i j v u := fun r => (s r).trans And.comm
theorem CmS.one {pr : Nat → Option Nat} {n i j u v p : Nat} (s : CmS pr i j u v) (h : ParOk pr n) (hu : u < n) (hv : v < n) (hne : u ≠ v) (hd : dep pr v ≤ dep pr u) (hp : pr u = some p) : CmS pr i j p v := by
  refine fun r => (s r).trans ⟨fun z => ?_, fun z => ⟨anc_dn h hu hp z.1, z.2⟩⟩
  by_cases e : u = r
  · subst e
    exact absurd (anc_sd h hv z.2 hd).symm hne
  · obtain ⟨q, hq, ha, -⟩ := anc_up h hu e z.1
    rw [hp] at hq
    cases hq
    exact ⟨ha, z.2⟩
theorem CmS.two {pr : Nat → Option Nat} {n i j u v p : Nat} (s : CmS pr i j u v) (h : ParOk pr n) (hu : u < n) (hv : v < n) (hne : u ≠ v) (hd : dep pr u ≤ dep pr v) (hp : pr v = some p) : CmS pr i j u p :=
  (s.swap.one h hv hu (fun e => hne e.symm) hd hp).swap
theorem CmS.fin {pr : Nat → Option Nat} {n i j u : Nat} (s : CmS pr i j u u) (h : ParOk pr n) (hi : i < n) (hu : u < n) : cmF pr i j n = some u := by
  have q := (s u).mpr ⟨anc_self pr u, anc_self pr u⟩
  exact cmF_is h hi q.1 q.2 (fun k h1 h2 => anc_dep h u hu ((s k).mp ⟨h1, h2⟩).1)
theorem CmS.non {pr : Nat → Option Nat} {n i j u v : Nat} (s : CmS pr i j u v) (h : ParOk pr n) (hu : u < n) (hv : v < n) (hne : u ≠ v) (h1 : dep pr u = 0) (h2 : dep pr v = 0) : cmF pr i j n = none :=
  cmF_nn (fun k z1 z2 => by
    obtain ⟨a1, a2⟩ := (s k).mp ⟨z1, z2⟩
    have e1 := anc_sd h hu a1 (by omega)
    have e2 := anc_sd h hv a2 (by omega)
    exact hne (e1.trans e2.symm))
/-- a row holds the places that lead down to k -/
def RwP (pr : Nat → Option Nat) (n k d : Nat) (g : Nat → Int32) : Prop := ∀ q, d ≤ q → q ≤ dep pr k → ∃ j, j < n ∧ g q = nI j ∧ anc pr j k = true ∧ dep pr j = q
theorem RwP.step {pr : Nat → Option Nat} {n k i : Nat} {f : Nat → Int32} (h : ParOk pr n) (hi : i < n) (ha : anc pr i k = true) (hf : RwP pr n k (depO pr (some i)) f) : RwP pr n k (depO pr (pr i)) (upd f (dep pr i) (nI i)) := fun q h1 h2 => by
  rw [← dep_O h hi] at h1
  by_cases e : q = dep pr i
  · rw [e, pk_us]; exact ⟨i, hi, rfl, ha, rfl⟩
  · rw [pk_un e]; exact hf q (show dep pr i + 1 ≤ q by omega) h2
/-- what the walk along two rows has found when w places were compared -/
def RwO (pr : Nat → Option Nat) (i j w : Nat) : Option Nat → Prop
  | none => w = 0
  | some k => anc pr k i = true ∧ anc pr k j = true ∧ dep pr k + 1 = w
theorem RwO.fin {pr : Nat → Option Nat} {n i j w : Nat} {o : Option Nat} (ho : RwO pr i j w o) (h : ParOk pr n) (hi : i < n) (hd : ∀ r, anc pr r i = true → anc pr r j = true → dep pr r < w) : cmF pr i j n = o := by
  cases o with
  | none =>
    have e : w = 0 := ho
    exact cmF_nn (fun k z1 z2 => by have := hd k z1 z2; omega)
  | some k =>
    obtain ⟨h1, h2, h3⟩ := ho
    exact cmF_is h hi h1 h2 (fun r z1 z2 => by have := hd r z1 z2; omega)
theorem RwO.lt {pr : Nat → Option Nat} {n i j w : Nat} {o : Option Nat} (ho : RwO pr i j w o) (h : ParOk pr n) (hi : i < n) : ∀ k, o = some k → k < n := fun k e => by
  subst e
  exact anc_lt h hi ho.1
/-- the rows part at w -/
theorem rw_part {pr : Nat → Option Nat} {n i j w a b : Nat} (h : ParOk pr n) (hi : i < n) (hj : j < n) (ha : anc pr a i = true) (hb : anc pr b j = true) (da : dep pr a = w) (db : dep pr b = w) (hne : a ≠ b) : ∀ r, anc pr r i = true → anc pr r j = true → dep pr r < w := fun r h1 h2 => by
  rcases Nat.lt_or_ge (dep pr r) w with q | q
  · exact q
  · have hrn := anc_lt h hi h1
    obtain ⟨s, hs, hd⟩ := anc_at h r hrn w q
    have e1 := anc_same h hi ha (anc_tr h hs i hi h1) (by omega)
    have e2 := anc_same h hj hb (anc_tr h hs j hj h2) (by omega)
    exact absurd (e1.trans e2.symm) hne
theorem cmF_comm {pr : Nat → Option Nat} {n a b : Nat} (h : ParOk pr n) (ha : a < n) (hb : b < n) : cmF pr a b n = cmF pr b a n := by
  cases hf : cmF pr b a n with
  | none =>
    refine cmF_nn (fun k h1 h2 => ?_)
    obtain ⟨g, hg⟩ := cmF_ex h2 h1 (anc_lt h ha h1)
    rw [hf] at hg; cases hg
  | some f =>
    obtain ⟨hfn, f1, f2⟩ := cmF_at hf
    exact cmF_is h ha f2 f1 (fun k h1 h2 => cmF_deep hf k (anc_lt h ha h1) h2 h1)
theorem stN_comm {pr : Nat → Option Nat} {n a b : Nat} (h : ParOk pr n) (ha : a < n) (hb : b < n) : stN pr n a b = stN pr n b a := by
  unfold stN
  rw [cmF_comm h ha hb]
  cases cmF pr b a n with
  | none => rfl
  | some k => dsimp only; omega
/-- in one branch: the steps between two places, by the deepest place above both -/
theorem stN_eq {pr : Nat → Option Nat} {n a b k : Nat} (hf : cmF pr a b n = some k) : stN pr n a b = dep pr a + dep pr b - 2 * dep pr k := by
  unfold stN; rw [hf]
theorem st_br {pr : Nat → Option Nat} {n a b t : Nat} (h : ParOk pr n) (ha : a < n) (hb : b < n) (h1 : anc pr t a = true) (h2 : anc pr t b = true) : ∃ k, cmF pr a b n = some k ∧ k < n ∧ anc pr k a = true ∧ anc pr k b = true ∧ anc pr t k = true ∧ dep pr k ≤ dep pr a ∧ dep pr k ≤ dep pr b ∧ stN pr n a b + 2 * dep pr k = dep pr a + dep pr b := by
  obtain ⟨k, hf⟩ := cmF_ex h1 h2 (anc_lt h ha h1)
  obtain ⟨hk, k1, k2⟩ := cmF_at hf
  have d1 := anc_dep h a ha k1
  have d2 := anc_dep h b hb k2
  have ht := cmF_deep hf t (anc_lt h ha h1) h1 h2
  refine ⟨k, hf, hk, k1, k2, anc_tot h a ha h1 k1 ht, d1, d2, ?_⟩
  rw [stN_eq hf]; omega
theorem st_self {pr : Nat → Option Nat} {n a : Nat} (h : ParOk pr n) (ha : a < n) : stN pr n a a = 0 := by
  have hf : cmF pr a a n = some a := cmF_is h ha (anc_self pr a) (anc_self pr a) (fun k h1 _ => anc_dep h a ha h1)
  rw [stN_eq hf]; omega
theorem st_anc {pr : Nat → Option Nat} {n a k : Nat} (h : ParOk pr n) (hk : k < n) (ha : anc pr a k = true) : stN pr n k a = dep pr k - dep pr a := by
  have han := anc_lt h hk ha
  have hf : cmF pr k a n = some a := cmF_is h hk ha (anc_self pr a) (fun r _ h2 => anc_dep h a han h2)
  rw [stN_eq hf]
  have := anc_dep h k hk ha
  omega
/-- one step more to a child that does not lead to k -/
theorem st_child {pr : Nat → Option Nat} {n k w p t : Nat} (h : ParOk pr n) (hk : k < n) (hw : w < n) (hp : pr w = some p) (hn : anc pr w k = false) (ht : anc pr t k = true) (htp : anc pr t p = true) : stN pr n k w = stN pr n k p + 1 := by
  have hpn : p < n := by have := h w p hw hp; omega
  obtain ⟨c, hf, hc, c1, c2, -, d1, d2, e⟩ := st_br h hk hpn ht htp
  have hf2 : cmF pr k w n = some c := cmF_is h hk c1 (anc_dn h hw hp c2) (fun r r1 r2 => by
    by_cases e : w = r
    · subst e; rw [hn] at r1; cases r1
    · obtain ⟨q, hq, hr, -⟩ := anc_up h hw e r2
      rw [hp] at hq
      cases hq
      exact cmF_deep hf r (anc_lt h hk r1) r1 hr)
  rw [stN_eq hf2, dep_some h hw hp]
  omega
/-- from a place that is farthest from the top, the farthest is the longest way of the branch -/
theorem st_sweep {pr : Nat → Option Nat} {n t u v : Nat} (h : ParOk pr n) (hu : u < n) (hv : v < n) (tu : anc pr t u = true) (tv : anc pr t v = true) (h1 : ∀ x, x < n → anc pr t x = true → dep pr x ≤ dep pr u) (h2 : ∀ x, x < n → anc pr t x = true → stN pr n u x ≤ stN pr n u v) : ∀ a b, a < n → b < n → anc pr t a = true → anc pr t b = true → stN pr n a b ≤ stN pr n u v := by
  have key : ∀ a b, a < n → b < n → anc pr t a = true → anc pr t b = true → ∀ x y, cmF pr u a n = some x → cmF pr u b n = some y → dep pr x ≤ dep pr y → stN pr n a b ≤ stN pr n u a := by
    intro a b ha hb ta tb x y hx hy hxy
    obtain ⟨c, hf, hc, c1, c2, -, d1, d2, e⟩ := st_br h ha hb ta tb
    obtain ⟨x', hx', -, x1, x2, -, -, -, ex⟩ := st_br h hu ha tu ta
    rw [hx] at hx'
    cases hx'
    obtain ⟨hyn, y1, y2⟩ := cmF_at hy
    have hxn := anc_lt h hu x1
    have xy : anc pr x y = true := anc_tot h u hu x1 y1 hxy
    have xb : anc pr x b = true := anc_tr h xy b hb y2
    have hd := cmF_deep hf x hxn x2 xb
    have hb2 := h1 b hb tb
    omega
  intro a b ha hb ta tb
  obtain ⟨x, hx, -⟩ := st_br h hu ha tu ta
  obtain ⟨y, hy, -⟩ := st_br h hu hb tu tb
  rcases Nat.le_total (dep pr x) (dep pr y) with q | q
  · exact Nat.le_trans (key a b ha hb ta tb x y hx hy q) (h2 a ha ta)
  · rw [stN_comm h ha hb]
    exact Nat.le_trans (key b a hb ha tb ta y x hy hx q) (h2 b hb tb)
/-- the reference's longest way is an upper bound, and taken on (or none) -/
theorem lpI_ge {pr : Nat → Option Nat} {n r a most : Nat} : ∀ b, most ≤ lpI pr n r a most b ∧ ∀ x, x < b → anc pr r x = true → stN pr n a x ≤ lpI pr n r a most b := by
  intro b
  induction b with
  | zero => exact ⟨Nat.le_refl _, fun x hx => absurd hx (Nat.not_lt_zero x)⟩
  | succ b ih =>
    unfold lpI
    refine ⟨Nat.le_trans ih.1 (Nat.le_max_left _ _), fun x hx ha => ?_⟩
    rcases Nat.lt_or_ge x b with q | q
    · exact Nat.le_trans (ih.2 x q ha) (Nat.le_max_left _ _)
    · have e : x = b := by omega
      subst e
      rw [if_pos ha]; exact Nat.le_max_right _ _
theorem lpI_at {pr : Nat → Option Nat} {n r a most B : Nat} (hm : most ≤ B) : ∀ b, (∀ x, x < b → anc pr r x = true → stN pr n a x ≤ B) → lpI pr n r a most b ≤ B := by
  intro b
  induction b with
  | zero => intro _; exact hm
  | succ b ih =>
    intro hB
    unfold lpI
    refine Nat.max_le.mpr ⟨ih (fun x hx => hB x (by omega)), ?_⟩
    split
    · rename_i q; exact hB b (by omega) q
    · exact Nat.zero_le _
theorem lpO_ge {pr : Nat → Option Nat} {n r : Nat} : ∀ i a b, a < i → b ≤ a → anc pr r a = true → anc pr r b = true → stN pr n a b ≤ lpO pr n r i := by
  intro i
  induction i with
  | zero => intro a b ha; exact absurd ha (Nat.not_lt_zero a)
  | succ i ih =>
    intro a b ha hb h1 h2
    unfold lpO
    rcases Nat.lt_or_ge a i with q | q
    · split
      · exact Nat.le_trans (ih a b q hb h1 h2) (lpI_ge _).1
      · exact ih a b q hb h1 h2
    · have e : a = i := by omega
      subst e
      rw [if_pos h1]
      exact (lpI_ge (a + 1)).2 b (by omega) h2
theorem lpO_at {pr : Nat → Option Nat} {n r B : Nat} : ∀ i, (∀ a b, a < i → b ≤ a → anc pr r a = true → anc pr r b = true → stN pr n a b ≤ B) → lpO pr n r i ≤ B := by
  intro i
  induction i with
  | zero => intro _; exact Nat.zero_le _
  | succ i ih =>
    intro hB
    unfold lpO
    split
    · rename_i q
      exact lpI_at (ih (fun a b ha => hB a b (by omega))) (i + 1) (fun x hx hxa => hB i x (by omega) (by omega) q hxa)
    · exact ih (fun a b ha => hB a b (by omega))
theorem lp_is {pr : Nat → Option Nat} {n t u v : Nat} (h : ParOk pr n) (hu : u < n) (hv : v < n) (tu : anc pr t u = true) (tv : anc pr t v = true) (hm : ∀ a b, a < n → b < n → anc pr t a = true → anc pr t b = true → stN pr n a b ≤ stN pr n u v) : lpO pr n t n = stN pr n u v := by
  refine Nat.le_antisymm (lpO_at n (fun a b ha hb h1 h2 => hm a b ha (by omega) h1 h2)) ?_
  rcases Nat.le_total v u with q | q
  · exact lpO_ge n u v hu q tu tv
  · rw [stN_comm h hu hv]; exact lpO_ge n v u hv q tv tu
theorem anc_ch {pr : Nat → Option Nat} {n p : Nat} (h : ParOk pr n) : ∀ a, a < n → anc pr p a = true → a ≠ p → ∃ c, c < n ∧ pr c = some p ∧ anc pr c a = true ∧ p < c := by
  intro a
  induction a using Nat.strongRecOn with
  | _ a ih =>
    intro ha hp hne
    obtain ⟨q, hq, hpq, hlt⟩ := anc_up h ha hne hp
    by_cases e : q = p
    · subst e
      exact ⟨a, ha, hq, anc_self pr a, hlt⟩
    · obtain ⟨c, hc, h1, h2, h3⟩ := ih q hlt (by omega) hpq e
      exact ⟨c, hc, h1, anc_dn h ha hq h2, h3⟩
/-- the row of distances behind the climb from k that has come to o -/
def FcI (pr : Nat → Option Nat) (n tp k : Nat) (o : Option Nat) (f : Nat → Int32) : Prop :=
  ∀ x, x < n → f x = if anc pr x k = true ∧ tp ≤ x ∧ depO pr o ≤ dep pr x then nI (dep pr k - dep pr x) else -1
theorem FcI.init {pr : Nat → Option Nat} {n tp k : Nat} {f : Nat → Int32} (h : ParOk pr n) (hk : k < n) (hf : ∀ x, x < n → f x = -1) : FcI pr n tp k (some k) f := fun x hx => by
  rw [hf x hx, if_neg]
  intro ⟨h1, _, h3⟩
  have h4 := anc_dep h k hk h1
  have h5 : dep pr k + 1 ≤ dep pr x := h3
  omega
theorem FcI.step {pr : Nat → Option Nat} {n tp k j : Nat} {f : Nat → Int32} (h : ParOk pr n) (hk : k < n) (hj : anc pr j k = true) (ht : tp ≤ j) (hf : FcI pr n tp k (some j) f) : FcI pr n tp k (pr j) (upd f j (nI (dep pr k - dep pr j))) := fun x hx => by
  have hjn := anc_lt h hk hj
  have e1 := dep_O h hjn
  by_cases e : x = j
  · subst e
    rw [pk_us, if_pos ⟨hj, ht, by omega⟩]
  · rw [pk_un e, hf x hx]
    by_cases q : anc pr x k = true ∧ tp ≤ x ∧ depO pr (some j) ≤ dep pr x
    · rw [if_pos q, if_pos ⟨q.1, q.2.1, by have q3 : dep pr j + 1 ≤ dep pr x := q.2.2; omega⟩]
    · rw [if_neg q, if_neg]
      intro ⟨h1, h2, h3⟩
      refine q ⟨h1, h2, ?_⟩
      show dep pr j + 1 ≤ dep pr x
      rcases Nat.lt_or_ge (dep pr j) (dep pr x) with w | w
      · exact w
      · exact absurd (anc_same h hk h1 hj (by omega)) e
/-- the row of distances from k when the places before w have been looked at -/
def FaI (pr : Nat → Option Nat) (n tp k w : Nat) (f : Nat → Int32) : Prop :=
  ∀ x, x < n → f x = if anc pr tp x = true ∧ (x < w ∨ anc pr x k = true) then nI (stN pr n k x) else -1
theorem FcI.fa {pr : Nat → Option Nat} {n tp k : Nat} {o : Option Nat} {f : Nat → Int32} (h : ParOk pr n) (hk : k < n) (ht : anc pr tp k = true) (ho : ∀ j, o = some j → anc pr j k = true ∧ j < tp) (hf : FcI pr n tp k o f) : FaI pr n tp k tp f := fun x hx => by
  rw [hf x hx]
  by_cases q : anc pr x k = true ∧ tp ≤ x
  · have a1 : anc pr tp x = true := anc_ord h hk ht q.1 q.2
    have hd : depO pr o ≤ dep pr x := by
      cases o with
      | none => exact Nat.zero_le _
      | some j =>
        obtain ⟨hj, hlt⟩ := ho j rfl
        show dep pr j + 1 ≤ dep pr x
        rcases Nat.lt_or_ge (dep pr j) (dep pr x) with w | w
        · exact w
        · have z := anc_tot h k hk q.1 hj w
          have := anc_ge h j (anc_lt h hk hj) z
          omega
    rw [if_pos ⟨q.1, q.2, hd⟩, if_pos ⟨a1, Or.inr q.1⟩, st_anc h hk q.1]
  · rw [if_neg (fun z => q ⟨z.1, z.2.1⟩), if_neg]
    intro ⟨h1, h2⟩
    have h3 := anc_ge h x hx h1
    rcases h2 with h2 | h2
    · omega
    · exact q ⟨h2, h3⟩
theorem FaI.in_ {pr : Nat → Option Nat} {n tp k w x : Nat} {f : Nat → Int32} (hf : FaI pr n tp k w f) (hx : x < n) (h1 : anc pr tp x = true) (h2 : x < w ∨ anc pr x k = true) : f x = nI (stN pr n k x) := by
  rw [hf x hx, if_pos ⟨h1, h2⟩]
theorem FaI.out {pr : Nat → Option Nat} {n tp k w x : Nat} {f : Nat → Int32} (hf : FaI pr n tp k w f) (hx : x < n) (h1 : ¬ (anc pr tp x = true ∧ (x < w ∨ anc pr x k = true))) : f x = -1 := by
  rw [hf x hx, if_neg h1]
/-- the place needs no entry: it lies above k, or outside the branch -/
theorem FaI.skip {pr : Nat → Option Nat} {n tp k w : Nat} {f : Nat → Int32} (hf : FaI pr n tp k w f) (h1 : anc pr tp w = true → anc pr w k = true) : FaI pr n tp k (w + 1) f := fun x hx => by
  rw [hf x hx]
  by_cases q : anc pr tp x = true ∧ (x < w ∨ anc pr x k = true)
  · rw [if_pos q, if_pos ⟨q.1, q.2.imp (fun z => by omega) id⟩]
  · rw [if_neg q, if_neg]
    intro ⟨a, b⟩
    refine q ⟨a, ?_⟩
    rcases b with b | b
    · by_cases e : x = w
      · subst e; exact Or.inr (h1 a)
      · exact Or.inl (by omega)
    · exact Or.inr b
theorem FaI.put {pr : Nat → Option Nat} {n tp k w p : Nat} {f : Nat → Int32} (h : ParOk pr n) (hk : k < n) (ht : anc pr tp k = true) (hf : FaI pr n tp k w f) (hw : w < n) (h1 : anc pr tp w = true) (h2 : anc pr w k = false) (hp : pr w = some p) (h3 : anc pr tp p = true) : FaI pr n tp k (w + 1) (upd f w (nI (stN pr n k p + 1))) := fun x hx => by
  by_cases e : x = w
  · subst e
    rw [pk_us, if_pos ⟨h1, Or.inl (Nat.lt_succ_self x)⟩, st_child h hk hw hp h2 ht h3]
  · rw [pk_un e, hf x hx]
    by_cases q : anc pr tp x = true ∧ (x < w ∨ anc pr x k = true)
    · rw [if_pos q, if_pos ⟨q.1, q.2.imp (fun z => by omega) id⟩]
    · rw [if_neg q, if_neg]
      intro ⟨a, b⟩
      exact q ⟨a, b.imp (fun z => by omega) id⟩
/-- the place that is farthest from k among those before w -/
def FaU (pr : Nat → Option Nat) (n tp k w u : Nat) : Prop := u < n ∧ anc pr tp u = true ∧ (u < w ∨ anc pr u k = true) ∧ ∀ x, x < w → x < n → anc pr tp x = true → stN pr n k x ≤ stN pr n k u
theorem FaU.init {pr : Nat → Option Nat} {n tp k : Nat} (h : ParOk pr n) (hk : k < n) (ht : anc pr tp k = true) : FaU pr n tp k tp k :=
  ⟨hk, ht, Or.inr (anc_self pr k), fun x hx hn ha => absurd (anc_ge h x hn ha) (by omega)⟩
theorem FaU.keep {pr : Nat → Option Nat} {n tp k w u : Nat} (hu : FaU pr n tp k w u) (h1 : anc pr tp w = true → stN pr n k w ≤ stN pr n k u) : FaU pr n tp k (w + 1) u := by
  obtain ⟨a, b, c, d⟩ := hu
  refine ⟨a, b, c.imp (fun z => by omega) id, fun x hx hn ha => ?_⟩
  by_cases e : x = w
  · subst e; exact h1 ha
  · exact d x (by omega) hn ha
theorem FaU.new {pr : Nat → Option Nat} {n tp k w u : Nat} (hu : FaU pr n tp k w u) (hw : w < n) (h1 : anc pr tp w = true) (h2 : stN pr n k u < stN pr n k w) : FaU pr n tp k (w + 1) w := by
  obtain ⟨a, b, c, d⟩ := hu
  refine ⟨hw, h1, Or.inl (Nat.lt_succ_self w), fun x hx hn ha => ?_⟩
  by_cases e : x = w
  · subst e; exact Nat.le_refl _
  · have := d x (by omega) hn ha; omega
/-- what two sweeps find -/
theorem swp_is {pr : Nat → Option Nat} {n tp u v : Nat} (h : ParOk pr n) (htp : tp < n) (hu : FaU pr n tp tp n u) (hv : FaU pr n tp u n v) : lpO pr n tp n = stN pr n u v := by
  obtain ⟨u1, u2, -, u4⟩ := hu
  obtain ⟨v1, v2, -, v4⟩ := hv
  have hd : ∀ x, x < n → anc pr tp x = true → stN pr n tp x = dep pr x - dep pr tp := fun x hx ha => by rw [stN_comm h htp hx, st_anc h hx ha]
  refine lp_is h u1 v1 u2 v2 (st_sweep h u1 v1 u2 v2 (fun x hx ha => ?_) (fun x hx ha => v4 x hx hx ha))
  have h1 := u4 x hx hx ha
  rw [hd x hx ha, hd u u1 u2] at h1
  have h2 := anc_dep h x hx ha
  have h3 := anc_dep h u u1 u2
  omega
/-- heights and the longest way when the places behind i have been looked at -/
def HtI (pr : Nat → Option Nat) (n tp i : Nat) (hh : Nat → Nat) (L : Nat) : Prop :=
  (∀ p, p < n → anc pr tp p = true → ∃ k, k < n ∧ anc pr p k = true ∧ dep pr k = dep pr p + hh p ∧ (k = p ∨ ∃ c, i < c ∧ c < n ∧ pr c = some p ∧ anc pr c k = true)) ∧
  (∀ c p a, i < c → c < n → pr c = some p → anc pr tp p = true → a < n → anc pr c a = true → dep pr a ≤ dep pr p + hh p) ∧
  (∃ a b, a < n ∧ b < n ∧ anc pr tp a = true ∧ anc pr tp b = true ∧ L = stN pr n a b + 1) ∧
  (∀ c p a, i < c → c < n → pr c = some p → anc pr tp p = true → a < n → anc pr c a = true → dep pr a + 1 ≤ L + dep pr p) ∧
  (∀ c d p a b, i < c → i < d → c ≠ d → c < n → d < n → pr c = some p → pr d = some p → anc pr tp p = true → a < n → b < n → anc pr c a = true → anc pr d b = true → dep pr a + dep pr b + 1 ≤ L + 2 * dep pr p)
theorem HtI.init {pr : Nat → Option Nat} {n tp : Nat} (h : ParOk pr n) (htp : tp < n) {hh : Nat → Nat} (hz : ∀ p, p < n → hh p = 0) : HtI pr n tp (n - 1) hh 1 :=
  ⟨fun p hp _ => ⟨p, hp, anc_self pr p, by rw [hz p hp]; rfl, Or.inl rfl⟩, fun c p a h1 h2 => by omega, ⟨tp, tp, htp, htp, anc_self pr tp, anc_self pr tp, by rw [st_self h htp]⟩, fun c p a h1 h2 => by omega, fun c d p a b h1 h2 h3 h4 => by omega⟩
theorem HtI.skip {pr : Nat → Option Nat} {n tp i L : Nat} {hh : Nat → Nat} (h : ParOk pr n) (hi : i + 1 < n) (ho : anc pr tp (i + 1) = false) (H : HtI pr n tp (i + 1) hh L) : HtI pr n tp i hh L := by
  obtain ⟨h1, h2, h3, h4, h5⟩ := H
  have key : ∀ c p, i < c → pr c = some p → anc pr tp p = true → i + 1 < c := fun c p hc hp ha => by
    by_cases e : c = i + 1
    · subst e
      rw [anc_dn h hi hp ha] at ho
      cases ho
    · omega
  refine ⟨fun p hp ha => ?_, fun c p a hc hn hp ha => h2 c p a (key c p hc hp ha) hn hp ha, h3, fun c p a hc hn hp ha => h4 c p a (key c p hc hp ha) hn hp ha, fun c d p a b hc hd hne hn hm hp hq ha => h5 c d p a b (key c p hc hp ha) (key d p hd hq ha) hne hn hm hp hq ha⟩
  obtain ⟨k, k1, k2, k3, k4⟩ := h1 p hp ha
  refine ⟨k, k1, k2, k3, k4.imp id (fun ⟨c, c1, c2⟩ => ⟨c, by omega, c2⟩)⟩
theorem HtI.step {pr : Nat → Option Nat} {n tp i p L : Nat} {hh : Nat → Nat} (h : ParOk pr n) (hi : i + 1 < n) (hb : anc pr tp (i + 1) = true) (hp : pr (i + 1) = some p) (hap : anc pr tp p = true) (H : HtI pr n tp (i + 1) hh L) : HtI pr n tp i (fun q => if q = p then max (hh p) (hh (i + 1) + 1) else hh q) (max L (hh p + 1 + (hh (i + 1) + 1))) := by
  obtain ⟨h1, h2, h3, h4, h5⟩ := H
  have hpl := h (i + 1) p hi hp
  have dp := dep_some h hi hp
  have low : ∀ a, a < n → anc pr (i + 1) a = true → dep pr a ≤ dep pr p + 1 + hh (i + 1) := fun a ha hx => by
    by_cases e : a = i + 1
    · rw [e]; omega
    · obtain ⟨c, hc, hpc, hca, hlt⟩ := anc_ch h a ha hx e
      have := h2 c (i + 1) a hlt hc hpc hb ha hca
      omega
  refine ⟨fun q hq ha => ?_, fun c q a hc hn hpq haq han hca => ?_, ?_, fun c q a hc hn hpq haq han hca => ?_, fun c d q a b hc hd hne hn hm hpc hpd haq han hbn hca hdb => ?_⟩
  · dsimp only
    by_cases e : q = p
    · subst e
      rw [if_pos rfl]
      rcases Nat.le_total (hh (i + 1) + 1) (hh q) with w | w
      · rw [Nat.max_eq_left w]
        obtain ⟨k, k1, k2, k3, k4⟩ := h1 q hq ha
        exact ⟨k, k1, k2, k3, k4.imp id (fun ⟨c, c1, c2⟩ => ⟨c, by omega, c2⟩)⟩
      · rw [Nat.max_eq_right w]
        obtain ⟨k, k1, k2, k3, -⟩ := h1 (i + 1) hi hb
        exact ⟨k, k1, anc_tr h (anc_dn h hi hp (anc_self pr q)) k k1 k2, by omega, Or.inr ⟨i + 1, Nat.lt_succ_self i, hi, hp, k2⟩⟩
    · rw [if_neg e]
      obtain ⟨k, k1, k2, k3, k4⟩ := h1 q hq ha
      exact ⟨k, k1, k2, k3, k4.imp id (fun ⟨c, c1, c2⟩ => ⟨c, by omega, c2⟩)⟩
  · dsimp only
    by_cases e : c = i + 1
    · subst e
      rw [hp] at hpq
      cases hpq
      rw [if_pos rfl]
      have := low a han hca
      have := Nat.le_max_right (hh p) (hh (i + 1) + 1)
      omega
    · have z := h2 c q a (by omega) hn hpq haq han hca
      by_cases e2 : q = p
      · subst e2
        rw [if_pos rfl]
        have := Nat.le_max_left (hh q) (hh (i + 1) + 1)
        omega
      · rw [if_neg e2]; exact z
  · rcases Nat.le_total (hh p + 1 + (hh (i + 1) + 1)) L with w | w
    · rw [Nat.max_eq_left w]; exact h3
    · rw [Nat.max_eq_right w]
      obtain ⟨a, a1, a2, a3, a4⟩ := h1 p (by omega) hap
      obtain ⟨b, b1, b2, b3, -⟩ := h1 (i + 1) hi hb
      have pb : anc pr p b = true := anc_tr h (anc_dn h hi hp (anc_self pr p)) b b1 b2
      have hf : cmF pr a b n = some p := by
        refine cmF_is h a1 a2 pb (fun r r1 r2 => ?_)
        rcases a4 with rfl | ⟨c, c1, c2, c3, c4⟩
        · exact anc_dep h a a1 r1
        · have := rw_part h a1 b1 c4 b2 (dep_some h c2 c3) dp (by omega) r r1 r2
          omega
      exact ⟨a, b, a1, b1, anc_tr h hap a a1 a2, anc_tr h hap b b1 pb, by rw [stN_eq hf]; omega⟩
  · by_cases e : c = i + 1
    · subst e
      rw [hp] at hpq
      cases hpq
      have := low a han hca
      have := Nat.le_max_right L (hh p + 1 + (hh (i + 1) + 1))
      omega
    · have z := h4 c q a (by omega) hn hpq haq han hca
      have := Nat.le_max_left L (hh p + 1 + (hh (i + 1) + 1))
      omega
  · have m1 := Nat.le_max_left L (hh p + 1 + (hh (i + 1) + 1))
    have m2 := Nat.le_max_right L (hh p + 1 + (hh (i + 1) + 1))
    by_cases e : c = i + 1
    · subst e
      rw [hp] at hpc
      cases hpc
      have z1 := low a han hca
      have z2 := h2 d p b (by omega) hm hpd haq hbn hdb
      omega
    · by_cases e2 : d = i + 1
      · subst e2
        rw [hp] at hpd
        cases hpd
        have z1 := low b hbn hdb
        have z2 := h2 c p a (by omega) hn hpc haq han hca
        omega
      · have z := h5 c d q a b (by omega) (by omega) hne hn hm hpc hpd haq han hbn hca hdb
        omega
theorem HtI.fin {pr : Nat → Option Nat} {n tp L : Nat} {hh : Nat → Nat} (h : ParOk pr n) (H : HtI pr n tp tp hh L) : L = lpO pr n tp n + 1 := by
  obtain ⟨-, -, ⟨u, v, u1, v1, u2, v2, e⟩, h4, h5⟩ := H
  rw [lp_is h u1 v1 u2 v2 (fun a b ha hb ta tb => ?_)]
  · exact e
  · obtain ⟨c, hf, hc, c1, c2, tc, d1, d2, es⟩ := st_br h ha hb ta tb
    have htc := anc_ge h c hc tc
    by_cases ea : a = c
    · by_cases eb : b = c
      · rw [ea, eb, st_self h hc]; exact Nat.zero_le _
      · obtain ⟨d, hd, hpd, hda, hlt⟩ := anc_ch h b hb c2 eb
        have := h4 d c b (by omega) hd hpd tc hb hda
        have ed : dep pr a = dep pr c := by rw [ea]
        omega
    · obtain ⟨d, hd, hpd, hda, hlt⟩ := anc_ch h a ha c1 ea
      by_cases eb : b = c
      · have := h4 d c a (by omega) hd hpd tc ha hda
        have ed : dep pr b = dep pr c := by rw [eb]
        omega
      · obtain ⟨g, hg, hpg, hgb, hlt2⟩ := anc_ch h b hb c2 eb
        have hne : d ≠ g := fun z => by
          subst z
          have z1 := cmF_deep hf d hd hda hgb
          have z2 := dep_some h hd hpd
          omega
        have := h5 d g c a b (by omega) (by omega) hne hd hg hpd hpg tc ha hb hda hgb
        omega
theorem HtI.le {pr : Nat → Option Nat} {n tp i L : Nat} {hh : Nat → Nat} (h : ParOk pr n) (H : HtI pr n tp i hh L) : L ≤ 2 * n + 1 ∧ ∀ p, p < n → anc pr tp p = true → hh p < n := by
  obtain ⟨h1, -, ⟨u, v, u1, v1, -, -, e⟩, -⟩ := H
  refine ⟨by have := stN_le h u1 v1; omega, fun p hp ha => ?_⟩
  obtain ⟨k, k1, -, k3, -⟩ := h1 p hp ha
  have := dep_le h k k1
  omega
theorem CmS.end_ {pr : Nat → Option Nat} {n i j u v : Nat} (s : CmS pr i j u v) (h : ParOk pr n) (hi : i < n) (hu : u < n) (e : u = v) : cmF pr i j n = some u := by
  subst e; exact s.fin h hi hu
theorem nI_ge0 {a : Nat} (ha : a < 2 ^ 31) : ¬ nI a < 0 := nI_pos ha
theorem n1_lt0 : (-1 : Int32) < 0 := by decide
theorem FcI.stepw {pr : Nat → Option Nat} {n tp k j w : Nat} {f : Nat → Int32} (h : ParOk pr n) (hk : k < n) (hj : anc pr j k = true) (ht : tp ≤ j) (e : w + dep pr j = dep pr k) (hf : FcI pr n tp k (some j) f) : FcI pr n tp k (pr j) (upd f j (nI w)) := by
  have e2 : w = dep pr k - dep pr j := by omega
  rw [e2]; exact FcI.step h hk hj ht hf
theorem stN_12 {pr : Nat → Option Nat} {n a b : Nat} (h : ParOk pr n) (h12 : n ≤ 12) (ha : a < n) (hb : b < n) : stN pr n a b < 2 ^ 31 := by
  have := stN_le h ha hb; omega
/-- a place that stands in the row, or doesn't -/
theorem FaI.pos {pr : Nat → Option Nat} {n tp k w x : Nat} {f : Nat → Int32} (hf : FaI pr n tp k w f) (hx : x < n) (h0 : ¬ f x < 0) : anc pr tp x = true ∧ (x < w ∨ anc pr x k = true) := by
  by_cases q : anc pr tp x = true ∧ (x < w ∨ anc pr x k = true)
  · exact q
  · rw [hf.out hx q] at h0
    exact absurd n1_lt0 h0
theorem fa_A {pr : Nat → Option Nat} {n tp k w : Nat} {f : Nat → Int32} (hf : FaI pr n tp k w f) (hw : w < n) (h0 : ¬ f w < 0) : FaI pr n tp k (w + 1) f :=
  hf.skip (fun _ => ((hf.pos hw h0).2).resolve_left (Nat.lt_irrefl w))
theorem fa_B {pr : Nat → Option Nat} {n tp k w : Nat} {f : Nat → Int32} (h : ParOk pr n) (hta : anc pr tp k = true) (hf : FaI pr n tp k w f) (hw : w < n) (ht : tp ≤ w) (hp : ∀ j, pr w = some j → j < tp) : FaI pr n tp k (w + 1) f :=
  hf.skip (fun ha => by
    by_cases e : w = tp
    · rw [e]; exact hta
    · obtain ⟨p, hq, hap, hlt⟩ := anc_up h hw e ha
      have h1 := hp p hq
      have h2 := anc_ge h p (by omega) hap
      omega)
theorem fa_C {pr : Nat → Option Nat} {n tp k w p : Nat} {f : Nat → Int32} (h : ParOk pr n) (h12 : n ≤ 12) (hk : k < n) (hf : FaI pr n tp k w f) (hw : w < n) (hp : pr w = some p) (ht : tp ≤ p) (h0 : f p < 0) : FaI pr n tp k (w + 1) f :=
  hf.skip (fun ha => by
    have hpw := h w p hw hp
    by_cases e : w = tp
    · omega
    · obtain ⟨q, hq, hap, hlt⟩ := anc_up h hw e ha
      rw [hp] at hq
      cases hq
      rw [hf.in_ (by omega) hap (Or.inl hpw)] at h0
      exact absurd h0 (nI_ge0 (stN_12 h h12 hk (by omega))))
theorem fa_D {pr : Nat → Option Nat} {n tp k w p : Nat} {f : Nat → Int32} (h : ParOk pr n) (h12 : n ≤ 12) (hk : k < n) (hta : anc pr tp k = true) (hf : FaI pr n tp k w f) (hw : w < n) (hp : pr w = some p) (h0 : ¬ f p < 0) (h1 : f w < 0) : FaI pr n tp k (w + 1) (upd f w (f p + nI 1)) := by
  have hpw := h w p hw hp
  obtain ⟨ap, -⟩ := hf.pos (by omega) h0
  have aw : anc pr tp w = true := anc_dn h hw hp ap
  have hnk : anc pr w k = false := by
    cases hc : anc pr w k with
    | false => rfl
    | true =>
      rw [hf.in_ hw aw (Or.inr hc)] at h1
      exact absurd h1 (nI_ge0 (stN_12 h h12 hk hw))
  rw [hf.in_ (by omega) ap (Or.inl hpw), nI_add]
  exact hf.put h hk hta hw aw hnk hp ap
theorem fu_keep {pr : Nat → Option Nat} {n tp k w u : Nat} {f : Nat → Int32} (h : ParOk pr n) (h12 : n ≤ 12) (hk : k < n) (hf : FaI pr n tp k (w + 1) f) (hw : w < n) (hu : FaU pr n tp k w u) (hc : f w ≤ f u) : FaU pr n tp k (w + 1) u :=
  hu.keep (fun ha => by
    rw [hf.in_ hw ha (Or.inl (Nat.lt_succ_self w)), hf.in_ hu.1 hu.2.1 (hu.2.2.1.imp (fun z => by omega) id)] at hc
    exact (nI_leI (stN_12 h h12 hk hw) (stN_12 h h12 hk hu.1)).mp hc)
theorem fu_new {pr : Nat → Option Nat} {n tp k w u : Nat} {f : Nat → Int32} (h : ParOk pr n) (h12 : n ≤ 12) (hk : k < n) (hf : FaI pr n tp k (w + 1) f) (hw : w < n) (hu : FaU pr n tp k w u) (hc : ¬ f w ≤ f u) : FaU pr n tp k (w + 1) w := by
  have e1 := hf.in_ hu.1 hu.2.1 (hu.2.2.1.imp (fun z => by omega) id)
  have h0 : ¬ f w < 0 := fun z => by
    have h2 : f u < f w := Int32.not_le.mp hc
    rw [e1] at h2
    exact nI_ge0 (stN_12 h h12 hk hu.1) (Int32.lt_trans h2 z)
  obtain ⟨aw, -⟩ := hf.pos hw h0
  rw [e1, hf.in_ hw aw (Or.inl (Nat.lt_succ_self w))] at hc
  exact hu.new hw aw (Nat.lt_of_not_le (fun z => hc ((nI_leI (stN_12 h h12 hk hw) (stN_12 h h12 hk hu.1)).mpr z)))
theorem FaU.cast {pr : Nat → Option Nat} {n tp k w w2 u : Nat} (hu : FaU pr n tp k w u) (e : w = w2) : FaU pr n tp k w2 u := by subst e; exact hu
theorem FaI.cast {pr : Nat → Option Nat} {n tp k w w2 : Nat} {f : Nat → Int32} (hu : FaI pr n tp k w f) (e : w = w2) : FaI pr n tp k w2 f := by subst e; exact hu
theorem swp_fin {pr : Nat → Option Nat} {n tp u v : Nat} {f : Nat → Int32} (h : ParOk pr n) (htp : tp < n) (hu : FaU pr n tp tp n u) (hv : FaU pr n tp u n v) (hf : FaI pr n tp u n f) : f v + nI 1 = nI (lpO pr n tp n + 1) := by
  rw [hf.in_ hv.1 hv.2.1 (Or.inl hv.1), swp_is h htp hu hv, nI_add]
theorem HtI.skp {pr : Nat → Option Nat} {n tp i L : Nat} {hh : Nat → Nat} (h : ParOk pr n) (hi : i < n) (h0 : tp < i) (ho : anc pr tp i = false) (H : HtI pr n tp i hh L) : HtI pr n tp (i - 1) hh L := by
  obtain ⟨k, rfl⟩ : ∃ k, i = k + 1 := ⟨i - 1, by omega⟩
  exact HtI.skip h hi ho H
/-- the class's row of heights and its longest way -/
def HxI (pr : Nat → Option Nat) (n tp i : Nat) (x : Int32) (f : Nat → Int32) : Prop := ∃ (hh : Nat → Nat) (L : Nat), (∀ p, p < n → f p = nI (hh p)) ∧ x = nI L ∧ HtI pr n tp i hh L
theorem HxI.skp {pr : Nat → Option Nat} {n tp i : Nat} {x : Int32} {f : Nat → Int32} (H : HxI pr n tp i x f) (h : ParOk pr n) (hi : i < n) (h0 : tp < i) (ho : anc pr tp i = false) : HxI pr n tp (i - 1) x f := by
  obtain ⟨hh, L, hf, hx, H⟩ := H
  exact ⟨hh, L, hf, hx, HtI.skp h hi h0 ho H⟩
theorem HxI.step {pr : Nat → Option Nat} {n tp i p : Nat} {x : Int32} {f : Nat → Int32} (H : HxI pr n tp i x f) (h : ParOk pr n) (h12 : n ≤ 12) (hi : i < n) (h0 : tp < i) (hb : anc pr tp i = true) (hp : pr i = some p) : HxI pr n tp (i - 1) (if x < ((f p + nI 1) + (f i + nI 1)) then ((f p + nI 1) + (f i + nI 1)) else x) (upd f p (if f p < (f i + nI 1) then (f i + nI 1) else f p)) := by
  obtain ⟨hh, L, hf, hx, H⟩ := H
  obtain ⟨q, hq, hap, hlt⟩ := anc_up h hi (by omega) hb
  rw [hp] at hq
  cases hq
  obtain ⟨bL, bh⟩ := HtI.le h H
  have b1 := bh p (by omega) hap
  have b2 := bh i hi hb
  obtain ⟨k, rfl⟩ : ∃ k, i = k + 1 := ⟨i - 1, by omega⟩
  show HxI pr n tp k _ _
  refine ⟨_, _, fun r hr => ?_, ?_, HtI.step h hi hb hp hap H⟩
  · rw [hf p (by omega), hf (k + 1) hi, nI_add, max_nI (by omega) (by omega)]
    by_cases e : r = p
    · subst e
      rw [pk_us, if_pos rfl]
    · rw [pk_un e, if_neg e]; exact hf r hr
  · rw [hf p (by omega), hf (k + 1) hi, hx, nI_add, nI_add, nI_add, max_nI (by omega) (by omega)]
theorem HxI.fin {pr : Nat → Option Nat} {n tp i : Nat} {x : Int32} {f : Nat → Int32} (H : HxI pr n tp i x f) (h : ParOk pr n) (e : i = tp) : x = nI (lpO pr n tp n + 1) := by
  subst e
  obtain ⟨hh, L, -, hx, H⟩ := H
  rw [hx, HtI.fin h H]
theorem HxI.init {pr : Nat → Option Nat} {n tp : Nat} {f : Nat → Int32} (h : ParOk pr n) (htp : tp < n) (hf : ∀ p, p < n → f p = nI 0) : HxI pr n tp (n - 1) (nI 1) f :=
  ⟨fun _ => 0, 1, hf, rfl, HtI.init h htp (fun _ _ => rfl)⟩
/-- the number of good sets, as both count it -/
def gsD (pr : Nat → Option Nat) : Nat → (Nat → Int32) → (Nat → Int32) → Int32 → Int32
  | 0, _, _, z => z
  | i + 1, a, b, z => match pr i with
    | none => gsD pr i a b (z * (a i + b i))
    | some p => gsD pr i (upd a p (a p * b i)) (upd b p (b p * (a i + b i))) z
theorem gsD_none {pr : Nat → Option Nat} {i : Nat} {a b : Nat → Int32} {z : Int32} (h : pr i = none) : gsD pr (i + 1) a b z = gsD pr i a b (z * (a i + b i)) := by rw [gsD, h]
theorem gsD_some {pr : Nat → Option Nat} {i p : Nat} {a b : Nat → Int32} {z : Int32} (h : pr i = some p) : gsD pr (i + 1) a b z = gsD pr i (upd a p (a p * b i)) (upd b p (b p * (a i + b i))) z := by rw [gsD, h]
theorem gsD_cong {pr : Nat → Option Nat} : ∀ {i : Nat} {a a' b b' : Nat → Int32} {z : Int32}, ParOk pr i → (∀ j, j < i → a j = a' j ∧ b j = b' j) → gsD pr i a b z = gsD pr i a' b' z := by
  intro i
  induction i with
  | zero => intro a a' b b' z _ _; rfl
  | succ i ih =>
    intro a a' b b' z hp h
    have hp2 : ParOk pr i := fun k j hk e => hp k j (by omega) e
    obtain ⟨e1, e2⟩ := h i (by omega)
    cases hq : pr i with
    | none => rw [gsD_none hq, gsD_none hq, e1, e2]; exact ih hp2 (fun j hj => h j (by omega))
    | some p =>
      obtain ⟨e3, e4⟩ := h p (by have := hp i p (by omega) hq; omega)
      rw [gsD_some hq, gsD_some hq, e1, e2, e3, e4]
      refine ih hp2 (fun j hj => ?_)
      by_cases e : j = p
      · subst e; rw [pk_us, pk_us, pk_us, pk_us]; exact ⟨rfl, rfl⟩
      · rw [pk_un e, pk_un e, pk_un e, pk_un e]; exact h j (by omega)
theorem gsD_mea {m : Nat → Int32} : ∀ (n : Nat) (T : MeT), (meaD m n T).2.2.2.2.2 = gsD (prM m) n T.2.2.1 T.2.2.2.1 T.2.2.2.2.2 := by
  intro n
  induction n with
  | zero => intro T; rfl
  | succ n ih =>
    intro T
    show (meaD m n (meaS m n T)).2.2.2.2.2 = _
    rw [ih]
    unfold meaS
    cases hq : prM m n with
    | none => rw [gsD_none hq]
    | some p => rw [gsD_some hq]
/-- longs as ints -/
def lo32 (f : Nat → Int64) : Nat → Int32 := fun j => (f j).toInt32
theorem lo32_upd (f : Nat → Int64) (p : Nat) (x : Int64) : lo32 (vp_updL f p x) = upd (lo32 f) p x.toInt32 := by
  funext j
  unfold lo32 vp_updL upd
  split <;> rfl
theorem gs_none {pr : Nat → Option Nat} {x : Nat} {f q : Nat → Int64} {z : Int64} {G : Int32} (h : pr x = none) (e : gsD pr (x + 1) (lo32 f) (lo32 q) z.toInt32 = G) : gsD pr x (lo32 f) (lo32 q) (z * (f x + q x)).toInt32 = G := by
  rw [gsD_none h] at e
  rw [Int64.toInt32_mul, Int64.toInt32_add]
  exact e
theorem gs_some {pr : Nat → Option Nat} {x p : Nat} {f q : Nat → Int64} {z : Int64} {G : Int32} (h : pr x = some p) (e : gsD pr (x + 1) (lo32 f) (lo32 q) z.toInt32 = G) : gsD pr x (lo32 (vp_updL f p (f p * q x))) (lo32 (vp_updL q p (q p * (f x + q x)))) z.toInt32 = G := by
  rw [gsD_some h] at e
  rw [lo32_upd, lo32_upd, Int64.toInt32_mul, Int64.toInt32_mul, Int64.toInt32_add]
  exact e
theorem fill_i {f : Nat → Int32} {i : Nat} {x : Int32} (h : ∀ j, j < i → f j = x) : ∀ j, j < i + 1 → upd f i x j = x := fun j hj => by
  by_cases e : j = i
  · rw [e, pk_us]
  · rw [pk_un e]; exact h j (by omega)
theorem fill_l {f : Nat → Int64} {i : Nat} {x : Int64} (h : ∀ j, j < i → f j = x) : ∀ j, j < i + 1 → vp_updL f i x j = x := fun j hj => by
  unfold vp_updL
  by_cases e : j = i
  · rw [if_pos e]
  · rw [if_neg e]; exact h j (by omega)
/-- the greatest worth, found branch by branch, over the whole numbers -/
def dpD (pr : Nat → Option Nat) : Nat → (Nat → Int) → (Nat → Int) → Int → Int
  | 0, _, _, z => z
  | i + 1, a, b, z => match pr i with
    | none => dpD pr i a b (z + max (a i) (b i))
    | some p => dpD pr i (fun j => if j = p then a p + b i else a j) (fun j => if j = p then b p + max (a i) (b i) else b j) z
theorem dpD_none {pr : Nat → Option Nat} {i : Nat} {a b : Nat → Int} {z : Int} (h : pr i = none) : dpD pr (i + 1) a b z = dpD pr i a b (z + max (a i) (b i)) := by rw [dpD, h]
theorem dpD_some {pr : Nat → Option Nat} {i p : Nat} {a b : Nat → Int} {z : Int} (h : pr i = some p) : dpD pr (i + 1) a b z = dpD pr i (fun j => if j = p then a p + b i else a j) (fun j => if j = p then b p + max (a i) (b i) else b j) z := by rw [dpD, h]
/-- the worth of a set: a counts for its members, b for the others -/
def wsF (a b : Nat → Int) (s : Nat) : Nat → Int
  | 0 => 0
  | i + 1 => wsF a b s i + (if s.testBit i = true then a i else b i)
def goS (pr : Nat → Option Nat) (s i : Nat) : Prop := ∀ j p, j < i → pr j = some p → s.testBit j = true → s.testBit p = true → False
theorem wsF_off {a b a' b' : Nat → Int} {s s' : Nat} : ∀ i, (∀ j, j < i → a' j = a j ∧ b' j = b j ∧ s'.testBit j = s.testBit j) → wsF a' b' s' i = wsF a b s i := by
  intro i
  induction i with
  | zero => intro _; rfl
  | succ i ih =>
    intro h
    obtain ⟨h1, h2, h3⟩ := h i (by omega)
    unfold wsF
    rw [ih (fun j hj => h j (by omega)), h1, h2, h3]
theorem wsF_put {a b : Nat → Int} {s p : Nat} {x y : Int} : ∀ i, p < i → wsF (fun j => if j = p then x else a j) (fun j => if j = p then y else b j) s i + (if s.testBit p = true then a p else b p) = wsF a b s i + (if s.testBit p = true then x else y) := by
  intro i
  induction i with
  | zero => intro h; exact absurd h (Nat.not_lt_zero p)
  | succ i ih =>
    intro h
    unfold wsF
    try dsimp only
    by_cases e : i = p
    · subst e
      rw [wsF_off (a := a) (b := b) (s := s) i (fun j hj => ⟨if_neg (by omega), if_neg (by omega), rfl⟩), if_pos rfl, if_pos rfl]
      exact Int.add_right_comm _ _ _
    · have h2 := ih (by omega)
      rw [if_neg e, if_neg e]
      generalize (if s.testBit i = true then a i else b i) = t at *
      omega
theorem dp_ge {pr : Nat → Option Nat} {s : Nat} : ∀ (i : Nat) {a b : Nat → Int} {z : Int}, ParOk pr i → goS pr s i → z + wsF a b s i ≤ dpD pr i a b z := by
  intro i
  induction i with
  | zero => intro a b z _ _; exact Int.le_of_eq (Int.add_zero z)
  | succ i ih =>
    intro a b z hp hg
    have hp2 : ParOk pr i := fun k j hk e => hp k j (by omega) e
    have hg2 : goS pr s i := fun j p hj => hg j p (by omega)
    have m1 := Int.le_max_left (a i) (b i)
    have m2 := Int.le_max_right (a i) (b i)
    cases hq : pr i with
    | none =>
      rw [dpD_none hq]
      refine Int.le_trans ?_ (ih hp2 hg2)
      show z + (wsF a b s i + (if s.testBit i = true then a i else b i)) ≤ _
      by_cases t : s.testBit i = true
      · rw [if_pos t]; omega
      · rw [if_neg t]; omega
    | some p =>
      have hpi := hp i p (by omega) hq
      have hx := hg i p (by omega) hq
      rw [dpD_some hq]
      refine Int.le_trans ?_ (ih hp2 hg2)
      have e := wsF_put (a := a) (b := b) (s := s) (p := p) (x := a p + b i) (y := b p + max (a i) (b i)) i hpi
      show z + (wsF a b s i + (if s.testBit i = true then a i else b i)) ≤ _
      by_cases t1 : s.testBit i = true
      · by_cases t2 : s.testBit p = true
        · exact (hx t1 t2).elim
        · rw [if_neg t2, if_neg t2] at e
          rw [if_pos t1]; omega
      · by_cases t2 : s.testBit p = true
        · rw [if_pos t2, if_pos t2] at e
          rw [if_neg t1]; omega
        · rw [if_neg t2, if_neg t2] at e
          rw [if_neg t1]; omega
theorem max_l {a b : Int} (h : b ≤ a) : max a b = a := by omega
theorem max_r {a b : Int} (h : a ≤ b) : max a b = b := by omega
theorem dp_at {pr : Nat → Option Nat} : ∀ (i : Nat) {a b : Nat → Int} {z : Int}, ParOk pr i → ∃ s, s < 2 ^ i ∧ goS pr s i ∧ z + wsF a b s i = dpD pr i a b z := by
  intro i
  induction i with
  | zero => intro a b z _; exact ⟨0, by decide, fun j p hj => absurd hj (Nat.not_lt_zero j), Int.add_zero z⟩
  | succ i ih =>
    intro a b z hp
    have hp2 : ParOk pr i := fun k j hk e => hp k j (by omega) e
    have hpw : 2 ^ (i + 1) = 2 ^ i + 2 ^ i := by rw [Nat.pow_succ]; omega
    -- a set with i, or without
    have wi : ∀ s, s < 2 ^ i → goS pr s i → (∀ p, pr i = some p → s.testBit p = false) → 2 ^ i + s < 2 ^ (i + 1) ∧ goS pr (2 ^ i + s) (i + 1) ∧ wsF a b (2 ^ i + s) (i + 1) = wsF a b s i + a i := fun s hs hg hx => by
      have bi : (2 ^ i + s).testBit i = true := by rw [Nat.testBit_two_pow_add_eq, Nat.testBit_lt_two_pow hs]; rfl
      have bj : ∀ j, j < i → (2 ^ i + s).testBit j = s.testBit j := fun j hj => Nat.testBit_two_pow_add_gt hj s
      refine ⟨by omega, fun j p hj hq h1 h2 => ?_, ?_⟩
      · have hpj := hp j p hj hq
        rw [bj p (by omega)] at h2
        by_cases e : j = i
        · subst e
          rw [hx p hq] at h2; cases h2
        · rw [bj j (by omega)] at h1
          exact hg j p (by omega) hq h1 h2
      · show wsF a b (2 ^ i + s) i + (if (2 ^ i + s).testBit i = true then a i else b i) = _
        rw [if_pos bi, wsF_off (a := a) (b := b) (s := s) i (fun j hj => ⟨rfl, rfl, bj j hj⟩)]
    have wo : ∀ s, s < 2 ^ i → goS pr s i → s < 2 ^ (i + 1) ∧ goS pr s (i + 1) ∧ wsF a b s (i + 1) = wsF a b s i + b i := fun s hs hg => by
      have bi : s.testBit i = false := Nat.testBit_lt_two_pow hs
      refine ⟨by omega, fun j p hj hq h1 h2 => ?_, ?_⟩
      · by_cases e : j = i
        · subst e
          rw [bi] at h1; cases h1
        · exact hg j p (by omega) hq h1 h2
      · show wsF a b s i + (if s.testBit i = true then a i else b i) = _
        rw [if_neg (by rw [bi]; exact Bool.false_ne_true)]
    cases hq : pr i with
    | none =>
      rw [dpD_none hq]
      obtain ⟨s, hs, hg, e⟩ := ih (a := a) (b := b) (z := z + max (a i) (b i)) hp2
      rw [← e]
      rcases Int.le_total (b i) (a i) with w | w
      · obtain ⟨s1, s2, s3⟩ := wi s hs hg (fun p h => by rw [hq] at h; cases h)
        refine ⟨_, s1, s2, ?_⟩
        rw [s3, max_l w]; omega
      · obtain ⟨s1, s2, s3⟩ := wo s hs hg
        refine ⟨_, s1, s2, ?_⟩
        rw [s3, max_r w]; omega
    | some p =>
      have hpi := hp i p (by omega) hq
      rw [dpD_some hq]
      obtain ⟨s, hs, hg, e⟩ := ih (a := fun j => if j = p then a p + b i else a j) (b := fun j => if j = p then b p + max (a i) (b i) else b j) (z := z) hp2
      rw [← e]
      have e2 := wsF_put (a := a) (b := b) (s := s) (p := p) (x := a p + b i) (y := b p + max (a i) (b i)) i hpi
      by_cases t : s.testBit p = true
      · rw [if_pos t, if_pos t] at e2
        obtain ⟨s1, s2, s3⟩ := wo s hs hg
        refine ⟨_, s1, s2, ?_⟩
        rw [s3]; omega
      · rw [if_neg t, if_neg t] at e2
        rcases Int.le_total (b i) (a i) with w | w
        · obtain ⟨s1, s2, s3⟩ := wi s hs hg (fun p' h => by rw [hq] at h; cases h; exact Bool.eq_false_iff.mpr t)
          refine ⟨_, s1, s2, ?_⟩
          rw [max_l w] at e2
          rw [s3, max_l w]; omega
        · obtain ⟨s1, s2, s3⟩ := wo s hs hg
          refine ⟨_, s1, s2, ?_⟩
          rw [max_r w] at e2
          rw [s3, max_r w]; omega
theorem dpD_cong {pr : Nat → Option Nat} : ∀ {i : Nat} {a a' b b' : Nat → Int} {z : Int}, ParOk pr i → (∀ j, j < i → a j = a' j ∧ b j = b' j) → dpD pr i a b z = dpD pr i a' b' z := by
  intro i
  induction i with
  | zero => intro a a' b b' z _ _; rfl
  | succ i ih =>
    intro a a' b b' z hp h
    have hp2 : ParOk pr i := fun k j hk e => hp k j (by omega) e
    obtain ⟨e1, e2⟩ := h i (by omega)
    cases hq : pr i with
    | none => rw [dpD_none hq, dpD_none hq, e1, e2]; exact ih hp2 (fun j hj => h j (by omega))
    | some p =>
      obtain ⟨e3, e4⟩ := h p (by have := hp i p (by omega) hq; omega)
      rw [dpD_some hq, dpD_some hq, e1, e2, e3, e4]
      refine ih hp2 (fun j hj => ?_)
      try dsimp only
      by_cases e : j = p
      · rw [if_pos e, if_pos e, if_pos e, if_pos e]; exact ⟨rfl, rfl⟩
      · rw [if_neg e, if_neg e, if_neg e, if_neg e]; exact h j (by omega)
theorem l_add {x y : Int64} (h1 : -4611686018427387904 ≤ x.toInt + y.toInt) (h2 : x.toInt + y.toInt ≤ 4611686018427387904) : (x + y).toInt = x.toInt + y.toInt := by
  rw [Int64.toInt_add]
  exact Int.bmod_eq_of_le_mul_two (by omega) (by omega)
theorem i_bnd (x : Int32) : -2147483648 ≤ x.toInt ∧ x.toInt < 2147483648 := ⟨Int32.le_toInt x, Int32.toInt_lt x⟩
theorem i2l_int (x : Int32) : x.toInt64.toInt = x.toInt := Int32.toInt_toInt64 x
theorem l_max {x y : Int64} : (if y < x then x else y).toInt = max x.toInt y.toInt := by
  by_cases h : y < x
  · rw [if_pos h]
    have := Int64.lt_iff_toInt_lt.mp h
    omega
  · rw [if_neg h]
    have h2 : ¬ y.toInt < x.toInt := fun z => h (Int64.lt_iff_toInt_lt.mpr z)
    omega
def lim12 : Int := 1141260857376768
theorem lim_le {B : Int} {x : Nat} (h0 : 0 ≤ B) (h : B * 3 ^ x ≤ lim12) : B ≤ lim12 := by
  refine Int.le_trans ?_ h
  have h1 : (1 : Int) ≤ 3 ^ x := by
    induction x with
    | zero => exact Int.le_refl _
    | succ x ih =>
      have h3 : B * 3 ^ x ≤ B * 3 ^ (x + 1) := Int.mul_le_mul_of_nonneg_left (by rw [Int.pow_succ]; have : (0 : Int) ≤ 3 ^ x := Int.pow_nonneg (by decide); omega) h0
      have := ih (Int.le_trans h3 h)
      rw [Int.pow_succ]; omega
  have := Int.mul_le_mul_of_nonneg_left h1 h0
  rw [Int.mul_one] at this
  exact this
/-- what the class has when the places from x on have been looked at -/
def BbI (pr : Nat → Option Nat) (w : Nat → Int32) (n x : Nat) (z : Int64) (f q : Nat → Int64) : Prop :=
  dpD pr x (fun j => (f j).toInt + (w j).toInt) (fun j => (q j).toInt) z.toInt = dpD pr n (fun j => (w j).toInt) (fun _ => 0) 0 ∧
  ∃ B : Int, 2147483648 ≤ B ∧ B * 3 ^ x ≤ lim12 ∧ (-B ≤ z.toInt ∧ z.toInt ≤ B) ∧ ∀ j, j < n → -B ≤ (f j).toInt ∧ (f j).toInt ≤ B ∧ -B ≤ (q j).toInt ∧ (q j).toInt ≤ B
theorem pw_12 : ∀ n, n < 13 → (2147483648 : Int) * 3 ^ n ≤ lim12 := by decide +kernel
theorem BbI.init {pr : Nat → Option Nat} {w : Nat → Int32} {n : Nat} {f q : Nat → Int64} (h : ParOk pr n) (h12 : n ≤ 12) (hf : ∀ j, j < n → f j = 0) (hq : ∀ j, j < n → q j = 0) : BbI pr w n n 0 f q := by
  have z0 : (0 : Int64).toInt = 0 := by decide
  refine ⟨dpD_cong h (fun j hj => ⟨?_, ?_⟩), 2147483648, by decide, pw_12 n (by omega), by rw [z0]; decide, fun j hj => ?_⟩
  · try dsimp only
    rw [hf j hj, z0, Int.zero_add]
  · try dsimp only
    rw [hq j hj, z0]
  · rw [hf j hj, hq j hj, z0]; decide
theorem BbI.stn {pr : Nat → Option Nat} {w : Nat → Int32} {n x : Nat} {z : Int64} {f q : Nat → Int64} (H : BbI pr w n (x + 1) z f q) (h : ParOk pr n) (hx : x < n) (hp : pr x = none) : BbI pr w n x (z + (if q x < (vp_updL f x (f x + (w x).toInt64)) x then (vp_updL f x (f x + (w x).toInt64)) x else q x)) (vp_updL f x (f x + (w x).toInt64)) q := by
  obtain ⟨e, B, b1, b2, b3, b4⟩ := H
  have hB := lim_le (by omega) b2
  unfold lim12 at hB
  obtain ⟨f1, f2, q1, q2⟩ := b4 x hx
  obtain ⟨w1, w2⟩ := i_bnd (w x)
  have ef : (f x + (w x).toInt64).toInt = (f x).toInt + (w x).toInt := by rw [l_add (by rw [i2l_int]; omega) (by rw [i2l_int]; omega), i2l_int]
  have eu : (vp_updL f x (f x + (w x).toInt64)) x = f x + (w x).toInt64 := if_pos rfl
  rw [eu]
  have em : (if q x < f x + (w x).toInt64 then f x + (w x).toInt64 else q x).toInt = max ((f x).toInt + (w x).toInt) (q x).toInt := by rw [l_max, ef]
  generalize (if q x < f x + (w x).toInt64 then f x + (w x).toInt64 else q x) = g at em ⊢
  have ez : (z + g).toInt = z.toInt + g.toInt := l_add (by omega) (by omega)
  refine ⟨?_, 3 * B, by omega, by rw [Int.pow_succ] at b2; rw [Int.mul_comm 3 B, Int.mul_assoc, Int.mul_comm 3]; exact b2, by rw [ez]; omega, fun j hj => ?_⟩
  · rw [dpD_none hp] at e
    rw [← e, ez, em]
    refine dpD_cong (fun k j hk hq => h k j (by omega) hq) (fun j hj => ⟨?_, rfl⟩)
    try dsimp only
    rw [show vp_updL f x (f x + (w x).toInt64) j = f j from if_neg (by omega)]
  · obtain ⟨g1, g2, g3, g4⟩ := b4 j hj
    by_cases ej : j = x
    · subst ej
      rw [eu, ef]; omega
    · rw [show vp_updL f x (f x + (w x).toInt64) j = f j from if_neg ej]; omega
theorem BbI.sts {pr : Nat → Option Nat} {w : Nat → Int32} {n x p : Nat} {z : Int64} {f q : Nat → Int64} (H : BbI pr w n (x + 1) z f q) (h : ParOk pr n) (hx : x < n) (hp : pr x = some p) : BbI pr w n x z (vp_updL (vp_updL f x (f x + (w x).toInt64)) p ((vp_updL f x (f x + (w x).toInt64)) p + q x)) (vp_updL q p (q p + (if q x < (vp_updL f x (f x + (w x).toInt64)) x then (vp_updL f x (f x + (w x).toInt64)) x else q x))) := by
  obtain ⟨e, B, b1, b2, b3, b4⟩ := H
  have hB := lim_le (by omega) b2
  unfold lim12 at hB
  have hpx := h x p hx hp
  obtain ⟨f1, f2, q1, q2⟩ := b4 x hx
  obtain ⟨f3, f4, q3, q4⟩ := b4 p (by omega)
  obtain ⟨w1, w2⟩ := i_bnd (w x)
  have ef : (f x + (w x).toInt64).toInt = (f x).toInt + (w x).toInt := by rw [l_add (by rw [i2l_int]; omega) (by rw [i2l_int]; omega), i2l_int]
  have eu : (vp_updL f x (f x + (w x).toInt64)) x = f x + (w x).toInt64 := if_pos rfl
  have ep : (vp_updL f x (f x + (w x).toInt64)) p = f p := if_neg (by omega)
  rw [eu, ep]
  have em : (if q x < f x + (w x).toInt64 then f x + (w x).toInt64 else q x).toInt = max ((f x).toInt + (w x).toInt) (q x).toInt := by rw [l_max, ef]
  generalize (if q x < f x + (w x).toInt64 then f x + (w x).toInt64 else q x) = g at em ⊢
  have e1 : (f p + q x).toInt = (f p).toInt + (q x).toInt := l_add (by omega) (by omega)
  have e2 : (q p + g).toInt = (q p).toInt + g.toInt := l_add (by omega) (by omega)
  have vf : ∀ j, vp_updL (vp_updL f x (f x + (w x).toInt64)) p (f p + q x) j = if j = p then f p + q x else if j = x then f x + (w x).toInt64 else f j := fun _ => rfl
  have vq : ∀ j, vp_updL q p (q p + g) j = if j = p then q p + g else q j := fun _ => rfl
  refine ⟨?_, 3 * B, by omega, by rw [Int.pow_succ] at b2; rw [Int.mul_comm 3 B, Int.mul_assoc, Int.mul_comm 3]; exact b2, by omega, fun j hj => ?_⟩
  · rw [dpD_some hp] at e
    rw [← e]
    refine dpD_cong (fun k j hk hq => h k j (by omega) hq) (fun j hj => ⟨?_, ?_⟩)
    · try dsimp only
      rw [vf j]
      by_cases ej : j = p
      · rw [if_pos ej, if_pos ej, e1, ej]; omega
      · rw [if_neg ej, if_neg (show ¬ j = x by omega), if_neg ej]
    · try dsimp only
      rw [vq j]
      by_cases ej : j = p
      · rw [if_pos ej, if_pos ej, e2, em]
      · rw [if_neg ej, if_neg ej]
  · obtain ⟨g1, g2, g3, g4⟩ := b4 j hj
    rw [vf j, vq j]
    by_cases ej : j = p
    · rw [if_pos ej, if_pos ej, e1, e2]; omega
    · rw [if_neg ej, if_neg ej]
      by_cases ex : j = x
      · rw [if_pos ex, ef]; omega
      · rw [if_neg ex]; omega
/-- a set's bits in an int -/
def tbI (x : Int32) (i : Nat) : Prop := ((x >>> (nI i &&& 31)) &&& (nI 1)) = nI 1
theorem tb_iff {s i : Nat} (hi : i < 12) : tbI (nI s) i ↔ s.testBit i = true := by
  have key : ∀ k : Nat, k < 12 → ((nI k &&& 31).toBitVec.smod 32#32).toNat = k := by decide
  have e : (BitVec.sshiftRight' (nI s).toBitVec ((nI i &&& 31).toBitVec.smod 32#32)).getLsbD 0 = s.testBit i := by
    rw [BitVec.getLsbD_sshiftRight', key i hi, if_pos (by omega)]
    show (!decide (32 ≤ 0) && (BitVec.ofNat 32 s).getLsbD (i + 0)) = _
    rw [BitVec.getLsbD_ofNat, decide_eq_true (show i + 0 < 32 by omega)]
    rfl
  unfold tbI
  rw [← Int32.toBitVec_inj]
  show (BitVec.sshiftRight' (nI s).toBitVec ((nI i &&& 31).toBitVec.smod 32#32)) &&& 1#32 = 1#32 ↔ _
  rw [BitVec.and_one_eq_setWidth_ofBool_getLsbD, e]
  cases s.testBit i <;> decide
def goI (pr : Nat → Option Nat) (x : Int32) (n : Nat) : Prop := ∀ j p, j < n → pr j = some p → tbI x j → tbI x p → False
theorem go_iff {pr : Nat → Option Nat} {n s : Nat} (h : ParOk pr n) (h12 : n ≤ 12) : goI pr (nI s) n ↔ goS pr s n := by
  constructor
  · intro g j p hj hp h1 h2
    have := h j p hj hp
    exact g j p hj hp ((tb_iff (by omega)).mpr h1) ((tb_iff (by omega)).mpr h2)
  · intro g j p hj hp h1 h2
    have := h j p hj hp
    exact g j p hj hp ((tb_iff (by omega)).mp h1) ((tb_iff (by omega)).mp h2)
theorem goI.stn {pr : Nat → Option Nat} {x : Int32} {i : Nat} (g : goI pr x i) (h : pr i = none) : goI pr x (i + 1) := fun j p hj hp h1 h2 => by
  by_cases e : j = i
  · subst e; rw [h] at hp; cases hp
  · exact g j p (by omega) hp h1 h2
theorem goI.one {pr : Nat → Option Nat} {x : Int32} {i : Nat} (g : goI pr x i) (h : ¬ tbI x i) : goI pr x (i + 1) := fun j p hj hp h1 h2 => by
  by_cases e : j = i
  · subst e; exact h h1
  · exact g j p (by omega) hp h1 h2
theorem goI.two {pr : Nat → Option Nat} {x : Int32} {i q : Nat} (g : goI pr x i) (hq : pr i = some q) (h : ¬ tbI x q) : goI pr x (i + 1) := fun j p hj hp h1 h2 => by
  by_cases e : j = i
  · subst e
    rw [hq] at hp
    cases hp
    exact h h2
  · exact g j p (by omega) hp h1 h2
/-- a set's worth, by the bits of an int -/
def wsT (w : Nat → Int32) (x : Int32) : Nat → Int
  | 0 => 0
  | i + 1 => wsT w x i + (if ((x >>> (nI i &&& 31)) &&& (nI 1)) = nI 1 then (w i).toInt else 0)
theorem wsT_s {w : Nat → Int32} {s : Nat} : ∀ i, i ≤ 12 → wsT w (nI s) i = wsF (fun j => (w j).toInt) (fun _ => 0) s i := by
  intro i
  induction i with
  | zero => intro _; rfl
  | succ i ih =>
    intro hi
    unfold wsT wsF
    rw [ih (by omega)]
    by_cases t : s.testBit i = true
    · have tb : ((nI s >>> (nI i &&& 31)) &&& (nI 1)) = nI 1 := (tb_iff (by omega)).mpr t
      rw [if_pos t, if_pos tb]
    · have tb : ¬ ((nI s >>> (nI i &&& 31)) &&& (nI 1)) = nI 1 := fun z => t ((tb_iff (by omega)).mp z)
      rw [if_neg t, if_neg tb]
def WtI (w : Nat → Int32) (x : Int32) (i : Nat) (z : Int64) : Prop := z.toInt = wsT w x i ∧ -(2147483648 * (i : Int)) ≤ z.toInt ∧ z.toInt ≤ 2147483648 * (i : Int)
theorem WtI.init {w : Nat → Int32} {x : Int32} : WtI w x 0 0 := ⟨by show (0 : Int64).toInt = 0; decide, by decide, by decide⟩
theorem WtI.no {w : Nat → Int32} {x : Int32} {i : Nat} {z : Int64} (H : WtI w x i z) (h : ¬ ((x >>> (nI i &&& 31)) &&& (nI 1)) = nI 1) : WtI w x (i + 1) z := by
  obtain ⟨e, b1, b2⟩ := H
  refine ⟨?_, by omega, by omega⟩
  unfold wsT
  rw [if_neg h, e, Int.add_zero]
theorem WtI.yes {w : Nat → Int32} {x : Int32} {i : Nat} {z : Int64} (H : WtI w x i z) (hi : i < 12) (h : ((x >>> (nI i &&& 31)) &&& (nI 1)) = nI 1) : WtI w x (i + 1) (z + (w i).toInt64) := by
  obtain ⟨e, b1, b2⟩ := H
  obtain ⟨w1, w2⟩ := i_bnd (w i)
  have ez : (z + (w i).toInt64).toInt = z.toInt + (w i).toInt := by rw [l_add (by rw [i2l_int]; omega) (by rw [i2l_int]; omega), i2l_int]
  refine ⟨?_, by rw [ez]; omega, by rw [ez]; omega⟩
  unfold wsT
  rw [if_pos h, ez, e]
/-- the greatest worth of the sets before i -/
def BsI (pr : Nat → Option Nat) (w : Nat → Int32) (n i : Nat) (z : Int64) : Prop := (∀ s, s < i → goS pr s n → wsF (fun j => (w j).toInt) (fun _ => 0) s n ≤ z.toInt) ∧ ∃ s, goS pr s n ∧ z.toInt = wsF (fun j => (w j).toInt) (fun _ => 0) s n
theorem wsF_0 {a : Nat → Int} : ∀ n, wsF a (fun _ => 0) 0 n = 0 := by
  intro n
  induction n with
  | zero => rfl
  | succ n ih =>
    unfold wsF
    rw [ih, Nat.zero_testBit]; rfl
theorem BsI.init {pr : Nat → Option Nat} {w : Nat → Int32} {n : Nat} : BsI pr w n 0 0 :=
  ⟨fun s hs => absurd hs (Nat.not_lt_zero s), 0, fun j p hj hp h1 => (by rw [Nat.zero_testBit] at h1; cases h1), by rw [wsF_0]; decide⟩
theorem BsI.no {pr : Nat → Option Nat} {w : Nat → Int32} {n i : Nat} {z : Int64} (H : BsI pr w n i z) (h : ¬ goS pr i n) : BsI pr w n (i + 1) z := by
  refine ⟨fun s hs g => ?_, H.2⟩
  by_cases e : s = i
  · subst e; exact (h g).elim
  · exact H.1 s (by omega) g
theorem BsI.yes {pr : Nat → Option Nat} {w : Nat → Int32} {n i : Nat} {z r : Int64} (H : BsI pr w n i z) (h : goS pr i n) (hr : r.toInt = wsF (fun j => (w j).toInt) (fun _ => 0) i n) : BsI pr w n (i + 1) (if r < z then z else r) := by
  have em := l_max (x := z) (y := r)
  generalize (if r < z then z else r) = g at em ⊢
  obtain ⟨H1, s0, H2, H3⟩ := H
  refine ⟨fun s hs gs => ?_, ?_⟩
  · by_cases e : s = i
    · subst e; omega
    · have := H1 s (by omega) gs; omega
  · rcases Int.le_total r.toInt z.toInt with q | q
    · exact ⟨s0, H2, by omega⟩
    · exact ⟨i, h, by omega⟩
theorem BsI.fin {pr : Nat → Option Nat} {w : Nat → Int32} {n i : Nat} {z : Int64} (H : BsI pr w n i z) (h : ParOk pr n) (e : 2 ^ n ≤ i) : z.toInt = dpD pr n (fun j => (w j).toInt) (fun _ => 0) 0 := by
  obtain ⟨H1, s0, H2, H3⟩ := H
  obtain ⟨s, s1, s2, s3⟩ := dp_at (pr := pr) n (a := fun j => (w j).toInt) (b := fun _ => 0) (z := 0) h
  have h1 := dp_ge (s := s0) n (a := fun j => (w j).toInt) (b := fun _ => 0) (z := 0) h H2
  have h2 := H1 s (by omega) s2
  omega
theorem goI.cast {pr : Nat → Option Nat} {x : Int32} {i n : Nat} (g : goI pr x i) (e : i = n) : goI pr x n := by subst e; exact g
theorem WtI.cast {w : Nat → Int32} {x : Int32} {i n : Nat} {z : Int64} (g : WtI w x i z) (e : i = n) : WtI w x n z := by subst e; exact g
theorem lg_same {x y : Int64} (h : x.toInt = y.toInt) : lg_cmp x y = 0 := by
  have e : x = y := Int64.toInt_inj.mp h
  subst e
  unfold lg_cmp
  rw [if_neg (fun z => absurd (Int64.lt_iff_toInt_lt.mp z) (Int.lt_irrefl _)), if_pos rfl]
theorem dJ7_fill_53178_0 : decode cJ7_fill_53178 0 = .ok (.iconst 0, 1) := by decide +kernel
theorem dJ7_fill_53178_1 : decode cJ7_fill_53178 1 = .ok (.istore_n 2, 1) := by decide +kernel
theorem dJ7_fill_53178_2 : decode cJ7_fill_53178 2 = .ok (.aload_n 0, 1) := by decide +kernel
theorem dJ7_fill_53178_3 : decode cJ7_fill_53178 3 = .ok (.arraylength, 1) := by decide +kernel
theorem dJ7_fill_53178_4 : decode cJ7_fill_53178 4 = .ok (.istore_n 3, 1) := by decide +kernel
theorem dJ7_fill_53178_5 : decode cJ7_fill_53178 5 = .ok (.iload_n 2, 1) := by decide +kernel
theorem dJ7_fill_53178_6 : decode cJ7_fill_53178 6 = .ok (.iload_n 3, 1) := by decide +kernel
theorem dJ7_fill_53178_7 : decode cJ7_fill_53178 7 = .ok (.if_icmp .ge 13, 3) := by decide +kernel
theorem dJ7_fill_53178_10 : decode cJ7_fill_53178 10 = .ok (.aload_n 0, 1) := by decide +kernel
theorem dJ7_fill_53178_11 : decode cJ7_fill_53178 11 = .ok (.iload_n 2, 1) := by decide +kernel
theorem dJ7_fill_53178_12 : decode cJ7_fill_53178 12 = .ok (.iload_n 1, 1) := by decide +kernel
theorem dJ7_fill_53178_13 : decode cJ7_fill_53178 13 = .ok (.iastore, 1) := by decide +kernel
theorem dJ7_fill_53178_14 : decode cJ7_fill_53178 14 = .ok (.iinc 2 1, 3) := by decide +kernel
theorem dJ7_fill_53178_17 : decode cJ7_fill_53178 17 = .ok (.goto (-12), 3) := by decide +kernel
theorem dJ7_fill_53178_20 : decode cJ7_fill_53178 20 = .ok (.return_, 1) := by decide +kernel
set_option maxRecDepth 20000 in
theorem k_J7_fill_53178 (l : Launch) (hfl : l.stackTraces = false) (D : va_G) (aT : Nat → ClassId) (a n : Nat) (f : Nat → Int32) (x : Int32) (hn : n < 2 ^ 31) : CxG l yJ7_fill_53178 cJ7_fill_53178 4 none 0 0 0 0 D aT [.ref a, .int x] [(a, .inl (aT 0, n, .inl f))] (qV D aT (fun W1 => ∃ g : Nat → Int32, (∀ j, j < n → g j = x) ∧ W1 = ([(a, .inl (aT 0, n, .inl g))] : va_W))) (fun _ _ => False) := by
  refine CxG.of RJ7 (by decide +kernel) rfl (Nat.le_of_ble_eq_true rfl) ?_
  intro p e s m below meth c A ls C hml hl hA hr hlocks hex hnm hZ hW
  have hl : lv_has ls 4 [(0, .ref a), (1, .int x)] := hl
  have hx := C.1
  have hb := C.2.1
  refine lv_iconst (v := nI 0) hx hb dJ7_fill_53178_0 (by decide) ?_
  refine lv_istore_n (lv' := [(2, .int (nI 0)), (0, .ref a), (1, .int x)]) hx hb dJ7_fill_53178_1 rfl hl (by decide) rfl (fun ls hl => ?_)
  refine lv_aload_n hx hb dJ7_fill_53178_2 rfl (lv_at hl 1 rfl) ?_
  refine va_alen (v := nI n) hx hb C.2.2.2.2 hW.1 0 0 rfl rfl rfl dJ7_fill_53178_3 ?_
  refine lv_istore_n (lv' := [(3, .int (nI n)), (2, .int (nI 0)), (0, .ref a), (1, .int x)]) hx hb dJ7_fill_53178_4 rfl hl (by decide) rfl (fun ls hl => ?_)
  refine W_loopH (σ := Nat × (Nat → Int32)) (fun z => n - z.1) (fun z H locs g => ∃ ls, g = F0 m 5 ls [] ∧ lv_has ls 4 [(2, .int (nI z.1)), (3, .int (nI n)), (0, .ref a), (1, .int x)] ∧ CxB D [(a, .inl (aT 0, n, .inl z.2))] A s.heap H locs ∧ z.1 ≤ n ∧ ∀ j, j < z.1 → z.2 j = x) ?_ (0, f) _ ⟨_, rfl, lv_sub hl [1, 0, 2, 3] rfl, hW, Nat.zero_le _, fun j hj => absurd hj (Nat.not_lt_zero j)⟩
  clear hW hl
  rintro ⟨i, f⟩ H locs g ⟨ls, rfl, hl, hW, hi, hf9⟩ ih
  dsimp only at hl hW hi hf9 ⊢
  refine lv_iload_n hx hb dJ7_fill_53178_5 rfl (lv_at hl 0 rfl) ?_
  refine lv_iload_n hx hb dJ7_fill_53178_6 rfl (lv_at hl 1 rfl) ?_
  refine r_geN hx hb (a := i) (b := n) (by omega) hn (tgt := 20) dJ7_fill_53178_7 (by decide) (fun h => ?_) (fun h => ?_)
  · exact cx_vret C hr hlocks hW ⟨Nat.le_refl _, Nat.le_refl _⟩ ⟨_, fun j hj => hf9 j (by omega), rfl⟩ dJ7_fill_53178_20
  · refine lv_aload_n hx hb dJ7_fill_53178_10 rfl (lv_at hl 2 rfl) ?_
    refine lv_iload_n hx hb dJ7_fill_53178_11 rfl (lv_at hl 0 rfl) ?_
    refine lv_iload_n hx hb dJ7_fill_53178_12 rfl (lv_at hl 3 rfl) ?_
    refine cx_ast C hW 0 0 (j := i) (W1 := [(a, .inl (aT 0, n, .inl (upd f i x)))]) rfl rfl rfl h hn rfl dJ7_fill_53178_13 (fun H locs hW => ?_)
    refine lv_iinc (v := nI (i + 1)) (lv' := [(2, .int (nI (i + 1))), (3, .int (nI n)), (0, .ref a), (1, .int x)]) hx hb dJ7_fill_53178_14 hl (k := 0) rfl (nI_1 _) (by decide) rfl (fun ls hl => ?_)
    refine lv_goto (tgt := 5) hx hb dJ7_fill_53178_17 (by decide) ?_
    exact ih (i + 1, (upd f i x)) _ _ _ (by dsimp only; omega) ⟨_, rfl, hl, hW, h, fill_i hf9⟩
theorem dJ7_fill_d0a16_0 : decode cJ7_fill_d0a16 0 = .ok (.iconst 0, 1) := by decide +kernel
theorem dJ7_fill_d0a16_1 : decode cJ7_fill_d0a16 1 = .ok (.istore_n 3, 1) := by decide +kernel
theorem dJ7_fill_d0a16_2 : decode cJ7_fill_d0a16 2 = .ok (.aload_n 0, 1) := by decide +kernel
theorem dJ7_fill_d0a16_3 : decode cJ7_fill_d0a16 3 = .ok (.arraylength, 1) := by decide +kernel
theorem dJ7_fill_d0a16_4 : decode cJ7_fill_d0a16 4 = .ok (.istore 4, 2) := by decide +kernel
theorem dJ7_fill_d0a16_6 : decode cJ7_fill_d0a16 6 = .ok (.iload_n 3, 1) := by decide +kernel
theorem dJ7_fill_d0a16_7 : decode cJ7_fill_d0a16 7 = .ok (.iload 4, 2) := by decide +kernel
theorem dJ7_fill_d0a16_9 : decode cJ7_fill_d0a16 9 = .ok (.if_icmp .ge 13, 3) := by decide +kernel
theorem dJ7_fill_d0a16_12 : decode cJ7_fill_d0a16 12 = .ok (.aload_n 0, 1) := by decide +kernel
theorem dJ7_fill_d0a16_13 : decode cJ7_fill_d0a16 13 = .ok (.iload_n 3, 1) := by decide +kernel
theorem dJ7_fill_d0a16_14 : decode cJ7_fill_d0a16 14 = .ok (.lload_n 1, 1) := by decide +kernel
theorem dJ7_fill_d0a16_15 : decode cJ7_fill_d0a16 15 = .ok (.lastore, 1) := by decide +kernel
theorem dJ7_fill_d0a16_16 : decode cJ7_fill_d0a16 16 = .ok (.iinc 3 1, 3) := by decide +kernel
theorem dJ7_fill_d0a16_19 : decode cJ7_fill_d0a16 19 = .ok (.goto (-13), 3) := by decide +kernel
theorem dJ7_fill_d0a16_22 : decode cJ7_fill_d0a16 22 = .ok (.return_, 1) := by decide +kernel
set_option maxRecDepth 20000 in
theorem k_J7_fill_d0a16 (l : Launch) (hfl : l.stackTraces = false) (D : va_G) (aT : Nat → ClassId) (a n : Nat) (f : Nat → Int64) (x : Int64) (hn : n < 2 ^ 31) : CxG l yJ7_fill_d0a16 cJ7_fill_d0a16 5 none 0 0 0 0 D aT [.ref a, .long x] [(a, .inl (aT 2, n, .inr (.inl f)))] (qV D aT (fun W1 => ∃ g : Nat → Int64, (∀ j, j < n → g j = x) ∧ W1 = ([(a, .inl (aT 2, n, .inr (.inl g)))] : va_W))) (fun _ _ => False) := by
  refine CxG.of RJ7 (by decide +kernel) rfl (Nat.le_of_ble_eq_true rfl) ?_
  intro p e s m below meth c A ls C hml hl hA hr hlocks hex hnm hZ hW
  have hl : lv_has ls 5 [(0, .ref a), (1, .long x)] := hl
  have hx := C.1
  have hb := C.2.1
  refine lv_iconst (v := nI 0) hx hb dJ7_fill_d0a16_0 (by decide) ?_
  refine lv_istore_n (lv' := [(3, .int (nI 0)), (0, .ref a), (1, .long x)]) hx hb dJ7_fill_d0a16_1 rfl hl (by decide) rfl (fun ls hl => ?_)
  refine lv_aload_n hx hb dJ7_fill_d0a16_2 rfl (lv_at hl 1 rfl) ?_
  refine va_alen (v := nI n) hx hb C.2.2.2.2 hW.1 0 2 rfl rfl rfl dJ7_fill_d0a16_3 ?_
  refine lv_istore (lv' := [(4, .int (nI n)), (3, .int (nI 0)), (0, .ref a), (1, .long x)]) hx hb dJ7_fill_d0a16_4 hl (by decide) rfl (fun ls hl => ?_)
  refine W_loopH (σ := Nat × (Nat → Int64)) (fun z => n - z.1) (fun z H locs g => ∃ ls, g = F0 m 6 ls [] ∧ lv_has ls 5 [(3, .int (nI z.1)), (4, .int (nI n)), (0, .ref a), (1, .long x)] ∧ CxB D [(a, .inl (aT 2, n, .inr (.inl z.2)))] A s.heap H locs ∧ z.1 ≤ n ∧ ∀ j, j < z.1 → z.2 j = x) ?_ (0, f) _ ⟨_, rfl, lv_sub hl [1, 0, 2, 3] rfl, hW, Nat.zero_le _, fun j hj => absurd hj (Nat.not_lt_zero j)⟩
  clear hW hl
  rintro ⟨i, f⟩ H locs g ⟨ls, rfl, hl, hW, hi, hf9⟩ ih
  dsimp only at hl hW hi hf9 ⊢
  refine lv_iload_n hx hb dJ7_fill_d0a16_6 rfl (lv_at hl 0 rfl) ?_
  refine lv_iload hx hb dJ7_fill_d0a16_7 (lv_at hl 1 rfl) ?_
  refine r_geN hx hb (a := i) (b := n) (by omega) hn (tgt := 22) dJ7_fill_d0a16_9 (by decide) (fun h => ?_) (fun h => ?_)
  · exact cx_vret C hr hlocks hW ⟨Nat.le_refl _, Nat.le_refl _⟩ ⟨_, fun j hj => hf9 j (by omega), rfl⟩ dJ7_fill_d0a16_22
  · refine lv_aload_n hx hb dJ7_fill_d0a16_12 rfl (lv_at hl 2 rfl) ?_
    refine lv_iload_n hx hb dJ7_fill_d0a16_13 rfl (lv_at hl 0 rfl) ?_
    refine lv_lload_n hx hb dJ7_fill_d0a16_14 rfl (lv_at hl 3 rfl) ?_
    refine cx_last C hW 0 2 (j := i) (W1 := [(a, .inl (aT 2, n, .inr (.inl (vp_updL f i x))))]) rfl rfl rfl h hn rfl dJ7_fill_d0a16_15 (fun H locs hW => ?_)
    refine lv_iinc (v := nI (i + 1)) (lv' := [(3, .int (nI (i + 1))), (4, .int (nI n)), (0, .ref a), (1, .long x)]) hx hb dJ7_fill_d0a16_16 hl (k := 0) rfl (nI_1 _) (by decide) rfl (fun ls hl => ?_)
    refine lv_goto (tgt := 6) hx hb dJ7_fill_d0a16_19 (by decide) ?_
    exact ih (i + 1, (vp_updL f i x)) _ _ _ (by dsimp only; omega) ⟨_, rfl, hl, hW, h, fill_l hf9⟩
theorem dX8_commonByClimbing_0 : decode cX8_commonByClimbing 0 = .ok (.iload_n 2, 1) := by decide +kernel
theorem dX8_commonByClimbing_1 : decode cX8_commonByClimbing 1 = .ok (.istore 4, 2) := by decide +kernel
theorem dX8_commonByClimbing_3 : decode cX8_commonByClimbing 3 = .ok (.iload_n 3, 1) := by decide +kernel
theorem dX8_commonByClimbing_4 : decode cX8_commonByClimbing 4 = .ok (.istore 5, 2) := by decide +kernel
theorem dX8_commonByClimbing_6 : decode cX8_commonByClimbing 6 = .ok (.aload_n 1, 1) := by decide +kernel
theorem dX8_commonByClimbing_7 : decode cX8_commonByClimbing 7 = .ok (.iload 4, 2) := by decide +kernel
theorem dX8_commonByClimbing_9 : decode cX8_commonByClimbing 9 = .ok (.invokevirtual 31, 3) := by decide +kernel
theorem dX8_commonByClimbing_12 : decode cX8_commonByClimbing 12 = .ok (.istore 6, 2) := by decide +kernel
theorem dX8_commonByClimbing_14 : decode cX8_commonByClimbing 14 = .ok (.aload_n 1, 1) := by decide +kernel
theorem dX8_commonByClimbing_15 : decode cX8_commonByClimbing 15 = .ok (.iload 5, 2) := by decide +kernel
theorem dX8_commonByClimbing_17 : decode cX8_commonByClimbing 17 = .ok (.invokevirtual 31, 3) := by decide +kernel
theorem dX8_commonByClimbing_20 : decode cX8_commonByClimbing 20 = .ok (.istore 7, 2) := by decide +kernel
theorem dX8_commonByClimbing_22 : decode cX8_commonByClimbing 22 = .ok (.iconst 0, 1) := by decide +kernel
theorem dX8_commonByClimbing_23 : decode cX8_commonByClimbing 23 = .ok (.istore 8, 2) := by decide +kernel
theorem dX8_commonByClimbing_25 : decode cX8_commonByClimbing 25 = .ok (.iload 8, 2) := by decide +kernel
theorem dX8_commonByClimbing_27 : decode cX8_commonByClimbing 27 = .ok (.bipush 24, 2) := by decide +kernel
theorem dX8_commonByClimbing_29 : decode cX8_commonByClimbing 29 = .ok (.if_icmp .ge 62, 3) := by decide +kernel
theorem dX8_commonByClimbing_32 : decode cX8_commonByClimbing 32 = .ok (.iload 4, 2) := by decide +kernel
theorem dX8_commonByClimbing_34 : decode cX8_commonByClimbing 34 = .ok (.iload 5, 2) := by decide +kernel
theorem dX8_commonByClimbing_36 : decode cX8_commonByClimbing 36 = .ok (.if_icmp .eq 55, 3) := by decide +kernel
theorem dX8_commonByClimbing_39 : decode cX8_commonByClimbing 39 = .ok (.iload 6, 2) := by decide +kernel
theorem dX8_commonByClimbing_41 : decode cX8_commonByClimbing 41 = .ok (.ifCond .ne 10, 3) := by decide +kernel
theorem dX8_commonByClimbing_44 : decode cX8_commonByClimbing 44 = .ok (.iload 7, 2) := by decide +kernel
theorem dX8_commonByClimbing_46 : decode cX8_commonByClimbing 46 = .ok (.ifCond .ne 5, 3) := by decide +kernel
theorem dX8_commonByClimbing_49 : decode cX8_commonByClimbing 49 = .ok (.iconst (-1), 1) := by decide +kernel
theorem dX8_commonByClimbing_50 : decode cX8_commonByClimbing 50 = .ok (.ireturn, 1) := by decide +kernel
theorem dX8_commonByClimbing_51 : decode cX8_commonByClimbing 51 = .ok (.iload 6, 2) := by decide +kernel
theorem dX8_commonByClimbing_53 : decode cX8_commonByClimbing 53 = .ok (.iload 7, 2) := by decide +kernel
theorem dX8_commonByClimbing_55 : decode cX8_commonByClimbing 55 = .ok (.if_icmp .lt 18, 3) := by decide +kernel
theorem dX8_commonByClimbing_58 : decode cX8_commonByClimbing 58 = .ok (.aload_n 1, 1) := by decide +kernel
theorem dX8_commonByClimbing_59 : decode cX8_commonByClimbing 59 = .ok (.getfield 37, 3) := by decide +kernel
theorem dX8_commonByClimbing_62 : decode cX8_commonByClimbing 62 = .ok (.iload 4, 2) := by decide +kernel
theorem dX8_commonByClimbing_64 : decode cX8_commonByClimbing 64 = .ok (.iaload, 1) := by decide +kernel
theorem dX8_commonByClimbing_65 : decode cX8_commonByClimbing 65 = .ok (.istore 4, 2) := by decide +kernel
theorem dX8_commonByClimbing_67 : decode cX8_commonByClimbing 67 = .ok (.iinc 6 (-1), 3) := by decide +kernel
theorem dX8_commonByClimbing_70 : decode cX8_commonByClimbing 70 = .ok (.goto 15, 3) := by decide +kernel
theorem dX8_commonByClimbing_73 : decode cX8_commonByClimbing 73 = .ok (.aload_n 1, 1) := by decide +kernel
theorem dX8_commonByClimbing_74 : decode cX8_commonByClimbing 74 = .ok (.getfield 37, 3) := by decide +kernel
theorem dX8_commonByClimbing_77 : decode cX8_commonByClimbing 77 = .ok (.iload 5, 2) := by decide +kernel
theorem dX8_commonByClimbing_79 : decode cX8_commonByClimbing 79 = .ok (.iaload, 1) := by decide +kernel
theorem dX8_commonByClimbing_80 : decode cX8_commonByClimbing 80 = .ok (.istore 5, 2) := by decide +kernel
theorem dX8_commonByClimbing_82 : decode cX8_commonByClimbing 82 = .ok (.iinc 7 (-1), 3) := by decide +kernel
theorem dX8_commonByClimbing_85 : decode cX8_commonByClimbing 85 = .ok (.iinc 8 1, 3) := by decide +kernel
theorem dX8_commonByClimbing_88 : decode cX8_commonByClimbing 88 = .ok (.goto (-63), 3) := by decide +kernel
theorem dX8_commonByClimbing_91 : decode cX8_commonByClimbing 91 = .ok (.iload 4, 2) := by decide +kernel
theorem dX8_commonByClimbing_93 : decode cX8_commonByClimbing 93 = .ok (.ireturn, 1) := by decide +kernel
theorem gV_X8_X5_depthOf_31 : GoodIn gw (wsV RX8 31 RX5 yX5_depthOf (Cond.code yX5_depthOf cX5_depthOf 4 (some .int) :: gw)) := gdV gw_527 gw_528 gw_529 gw_70 gw_530
set_option maxHeartbeats 2000000 in
set_option maxRecDepth 20000 in
theorem k_X8_commonByClimbing (l : Launch) (hfl : l.stackTraces = false) (D : va_G) (aT : Nat → ClassId) (t0 : Nat) (t1 : Nat) (t2 : Nat) (t3 : Nat) (t4 : Nat) (t5 : Nat) (t6 : Nat) (r1 : Nat → Int32) (r2 : Nat → Int32) (r3 : Nat → Int32) (r4 : Nat → Int32) (r5 : Nat → Int64) (r6 : Nat → Int64) (a5 : Nat) (a6 : Nat) (a7 : Nat) (a8 : Nat) (a9 : Nat) (fI : Nat → Int32) (fN : Nat → Int32) (fW : Nat → Int32) (fP : Nat → Int32) (nm : Nat) (nx : Int32) (idn : Nat → Nat) (pr : Nat → Option Nat) (tn : Nat → Nat) (hO : MoC fI fN fP nm idn pr tn) (i : Nat) (j : Nat) (hi : i < nm) (hj : j < nm) : CxG l yX8_commonByClimbing cX8_commonByClimbing 9 (some (.int)) 1 0 0 23 D aT [.ref t0, .ref a5, .int (nI i), .int (nI j)] [(t0, .inr (11, [.ref t1, .ref t2, .ref t3, .ref t4, .ref t5, .ref t6])), (t1, .inl (aT 0, 12, .inl r1)), (t2, .inl (aT 0, 12, .inl r2)), (t3, .inl (aT 0, 12, .inl r3)), (t4, .inl (aT 0, 12, .inl r4)), (t5, .inl (aT 2, 12, .inr (.inl r5))), (t6, .inl (aT 2, 12, .inr (.inl r6))), (a5, .inr (8, [.ref a6, .ref a7, .ref a8, .ref a9, .int (nI nm), .int nx])), (a6, .inl (aT 0, 12, .inl fI)), (a7, .inl (aT 0, 12, .inl fN)), (a8, .inl (aT 0, 12, .inl fW)), (a9, .inl (aT 0, 12, .inl fP))] (qI D aT (fun r W1 => r = oi (cmF pr i j nm) ∧ W1 = ([(t0, .inr (11, [.ref t1, .ref t2, .ref t3, .ref t4, .ref t5, .ref t6])), (t1, .inl (aT 0, 12, .inl r1)), (t2, .inl (aT 0, 12, .inl r2)), (t3, .inl (aT 0, 12, .inl r3)), (t4, .inl (aT 0, 12, .inl r4)), (t5, .inl (aT 2, 12, .inr (.inl r5))), (t6, .inl (aT 2, 12, .inr (.inl r6))), (a5, .inr (8, [.ref a6, .ref a7, .ref a8, .ref a9, .int (nI nm), .int nx])), (a6, .inl (aT 0, 12, .inl fI)), (a7, .inl (aT 0, 12, .inl fN)), (a8, .inl (aT 0, 12, .inl fW)), (a9, .inl (aT 0, 12, .inl fP))] : va_W))) (fun _ _ => False) := by
  refine CxG.of RX8 (by decide +kernel) rfl (Nat.le_of_ble_eq_true rfl) ?_
  intro p e s m below meth c A ls C hml hl hA hr hlocks hex hnm hZ hW
  have hl : lv_has ls 9 [(0, .ref t0), (1, .ref a5), (2, .int (nI i)), (3, .int (nI j))] := hl
  have hx := C.1
  have hb := C.2.1
  refine lv_iload_n hx hb dX8_commonByClimbing_0 rfl (lv_at hl 2 rfl) ?_
  refine lv_istore (lv' := [(4, .int (nI i)), (0, .ref t0), (1, .ref a5), (2, .int (nI i)), (3, .int (nI j))]) hx hb dX8_commonByClimbing_1 hl (by decide) rfl (fun ls hl => ?_)
  refine lv_iload_n hx hb dX8_commonByClimbing_3 rfl (lv_at hl 4 rfl) ?_
  refine lv_istore (lv' := [(5, .int (nI j)), (4, .int (nI i)), (0, .ref t0), (1, .ref a5), (2, .int (nI i)), (3, .int (nI j))]) hx hb dX8_commonByClimbing_4 hl (by decide) rfl (fun ls hl => ?_)
  refine lv_aload_n hx hb dX8_commonByClimbing_6 rfl (lv_at hl 3 rfl) ?_
  refine lv_iload hx hb dX8_commonByClimbing_7 (lv_at hl 1 rfl) ?_
  refine cx_calli (Wr := [(t0, .inr (11, [.ref t1, .ref t2, .ref t3, .ref t4, .ref t5, .ref t6])), (t1, .inl (aT 0, 12, .inl r1)), (t2, .inl (aT 0, 12, .inl r2)), (t3, .inl (aT 0, 12, .inl r3)), (t4, .inl (aT 0, 12, .inl r4)), (t5, .inl (aT 2, 12, .inr (.inl r5))), (t6, .inl (aT 2, 12, .inr (.inl r6)))]) (cx_runV C hml hl.1 hZ hW hA (As := [.int (nI i)]) (rest := []) (k_X5_depthOf l hfl D aT a5 a6 a7 a8 a9 fI fN fW fP nm nx idn pr tn hO i hi) gV_X8_X5_depthOf_31 hV_X5_depthOf rfl ⟨Nat.le_of_ble_eq_true rfl, Nat.le_of_ble_eq_true rfl⟩ ⟨Nat.le_of_ble_eq_true rfl, Nat.le_of_ble_eq_true rfl⟩ [7, 8, 9, 10, 11] rfl (by decide) 7 8 rfl rfl rfl rfl (Nat.le_of_ble_eq_true rfl) dX8_commonByClimbing_9) hW hA [7, 8, 9, 10, 11] [0, 1, 2, 3, 4, 5, 6] rfl rfl (by decide) (by decide) (fun _ _ _ _ _ _ h9 => h9.elim) (fun r_9 W_9 H locs hq hW => ?_)
  obtain ⟨rfl, rfl⟩ := hq
  refine lv_istore (lv' := [(6, .int (nI (dep pr i))), (5, .int (nI j)), (4, .int (nI i)), (0, .ref t0), (1, .ref a5), (2, .int (nI i)), (3, .int (nI j))]) hx hb dX8_commonByClimbing_12 hl (by decide) rfl (fun ls hl => ?_)
  refine lv_aload_n hx hb dX8_commonByClimbing_14 rfl (lv_at hl 4 rfl) ?_
  refine lv_iload hx hb dX8_commonByClimbing_15 (lv_at hl 1 rfl) ?_
  refine cx_calli (Wr := [(t0, .inr (11, [.ref t1, .ref t2, .ref t3, .ref t4, .ref t5, .ref t6])), (t1, .inl (aT 0, 12, .inl r1)), (t2, .inl (aT 0, 12, .inl r2)), (t3, .inl (aT 0, 12, .inl r3)), (t4, .inl (aT 0, 12, .inl r4)), (t5, .inl (aT 2, 12, .inr (.inl r5))), (t6, .inl (aT 2, 12, .inr (.inl r6)))]) (cx_runV C hml hl.1 hZ hW hA (As := [.int (nI j)]) (rest := []) (k_X5_depthOf l hfl D aT a5 a6 a7 a8 a9 fI fN fW fP nm nx idn pr tn hO j hj) gV_X8_X5_depthOf_31 hV_X5_depthOf rfl ⟨Nat.le_of_ble_eq_true rfl, Nat.le_of_ble_eq_true rfl⟩ ⟨Nat.le_of_ble_eq_true rfl, Nat.le_of_ble_eq_true rfl⟩ [7, 8, 9, 10, 11] rfl (by decide) 7 8 rfl rfl rfl rfl (Nat.le_of_ble_eq_true rfl) dX8_commonByClimbing_17) hW hA [7, 8, 9, 10, 11] [0, 1, 2, 3, 4, 5, 6] rfl rfl (by decide) (by decide) (fun _ _ _ _ _ _ h9 => h9.elim) (fun r_17 W_17 H locs hq hW => ?_)
  obtain ⟨rfl, rfl⟩ := hq
  refine lv_istore (lv' := [(7, .int (nI (dep pr j))), (6, .int (nI (dep pr i))), (5, .int (nI j)), (4, .int (nI i)), (0, .ref t0), (1, .ref a5), (2, .int (nI i)), (3, .int (nI j))]) hx hb dX8_commonByClimbing_20 hl (by decide) rfl (fun ls hl => ?_)
  refine lv_iconst (v := nI 0) hx hb dX8_commonByClimbing_22 (by decide) ?_
  refine lv_istore (lv' := [(8, .int (nI 0)), (7, .int (nI (dep pr j))), (6, .int (nI (dep pr i))), (5, .int (nI j)), (4, .int (nI i)), (0, .ref t0), (1, .ref a5), (2, .int (nI i)), (3, .int (nI j))]) hx hb dX8_commonByClimbing_23 hl (by decide) rfl (fun ls hl => ?_)
  refine W_loopH (σ := Nat × Nat × Nat) (fun z_ => 24 - z_.2.2) (fun z_ H locs g => ∃ ls, g = F0 m 25 ls [] ∧ lv_has ls 9 [(8, .int (nI z_.2.2)), (7, .int (nI (dep pr z_.2.1))), (6, .int (nI (dep pr z_.1))), (5, .int (nI z_.2.1)), (4, .int (nI z_.1)), (3, .int (nI j)), (2, .int (nI i)), (1, .ref a5), (0, .ref t0)] ∧ CxB D [(t0, .inr (11, [.ref t1, .ref t2, .ref t3, .ref t4, .ref t5, .ref t6])), (t1, .inl (aT 0, 12, .inl r1)), (t2, .inl (aT 0, 12, .inl r2)), (t3, .inl (aT 0, 12, .inl r3)), (t4, .inl (aT 0, 12, .inl r4)), (t5, .inl (aT 2, 12, .inr (.inl r5))), (t6, .inl (aT 2, 12, .inr (.inl r6))), (a5, .inr (8, [.ref a6, .ref a7, .ref a8, .ref a9, .int (nI nm), .int nx])), (a6, .inl (aT 0, 12, .inl fI)), (a7, .inl (aT 0, 12, .inl fN)), (a8, .inl (aT 0, 12, .inl fW)), (a9, .inl (aT 0, 12, .inl fP))] A s.heap H locs ∧ z_.1 < nm ∧ z_.2.1 < nm ∧ z_.2.2 ≤ 24 ∧ CmS pr i j z_.1 z_.2.1 ∧ z_.2.2 + dep pr z_.1 + dep pr z_.2.1 = dep pr i + dep pr j) ?_ (i, j, 0) _ ⟨_, rfl, lv_sub hl [0, 1, 2, 3, 4, 8, 7, 6, 5] rfl, hW, ⟨hi, hj, by dsimp only; omega, CmS.refl, by dsimp only; omega⟩⟩
  clear hW hl
  rintro ⟨u, v, w⟩ H locs g ⟨ls, rfl, hl, hW, ⟨hu, hv, hw, hs, hd⟩⟩ ih_25
  dsimp only at hl hW hu hv hw hs hd ⊢
  refine lv_iload hx hb dX8_commonByClimbing_25 (lv_at hl 0 rfl) ?_
  refine lv_bipush (v := nI 24) hx hb dX8_commonByClimbing_27 (by decide) ?_
  refine r_geN hx hb (a := w) (b := 24) (by have h1 := hO.1; have := dep_le hO.2.2.2.1 _ hu; have := dep_le hO.2.2.2.1 _ hv; omega) (by have h1 := hO.1; have := dep_le hO.2.2.2.1 _ hu; have := dep_le hO.2.2.2.1 _ hv; omega) (tgt := 91) dX8_commonByClimbing_29 (by decide) (fun c_29 => ?_) (fun c_29 => ?_)
  · refine lv_iload hx hb dX8_commonByClimbing_91 (lv_at hl 4 rfl) ?_
    exact cx_iret C hr hlocks rfl hW ⟨Nat.le_of_ble_eq_true rfl, Nat.le_of_ble_eq_true rfl⟩ (⟨by exfalso; have h1 := hO.1; have h2 := dep_le hO.2.2.2.1 _ hi; have h3 := dep_le hO.2.2.2.1 _ hj; omega, rfl⟩) dX8_commonByClimbing_93
  · refine lv_iload hx hb dX8_commonByClimbing_32 (lv_at hl 4 rfl) ?_
    refine lv_iload hx hb dX8_commonByClimbing_34 (lv_at hl 3 rfl) ?_
    refine r_eqN hx hb (a := u) (b := v) (by have h1 := hO.1; have := dep_le hO.2.2.2.1 _ hu; have := dep_le hO.2.2.2.1 _ hv; omega) (by have h1 := hO.1; have := dep_le hO.2.2.2.1 _ hu; have := dep_le hO.2.2.2.1 _ hv; omega) (tgt := 91) dX8_commonByClimbing_36 (by decide) (fun c_36 => ?_) (fun c_36 => ?_)
    · refine lv_iload hx hb dX8_commonByClimbing_91 (lv_at hl 4 rfl) ?_
      exact cx_iret C hr hlocks rfl hW ⟨Nat.le_of_ble_eq_true rfl, Nat.le_of_ble_eq_true rfl⟩ (⟨by rw [hs.end_ hO.2.2.2.1 hi hu c_36]; rfl, rfl⟩) dX8_commonByClimbing_93
    · refine lv_iload hx hb dX8_commonByClimbing_39 (lv_at hl 2 rfl) ?_
      refine r_ifneN hx hb (a := dep pr u) (by have h1 := hO.1; have := dep_le hO.2.2.2.1 _ hu; have := dep_le hO.2.2.2.1 _ hv; omega) (tgt := 51) dX8_commonByClimbing_41 (by decide) (fun c_41 => ?_) (fun c_41 => ?_)
      · refine lv_iload hx hb dX8_commonByClimbing_51 (lv_at hl 2 rfl) ?_
        refine lv_iload hx hb dX8_commonByClimbing_53 (lv_at hl 1 rfl) ?_
        refine r_ltN hx hb (a := dep pr u) (b := dep pr v) (by have h1 := hO.1; have := dep_le hO.2.2.2.1 _ hu; have := dep_le hO.2.2.2.1 _ hv; omega) (by have h1 := hO.1; have := dep_le hO.2.2.2.1 _ hu; have := dep_le hO.2.2.2.1 _ hv; omega) (tgt := 73) dX8_commonByClimbing_55 (by decide) (fun c_55 => ?_) (fun c_55 => ?_)
        · obtain ⟨k_, hk1, hk2, hk3⟩ := dep_pos hO.2.2.2.1 hv (by omega)
          refine lv_aload_n hx hb dX8_commonByClimbing_73 rfl (lv_at hl 7 rfl) ?_
          refine cx_getN C hZ hW 7 3 rfl rfl (by decide) inX5 nw_158 rfl rfl dX8_commonByClimbing_74 ?_
          refine lv_iload hx hb dX8_commonByClimbing_77 (lv_at hl 3 rfl) ?_
          refine cx_ald C hW 11 0 (j := v) rfl rfl rfl (by have := hO.1; omega) (by decide) dX8_commonByClimbing_79 ?_
          refine r_eq (y := (nI k_)) (by rw [hO.2.2.1 v hv, hk1]; rfl) ?_
          refine lv_istore (lv' := [(5, .int (nI k_)), (8, .int (nI w)), (7, .int (nI (dep pr v))), (6, .int (nI (dep pr u))), (4, .int (nI u)), (3, .int (nI j)), (2, .int (nI i)), (1, .ref a5), (0, .ref t0)]) hx hb dX8_commonByClimbing_80 hl (by decide) rfl (fun ls hl => ?_)
          refine lv_iinc (v := (nI (dep pr k_))) (lv' := [(7, .int (nI (dep pr k_))), (5, .int (nI k_)), (8, .int (nI w)), (6, .int (nI (dep pr u))), (4, .int (nI u)), (3, .int (nI j)), (2, .int (nI i)), (1, .ref a5), (0, .ref t0)]) hx hb dX8_commonByClimbing_82 hl (k := 2) rfl (by rw [hk2]; exact pd_1 _) (by decide) rfl (fun ls hl => ?_)
          refine lv_iinc (v := (nI (w + 1))) (lv' := [(8, .int (nI (w + 1))), (7, .int (nI (dep pr k_))), (5, .int (nI k_)), (6, .int (nI (dep pr u))), (4, .int (nI u)), (3, .int (nI j)), (2, .int (nI i)), (1, .ref a5), (0, .ref t0)]) hx hb dX8_commonByClimbing_85 hl (k := 2) rfl (nI_1 _) (by decide) rfl (fun ls hl => ?_)
          refine lv_goto (tgt := 25) hx hb dX8_commonByClimbing_88 (by decide) ?_
          exact ih_25 (u, k_, (w + 1)) _ _ _ (by first | omega | (dsimp only; omega)) ⟨_, rfl, lv_sub hl [0, 1, 3, 2, 4, 5, 6, 7, 8] rfl, hW, ⟨by first | assumption | omega, by first | assumption | omega, by dsimp only; omega, hs.two hO.2.2.2.1 hu hv c_36 (by omega) hk1, by dsimp only; omega⟩⟩
        · obtain ⟨k_, hk1, hk2, hk3⟩ := dep_pos hO.2.2.2.1 hu (by omega)
          refine lv_aload_n hx hb dX8_commonByClimbing_58 rfl (lv_at hl 7 rfl) ?_
          refine cx_getN C hZ hW 7 3 rfl rfl (by decide) inX5 nw_158 rfl rfl dX8_commonByClimbing_59 ?_
          refine lv_iload hx hb dX8_commonByClimbing_62 (lv_at hl 4 rfl) ?_
          refine cx_ald C hW 11 0 (j := u) rfl rfl rfl (by have := hO.1; omega) (by decide) dX8_commonByClimbing_64 ?_
          refine r_eq (y := (nI k_)) (by rw [hO.2.2.1 u hu, hk1]; rfl) ?_
          refine lv_istore (lv' := [(4, .int (nI k_)), (8, .int (nI w)), (7, .int (nI (dep pr v))), (6, .int (nI (dep pr u))), (5, .int (nI v)), (3, .int (nI j)), (2, .int (nI i)), (1, .ref a5), (0, .ref t0)]) hx hb dX8_commonByClimbing_65 hl (by decide) rfl (fun ls hl => ?_)
          refine lv_iinc (v := (nI (dep pr k_))) (lv' := [(6, .int (nI (dep pr k_))), (4, .int (nI k_)), (8, .int (nI w)), (7, .int (nI (dep pr v))), (5, .int (nI v)), (3, .int (nI j)), (2, .int (nI i)), (1, .ref a5), (0, .ref t0)]) hx hb dX8_commonByClimbing_67 hl (k := 3) rfl (by rw [hk2]; exact pd_1 _) (by decide) rfl (fun ls hl => ?_)
          refine lv_goto (tgt := 85) hx hb dX8_commonByClimbing_70 (by decide) ?_
          refine lv_iinc (v := (nI (w + 1))) (lv' := [(8, .int (nI (w + 1))), (6, .int (nI (dep pr k_))), (4, .int (nI k_)), (7, .int (nI (dep pr v))), (5, .int (nI v)), (3, .int (nI j)), (2, .int (nI i)), (1, .ref a5), (0, .ref t0)]) hx hb dX8_commonByClimbing_85 hl (k := 2) rfl (nI_1 _) (by decide) rfl (fun ls hl => ?_)
          refine lv_goto (tgt := 25) hx hb dX8_commonByClimbing_88 (by decide) ?_
          exact ih_25 (k_, v, (w + 1)) _ _ _ (by first | omega | (dsimp only; omega)) ⟨_, rfl, lv_sub hl [0, 3, 1, 4, 2, 5, 6, 7, 8] rfl, hW, ⟨by first | assumption | omega, by first | assumption | omega, by dsimp only; omega, hs.one hO.2.2.2.1 hu hv c_36 (by omega) hk1, by dsimp only; omega⟩⟩
      · refine lv_iload hx hb dX8_commonByClimbing_44 (lv_at hl 1 rfl) ?_
        refine r_ifneN hx hb (a := dep pr v) (by have h1 := hO.1; have := dep_le hO.2.2.2.1 _ hu; have := dep_le hO.2.2.2.1 _ hv; omega) (tgt := 51) dX8_commonByClimbing_46 (by decide) (fun c_46 => ?_) (fun c_46 => ?_)
        · refine lv_iload hx hb dX8_commonByClimbing_51 (lv_at hl 2 rfl) ?_
          refine lv_iload hx hb dX8_commonByClimbing_53 (lv_at hl 1 rfl) ?_
          refine r_ltN hx hb (a := dep pr u) (b := dep pr v) (by have h1 := hO.1; have := dep_le hO.2.2.2.1 _ hu; have := dep_le hO.2.2.2.1 _ hv; omega) (by have h1 := hO.1; have := dep_le hO.2.2.2.1 _ hu; have := dep_le hO.2.2.2.1 _ hv; omega) (tgt := 73) dX8_commonByClimbing_55 (by decide) (fun c_55 => ?_) (fun c_55 => ?_)
          · obtain ⟨k_, hk1, hk2, hk3⟩ := dep_pos hO.2.2.2.1 hv (by omega)
            refine lv_aload_n hx hb dX8_commonByClimbing_73 rfl (lv_at hl 7 rfl) ?_
            refine cx_getN C hZ hW 7 3 rfl rfl (by decide) inX5 nw_158 rfl rfl dX8_commonByClimbing_74 ?_
            refine lv_iload hx hb dX8_commonByClimbing_77 (lv_at hl 3 rfl) ?_
            refine cx_ald C hW 11 0 (j := v) rfl rfl rfl (by have := hO.1; omega) (by decide) dX8_commonByClimbing_79 ?_
            refine r_eq (y := (nI k_)) (by rw [hO.2.2.1 v hv, hk1]; rfl) ?_
            refine lv_istore (lv' := [(5, .int (nI k_)), (8, .int (nI w)), (7, .int (nI (dep pr v))), (6, .int (nI (dep pr u))), (4, .int (nI u)), (3, .int (nI j)), (2, .int (nI i)), (1, .ref a5), (0, .ref t0)]) hx hb dX8_commonByClimbing_80 hl (by decide) rfl (fun ls hl => ?_)
            refine lv_iinc (v := (nI (dep pr k_))) (lv' := [(7, .int (nI (dep pr k_))), (5, .int (nI k_)), (8, .int (nI w)), (6, .int (nI (dep pr u))), (4, .int (nI u)), (3, .int (nI j)), (2, .int (nI i)), (1, .ref a5), (0, .ref t0)]) hx hb dX8_commonByClimbing_82 hl (k := 2) rfl (by rw [hk2]; exact pd_1 _) (by decide) rfl (fun ls hl => ?_)
            refine lv_iinc (v := (nI (w + 1))) (lv' := [(8, .int (nI (w + 1))), (7, .int (nI (dep pr k_))), (5, .int (nI k_)), (6, .int (nI (dep pr u))), (4, .int (nI u)), (3, .int (nI j)), (2, .int (nI i)), (1, .ref a5), (0, .ref t0)]) hx hb dX8_commonByClimbing_85 hl (k := 2) rfl (nI_1 _) (by decide) rfl (fun ls hl => ?_)
            refine lv_goto (tgt := 25) hx hb dX8_commonByClimbing_88 (by decide) ?_
            exact ih_25 (u, k_, (w + 1)) _ _ _ (by first | omega | (dsimp only; omega)) ⟨_, rfl, lv_sub hl [0, 1, 3, 2, 4, 5, 6, 7, 8] rfl, hW, ⟨by first | assumption | omega, by first | assumption | omega, by dsimp only; omega, hs.two hO.2.2.2.1 hu hv c_36 (by omega) hk1, by dsimp only; omega⟩⟩
          · obtain ⟨k_, hk1, hk2, hk3⟩ := dep_pos hO.2.2.2.1 hu (by omega)
            refine lv_aload_n hx hb dX8_commonByClimbing_58 rfl (lv_at hl 7 rfl) ?_
            refine cx_getN C hZ hW 7 3 rfl rfl (by decide) inX5 nw_158 rfl rfl dX8_commonByClimbing_59 ?_
            refine lv_iload hx hb dX8_commonByClimbing_62 (lv_at hl 4 rfl) ?_
            refine cx_ald C hW 11 0 (j := u) rfl rfl rfl (by have := hO.1; omega) (by decide) dX8_commonByClimbing_64 ?_
            refine r_eq (y := (nI k_)) (by rw [hO.2.2.1 u hu, hk1]; rfl) ?_
            refine lv_istore (lv' := [(4, .int (nI k_)), (8, .int (nI w)), (7, .int (nI (dep pr v))), (6, .int (nI (dep pr u))), (5, .int (nI v)), (3, .int (nI j)), (2, .int (nI i)), (1, .ref a5), (0, .ref t0)]) hx hb dX8_commonByClimbing_65 hl (by decide) rfl (fun ls hl => ?_)
            refine lv_iinc (v := (nI (dep pr k_))) (lv' := [(6, .int (nI (dep pr k_))), (4, .int (nI k_)), (8, .int (nI w)), (7, .int (nI (dep pr v))), (5, .int (nI v)), (3, .int (nI j)), (2, .int (nI i)), (1, .ref a5), (0, .ref t0)]) hx hb dX8_commonByClimbing_67 hl (k := 3) rfl (by rw [hk2]; exact pd_1 _) (by decide) rfl (fun ls hl => ?_)
            refine lv_goto (tgt := 85) hx hb dX8_commonByClimbing_70 (by decide) ?_
            refine lv_iinc (v := (nI (w + 1))) (lv' := [(8, .int (nI (w + 1))), (6, .int (nI (dep pr k_))), (4, .int (nI k_)), (7, .int (nI (dep pr v))), (5, .int (nI v)), (3, .int (nI j)), (2, .int (nI i)), (1, .ref a5), (0, .ref t0)]) hx hb dX8_commonByClimbing_85 hl (k := 2) rfl (nI_1 _) (by decide) rfl (fun ls hl => ?_)
            refine lv_goto (tgt := 25) hx hb dX8_commonByClimbing_88 (by decide) ?_
            exact ih_25 (k_, v, (w + 1)) _ _ _ (by first | omega | (dsimp only; omega)) ⟨_, rfl, lv_sub hl [0, 3, 1, 4, 2, 5, 6, 7, 8] rfl, hW, ⟨by first | assumption | omega, by first | assumption | omega, by dsimp only; omega, hs.one hO.2.2.2.1 hu hv c_36 (by omega) hk1, by dsimp only; omega⟩⟩
        · refine lv_iconst (v := (-1)) hx hb dX8_commonByClimbing_49 (by decide) ?_
          exact cx_iret C hr hlocks rfl hW ⟨Nat.le_of_ble_eq_true rfl, Nat.le_of_ble_eq_true rfl⟩ (⟨by rw [hs.non hO.2.2.2.1 hu hv c_36 c_41 c_46]; rfl, rfl⟩) dX8_commonByClimbing_50
theorem dX8_fillRow_0 : decode cX8_fillRow 0 = .ok (.aload_n 0, 1) := by decide +kernel
theorem dX8_fillRow_1 : decode cX8_fillRow 1 = .ok (.iload_n 1, 1) := by decide +kernel
theorem dX8_fillRow_2 : decode cX8_fillRow 2 = .ok (.invokevirtual 31, 3) := by decide +kernel
theorem dX8_fillRow_5 : decode cX8_fillRow 5 = .ok (.istore_n 3, 1) := by decide +kernel
theorem dX8_fillRow_6 : decode cX8_fillRow 6 = .ok (.iload_n 1, 1) := by decide +kernel
theorem dX8_fillRow_7 : decode cX8_fillRow 7 = .ok (.istore 4, 2) := by decide +kernel
theorem dX8_fillRow_9 : decode cX8_fillRow 9 = .ok (.iload_n 3, 1) := by decide +kernel
theorem dX8_fillRow_10 : decode cX8_fillRow 10 = .ok (.istore 5, 2) := by decide +kernel
theorem dX8_fillRow_12 : decode cX8_fillRow 12 = .ok (.iload 5, 2) := by decide +kernel
theorem dX8_fillRow_14 : decode cX8_fillRow 14 = .ok (.ifCond .lt 24, 3) := by decide +kernel
theorem dX8_fillRow_17 : decode cX8_fillRow 17 = .ok (.aload_n 2, 1) := by decide +kernel
theorem dX8_fillRow_18 : decode cX8_fillRow 18 = .ok (.iload 5, 2) := by decide +kernel
theorem dX8_fillRow_20 : decode cX8_fillRow 20 = .ok (.iload 4, 2) := by decide +kernel
theorem dX8_fillRow_22 : decode cX8_fillRow 22 = .ok (.iastore, 1) := by decide +kernel
theorem dX8_fillRow_23 : decode cX8_fillRow 23 = .ok (.aload_n 0, 1) := by decide +kernel
theorem dX8_fillRow_24 : decode cX8_fillRow 24 = .ok (.getfield 37, 3) := by decide +kernel
theorem dX8_fillRow_27 : decode cX8_fillRow 27 = .ok (.iload 4, 2) := by decide +kernel
theorem dX8_fillRow_29 : decode cX8_fillRow 29 = .ok (.iaload, 1) := by decide +kernel
theorem dX8_fillRow_30 : decode cX8_fillRow 30 = .ok (.istore 4, 2) := by decide +kernel
theorem dX8_fillRow_32 : decode cX8_fillRow 32 = .ok (.iinc 5 (-1), 3) := by decide +kernel
theorem dX8_fillRow_35 : decode cX8_fillRow 35 = .ok (.goto (-23), 3) := by decide +kernel
theorem dX8_fillRow_38 : decode cX8_fillRow 38 = .ok (.iload_n 3, 1) := by decide +kernel
theorem dX8_fillRow_39 : decode cX8_fillRow 39 = .ok (.iconst 1, 1) := by decide +kernel
theorem dX8_fillRow_40 : decode cX8_fillRow 40 = .ok (.iadd, 1) := by decide +kernel
theorem dX8_fillRow_41 : decode cX8_fillRow 41 = .ok (.ireturn, 1) := by decide +kernel
set_option maxHeartbeats 2000000 in
set_option maxRecDepth 20000 in
theorem k_X8_fillRow (l : Launch) (hfl : l.stackTraces = false) (D : va_G) (aT : Nat → ClassId) (a5 : Nat) (a6 : Nat) (a7 : Nat) (a8 : Nat) (a9 : Nat) (fI : Nat → Int32) (fN : Nat → Int32) (fW : Nat → Int32) (fP : Nat → Int32) (nm : Nat) (nx : Int32) (idn : Nat → Nat) (pr : Nat → Option Nat) (tn : Nat → Nat) (hO : MoC fI fN fP nm idn pr tn) (z0 : Nat) (rr : Nat → Int32) (k : Nat) (hk : k < nm) : CxG l yX8_fillRow cX8_fillRow 6 (some (.int)) 1 0 0 23 D aT [.ref a5, .int (nI k), .ref z0] [(a5, .inr (8, [.ref a6, .ref a7, .ref a8, .ref a9, .int (nI nm), .int nx])), (a6, .inl (aT 0, 12, .inl fI)), (a7, .inl (aT 0, 12, .inl fN)), (a8, .inl (aT 0, 12, .inl fW)), (a9, .inl (aT 0, 12, .inl fP)), (z0, .inl (aT 0, 12, .inl rr))] (qI D aT (fun r W1 => ∃ g1 : Nat → Int32, (RwP pr nm k 0 g1) ∧ r = nI (dep pr k + 1) ∧ W1 = ([(a5, .inr (8, [.ref a6, .ref a7, .ref a8, .ref a9, .int (nI nm), .int nx])), (a6, .inl (aT 0, 12, .inl fI)), (a7, .inl (aT 0, 12, .inl fN)), (a8, .inl (aT 0, 12, .inl fW)), (a9, .inl (aT 0, 12, .inl fP)), (z0, .inl (aT 0, 12, .inl g1))] : va_W))) (fun _ _ => False) := by
  refine CxG.of RX8 (by decide +kernel) rfl (Nat.le_of_ble_eq_true rfl) ?_
  intro p e s m below meth c A ls C hml hl hA hr hlocks hex hnm hZ hW
  have hl : lv_has ls 6 [(0, .ref a5), (1, .int (nI k)), (2, .ref z0)] := hl
  have hx := C.1
  have hb := C.2.1
  refine lv_aload_n hx hb dX8_fillRow_0 rfl (lv_at hl 0 rfl) ?_
  refine lv_iload_n hx hb dX8_fillRow_1 rfl (lv_at hl 1 rfl) ?_
  refine cx_calli (Wr := [(z0, .inl (aT 0, 12, .inl rr))]) (cx_runV C hml hl.1 hZ hW hA (As := [.int (nI k)]) (rest := []) (k_X5_depthOf l hfl D aT a5 a6 a7 a8 a9 fI fN fW fP nm nx idn pr tn hO k hk) gV_X8_X5_depthOf_31 hV_X5_depthOf rfl ⟨Nat.le_of_ble_eq_true rfl, Nat.le_of_ble_eq_true rfl⟩ ⟨Nat.le_of_ble_eq_true rfl, Nat.le_of_ble_eq_true rfl⟩ [0, 1, 2, 3, 4] rfl (by decide) 0 8 rfl rfl rfl rfl (Nat.le_of_ble_eq_true rfl) dX8_fillRow_2) hW hA [0, 1, 2, 3, 4] [5] rfl rfl (by decide) (by decide) (fun _ _ _ _ _ _ h9 => h9.elim) (fun r_2 W_2 H locs hq hW => ?_)
  obtain ⟨rfl, rfl⟩ := hq
  refine lv_istore_n (lv' := [(3, .int (nI (dep pr k))), (0, .ref a5), (1, .int (nI k)), (2, .ref z0)]) hx hb dX8_fillRow_5 rfl hl (by decide) rfl (fun ls hl => ?_)
  refine lv_iload_n hx hb dX8_fillRow_6 rfl (lv_at hl 2 rfl) ?_
  refine lv_istore (lv' := [(4, .int (nI k)), (3, .int (nI (dep pr k))), (0, .ref a5), (1, .int (nI k)), (2, .ref z0)]) hx hb dX8_fillRow_7 hl (by decide) rfl (fun ls hl => ?_)
  refine lv_iload_n hx hb dX8_fillRow_9 rfl (lv_at hl 1 rfl) ?_
  refine lv_istore (lv' := [(5, .int (nI (dep pr k))), (4, .int (nI k)), (3, .int (nI (dep pr k))), (0, .ref a5), (1, .int (nI k)), (2, .ref z0)]) hx hb dX8_fillRow_10 hl (by decide) rfl (fun ls hl => ?_)
  have hl : lv_has ls 6 [(5, .int (nI (depO pr (some k)) + -1)), (4, .int (oi (some k))), (3, .int (nI (dep pr k))), (0, .ref a5), (1, .int (nI k)), (2, .ref z0)] := by
    rw [show nI (depO pr (some k)) + -1 = nI (dep pr k) from pd_1 _]
    exact hl
  refine W_loopH (σ := Option Nat × (Nat → Int32)) (fun z_ => oM z_.1) (fun z_ H locs g => ∃ ls, g = F0 m 12 ls [] ∧ lv_has ls 6 [(5, .int (nI (depO pr z_.1) + -1)), (4, .int (oi z_.1)), (3, .int (nI (dep pr k))), (2, .ref z0), (1, .int (nI k)), (0, .ref a5)] ∧ CxB D [(z0, .inl (aT 0, 12, .inl z_.2)), (a5, .inr (8, [.ref a6, .ref a7, .ref a8, .ref a9, .int (nI nm), .int nx])), (a6, .inl (aT 0, 12, .inl fI)), (a7, .inl (aT 0, 12, .inl fN)), (a8, .inl (aT 0, 12, .inl fW)), (a9, .inl (aT 0, 12, .inl fP))] A s.heap H locs ∧ (∀ j, z_.1 = some j → j < nm ∧ dep pr j ≤ dep pr k ∧ anc pr j k = true) ∧ RwP pr nm k (depO pr z_.1) z_.2) ?_ ((some k), rr) _ ⟨_, rfl, lv_sub hl [0, 1, 2, 5, 4, 3] rfl, hW, ⟨fun j hj => by cases hj; exact ⟨hk, Nat.le_refl _, anc_self pr k⟩, fun q h1 h2 => absurd (show dep pr k + 1 ≤ q from h1) (by omega)⟩⟩
  clear hW hl
  rintro ⟨o, f⟩ H locs g ⟨ls, rfl, hl, hW, ⟨hon, hf⟩⟩ ih_12
  dsimp only at hl hW hon hf ⊢
  cases o with
  | none =>
    have hl : lv_has ls 6 [(5, .int (nI 0 + -1)), (4, .int (-1)), (3, .int (nI (dep pr k))), (2, .ref z0), (1, .int (nI k)), (0, .ref a5)] := hl
    refine lv_iload hx hb dX8_fillRow_12 (lv_at hl 0 rfl) ?_
    refine lv_if_lt hx hb (x := (nI 0 + -1)) (tgt := 38) dX8_fillRow_14 (by decide) (fun c_14 => ?_) (fun c_14 => ?_)
    · refine lv_iload_n hx hb dX8_fillRow_38 rfl (lv_at hl 2 rfl) ?_
      refine lv_iconst (v := nI 1) hx hb dX8_fillRow_39 (by decide) ?_
      refine r_iaddN hx hb (a := dep pr k) (b := 1) dX8_fillRow_40 ?_
      have hW : CxB D [(a5, .inr (8, [.ref a6, .ref a7, .ref a8, .ref a9, .int (nI nm), .int nx])), (a6, .inl (aT 0, 12, .inl fI)), (a7, .inl (aT 0, 12, .inl fN)), (a8, .inl (aT 0, 12, .inl fW)), (a9, .inl (aT 0, 12, .inl fP)), (z0, .inl (aT 0, 12, .inl f))] A s.heap H _ := cx_drop hW [1, 2, 3, 4, 5, 0] rfl (by decide)
      exact cx_iret C hr hlocks rfl hW ⟨Nat.le_of_ble_eq_true rfl, Nat.le_of_ble_eq_true rfl⟩ (⟨f, hf, rfl, rfl⟩) dX8_fillRow_41
    · exact absurd (by decide) c_14
  | some j_ =>
    have hl : lv_has ls 6 [(5, .int (nI (dep pr j_))), (4, .int (nI j_)), (3, .int (nI (dep pr k))), (2, .ref z0), (1, .int (nI k)), (0, .ref a5)] := by
      rw [show nI (dep pr j_) = nI (depO pr (some j_)) + -1 from (pd_1 _).symm]
      exact hl
    refine lv_iload hx hb dX8_fillRow_12 (lv_at hl 0 rfl) ?_
    refine lv_if_lt hx hb (x := (nI (dep pr j_))) (tgt := 38) dX8_fillRow_14 (by decide) (fun c_14 => ?_) (fun c_14 => ?_)
    · exact absurd c_14 (nI_pos (by have h1 := hO.1; have h2 := (hon _ rfl).1; have h3 := dep_le hO.2.2.2.1 _ h2; omega))
    · refine lv_aload_n hx hb dX8_fillRow_17 rfl (lv_at hl 3 rfl) ?_
      refine lv_iload hx hb dX8_fillRow_18 (lv_at hl 0 rfl) ?_
      refine lv_iload hx hb dX8_fillRow_20 (lv_at hl 1 rfl) ?_
      refine cx_ast C hW 0 0 (j := dep pr j_) (W1 := [(z0, .inl (aT 0, 12, .inl (upd f (dep pr j_) ((nI j_))))), (a5, .inr (8, [.ref a6, .ref a7, .ref a8, .ref a9, .int (nI nm), .int nx])), (a6, .inl (aT 0, 12, .inl fI)), (a7, .inl (aT 0, 12, .inl fN)), (a8, .inl (aT 0, 12, .inl fW)), (a9, .inl (aT 0, 12, .inl fP))]) rfl rfl rfl (by have h1 := hO.1; have h2 := (hon _ rfl).1; have h3 := dep_le hO.2.2.2.1 _ h2; omega) (by decide) rfl dX8_fillRow_22 (fun H locs hW => ?_)
      refine lv_aload_n hx hb dX8_fillRow_23 rfl (lv_at hl 5 rfl) ?_
      refine cx_getN C hZ hW 1 3 rfl rfl (by decide) inX5 nw_158 rfl rfl dX8_fillRow_24 ?_
      refine lv_iload hx hb dX8_fillRow_27 (lv_at hl 1 rfl) ?_
      refine cx_ald C hW 5 0 (j := j_) rfl rfl rfl (by have h1 := hO.1; have h2 := (hon _ rfl).1; have h3 := dep_le hO.2.2.2.1 _ h2; omega) (by decide) dX8_fillRow_29 ?_
      refine r_eq (y := (oi (pr j_))) (hO.2.2.1 _ (hon _ rfl).1) ?_
      refine lv_istore (lv' := [(4, .int (oi (pr j_))), (5, .int (nI (dep pr j_))), (3, .int (nI (dep pr k))), (2, .ref z0), (1, .int (nI k)), (0, .ref a5)]) hx hb dX8_fillRow_30 hl (by decide) rfl (fun ls hl => ?_)
      refine lv_iinc (v := (nI (depO pr (pr j_)) + -1)) (lv' := [(5, .int (nI (depO pr (pr j_)) + -1)), (4, .int (oi (pr j_))), (3, .int (nI (dep pr k))), (2, .ref z0), (1, .int (nI k)), (0, .ref a5)]) hx hb dX8_fillRow_32 hl (k := 1) rfl (by rw [← dep_O hO.2.2.2.1 (hon _ rfl).1]; rfl) (by decide) rfl (fun ls hl => ?_)
      refine lv_goto (tgt := 12) hx hb dX8_fillRow_35 (by decide) ?_
      exact ih_12 ((pr j_), (upd f (dep pr j_) ((nI j_)))) _ _ _ (oM_lt hO.2.2.2.1 (hon _ rfl).1) ⟨_, rfl, lv_sub hl [0, 1, 2, 3, 4, 5] rfl, hW, ⟨fun i hi => by have h1 := hO.2.2.2.1 j_ i (hon _ rfl).1 hi; have h2 := (hon _ rfl).1; have h4 := (hon _ rfl).2.1; have h3 := dep_some hO.2.2.2.1 h2 hi; exact ⟨by omega, by omega, anc_tr hO.2.2.2.1 (anc_dn hO.2.2.2.1 h2 hi (anc_self pr i)) k hk (hon _ rfl).2.2⟩, RwP.step hO.2.2.2.1 (hon _ rfl).1 (hon _ rfl).2.2 hf⟩⟩
theorem dX8_commonByRows_0 : decode cX8_commonByRows 0 = .ok (.aload_n 1, 1) := by decide +kernel
theorem dX8_commonByRows_1 : decode cX8_commonByRows 1 = .ok (.iload_n 2, 1) := by decide +kernel
theorem dX8_commonByRows_2 : decode cX8_commonByRows 2 = .ok (.aload_n 0, 1) := by decide +kernel
theorem dX8_commonByRows_3 : decode cX8_commonByRows 3 = .ok (.getfield 9, 3) := by decide +kernel
theorem dX8_commonByRows_6 : decode cX8_commonByRows 6 = .ok (.invokestatic 40, 3) := by decide +kernel
theorem dX8_commonByRows_9 : decode cX8_commonByRows 9 = .ok (.istore 4, 2) := by decide +kernel
theorem dX8_commonByRows_11 : decode cX8_commonByRows 11 = .ok (.aload_n 1, 1) := by decide +kernel
theorem dX8_commonByRows_12 : decode cX8_commonByRows 12 = .ok (.iload_n 3, 1) := by decide +kernel
theorem dX8_commonByRows_13 : decode cX8_commonByRows 13 = .ok (.aload_n 0, 1) := by decide +kernel
theorem dX8_commonByRows_14 : decode cX8_commonByRows 14 = .ok (.getfield 15, 3) := by decide +kernel
theorem dX8_commonByRows_17 : decode cX8_commonByRows 17 = .ok (.invokestatic 40, 3) := by decide +kernel
theorem dX8_commonByRows_20 : decode cX8_commonByRows 20 = .ok (.istore 5, 2) := by decide +kernel
theorem dX8_commonByRows_22 : decode cX8_commonByRows 22 = .ok (.iconst (-1), 1) := by decide +kernel
theorem dX8_commonByRows_23 : decode cX8_commonByRows 23 = .ok (.istore 6, 2) := by decide +kernel
theorem dX8_commonByRows_25 : decode cX8_commonByRows 25 = .ok (.iconst 0, 1) := by decide +kernel
theorem dX8_commonByRows_26 : decode cX8_commonByRows 26 = .ok (.istore 7, 2) := by decide +kernel
theorem dX8_commonByRows_28 : decode cX8_commonByRows 28 = .ok (.iload 7, 2) := by decide +kernel
theorem dX8_commonByRows_30 : decode cX8_commonByRows 30 = .ok (.iload 4, 2) := by decide +kernel
theorem dX8_commonByRows_32 : decode cX8_commonByRows 32 = .ok (.if_icmp .ge 45, 3) := by decide +kernel
theorem dX8_commonByRows_35 : decode cX8_commonByRows 35 = .ok (.iload 7, 2) := by decide +kernel
theorem dX8_commonByRows_37 : decode cX8_commonByRows 37 = .ok (.iload 5, 2) := by decide +kernel
theorem dX8_commonByRows_39 : decode cX8_commonByRows 39 = .ok (.if_icmp .ge 38, 3) := by decide +kernel
theorem dX8_commonByRows_42 : decode cX8_commonByRows 42 = .ok (.aload_n 0, 1) := by decide +kernel
theorem dX8_commonByRows_43 : decode cX8_commonByRows 43 = .ok (.getfield 9, 3) := by decide +kernel
theorem dX8_commonByRows_46 : decode cX8_commonByRows 46 = .ok (.iload 7, 2) := by decide +kernel
theorem dX8_commonByRows_48 : decode cX8_commonByRows 48 = .ok (.iaload, 1) := by decide +kernel
theorem dX8_commonByRows_49 : decode cX8_commonByRows 49 = .ok (.aload_n 0, 1) := by decide +kernel
theorem dX8_commonByRows_50 : decode cX8_commonByRows 50 = .ok (.getfield 15, 3) := by decide +kernel
theorem dX8_commonByRows_53 : decode cX8_commonByRows 53 = .ok (.iload 7, 2) := by decide +kernel
theorem dX8_commonByRows_55 : decode cX8_commonByRows 55 = .ok (.iaload, 1) := by decide +kernel
theorem dX8_commonByRows_56 : decode cX8_commonByRows 56 = .ok (.if_icmp .eq 6, 3) := by decide +kernel
theorem dX8_commonByRows_59 : decode cX8_commonByRows 59 = .ok (.iload 6, 2) := by decide +kernel
theorem dX8_commonByRows_61 : decode cX8_commonByRows 61 = .ok (.ireturn, 1) := by decide +kernel
theorem dX8_commonByRows_62 : decode cX8_commonByRows 62 = .ok (.aload_n 0, 1) := by decide +kernel
theorem dX8_commonByRows_63 : decode cX8_commonByRows 63 = .ok (.getfield 9, 3) := by decide +kernel
theorem dX8_commonByRows_66 : decode cX8_commonByRows 66 = .ok (.iload 7, 2) := by decide +kernel
theorem dX8_commonByRows_68 : decode cX8_commonByRows 68 = .ok (.iaload, 1) := by decide +kernel
theorem dX8_commonByRows_69 : decode cX8_commonByRows 69 = .ok (.istore 6, 2) := by decide +kernel
theorem dX8_commonByRows_71 : decode cX8_commonByRows 71 = .ok (.iinc 7 1, 3) := by decide +kernel
theorem dX8_commonByRows_74 : decode cX8_commonByRows 74 = .ok (.goto (-46), 3) := by decide +kernel
theorem dX8_commonByRows_77 : decode cX8_commonByRows 77 = .ok (.iload 6, 2) := by decide +kernel
theorem dX8_commonByRows_79 : decode cX8_commonByRows 79 = .ok (.ireturn, 1) := by decide +kernel
theorem gS_X8_X8_fillRow_40 : GoodIn gw (va_wsS RX8 40 yX8_fillRow (Cond.code yX8_fillRow cX8_fillRow 6 (some .int) :: gw)) := gdS2 gw_535 gw_536 gw_72 gw_537
theorem hS_X8_fillRow : yX8_fillRow.cls ≠ "java/lang/invoke/MethodHandle" ∧ yX8_fillRow.cls ≠ "java/lang/invoke/VarHandle" ∧ (parseMethodDescriptor yX8_fillRow.desc).map (fun d => d.parameters.length) = some 3 := ⟨by decide +kernel, by decide +kernel, by decide +kernel⟩
set_option maxHeartbeats 2000000 in
set_option maxRecDepth 20000 in
theorem k_X8_commonByRows (l : Launch) (hfl : l.stackTraces = false) (D : va_G) (aT : Nat → ClassId) (t0 : Nat) (t1 : Nat) (t2 : Nat) (t3 : Nat) (t4 : Nat) (t5 : Nat) (t6 : Nat) (r1 : Nat → Int32) (r2 : Nat → Int32) (r3 : Nat → Int32) (r4 : Nat → Int32) (r5 : Nat → Int64) (r6 : Nat → Int64) (a5 : Nat) (a6 : Nat) (a7 : Nat) (a8 : Nat) (a9 : Nat) (fI : Nat → Int32) (fN : Nat → Int32) (fW : Nat → Int32) (fP : Nat → Int32) (nm : Nat) (nx : Int32) (idn : Nat → Nat) (pr : Nat → Option Nat) (tn : Nat → Nat) (hO : MoC fI fN fP nm idn pr tn) (i : Nat) (j : Nat) (hi : i < nm) (hj : j < nm) : CxG l yX8_commonByRows cX8_commonByRows 8 (some (.int)) 2 0 0 48 D aT [.ref t0, .ref a5, .int (nI i), .int (nI j)] [(t0, .inr (11, [.ref t1, .ref t2, .ref t3, .ref t4, .ref t5, .ref t6])), (t1, .inl (aT 0, 12, .inl r1)), (t2, .inl (aT 0, 12, .inl r2)), (t3, .inl (aT 0, 12, .inl r3)), (t4, .inl (aT 0, 12, .inl r4)), (t5, .inl (aT 2, 12, .inr (.inl r5))), (t6, .inl (aT 2, 12, .inr (.inl r6))), (a5, .inr (8, [.ref a6, .ref a7, .ref a8, .ref a9, .int (nI nm), .int nx])), (a6, .inl (aT 0, 12, .inl fI)), (a7, .inl (aT 0, 12, .inl fN)), (a8, .inl (aT 0, 12, .inl fW)), (a9, .inl (aT 0, 12, .inl fP))] (qI D aT (fun r W1 => r = oi (cmF pr i j nm) ∧ ∃ g1 g2 : Nat → Int32, W1 = ([(t0, .inr (11, [.ref t1, .ref t2, .ref t3, .ref t4, .ref t5, .ref t6])), (t1, .inl (aT 0, 12, .inl g1)), (t2, .inl (aT 0, 12, .inl g2)), (t3, .inl (aT 0, 12, .inl r3)), (t4, .inl (aT 0, 12, .inl r4)), (t5, .inl (aT 2, 12, .inr (.inl r5))), (t6, .inl (aT 2, 12, .inr (.inl r6))), (a5, .inr (8, [.ref a6, .ref a7, .ref a8, .ref a9, .int (nI nm), .int nx])), (a6, .inl (aT 0, 12, .inl fI)), (a7, .inl (aT 0, 12, .inl fN)), (a8, .inl (aT 0, 12, .inl fW)), (a9, .inl (aT 0, 12, .inl fP))] : va_W))) (fun _ _ => False) := by
  refine CxG.of RX8 (by decide +kernel) rfl (Nat.le_of_ble_eq_true rfl) ?_
  intro p e s m below meth c A ls C hml hl hA hr hlocks hex hnm hZ hW
  have hl : lv_has ls 8 [(0, .ref t0), (1, .ref a5), (2, .int (nI i)), (3, .int (nI j))] := hl
  have hx := C.1
  have hb := C.2.1
  refine lv_aload_n hx hb dX8_commonByRows_0 rfl (lv_at hl 1 rfl) ?_
  refine lv_iload_n hx hb dX8_commonByRows_1 rfl (lv_at hl 2 rfl) ?_
  refine lv_aload_n hx hb dX8_commonByRows_2 rfl (lv_at hl 0 rfl) ?_
  refine cx_get C hW 0 0 rfl rfl (by decide) inX8 gw_243 rfl rfl dX8_commonByRows_3 ?_
  refine cx_calli (Wr := [(t0, .inr (11, [.ref t1, .ref t2, .ref t3, .ref t4, .ref t5, .ref t6])), (t2, .inl (aT 0, 12, .inl r2)), (t3, .inl (aT 0, 12, .inl r3)), (t4, .inl (aT 0, 12, .inl r4)), (t5, .inl (aT 2, 12, .inr (.inl r5))), (t6, .inl (aT 2, 12, .inr (.inl r6)))]) (cx_runS C hml hl.1 hZ hW hA (As := [.ref a5, .int (nI i), .ref t1]) (rest := []) (k_X8_fillRow l hfl D aT a5 a6 a7 a8 a9 fI fN fW fP nm nx idn pr tn hO t1 r1 i hi) gS_X8_X8_fillRow_40 hS_X8_fillRow rfl ⟨Nat.le_of_ble_eq_true rfl, Nat.le_of_ble_eq_true rfl⟩ ⟨Nat.le_of_ble_eq_true rfl, Nat.le_of_ble_eq_true rfl⟩ [7, 8, 9, 10, 11, 1] rfl (by decide) rfl (Nat.le_of_ble_eq_true rfl) dX8_commonByRows_6) hW hA [7, 8, 9, 10, 11, 1] [0, 2, 3, 4, 5, 6] rfl rfl (by decide) (by decide) (fun _ _ _ _ _ _ h9 => h9.elim) (fun r_6 W_6 H locs hq hW => ?_)
  obtain ⟨q1_6, hq_6, rfl, rfl⟩ := hq
  refine lv_istore (lv' := [(4, .int (nI (dep pr i + 1))), (0, .ref t0), (1, .ref a5), (2, .int (nI i)), (3, .int (nI j))]) hx hb dX8_commonByRows_9 hl (by decide) rfl (fun ls hl => ?_)
  refine lv_aload_n hx hb dX8_commonByRows_11 rfl (lv_at hl 2 rfl) ?_
  refine lv_iload_n hx hb dX8_commonByRows_12 rfl (lv_at hl 4 rfl) ?_
  refine lv_aload_n hx hb dX8_commonByRows_13 rfl (lv_at hl 1 rfl) ?_
  refine cx_get C hW 0 1 rfl rfl (by decide) inX8 gw_244 rfl rfl dX8_commonByRows_14 ?_
  refine cx_calli (Wr := [(t0, .inr (11, [.ref t1, .ref t2, .ref t3, .ref t4, .ref t5, .ref t6])), (t3, .inl (aT 0, 12, .inl r3)), (t4, .inl (aT 0, 12, .inl r4)), (t5, .inl (aT 2, 12, .inr (.inl r5))), (t6, .inl (aT 2, 12, .inr (.inl r6))), (t1, .inl (aT 0, 12, .inl q1_6))]) (cx_runS C hml hl.1 hZ hW hA (As := [.ref a5, .int (nI j), .ref t2]) (rest := []) (k_X8_fillRow l hfl D aT a5 a6 a7 a8 a9 fI fN fW fP nm nx idn pr tn hO t2 r2 j hj) gS_X8_X8_fillRow_40 hS_X8_fillRow rfl ⟨Nat.le_of_ble_eq_true rfl, Nat.le_of_ble_eq_true rfl⟩ ⟨Nat.le_of_ble_eq_true rfl, Nat.le_of_ble_eq_true rfl⟩ [6, 7, 8, 9, 10, 1] rfl (by decide) rfl (Nat.le_of_ble_eq_true rfl) dX8_commonByRows_17) hW hA [6, 7, 8, 9, 10, 1] [0, 2, 3, 4, 5, 11] rfl rfl (by decide) (by decide) (fun _ _ _ _ _ _ h9 => h9.elim) (fun r_17 W_17 H locs hq hW => ?_)
  obtain ⟨q1_17, hq_17, rfl, rfl⟩ := hq
  refine lv_istore (lv' := [(5, .int (nI (dep pr j + 1))), (4, .int (nI (dep pr i + 1))), (0, .ref t0), (1, .ref a5), (2, .int (nI i)), (3, .int (nI j))]) hx hb dX8_commonByRows_20 hl (by decide) rfl (fun ls hl => ?_)
  refine lv_iconst (v := (-1)) hx hb dX8_commonByRows_22 (by decide) ?_
  refine lv_istore (lv' := [(6, .int (-1)), (5, .int (nI (dep pr j + 1))), (4, .int (nI (dep pr i + 1))), (0, .ref t0), (1, .ref a5), (2, .int (nI i)), (3, .int (nI j))]) hx hb dX8_commonByRows_23 hl (by decide) rfl (fun ls hl => ?_)
  refine lv_iconst (v := nI 0) hx hb dX8_commonByRows_25 (by decide) ?_
  refine lv_istore (lv' := [(7, .int (nI 0)), (6, .int (-1)), (5, .int (nI (dep pr j + 1))), (4, .int (nI (dep pr i + 1))), (0, .ref t0), (1, .ref a5), (2, .int (nI i)), (3, .int (nI j))]) hx hb dX8_commonByRows_26 hl (by decide) rfl (fun ls hl => ?_)
  refine W_loopH (σ := Nat × Option Nat) (fun z_ => 12 - z_.1) (fun z_ H locs g => ∃ ls, g = F0 m 28 ls [] ∧ lv_has ls 8 [(7, .int (nI z_.1)), (6, .int (oi z_.2)), (5, .int (nI (dep pr j + 1))), (4, .int (nI (dep pr i + 1))), (3, .int (nI j)), (2, .int (nI i)), (1, .ref a5), (0, .ref t0)] ∧ CxB D [(t0, .inr (11, [.ref t1, .ref t2, .ref t3, .ref t4, .ref t5, .ref t6])), (t3, .inl (aT 0, 12, .inl r3)), (t4, .inl (aT 0, 12, .inl r4)), (t5, .inl (aT 2, 12, .inr (.inl r5))), (t6, .inl (aT 2, 12, .inr (.inl r6))), (t1, .inl (aT 0, 12, .inl q1_6)), (a5, .inr (8, [.ref a6, .ref a7, .ref a8, .ref a9, .int (nI nm), .int nx])), (a6, .inl (aT 0, 12, .inl fI)), (a7, .inl (aT 0, 12, .inl fN)), (a8, .inl (aT 0, 12, .inl fW)), (a9, .inl (aT 0, 12, .inl fP)), (t2, .inl (aT 0, 12, .inl q1_17))] A s.heap H locs ∧ z_.1 ≤ 12 ∧ z_.1 ≤ dep pr i + 1 ∧ z_.1 ≤ dep pr j + 1 ∧ RwO pr i j z_.1 z_.2) ?_ (0, none) _ ⟨_, rfl, lv_sub hl [0, 1, 2, 3, 7, 6, 5, 4] rfl, hW, ⟨by dsimp only; omega, by dsimp only; omega, by dsimp only; omega, rfl⟩⟩
  clear hW hl
  rintro ⟨w, o⟩ H locs g ⟨ls, rfl, hl, hW, ⟨hw, hwi, hwj, ho⟩⟩ ih_28
  dsimp only at hl hW hw hwi hwj ho ⊢
  refine lv_iload hx hb dX8_commonByRows_28 (lv_at hl 0 rfl) ?_
  refine lv_iload hx hb dX8_commonByRows_30 (lv_at hl 3 rfl) ?_
  refine r_geN hx hb (a := w) (b := dep pr i + 1) (by have h1 := hO.1; have := dep_le hO.2.2.2.1 _ hi; have := dep_le hO.2.2.2.1 _ hj; omega) (by have h1 := hO.1; have := dep_le hO.2.2.2.1 _ hi; have := dep_le hO.2.2.2.1 _ hj; omega) (tgt := 77) dX8_commonByRows_32 (by decide) (fun c_32 => ?_) (fun c_32 => ?_)
  · refine lv_iload hx hb dX8_commonByRows_77 (lv_at hl 1 rfl) ?_
    have hW : CxB D [(t0, .inr (11, [.ref t1, .ref t2, .ref t3, .ref t4, .ref t5, .ref t6])), (t1, .inl (aT 0, 12, .inl q1_6)), (t2, .inl (aT 0, 12, .inl q1_17)), (t3, .inl (aT 0, 12, .inl r3)), (t4, .inl (aT 0, 12, .inl r4)), (t5, .inl (aT 2, 12, .inr (.inl r5))), (t6, .inl (aT 2, 12, .inr (.inl r6))), (a5, .inr (8, [.ref a6, .ref a7, .ref a8, .ref a9, .int (nI nm), .int nx])), (a6, .inl (aT 0, 12, .inl fI)), (a7, .inl (aT 0, 12, .inl fN)), (a8, .inl (aT 0, 12, .inl fW)), (a9, .inl (aT 0, 12, .inl fP))] A s.heap H _ := cx_drop hW [0, 5, 11, 1, 2, 3, 4, 6, 7, 8, 9, 10] rfl (by decide)
    exact cx_iret C hr hlocks rfl hW ⟨Nat.le_of_ble_eq_true rfl, Nat.le_of_ble_eq_true rfl⟩ (⟨congrArg oi (ho.fin hO.2.2.2.1 hi (fun r h1 h2 => by have := anc_dep hO.2.2.2.1 i hi h1; omega)).symm, _, _, rfl⟩) dX8_commonByRows_79
  · refine lv_iload hx hb dX8_commonByRows_35 (lv_at hl 0 rfl) ?_
    refine lv_iload hx hb dX8_commonByRows_37 (lv_at hl 2 rfl) ?_
    refine r_geN hx hb (a := w) (b := dep pr j + 1) (by have h1 := hO.1; have := dep_le hO.2.2.2.1 _ hi; have := dep_le hO.2.2.2.1 _ hj; omega) (by have h1 := hO.1; have := dep_le hO.2.2.2.1 _ hi; have := dep_le hO.2.2.2.1 _ hj; omega) (tgt := 77) dX8_commonByRows_39 (by decide) (fun c_39 => ?_) (fun c_39 => ?_)
    · refine lv_iload hx hb dX8_commonByRows_77 (lv_at hl 1 rfl) ?_
      have hW : CxB D [(t0, .inr (11, [.ref t1, .ref t2, .ref t3, .ref t4, .ref t5, .ref t6])), (t1, .inl (aT 0, 12, .inl q1_6)), (t2, .inl (aT 0, 12, .inl q1_17)), (t3, .inl (aT 0, 12, .inl r3)), (t4, .inl (aT 0, 12, .inl r4)), (t5, .inl (aT 2, 12, .inr (.inl r5))), (t6, .inl (aT 2, 12, .inr (.inl r6))), (a5, .inr (8, [.ref a6, .ref a7, .ref a8, .ref a9, .int (nI nm), .int nx])), (a6, .inl (aT 0, 12, .inl fI)), (a7, .inl (aT 0, 12, .inl fN)), (a8, .inl (aT 0, 12, .inl fW)), (a9, .inl (aT 0, 12, .inl fP))] A s.heap H _ := cx_drop hW [0, 5, 11, 1, 2, 3, 4, 6, 7, 8, 9, 10] rfl (by decide)
      exact cx_iret C hr hlocks rfl hW ⟨Nat.le_of_ble_eq_true rfl, Nat.le_of_ble_eq_true rfl⟩ (⟨congrArg oi (ho.fin hO.2.2.2.1 hi (fun r h1 h2 => by have := anc_dep hO.2.2.2.1 j hj h2; omega)).symm, _, _, rfl⟩) dX8_commonByRows_79
    · refine lv_aload_n hx hb dX8_commonByRows_42 rfl (lv_at hl 7 rfl) ?_
      refine cx_get C hW 0 0 rfl rfl (by decide) inX8 gw_243 rfl rfl dX8_commonByRows_43 ?_
      refine lv_iload hx hb dX8_commonByRows_46 (lv_at hl 0 rfl) ?_
      refine cx_ald C hW 5 0 (j := w) rfl rfl rfl (by have h1 := hO.1; have := dep_le hO.2.2.2.1 _ hi; have := dep_le hO.2.2.2.1 _ hj; omega) (by decide) dX8_commonByRows_48 ?_
      refine lv_aload_n hx hb dX8_commonByRows_49 rfl (lv_at hl 7 rfl) ?_
      refine cx_get C hW 0 1 rfl rfl (by decide) inX8 gw_244 rfl rfl dX8_commonByRows_50 ?_
      refine lv_iload hx hb dX8_commonByRows_53 (lv_at hl 0 rfl) ?_
      refine cx_ald C hW 11 0 (j := w) rfl rfl rfl (by have h1 := hO.1; have := dep_le hO.2.2.2.1 _ hi; have := dep_le hO.2.2.2.1 _ hj; omega) (by decide) dX8_commonByRows_55 ?_
      refine lv_icmp_eq hx hb (x := (q1_6 w)) (y := (q1_17 w)) (tgt := 62) dX8_commonByRows_56 (by decide) (fun c_56 => ?_) (fun c_56 => ?_)
      · obtain ⟨k_, hk1, hk2, hk3, hk4⟩ := hq_6 w (Nat.zero_le _) (by omega)
        obtain ⟨k2_, hj1, hj2, hj3, hj4⟩ := hq_17 w (Nat.zero_le _) (by omega)
        refine lv_aload_n hx hb dX8_commonByRows_62 rfl (lv_at hl 7 rfl) ?_
        refine cx_get C hW 0 0 rfl rfl (by decide) inX8 gw_243 rfl rfl dX8_commonByRows_63 ?_
        refine lv_iload hx hb dX8_commonByRows_66 (lv_at hl 0 rfl) ?_
        refine cx_ald C hW 5 0 (j := w) rfl rfl rfl (by have h1 := hO.1; have := dep_le hO.2.2.2.1 _ hi; have := dep_le hO.2.2.2.1 _ hj; omega) (by decide) dX8_commonByRows_68 ?_
        refine r_eq (y := (nI k_)) (hk2) ?_
        refine lv_istore (lv' := [(6, .int (nI k_)), (7, .int (nI w)), (5, .int (nI (dep pr j + 1))), (4, .int (nI (dep pr i + 1))), (3, .int (nI j)), (2, .int (nI i)), (1, .ref a5), (0, .ref t0)]) hx hb dX8_commonByRows_69 hl (by decide) rfl (fun ls hl => ?_)
        refine lv_iinc (v := (nI (w + 1))) (lv' := [(7, .int (nI (w + 1))), (6, .int (nI k_)), (5, .int (nI (dep pr j + 1))), (4, .int (nI (dep pr i + 1))), (3, .int (nI j)), (2, .int (nI i)), (1, .ref a5), (0, .ref t0)]) hx hb dX8_commonByRows_71 hl (k := 1) rfl (nI_1 _) (by decide) rfl (fun ls hl => ?_)
        refine lv_goto (tgt := 28) hx hb dX8_commonByRows_74 (by decide) ?_
        exact ih_28 ((w + 1), (some k_)) _ _ _ (by have h1 := hO.1; have := dep_le hO.2.2.2.1 _ hi; dsimp only; omega) ⟨_, rfl, lv_sub hl [0, 1, 2, 3, 4, 5, 6, 7] rfl, hW, ⟨by have h1 := hO.1; have := dep_le hO.2.2.2.1 _ hi; dsimp only; omega, by dsimp only; omega, by dsimp only; omega, ⟨hk3, by rw [show k_ = k2_ from (nI_eq (by have h1 := hO.1; omega) (by have h1 := hO.1; omega)).mp (hk2.symm.trans (c_56.trans hj2))]; exact hj3, by rw [hk4]⟩⟩⟩
      · refine lv_iload hx hb dX8_commonByRows_59 (lv_at hl 1 rfl) ?_
        have hW : CxB D [(t0, .inr (11, [.ref t1, .ref t2, .ref t3, .ref t4, .ref t5, .ref t6])), (t1, .inl (aT 0, 12, .inl q1_6)), (t2, .inl (aT 0, 12, .inl q1_17)), (t3, .inl (aT 0, 12, .inl r3)), (t4, .inl (aT 0, 12, .inl r4)), (t5, .inl (aT 2, 12, .inr (.inl r5))), (t6, .inl (aT 2, 12, .inr (.inl r6))), (a5, .inr (8, [.ref a6, .ref a7, .ref a8, .ref a9, .int (nI nm), .int nx])), (a6, .inl (aT 0, 12, .inl fI)), (a7, .inl (aT 0, 12, .inl fN)), (a8, .inl (aT 0, 12, .inl fW)), (a9, .inl (aT 0, 12, .inl fP))] A s.heap H _ := cx_drop hW [0, 5, 11, 1, 2, 3, 4, 6, 7, 8, 9, 10] rfl (by decide)
        exact cx_iret C hr hlocks rfl hW ⟨Nat.le_of_ble_eq_true rfl, Nat.le_of_ble_eq_true rfl⟩ (⟨congrArg oi (ho.fin hO.2.2.2.1 hi (by
            obtain ⟨k_, hk1, hk2, hk3, hk4⟩ := hq_6 w (Nat.zero_le _) (by omega)
            obtain ⟨k2_, hj1, hj2, hj3, hj4⟩ := hq_17 w (Nat.zero_le _) (by omega)
            exact rw_part hO.2.2.2.1 hi hj hk3 hj3 hk4 hj4 (fun e => c_56 (hk2.trans ((congrArg nI e).trans hj2.symm))))).symm, _, _, rfl⟩) dX8_commonByRows_61
theorem dX8_farthestFrom_0 : decode cX8_farthestFrom 0 = .ok (.aload_n 0, 1) := by decide +kernel
theorem dX8_farthestFrom_1 : decode cX8_farthestFrom 1 = .ok (.getfield 21, 3) := by decide +kernel
theorem dX8_farthestFrom_4 : decode cX8_farthestFrom 4 = .ok (.iconst (-1), 1) := by decide +kernel
theorem dX8_farthestFrom_5 : decode cX8_farthestFrom 5 = .ok (.invokestatic 44, 3) := by decide +kernel
theorem dX8_farthestFrom_8 : decode cX8_farthestFrom 8 = .ok (.iload_n 2, 1) := by decide +kernel
theorem dX8_farthestFrom_9 : decode cX8_farthestFrom 9 = .ok (.istore 4, 2) := by decide +kernel
theorem dX8_farthestFrom_11 : decode cX8_farthestFrom 11 = .ok (.iconst 0, 1) := by decide +kernel
theorem dX8_farthestFrom_12 : decode cX8_farthestFrom 12 = .ok (.istore 5, 2) := by decide +kernel
theorem dX8_farthestFrom_14 : decode cX8_farthestFrom 14 = .ok (.iload 5, 2) := by decide +kernel
theorem dX8_farthestFrom_16 : decode cX8_farthestFrom 16 = .ok (.bipush 12, 2) := by decide +kernel
theorem dX8_farthestFrom_18 : decode cX8_farthestFrom 18 = .ok (.if_icmp .ge 33, 3) := by decide +kernel
theorem dX8_farthestFrom_21 : decode cX8_farthestFrom 21 = .ok (.iload 4, 2) := by decide +kernel
theorem dX8_farthestFrom_23 : decode cX8_farthestFrom 23 = .ok (.iload_n 3, 1) := by decide +kernel
theorem dX8_farthestFrom_24 : decode cX8_farthestFrom 24 = .ok (.if_icmp .lt 27, 3) := by decide +kernel
theorem dX8_farthestFrom_27 : decode cX8_farthestFrom 27 = .ok (.aload_n 0, 1) := by decide +kernel
theorem dX8_farthestFrom_28 : decode cX8_farthestFrom 28 = .ok (.getfield 21, 3) := by decide +kernel
theorem dX8_farthestFrom_31 : decode cX8_farthestFrom 31 = .ok (.iload 4, 2) := by decide +kernel
theorem dX8_farthestFrom_33 : decode cX8_farthestFrom 33 = .ok (.iload 5, 2) := by decide +kernel
theorem dX8_farthestFrom_35 : decode cX8_farthestFrom 35 = .ok (.iastore, 1) := by decide +kernel
theorem dX8_farthestFrom_36 : decode cX8_farthestFrom 36 = .ok (.aload_n 1, 1) := by decide +kernel
theorem dX8_farthestFrom_37 : decode cX8_farthestFrom 37 = .ok (.getfield 37, 3) := by decide +kernel
theorem dX8_farthestFrom_40 : decode cX8_farthestFrom 40 = .ok (.iload 4, 2) := by decide +kernel
theorem dX8_farthestFrom_42 : decode cX8_farthestFrom 42 = .ok (.iaload, 1) := by decide +kernel
theorem dX8_farthestFrom_43 : decode cX8_farthestFrom 43 = .ok (.istore 4, 2) := by decide +kernel
theorem dX8_farthestFrom_45 : decode cX8_farthestFrom 45 = .ok (.iinc 5 1, 3) := by decide +kernel
theorem dX8_farthestFrom_48 : decode cX8_farthestFrom 48 = .ok (.goto (-34), 3) := by decide +kernel
theorem dX8_farthestFrom_51 : decode cX8_farthestFrom 51 = .ok (.iload_n 2, 1) := by decide +kernel
theorem dX8_farthestFrom_52 : decode cX8_farthestFrom 52 = .ok (.istore 5, 2) := by decide +kernel
theorem dX8_farthestFrom_54 : decode cX8_farthestFrom 54 = .ok (.iload_n 3, 1) := by decide +kernel
theorem dX8_farthestFrom_55 : decode cX8_farthestFrom 55 = .ok (.istore 6, 2) := by decide +kernel
theorem dX8_farthestFrom_57 : decode cX8_farthestFrom 57 = .ok (.iload 6, 2) := by decide +kernel
theorem dX8_farthestFrom_59 : decode cX8_farthestFrom 59 = .ok (.aload_n 1, 1) := by decide +kernel
theorem dX8_farthestFrom_60 : decode cX8_farthestFrom 60 = .ok (.getfield 50, 3) := by decide +kernel
theorem dX8_farthestFrom_63 : decode cX8_farthestFrom 63 = .ok (.if_icmp .ge 81, 3) := by decide +kernel
theorem dX8_farthestFrom_66 : decode cX8_farthestFrom 66 = .ok (.aload_n 1, 1) := by decide +kernel
theorem dX8_farthestFrom_67 : decode cX8_farthestFrom 67 = .ok (.getfield 37, 3) := by decide +kernel
theorem dX8_farthestFrom_70 : decode cX8_farthestFrom 70 = .ok (.iload 6, 2) := by decide +kernel
theorem dX8_farthestFrom_72 : decode cX8_farthestFrom 72 = .ok (.iaload, 1) := by decide +kernel
theorem dX8_farthestFrom_73 : decode cX8_farthestFrom 73 = .ok (.istore 7, 2) := by decide +kernel
theorem dX8_farthestFrom_75 : decode cX8_farthestFrom 75 = .ok (.aload_n 0, 1) := by decide +kernel
theorem dX8_farthestFrom_76 : decode cX8_farthestFrom 76 = .ok (.getfield 21, 3) := by decide +kernel
theorem dX8_farthestFrom_79 : decode cX8_farthestFrom 79 = .ok (.iload 6, 2) := by decide +kernel
theorem dX8_farthestFrom_81 : decode cX8_farthestFrom 81 = .ok (.iaload, 1) := by decide +kernel
theorem dX8_farthestFrom_82 : decode cX8_farthestFrom 82 = .ok (.ifCond .ge 35, 3) := by decide +kernel
theorem dX8_farthestFrom_85 : decode cX8_farthestFrom 85 = .ok (.iload 7, 2) := by decide +kernel
theorem dX8_farthestFrom_87 : decode cX8_farthestFrom 87 = .ok (.iload_n 3, 1) := by decide +kernel
theorem dX8_farthestFrom_88 : decode cX8_farthestFrom 88 = .ok (.if_icmp .lt 29, 3) := by decide +kernel
theorem dX8_farthestFrom_91 : decode cX8_farthestFrom 91 = .ok (.aload_n 0, 1) := by decide +kernel
theorem dX8_farthestFrom_92 : decode cX8_farthestFrom 92 = .ok (.getfield 21, 3) := by decide +kernel
theorem dX8_farthestFrom_95 : decode cX8_farthestFrom 95 = .ok (.iload 7, 2) := by decide +kernel
theorem dX8_farthestFrom_97 : decode cX8_farthestFrom 97 = .ok (.iaload, 1) := by decide +kernel
theorem dX8_farthestFrom_98 : decode cX8_farthestFrom 98 = .ok (.ifCond .lt 19, 3) := by decide +kernel
theorem dX8_farthestFrom_101 : decode cX8_farthestFrom 101 = .ok (.aload_n 0, 1) := by decide +kernel
theorem dX8_farthestFrom_102 : decode cX8_farthestFrom 102 = .ok (.getfield 21, 3) := by decide +kernel
theorem dX8_farthestFrom_105 : decode cX8_farthestFrom 105 = .ok (.iload 6, 2) := by decide +kernel
theorem dX8_farthestFrom_107 : decode cX8_farthestFrom 107 = .ok (.aload_n 0, 1) := by decide +kernel
theorem dX8_farthestFrom_108 : decode cX8_farthestFrom 108 = .ok (.getfield 21, 3) := by decide +kernel
theorem dX8_farthestFrom_111 : decode cX8_farthestFrom 111 = .ok (.iload 7, 2) := by decide +kernel
theorem dX8_farthestFrom_113 : decode cX8_farthestFrom 113 = .ok (.iaload, 1) := by decide +kernel
theorem dX8_farthestFrom_114 : decode cX8_farthestFrom 114 = .ok (.iconst 1, 1) := by decide +kernel
theorem dX8_farthestFrom_115 : decode cX8_farthestFrom 115 = .ok (.iadd, 1) := by decide +kernel
theorem dX8_farthestFrom_116 : decode cX8_farthestFrom 116 = .ok (.iastore, 1) := by decide +kernel
theorem dX8_farthestFrom_117 : decode cX8_farthestFrom 117 = .ok (.aload_n 0, 1) := by decide +kernel
theorem dX8_farthestFrom_118 : decode cX8_farthestFrom 118 = .ok (.getfield 21, 3) := by decide +kernel
theorem dX8_farthestFrom_121 : decode cX8_farthestFrom 121 = .ok (.iload 6, 2) := by decide +kernel
theorem dX8_farthestFrom_123 : decode cX8_farthestFrom 123 = .ok (.iaload, 1) := by decide +kernel
theorem dX8_farthestFrom_124 : decode cX8_farthestFrom 124 = .ok (.aload_n 0, 1) := by decide +kernel
theorem dX8_farthestFrom_125 : decode cX8_farthestFrom 125 = .ok (.getfield 21, 3) := by decide +kernel
theorem dX8_farthestFrom_128 : decode cX8_farthestFrom 128 = .ok (.iload 5, 2) := by decide +kernel
theorem dX8_farthestFrom_130 : decode cX8_farthestFrom 130 = .ok (.iaload, 1) := by decide +kernel
theorem dX8_farthestFrom_131 : decode cX8_farthestFrom 131 = .ok (.if_icmp .le 7, 3) := by decide +kernel
theorem dX8_farthestFrom_134 : decode cX8_farthestFrom 134 = .ok (.iload 6, 2) := by decide +kernel
theorem dX8_farthestFrom_136 : decode cX8_farthestFrom 136 = .ok (.istore 5, 2) := by decide +kernel
theorem dX8_farthestFrom_138 : decode cX8_farthestFrom 138 = .ok (.iinc 6 1, 3) := by decide +kernel
theorem dX8_farthestFrom_141 : decode cX8_farthestFrom 141 = .ok (.goto (-84), 3) := by decide +kernel
theorem dX8_farthestFrom_144 : decode cX8_farthestFrom 144 = .ok (.iload 5, 2) := by decide +kernel
theorem dX8_farthestFrom_146 : decode cX8_farthestFrom 146 = .ok (.ireturn, 1) := by decide +kernel
theorem gS_X8_J7_fill_53178_44 : GoodIn gw (va_wsS RX8 44 yJ7_fill_53178 (Cond.code yJ7_fill_53178 cJ7_fill_53178 4 (none) :: gw)) := gdS2 gw_503 gw_504 gw_93 gw_505
theorem hS_J7_fill_53178 : yJ7_fill_53178.cls ≠ "java/lang/invoke/MethodHandle" ∧ yJ7_fill_53178.cls ≠ "java/lang/invoke/VarHandle" ∧ (parseMethodDescriptor yJ7_fill_53178.desc).map (fun d => d.parameters.length) = some 2 := ⟨by decide +kernel, by decide +kernel, by decide +kernel⟩
set_option maxHeartbeats 2000000 in
set_option maxRecDepth 20000 in
theorem k_X8_farthestFrom (l : Launch) (hfl : l.stackTraces = false) (D : va_G) (aT : Nat → ClassId) (t0 : Nat) (t1 : Nat) (t2 : Nat) (t3 : Nat) (t4 : Nat) (t5 : Nat) (t6 : Nat) (r1 : Nat → Int32) (r2 : Nat → Int32) (r3 : Nat → Int32) (r4 : Nat → Int32) (r5 : Nat → Int64) (r6 : Nat → Int64) (a5 : Nat) (a6 : Nat) (a7 : Nat) (a8 : Nat) (a9 : Nat) (fI : Nat → Int32) (fN : Nat → Int32) (fW : Nat → Int32) (fP : Nat → Int32) (nm : Nat) (nx : Int32) (idn : Nat → Nat) (pr : Nat → Option Nat) (tn : Nat → Nat) (hO : MoC fI fN fP nm idn pr tn) (k : Nat) (hk : k < nm) (tp : Nat) (htp : tp < nm) (hta : anc pr tp k = true) : CxG l yX8_farthestFrom cX8_farthestFrom 8 (some (.int)) 1 0 0 23 D aT [.ref t0, .ref a5, .int (nI k), .int (nI tp)] [(t0, .inr (11, [.ref t1, .ref t2, .ref t3, .ref t4, .ref t5, .ref t6])), (t1, .inl (aT 0, 12, .inl r1)), (t2, .inl (aT 0, 12, .inl r2)), (t3, .inl (aT 0, 12, .inl r3)), (t4, .inl (aT 0, 12, .inl r4)), (t5, .inl (aT 2, 12, .inr (.inl r5))), (t6, .inl (aT 2, 12, .inr (.inl r6))), (a5, .inr (8, [.ref a6, .ref a7, .ref a8, .ref a9, .int (nI nm), .int nx])), (a6, .inl (aT 0, 12, .inl fI)), (a7, .inl (aT 0, 12, .inl fN)), (a8, .inl (aT 0, 12, .inl fW)), (a9, .inl (aT 0, 12, .inl fP))] (qI D aT (fun r W1 => ∃ (u : Nat) (g4 : Nat → Int32), (r = nI u ∧ FaU pr nm tp k nm u ∧ FaI pr nm tp k nm g4) ∧ W1 = ([(t0, .inr (11, [.ref t1, .ref t2, .ref t3, .ref t4, .ref t5, .ref t6])), (t1, .inl (aT 0, 12, .inl r1)), (t2, .inl (aT 0, 12, .inl r2)), (t3, .inl (aT 0, 12, .inl r3)), (t4, .inl (aT 0, 12, .inl g4)), (t5, .inl (aT 2, 12, .inr (.inl r5))), (t6, .inl (aT 2, 12, .inr (.inl r6))), (a5, .inr (8, [.ref a6, .ref a7, .ref a8, .ref a9, .int (nI nm), .int nx])), (a6, .inl (aT 0, 12, .inl fI)), (a7, .inl (aT 0, 12, .inl fN)), (a8, .inl (aT 0, 12, .inl fW)), (a9, .inl (aT 0, 12, .inl fP))] : va_W))) (fun _ _ => False) := by
  refine CxG.of RX8 (by decide +kernel) rfl (Nat.le_of_ble_eq_true rfl) ?_
  intro p e s m below meth c A ls C hml hl hA hr hlocks hex hnm hZ hW
  have hl : lv_has ls 8 [(0, .ref t0), (1, .ref a5), (2, .int (nI k)), (3, .int (nI tp))] := hl
  have hx := C.1
  have hb := C.2.1
  refine lv_aload_n hx hb dX8_farthestFrom_0 rfl (lv_at hl 0 rfl) ?_
  refine cx_get C hW 0 3 rfl rfl (by decide) inX8 gw_246 rfl rfl dX8_farthestFrom_1 ?_
  refine lv_iconst (v := (-1)) hx hb dX8_farthestFrom_4 (by decide) ?_
  refine cx_callv (Wr := [(t0, .inr (11, [.ref t1, .ref t2, .ref t3, .ref t4, .ref t5, .ref t6])), (t1, .inl (aT 0, 12, .inl r1)), (t2, .inl (aT 0, 12, .inl r2)), (t3, .inl (aT 0, 12, .inl r3)), (t5, .inl (aT 2, 12, .inr (.inl r5))), (t6, .inl (aT 2, 12, .inr (.inl r6))), (a5, .inr (8, [.ref a6, .ref a7, .ref a8, .ref a9, .int (nI nm), .int nx])), (a6, .inl (aT 0, 12, .inl fI)), (a7, .inl (aT 0, 12, .inl fN)), (a8, .inl (aT 0, 12, .inl fW)), (a9, .inl (aT 0, 12, .inl fP))]) (cx_runS C hml hl.1 hZ hW hA (As := [.ref t4, .int (-1)]) (rest := []) (k_J7_fill_53178 l hfl D aT t4 12 r4 (-1) (by decide)) gS_X8_J7_fill_53178_44 hS_J7_fill_53178 rfl ⟨Nat.le_of_ble_eq_true rfl, Nat.le_of_ble_eq_true rfl⟩ ⟨Nat.le_of_ble_eq_true rfl, Nat.le_of_ble_eq_true rfl⟩ [4] rfl (by decide) rfl (Nat.le_of_ble_eq_true rfl) dX8_farthestFrom_5) hW hA [4] [0, 1, 2, 3, 5, 6, 7, 8, 9, 10, 11] rfl rfl (by decide) (by decide) (fun _ _ _ _ _ _ h9 => h9.elim) (fun W_5 H locs hq hW => ?_)
  obtain ⟨gf_5, hgf_5, rfl⟩ := hq
  refine lv_iload_n hx hb dX8_farthestFrom_8 rfl (lv_at hl 2 rfl) ?_
  refine lv_istore (lv' := [(4, .int (nI k)), (0, .ref t0), (1, .ref a5), (2, .int (nI k)), (3, .int (nI tp))]) hx hb dX8_farthestFrom_9 hl (by decide) rfl (fun ls hl => ?_)
  refine lv_iconst (v := nI 0) hx hb dX8_farthestFrom_11 (by decide) ?_
  refine lv_istore (lv' := [(5, .int (nI 0)), (4, .int (nI k)), (0, .ref t0), (1, .ref a5), (2, .int (nI k)), (3, .int (nI tp))]) hx hb dX8_farthestFrom_12 hl (by decide) rfl (fun ls hl => ?_)
  have hl : lv_has ls 8 [(5, .int (nI 0)), (4, .int (oi (some k))), (0, .ref t0), (1, .ref a5), (2, .int (nI k)), (3, .int (nI tp))] := hl
  refine W_loopH (σ := Nat × Option Nat × (Nat → Int32)) (fun z_ => 12 - z_.1) (fun z_ H locs g => ∃ ls, g = F0 m 14 ls [] ∧ lv_has ls 8 [(5, .int (nI z_.1)), (4, .int (oi z_.2.1)), (3, .int (nI tp)), (2, .int (nI k)), (1, .ref a5), (0, .ref t0)] ∧ CxB D [(t0, .inr (11, [.ref t1, .ref t2, .ref t3, .ref t4, .ref t5, .ref t6])), (t1, .inl (aT 0, 12, .inl r1)), (t2, .inl (aT 0, 12, .inl r2)), (t3, .inl (aT 0, 12, .inl r3)), (t5, .inl (aT 2, 12, .inr (.inl r5))), (t6, .inl (aT 2, 12, .inr (.inl r6))), (a5, .inr (8, [.ref a6, .ref a7, .ref a8, .ref a9, .int (nI nm), .int nx])), (a6, .inl (aT 0, 12, .inl fI)), (a7, .inl (aT 0, 12, .inl fN)), (a8, .inl (aT 0, 12, .inl fW)), (a9, .inl (aT 0, 12, .inl fP)), (t4, .inl (aT 0, 12, .inl z_.2.2))] A s.heap H locs ∧ z_.1 ≤ 12 ∧ (∀ j, z_.2.1 = some j → j < nm ∧ anc pr j k = true ∧ z_.1 + dep pr j = dep pr k) ∧ FcI pr nm tp k z_.2.1 z_.2.2) ?_ (0, (some k), gf_5) _ ⟨_, rfl, lv_sub hl [0, 1, 5, 4, 3, 2] rfl, hW, ⟨by dsimp only; omega, fun j h => by cases h; exact ⟨hk, anc_self pr k, Nat.zero_add _⟩, FcI.init hO.2.2.2.1 hk (fun x hx => hgf_5 x (by have h1 := hO.1; omega))⟩⟩
  clear hW hl
  rintro ⟨w, o, f⟩ H locs g ⟨ls, rfl, hl, hW, ⟨hw, ho, hf9⟩⟩ ih_14
  dsimp only at hl hW hw ho hf9 ⊢
  refine lv_iload hx hb dX8_farthestFrom_14 (lv_at hl 0 rfl) ?_
  refine lv_bipush (v := nI 12) hx hb dX8_farthestFrom_16 (by decide) ?_
  refine r_geN hx hb (a := w) (b := 12) (by have h1 := hO.1; omega) (by have h1 := hO.1; omega) (tgt := 51) dX8_farthestFrom_18 (by decide) (fun c_18 => ?_) (fun c_18 => ?_)
  · refine lv_iload_n hx hb dX8_farthestFrom_51 rfl (lv_at hl 3 rfl) ?_
    refine lv_istore (lv' := [(5, .int (nI k)), (4, .int (oi o)), (3, .int (nI tp)), (2, .int (nI k)), (1, .ref a5), (0, .ref t0)]) hx hb dX8_farthestFrom_52 hl (by decide) rfl (fun ls hl => ?_)
    refine lv_iload_n hx hb dX8_farthestFrom_54 rfl (lv_at hl 2 rfl) ?_
    refine lv_istore (lv' := [(6, .int (nI tp)), (5, .int (nI k)), (4, .int (oi o)), (3, .int (nI tp)), (2, .int (nI k)), (1, .ref a5), (0, .ref t0)]) hx hb dX8_farthestFrom_55 hl (by decide) rfl (fun ls hl => ?_)
    refine W_loopH (σ := Nat × Nat × (Nat → Int32)) (fun z_ => nm - z_.1) (fun z_ H locs g => ∃ ls, g = F0 m 57 ls [] ∧ lv_has ls 8 [(6, .int (nI z_.1)), (5, .int (nI z_.2.1)), (3, .int (nI tp)), (2, .int (nI k)), (1, .ref a5), (0, .ref t0)] ∧ CxB D [(t0, .inr (11, [.ref t1, .ref t2, .ref t3, .ref t4, .ref t5, .ref t6])), (t1, .inl (aT 0, 12, .inl r1)), (t2, .inl (aT 0, 12, .inl r2)), (t3, .inl (aT 0, 12, .inl r3)), (t5, .inl (aT 2, 12, .inr (.inl r5))), (t6, .inl (aT 2, 12, .inr (.inl r6))), (a5, .inr (8, [.ref a6, .ref a7, .ref a8, .ref a9, .int (nI nm), .int nx])), (a6, .inl (aT 0, 12, .inl fI)), (a7, .inl (aT 0, 12, .inl fN)), (a8, .inl (aT 0, 12, .inl fW)), (a9, .inl (aT 0, 12, .inl fP)), (t4, .inl (aT 0, 12, .inl z_.2.2))] A s.heap H locs ∧ tp ≤ z_.1 ∧ z_.1 ≤ nm ∧ FaU pr nm tp k z_.1 z_.2.1 ∧ FaI pr nm tp k z_.1 z_.2.2) ?_ (tp, k, f) _ ⟨_, rfl, lv_sub hl [0, 1, 3, 4, 5, 6] rfl, hW, ⟨Nat.le_refl _, by dsimp only; omega, FaU.init hO.2.2.2.1 hk hta, FcI.fa hO.2.2.2.1 hk hta (fun j e => by exfalso; have h2 := (ho j e).2.2; have h1 := hO.1; have h3 := dep_le hO.2.2.2.1 _ hk; omega) hf9⟩⟩
    clear hW hl
    rintro ⟨w, u, f⟩ H locs g ⟨ls, rfl, hl, hW, ⟨hw0, hw, hu, hf9⟩⟩ ih_57
    dsimp only at hl hW hw0 hw hu hf9 ⊢
    refine lv_iload hx hb dX8_farthestFrom_57 (lv_at hl 0 rfl) ?_
    refine lv_aload_n hx hb dX8_farthestFrom_59 rfl (lv_at hl 4 rfl) ?_
    refine cx_getN C hZ hW 6 4 rfl rfl (by decide) inX5 nw_162 rfl rfl dX8_farthestFrom_60 ?_
    refine r_geN hx hb (a := w) (b := nm) (by have h1 := hO.1; omega) (by have h1 := hO.1; omega) (tgt := 144) dX8_farthestFrom_63 (by decide) (fun c_63 => ?_) (fun c_63 => ?_)
    · refine lv_iload hx hb dX8_farthestFrom_144 (lv_at hl 1 rfl) ?_
      have hW : CxB D [(t0, .inr (11, [.ref t1, .ref t2, .ref t3, .ref t4, .ref t5, .ref t6])), (t1, .inl (aT 0, 12, .inl r1)), (t2, .inl (aT 0, 12, .inl r2)), (t3, .inl (aT 0, 12, .inl r3)), (t4, .inl (aT 0, 12, .inl f)), (t5, .inl (aT 2, 12, .inr (.inl r5))), (t6, .inl (aT 2, 12, .inr (.inl r6))), (a5, .inr (8, [.ref a6, .ref a7, .ref a8, .ref a9, .int (nI nm), .int nx])), (a6, .inl (aT 0, 12, .inl fI)), (a7, .inl (aT 0, 12, .inl fN)), (a8, .inl (aT 0, 12, .inl fW)), (a9, .inl (aT 0, 12, .inl fP))] A s.heap H _ := cx_drop hW [0, 1, 2, 3, 11, 4, 5, 6, 7, 8, 9, 10] rfl (by decide)
      exact cx_iret C hr hlocks rfl hW ⟨Nat.le_of_ble_eq_true rfl, Nat.le_of_ble_eq_true rfl⟩ (⟨u, _, ⟨rfl, hu.cast (by omega), hf9.cast (by omega)⟩, rfl⟩) dX8_farthestFrom_146
    · refine lv_aload_n hx hb dX8_farthestFrom_66 rfl (lv_at hl 4 rfl) ?_
      refine cx_getN C hZ hW 6 3 rfl rfl (by decide) inX5 nw_158 rfl rfl dX8_farthestFrom_67 ?_
      refine lv_iload hx hb dX8_farthestFrom_70 (lv_at hl 0 rfl) ?_
      refine cx_ald C hW 10 0 (j := w) rfl rfl rfl (by have h1 := hO.1; omega) (by decide) dX8_farthestFrom_72 ?_
      refine r_eq (y := (oi (pr w))) (hO.2.2.1 w (by omega)) ?_
      refine lv_istore (lv' := [(7, .int (oi (pr w))), (6, .int (nI w)), (5, .int (nI u)), (3, .int (nI tp)), (2, .int (nI k)), (1, .ref a5), (0, .ref t0)]) hx hb dX8_farthestFrom_73 hl (by decide) rfl (fun ls hl => ?_)
      refine lv_aload_n hx hb dX8_farthestFrom_75 rfl (lv_at hl 6 rfl) ?_
      refine cx_get C hW 0 3 rfl rfl (by decide) inX8 gw_246 rfl rfl dX8_farthestFrom_76 ?_
      refine lv_iload hx hb dX8_farthestFrom_79 (lv_at hl 1 rfl) ?_
      refine cx_ald C hW 11 0 (j := w) rfl rfl rfl (by have h1 := hO.1; omega) (by decide) dX8_farthestFrom_81 ?_
      refine lv_if_ge hx hb (x := (f w)) (tgt := 117) dX8_farthestFrom_82 (by decide) (fun c_82 => ?_) (fun c_82 => ?_)
      · refine lv_aload_n hx hb dX8_farthestFrom_117 rfl (lv_at hl 6 rfl) ?_
        refine cx_get C hW 0 3 rfl rfl (by decide) inX8 gw_246 rfl rfl dX8_farthestFrom_118 ?_
        refine lv_iload hx hb dX8_farthestFrom_121 (lv_at hl 1 rfl) ?_
        refine cx_ald C hW 11 0 (j := w) rfl rfl rfl (by have h1 := hO.1; omega) (by decide) dX8_farthestFrom_123 ?_
        refine lv_aload_n hx hb dX8_farthestFrom_124 rfl (lv_at hl 6 rfl) ?_
        refine cx_get C hW 0 3 rfl rfl (by decide) inX8 gw_246 rfl rfl dX8_farthestFrom_125 ?_
        refine lv_iload hx hb dX8_farthestFrom_128 (lv_at hl 2 rfl) ?_
        refine cx_ald C hW 11 0 (j := u) rfl rfl rfl (by have h1 := hO.1; have h2 := hu.1; omega) (by decide) dX8_farthestFrom_130 ?_
        refine lv_icmp_le hx hb (x := (f w)) (y := (f u)) (tgt := 138) dX8_farthestFrom_131 (by decide) (fun c_131 => ?_) (fun c_131 => ?_)
        · refine lv_iinc (v := (nI (w + 1))) (lv' := [(6, .int (nI (w + 1))), (7, .int (oi (pr w))), (5, .int (nI u)), (3, .int (nI tp)), (2, .int (nI k)), (1, .ref a5), (0, .ref t0)]) hx hb dX8_farthestFrom_138 hl (k := 1) rfl (nI_1 _) (by decide) rfl (fun ls hl => ?_)
          refine lv_goto (tgt := 57) hx hb dX8_farthestFrom_141 (by decide) ?_
          exact ih_57 ((w + 1), u, f) _ _ _ (by first | omega | (dsimp only; omega)) ⟨_, rfl, lv_sub hl [0, 2, 3, 4, 5, 6] rfl, hW, ⟨by dsimp only; omega, by dsimp only; omega, fu_keep hO.2.2.2.1 hO.1 hk (fa_A hf9 (by omega) (Int32.not_lt.mpr c_82)) (by omega) hu c_131, fa_A hf9 (by omega) (Int32.not_lt.mpr c_82)⟩⟩
        · refine lv_iload hx hb dX8_farthestFrom_134 (lv_at hl 1 rfl) ?_
          refine lv_istore (lv' := [(5, .int (nI w)), (7, .int (oi (pr w))), (6, .int (nI w)), (3, .int (nI tp)), (2, .int (nI k)), (1, .ref a5), (0, .ref t0)]) hx hb dX8_farthestFrom_136 hl (by decide) rfl (fun ls hl => ?_)
          refine lv_iinc (v := (nI (w + 1))) (lv' := [(6, .int (nI (w + 1))), (5, .int (nI w)), (7, .int (oi (pr w))), (3, .int (nI tp)), (2, .int (nI k)), (1, .ref a5), (0, .ref t0)]) hx hb dX8_farthestFrom_138 hl (k := 2) rfl (nI_1 _) (by decide) rfl (fun ls hl => ?_)
          refine lv_goto (tgt := 57) hx hb dX8_farthestFrom_141 (by decide) ?_
          exact ih_57 ((w + 1), w, f) _ _ _ (by first | omega | (dsimp only; omega)) ⟨_, rfl, lv_sub hl [0, 1, 3, 4, 5, 6] rfl, hW, ⟨by dsimp only; omega, by dsimp only; omega, fu_new hO.2.2.2.1 hO.1 hk (fa_A hf9 (by omega) (Int32.not_lt.mpr c_82)) (by omega) hu c_131, fa_A hf9 (by omega) (Int32.not_lt.mpr c_82)⟩⟩
      · refine lv_iload hx hb dX8_farthestFrom_85 (lv_at hl 0 rfl) ?_
        refine lv_iload_n hx hb dX8_farthestFrom_87 rfl (lv_at hl 3 rfl) ?_
        refine r_oi_ltN hx hb (o := (pr w)) (q := tp) (fun j hj => by have h1 := hO.1; have h2 := hO.2.2.2.1 w j (by omega) hj; omega) (by have h1 := hO.1; omega) (tgt := 117) dX8_farthestFrom_88 (by decide) (fun c_88 => ?_) (fun j_88 e_88 c_88 => ?_)
        · refine lv_aload_n hx hb dX8_farthestFrom_117 rfl (lv_at hl 6 rfl) ?_
          refine cx_get C hW 0 3 rfl rfl (by decide) inX8 gw_246 rfl rfl dX8_farthestFrom_118 ?_
          refine lv_iload hx hb dX8_farthestFrom_121 (lv_at hl 1 rfl) ?_
          refine cx_ald C hW 11 0 (j := w) rfl rfl rfl (by have h1 := hO.1; omega) (by decide) dX8_farthestFrom_123 ?_
          refine lv_aload_n hx hb dX8_farthestFrom_124 rfl (lv_at hl 6 rfl) ?_
          refine cx_get C hW 0 3 rfl rfl (by decide) inX8 gw_246 rfl rfl dX8_farthestFrom_125 ?_
          refine lv_iload hx hb dX8_farthestFrom_128 (lv_at hl 2 rfl) ?_
          refine cx_ald C hW 11 0 (j := u) rfl rfl rfl (by have h1 := hO.1; have h2 := hu.1; omega) (by decide) dX8_farthestFrom_130 ?_
          refine lv_icmp_le hx hb (x := (f w)) (y := (f u)) (tgt := 138) dX8_farthestFrom_131 (by decide) (fun c_131 => ?_) (fun c_131 => ?_)
          · refine lv_iinc (v := (nI (w + 1))) (lv' := [(6, .int (nI (w + 1))), (7, .int (oi (pr w))), (5, .int (nI u)), (3, .int (nI tp)), (2, .int (nI k)), (1, .ref a5), (0, .ref t0)]) hx hb dX8_farthestFrom_138 hl (k := 1) rfl (nI_1 _) (by decide) rfl (fun ls hl => ?_)
            refine lv_goto (tgt := 57) hx hb dX8_farthestFrom_141 (by decide) ?_
            exact ih_57 ((w + 1), u, f) _ _ _ (by first | omega | (dsimp only; omega)) ⟨_, rfl, lv_sub hl [0, 2, 3, 4, 5, 6] rfl, hW, ⟨by dsimp only; omega, by dsimp only; omega, fu_keep hO.2.2.2.1 hO.1 hk (fa_B hO.2.2.2.1 hta hf9 (by omega) hw0 c_88) (by omega) hu c_131, fa_B hO.2.2.2.1 hta hf9 (by omega) hw0 c_88⟩⟩
          · refine lv_iload hx hb dX8_farthestFrom_134 (lv_at hl 1 rfl) ?_
            refine lv_istore (lv' := [(5, .int (nI w)), (7, .int (oi (pr w))), (6, .int (nI w)), (3, .int (nI tp)), (2, .int (nI k)), (1, .ref a5), (0, .ref t0)]) hx hb dX8_farthestFrom_136 hl (by decide) rfl (fun ls hl => ?_)
            refine lv_iinc (v := (nI (w + 1))) (lv' := [(6, .int (nI (w + 1))), (5, .int (nI w)), (7, .int (oi (pr w))), (3, .int (nI tp)), (2, .int (nI k)), (1, .ref a5), (0, .ref t0)]) hx hb dX8_farthestFrom_138 hl (k := 2) rfl (nI_1 _) (by decide) rfl (fun ls hl => ?_)
            refine lv_goto (tgt := 57) hx hb dX8_farthestFrom_141 (by decide) ?_
            exact ih_57 ((w + 1), w, f) _ _ _ (by first | omega | (dsimp only; omega)) ⟨_, rfl, lv_sub hl [0, 1, 3, 4, 5, 6] rfl, hW, ⟨by dsimp only; omega, by dsimp only; omega, fu_new hO.2.2.2.1 hO.1 hk (fa_B hO.2.2.2.1 hta hf9 (by omega) hw0 c_88) (by omega) hu c_131, fa_B hO.2.2.2.1 hta hf9 (by omega) hw0 c_88⟩⟩
        · rw [e_88] at hl
          have hl : lv_has ls 8 [(7, .int (nI j_88)), (6, .int (nI w)), (5, .int (nI u)), (3, .int (nI tp)), (2, .int (nI k)), (1, .ref a5), (0, .ref t0)] := hl
          refine lv_aload_n hx hb dX8_farthestFrom_91 rfl (lv_at hl 6 rfl) ?_
          refine cx_get C hW 0 3 rfl rfl (by decide) inX8 gw_246 rfl rfl dX8_farthestFrom_92 ?_
          refine lv_iload hx hb dX8_farthestFrom_95 (lv_at hl 0 rfl) ?_
          refine cx_ald C hW 11 0 (j := j_88) rfl rfl rfl (by have h1 := hO.1; have h2 := hO.2.2.2.1 w _ (by omega) e_88; omega) (by decide) dX8_farthestFrom_97 ?_
          refine lv_if_lt hx hb (x := (f j_88)) (tgt := 117) dX8_farthestFrom_98 (by decide) (fun c_98 => ?_) (fun c_98 => ?_)
          · refine lv_aload_n hx hb dX8_farthestFrom_117 rfl (lv_at hl 6 rfl) ?_
            refine cx_get C hW 0 3 rfl rfl (by decide) inX8 gw_246 rfl rfl dX8_farthestFrom_118 ?_
            refine lv_iload hx hb dX8_farthestFrom_121 (lv_at hl 1 rfl) ?_
            refine cx_ald C hW 11 0 (j := w) rfl rfl rfl (by have h1 := hO.1; omega) (by decide) dX8_farthestFrom_123 ?_
            refine lv_aload_n hx hb dX8_farthestFrom_124 rfl (lv_at hl 6 rfl) ?_
            refine cx_get C hW 0 3 rfl rfl (by decide) inX8 gw_246 rfl rfl dX8_farthestFrom_125 ?_
            refine lv_iload hx hb dX8_farthestFrom_128 (lv_at hl 2 rfl) ?_
            refine cx_ald C hW 11 0 (j := u) rfl rfl rfl (by have h1 := hO.1; have h2 := hu.1; omega) (by decide) dX8_farthestFrom_130 ?_
            refine lv_icmp_le hx hb (x := (f w)) (y := (f u)) (tgt := 138) dX8_farthestFrom_131 (by decide) (fun c_131 => ?_) (fun c_131 => ?_)
            · refine lv_iinc (v := (nI (w + 1))) (lv' := [(6, .int (nI (w + 1))), (7, .int (nI j_88)), (5, .int (nI u)), (3, .int (nI tp)), (2, .int (nI k)), (1, .ref a5), (0, .ref t0)]) hx hb dX8_farthestFrom_138 hl (k := 1) rfl (nI_1 _) (by decide) rfl (fun ls hl => ?_)
              refine lv_goto (tgt := 57) hx hb dX8_farthestFrom_141 (by decide) ?_
              exact ih_57 ((w + 1), u, f) _ _ _ (by first | omega | (dsimp only; omega)) ⟨_, rfl, lv_sub hl [0, 2, 3, 4, 5, 6] rfl, hW, ⟨by dsimp only; omega, by dsimp only; omega, fu_keep hO.2.2.2.1 hO.1 hk (fa_C hO.2.2.2.1 hO.1 hk hf9 (by omega) e_88 c_88 c_98) (by omega) hu c_131, fa_C hO.2.2.2.1 hO.1 hk hf9 (by omega) e_88 c_88 c_98⟩⟩
            · refine lv_iload hx hb dX8_farthestFrom_134 (lv_at hl 1 rfl) ?_
              refine lv_istore (lv' := [(5, .int (nI w)), (7, .int (nI j_88)), (6, .int (nI w)), (3, .int (nI tp)), (2, .int (nI k)), (1, .ref a5), (0, .ref t0)]) hx hb dX8_farthestFrom_136 hl (by decide) rfl (fun ls hl => ?_)
              refine lv_iinc (v := (nI (w + 1))) (lv' := [(6, .int (nI (w + 1))), (5, .int (nI w)), (7, .int (nI j_88)), (3, .int (nI tp)), (2, .int (nI k)), (1, .ref a5), (0, .ref t0)]) hx hb dX8_farthestFrom_138 hl (k := 2) rfl (nI_1 _) (by decide) rfl (fun ls hl => ?_)
              refine lv_goto (tgt := 57) hx hb dX8_farthestFrom_141 (by decide) ?_
              exact ih_57 ((w + 1), w, f) _ _ _ (by first | omega | (dsimp only; omega)) ⟨_, rfl, lv_sub hl [0, 1, 3, 4, 5, 6] rfl, hW, ⟨by dsimp only; omega, by dsimp only; omega, fu_new hO.2.2.2.1 hO.1 hk (fa_C hO.2.2.2.1 hO.1 hk hf9 (by omega) e_88 c_88 c_98) (by omega) hu c_131, fa_C hO.2.2.2.1 hO.1 hk hf9 (by omega) e_88 c_88 c_98⟩⟩
          · refine lv_aload_n hx hb dX8_farthestFrom_101 rfl (lv_at hl 6 rfl) ?_
            refine cx_get C hW 0 3 rfl rfl (by decide) inX8 gw_246 rfl rfl dX8_farthestFrom_102 ?_
            refine lv_iload hx hb dX8_farthestFrom_105 (lv_at hl 1 rfl) ?_
            refine lv_aload_n hx hb dX8_farthestFrom_107 rfl (lv_at hl 6 rfl) ?_
            refine cx_get C hW 0 3 rfl rfl (by decide) inX8 gw_246 rfl rfl dX8_farthestFrom_108 ?_
            refine lv_iload hx hb dX8_farthestFrom_111 (lv_at hl 0 rfl) ?_
            refine cx_ald C hW 11 0 (j := j_88) rfl rfl rfl (by have h1 := hO.1; have h2 := hO.2.2.2.1 w _ (by omega) e_88; omega) (by decide) dX8_farthestFrom_113 ?_
            refine lv_iconst (v := nI 1) hx hb dX8_farthestFrom_114 (by decide) ?_
            refine lv_iadd hx hb dX8_farthestFrom_115 ?_
            refine cx_ast C hW 11 0 (j := w) (W1 := [(t0, .inr (11, [.ref t1, .ref t2, .ref t3, .ref t4, .ref t5, .ref t6])), (t1, .inl (aT 0, 12, .inl r1)), (t2, .inl (aT 0, 12, .inl r2)), (t3, .inl (aT 0, 12, .inl r3)), (t5, .inl (aT 2, 12, .inr (.inl r5))), (t6, .inl (aT 2, 12, .inr (.inl r6))), (a5, .inr (8, [.ref a6, .ref a7, .ref a8, .ref a9, .int (nI nm), .int nx])), (a6, .inl (aT 0, 12, .inl fI)), (a7, .inl (aT 0, 12, .inl fN)), (a8, .inl (aT 0, 12, .inl fW)), (a9, .inl (aT 0, 12, .inl fP)), (t4, .inl (aT 0, 12, .inl (upd f w (((f j_88) + (nI 1))))))]) rfl rfl rfl (by have h1 := hO.1; omega) (by decide) rfl dX8_farthestFrom_116 (fun H locs hW => ?_)
            refine lv_aload_n hx hb dX8_farthestFrom_117 rfl (lv_at hl 6 rfl) ?_
            refine cx_get C hW 0 3 rfl rfl (by decide) inX8 gw_246 rfl rfl dX8_farthestFrom_118 ?_
            refine lv_iload hx hb dX8_farthestFrom_121 (lv_at hl 1 rfl) ?_
            refine cx_ald C hW 11 0 (j := w) rfl rfl rfl (by have h1 := hO.1; omega) (by decide) dX8_farthestFrom_123 ?_
            refine lv_aload_n hx hb dX8_farthestFrom_124 rfl (lv_at hl 6 rfl) ?_
            refine cx_get C hW 0 3 rfl rfl (by decide) inX8 gw_246 rfl rfl dX8_farthestFrom_125 ?_
            refine lv_iload hx hb dX8_farthestFrom_128 (lv_at hl 2 rfl) ?_
            refine cx_ald C hW 11 0 (j := u) rfl rfl rfl (by have h1 := hO.1; have h2 := hu.1; omega) (by decide) dX8_farthestFrom_130 ?_
            refine lv_icmp_le hx hb (x := ((upd f w (((f j_88) + (nI 1)))) w)) (y := ((upd f w (((f j_88) + (nI 1)))) u)) (tgt := 138) dX8_farthestFrom_131 (by decide) (fun c_131 => ?_) (fun c_131 => ?_)
            · refine lv_iinc (v := (nI (w + 1))) (lv' := [(6, .int (nI (w + 1))), (7, .int (nI j_88)), (5, .int (nI u)), (3, .int (nI tp)), (2, .int (nI k)), (1, .ref a5), (0, .ref t0)]) hx hb dX8_farthestFrom_138 hl (k := 1) rfl (nI_1 _) (by decide) rfl (fun ls hl => ?_)
              refine lv_goto (tgt := 57) hx hb dX8_farthestFrom_141 (by decide) ?_
              exact ih_57 ((w + 1), u, (upd f w (((f j_88) + (nI 1))))) _ _ _ (by first | omega | (dsimp only; omega)) ⟨_, rfl, lv_sub hl [0, 2, 3, 4, 5, 6] rfl, hW, ⟨by dsimp only; omega, by dsimp only; omega, fu_keep hO.2.2.2.1 hO.1 hk (fa_D hO.2.2.2.1 hO.1 hk hta hf9 (by omega) e_88 c_98 (Int32.not_le.mp c_82)) (by omega) hu c_131, fa_D hO.2.2.2.1 hO.1 hk hta hf9 (by omega) e_88 c_98 (Int32.not_le.mp c_82)⟩⟩
            · refine lv_iload hx hb dX8_farthestFrom_134 (lv_at hl 1 rfl) ?_
              refine lv_istore (lv' := [(5, .int (nI w)), (7, .int (nI j_88)), (6, .int (nI w)), (3, .int (nI tp)), (2, .int (nI k)), (1, .ref a5), (0, .ref t0)]) hx hb dX8_farthestFrom_136 hl (by decide) rfl (fun ls hl => ?_)
              refine lv_iinc (v := (nI (w + 1))) (lv' := [(6, .int (nI (w + 1))), (5, .int (nI w)), (7, .int (nI j_88)), (3, .int (nI tp)), (2, .int (nI k)), (1, .ref a5), (0, .ref t0)]) hx hb dX8_farthestFrom_138 hl (k := 2) rfl (nI_1 _) (by decide) rfl (fun ls hl => ?_)
              refine lv_goto (tgt := 57) hx hb dX8_farthestFrom_141 (by decide) ?_
              exact ih_57 ((w + 1), w, (upd f w (((f j_88) + (nI 1))))) _ _ _ (by first | omega | (dsimp only; omega)) ⟨_, rfl, lv_sub hl [0, 1, 3, 4, 5, 6] rfl, hW, ⟨by dsimp only; omega, by dsimp only; omega, fu_new hO.2.2.2.1 hO.1 hk (fa_D hO.2.2.2.1 hO.1 hk hta hf9 (by omega) e_88 c_98 (Int32.not_le.mp c_82)) (by omega) hu c_131, fa_D hO.2.2.2.1 hO.1 hk hta hf9 (by omega) e_88 c_98 (Int32.not_le.mp c_82)⟩⟩
  · refine lv_iload hx hb dX8_farthestFrom_21 (lv_at hl 1 rfl) ?_
    refine lv_iload_n hx hb dX8_farthestFrom_23 rfl (lv_at hl 2 rfl) ?_
    refine r_oi_ltN hx hb (o := o) (q := tp) (fun j hj => by have h1 := hO.1; have := (ho j hj).1; omega) (by have h1 := hO.1; omega) (tgt := 51) dX8_farthestFrom_24 (by decide) (fun c_24 => ?_) (fun j_24 e_24 c_24 => ?_)
    · refine lv_iload_n hx hb dX8_farthestFrom_51 rfl (lv_at hl 3 rfl) ?_
      refine lv_istore (lv' := [(5, .int (nI k)), (4, .int (oi o)), (3, .int (nI tp)), (2, .int (nI k)), (1, .ref a5), (0, .ref t0)]) hx hb dX8_farthestFrom_52 hl (by decide) rfl (fun ls hl => ?_)
      refine lv_iload_n hx hb dX8_farthestFrom_54 rfl (lv_at hl 2 rfl) ?_
      refine lv_istore (lv' := [(6, .int (nI tp)), (5, .int (nI k)), (4, .int (oi o)), (3, .int (nI tp)), (2, .int (nI k)), (1, .ref a5), (0, .ref t0)]) hx hb dX8_farthestFrom_55 hl (by decide) rfl (fun ls hl => ?_)
      refine W_loopH (σ := Nat × Nat × (Nat → Int32)) (fun z_ => nm - z_.1) (fun z_ H locs g => ∃ ls, g = F0 m 57 ls [] ∧ lv_has ls 8 [(6, .int (nI z_.1)), (5, .int (nI z_.2.1)), (3, .int (nI tp)), (2, .int (nI k)), (1, .ref a5), (0, .ref t0)] ∧ CxB D [(t0, .inr (11, [.ref t1, .ref t2, .ref t3, .ref t4, .ref t5, .ref t6])), (t1, .inl (aT 0, 12, .inl r1)), (t2, .inl (aT 0, 12, .inl r2)), (t3, .inl (aT 0, 12, .inl r3)), (t5, .inl (aT 2, 12, .inr (.inl r5))), (t6, .inl (aT 2, 12, .inr (.inl r6))), (a5, .inr (8, [.ref a6, .ref a7, .ref a8, .ref a9, .int (nI nm), .int nx])), (a6, .inl (aT 0, 12, .inl fI)), (a7, .inl (aT 0, 12, .inl fN)), (a8, .inl (aT 0, 12, .inl fW)), (a9, .inl (aT 0, 12, .inl fP)), (t4, .inl (aT 0, 12, .inl z_.2.2))] A s.heap H locs ∧ tp ≤ z_.1 ∧ z_.1 ≤ nm ∧ FaU pr nm tp k z_.1 z_.2.1 ∧ FaI pr nm tp k z_.1 z_.2.2) ?_ (tp, k, f) _ ⟨_, rfl, lv_sub hl [0, 1, 3, 4, 5, 6] rfl, hW, ⟨Nat.le_refl _, by dsimp only; omega, FaU.init hO.2.2.2.1 hk hta, FcI.fa hO.2.2.2.1 hk hta (fun j e => ⟨(ho j e).2.1, c_24 j e⟩) hf9⟩⟩
      clear hW hl
      rintro ⟨w, u, f⟩ H locs g ⟨ls, rfl, hl, hW, ⟨hw0, hw, hu, hf9⟩⟩ ih_57
      dsimp only at hl hW hw0 hw hu hf9 ⊢
      refine lv_iload hx hb dX8_farthestFrom_57 (lv_at hl 0 rfl) ?_
      refine lv_aload_n hx hb dX8_farthestFrom_59 rfl (lv_at hl 4 rfl) ?_
      refine cx_getN C hZ hW 6 4 rfl rfl (by decide) inX5 nw_162 rfl rfl dX8_farthestFrom_60 ?_
      refine r_geN hx hb (a := w) (b := nm) (by have h1 := hO.1; omega) (by have h1 := hO.1; omega) (tgt := 144) dX8_farthestFrom_63 (by decide) (fun c_63 => ?_) (fun c_63 => ?_)
      · refine lv_iload hx hb dX8_farthestFrom_144 (lv_at hl 1 rfl) ?_
        have hW : CxB D [(t0, .inr (11, [.ref t1, .ref t2, .ref t3, .ref t4, .ref t5, .ref t6])), (t1, .inl (aT 0, 12, .inl r1)), (t2, .inl (aT 0, 12, .inl r2)), (t3, .inl (aT 0, 12, .inl r3)), (t4, .inl (aT 0, 12, .inl f)), (t5, .inl (aT 2, 12, .inr (.inl r5))), (t6, .inl (aT 2, 12, .inr (.inl r6))), (a5, .inr (8, [.ref a6, .ref a7, .ref a8, .ref a9, .int (nI nm), .int nx])), (a6, .inl (aT 0, 12, .inl fI)), (a7, .inl (aT 0, 12, .inl fN)), (a8, .inl (aT 0, 12, .inl fW)), (a9, .inl (aT 0, 12, .inl fP))] A s.heap H _ := cx_drop hW [0, 1, 2, 3, 11, 4, 5, 6, 7, 8, 9, 10] rfl (by decide)
        exact cx_iret C hr hlocks rfl hW ⟨Nat.le_of_ble_eq_true rfl, Nat.le_of_ble_eq_true rfl⟩ (⟨u, _, ⟨rfl, hu.cast (by omega), hf9.cast (by omega)⟩, rfl⟩) dX8_farthestFrom_146
      · refine lv_aload_n hx hb dX8_farthestFrom_66 rfl (lv_at hl 4 rfl) ?_
        refine cx_getN C hZ hW 6 3 rfl rfl (by decide) inX5 nw_158 rfl rfl dX8_farthestFrom_67 ?_
        refine lv_iload hx hb dX8_farthestFrom_70 (lv_at hl 0 rfl) ?_
        refine cx_ald C hW 10 0 (j := w) rfl rfl rfl (by have h1 := hO.1; omega) (by decide) dX8_farthestFrom_72 ?_
        refine r_eq (y := (oi (pr w))) (hO.2.2.1 w (by omega)) ?_
        refine lv_istore (lv' := [(7, .int (oi (pr w))), (6, .int (nI w)), (5, .int (nI u)), (3, .int (nI tp)), (2, .int (nI k)), (1, .ref a5), (0, .ref t0)]) hx hb dX8_farthestFrom_73 hl (by decide) rfl (fun ls hl => ?_)
        refine lv_aload_n hx hb dX8_farthestFrom_75 rfl (lv_at hl 6 rfl) ?_
        refine cx_get C hW 0 3 rfl rfl (by decide) inX8 gw_246 rfl rfl dX8_farthestFrom_76 ?_
        refine lv_iload hx hb dX8_farthestFrom_79 (lv_at hl 1 rfl) ?_
        refine cx_ald C hW 11 0 (j := w) rfl rfl rfl (by have h1 := hO.1; omega) (by decide) dX8_farthestFrom_81 ?_
        refine lv_if_ge hx hb (x := (f w)) (tgt := 117) dX8_farthestFrom_82 (by decide) (fun c_82 => ?_) (fun c_82 => ?_)
        · refine lv_aload_n hx hb dX8_farthestFrom_117 rfl (lv_at hl 6 rfl) ?_
          refine cx_get C hW 0 3 rfl rfl (by decide) inX8 gw_246 rfl rfl dX8_farthestFrom_118 ?_
          refine lv_iload hx hb dX8_farthestFrom_121 (lv_at hl 1 rfl) ?_
          refine cx_ald C hW 11 0 (j := w) rfl rfl rfl (by have h1 := hO.1; omega) (by decide) dX8_farthestFrom_123 ?_
          refine lv_aload_n hx hb dX8_farthestFrom_124 rfl (lv_at hl 6 rfl) ?_
          refine cx_get C hW 0 3 rfl rfl (by decide) inX8 gw_246 rfl rfl dX8_farthestFrom_125 ?_
          refine lv_iload hx hb dX8_farthestFrom_128 (lv_at hl 2 rfl) ?_
          refine cx_ald C hW 11 0 (j := u) rfl rfl rfl (by have h1 := hO.1; have h2 := hu.1; omega) (by decide) dX8_farthestFrom_130 ?_
          refine lv_icmp_le hx hb (x := (f w)) (y := (f u)) (tgt := 138) dX8_farthestFrom_131 (by decide) (fun c_131 => ?_) (fun c_131 => ?_)
          · refine lv_iinc (v := (nI (w + 1))) (lv' := [(6, .int (nI (w + 1))), (7, .int (oi (pr w))), (5, .int (nI u)), (3, .int (nI tp)), (2, .int (nI k)), (1, .ref a5), (0, .ref t0)]) hx hb dX8_farthestFrom_138 hl (k := 1) rfl (nI_1 _) (by decide) rfl (fun ls hl => ?_)
            refine lv_goto (tgt := 57) hx hb dX8_farthestFrom_141 (by decide) ?_
            exact ih_57 ((w + 1), u, f) _ _ _ (by first | omega | (dsimp only; omega)) ⟨_, rfl, lv_sub hl [0, 2, 3, 4, 5, 6] rfl, hW, ⟨by dsimp only; omega, by dsimp only; omega, fu_keep hO.2.2.2.1 hO.1 hk (fa_A hf9 (by omega) (Int32.not_lt.mpr c_82)) (by omega) hu c_131, fa_A hf9 (by omega) (Int32.not_lt.mpr c_82)⟩⟩
          · refine lv_iload hx hb dX8_farthestFrom_134 (lv_at hl 1 rfl) ?_
            refine lv_istore (lv' := [(5, .int (nI w)), (7, .int (oi (pr w))), (6, .int (nI w)), (3, .int (nI tp)), (2, .int (nI k)), (1, .ref a5), (0, .ref t0)]) hx hb dX8_farthestFrom_136 hl (by decide) rfl (fun ls hl => ?_)
            refine lv_iinc (v := (nI (w + 1))) (lv' := [(6, .int (nI (w + 1))), (5, .int (nI w)), (7, .int (oi (pr w))), (3, .int (nI tp)), (2, .int (nI k)), (1, .ref a5), (0, .ref t0)]) hx hb dX8_farthestFrom_138 hl (k := 2) rfl (nI_1 _) (by decide) rfl (fun ls hl => ?_)
            refine lv_goto (tgt := 57) hx hb dX8_farthestFrom_141 (by decide) ?_
            exact ih_57 ((w + 1), w, f) _ _ _ (by first | omega | (dsimp only; omega)) ⟨_, rfl, lv_sub hl [0, 1, 3, 4, 5, 6] rfl, hW, ⟨by dsimp only; omega, by dsimp only; omega, fu_new hO.2.2.2.1 hO.1 hk (fa_A hf9 (by omega) (Int32.not_lt.mpr c_82)) (by omega) hu c_131, fa_A hf9 (by omega) (Int32.not_lt.mpr c_82)⟩⟩
        · refine lv_iload hx hb dX8_farthestFrom_85 (lv_at hl 0 rfl) ?_
          refine lv_iload_n hx hb dX8_farthestFrom_87 rfl (lv_at hl 3 rfl) ?_
          refine r_oi_ltN hx hb (o := (pr w)) (q := tp) (fun j hj => by have h1 := hO.1; have h2 := hO.2.2.2.1 w j (by omega) hj; omega) (by have h1 := hO.1; omega) (tgt := 117) dX8_farthestFrom_88 (by decide) (fun c_88 => ?_) (fun j_88 e_88 c_88 => ?_)
          · refine lv_aload_n hx hb dX8_farthestFrom_117 rfl (lv_at hl 6 rfl) ?_
            refine cx_get C hW 0 3 rfl rfl (by decide) inX8 gw_246 rfl rfl dX8_farthestFrom_118 ?_
            refine lv_iload hx hb dX8_farthestFrom_121 (lv_at hl 1 rfl) ?_
            refine cx_ald C hW 11 0 (j := w) rfl rfl rfl (by have h1 := hO.1; omega) (by decide) dX8_farthestFrom_123 ?_
            refine lv_aload_n hx hb dX8_farthestFrom_124 rfl (lv_at hl 6 rfl) ?_
            refine cx_get C hW 0 3 rfl rfl (by decide) inX8 gw_246 rfl rfl dX8_farthestFrom_125 ?_
            refine lv_iload hx hb dX8_farthestFrom_128 (lv_at hl 2 rfl) ?_
            refine cx_ald C hW 11 0 (j := u) rfl rfl rfl (by have h1 := hO.1; have h2 := hu.1; omega) (by decide) dX8_farthestFrom_130 ?_
            refine lv_icmp_le hx hb (x := (f w)) (y := (f u)) (tgt := 138) dX8_farthestFrom_131 (by decide) (fun c_131 => ?_) (fun c_131 => ?_)
            · refine lv_iinc (v := (nI (w + 1))) (lv' := [(6, .int (nI (w + 1))), (7, .int (oi (pr w))), (5, .int (nI u)), (3, .int (nI tp)), (2, .int (nI k)), (1, .ref a5), (0, .ref t0)]) hx hb dX8_farthestFrom_138 hl (k := 1) rfl (nI_1 _) (by decide) rfl (fun ls hl => ?_)
              refine lv_goto (tgt := 57) hx hb dX8_farthestFrom_141 (by decide) ?_
              exact ih_57 ((w + 1), u, f) _ _ _ (by first | omega | (dsimp only; omega)) ⟨_, rfl, lv_sub hl [0, 2, 3, 4, 5, 6] rfl, hW, ⟨by dsimp only; omega, by dsimp only; omega, fu_keep hO.2.2.2.1 hO.1 hk (fa_B hO.2.2.2.1 hta hf9 (by omega) hw0 c_88) (by omega) hu c_131, fa_B hO.2.2.2.1 hta hf9 (by omega) hw0 c_88⟩⟩
            · refine lv_iload hx hb dX8_farthestFrom_134 (lv_at hl 1 rfl) ?_
              refine lv_istore (lv' := [(5, .int (nI w)), (7, .int (oi (pr w))), (6, .int (nI w)), (3, .int (nI tp)), (2, .int (nI k)), (1, .ref a5), (0, .ref t0)]) hx hb dX8_farthestFrom_136 hl (by decide) rfl (fun ls hl => ?_)
              refine lv_iinc (v := (nI (w + 1))) (lv' := [(6, .int (nI (w + 1))), (5, .int (nI w)), (7, .int (oi (pr w))), (3, .int (nI tp)), (2, .int (nI k)), (1, .ref a5), (0, .ref t0)]) hx hb dX8_farthestFrom_138 hl (k := 2) rfl (nI_1 _) (by decide) rfl (fun ls hl => ?_)
              refine lv_goto (tgt := 57) hx hb dX8_farthestFrom_141 (by decide) ?_
              exact ih_57 ((w + 1), w, f) _ _ _ (by first | omega | (dsimp only; omega)) ⟨_, rfl, lv_sub hl [0, 1, 3, 4, 5, 6] rfl, hW, ⟨by dsimp only; omega, by dsimp only; omega, fu_new hO.2.2.2.1 hO.1 hk (fa_B hO.2.2.2.1 hta hf9 (by omega) hw0 c_88) (by omega) hu c_131, fa_B hO.2.2.2.1 hta hf9 (by omega) hw0 c_88⟩⟩
          · rw [e_88] at hl
            have hl : lv_has ls 8 [(7, .int (nI j_88)), (6, .int (nI w)), (5, .int (nI u)), (3, .int (nI tp)), (2, .int (nI k)), (1, .ref a5), (0, .ref t0)] := hl
            refine lv_aload_n hx hb dX8_farthestFrom_91 rfl (lv_at hl 6 rfl) ?_
            refine cx_get C hW 0 3 rfl rfl (by decide) inX8 gw_246 rfl rfl dX8_farthestFrom_92 ?_
            refine lv_iload hx hb dX8_farthestFrom_95 (lv_at hl 0 rfl) ?_
            refine cx_ald C hW 11 0 (j := j_88) rfl rfl rfl (by have h1 := hO.1; have h2 := hO.2.2.2.1 w _ (by omega) e_88; omega) (by decide) dX8_farthestFrom_97 ?_
            refine lv_if_lt hx hb (x := (f j_88)) (tgt := 117) dX8_farthestFrom_98 (by decide) (fun c_98 => ?_) (fun c_98 => ?_)
            · refine lv_aload_n hx hb dX8_farthestFrom_117 rfl (lv_at hl 6 rfl) ?_
              refine cx_get C hW 0 3 rfl rfl (by decide) inX8 gw_246 rfl rfl dX8_farthestFrom_118 ?_
              refine lv_iload hx hb dX8_farthestFrom_121 (lv_at hl 1 rfl) ?_
              refine cx_ald C hW 11 0 (j := w) rfl rfl rfl (by have h1 := hO.1; omega) (by decide) dX8_farthestFrom_123 ?_
              refine lv_aload_n hx hb dX8_farthestFrom_124 rfl (lv_at hl 6 rfl) ?_
              refine cx_get C hW 0 3 rfl rfl (by decide) inX8 gw_246 rfl rfl dX8_farthestFrom_125 ?_
              refine lv_iload hx hb dX8_farthestFrom_128 (lv_at hl 2 rfl) ?_
              refine cx_ald C hW 11 0 (j := u) rfl rfl rfl (by have h1 := hO.1; have h2 := hu.1; omega) (by decide) dX8_farthestFrom_130 ?_
              refine lv_icmp_le hx hb (x := (f w)) (y := (f u)) (tgt := 138) dX8_farthestFrom_131 (by decide) (fun c_131 => ?_) (fun c_131 => ?_)
              · refine lv_iinc (v := (nI (w + 1))) (lv' := [(6, .int (nI (w + 1))), (7, .int (nI j_88)), (5, .int (nI u)), (3, .int (nI tp)), (2, .int (nI k)), (1, .ref a5), (0, .ref t0)]) hx hb dX8_farthestFrom_138 hl (k := 1) rfl (nI_1 _) (by decide) rfl (fun ls hl => ?_)
                refine lv_goto (tgt := 57) hx hb dX8_farthestFrom_141 (by decide) ?_
                exact ih_57 ((w + 1), u, f) _ _ _ (by first | omega | (dsimp only; omega)) ⟨_, rfl, lv_sub hl [0, 2, 3, 4, 5, 6] rfl, hW, ⟨by dsimp only; omega, by dsimp only; omega, fu_keep hO.2.2.2.1 hO.1 hk (fa_C hO.2.2.2.1 hO.1 hk hf9 (by omega) e_88 c_88 c_98) (by omega) hu c_131, fa_C hO.2.2.2.1 hO.1 hk hf9 (by omega) e_88 c_88 c_98⟩⟩
              · refine lv_iload hx hb dX8_farthestFrom_134 (lv_at hl 1 rfl) ?_
                refine lv_istore (lv' := [(5, .int (nI w)), (7, .int (nI j_88)), (6, .int (nI w)), (3, .int (nI tp)), (2, .int (nI k)), (1, .ref a5), (0, .ref t0)]) hx hb dX8_farthestFrom_136 hl (by decide) rfl (fun ls hl => ?_)
                refine lv_iinc (v := (nI (w + 1))) (lv' := [(6, .int (nI (w + 1))), (5, .int (nI w)), (7, .int (nI j_88)), (3, .int (nI tp)), (2, .int (nI k)), (1, .ref a5), (0, .ref t0)]) hx hb dX8_farthestFrom_138 hl (k := 2) rfl (nI_1 _) (by decide) rfl (fun ls hl => ?_)
                refine lv_goto (tgt := 57) hx hb dX8_farthestFrom_141 (by decide) ?_
                exact ih_57 ((w + 1), w, f) _ _ _ (by first | omega | (dsimp only; omega)) ⟨_, rfl, lv_sub hl [0, 1, 3, 4, 5, 6] rfl, hW, ⟨by dsimp only; omega, by dsimp only; omega, fu_new hO.2.2.2.1 hO.1 hk (fa_C hO.2.2.2.1 hO.1 hk hf9 (by omega) e_88 c_88 c_98) (by omega) hu c_131, fa_C hO.2.2.2.1 hO.1 hk hf9 (by omega) e_88 c_88 c_98⟩⟩
            · refine lv_aload_n hx hb dX8_farthestFrom_101 rfl (lv_at hl 6 rfl) ?_
              refine cx_get C hW 0 3 rfl rfl (by decide) inX8 gw_246 rfl rfl dX8_farthestFrom_102 ?_
              refine lv_iload hx hb dX8_farthestFrom_105 (lv_at hl 1 rfl) ?_
              refine lv_aload_n hx hb dX8_farthestFrom_107 rfl (lv_at hl 6 rfl) ?_
              refine cx_get C hW 0 3 rfl rfl (by decide) inX8 gw_246 rfl rfl dX8_farthestFrom_108 ?_
              refine lv_iload hx hb dX8_farthestFrom_111 (lv_at hl 0 rfl) ?_
              refine cx_ald C hW 11 0 (j := j_88) rfl rfl rfl (by have h1 := hO.1; have h2 := hO.2.2.2.1 w _ (by omega) e_88; omega) (by decide) dX8_farthestFrom_113 ?_
              refine lv_iconst (v := nI 1) hx hb dX8_farthestFrom_114 (by decide) ?_
              refine lv_iadd hx hb dX8_farthestFrom_115 ?_
              refine cx_ast C hW 11 0 (j := w) (W1 := [(t0, .inr (11, [.ref t1, .ref t2, .ref t3, .ref t4, .ref t5, .ref t6])), (t1, .inl (aT 0, 12, .inl r1)), (t2, .inl (aT 0, 12, .inl r2)), (t3, .inl (aT 0, 12, .inl r3)), (t5, .inl (aT 2, 12, .inr (.inl r5))), (t6, .inl (aT 2, 12, .inr (.inl r6))), (a5, .inr (8, [.ref a6, .ref a7, .ref a8, .ref a9, .int (nI nm), .int nx])), (a6, .inl (aT 0, 12, .inl fI)), (a7, .inl (aT 0, 12, .inl fN)), (a8, .inl (aT 0, 12, .inl fW)), (a9, .inl (aT 0, 12, .inl fP)), (t4, .inl (aT 0, 12, .inl (upd f w (((f j_88) + (nI 1))))))]) rfl rfl rfl (by have h1 := hO.1; omega) (by decide) rfl dX8_farthestFrom_116 (fun H locs hW => ?_)
              refine lv_aload_n hx hb dX8_farthestFrom_117 rfl (lv_at hl 6 rfl) ?_
              refine cx_get C hW 0 3 rfl rfl (by decide) inX8 gw_246 rfl rfl dX8_farthestFrom_118 ?_
              refine lv_iload hx hb dX8_farthestFrom_121 (lv_at hl 1 rfl) ?_
              refine cx_ald C hW 11 0 (j := w) rfl rfl rfl (by have h1 := hO.1; omega) (by decide) dX8_farthestFrom_123 ?_
              refine lv_aload_n hx hb dX8_farthestFrom_124 rfl (lv_at hl 6 rfl) ?_
              refine cx_get C hW 0 3 rfl rfl (by decide) inX8 gw_246 rfl rfl dX8_farthestFrom_125 ?_
              refine lv_iload hx hb dX8_farthestFrom_128 (lv_at hl 2 rfl) ?_
              refine cx_ald C hW 11 0 (j := u) rfl rfl rfl (by have h1 := hO.1; have h2 := hu.1; omega) (by decide) dX8_farthestFrom_130 ?_
              refine lv_icmp_le hx hb (x := ((upd f w (((f j_88) + (nI 1)))) w)) (y := ((upd f w (((f j_88) + (nI 1)))) u)) (tgt := 138) dX8_farthestFrom_131 (by decide) (fun c_131 => ?_) (fun c_131 => ?_)
              · refine lv_iinc (v := (nI (w + 1))) (lv' := [(6, .int (nI (w + 1))), (7, .int (nI j_88)), (5, .int (nI u)), (3, .int (nI tp)), (2, .int (nI k)), (1, .ref a5), (0, .ref t0)]) hx hb dX8_farthestFrom_138 hl (k := 1) rfl (nI_1 _) (by decide) rfl (fun ls hl => ?_)
                refine lv_goto (tgt := 57) hx hb dX8_farthestFrom_141 (by decide) ?_
                exact ih_57 ((w + 1), u, (upd f w (((f j_88) + (nI 1))))) _ _ _ (by first | omega | (dsimp only; omega)) ⟨_, rfl, lv_sub hl [0, 2, 3, 4, 5, 6] rfl, hW, ⟨by dsimp only; omega, by dsimp only; omega, fu_keep hO.2.2.2.1 hO.1 hk (fa_D hO.2.2.2.1 hO.1 hk hta hf9 (by omega) e_88 c_98 (Int32.not_le.mp c_82)) (by omega) hu c_131, fa_D hO.2.2.2.1 hO.1 hk hta hf9 (by omega) e_88 c_98 (Int32.not_le.mp c_82)⟩⟩
              · refine lv_iload hx hb dX8_farthestFrom_134 (lv_at hl 1 rfl) ?_
                refine lv_istore (lv' := [(5, .int (nI w)), (7, .int (nI j_88)), (6, .int (nI w)), (3, .int (nI tp)), (2, .int (nI k)), (1, .ref a5), (0, .ref t0)]) hx hb dX8_farthestFrom_136 hl (by decide) rfl (fun ls hl => ?_)
                refine lv_iinc (v := (nI (w + 1))) (lv' := [(6, .int (nI (w + 1))), (5, .int (nI w)), (7, .int (nI j_88)), (3, .int (nI tp)), (2, .int (nI k)), (1, .ref a5), (0, .ref t0)]) hx hb dX8_farthestFrom_138 hl (k := 2) rfl (nI_1 _) (by decide) rfl (fun ls hl => ?_)
                refine lv_goto (tgt := 57) hx hb dX8_farthestFrom_141 (by decide) ?_
                exact ih_57 ((w + 1), w, (upd f w (((f j_88) + (nI 1))))) _ _ _ (by first | omega | (dsimp only; omega)) ⟨_, rfl, lv_sub hl [0, 1, 3, 4, 5, 6] rfl, hW, ⟨by dsimp only; omega, by dsimp only; omega, fu_new hO.2.2.2.1 hO.1 hk (fa_D hO.2.2.2.1 hO.1 hk hta hf9 (by omega) e_88 c_98 (Int32.not_le.mp c_82)) (by omega) hu c_131, fa_D hO.2.2.2.1 hO.1 hk hta hf9 (by omega) e_88 c_98 (Int32.not_le.mp c_82)⟩⟩
    · subst e_24
      have hl : lv_has ls 8 [(5, .int (nI w)), (4, .int (nI j_24)), (3, .int (nI tp)), (2, .int (nI k)), (1, .ref a5), (0, .ref t0)] := hl
      refine lv_aload_n hx hb dX8_farthestFrom_27 rfl (lv_at hl 5 rfl) ?_
      refine cx_get C hW 0 3 rfl rfl (by decide) inX8 gw_246 rfl rfl dX8_farthestFrom_28 ?_
      refine lv_iload hx hb dX8_farthestFrom_31 (lv_at hl 1 rfl) ?_
      refine lv_iload hx hb dX8_farthestFrom_33 (lv_at hl 0 rfl) ?_
      refine cx_ast C hW 11 0 (j := j_24) (W1 := [(t0, .inr (11, [.ref t1, .ref t2, .ref t3, .ref t4, .ref t5, .ref t6])), (t1, .inl (aT 0, 12, .inl r1)), (t2, .inl (aT 0, 12, .inl r2)), (t3, .inl (aT 0, 12, .inl r3)), (t5, .inl (aT 2, 12, .inr (.inl r5))), (t6, .inl (aT 2, 12, .inr (.inl r6))), (a5, .inr (8, [.ref a6, .ref a7, .ref a8, .ref a9, .int (nI nm), .int nx])), (a6, .inl (aT 0, 12, .inl fI)), (a7, .inl (aT 0, 12, .inl fN)), (a8, .inl (aT 0, 12, .inl fW)), (a9, .inl (aT 0, 12, .inl fP)), (t4, .inl (aT 0, 12, .inl (upd f j_24 ((nI w)))))]) rfl rfl rfl (by have h1 := hO.1; have := (ho _ rfl).1; omega) (by decide) rfl dX8_farthestFrom_35 (fun H locs hW => ?_)
      refine lv_aload_n hx hb dX8_farthestFrom_36 rfl (lv_at hl 4 rfl) ?_
      refine cx_getN C hZ hW 6 3 rfl rfl (by decide) inX5 nw_158 rfl rfl dX8_farthestFrom_37 ?_
      refine lv_iload hx hb dX8_farthestFrom_40 (lv_at hl 1 rfl) ?_
      refine cx_ald C hW 10 0 (j := j_24) rfl rfl rfl (by have h1 := hO.1; have := (ho _ rfl).1; omega) (by decide) dX8_farthestFrom_42 ?_
      refine r_eq (y := (oi (pr j_24))) (hO.2.2.1 _ (ho _ rfl).1) ?_
      refine lv_istore (lv' := [(4, .int (oi (pr j_24))), (5, .int (nI w)), (3, .int (nI tp)), (2, .int (nI k)), (1, .ref a5), (0, .ref t0)]) hx hb dX8_farthestFrom_43 hl (by decide) rfl (fun ls hl => ?_)
      refine lv_iinc (v := (nI (w + 1))) (lv' := [(5, .int (nI (w + 1))), (4, .int (oi (pr j_24))), (3, .int (nI tp)), (2, .int (nI k)), (1, .ref a5), (0, .ref t0)]) hx hb dX8_farthestFrom_45 hl (k := 1) rfl (nI_1 _) (by decide) rfl (fun ls hl => ?_)
      refine lv_goto (tgt := 14) hx hb dX8_farthestFrom_48 (by decide) ?_
      exact ih_14 ((w + 1), (pr j_24), (upd f j_24 ((nI w)))) _ _ _ (by first | omega | (dsimp only; omega)) ⟨_, rfl, lv_sub hl [0, 1, 2, 3, 4, 5] rfl, hW, ⟨by dsimp only; omega, fun i hi => by have h0 := (ho _ rfl).1; have h1 := hO.2.2.2.1 j_24 i h0 hi; have h2 := dep_some hO.2.2.2.1 h0 hi; have h3 := (ho _ rfl).2.2; exact ⟨by omega, anc_tr hO.2.2.2.1 (anc_dn hO.2.2.2.1 h0 hi (anc_self pr i)) k hk (ho _ rfl).2.1, by dsimp only; omega⟩, FcI.stepw hO.2.2.2.1 hk (ho _ rfl).2.1 (by first | assumption | omega) (ho _ rfl).2.2 hf9⟩⟩
theorem dX8_longestBySweeps_0 : decode cX8_longestBySweeps 0 = .ok (.aload_n 0, 1) := by decide +kernel
theorem dX8_longestBySweeps_1 : decode cX8_longestBySweeps 1 = .ok (.aload_n 1, 1) := by decide +kernel
theorem dX8_longestBySweeps_2 : decode cX8_longestBySweeps 2 = .ok (.iload_n 2, 1) := by decide +kernel
theorem dX8_longestBySweeps_3 : decode cX8_longestBySweeps 3 = .ok (.iload_n 2, 1) := by decide +kernel
theorem dX8_longestBySweeps_4 : decode cX8_longestBySweeps 4 = .ok (.invokevirtual 64, 3) := by decide +kernel
theorem dX8_longestBySweeps_7 : decode cX8_longestBySweeps 7 = .ok (.istore_n 3, 1) := by decide +kernel
theorem dX8_longestBySweeps_8 : decode cX8_longestBySweeps 8 = .ok (.aload_n 0, 1) := by decide +kernel
theorem dX8_longestBySweeps_9 : decode cX8_longestBySweeps 9 = .ok (.aload_n 1, 1) := by decide +kernel
theorem dX8_longestBySweeps_10 : decode cX8_longestBySweeps 10 = .ok (.iload_n 3, 1) := by decide +kernel
theorem dX8_longestBySweeps_11 : decode cX8_longestBySweeps 11 = .ok (.iload_n 2, 1) := by decide +kernel
theorem dX8_longestBySweeps_12 : decode cX8_longestBySweeps 12 = .ok (.invokevirtual 64, 3) := by decide +kernel
theorem dX8_longestBySweeps_15 : decode cX8_longestBySweeps 15 = .ok (.istore 4, 2) := by decide +kernel
theorem dX8_longestBySweeps_17 : decode cX8_longestBySweeps 17 = .ok (.aload_n 0, 1) := by decide +kernel
theorem dX8_longestBySweeps_18 : decode cX8_longestBySweeps 18 = .ok (.getfield 21, 3) := by decide +kernel
theorem dX8_longestBySweeps_21 : decode cX8_longestBySweeps 21 = .ok (.iload 4, 2) := by decide +kernel
theorem dX8_longestBySweeps_23 : decode cX8_longestBySweeps 23 = .ok (.iaload, 1) := by decide +kernel
theorem dX8_longestBySweeps_24 : decode cX8_longestBySweeps 24 = .ok (.iconst 1, 1) := by decide +kernel
theorem dX8_longestBySweeps_25 : decode cX8_longestBySweeps 25 = .ok (.iadd, 1) := by decide +kernel
theorem dX8_longestBySweeps_26 : decode cX8_longestBySweeps 26 = .ok (.ireturn, 1) := by decide +kernel
theorem gV_X8_X8_farthestFrom_64 : GoodIn gw (wsV RX8 64 RX8 yX8_farthestFrom (Cond.code yX8_farthestFrom cX8_farthestFrom 8 (some .int) :: gw)) := gdV gw_515 gw_517 gw_1 gw_72 gw_518
theorem hV_X8_farthestFrom : yX8_farthestFrom.cls = RX8 ∧ yX8_farthestFrom.cls ≠ "java/lang/invoke/MethodHandle" ∧ yX8_farthestFrom.cls ≠ "java/lang/invoke/VarHandle" ∧ (parseMethodDescriptor yX8_farthestFrom.desc).map (fun d => d.parameters.length) = some 3 := ⟨rfl, by decide +kernel, by decide +kernel, by decide +kernel⟩
set_option maxHeartbeats 2000000 in
set_option maxRecDepth 20000 in
theorem k_X8_longestBySweeps (l : Launch) (hfl : l.stackTraces = false) (D : va_G) (aT : Nat → ClassId) (t0 : Nat) (t1 : Nat) (t2 : Nat) (t3 : Nat) (t4 : Nat) (t5 : Nat) (t6 : Nat) (r1 : Nat → Int32) (r2 : Nat → Int32) (r3 : Nat → Int32) (r4 : Nat → Int32) (r5 : Nat → Int64) (r6 : Nat → Int64) (a5 : Nat) (a6 : Nat) (a7 : Nat) (a8 : Nat) (a9 : Nat) (fI : Nat → Int32) (fN : Nat → Int32) (fW : Nat → Int32) (fP : Nat → Int32) (nm : Nat) (nx : Int32) (idn : Nat → Nat) (pr : Nat → Option Nat) (tn : Nat → Nat) (hO : MoC fI fN fP nm idn pr tn) (tp : Nat) (htp : tp < nm) : CxG l yX8_longestBySweeps cX8_longestBySweeps 5 (some (.int)) 2 0 0 50 D aT [.ref t0, .ref a5, .int (nI tp)] [(t0, .inr (11, [.ref t1, .ref t2, .ref t3, .ref t4, .ref t5, .ref t6])), (t1, .inl (aT 0, 12, .inl r1)), (t2, .inl (aT 0, 12, .inl r2)), (t3, .inl (aT 0, 12, .inl r3)), (t4, .inl (aT 0, 12, .inl r4)), (t5, .inl (aT 2, 12, .inr (.inl r5))), (t6, .inl (aT 2, 12, .inr (.inl r6))), (a5, .inr (8, [.ref a6, .ref a7, .ref a8, .ref a9, .int (nI nm), .int nx])), (a6, .inl (aT 0, 12, .inl fI)), (a7, .inl (aT 0, 12, .inl fN)), (a8, .inl (aT 0, 12, .inl fW)), (a9, .inl (aT 0, 12, .inl fP))] (qI D aT (fun r W1 => r = nI (lpO pr nm tp nm + 1) ∧ ∃ g4 : Nat → Int32, W1 = ([(t0, .inr (11, [.ref t1, .ref t2, .ref t3, .ref t4, .ref t5, .ref t6])), (t1, .inl (aT 0, 12, .inl r1)), (t2, .inl (aT 0, 12, .inl r2)), (t3, .inl (aT 0, 12, .inl r3)), (t4, .inl (aT 0, 12, .inl g4)), (t5, .inl (aT 2, 12, .inr (.inl r5))), (t6, .inl (aT 2, 12, .inr (.inl r6))), (a5, .inr (8, [.ref a6, .ref a7, .ref a8, .ref a9, .int (nI nm), .int nx])), (a6, .inl (aT 0, 12, .inl fI)), (a7, .inl (aT 0, 12, .inl fN)), (a8, .inl (aT 0, 12, .inl fW)), (a9, .inl (aT 0, 12, .inl fP))] : va_W))) (fun _ _ => False) := by
  refine CxG.of RX8 (by decide +kernel) rfl (Nat.le_of_ble_eq_true rfl) ?_
  intro p e s m below meth c A ls C hml hl hA hr hlocks hex hnm hZ hW
  have hl : lv_has ls 5 [(0, .ref t0), (1, .ref a5), (2, .int (nI tp))] := hl
  have hx := C.1
  have hb := C.2.1
  refine lv_aload_n hx hb dX8_longestBySweeps_0 rfl (lv_at hl 0 rfl) ?_
  refine lv_aload_n hx hb dX8_longestBySweeps_1 rfl (lv_at hl 1 rfl) ?_
  refine lv_iload_n hx hb dX8_longestBySweeps_2 rfl (lv_at hl 2 rfl) ?_
  refine lv_iload_n hx hb dX8_longestBySweeps_3 rfl (lv_at hl 2 rfl) ?_
  refine cx_calli (Wr := []) (cx_runV C hml hl.1 hZ hW hA (As := [.ref a5, .int (nI tp), .int (nI tp)]) (rest := []) (k_X8_farthestFrom l hfl D aT t0 t1 t2 t3 t4 t5 t6 r1 r2 r3 r4 r5 r6 a5 a6 a7 a8 a9 fI fN fW fP nm nx idn pr tn hO tp htp tp htp (anc_self pr tp)) gV_X8_X8_farthestFrom_64 hV_X8_farthestFrom rfl ⟨Nat.le_of_ble_eq_true rfl, Nat.le_of_ble_eq_true rfl⟩ ⟨Nat.le_of_ble_eq_true rfl, Nat.le_of_ble_eq_true rfl⟩ [0, 1, 2, 3, 4, 5, 6, 7, 8, 9, 10, 11] rfl (by decide) 0 11 rfl rfl rfl rfl (Nat.le_of_ble_eq_true rfl) dX8_longestBySweeps_4) hW hA [0, 1, 2, 3, 4, 5, 6, 7, 8, 9, 10, 11] [] rfl rfl (by decide) (by decide) (fun _ _ _ _ _ _ h9 => h9.elim) (fun r_4 W_4 H locs hq hW => ?_)
  obtain ⟨u_4, q4_4, ⟨rfl, hu_4, hf_4⟩, rfl⟩ := hq
  refine lv_istore_n (lv' := [(3, .int (nI u_4)), (0, .ref t0), (1, .ref a5), (2, .int (nI tp))]) hx hb dX8_longestBySweeps_7 rfl hl (by decide) rfl (fun ls hl => ?_)
  refine lv_aload_n hx hb dX8_longestBySweeps_8 rfl (lv_at hl 1 rfl) ?_
  refine lv_aload_n hx hb dX8_longestBySweeps_9 rfl (lv_at hl 2 rfl) ?_
  refine lv_iload_n hx hb dX8_longestBySweeps_10 rfl (lv_at hl 0 rfl) ?_
  refine lv_iload_n hx hb dX8_longestBySweeps_11 rfl (lv_at hl 3 rfl) ?_
  refine cx_calli (Wr := []) (cx_runV C hml hl.1 hZ hW hA (As := [.ref a5, .int (nI u_4), .int (nI tp)]) (rest := []) (k_X8_farthestFrom l hfl D aT t0 t1 t2 t3 t4 t5 t6 r1 r2 r3 q4_4 r5 r6 a5 a6 a7 a8 a9 fI fN fW fP nm nx idn pr tn hO u_4 hu_4.1 tp htp hu_4.2.1) gV_X8_X8_farthestFrom_64 hV_X8_farthestFrom rfl ⟨Nat.le_of_ble_eq_true rfl, Nat.le_of_ble_eq_true rfl⟩ ⟨Nat.le_of_ble_eq_true rfl, Nat.le_of_ble_eq_true rfl⟩ [0, 1, 2, 3, 4, 5, 6, 7, 8, 9, 10, 11] rfl (by decide) 0 11 rfl rfl rfl rfl (Nat.le_of_ble_eq_true rfl) dX8_longestBySweeps_12) hW hA [0, 1, 2, 3, 4, 5, 6, 7, 8, 9, 10, 11] [] rfl rfl (by decide) (by decide) (fun _ _ _ _ _ _ h9 => h9.elim) (fun r_12 W_12 H locs hq hW => ?_)
  obtain ⟨u_12, q4_12, ⟨rfl, hu_12, hf_12⟩, rfl⟩ := hq
  refine lv_istore (lv' := [(4, .int (nI u_12)), (3, .int (nI u_4)), (0, .ref t0), (1, .ref a5), (2, .int (nI tp))]) hx hb dX8_longestBySweeps_15 hl (by decide) rfl (fun ls hl => ?_)
  refine lv_aload_n hx hb dX8_longestBySweeps_17 rfl (lv_at hl 2 rfl) ?_
  refine cx_get C hW 0 3 rfl rfl (by decide) inX8 gw_246 rfl rfl dX8_longestBySweeps_18 ?_
  refine lv_iload hx hb dX8_longestBySweeps_21 (lv_at hl 0 rfl) ?_
  refine cx_ald C hW 4 0 (j := u_12) rfl rfl rfl (by have h1 := hO.1; have h2 := hu_12.1; omega) (by decide) dX8_longestBySweeps_23 ?_
  refine lv_iconst (v := nI 1) hx hb dX8_longestBySweeps_24 (by decide) ?_
  refine lv_iadd hx hb dX8_longestBySweeps_25 ?_
  exact cx_iret C hr hlocks rfl hW ⟨Nat.le_of_ble_eq_true rfl, Nat.le_of_ble_eq_true rfl⟩ (⟨swp_fin hO.2.2.2.1 htp hu_4 hu_12 hf_12, _, rfl⟩) dX8_longestBySweeps_26
theorem dX8_longestByHeights_0 : decode cX8_longestByHeights 0 = .ok (.aload_n 0, 1) := by decide +kernel
theorem dX8_longestByHeights_1 : decode cX8_longestByHeights 1 = .ok (.getfield 18, 3) := by decide +kernel
theorem dX8_longestByHeights_4 : decode cX8_longestByHeights 4 = .ok (.iconst 0, 1) := by decide +kernel
theorem dX8_longestByHeights_5 : decode cX8_longestByHeights 5 = .ok (.invokestatic 44, 3) := by decide +kernel
theorem dX8_longestByHeights_8 : decode cX8_longestByHeights 8 = .ok (.iconst 1, 1) := by decide +kernel
theorem dX8_longestByHeights_9 : decode cX8_longestByHeights 9 = .ok (.istore_n 3, 1) := by decide +kernel
theorem dX8_longestByHeights_10 : decode cX8_longestByHeights 10 = .ok (.aload_n 1, 1) := by decide +kernel
theorem dX8_longestByHeights_11 : decode cX8_longestByHeights 11 = .ok (.getfield 50, 3) := by decide +kernel
theorem dX8_longestByHeights_14 : decode cX8_longestByHeights 14 = .ok (.iconst 1, 1) := by decide +kernel
theorem dX8_longestByHeights_15 : decode cX8_longestByHeights 15 = .ok (.isub, 1) := by decide +kernel
theorem dX8_longestByHeights_16 : decode cX8_longestByHeights 16 = .ok (.istore 4, 2) := by decide +kernel
theorem dX8_longestByHeights_18 : decode cX8_longestByHeights 18 = .ok (.iload 4, 2) := by decide +kernel
theorem dX8_longestByHeights_20 : decode cX8_longestByHeights 20 = .ok (.iload_n 2, 1) := by decide +kernel
theorem dX8_longestByHeights_21 : decode cX8_longestByHeights 21 = .ok (.if_icmp .le 75, 3) := by decide +kernel
theorem dX8_longestByHeights_24 : decode cX8_longestByHeights 24 = .ok (.aload_n 1, 1) := by decide +kernel
theorem dX8_longestByHeights_25 : decode cX8_longestByHeights 25 = .ok (.iload 4, 2) := by decide +kernel
theorem dX8_longestByHeights_27 : decode cX8_longestByHeights 27 = .ok (.iload_n 2, 1) := by decide +kernel
theorem dX8_longestByHeights_28 : decode cX8_longestByHeights 28 = .ok (.invokevirtual 54, 3) := by decide +kernel
theorem dX8_longestByHeights_31 : decode cX8_longestByHeights 31 = .ok (.ifCond .eq 59, 3) := by decide +kernel
theorem dX8_longestByHeights_34 : decode cX8_longestByHeights 34 = .ok (.aload_n 1, 1) := by decide +kernel
theorem dX8_longestByHeights_35 : decode cX8_longestByHeights 35 = .ok (.getfield 37, 3) := by decide +kernel
theorem dX8_longestByHeights_38 : decode cX8_longestByHeights 38 = .ok (.iload 4, 2) := by decide +kernel
theorem dX8_longestByHeights_40 : decode cX8_longestByHeights 40 = .ok (.iaload, 1) := by decide +kernel
theorem dX8_longestByHeights_41 : decode cX8_longestByHeights 41 = .ok (.istore 5, 2) := by decide +kernel
theorem dX8_longestByHeights_43 : decode cX8_longestByHeights 43 = .ok (.aload_n 0, 1) := by decide +kernel
theorem dX8_longestByHeights_44 : decode cX8_longestByHeights 44 = .ok (.getfield 18, 3) := by decide +kernel
theorem dX8_longestByHeights_47 : decode cX8_longestByHeights 47 = .ok (.iload 4, 2) := by decide +kernel
theorem dX8_longestByHeights_49 : decode cX8_longestByHeights 49 = .ok (.iaload, 1) := by decide +kernel
theorem dX8_longestByHeights_50 : decode cX8_longestByHeights 50 = .ok (.iconst 1, 1) := by decide +kernel
theorem dX8_longestByHeights_51 : decode cX8_longestByHeights 51 = .ok (.iadd, 1) := by decide +kernel
theorem dX8_longestByHeights_52 : decode cX8_longestByHeights 52 = .ok (.istore 6, 2) := by decide +kernel
theorem dX8_longestByHeights_54 : decode cX8_longestByHeights 54 = .ok (.iload_n 3, 1) := by decide +kernel
theorem dX8_longestByHeights_55 : decode cX8_longestByHeights 55 = .ok (.aload_n 0, 1) := by decide +kernel
theorem dX8_longestByHeights_56 : decode cX8_longestByHeights 56 = .ok (.getfield 18, 3) := by decide +kernel
theorem dX8_longestByHeights_59 : decode cX8_longestByHeights 59 = .ok (.iload 5, 2) := by decide +kernel
theorem dX8_longestByHeights_61 : decode cX8_longestByHeights 61 = .ok (.iaload, 1) := by decide +kernel
theorem dX8_longestByHeights_62 : decode cX8_longestByHeights 62 = .ok (.iconst 1, 1) := by decide +kernel
theorem dX8_longestByHeights_63 : decode cX8_longestByHeights 63 = .ok (.iadd, 1) := by decide +kernel
theorem dX8_longestByHeights_64 : decode cX8_longestByHeights 64 = .ok (.iload 6, 2) := by decide +kernel
theorem dX8_longestByHeights_66 : decode cX8_longestByHeights 66 = .ok (.iadd, 1) := by decide +kernel
theorem dX8_longestByHeights_67 : decode cX8_longestByHeights 67 = .ok (.invokestatic 58, 3) := by decide +kernel
theorem dX8_longestByHeights_70 : decode cX8_longestByHeights 70 = .ok (.istore_n 3, 1) := by decide +kernel
theorem dX8_longestByHeights_71 : decode cX8_longestByHeights 71 = .ok (.aload_n 0, 1) := by decide +kernel
theorem dX8_longestByHeights_72 : decode cX8_longestByHeights 72 = .ok (.getfield 18, 3) := by decide +kernel
theorem dX8_longestByHeights_75 : decode cX8_longestByHeights 75 = .ok (.iload 5, 2) := by decide +kernel
theorem dX8_longestByHeights_77 : decode cX8_longestByHeights 77 = .ok (.aload_n 0, 1) := by decide +kernel
theorem dX8_longestByHeights_78 : decode cX8_longestByHeights 78 = .ok (.getfield 18, 3) := by decide +kernel
theorem dX8_longestByHeights_81 : decode cX8_longestByHeights 81 = .ok (.iload 5, 2) := by decide +kernel
theorem dX8_longestByHeights_83 : decode cX8_longestByHeights 83 = .ok (.iaload, 1) := by decide +kernel
theorem dX8_longestByHeights_84 : decode cX8_longestByHeights 84 = .ok (.iload 6, 2) := by decide +kernel
theorem dX8_longestByHeights_86 : decode cX8_longestByHeights 86 = .ok (.invokestatic 58, 3) := by decide +kernel
theorem dX8_longestByHeights_89 : decode cX8_longestByHeights 89 = .ok (.iastore, 1) := by decide +kernel
theorem dX8_longestByHeights_90 : decode cX8_longestByHeights 90 = .ok (.iinc 4 (-1), 3) := by decide +kernel
theorem dX8_longestByHeights_93 : decode cX8_longestByHeights 93 = .ok (.goto (-75), 3) := by decide +kernel
theorem dX8_longestByHeights_96 : decode cX8_longestByHeights 96 = .ok (.iload_n 3, 1) := by decide +kernel
theorem dX8_longestByHeights_97 : decode cX8_longestByHeights 97 = .ok (.ireturn, 1) := by decide +kernel
theorem gV_X8_X5_isInBranch_54 : GoodIn gw (wsV RX8 54 RX5 yX5_isInBranch (Cond.code yX5_isInBranch cX5_isInBranch 5 (some .boolean) :: gw)) := gdV gw_506 gw_507 gw_508 gw_70 gw_509
set_option maxHeartbeats 2000000 in
set_option maxRecDepth 20000 in
theorem k_X8_longestByHeights (l : Launch) (hfl : l.stackTraces = false) (D : va_G) (aT : Nat → ClassId) (t0 : Nat) (t1 : Nat) (t2 : Nat) (t3 : Nat) (t4 : Nat) (t5 : Nat) (t6 : Nat) (r1 : Nat → Int32) (r2 : Nat → Int32) (r3 : Nat → Int32) (r4 : Nat → Int32) (r5 : Nat → Int64) (r6 : Nat → Int64) (a5 : Nat) (a6 : Nat) (a7 : Nat) (a8 : Nat) (a9 : Nat) (fI : Nat → Int32) (fN : Nat → Int32) (fW : Nat → Int32) (fP : Nat → Int32) (nm : Nat) (nx : Int32) (idn : Nat → Nat) (pr : Nat → Option Nat) (tn : Nat → Nat) (hO : MoC fI fN fP nm idn pr tn) (tp : Nat) (htp : tp < nm) : CxG l yX8_longestByHeights cX8_longestByHeights 7 (some (.int)) 1 0 0 40 D aT [.ref t0, .ref a5, .int (nI tp)] [(t0, .inr (11, [.ref t1, .ref t2, .ref t3, .ref t4, .ref t5, .ref t6])), (t1, .inl (aT 0, 12, .inl r1)), (t2, .inl (aT 0, 12, .inl r2)), (t3, .inl (aT 0, 12, .inl r3)), (t4, .inl (aT 0, 12, .inl r4)), (t5, .inl (aT 2, 12, .inr (.inl r5))), (t6, .inl (aT 2, 12, .inr (.inl r6))), (a5, .inr (8, [.ref a6, .ref a7, .ref a8, .ref a9, .int (nI nm), .int nx])), (a6, .inl (aT 0, 12, .inl fI)), (a7, .inl (aT 0, 12, .inl fN)), (a8, .inl (aT 0, 12, .inl fW)), (a9, .inl (aT 0, 12, .inl fP))] (qI D aT (fun r W1 => r = nI (lpO pr nm tp nm + 1) ∧ ∃ g3 : Nat → Int32, W1 = ([(t0, .inr (11, [.ref t1, .ref t2, .ref t3, .ref t4, .ref t5, .ref t6])), (t1, .inl (aT 0, 12, .inl r1)), (t2, .inl (aT 0, 12, .inl r2)), (t3, .inl (aT 0, 12, .inl g3)), (t4, .inl (aT 0, 12, .inl r4)), (t5, .inl (aT 2, 12, .inr (.inl r5))), (t6, .inl (aT 2, 12, .inr (.inl r6))), (a5, .inr (8, [.ref a6, .ref a7, .ref a8, .ref a9, .int (nI nm), .int nx])), (a6, .inl (aT 0, 12, .inl fI)), (a7, .inl (aT 0, 12, .inl fN)), (a8, .inl (aT 0, 12, .inl fW)), (a9, .inl (aT 0, 12, .inl fP))] : va_W))) (fun _ _ => False) := by
  refine CxG.of RX8 (by decide +kernel) rfl (Nat.le_of_ble_eq_true rfl) ?_
  intro p e s m below meth c A ls C hml hl hA hr hlocks hex hnm hZ hW
  have hl : lv_has ls 7 [(0, .ref t0), (1, .ref a5), (2, .int (nI tp))] := hl
  have hx := C.1
  have hb := C.2.1
  refine lv_aload_n hx hb dX8_longestByHeights_0 rfl (lv_at hl 0 rfl) ?_
  refine cx_get C hW 0 2 rfl rfl (by decide) inX8 gw_245 rfl rfl dX8_longestByHeights_1 ?_
  refine lv_iconst (v := nI 0) hx hb dX8_longestByHeights_4 (by decide) ?_
  refine cx_callv (Wr := [(t0, .inr (11, [.ref t1, .ref t2, .ref t3, .ref t4, .ref t5, .ref t6])), (t1, .inl (aT 0, 12, .inl r1)), (t2, .inl (aT 0, 12, .inl r2)), (t4, .inl (aT 0, 12, .inl r4)), (t5, .inl (aT 2, 12, .inr (.inl r5))), (t6, .inl (aT 2, 12, .inr (.inl r6))), (a5, .inr (8, [.ref a6, .ref a7, .ref a8, .ref a9, .int (nI nm), .int nx])), (a6, .inl (aT 0, 12, .inl fI)), (a7, .inl (aT 0, 12, .inl fN)), (a8, .inl (aT 0, 12, .inl fW)), (a9, .inl (aT 0, 12, .inl fP))]) (cx_runS C hml hl.1 hZ hW hA (As := [.ref t3, .int (nI 0)]) (rest := []) (k_J7_fill_53178 l hfl D aT t3 12 r3 (nI 0) (by decide)) gS_X8_J7_fill_53178_44 hS_J7_fill_53178 rfl ⟨Nat.le_of_ble_eq_true rfl, Nat.le_of_ble_eq_true rfl⟩ ⟨Nat.le_of_ble_eq_true rfl, Nat.le_of_ble_eq_true rfl⟩ [3] rfl (by decide) rfl (Nat.le_of_ble_eq_true rfl) dX8_longestByHeights_5) hW hA [3] [0, 1, 2, 4, 5, 6, 7, 8, 9, 10, 11] rfl rfl (by decide) (by decide) (fun _ _ _ _ _ _ h9 => h9.elim) (fun W_5 H locs hq hW => ?_)
  obtain ⟨gf_5, hgf_5, rfl⟩ := hq
  refine lv_iconst (v := nI 1) hx hb dX8_longestByHeights_8 (by decide) ?_
  refine lv_istore_n (lv' := [(3, .int (nI 1)), (0, .ref t0), (1, .ref a5), (2, .int (nI tp))]) hx hb dX8_longestByHeights_9 rfl hl (by decide) rfl (fun ls hl => ?_)
  refine lv_aload_n hx hb dX8_longestByHeights_10 rfl (lv_at hl 2 rfl) ?_
  refine cx_getN C hZ hW 6 4 rfl rfl (by decide) inX5 nw_162 rfl rfl dX8_longestByHeights_11 ?_
  refine lv_iconst (v := nI 1) hx hb dX8_longestByHeights_14 (by decide) ?_
  refine r_isubN hx hb (a := nm) (b := 1) (by omega) dX8_longestByHeights_15 ?_
  refine lv_istore (lv' := [(4, .int (nI (nm - 1))), (3, .int (nI 1)), (0, .ref t0), (1, .ref a5), (2, .int (nI tp))]) hx hb dX8_longestByHeights_16 hl (by decide) rfl (fun ls hl => ?_)
  refine W_loopH (σ := Nat × Int32 × (Nat → Int32)) (fun z_ => z_.1) (fun z_ H locs g => ∃ ls, g = F0 m 18 ls [] ∧ lv_has ls 7 [(4, .int (nI z_.1)), (3, .int z_.2.1), (2, .int (nI tp)), (1, .ref a5), (0, .ref t0)] ∧ CxB D [(t0, .inr (11, [.ref t1, .ref t2, .ref t3, .ref t4, .ref t5, .ref t6])), (t1, .inl (aT 0, 12, .inl r1)), (t2, .inl (aT 0, 12, .inl r2)), (t4, .inl (aT 0, 12, .inl r4)), (t5, .inl (aT 2, 12, .inr (.inl r5))), (t6, .inl (aT 2, 12, .inr (.inl r6))), (a5, .inr (8, [.ref a6, .ref a7, .ref a8, .ref a9, .int (nI nm), .int nx])), (a6, .inl (aT 0, 12, .inl fI)), (a7, .inl (aT 0, 12, .inl fN)), (a8, .inl (aT 0, 12, .inl fW)), (a9, .inl (aT 0, 12, .inl fP)), (t3, .inl (aT 0, 12, .inl z_.2.2))] A s.heap H locs ∧ tp ≤ z_.1 ∧ z_.1 < nm ∧ HxI pr nm tp z_.1 z_.2.1 z_.2.2) ?_ ((nm - 1), (nI 1), gf_5) _ ⟨_, rfl, lv_sub hl [0, 1, 4, 3, 2] rfl, hW, ⟨by dsimp only; omega, by dsimp only; omega, HxI.init hO.2.2.2.1 htp (fun p hp => hgf_5 p (by have h1 := hO.1; omega))⟩⟩
  clear hW hl
  rintro ⟨i, x, f⟩ H locs g ⟨ls, rfl, hl, hW, ⟨h1, hi, hx9⟩⟩ ih_18
  dsimp only at hl hW h1 hi hx9 ⊢
  refine lv_iload hx hb dX8_longestByHeights_18 (lv_at hl 0 rfl) ?_
  refine lv_iload_n hx hb dX8_longestByHeights_20 rfl (lv_at hl 2 rfl) ?_
  refine r_leN hx hb (a := i) (b := tp) (by have h1 := hO.1; omega) (by have h1 := hO.1; omega) (tgt := 96) dX8_longestByHeights_21 (by decide) (fun c_21 => ?_) (fun c_21 => ?_)
  · refine lv_iload_n hx hb dX8_longestByHeights_96 rfl (lv_at hl 1 rfl) ?_
    have hW : CxB D [(t0, .inr (11, [.ref t1, .ref t2, .ref t3, .ref t4, .ref t5, .ref t6])), (t1, .inl (aT 0, 12, .inl r1)), (t2, .inl (aT 0, 12, .inl r2)), (t3, .inl (aT 0, 12, .inl f)), (t4, .inl (aT 0, 12, .inl r4)), (t5, .inl (aT 2, 12, .inr (.inl r5))), (t6, .inl (aT 2, 12, .inr (.inl r6))), (a5, .inr (8, [.ref a6, .ref a7, .ref a8, .ref a9, .int (nI nm), .int nx])), (a6, .inl (aT 0, 12, .inl fI)), (a7, .inl (aT 0, 12, .inl fN)), (a8, .inl (aT 0, 12, .inl fW)), (a9, .inl (aT 0, 12, .inl fP))] A s.heap H _ := cx_drop hW [0, 1, 2, 11, 3, 4, 5, 6, 7, 8, 9, 10] rfl (by decide)
    exact cx_iret C hr hlocks rfl hW ⟨Nat.le_of_ble_eq_true rfl, Nat.le_of_ble_eq_true rfl⟩ (⟨hx9.fin hO.2.2.2.1 (by omega), _, rfl⟩) dX8_longestByHeights_97
  · refine lv_aload_n hx hb dX8_longestByHeights_24 rfl (lv_at hl 3 rfl) ?_
    refine lv_iload hx hb dX8_longestByHeights_25 (lv_at hl 0 rfl) ?_
    refine lv_iload_n hx hb dX8_longestByHeights_27 rfl (lv_at hl 2 rfl) ?_
    refine cx_calli (Wr := [(t0, .inr (11, [.ref t1, .ref t2, .ref t3, .ref t4, .ref t5, .ref t6])), (t1, .inl (aT 0, 12, .inl r1)), (t2, .inl (aT 0, 12, .inl r2)), (t4, .inl (aT 0, 12, .inl r4)), (t5, .inl (aT 2, 12, .inr (.inl r5))), (t6, .inl (aT 2, 12, .inr (.inl r6))), (t3, .inl (aT 0, 12, .inl f))]) (cx_runV C hml hl.1 hZ hW hA (As := [.int (nI i), .int (nI tp)]) (rest := []) (k_X5_isInBranch l hfl D aT a5 a6 a7 a8 a9 fI fN fW fP nm nx idn pr tn hO i (show i < nm by omega) tp htp) gV_X8_X5_isInBranch_54 hV_X5_isInBranch rfl ⟨Nat.le_of_ble_eq_true rfl, Nat.le_of_ble_eq_true rfl⟩ ⟨Nat.le_of_ble_eq_true rfl, Nat.le_of_ble_eq_true rfl⟩ [6, 7, 8, 9, 10] rfl (by decide) 6 8 rfl rfl rfl rfl (Nat.le_of_ble_eq_true rfl) dX8_longestByHeights_28) hW hA [6, 7, 8, 9, 10] [0, 1, 2, 3, 4, 5, 11] rfl rfl (by decide) (by decide) (fun _ _ _ _ _ _ h9 => h9.elim) (fun r_28 W_28 H locs hq hW => ?_)
    obtain ⟨rfl, rfl⟩ := hq
    refine r_bI_eq hx hb (b := (anc pr tp i)) (tgt := 90) dX8_longestByHeights_31 (by decide) (fun c_31 => ?_) (fun c_31 => ?_)
    · refine lv_iinc (v := (nI (i - 1))) (lv' := [(4, .int (nI (i - 1))), (3, .int x), (2, .int (nI tp)), (1, .ref a5), (0, .ref t0)]) hx hb dX8_longestByHeights_90 hl (k := 0) rfl (pd_eq (by omega)) (by decide) rfl (fun ls hl => ?_)
      refine lv_goto (tgt := 18) hx hb dX8_longestByHeights_93 (by decide) ?_
      have hW : CxB D [(t0, .inr (11, [.ref t1, .ref t2, .ref t3, .ref t4, .ref t5, .ref t6])), (t1, .inl (aT 0, 12, .inl r1)), (t2, .inl (aT 0, 12, .inl r2)), (t4, .inl (aT 0, 12, .inl r4)), (t5, .inl (aT 2, 12, .inr (.inl r5))), (t6, .inl (aT 2, 12, .inr (.inl r6))), (a5, .inr (8, [.ref a6, .ref a7, .ref a8, .ref a9, .int (nI nm), .int nx])), (a6, .inl (aT 0, 12, .inl fI)), (a7, .inl (aT 0, 12, .inl fN)), (a8, .inl (aT 0, 12, .inl fW)), (a9, .inl (aT 0, 12, .inl fP)), (t3, .inl (aT 0, 12, .inl f))] A s.heap H _ := cx_drop hW [0, 1, 2, 3, 4, 5, 7, 8, 9, 10, 11, 6] rfl (by decide)
      exact ih_18 ((i - 1), x, f) _ _ _ (by first | omega | (dsimp only; omega)) ⟨_, rfl, lv_sub hl [0, 1, 2, 3, 4] rfl, hW, ⟨by dsimp only; omega, by dsimp only; omega, hx9.skp hO.2.2.2.1 hi (by omega) c_31⟩⟩
    · obtain ⟨j_, hj1, hj2⟩ := anc_par hO.2.2.2.1 (show i < nm by omega) (show tp < i by omega) c_31
      refine lv_aload_n hx hb dX8_longestByHeights_34 rfl (lv_at hl 3 rfl) ?_
      refine cx_getN C hZ hW 7 3 rfl rfl (by decide) inX5 nw_158 rfl rfl dX8_longestByHeights_35 ?_
      refine lv_iload hx hb dX8_longestByHeights_38 (lv_at hl 0 rfl) ?_
      refine cx_ald C hW 11 0 (j := i) rfl rfl rfl (by have h1 := hO.1; omega) (by decide) dX8_longestByHeights_40 ?_
      refine r_eq (y := (nI j_)) (by rw [hO.2.2.1 i (by omega), hj1]; rfl) ?_
      refine lv_istore (lv' := [(5, .int (nI j_)), (4, .int (nI i)), (3, .int x), (2, .int (nI tp)), (1, .ref a5), (0, .ref t0)]) hx hb dX8_longestByHeights_41 hl (by decide) rfl (fun ls hl => ?_)
      refine lv_aload_n hx hb dX8_longestByHeights_43 rfl (lv_at hl 5 rfl) ?_
      refine cx_get C hW 0 2 rfl rfl (by decide) inX8 gw_245 rfl rfl dX8_longestByHeights_44 ?_
      refine lv_iload hx hb dX8_longestByHeights_47 (lv_at hl 1 rfl) ?_
      refine cx_ald C hW 6 0 (j := i) rfl rfl rfl (by have h1 := hO.1; omega) (by decide) dX8_longestByHeights_49 ?_
      refine lv_iconst (v := nI 1) hx hb dX8_longestByHeights_50 (by decide) ?_
      refine lv_iadd hx hb dX8_longestByHeights_51 ?_
      refine lv_istore (lv' := [(6, .int ((f i) + (nI 1))), (5, .int (nI j_)), (4, .int (nI i)), (3, .int x), (2, .int (nI tp)), (1, .ref a5), (0, .ref t0)]) hx hb dX8_longestByHeights_52 hl (by decide) rfl (fun ls hl => ?_)
      refine lv_iload_n hx hb dX8_longestByHeights_54 rfl (lv_at hl 3 rfl) ?_
      refine lv_aload_n hx hb dX8_longestByHeights_55 rfl (lv_at hl 6 rfl) ?_
      refine cx_get C hW 0 2 rfl rfl (by decide) inX8 gw_245 rfl rfl dX8_longestByHeights_56 ?_
      refine lv_iload hx hb dX8_longestByHeights_59 (lv_at hl 1 rfl) ?_
      refine cx_ald C hW 6 0 (j := j_) rfl rfl rfl (by have h1 := hO.1; omega) (by decide) dX8_longestByHeights_61 ?_
      refine lv_iconst (v := nI 1) hx hb dX8_longestByHeights_62 (by decide) ?_
      refine lv_iadd hx hb dX8_longestByHeights_63 ?_
      refine lv_iload hx hb dX8_longestByHeights_64 (lv_at hl 0 rfl) ?_
      refine lv_iadd hx hb dX8_longestByHeights_66 ?_
      refine cx_max C hml hl.1 gw_510 ⟨Nat.le_of_ble_eq_true rfl, Nat.le_of_ble_eq_true rfl, Nat.le_of_ble_eq_true rfl⟩ ⟨Nat.le_of_ble_eq_true rfl, Nat.le_of_ble_eq_true rfl⟩ dX8_longestByHeights_67 ?_
      refine lv_istore_n (lv' := [(3, .int (if x < (((f j_) + (nI 1)) + ((f i) + (nI 1))) then (((f j_) + (nI 1)) + ((f i) + (nI 1))) else x)), (6, .int ((f i) + (nI 1))), (5, .int (nI j_)), (4, .int (nI i)), (2, .int (nI tp)), (1, .ref a5), (0, .ref t0)]) hx hb dX8_longestByHeights_70 rfl hl (by decide) rfl (fun ls hl => ?_)
      refine lv_aload_n hx hb dX8_longestByHeights_71 rfl (lv_at hl 6 rfl) ?_
      refine cx_get C hW 0 2 rfl rfl (by decide) inX8 gw_245 rfl rfl dX8_longestByHeights_72 ?_
      refine lv_iload hx hb dX8_longestByHeights_75 (lv_at hl 2 rfl) ?_
      refine lv_aload_n hx hb dX8_longestByHeights_77 rfl (lv_at hl 6 rfl) ?_
      refine cx_get C hW 0 2 rfl rfl (by decide) inX8 gw_245 rfl rfl dX8_longestByHeights_78 ?_
      refine lv_iload hx hb dX8_longestByHeights_81 (lv_at hl 2 rfl) ?_
      refine cx_ald C hW 6 0 (j := j_) rfl rfl rfl (by have h1 := hO.1; omega) (by decide) dX8_longestByHeights_83 ?_
      refine lv_iload hx hb dX8_longestByHeights_84 (lv_at hl 1 rfl) ?_
      refine cx_max C hml hl.1 gw_510 ⟨Nat.le_of_ble_eq_true rfl, Nat.le_of_ble_eq_true rfl, Nat.le_of_ble_eq_true rfl⟩ ⟨Nat.le_of_ble_eq_true rfl, Nat.le_of_ble_eq_true rfl⟩ dX8_longestByHeights_86 ?_
      refine cx_ast C hW 6 0 (j := j_) (W1 := [(t0, .inr (11, [.ref t1, .ref t2, .ref t3, .ref t4, .ref t5, .ref t6])), (t1, .inl (aT 0, 12, .inl r1)), (t2, .inl (aT 0, 12, .inl r2)), (t4, .inl (aT 0, 12, .inl r4)), (t5, .inl (aT 2, 12, .inr (.inl r5))), (t6, .inl (aT 2, 12, .inr (.inl r6))), (t3, .inl (aT 0, 12, .inl (upd f j_ ((if (f j_) < ((f i) + (nI 1)) then ((f i) + (nI 1)) else (f j_)))))), (a5, .inr (8, [.ref a6, .ref a7, .ref a8, .ref a9, .int (nI nm), .int nx])), (a6, .inl (aT 0, 12, .inl fI)), (a7, .inl (aT 0, 12, .inl fN)), (a8, .inl (aT 0, 12, .inl fW)), (a9, .inl (aT 0, 12, .inl fP))]) rfl rfl rfl (by have h1 := hO.1; omega) (by decide) rfl dX8_longestByHeights_89 (fun H locs hW => ?_)
      refine lv_iinc (v := (nI (i - 1))) (lv' := [(4, .int (nI (i - 1))), (3, .int (if x < (((f j_) + (nI 1)) + ((f i) + (nI 1))) then (((f j_) + (nI 1)) + ((f i) + (nI 1))) else x)), (6, .int ((f i) + (nI 1))), (5, .int (nI j_)), (2, .int (nI tp)), (1, .ref a5), (0, .ref t0)]) hx hb dX8_longestByHeights_90 hl (k := 3) rfl (pd_eq (by omega)) (by decide) rfl (fun ls hl => ?_)
      refine lv_goto (tgt := 18) hx hb dX8_longestByHeights_93 (by decide) ?_
      have hW : CxB D [(t0, .inr (11, [.ref t1, .ref t2, .ref t3, .ref t4, .ref t5, .ref t6])), (t1, .inl (aT 0, 12, .inl r1)), (t2, .inl (aT 0, 12, .inl r2)), (t4, .inl (aT 0, 12, .inl r4)), (t5, .inl (aT 2, 12, .inr (.inl r5))), (t6, .inl (aT 2, 12, .inr (.inl r6))), (a5, .inr (8, [.ref a6, .ref a7, .ref a8, .ref a9, .int (nI nm), .int nx])), (a6, .inl (aT 0, 12, .inl fI)), (a7, .inl (aT 0, 12, .inl fN)), (a8, .inl (aT 0, 12, .inl fW)), (a9, .inl (aT 0, 12, .inl fP)), (t3, .inl (aT 0, 12, .inl (upd f j_ ((if (f j_) < ((f i) + (nI 1)) then ((f i) + (nI 1)) else (f j_))))))] A s.heap H _ := cx_drop hW [0, 1, 2, 3, 4, 5, 7, 8, 9, 10, 11, 6] rfl (by decide)
      exact ih_18 ((i - 1), (if x < (((f j_) + (nI 1)) + ((f i) + (nI 1))) then (((f j_) + (nI 1)) + ((f i) + (nI 1))) else x), (upd f j_ ((if (f j_) < ((f i) + (nI 1)) then ((f i) + (nI 1)) else (f j_))))) _ _ _ (by first | omega | (dsimp only; omega)) ⟨_, rfl, lv_sub hl [0, 1, 4, 5, 6] rfl, hW, ⟨by dsimp only; omega, by dsimp only; omega, hx9.step hO.2.2.2.1 hO.1 hi (by omega) c_31 hj1⟩⟩
theorem dX8_bestByBranches_0 : decode cX8_bestByBranches 0 = .ok (.aload_n 0, 1) := by decide +kernel
theorem dX8_bestByBranches_1 : decode cX8_bestByBranches 1 = .ok (.getfield 24, 3) := by decide +kernel
theorem dX8_bestByBranches_4 : decode cX8_bestByBranches 4 = .ok (.lconst 0, 1) := by decide +kernel
theorem dX8_bestByBranches_5 : decode cX8_bestByBranches 5 = .ok (.invokestatic 68, 3) := by decide +kernel
theorem dX8_bestByBranches_8 : decode cX8_bestByBranches 8 = .ok (.aload_n 0, 1) := by decide +kernel
theorem dX8_bestByBranches_9 : decode cX8_bestByBranches 9 = .ok (.getfield 28, 3) := by decide +kernel
theorem dX8_bestByBranches_12 : decode cX8_bestByBranches 12 = .ok (.lconst 0, 1) := by decide +kernel
theorem dX8_bestByBranches_13 : decode cX8_bestByBranches 13 = .ok (.invokestatic 68, 3) := by decide +kernel
theorem dX8_bestByBranches_16 : decode cX8_bestByBranches 16 = .ok (.lconst 0, 1) := by decide +kernel
theorem dX8_bestByBranches_17 : decode cX8_bestByBranches 17 = .ok (.lstore_n 2, 1) := by decide +kernel
theorem dX8_bestByBranches_18 : decode cX8_bestByBranches 18 = .ok (.aload_n 1, 1) := by decide +kernel
theorem dX8_bestByBranches_19 : decode cX8_bestByBranches 19 = .ok (.getfield 50, 3) := by decide +kernel
theorem dX8_bestByBranches_22 : decode cX8_bestByBranches 22 = .ok (.iconst 1, 1) := by decide +kernel
theorem dX8_bestByBranches_23 : decode cX8_bestByBranches 23 = .ok (.isub, 1) := by decide +kernel
theorem dX8_bestByBranches_24 : decode cX8_bestByBranches 24 = .ok (.istore 4, 2) := by decide +kernel
theorem dX8_bestByBranches_26 : decode cX8_bestByBranches 26 = .ok (.iload 4, 2) := by decide +kernel
theorem dX8_bestByBranches_28 : decode cX8_bestByBranches 28 = .ok (.ifCond .lt 97, 3) := by decide +kernel
theorem dX8_bestByBranches_31 : decode cX8_bestByBranches 31 = .ok (.aload_n 1, 1) := by decide +kernel
theorem dX8_bestByBranches_32 : decode cX8_bestByBranches 32 = .ok (.getfield 37, 3) := by decide +kernel
theorem dX8_bestByBranches_35 : decode cX8_bestByBranches 35 = .ok (.iload 4, 2) := by decide +kernel
theorem dX8_bestByBranches_37 : decode cX8_bestByBranches 37 = .ok (.iaload, 1) := by decide +kernel
theorem dX8_bestByBranches_38 : decode cX8_bestByBranches 38 = .ok (.istore 5, 2) := by decide +kernel
theorem dX8_bestByBranches_40 : decode cX8_bestByBranches 40 = .ok (.aload_n 0, 1) := by decide +kernel
theorem dX8_bestByBranches_41 : decode cX8_bestByBranches 41 = .ok (.getfield 24, 3) := by decide +kernel
theorem dX8_bestByBranches_44 : decode cX8_bestByBranches 44 = .ok (.iload 4, 2) := by decide +kernel
theorem dX8_bestByBranches_46 : decode cX8_bestByBranches 46 = .ok (.dup2, 1) := by decide +kernel
theorem dX8_bestByBranches_47 : decode cX8_bestByBranches 47 = .ok (.laload, 1) := by decide +kernel
theorem dX8_bestByBranches_48 : decode cX8_bestByBranches 48 = .ok (.aload_n 1, 1) := by decide +kernel
theorem dX8_bestByBranches_49 : decode cX8_bestByBranches 49 = .ok (.getfield 71, 3) := by decide +kernel
theorem dX8_bestByBranches_52 : decode cX8_bestByBranches 52 = .ok (.iload 4, 2) := by decide +kernel
theorem dX8_bestByBranches_54 : decode cX8_bestByBranches 54 = .ok (.iaload, 1) := by decide +kernel
theorem dX8_bestByBranches_55 : decode cX8_bestByBranches 55 = .ok (.i2l, 1) := by decide +kernel
theorem dX8_bestByBranches_56 : decode cX8_bestByBranches 56 = .ok (.ladd, 1) := by decide +kernel
theorem dX8_bestByBranches_57 : decode cX8_bestByBranches 57 = .ok (.lastore, 1) := by decide +kernel
theorem dX8_bestByBranches_58 : decode cX8_bestByBranches 58 = .ok (.aload_n 0, 1) := by decide +kernel
theorem dX8_bestByBranches_59 : decode cX8_bestByBranches 59 = .ok (.getfield 24, 3) := by decide +kernel
theorem dX8_bestByBranches_62 : decode cX8_bestByBranches 62 = .ok (.iload 4, 2) := by decide +kernel
theorem dX8_bestByBranches_64 : decode cX8_bestByBranches 64 = .ok (.laload, 1) := by decide +kernel
theorem dX8_bestByBranches_65 : decode cX8_bestByBranches 65 = .ok (.aload_n 0, 1) := by decide +kernel
theorem dX8_bestByBranches_66 : decode cX8_bestByBranches 66 = .ok (.getfield 28, 3) := by decide +kernel
theorem dX8_bestByBranches_69 : decode cX8_bestByBranches 69 = .ok (.iload 4, 2) := by decide +kernel
theorem dX8_bestByBranches_71 : decode cX8_bestByBranches 71 = .ok (.laload, 1) := by decide +kernel
theorem dX8_bestByBranches_72 : decode cX8_bestByBranches 72 = .ok (.invokestatic 74, 3) := by decide +kernel
theorem dX8_bestByBranches_75 : decode cX8_bestByBranches 75 = .ok (.lstore 6, 2) := by decide +kernel
theorem dX8_bestByBranches_77 : decode cX8_bestByBranches 77 = .ok (.iload 5, 2) := by decide +kernel
theorem dX8_bestByBranches_79 : decode cX8_bestByBranches 79 = .ok (.ifCond .lt 35, 3) := by decide +kernel
theorem dX8_bestByBranches_82 : decode cX8_bestByBranches 82 = .ok (.aload_n 0, 1) := by decide +kernel
theorem dX8_bestByBranches_83 : decode cX8_bestByBranches 83 = .ok (.getfield 24, 3) := by decide +kernel
theorem dX8_bestByBranches_86 : decode cX8_bestByBranches 86 = .ok (.iload 5, 2) := by decide +kernel
theorem dX8_bestByBranches_88 : decode cX8_bestByBranches 88 = .ok (.dup2, 1) := by decide +kernel
theorem dX8_bestByBranches_89 : decode cX8_bestByBranches 89 = .ok (.laload, 1) := by decide +kernel
theorem dX8_bestByBranches_90 : decode cX8_bestByBranches 90 = .ok (.aload_n 0, 1) := by decide +kernel
theorem dX8_bestByBranches_91 : decode cX8_bestByBranches 91 = .ok (.getfield 28, 3) := by decide +kernel
theorem dX8_bestByBranches_94 : decode cX8_bestByBranches 94 = .ok (.iload 4, 2) := by decide +kernel
theorem dX8_bestByBranches_96 : decode cX8_bestByBranches 96 = .ok (.laload, 1) := by decide +kernel
theorem dX8_bestByBranches_97 : decode cX8_bestByBranches 97 = .ok (.ladd, 1) := by decide +kernel
theorem dX8_bestByBranches_98 : decode cX8_bestByBranches 98 = .ok (.lastore, 1) := by decide +kernel
theorem dX8_bestByBranches_99 : decode cX8_bestByBranches 99 = .ok (.aload_n 0, 1) := by decide +kernel
theorem dX8_bestByBranches_100 : decode cX8_bestByBranches 100 = .ok (.getfield 28, 3) := by decide +kernel
theorem dX8_bestByBranches_103 : decode cX8_bestByBranches 103 = .ok (.iload 5, 2) := by decide +kernel
theorem dX8_bestByBranches_105 : decode cX8_bestByBranches 105 = .ok (.dup2, 1) := by decide +kernel
theorem dX8_bestByBranches_106 : decode cX8_bestByBranches 106 = .ok (.laload, 1) := by decide +kernel
theorem dX8_bestByBranches_107 : decode cX8_bestByBranches 107 = .ok (.lload 6, 2) := by decide +kernel
theorem dX8_bestByBranches_109 : decode cX8_bestByBranches 109 = .ok (.ladd, 1) := by decide +kernel
theorem dX8_bestByBranches_110 : decode cX8_bestByBranches 110 = .ok (.lastore, 1) := by decide +kernel
theorem dX8_bestByBranches_111 : decode cX8_bestByBranches 111 = .ok (.goto 8, 3) := by decide +kernel
theorem dX8_bestByBranches_114 : decode cX8_bestByBranches 114 = .ok (.lload_n 2, 1) := by decide +kernel
theorem dX8_bestByBranches_115 : decode cX8_bestByBranches 115 = .ok (.lload 6, 2) := by decide +kernel
theorem dX8_bestByBranches_117 : decode cX8_bestByBranches 117 = .ok (.ladd, 1) := by decide +kernel
theorem dX8_bestByBranches_118 : decode cX8_bestByBranches 118 = .ok (.lstore_n 2, 1) := by decide +kernel
theorem dX8_bestByBranches_119 : decode cX8_bestByBranches 119 = .ok (.iinc 4 (-1), 3) := by decide +kernel
theorem dX8_bestByBranches_122 : decode cX8_bestByBranches 122 = .ok (.goto (-96), 3) := by decide +kernel
theorem dX8_bestByBranches_125 : decode cX8_bestByBranches 125 = .ok (.lload_n 2, 1) := by decide +kernel
theorem dX8_bestByBranches_126 : decode cX8_bestByBranches 126 = .ok (.lreturn, 1) := by decide +kernel
theorem gS_X8_J7_fill_d0a16_68 : GoodIn gw (va_wsS RX8 68 yJ7_fill_d0a16 (Cond.code yJ7_fill_d0a16 cJ7_fill_d0a16 5 (none) :: gw)) := gdS2 gw_439 gw_440 gw_93 gw_441
theorem hS_J7_fill_d0a16 : yJ7_fill_d0a16.cls ≠ "java/lang/invoke/MethodHandle" ∧ yJ7_fill_d0a16.cls ≠ "java/lang/invoke/VarHandle" ∧ (parseMethodDescriptor yJ7_fill_d0a16.desc).map (fun d => d.parameters.length) = some 2 := ⟨by decide +kernel, by decide +kernel, by decide +kernel⟩
set_option maxHeartbeats 2000000 in
set_option maxRecDepth 20000 in
theorem k_X8_bestByBranches (l : Launch) (hfl : l.stackTraces = false) (D : va_G) (aT : Nat → ClassId) (t0 : Nat) (t1 : Nat) (t2 : Nat) (t3 : Nat) (t4 : Nat) (t5 : Nat) (t6 : Nat) (r1 : Nat → Int32) (r2 : Nat → Int32) (r3 : Nat → Int32) (r4 : Nat → Int32) (r5 : Nat → Int64) (r6 : Nat → Int64) (a5 : Nat) (a6 : Nat) (a7 : Nat) (a8 : Nat) (a9 : Nat) (fI : Nat → Int32) (fN : Nat → Int32) (fW : Nat → Int32) (fP : Nat → Int32) (nm : Nat) (nx : Int32) (idn : Nat → Nat) (pr : Nat → Option Nat) (tn : Nat → Nat) (hO : MoC fI fN fP nm idn pr tn) : CxG l yX8_bestByBranches cX8_bestByBranches 8 (some (.long)) 1 0 0 40 D aT [.ref t0, .ref a5] [(t0, .inr (11, [.ref t1, .ref t2, .ref t3, .ref t4, .ref t5, .ref t6])), (t1, .inl (aT 0, 12, .inl r1)), (t2, .inl (aT 0, 12, .inl r2)), (t3, .inl (aT 0, 12, .inl r3)), (t4, .inl (aT 0, 12, .inl r4)), (t5, .inl (aT 2, 12, .inr (.inl r5))), (t6, .inl (aT 2, 12, .inr (.inl r6))), (a5, .inr (8, [.ref a6, .ref a7, .ref a8, .ref a9, .int (nI nm), .int nx])), (a6, .inl (aT 0, 12, .inl fI)), (a7, .inl (aT 0, 12, .inl fN)), (a8, .inl (aT 0, 12, .inl fW)), (a9, .inl (aT 0, 12, .inl fP))] (qL D aT (fun r W1 => r.toInt = dpD pr nm (fun j => (fW j).toInt) (fun _ => 0) 0 ∧ ∃ g5 g6 : Nat → Int64, W1 = ([(t0, .inr (11, [.ref t1, .ref t2, .ref t3, .ref t4, .ref t5, .ref t6])), (t1, .inl (aT 0, 12, .inl r1)), (t2, .inl (aT 0, 12, .inl r2)), (t3, .inl (aT 0, 12, .inl r3)), (t4, .inl (aT 0, 12, .inl r4)), (t5, .inl (aT 2, 12, .inr (.inl g5))), (t6, .inl (aT 2, 12, .inr (.inl g6))), (a5, .inr (8, [.ref a6, .ref a7, .ref a8, .ref a9, .int (nI nm), .int nx])), (a6, .inl (aT 0, 12, .inl fI)), (a7, .inl (aT 0, 12, .inl fN)), (a8, .inl (aT 0, 12, .inl fW)), (a9, .inl (aT 0, 12, .inl fP))] : va_W))) (fun _ _ => False) := by
  refine CxG.of RX8 (by decide +kernel) rfl (Nat.le_of_ble_eq_true rfl) ?_
  intro p e s m below meth c A ls C hml hl hA hr hlocks hex hnm hZ hW
  have hl : lv_has ls 8 [(0, .ref t0), (1, .ref a5)] := hl
  have hx := C.1
  have hb := C.2.1
  refine lv_aload_n hx hb dX8_bestByBranches_0 rfl (lv_at hl 0 rfl) ?_
  refine cx_get C hW 0 4 rfl rfl (by decide) inX8 gw_247 rfl rfl dX8_bestByBranches_1 ?_
  refine lv_lconst (v := 0) hx hb dX8_bestByBranches_4 (by decide) ?_
  refine cx_callv (Wr := [(t0, .inr (11, [.ref t1, .ref t2, .ref t3, .ref t4, .ref t5, .ref t6])), (t1, .inl (aT 0, 12, .inl r1)), (t2, .inl (aT 0, 12, .inl r2)), (t3, .inl (aT 0, 12, .inl r3)), (t4, .inl (aT 0, 12, .inl r4)), (t6, .inl (aT 2, 12, .inr (.inl r6))), (a5, .inr (8, [.ref a6, .ref a7, .ref a8, .ref a9, .int (nI nm), .int nx])), (a6, .inl (aT 0, 12, .inl fI)), (a7, .inl (aT 0, 12, .inl fN)), (a8, .inl (aT 0, 12, .inl fW)), (a9, .inl (aT 0, 12, .inl fP))]) (cx_runS C hml hl.1 hZ hW hA (As := [.ref t5, .long 0]) (rest := []) (k_J7_fill_d0a16 l hfl D aT t5 12 r5 0 (by decide)) gS_X8_J7_fill_d0a16_68 hS_J7_fill_d0a16 rfl ⟨Nat.le_of_ble_eq_true rfl, Nat.le_of_ble_eq_true rfl⟩ ⟨Nat.le_of_ble_eq_true rfl, Nat.le_of_ble_eq_true rfl⟩ [5] rfl (by decide) rfl (Nat.le_of_ble_eq_true rfl) dX8_bestByBranches_5) hW hA [5] [0, 1, 2, 3, 4, 6, 7, 8, 9, 10, 11] rfl rfl (by decide) (by decide) (fun _ _ _ _ _ _ h9 => h9.elim) (fun W_5 H locs hq hW => ?_)
  obtain ⟨gf_5, hgf_5, rfl⟩ := hq
  refine lv_aload_n hx hb dX8_bestByBranches_8 rfl (lv_at hl 0 rfl) ?_
  refine cx_get C hW 0 5 rfl rfl (by decide) inX8 gw_248 rfl rfl dX8_bestByBranches_9 ?_
  refine lv_lconst (v := 0) hx hb dX8_bestByBranches_12 (by decide) ?_
  refine cx_callv (Wr := [(t0, .inr (11, [.ref t1, .ref t2, .ref t3, .ref t4, .ref t5, .ref t6])), (t1, .inl (aT 0, 12, .inl r1)), (t2, .inl (aT 0, 12, .inl r2)), (t3, .inl (aT 0, 12, .inl r3)), (t4, .inl (aT 0, 12, .inl r4)), (a5, .inr (8, [.ref a6, .ref a7, .ref a8, .ref a9, .int (nI nm), .int nx])), (a6, .inl (aT 0, 12, .inl fI)), (a7, .inl (aT 0, 12, .inl fN)), (a8, .inl (aT 0, 12, .inl fW)), (a9, .inl (aT 0, 12, .inl fP)), (t5, .inl (aT 2, 12, .inr (.inl gf_5)))]) (cx_runS C hml hl.1 hZ hW hA (As := [.ref t6, .long 0]) (rest := []) (k_J7_fill_d0a16 l hfl D aT t6 12 r6 0 (by decide)) gS_X8_J7_fill_d0a16_68 hS_J7_fill_d0a16 rfl ⟨Nat.le_of_ble_eq_true rfl, Nat.le_of_ble_eq_true rfl⟩ ⟨Nat.le_of_ble_eq_true rfl, Nat.le_of_ble_eq_true rfl⟩ [5] rfl (by decide) rfl (Nat.le_of_ble_eq_true rfl) dX8_bestByBranches_13) hW hA [5] [0, 1, 2, 3, 4, 6, 7, 8, 9, 10, 11] rfl rfl (by decide) (by decide) (fun _ _ _ _ _ _ h9 => h9.elim) (fun W_13 H locs hq hW => ?_)
  obtain ⟨gf_13, hgf_13, rfl⟩ := hq
  refine lv_lconst (v := 0) hx hb dX8_bestByBranches_16 (by decide) ?_
  refine lv_lstore_n (lv' := [(2, .long 0), (0, .ref t0), (1, .ref a5)]) hx hb dX8_bestByBranches_17 rfl hl (by decide) rfl (fun ls hl => ?_)
  refine lv_aload_n hx hb dX8_bestByBranches_18 rfl (lv_at hl 2 rfl) ?_
  refine cx_getN C hZ hW 5 4 rfl rfl (by decide) inX5 nw_162 rfl rfl dX8_bestByBranches_19 ?_
  refine lv_iconst (v := nI 1) hx hb dX8_bestByBranches_22 (by decide) ?_
  refine lv_isub hx hb dX8_bestByBranches_23 ?_
  refine r_eq (y := (nI nm + -1)) (by rw [Int32.sub_eq_add_neg]; rfl) ?_
  refine lv_istore (lv' := [(4, .int (nI nm + -1)), (2, .long 0), (0, .ref t0), (1, .ref a5)]) hx hb dX8_bestByBranches_24 hl (by decide) rfl (fun ls hl => ?_)
  refine W_loopH (σ := Nat × Int64 × (Nat → Int64) × (Nat → Int64)) (fun z_ => z_.1) (fun z_ H locs g => ∃ ls, g = F0 m 26 ls [] ∧ lv_has ls 8 [(4, .int (nI z_.1 + -1)), (2, .long z_.2.1), (1, .ref a5), (0, .ref t0)] ∧ CxB D [(t0, .inr (11, [.ref t1, .ref t2, .ref t3, .ref t4, .ref t5, .ref t6])), (t1, .inl (aT 0, 12, .inl r1)), (t2, .inl (aT 0, 12, .inl r2)), (t3, .inl (aT 0, 12, .inl r3)), (t4, .inl (aT 0, 12, .inl r4)), (a5, .inr (8, [.ref a6, .ref a7, .ref a8, .ref a9, .int (nI nm), .int nx])), (a6, .inl (aT 0, 12, .inl fI)), (a7, .inl (aT 0, 12, .inl fN)), (a8, .inl (aT 0, 12, .inl fW)), (a9, .inl (aT 0, 12, .inl fP)), (t5, .inl (aT 2, 12, .inr (.inl z_.2.2.1))), (t6, .inl (aT 2, 12, .inr (.inl z_.2.2.2)))] A s.heap H locs ∧ z_.1 ≤ nm ∧ BbI pr fW nm z_.1 z_.2.1 z_.2.2.1 z_.2.2.2) ?_ (nm, 0, gf_5, gf_13) _ ⟨_, rfl, lv_sub hl [0, 1, 3, 2] rfl, hW, ⟨Nat.le_refl _, BbI.init hO.2.2.2.1 hO.1 (fun j hj => hgf_5 j (by have h1 := hO.1; omega)) (fun j hj => hgf_13 j (by have h1 := hO.1; omega))⟩⟩
  clear hW hl
  rintro ⟨x, z, f, h_⟩ H locs g ⟨ls, rfl, hl, hW, ⟨hx9, hg9⟩⟩ ih_26
  dsimp only at hl hW hx9 hg9 ⊢
  cases x with
  | zero =>
    have hl : lv_has ls 8 [(4, .int (nI 0 + -1)), (2, .long z), (1, .ref a5), (0, .ref t0)] := hl
    refine lv_iload hx hb dX8_bestByBranches_26 (lv_at hl 0 rfl) ?_
    refine lv_if_lt hx hb (x := (nI 0 + -1)) (tgt := 125) dX8_bestByBranches_28 (by decide) (fun c_28 => ?_) (fun c_28 => ?_)
    · refine lv_lload_n hx hb dX8_bestByBranches_125 rfl (lv_at hl 1 rfl) ?_
      have hW : CxB D [(t0, .inr (11, [.ref t1, .ref t2, .ref t3, .ref t4, .ref t5, .ref t6])), (t1, .inl (aT 0, 12, .inl r1)), (t2, .inl (aT 0, 12, .inl r2)), (t3, .inl (aT 0, 12, .inl r3)), (t4, .inl (aT 0, 12, .inl r4)), (t5, .inl (aT 2, 12, .inr (.inl f))), (t6, .inl (aT 2, 12, .inr (.inl h_))), (a5, .inr (8, [.ref a6, .ref a7, .ref a8, .ref a9, .int (nI nm), .int nx])), (a6, .inl (aT 0, 12, .inl fI)), (a7, .inl (aT 0, 12, .inl fN)), (a8, .inl (aT 0, 12, .inl fW)), (a9, .inl (aT 0, 12, .inl fP))] A s.heap H _ := cx_drop hW [0, 1, 2, 3, 4, 10, 11, 5, 6, 7, 8, 9] rfl (by decide)
      exact cx_lret C hr hlocks hW ⟨Nat.le_of_ble_eq_true rfl, Nat.le_of_ble_eq_true rfl⟩ (⟨hg9.1, _, _, rfl⟩) dX8_bestByBranches_126
    · exact absurd (by decide) c_28
  | succ x =>
    have hl : lv_has ls 8 [(4, .int (nI x)), (2, .long z), (1, .ref a5), (0, .ref t0)] := by
      rw [show nI x = nI (x + 1) + -1 from (pd_1 _).symm]
      exact hl
    refine lv_iload hx hb dX8_bestByBranches_26 (lv_at hl 0 rfl) ?_
    refine lv_if_lt hx hb (x := (nI x)) (tgt := 125) dX8_bestByBranches_28 (by decide) (fun c_28 => ?_) (fun c_28 => ?_)
    · exact absurd c_28 (nI_pos (by have h1 := hO.1; omega))
    · refine lv_aload_n hx hb dX8_bestByBranches_31 rfl (lv_at hl 2 rfl) ?_
      refine cx_getN C hZ hW 5 3 rfl rfl (by decide) inX5 nw_158 rfl rfl dX8_bestByBranches_32 ?_
      refine lv_iload hx hb dX8_bestByBranches_35 (lv_at hl 0 rfl) ?_
      refine cx_ald C hW 9 0 (j := x) rfl rfl rfl (by have h1 := hO.1; omega) (by decide) dX8_bestByBranches_37 ?_
      refine r_eq (y := (oi (pr x))) (hO.2.2.1 x (by omega)) ?_
      refine lv_istore (lv' := [(5, .int (oi (pr x))), (4, .int (nI x)), (2, .long z), (1, .ref a5), (0, .ref t0)]) hx hb dX8_bestByBranches_38 hl (by decide) rfl (fun ls hl => ?_)
      refine lv_aload_n hx hb dX8_bestByBranches_40 rfl (lv_at hl 4 rfl) ?_
      refine cx_get C hW 0 4 rfl rfl (by decide) inX8 gw_247 rfl rfl dX8_bestByBranches_41 ?_
      refine lv_iload hx hb dX8_bestByBranches_44 (lv_at hl 1 rfl) ?_
      refine lv_dup2_11 hx hb dX8_bestByBranches_46 rfl rfl ?_
      refine cx_lald C hW 10 2 (j := x) rfl rfl rfl (by have h1 := hO.1; omega) (by decide) rfl dX8_bestByBranches_47 ?_
      refine lv_aload_n hx hb dX8_bestByBranches_48 rfl (lv_at hl 3 rfl) ?_
      refine cx_getN C hZ hW 5 2 rfl rfl (by decide) inX5 nw_155 rfl rfl dX8_bestByBranches_49 ?_
      refine lv_iload hx hb dX8_bestByBranches_52 (lv_at hl 1 rfl) ?_
      refine cx_ald C hW 8 0 (j := x) rfl rfl rfl (by have h1 := hO.1; omega) (by decide) dX8_bestByBranches_54 ?_
      refine lv_i2l (v := ((fW x)).toInt64) hx hb dX8_bestByBranches_55 rfl ?_
      refine lv_ladd hx hb dX8_bestByBranches_56 ?_
      refine cx_last C hW 10 2 (j := x) (W1 := [(t0, .inr (11, [.ref t1, .ref t2, .ref t3, .ref t4, .ref t5, .ref t6])), (t1, .inl (aT 0, 12, .inl r1)), (t2, .inl (aT 0, 12, .inl r2)), (t3, .inl (aT 0, 12, .inl r3)), (t4, .inl (aT 0, 12, .inl r4)), (a5, .inr (8, [.ref a6, .ref a7, .ref a8, .ref a9, .int (nI nm), .int nx])), (a6, .inl (aT 0, 12, .inl fI)), (a7, .inl (aT 0, 12, .inl fN)), (a8, .inl (aT 0, 12, .inl fW)), (a9, .inl (aT 0, 12, .inl fP)), (t5, .inl (aT 2, 12, .inr (.inl (vp_updL f x ((f x) + ((fW x)).toInt64))))), (t6, .inl (aT 2, 12, .inr (.inl h_)))]) rfl rfl rfl (by have h1 := hO.1; omega) (by decide) rfl dX8_bestByBranches_57 (fun H locs hW => ?_)
      refine lv_aload_n hx hb dX8_bestByBranches_58 rfl (lv_at hl 4 rfl) ?_
      refine cx_get C hW 0 4 rfl rfl (by decide) inX8 gw_247 rfl rfl dX8_bestByBranches_59 ?_
      refine lv_iload hx hb dX8_bestByBranches_62 (lv_at hl 1 rfl) ?_
      refine cx_lald C hW 10 2 (j := x) rfl rfl rfl (by have h1 := hO.1; omega) (by decide) rfl dX8_bestByBranches_64 ?_
      refine lv_aload_n hx hb dX8_bestByBranches_65 rfl (lv_at hl 4 rfl) ?_
      refine cx_get C hW 0 5 rfl rfl (by decide) inX8 gw_248 rfl rfl dX8_bestByBranches_66 ?_
      refine lv_iload hx hb dX8_bestByBranches_69 (lv_at hl 1 rfl) ?_
      refine cx_lald C hW 11 2 (j := x) rfl rfl rfl (by have h1 := hO.1; omega) (by decide) rfl dX8_bestByBranches_71 ?_
      refine va_mmax_long hx hb (hml.trans hl.1.symm) C.2.2.2.1 (C.2.2.1 _ gw_442) (C.2.2.1 _ gw_443) (C.2.2.1 _ gw_89) (C.2.2.1 _ gm_maxl) (Nat.le_of_ble_eq_true rfl) (Nat.le_of_ble_eq_true rfl) (Nat.le_of_ble_eq_true rfl) (Nat.le_of_ble_eq_true rfl) dX8_bestByBranches_72 ?_
      refine lv_lstore (lv' := [(6, .long (if (h_ x) < ((vp_updL f x ((f x) + ((fW x)).toInt64)) x) then ((vp_updL f x ((f x) + ((fW x)).toInt64)) x) else (h_ x))), (5, .int (oi (pr x))), (4, .int (nI x)), (2, .long z), (1, .ref a5), (0, .ref t0)]) hx hb dX8_bestByBranches_75 hl (by decide) rfl (fun ls hl => ?_)
      refine lv_iload hx hb dX8_bestByBranches_77 (lv_at hl 1 rfl) ?_
      refine r_oi_lt0 hx hb (o := (pr x)) (fun j hj => by have h1 := hO.1; have h2 := hO.2.2.2.1 x j (by omega) hj; omega) (tgt := 114) dX8_bestByBranches_79 (by decide) (fun c_79 => ?_) (fun j_79 c_79 => ?_)
      · rw [c_79] at hl
        have hl : lv_has ls 8 [(6, .long (if (h_ x) < ((vp_updL f x ((f x) + ((fW x)).toInt64)) x) then ((vp_updL f x ((f x) + ((fW x)).toInt64)) x) else (h_ x))), (5, .int (-1)), (4, .int (nI x)), (2, .long z), (1, .ref a5), (0, .ref t0)] := hl
        refine lv_lload_n hx hb dX8_bestByBranches_114 rfl (lv_at hl 3 rfl) ?_
        refine lv_lload hx hb dX8_bestByBranches_115 (lv_at hl 0 rfl) ?_
        refine lv_ladd hx hb dX8_bestByBranches_117 ?_
        refine lv_lstore_n (lv' := [(2, .long (z + (if (h_ x) < ((vp_updL f x ((f x) + ((fW x)).toInt64)) x) then ((vp_updL f x ((f x) + ((fW x)).toInt64)) x) else (h_ x)))), (6, .long (if (h_ x) < ((vp_updL f x ((f x) + ((fW x)).toInt64)) x) then ((vp_updL f x ((f x) + ((fW x)).toInt64)) x) else (h_ x))), (5, .int (-1)), (4, .int (nI x)), (1, .ref a5), (0, .ref t0)]) hx hb dX8_bestByBranches_118 rfl hl (by decide) rfl (fun ls hl => ?_)
        refine lv_iinc (v := (nI x + -1)) (lv' := [(4, .int (nI x + -1)), (2, .long (z + (if (h_ x) < ((vp_updL f x ((f x) + ((fW x)).toInt64)) x) then ((vp_updL f x ((f x) + ((fW x)).toInt64)) x) else (h_ x)))), (6, .long (if (h_ x) < ((vp_updL f x ((f x) + ((fW x)).toInt64)) x) then ((vp_updL f x ((f x) + ((fW x)).toInt64)) x) else (h_ x))), (5, .int (-1)), (1, .ref a5), (0, .ref t0)]) hx hb dX8_bestByBranches_119 hl (k := 3) rfl rfl (by decide) rfl (fun ls hl => ?_)
        refine lv_goto (tgt := 26) hx hb dX8_bestByBranches_122 (by decide) ?_
        exact ih_26 (x, (z + (if (h_ x) < ((vp_updL f x ((f x) + ((fW x)).toInt64)) x) then ((vp_updL f x ((f x) + ((fW x)).toInt64)) x) else (h_ x))), (vp_updL f x ((f x) + ((fW x)).toInt64)), h_) _ _ _ (by first | omega | (dsimp only; omega)) ⟨_, rfl, lv_sub hl [0, 1, 4, 5] rfl, hW, ⟨by dsimp only; omega, hg9.stn hO.2.2.2.1 (by omega) c_79⟩⟩
      · rw [c_79] at hl
        have hl : lv_has ls 8 [(6, .long (if (h_ x) < ((vp_updL f x ((f x) + ((fW x)).toInt64)) x) then ((vp_updL f x ((f x) + ((fW x)).toInt64)) x) else (h_ x))), (5, .int (nI j_79)), (4, .int (nI x)), (2, .long z), (1, .ref a5), (0, .ref t0)] := hl
        refine lv_aload_n hx hb dX8_bestByBranches_82 rfl (lv_at hl 5 rfl) ?_
        refine cx_get C hW 0 4 rfl rfl (by decide) inX8 gw_247 rfl rfl dX8_bestByBranches_83 ?_
        refine lv_iload hx hb dX8_bestByBranches_86 (lv_at hl 1 rfl) ?_
        refine lv_dup2_11 hx hb dX8_bestByBranches_88 rfl rfl ?_
        refine cx_lald C hW 10 2 (j := j_79) rfl rfl rfl (by have h1 := hO.1; have h2 := hO.2.2.2.1 x _ (by omega) (by assumption); omega) (by decide) rfl dX8_bestByBranches_89 ?_
        refine lv_aload_n hx hb dX8_bestByBranches_90 rfl (lv_at hl 5 rfl) ?_
        refine cx_get C hW 0 5 rfl rfl (by decide) inX8 gw_248 rfl rfl dX8_bestByBranches_91 ?_
        refine lv_iload hx hb dX8_bestByBranches_94 (lv_at hl 2 rfl) ?_
        refine cx_lald C hW 11 2 (j := x) rfl rfl rfl (by have h1 := hO.1; omega) (by decide) rfl dX8_bestByBranches_96 ?_
        refine lv_ladd hx hb dX8_bestByBranches_97 ?_
        refine cx_last C hW 10 2 (j := j_79) (W1 := [(t0, .inr (11, [.ref t1, .ref t2, .ref t3, .ref t4, .ref t5, .ref t6])), (t1, .inl (aT 0, 12, .inl r1)), (t2, .inl (aT 0, 12, .inl r2)), (t3, .inl (aT 0, 12, .inl r3)), (t4, .inl (aT 0, 12, .inl r4)), (a5, .inr (8, [.ref a6, .ref a7, .ref a8, .ref a9, .int (nI nm), .int nx])), (a6, .inl (aT 0, 12, .inl fI)), (a7, .inl (aT 0, 12, .inl fN)), (a8, .inl (aT 0, 12, .inl fW)), (a9, .inl (aT 0, 12, .inl fP)), (t5, .inl (aT 2, 12, .inr (.inl (vp_updL (vp_updL f x ((f x) + ((fW x)).toInt64)) j_79 (((vp_updL f x ((f x) + ((fW x)).toInt64)) j_79) + (h_ x)))))), (t6, .inl (aT 2, 12, .inr (.inl h_)))]) rfl rfl rfl (by have h1 := hO.1; have h2 := hO.2.2.2.1 x _ (by omega) (by assumption); omega) (by decide) rfl dX8_bestByBranches_98 (fun H locs hW => ?_)
        refine lv_aload_n hx hb dX8_bestByBranches_99 rfl (lv_at hl 5 rfl) ?_
        refine cx_get C hW 0 5 rfl rfl (by decide) inX8 gw_248 rfl rfl dX8_bestByBranches_100 ?_
        refine lv_iload hx hb dX8_bestByBranches_103 (lv_at hl 1 rfl) ?_
        refine lv_dup2_11 hx hb dX8_bestByBranches_105 rfl rfl ?_
        refine cx_lald C hW 11 2 (j := j_79) rfl rfl rfl (by have h1 := hO.1; have h2 := hO.2.2.2.1 x _ (by omega) (by assumption); omega) (by decide) rfl dX8_bestByBranches_106 ?_
        refine lv_lload hx hb dX8_bestByBranches_107 (lv_at hl 0 rfl) ?_
        refine lv_ladd hx hb dX8_bestByBranches_109 ?_
        refine cx_last C hW 11 2 (j := j_79) (W1 := [(t0, .inr (11, [.ref t1, .ref t2, .ref t3, .ref t4, .ref t5, .ref t6])), (t1, .inl (aT 0, 12, .inl r1)), (t2, .inl (aT 0, 12, .inl r2)), (t3, .inl (aT 0, 12, .inl r3)), (t4, .inl (aT 0, 12, .inl r4)), (a5, .inr (8, [.ref a6, .ref a7, .ref a8, .ref a9, .int (nI nm), .int nx])), (a6, .inl (aT 0, 12, .inl fI)), (a7, .inl (aT 0, 12, .inl fN)), (a8, .inl (aT 0, 12, .inl fW)), (a9, .inl (aT 0, 12, .inl fP)), (t5, .inl (aT 2, 12, .inr (.inl (vp_updL (vp_updL f x ((f x) + ((fW x)).toInt64)) j_79 (((vp_updL f x ((f x) + ((fW x)).toInt64)) j_79) + (h_ x)))))), (t6, .inl (aT 2, 12, .inr (.inl (vp_updL h_ j_79 ((h_ j_79) + (if (h_ x) < ((vp_updL f x ((f x) + ((fW x)).toInt64)) x) then ((vp_updL f x ((f x) + ((fW x)).toInt64)) x) else (h_ x)))))))]) rfl rfl rfl (by have h1 := hO.1; have h2 := hO.2.2.2.1 x _ (by omega) (by assumption); omega) (by decide) rfl dX8_bestByBranches_110 (fun H locs hW => ?_)
        refine lv_goto (tgt := 119) hx hb dX8_bestByBranches_111 (by decide) ?_
        refine lv_iinc (v := (nI x + -1)) (lv' := [(4, .int (nI x + -1)), (6, .long (if (h_ x) < ((vp_updL f x ((f x) + ((fW x)).toInt64)) x) then ((vp_updL f x ((f x) + ((fW x)).toInt64)) x) else (h_ x))), (5, .int (nI j_79)), (2, .long z), (1, .ref a5), (0, .ref t0)]) hx hb dX8_bestByBranches_119 hl (k := 2) rfl rfl (by decide) rfl (fun ls hl => ?_)
        refine lv_goto (tgt := 26) hx hb dX8_bestByBranches_122 (by decide) ?_
        exact ih_26 (x, z, (vp_updL (vp_updL f x ((f x) + ((fW x)).toInt64)) j_79 (((vp_updL f x ((f x) + ((fW x)).toInt64)) j_79) + (h_ x))), (vp_updL h_ j_79 ((h_ j_79) + (if (h_ x) < ((vp_updL f x ((f x) + ((fW x)).toInt64)) x) then ((vp_updL f x ((f x) + ((fW x)).toInt64)) x) else (h_ x))))) _ _ _ (by first | omega | (dsimp only; omega)) ⟨_, rfl, lv_sub hl [0, 3, 4, 5] rfl, hW, ⟨by dsimp only; omega, hg9.sts hO.2.2.2.1 (by omega) c_79⟩⟩
theorem dX8_countGoodSets_0 : decode cX8_countGoodSets 0 = .ok (.aload_n 0, 1) := by decide +kernel
theorem dX8_countGoodSets_1 : decode cX8_countGoodSets 1 = .ok (.getfield 24, 3) := by decide +kernel
theorem dX8_countGoodSets_4 : decode cX8_countGoodSets 4 = .ok (.lconst 1, 1) := by decide +kernel
theorem dX8_countGoodSets_5 : decode cX8_countGoodSets 5 = .ok (.invokestatic 68, 3) := by decide +kernel
theorem dX8_countGoodSets_8 : decode cX8_countGoodSets 8 = .ok (.aload_n 0, 1) := by decide +kernel
theorem dX8_countGoodSets_9 : decode cX8_countGoodSets 9 = .ok (.getfield 28, 3) := by decide +kernel
theorem dX8_countGoodSets_12 : decode cX8_countGoodSets 12 = .ok (.lconst 1, 1) := by decide +kernel
theorem dX8_countGoodSets_13 : decode cX8_countGoodSets 13 = .ok (.invokestatic 68, 3) := by decide +kernel
theorem dX8_countGoodSets_16 : decode cX8_countGoodSets 16 = .ok (.lconst 1, 1) := by decide +kernel
theorem dX8_countGoodSets_17 : decode cX8_countGoodSets 17 = .ok (.lstore_n 2, 1) := by decide +kernel
theorem dX8_countGoodSets_18 : decode cX8_countGoodSets 18 = .ok (.aload_n 1, 1) := by decide +kernel
theorem dX8_countGoodSets_19 : decode cX8_countGoodSets 19 = .ok (.getfield 50, 3) := by decide +kernel
theorem dX8_countGoodSets_22 : decode cX8_countGoodSets 22 = .ok (.iconst 1, 1) := by decide +kernel
theorem dX8_countGoodSets_23 : decode cX8_countGoodSets 23 = .ok (.isub, 1) := by decide +kernel
theorem dX8_countGoodSets_24 : decode cX8_countGoodSets 24 = .ok (.istore 4, 2) := by decide +kernel
theorem dX8_countGoodSets_26 : decode cX8_countGoodSets 26 = .ok (.iload 4, 2) := by decide +kernel
theorem dX8_countGoodSets_28 : decode cX8_countGoodSets 28 = .ok (.ifCond .lt 77, 3) := by decide +kernel
theorem dX8_countGoodSets_31 : decode cX8_countGoodSets 31 = .ok (.aload_n 1, 1) := by decide +kernel
theorem dX8_countGoodSets_32 : decode cX8_countGoodSets 32 = .ok (.getfield 37, 3) := by decide +kernel
theorem dX8_countGoodSets_35 : decode cX8_countGoodSets 35 = .ok (.iload 4, 2) := by decide +kernel
theorem dX8_countGoodSets_37 : decode cX8_countGoodSets 37 = .ok (.iaload, 1) := by decide +kernel
theorem dX8_countGoodSets_38 : decode cX8_countGoodSets 38 = .ok (.istore 5, 2) := by decide +kernel
theorem dX8_countGoodSets_40 : decode cX8_countGoodSets 40 = .ok (.aload_n 0, 1) := by decide +kernel
theorem dX8_countGoodSets_41 : decode cX8_countGoodSets 41 = .ok (.getfield 24, 3) := by decide +kernel
theorem dX8_countGoodSets_44 : decode cX8_countGoodSets 44 = .ok (.iload 4, 2) := by decide +kernel
theorem dX8_countGoodSets_46 : decode cX8_countGoodSets 46 = .ok (.laload, 1) := by decide +kernel
theorem dX8_countGoodSets_47 : decode cX8_countGoodSets 47 = .ok (.aload_n 0, 1) := by decide +kernel
theorem dX8_countGoodSets_48 : decode cX8_countGoodSets 48 = .ok (.getfield 28, 3) := by decide +kernel
theorem dX8_countGoodSets_51 : decode cX8_countGoodSets 51 = .ok (.iload 4, 2) := by decide +kernel
theorem dX8_countGoodSets_53 : decode cX8_countGoodSets 53 = .ok (.laload, 1) := by decide +kernel
theorem dX8_countGoodSets_54 : decode cX8_countGoodSets 54 = .ok (.ladd, 1) := by decide +kernel
theorem dX8_countGoodSets_55 : decode cX8_countGoodSets 55 = .ok (.lstore 6, 2) := by decide +kernel
theorem dX8_countGoodSets_57 : decode cX8_countGoodSets 57 = .ok (.iload 5, 2) := by decide +kernel
theorem dX8_countGoodSets_59 : decode cX8_countGoodSets 59 = .ok (.ifCond .lt 35, 3) := by decide +kernel
theorem dX8_countGoodSets_62 : decode cX8_countGoodSets 62 = .ok (.aload_n 0, 1) := by decide +kernel
theorem dX8_countGoodSets_63 : decode cX8_countGoodSets 63 = .ok (.getfield 24, 3) := by decide +kernel
theorem dX8_countGoodSets_66 : decode cX8_countGoodSets 66 = .ok (.iload 5, 2) := by decide +kernel
theorem dX8_countGoodSets_68 : decode cX8_countGoodSets 68 = .ok (.dup2, 1) := by decide +kernel
theorem dX8_countGoodSets_69 : decode cX8_countGoodSets 69 = .ok (.laload, 1) := by decide +kernel
theorem dX8_countGoodSets_70 : decode cX8_countGoodSets 70 = .ok (.aload_n 0, 1) := by decide +kernel
theorem dX8_countGoodSets_71 : decode cX8_countGoodSets 71 = .ok (.getfield 28, 3) := by decide +kernel
theorem dX8_countGoodSets_74 : decode cX8_countGoodSets 74 = .ok (.iload 4, 2) := by decide +kernel
theorem dX8_countGoodSets_76 : decode cX8_countGoodSets 76 = .ok (.laload, 1) := by decide +kernel
theorem dX8_countGoodSets_77 : decode cX8_countGoodSets 77 = .ok (.lmul, 1) := by decide +kernel
theorem dX8_countGoodSets_78 : decode cX8_countGoodSets 78 = .ok (.lastore, 1) := by decide +kernel
theorem dX8_countGoodSets_79 : decode cX8_countGoodSets 79 = .ok (.aload_n 0, 1) := by decide +kernel
theorem dX8_countGoodSets_80 : decode cX8_countGoodSets 80 = .ok (.getfield 28, 3) := by decide +kernel
theorem dX8_countGoodSets_83 : decode cX8_countGoodSets 83 = .ok (.iload 5, 2) := by decide +kernel
theorem dX8_countGoodSets_85 : decode cX8_countGoodSets 85 = .ok (.dup2, 1) := by decide +kernel
theorem dX8_countGoodSets_86 : decode cX8_countGoodSets 86 = .ok (.laload, 1) := by decide +kernel
theorem dX8_countGoodSets_87 : decode cX8_countGoodSets 87 = .ok (.lload 6, 2) := by decide +kernel
theorem dX8_countGoodSets_89 : decode cX8_countGoodSets 89 = .ok (.lmul, 1) := by decide +kernel
theorem dX8_countGoodSets_90 : decode cX8_countGoodSets 90 = .ok (.lastore, 1) := by decide +kernel
theorem dX8_countGoodSets_91 : decode cX8_countGoodSets 91 = .ok (.goto 8, 3) := by decide +kernel
theorem dX8_countGoodSets_94 : decode cX8_countGoodSets 94 = .ok (.lload_n 2, 1) := by decide +kernel
theorem dX8_countGoodSets_95 : decode cX8_countGoodSets 95 = .ok (.lload 6, 2) := by decide +kernel
theorem dX8_countGoodSets_97 : decode cX8_countGoodSets 97 = .ok (.lmul, 1) := by decide +kernel
theorem dX8_countGoodSets_98 : decode cX8_countGoodSets 98 = .ok (.lstore_n 2, 1) := by decide +kernel
theorem dX8_countGoodSets_99 : decode cX8_countGoodSets 99 = .ok (.iinc 4 (-1), 3) := by decide +kernel
theorem dX8_countGoodSets_102 : decode cX8_countGoodSets 102 = .ok (.goto (-76), 3) := by decide +kernel
theorem dX8_countGoodSets_105 : decode cX8_countGoodSets 105 = .ok (.lload_n 2, 1) := by decide +kernel
theorem dX8_countGoodSets_106 : decode cX8_countGoodSets 106 = .ok (.l2i, 1) := by decide +kernel
theorem dX8_countGoodSets_107 : decode cX8_countGoodSets 107 = .ok (.ireturn, 1) := by decide +kernel
set_option maxHeartbeats 2000000 in
set_option maxRecDepth 20000 in
theorem k_X8_countGoodSets (l : Launch) (hfl : l.stackTraces = false) (D : va_G) (aT : Nat → ClassId) (t0 : Nat) (t1 : Nat) (t2 : Nat) (t3 : Nat) (t4 : Nat) (t5 : Nat) (t6 : Nat) (r1 : Nat → Int32) (r2 : Nat → Int32) (r3 : Nat → Int32) (r4 : Nat → Int32) (r5 : Nat → Int64) (r6 : Nat → Int64) (a5 : Nat) (a6 : Nat) (a7 : Nat) (a8 : Nat) (a9 : Nat) (fI : Nat → Int32) (fN : Nat → Int32) (fW : Nat → Int32) (fP : Nat → Int32) (nm : Nat) (nx : Int32) (idn : Nat → Nat) (pr : Nat → Option Nat) (tn : Nat → Nat) (hO : MoC fI fN fP nm idn pr tn) : CxG l yX8_countGoodSets cX8_countGoodSets 8 (some (.int)) 1 0 0 24 D aT [.ref t0, .ref a5] [(t0, .inr (11, [.ref t1, .ref t2, .ref t3, .ref t4, .ref t5, .ref t6])), (t1, .inl (aT 0, 12, .inl r1)), (t2, .inl (aT 0, 12, .inl r2)), (t3, .inl (aT 0, 12, .inl r3)), (t4, .inl (aT 0, 12, .inl r4)), (t5, .inl (aT 2, 12, .inr (.inl r5))), (t6, .inl (aT 2, 12, .inr (.inl r6))), (a5, .inr (8, [.ref a6, .ref a7, .ref a8, .ref a9, .int (nI nm), .int nx])), (a6, .inl (aT 0, 12, .inl fI)), (a7, .inl (aT 0, 12, .inl fN)), (a8, .inl (aT 0, 12, .inl fW)), (a9, .inl (aT 0, 12, .inl fP))] (qI D aT (fun r W1 => r = gsD pr nm (fun _ => nI 1) (fun _ => nI 1) (nI 1) ∧ ∃ g5 g6 : Nat → Int64, W1 = ([(t0, .inr (11, [.ref t1, .ref t2, .ref t3, .ref t4, .ref t5, .ref t6])), (t1, .inl (aT 0, 12, .inl r1)), (t2, .inl (aT 0, 12, .inl r2)), (t3, .inl (aT 0, 12, .inl r3)), (t4, .inl (aT 0, 12, .inl r4)), (t5, .inl (aT 2, 12, .inr (.inl g5))), (t6, .inl (aT 2, 12, .inr (.inl g6))), (a5, .inr (8, [.ref a6, .ref a7, .ref a8, .ref a9, .int (nI nm), .int nx])), (a6, .inl (aT 0, 12, .inl fI)), (a7, .inl (aT 0, 12, .inl fN)), (a8, .inl (aT 0, 12, .inl fW)), (a9, .inl (aT 0, 12, .inl fP))] : va_W))) (fun _ _ => False) := by
  refine CxG.of RX8 (by decide +kernel) rfl (Nat.le_of_ble_eq_true rfl) ?_
  intro p e s m below meth c A ls C hml hl hA hr hlocks hex hnm hZ hW
  have hl : lv_has ls 8 [(0, .ref t0), (1, .ref a5)] := hl
  have hx := C.1
  have hb := C.2.1
  refine lv_aload_n hx hb dX8_countGoodSets_0 rfl (lv_at hl 0 rfl) ?_
  refine cx_get C hW 0 4 rfl rfl (by decide) inX8 gw_247 rfl rfl dX8_countGoodSets_1 ?_
  refine lv_lconst (v := 1) hx hb dX8_countGoodSets_4 (by decide) ?_
  refine cx_callv (Wr := [(t0, .inr (11, [.ref t1, .ref t2, .ref t3, .ref t4, .ref t5, .ref t6])), (t1, .inl (aT 0, 12, .inl r1)), (t2, .inl (aT 0, 12, .inl r2)), (t3, .inl (aT 0, 12, .inl r3)), (t4, .inl (aT 0, 12, .inl r4)), (t6, .inl (aT 2, 12, .inr (.inl r6))), (a5, .inr (8, [.ref a6, .ref a7, .ref a8, .ref a9, .int (nI nm), .int nx])), (a6, .inl (aT 0, 12, .inl fI)), (a7, .inl (aT 0, 12, .inl fN)), (a8, .inl (aT 0, 12, .inl fW)), (a9, .inl (aT 0, 12, .inl fP))]) (cx_runS C hml hl.1 hZ hW hA (As := [.ref t5, .long 1]) (rest := []) (k_J7_fill_d0a16 l hfl D aT t5 12 r5 1 (by decide)) gS_X8_J7_fill_d0a16_68 hS_J7_fill_d0a16 rfl ⟨Nat.le_of_ble_eq_true rfl, Nat.le_of_ble_eq_true rfl⟩ ⟨Nat.le_of_ble_eq_true rfl, Nat.le_of_ble_eq_true rfl⟩ [5] rfl (by decide) rfl (Nat.le_of_ble_eq_true rfl) dX8_countGoodSets_5) hW hA [5] [0, 1, 2, 3, 4, 6, 7, 8, 9, 10, 11] rfl rfl (by decide) (by decide) (fun _ _ _ _ _ _ h9 => h9.elim) (fun W_5 H locs hq hW => ?_)
  obtain ⟨gf_5, hgf_5, rfl⟩ := hq
  refine lv_aload_n hx hb dX8_countGoodSets_8 rfl (lv_at hl 0 rfl) ?_
  refine cx_get C hW 0 5 rfl rfl (by decide) inX8 gw_248 rfl rfl dX8_countGoodSets_9 ?_
  refine lv_lconst (v := 1) hx hb dX8_countGoodSets_12 (by decide) ?_
  refine cx_callv (Wr := [(t0, .inr (11, [.ref t1, .ref t2, .ref t3, .ref t4, .ref t5, .ref t6])), (t1, .inl (aT 0, 12, .inl r1)), (t2, .inl (aT 0, 12, .inl r2)), (t3, .inl (aT 0, 12, .inl r3)), (t4, .inl (aT 0, 12, .inl r4)), (a5, .inr (8, [.ref a6, .ref a7, .ref a8, .ref a9, .int (nI nm), .int nx])), (a6, .inl (aT 0, 12, .inl fI)), (a7, .inl (aT 0, 12, .inl fN)), (a8, .inl (aT 0, 12, .inl fW)), (a9, .inl (aT 0, 12, .inl fP)), (t5, .inl (aT 2, 12, .inr (.inl gf_5)))]) (cx_runS C hml hl.1 hZ hW hA (As := [.ref t6, .long 1]) (rest := []) (k_J7_fill_d0a16 l hfl D aT t6 12 r6 1 (by decide)) gS_X8_J7_fill_d0a16_68 hS_J7_fill_d0a16 rfl ⟨Nat.le_of_ble_eq_true rfl, Nat.le_of_ble_eq_true rfl⟩ ⟨Nat.le_of_ble_eq_true rfl, Nat.le_of_ble_eq_true rfl⟩ [5] rfl (by decide) rfl (Nat.le_of_ble_eq_true rfl) dX8_countGoodSets_13) hW hA [5] [0, 1, 2, 3, 4, 6, 7, 8, 9, 10, 11] rfl rfl (by decide) (by decide) (fun _ _ _ _ _ _ h9 => h9.elim) (fun W_13 H locs hq hW => ?_)
  obtain ⟨gf_13, hgf_13, rfl⟩ := hq
  refine lv_lconst (v := 1) hx hb dX8_countGoodSets_16 (by decide) ?_
  refine lv_lstore_n (lv' := [(2, .long 1), (0, .ref t0), (1, .ref a5)]) hx hb dX8_countGoodSets_17 rfl hl (by decide) rfl (fun ls hl => ?_)
  refine lv_aload_n hx hb dX8_countGoodSets_18 rfl (lv_at hl 2 rfl) ?_
  refine cx_getN C hZ hW 5 4 rfl rfl (by decide) inX5 nw_162 rfl rfl dX8_countGoodSets_19 ?_
  refine lv_iconst (v := nI 1) hx hb dX8_countGoodSets_22 (by decide) ?_
  refine lv_isub hx hb dX8_countGoodSets_23 ?_
  refine r_eq (y := (nI nm + -1)) (by rw [Int32.sub_eq_add_neg]; rfl) ?_
  refine lv_istore (lv' := [(4, .int (nI nm + -1)), (2, .long 1), (0, .ref t0), (1, .ref a5)]) hx hb dX8_countGoodSets_24 hl (by decide) rfl (fun ls hl => ?_)
  refine W_loopH (σ := Nat × Int64 × (Nat → Int64) × (Nat → Int64)) (fun z_ => z_.1) (fun z_ H locs g => ∃ ls, g = F0 m 26 ls [] ∧ lv_has ls 8 [(4, .int (nI z_.1 + -1)), (2, .long z_.2.1), (1, .ref a5), (0, .ref t0)] ∧ CxB D [(t0, .inr (11, [.ref t1, .ref t2, .ref t3, .ref t4, .ref t5, .ref t6])), (t1, .inl (aT 0, 12, .inl r1)), (t2, .inl (aT 0, 12, .inl r2)), (t3, .inl (aT 0, 12, .inl r3)), (t4, .inl (aT 0, 12, .inl r4)), (a5, .inr (8, [.ref a6, .ref a7, .ref a8, .ref a9, .int (nI nm), .int nx])), (a6, .inl (aT 0, 12, .inl fI)), (a7, .inl (aT 0, 12, .inl fN)), (a8, .inl (aT 0, 12, .inl fW)), (a9, .inl (aT 0, 12, .inl fP)), (t5, .inl (aT 2, 12, .inr (.inl z_.2.2.1))), (t6, .inl (aT 2, 12, .inr (.inl z_.2.2.2)))] A s.heap H locs ∧ z_.1 ≤ nm ∧ gsD pr z_.1 (lo32 z_.2.2.1) (lo32 z_.2.2.2) z_.2.1.toInt32 = gsD pr nm (fun _ => nI 1) (fun _ => nI 1) (nI 1)) ?_ (nm, 1, gf_5, gf_13) _ ⟨_, rfl, lv_sub hl [0, 1, 3, 2] rfl, hW, ⟨Nat.le_refl _, gsD_cong hO.2.2.2.1 (fun j hj => ⟨congrArg Int64.toInt32 (hgf_5 j (by have h1 := hO.1; omega)), congrArg Int64.toInt32 (hgf_13 j (by have h1 := hO.1; omega))⟩)⟩⟩
  clear hW hl
  rintro ⟨x, z, f, h_⟩ H locs g ⟨ls, rfl, hl, hW, ⟨hx9, hg9⟩⟩ ih_26
  dsimp only at hl hW hx9 hg9 ⊢
  cases x with
  | zero =>
    have hl : lv_has ls 8 [(4, .int (nI 0 + -1)), (2, .long z), (1, .ref a5), (0, .ref t0)] := hl
    refine lv_iload hx hb dX8_countGoodSets_26 (lv_at hl 0 rfl) ?_
    refine lv_if_lt hx hb (x := (nI 0 + -1)) (tgt := 105) dX8_countGoodSets_28 (by decide) (fun c_28 => ?_) (fun c_28 => ?_)
    · refine lv_lload_n hx hb dX8_countGoodSets_105 rfl (lv_at hl 1 rfl) ?_
      refine lv_l2i (v := z.toInt32) hx hb dX8_countGoodSets_106 (rfl) ?_
      have hW : CxB D [(t0, .inr (11, [.ref t1, .ref t2, .ref t3, .ref t4, .ref t5, .ref t6])), (t1, .inl (aT 0, 12, .inl r1)), (t2, .inl (aT 0, 12, .inl r2)), (t3, .inl (aT 0, 12, .inl r3)), (t4, .inl (aT 0, 12, .inl r4)), (t5, .inl (aT 2, 12, .inr (.inl f))), (t6, .inl (aT 2, 12, .inr (.inl h_))), (a5, .inr (8, [.ref a6, .ref a7, .ref a8, .ref a9, .int (nI nm), .int nx])), (a6, .inl (aT 0, 12, .inl fI)), (a7, .inl (aT 0, 12, .inl fN)), (a8, .inl (aT 0, 12, .inl fW)), (a9, .inl (aT 0, 12, .inl fP))] A s.heap H _ := cx_drop hW [0, 1, 2, 3, 4, 10, 11, 5, 6, 7, 8, 9] rfl (by decide)
      exact cx_iret C hr hlocks rfl hW ⟨Nat.le_of_ble_eq_true rfl, Nat.le_of_ble_eq_true rfl⟩ (⟨hg9, _, _, rfl⟩) dX8_countGoodSets_107
    · exact absurd (by decide) c_28
  | succ x =>
    have hl : lv_has ls 8 [(4, .int (nI x)), (2, .long z), (1, .ref a5), (0, .ref t0)] := by
      rw [show nI x = nI (x + 1) + -1 from (pd_1 _).symm]
      exact hl
    refine lv_iload hx hb dX8_countGoodSets_26 (lv_at hl 0 rfl) ?_
    refine lv_if_lt hx hb (x := (nI x)) (tgt := 105) dX8_countGoodSets_28 (by decide) (fun c_28 => ?_) (fun c_28 => ?_)
    · exact absurd c_28 (nI_pos (by have h1 := hO.1; omega))
    · refine lv_aload_n hx hb dX8_countGoodSets_31 rfl (lv_at hl 2 rfl) ?_
      refine cx_getN C hZ hW 5 3 rfl rfl (by decide) inX5 nw_158 rfl rfl dX8_countGoodSets_32 ?_
      refine lv_iload hx hb dX8_countGoodSets_35 (lv_at hl 0 rfl) ?_
      refine cx_ald C hW 9 0 (j := x) rfl rfl rfl (by have h1 := hO.1; omega) (by decide) dX8_countGoodSets_37 ?_
      refine r_eq (y := (oi (pr x))) (hO.2.2.1 x (by omega)) ?_
      refine lv_istore (lv' := [(5, .int (oi (pr x))), (4, .int (nI x)), (2, .long z), (1, .ref a5), (0, .ref t0)]) hx hb dX8_countGoodSets_38 hl (by decide) rfl (fun ls hl => ?_)
      refine lv_aload_n hx hb dX8_countGoodSets_40 rfl (lv_at hl 4 rfl) ?_
      refine cx_get C hW 0 4 rfl rfl (by decide) inX8 gw_247 rfl rfl dX8_countGoodSets_41 ?_
      refine lv_iload hx hb dX8_countGoodSets_44 (lv_at hl 1 rfl) ?_
      refine cx_lald C hW 10 2 (j := x) rfl rfl rfl (by have h1 := hO.1; omega) (by decide) rfl dX8_countGoodSets_46 ?_
      refine lv_aload_n hx hb dX8_countGoodSets_47 rfl (lv_at hl 4 rfl) ?_
      refine cx_get C hW 0 5 rfl rfl (by decide) inX8 gw_248 rfl rfl dX8_countGoodSets_48 ?_
      refine lv_iload hx hb dX8_countGoodSets_51 (lv_at hl 1 rfl) ?_
      refine cx_lald C hW 11 2 (j := x) rfl rfl rfl (by have h1 := hO.1; omega) (by decide) rfl dX8_countGoodSets_53 ?_
      refine lv_ladd hx hb dX8_countGoodSets_54 ?_
      refine lv_lstore (lv' := [(6, .long ((f x) + (h_ x))), (5, .int (oi (pr x))), (4, .int (nI x)), (2, .long z), (1, .ref a5), (0, .ref t0)]) hx hb dX8_countGoodSets_55 hl (by decide) rfl (fun ls hl => ?_)
      refine lv_iload hx hb dX8_countGoodSets_57 (lv_at hl 1 rfl) ?_
      refine r_oi_lt0 hx hb (o := (pr x)) (fun j hj => by have h1 := hO.1; have h2 := hO.2.2.2.1 x j (by omega) hj; omega) (tgt := 94) dX8_countGoodSets_59 (by decide) (fun c_59 => ?_) (fun j_59 c_59 => ?_)
      · rw [c_59] at hl
        have hl : lv_has ls 8 [(6, .long ((f x) + (h_ x))), (5, .int (-1)), (4, .int (nI x)), (2, .long z), (1, .ref a5), (0, .ref t0)] := hl
        refine lv_lload_n hx hb dX8_countGoodSets_94 rfl (lv_at hl 3 rfl) ?_
        refine lv_lload hx hb dX8_countGoodSets_95 (lv_at hl 0 rfl) ?_
        refine lv_lmul hx hb dX8_countGoodSets_97 ?_
        refine lv_lstore_n (lv' := [(2, .long (z * ((f x) + (h_ x)))), (6, .long ((f x) + (h_ x))), (5, .int (-1)), (4, .int (nI x)), (1, .ref a5), (0, .ref t0)]) hx hb dX8_countGoodSets_98 rfl hl (by decide) rfl (fun ls hl => ?_)
        refine lv_iinc (v := (nI x + -1)) (lv' := [(4, .int (nI x + -1)), (2, .long (z * ((f x) + (h_ x)))), (6, .long ((f x) + (h_ x))), (5, .int (-1)), (1, .ref a5), (0, .ref t0)]) hx hb dX8_countGoodSets_99 hl (k := 3) rfl rfl (by decide) rfl (fun ls hl => ?_)
        refine lv_goto (tgt := 26) hx hb dX8_countGoodSets_102 (by decide) ?_
        exact ih_26 (x, (z * ((f x) + (h_ x))), f, h_) _ _ _ (by first | omega | (dsimp only; omega)) ⟨_, rfl, lv_sub hl [0, 1, 4, 5] rfl, hW, ⟨by dsimp only; omega, gs_none c_59 hg9⟩⟩
      · rw [c_59] at hl
        have hl : lv_has ls 8 [(6, .long ((f x) + (h_ x))), (5, .int (nI j_59)), (4, .int (nI x)), (2, .long z), (1, .ref a5), (0, .ref t0)] := hl
        refine lv_aload_n hx hb dX8_countGoodSets_62 rfl (lv_at hl 5 rfl) ?_
        refine cx_get C hW 0 4 rfl rfl (by decide) inX8 gw_247 rfl rfl dX8_countGoodSets_63 ?_
        refine lv_iload hx hb dX8_countGoodSets_66 (lv_at hl 1 rfl) ?_
        refine lv_dup2_11 hx hb dX8_countGoodSets_68 rfl rfl ?_
        refine cx_lald C hW 10 2 (j := j_59) rfl rfl rfl (by have h1 := hO.1; have h2 := hO.2.2.2.1 x _ (by omega) (by assumption); omega) (by decide) rfl dX8_countGoodSets_69 ?_
        refine lv_aload_n hx hb dX8_countGoodSets_70 rfl (lv_at hl 5 rfl) ?_
        refine cx_get C hW 0 5 rfl rfl (by decide) inX8 gw_248 rfl rfl dX8_countGoodSets_71 ?_
        refine lv_iload hx hb dX8_countGoodSets_74 (lv_at hl 2 rfl) ?_
        refine cx_lald C hW 11 2 (j := x) rfl rfl rfl (by have h1 := hO.1; omega) (by decide) rfl dX8_countGoodSets_76 ?_
        refine lv_lmul hx hb dX8_countGoodSets_77 ?_
        refine cx_last C hW 10 2 (j := j_59) (W1 := [(t0, .inr (11, [.ref t1, .ref t2, .ref t3, .ref t4, .ref t5, .ref t6])), (t1, .inl (aT 0, 12, .inl r1)), (t2, .inl (aT 0, 12, .inl r2)), (t3, .inl (aT 0, 12, .inl r3)), (t4, .inl (aT 0, 12, .inl r4)), (a5, .inr (8, [.ref a6, .ref a7, .ref a8, .ref a9, .int (nI nm), .int nx])), (a6, .inl (aT 0, 12, .inl fI)), (a7, .inl (aT 0, 12, .inl fN)), (a8, .inl (aT 0, 12, .inl fW)), (a9, .inl (aT 0, 12, .inl fP)), (t5, .inl (aT 2, 12, .inr (.inl (vp_updL f j_59 ((f j_59) * (h_ x)))))), (t6, .inl (aT 2, 12, .inr (.inl h_)))]) rfl rfl rfl (by have h1 := hO.1; have h2 := hO.2.2.2.1 x _ (by omega) (by assumption); omega) (by decide) rfl dX8_countGoodSets_78 (fun H locs hW => ?_)
        refine lv_aload_n hx hb dX8_countGoodSets_79 rfl (lv_at hl 5 rfl) ?_
        refine cx_get C hW 0 5 rfl rfl (by decide) inX8 gw_248 rfl rfl dX8_countGoodSets_80 ?_
        refine lv_iload hx hb dX8_countGoodSets_83 (lv_at hl 1 rfl) ?_
        refine lv_dup2_11 hx hb dX8_countGoodSets_85 rfl rfl ?_
        refine cx_lald C hW 11 2 (j := j_59) rfl rfl rfl (by have h1 := hO.1; have h2 := hO.2.2.2.1 x _ (by omega) (by assumption); omega) (by decide) rfl dX8_countGoodSets_86 ?_
        refine lv_lload hx hb dX8_countGoodSets_87 (lv_at hl 0 rfl) ?_
        refine lv_lmul hx hb dX8_countGoodSets_89 ?_
        refine cx_last C hW 11 2 (j := j_59) (W1 := [(t0, .inr (11, [.ref t1, .ref t2, .ref t3, .ref t4, .ref t5, .ref t6])), (t1, .inl (aT 0, 12, .inl r1)), (t2, .inl (aT 0, 12, .inl r2)), (t3, .inl (aT 0, 12, .inl r3)), (t4, .inl (aT 0, 12, .inl r4)), (a5, .inr (8, [.ref a6, .ref a7, .ref a8, .ref a9, .int (nI nm), .int nx])), (a6, .inl (aT 0, 12, .inl fI)), (a7, .inl (aT 0, 12, .inl fN)), (a8, .inl (aT 0, 12, .inl fW)), (a9, .inl (aT 0, 12, .inl fP)), (t5, .inl (aT 2, 12, .inr (.inl (vp_updL f j_59 ((f j_59) * (h_ x)))))), (t6, .inl (aT 2, 12, .inr (.inl (vp_updL h_ j_59 ((h_ j_59) * ((f x) + (h_ x)))))))]) rfl rfl rfl (by have h1 := hO.1; have h2 := hO.2.2.2.1 x _ (by omega) (by assumption); omega) (by decide) rfl dX8_countGoodSets_90 (fun H locs hW => ?_)
        refine lv_goto (tgt := 99) hx hb dX8_countGoodSets_91 (by decide) ?_
        refine lv_iinc (v := (nI x + -1)) (lv' := [(4, .int (nI x + -1)), (6, .long ((f x) + (h_ x))), (5, .int (nI j_59)), (2, .long z), (1, .ref a5), (0, .ref t0)]) hx hb dX8_countGoodSets_99 hl (k := 2) rfl rfl (by decide) rfl (fun ls hl => ?_)
        refine lv_goto (tgt := 26) hx hb dX8_countGoodSets_102 (by decide) ?_
        exact ih_26 (x, z, (vp_updL f j_59 ((f j_59) * (h_ x))), (vp_updL h_ j_59 ((h_ j_59) * ((f x) + (h_ x))))) _ _ _ (by first | omega | (dsimp only; omega)) ⟨_, rfl, lv_sub hl [0, 3, 4, 5] rfl, hW, ⟨by dsimp only; omega, gs_some c_59 hg9⟩⟩
theorem dX8_isGood_0 : decode cX8_isGood 0 = .ok (.iconst 0, 1) := by decide +kernel
theorem dX8_isGood_1 : decode cX8_isGood 1 = .ok (.istore_n 2, 1) := by decide +kernel
theorem dX8_isGood_2 : decode cX8_isGood 2 = .ok (.iload_n 2, 1) := by decide +kernel
theorem dX8_isGood_3 : decode cX8_isGood 3 = .ok (.aload_n 0, 1) := by decide +kernel
theorem dX8_isGood_4 : decode cX8_isGood 4 = .ok (.getfield 50, 3) := by decide +kernel
theorem dX8_isGood_7 : decode cX8_isGood 7 = .ok (.if_icmp .ge 40, 3) := by decide +kernel
theorem dX8_isGood_10 : decode cX8_isGood 10 = .ok (.aload_n 0, 1) := by decide +kernel
theorem dX8_isGood_11 : decode cX8_isGood 11 = .ok (.getfield 37, 3) := by decide +kernel
theorem dX8_isGood_14 : decode cX8_isGood 14 = .ok (.iload_n 2, 1) := by decide +kernel
theorem dX8_isGood_15 : decode cX8_isGood 15 = .ok (.iaload, 1) := by decide +kernel
theorem dX8_isGood_16 : decode cX8_isGood 16 = .ok (.istore_n 3, 1) := by decide +kernel
theorem dX8_isGood_17 : decode cX8_isGood 17 = .ok (.iload_n 3, 1) := by decide +kernel
theorem dX8_isGood_18 : decode cX8_isGood 18 = .ok (.ifCond .lt 23, 3) := by decide +kernel
theorem dX8_isGood_21 : decode cX8_isGood 21 = .ok (.iload_n 1, 1) := by decide +kernel
theorem dX8_isGood_22 : decode cX8_isGood 22 = .ok (.iload_n 2, 1) := by decide +kernel
theorem dX8_isGood_23 : decode cX8_isGood 23 = .ok (.ishr, 1) := by decide +kernel
theorem dX8_isGood_24 : decode cX8_isGood 24 = .ok (.iconst 1, 1) := by decide +kernel
theorem dX8_isGood_25 : decode cX8_isGood 25 = .ok (.iand, 1) := by decide +kernel
theorem dX8_isGood_26 : decode cX8_isGood 26 = .ok (.iconst 1, 1) := by decide +kernel
theorem dX8_isGood_27 : decode cX8_isGood 27 = .ok (.if_icmp .ne 14, 3) := by decide +kernel
theorem dX8_isGood_30 : decode cX8_isGood 30 = .ok (.iload_n 1, 1) := by decide +kernel
theorem dX8_isGood_31 : decode cX8_isGood 31 = .ok (.iload_n 3, 1) := by decide +kernel
theorem dX8_isGood_32 : decode cX8_isGood 32 = .ok (.ishr, 1) := by decide +kernel
theorem dX8_isGood_33 : decode cX8_isGood 33 = .ok (.iconst 1, 1) := by decide +kernel
theorem dX8_isGood_34 : decode cX8_isGood 34 = .ok (.iand, 1) := by decide +kernel
theorem dX8_isGood_35 : decode cX8_isGood 35 = .ok (.iconst 1, 1) := by decide +kernel
theorem dX8_isGood_36 : decode cX8_isGood 36 = .ok (.if_icmp .ne 5, 3) := by decide +kernel
theorem dX8_isGood_39 : decode cX8_isGood 39 = .ok (.iconst 0, 1) := by decide +kernel
theorem dX8_isGood_40 : decode cX8_isGood 40 = .ok (.ireturn, 1) := by decide +kernel
theorem dX8_isGood_41 : decode cX8_isGood 41 = .ok (.iinc 2 1, 3) := by decide +kernel
theorem dX8_isGood_44 : decode cX8_isGood 44 = .ok (.goto (-42), 3) := by decide +kernel
theorem dX8_isGood_47 : decode cX8_isGood 47 = .ok (.iconst 1, 1) := by decide +kernel
theorem dX8_isGood_48 : decode cX8_isGood 48 = .ok (.ireturn, 1) := by decide +kernel
set_option maxHeartbeats 2000000 in
set_option maxRecDepth 20000 in
theorem k_X8_isGood (l : Launch) (hfl : l.stackTraces = false) (D : va_G) (aT : Nat → ClassId) (a5 : Nat) (a6 : Nat) (a7 : Nat) (a8 : Nat) (a9 : Nat) (fI : Nat → Int32) (fN : Nat → Int32) (fW : Nat → Int32) (fP : Nat → Int32) (nm : Nat) (nx : Int32) (idn : Nat → Nat) (pr : Nat → Option Nat) (tn : Nat → Nat) (hO : MoC fI fN fP nm idn pr tn) (sx : Int32) : CxG l yX8_isGood cX8_isGood 4 (some (.boolean)) 0 0 0 0 D aT [.ref a5, .int sx] [(a5, .inr (8, [.ref a6, .ref a7, .ref a8, .ref a9, .int (nI nm), .int nx])), (a6, .inl (aT 0, 12, .inl fI)), (a7, .inl (aT 0, 12, .inl fN)), (a8, .inl (aT 0, 12, .inl fW)), (a9, .inl (aT 0, 12, .inl fP))] (qI D aT (fun r W1 => (∃ b : Bool, r = bI b ∧ (b = true ↔ goI pr sx nm)) ∧ W1 = ([(a5, .inr (8, [.ref a6, .ref a7, .ref a8, .ref a9, .int (nI nm), .int nx])), (a6, .inl (aT 0, 12, .inl fI)), (a7, .inl (aT 0, 12, .inl fN)), (a8, .inl (aT 0, 12, .inl fW)), (a9, .inl (aT 0, 12, .inl fP))] : va_W))) (fun _ _ => False) := by
  refine CxG.of RX8 (by decide +kernel) rfl (Nat.le_of_ble_eq_true rfl) ?_
  intro p e s m below meth c A ls C hml hl hA hr hlocks hex hnm hZ hW
  have hl : lv_has ls 4 [(0, .ref a5), (1, .int sx)] := hl
  have hx := C.1
  have hb := C.2.1
  refine lv_iconst (v := nI 0) hx hb dX8_isGood_0 (by decide) ?_
  refine lv_istore_n (lv' := [(2, .int (nI 0)), (0, .ref a5), (1, .int sx)]) hx hb dX8_isGood_1 rfl hl (by decide) rfl (fun ls hl => ?_)
  refine W_loopH (σ := Nat) (fun z_ => nm - z_) (fun z_ H locs g => ∃ ls, g = F0 m 2 ls [] ∧ lv_has ls 4 [(2, .int (nI z_)), (1, .int sx), (0, .ref a5)] ∧ CxB D [(a5, .inr (8, [.ref a6, .ref a7, .ref a8, .ref a9, .int (nI nm), .int nx])), (a6, .inl (aT 0, 12, .inl fI)), (a7, .inl (aT 0, 12, .inl fN)), (a8, .inl (aT 0, 12, .inl fW)), (a9, .inl (aT 0, 12, .inl fP))] A s.heap H locs ∧ z_ ≤ nm ∧ goI pr sx z_) ?_ 0 _ ⟨_, rfl, lv_sub hl [0, 2, 1] rfl, hW, ⟨Nat.zero_le _, fun j p hj => absurd hj (Nat.not_lt_zero j)⟩⟩
  clear hW hl
  rintro i H locs g ⟨ls, rfl, hl, hW, ⟨hi, hg9⟩⟩ ih_2
  refine lv_iload_n hx hb dX8_isGood_2 rfl (lv_at hl 0 rfl) ?_
  refine lv_aload_n hx hb dX8_isGood_3 rfl (lv_at hl 2 rfl) ?_
  refine cx_getN C hZ hW 0 4 rfl rfl (by decide) inX5 nw_162 rfl rfl dX8_isGood_4 ?_
  refine r_geN hx hb (a := i) (b := nm) (by have h1 := hO.1; omega) (by have h1 := hO.1; omega) (tgt := 47) dX8_isGood_7 (by decide) (fun c_7 => ?_) (fun c_7 => ?_)
  · refine lv_iconst (v := nI 1) hx hb dX8_isGood_47 (by decide) ?_
    exact cx_iret C hr hlocks (by decide) hW ⟨Nat.le_of_ble_eq_true rfl, Nat.le_of_ble_eq_true rfl⟩ (⟨⟨true, rfl, fun _ => hg9.cast (by omega), fun _ => rfl⟩, rfl⟩) dX8_isGood_48
  · refine lv_aload_n hx hb dX8_isGood_10 rfl (lv_at hl 2 rfl) ?_
    refine cx_getN C hZ hW 0 3 rfl rfl (by decide) inX5 nw_158 rfl rfl dX8_isGood_11 ?_
    refine lv_iload_n hx hb dX8_isGood_14 rfl (lv_at hl 0 rfl) ?_
    refine cx_ald C hW 4 0 (j := i) rfl rfl rfl (by have h1 := hO.1; omega) (by decide) dX8_isGood_15 ?_
    refine r_eq (y := (oi (pr i))) (hO.2.2.1 i (by first | assumption | omega)) ?_
    refine lv_istore_n (lv' := [(3, .int (oi (pr i))), (2, .int (nI i)), (1, .int sx), (0, .ref a5)]) hx hb dX8_isGood_16 rfl hl (by decide) rfl (fun ls hl => ?_)
    refine lv_iload_n hx hb dX8_isGood_17 rfl (lv_at hl 0 rfl) ?_
    refine r_oi_lt0 hx hb (o := (pr i)) (hO.lim (by omega)) (tgt := 41) dX8_isGood_18 (by decide) (fun c_18 => ?_) (fun j_18 c_18 => ?_)
    · rw [c_18] at hl
      have hl : lv_has ls 4 [(3, .int (-1)), (2, .int (nI i)), (1, .int sx), (0, .ref a5)] := hl
      refine lv_iinc (v := (nI (i + 1))) (lv' := [(2, .int (nI (i + 1))), (3, .int (-1)), (1, .int sx), (0, .ref a5)]) hx hb dX8_isGood_41 hl (k := 1) rfl (nI_1 _) (by decide) rfl (fun ls hl => ?_)
      refine lv_goto (tgt := 2) hx hb dX8_isGood_44 (by decide) ?_
      exact ih_2 (i + 1) _ _ _ (by first | omega | (dsimp only; omega)) ⟨_, rfl, lv_sub hl [0, 2, 3] rfl, hW, ⟨by omega, hg9.stn c_18⟩⟩
    · rw [c_18] at hl
      have hl : lv_has ls 4 [(3, .int (nI j_18)), (2, .int (nI i)), (1, .int sx), (0, .ref a5)] := hl
      refine lv_iload_n hx hb dX8_isGood_21 rfl (lv_at hl 2 rfl) ?_
      refine lv_iload_n hx hb dX8_isGood_22 rfl (lv_at hl 1 rfl) ?_
      refine lv_ishr hx hb dX8_isGood_23 ?_
      refine lv_iconst (v := nI 1) hx hb dX8_isGood_24 (by decide) ?_
      refine lv_iand hx hb dX8_isGood_25 ?_
      refine lv_iconst (v := nI 1) hx hb dX8_isGood_26 (by decide) ?_
      refine lv_icmp_ne hx hb (x := ((sx >>> ((nI i) &&& 31)) &&& (nI 1))) (y := (nI 1)) (tgt := 41) dX8_isGood_27 (by decide) (fun c_27 => ?_) (fun c_27 => ?_)
      · refine lv_iinc (v := (nI (i + 1))) (lv' := [(2, .int (nI (i + 1))), (3, .int (nI j_18)), (1, .int sx), (0, .ref a5)]) hx hb dX8_isGood_41 hl (k := 1) rfl (nI_1 _) (by decide) rfl (fun ls hl => ?_)
        refine lv_goto (tgt := 2) hx hb dX8_isGood_44 (by decide) ?_
        exact ih_2 (i + 1) _ _ _ (by first | omega | (dsimp only; omega)) ⟨_, rfl, lv_sub hl [0, 2, 3] rfl, hW, ⟨by omega, hg9.one c_27⟩⟩
      · refine lv_iload_n hx hb dX8_isGood_30 rfl (lv_at hl 2 rfl) ?_
        refine lv_iload_n hx hb dX8_isGood_31 rfl (lv_at hl 0 rfl) ?_
        refine lv_ishr hx hb dX8_isGood_32 ?_
        refine lv_iconst (v := nI 1) hx hb dX8_isGood_33 (by decide) ?_
        refine lv_iand hx hb dX8_isGood_34 ?_
        refine lv_iconst (v := nI 1) hx hb dX8_isGood_35 (by decide) ?_
        refine lv_icmp_ne hx hb (x := ((sx >>> ((nI j_18) &&& 31)) &&& (nI 1))) (y := (nI 1)) (tgt := 41) dX8_isGood_36 (by decide) (fun c_36 => ?_) (fun c_36 => ?_)
        · refine lv_iinc (v := (nI (i + 1))) (lv' := [(2, .int (nI (i + 1))), (3, .int (nI j_18)), (1, .int sx), (0, .ref a5)]) hx hb dX8_isGood_41 hl (k := 1) rfl (nI_1 _) (by decide) rfl (fun ls hl => ?_)
          refine lv_goto (tgt := 2) hx hb dX8_isGood_44 (by decide) ?_
          exact ih_2 (i + 1) _ _ _ (by first | omega | (dsimp only; omega)) ⟨_, rfl, lv_sub hl [0, 2, 3] rfl, hW, ⟨by omega, hg9.two c_18 c_36⟩⟩
        · refine lv_iconst (v := nI 0) hx hb dX8_isGood_39 (by decide) ?_
          exact cx_iret C hr hlocks (by decide) hW ⟨Nat.le_of_ble_eq_true rfl, Nat.le_of_ble_eq_true rfl⟩ (⟨⟨false, rfl, fun z => (by cases z), fun z => (z i j_18 (by omega) c_18 c_27 c_36).elim⟩, rfl⟩) dX8_isGood_40
theorem dX8_worthOf_0 : decode cX8_worthOf 0 = .ok (.lconst 0, 1) := by decide +kernel
theorem dX8_worthOf_1 : decode cX8_worthOf 1 = .ok (.lstore_n 2, 1) := by decide +kernel
theorem dX8_worthOf_2 : decode cX8_worthOf 2 = .ok (.iconst 0, 1) := by decide +kernel
theorem dX8_worthOf_3 : decode cX8_worthOf 3 = .ok (.istore 4, 2) := by decide +kernel
theorem dX8_worthOf_5 : decode cX8_worthOf 5 = .ok (.iload 4, 2) := by decide +kernel
theorem dX8_worthOf_7 : decode cX8_worthOf 7 = .ok (.aload_n 0, 1) := by decide +kernel
theorem dX8_worthOf_8 : decode cX8_worthOf 8 = .ok (.getfield 50, 3) := by decide +kernel
theorem dX8_worthOf_11 : decode cX8_worthOf 11 = .ok (.if_icmp .ge 30, 3) := by decide +kernel
theorem dX8_worthOf_14 : decode cX8_worthOf 14 = .ok (.iload_n 1, 1) := by decide +kernel
theorem dX8_worthOf_15 : decode cX8_worthOf 15 = .ok (.iload 4, 2) := by decide +kernel
theorem dX8_worthOf_17 : decode cX8_worthOf 17 = .ok (.ishr, 1) := by decide +kernel
theorem dX8_worthOf_18 : decode cX8_worthOf 18 = .ok (.iconst 1, 1) := by decide +kernel
theorem dX8_worthOf_19 : decode cX8_worthOf 19 = .ok (.iand, 1) := by decide +kernel
theorem dX8_worthOf_20 : decode cX8_worthOf 20 = .ok (.iconst 1, 1) := by decide +kernel
theorem dX8_worthOf_21 : decode cX8_worthOf 21 = .ok (.if_icmp .ne 14, 3) := by decide +kernel
theorem dX8_worthOf_24 : decode cX8_worthOf 24 = .ok (.lload_n 2, 1) := by decide +kernel
theorem dX8_worthOf_25 : decode cX8_worthOf 25 = .ok (.aload_n 0, 1) := by decide +kernel
theorem dX8_worthOf_26 : decode cX8_worthOf 26 = .ok (.getfield 71, 3) := by decide +kernel
theorem dX8_worthOf_29 : decode cX8_worthOf 29 = .ok (.iload 4, 2) := by decide +kernel
theorem dX8_worthOf_31 : decode cX8_worthOf 31 = .ok (.iaload, 1) := by decide +kernel
theorem dX8_worthOf_32 : decode cX8_worthOf 32 = .ok (.i2l, 1) := by decide +kernel
theorem dX8_worthOf_33 : decode cX8_worthOf 33 = .ok (.ladd, 1) := by decide +kernel
theorem dX8_worthOf_34 : decode cX8_worthOf 34 = .ok (.lstore_n 2, 1) := by decide +kernel
theorem dX8_worthOf_35 : decode cX8_worthOf 35 = .ok (.iinc 4 1, 3) := by decide +kernel
theorem dX8_worthOf_38 : decode cX8_worthOf 38 = .ok (.goto (-33), 3) := by decide +kernel
theorem dX8_worthOf_41 : decode cX8_worthOf 41 = .ok (.lload_n 2, 1) := by decide +kernel
theorem dX8_worthOf_42 : decode cX8_worthOf 42 = .ok (.lreturn, 1) := by decide +kernel
set_option maxHeartbeats 2000000 in
set_option maxRecDepth 20000 in
theorem k_X8_worthOf (l : Launch) (hfl : l.stackTraces = false) (D : va_G) (aT : Nat → ClassId) (a5 : Nat) (a6 : Nat) (a7 : Nat) (a8 : Nat) (a9 : Nat) (fI : Nat → Int32) (fN : Nat → Int32) (fW : Nat → Int32) (fP : Nat → Int32) (nm : Nat) (nx : Int32) (idn : Nat → Nat) (pr : Nat → Option Nat) (tn : Nat → Nat) (hO : MoC fI fN fP nm idn pr tn) (sx : Int32) : CxG l yX8_worthOf cX8_worthOf 5 (some (.long)) 0 0 0 0 D aT [.ref a5, .int sx] [(a5, .inr (8, [.ref a6, .ref a7, .ref a8, .ref a9, .int (nI nm), .int nx])), (a6, .inl (aT 0, 12, .inl fI)), (a7, .inl (aT 0, 12, .inl fN)), (a8, .inl (aT 0, 12, .inl fW)), (a9, .inl (aT 0, 12, .inl fP))] (qL D aT (fun r W1 => WtI fW sx nm r ∧ W1 = ([(a5, .inr (8, [.ref a6, .ref a7, .ref a8, .ref a9, .int (nI nm), .int nx])), (a6, .inl (aT 0, 12, .inl fI)), (a7, .inl (aT 0, 12, .inl fN)), (a8, .inl (aT 0, 12, .inl fW)), (a9, .inl (aT 0, 12, .inl fP))] : va_W))) (fun _ _ => False) := by
  refine CxG.of RX8 (by decide +kernel) rfl (Nat.le_of_ble_eq_true rfl) ?_
  intro p e s m below meth c A ls C hml hl hA hr hlocks hex hnm hZ hW
  have hl : lv_has ls 5 [(0, .ref a5), (1, .int sx)] := hl
  have hx := C.1
  have hb := C.2.1
  refine lv_lconst (v := 0) hx hb dX8_worthOf_0 (by decide) ?_
  refine lv_lstore_n (lv' := [(2, .long 0), (0, .ref a5), (1, .int sx)]) hx hb dX8_worthOf_1 rfl hl (by decide) rfl (fun ls hl => ?_)
  refine lv_iconst (v := nI 0) hx hb dX8_worthOf_2 (by decide) ?_
  refine lv_istore (lv' := [(4, .int (nI 0)), (2, .long 0), (0, .ref a5), (1, .int sx)]) hx hb dX8_worthOf_3 hl (by decide) rfl (fun ls hl => ?_)
  refine W_loopH (σ := Nat × Int64) (fun z_ => nm - z_.1) (fun z_ H locs g => ∃ ls, g = F0 m 5 ls [] ∧ lv_has ls 5 [(4, .int (nI z_.1)), (2, .long z_.2), (1, .int sx), (0, .ref a5)] ∧ CxB D [(a5, .inr (8, [.ref a6, .ref a7, .ref a8, .ref a9, .int (nI nm), .int nx])), (a6, .inl (aT 0, 12, .inl fI)), (a7, .inl (aT 0, 12, .inl fN)), (a8, .inl (aT 0, 12, .inl fW)), (a9, .inl (aT 0, 12, .inl fP))] A s.heap H locs ∧ z_.1 ≤ nm ∧ WtI fW sx z_.1 z_.2) ?_ (0, 0) _ ⟨_, rfl, lv_sub hl [0, 1, 3, 2] rfl, hW, ⟨Nat.zero_le _, WtI.init⟩⟩
  clear hW hl
  rintro ⟨i, z⟩ H locs g ⟨ls, rfl, hl, hW, ⟨hi, hg9⟩⟩ ih_5
  dsimp only at hl hW hi hg9 ⊢
  refine lv_iload hx hb dX8_worthOf_5 (lv_at hl 0 rfl) ?_
  refine lv_aload_n hx hb dX8_worthOf_7 rfl (lv_at hl 3 rfl) ?_
  refine cx_getN C hZ hW 0 4 rfl rfl (by decide) inX5 nw_162 rfl rfl dX8_worthOf_8 ?_
  refine r_geN hx hb (a := i) (b := nm) (by have h1 := hO.1; omega) (by have h1 := hO.1; omega) (tgt := 41) dX8_worthOf_11 (by decide) (fun c_11 => ?_) (fun c_11 => ?_)
  · refine lv_lload_n hx hb dX8_worthOf_41 rfl (lv_at hl 1 rfl) ?_
    exact cx_lret C hr hlocks hW ⟨Nat.le_of_ble_eq_true rfl, Nat.le_of_ble_eq_true rfl⟩ (⟨hg9.cast (by omega), rfl⟩) dX8_worthOf_42
  · refine lv_iload_n hx hb dX8_worthOf_14 rfl (lv_at hl 2 rfl) ?_
    refine lv_iload hx hb dX8_worthOf_15 (lv_at hl 0 rfl) ?_
    refine lv_ishr hx hb dX8_worthOf_17 ?_
    refine lv_iconst (v := nI 1) hx hb dX8_worthOf_18 (by decide) ?_
    refine lv_iand hx hb dX8_worthOf_19 ?_
    refine lv_iconst (v := nI 1) hx hb dX8_worthOf_20 (by decide) ?_
    refine lv_icmp_ne hx hb (x := ((sx >>> ((nI i) &&& 31)) &&& (nI 1))) (y := (nI 1)) (tgt := 35) dX8_worthOf_21 (by decide) (fun c_21 => ?_) (fun c_21 => ?_)
    · refine lv_iinc (v := (nI (i + 1))) (lv' := [(4, .int (nI (i + 1))), (2, .long z), (1, .int sx), (0, .ref a5)]) hx hb dX8_worthOf_35 hl (k := 0) rfl (nI_1 _) (by decide) rfl (fun ls hl => ?_)
      refine lv_goto (tgt := 5) hx hb dX8_worthOf_38 (by decide) ?_
      exact ih_5 ((i + 1), z) _ _ _ (by first | omega | (dsimp only; omega)) ⟨_, rfl, lv_sub hl [0, 1, 2, 3] rfl, hW, ⟨by dsimp only; omega, hg9.no c_21⟩⟩
    · refine lv_lload_n hx hb dX8_worthOf_24 rfl (lv_at hl 1 rfl) ?_
      refine lv_aload_n hx hb dX8_worthOf_25 rfl (lv_at hl 3 rfl) ?_
      refine cx_getN C hZ hW 0 2 rfl rfl (by decide) inX5 nw_155 rfl rfl dX8_worthOf_26 ?_
      refine lv_iload hx hb dX8_worthOf_29 (lv_at hl 0 rfl) ?_
      refine cx_ald C hW 3 0 (j := i) rfl rfl rfl (by have h1 := hO.1; omega) (by decide) dX8_worthOf_31 ?_
      refine lv_i2l (v := ((fW i)).toInt64) hx hb dX8_worthOf_32 rfl ?_
      refine lv_ladd hx hb dX8_worthOf_33 ?_
      refine lv_lstore_n (lv' := [(2, .long (z + ((fW i)).toInt64)), (4, .int (nI i)), (1, .int sx), (0, .ref a5)]) hx hb dX8_worthOf_34 rfl hl (by decide) rfl (fun ls hl => ?_)
      refine lv_iinc (v := (nI (i + 1))) (lv' := [(4, .int (nI (i + 1))), (2, .long (z + ((fW i)).toInt64)), (1, .int sx), (0, .ref a5)]) hx hb dX8_worthOf_35 hl (k := 1) rfl (nI_1 _) (by decide) rfl (fun ls hl => ?_)
      refine lv_goto (tgt := 5) hx hb dX8_worthOf_38 (by decide) ?_
      exact ih_5 ((i + 1), (z + ((fW i)).toInt64)) _ _ _ (by first | omega | (dsimp only; omega)) ⟨_, rfl, lv_sub hl [0, 1, 2, 3] rfl, hW, ⟨by dsimp only; omega, hg9.yes (by have h1 := hO.1; omega) c_21⟩⟩
theorem dX8_bestBySets_0 : decode cX8_bestBySets 0 = .ok (.lconst 0, 1) := by decide +kernel
theorem dX8_bestBySets_1 : decode cX8_bestBySets 1 = .ok (.lstore_n 2, 1) := by decide +kernel
theorem dX8_bestBySets_2 : decode cX8_bestBySets 2 = .ok (.iconst 1, 1) := by decide +kernel
theorem dX8_bestBySets_3 : decode cX8_bestBySets 3 = .ok (.aload_n 1, 1) := by decide +kernel
theorem dX8_bestBySets_4 : decode cX8_bestBySets 4 = .ok (.getfield 50, 3) := by decide +kernel
theorem dX8_bestBySets_7 : decode cX8_bestBySets 7 = .ok (.ishl, 1) := by decide +kernel
theorem dX8_bestBySets_8 : decode cX8_bestBySets 8 = .ok (.istore 4, 2) := by decide +kernel
theorem dX8_bestBySets_10 : decode cX8_bestBySets 10 = .ok (.iconst 0, 1) := by decide +kernel
theorem dX8_bestBySets_11 : decode cX8_bestBySets 11 = .ok (.istore 5, 2) := by decide +kernel
theorem dX8_bestBySets_13 : decode cX8_bestBySets 13 = .ok (.iload 5, 2) := by decide +kernel
theorem dX8_bestBySets_15 : decode cX8_bestBySets 15 = .ok (.iload 4, 2) := by decide +kernel
theorem dX8_bestBySets_17 : decode cX8_bestBySets 17 = .ok (.if_icmp .ge 29, 3) := by decide +kernel
theorem dX8_bestBySets_20 : decode cX8_bestBySets 20 = .ok (.aload_n 1, 1) := by decide +kernel
theorem dX8_bestBySets_21 : decode cX8_bestBySets 21 = .ok (.iload 5, 2) := by decide +kernel
theorem dX8_bestBySets_23 : decode cX8_bestBySets 23 = .ok (.invokestatic 77, 3) := by decide +kernel
theorem dX8_bestBySets_26 : decode cX8_bestBySets 26 = .ok (.ifCond .eq 14, 3) := by decide +kernel
theorem dX8_bestBySets_29 : decode cX8_bestBySets 29 = .ok (.lload_n 2, 1) := by decide +kernel
theorem dX8_bestBySets_30 : decode cX8_bestBySets 30 = .ok (.aload_n 1, 1) := by decide +kernel
theorem dX8_bestBySets_31 : decode cX8_bestBySets 31 = .ok (.iload 5, 2) := by decide +kernel
theorem dX8_bestBySets_33 : decode cX8_bestBySets 33 = .ok (.invokestatic 81, 3) := by decide +kernel
theorem dX8_bestBySets_36 : decode cX8_bestBySets 36 = .ok (.invokestatic 74, 3) := by decide +kernel
theorem dX8_bestBySets_39 : decode cX8_bestBySets 39 = .ok (.lstore_n 2, 1) := by decide +kernel
theorem dX8_bestBySets_40 : decode cX8_bestBySets 40 = .ok (.iinc 5 1, 3) := by decide +kernel
theorem dX8_bestBySets_43 : decode cX8_bestBySets 43 = .ok (.goto (-30), 3) := by decide +kernel
theorem dX8_bestBySets_46 : decode cX8_bestBySets 46 = .ok (.lload_n 2, 1) := by decide +kernel
theorem dX8_bestBySets_47 : decode cX8_bestBySets 47 = .ok (.lreturn, 1) := by decide +kernel
theorem gS_X8_X8_isGood_77 : GoodIn gw (va_wsS RX8 77 yX8_isGood (Cond.code yX8_isGood cX8_isGood 4 (some .boolean) :: gw)) := gdS2 gw_453 gw_454 gw_72 gw_455
theorem hS_X8_isGood : yX8_isGood.cls ≠ "java/lang/invoke/MethodHandle" ∧ yX8_isGood.cls ≠ "java/lang/invoke/VarHandle" ∧ (parseMethodDescriptor yX8_isGood.desc).map (fun d => d.parameters.length) = some 2 := ⟨by decide +kernel, by decide +kernel, by decide +kernel⟩
theorem gS_X8_X8_worthOf_81 : GoodIn gw (va_wsS RX8 81 yX8_worthOf (Cond.code yX8_worthOf cX8_worthOf 5 (some .long) :: gw)) := gdS2 gw_456 gw_457 gw_72 gw_458
theorem hS_X8_worthOf : yX8_worthOf.cls ≠ "java/lang/invoke/MethodHandle" ∧ yX8_worthOf.cls ≠ "java/lang/invoke/VarHandle" ∧ (parseMethodDescriptor yX8_worthOf.desc).map (fun d => d.parameters.length) = some 2 := ⟨by decide +kernel, by decide +kernel, by decide +kernel⟩
set_option maxHeartbeats 2000000 in
set_option maxRecDepth 20000 in
theorem k_X8_bestBySets (l : Launch) (hfl : l.stackTraces = false) (D : va_G) (aT : Nat → ClassId) (t0 : Nat) (t1 : Nat) (t2 : Nat) (t3 : Nat) (t4 : Nat) (t5 : Nat) (t6 : Nat) (r1 : Nat → Int32) (r2 : Nat → Int32) (r3 : Nat → Int32) (r4 : Nat → Int32) (r5 : Nat → Int64) (r6 : Nat → Int64) (a5 : Nat) (a6 : Nat) (a7 : Nat) (a8 : Nat) (a9 : Nat) (fI : Nat → Int32) (fN : Nat → Int32) (fW : Nat → Int32) (fP : Nat → Int32) (nm : Nat) (nx : Int32) (idn : Nat → Nat) (pr : Nat → Option Nat) (tn : Nat → Nat) (hO : MoC fI fN fP nm idn pr tn) : CxG l yX8_bestBySets cX8_bestBySets 6 (some (.long)) 1 0 0 40 D aT [.ref t0, .ref a5] [(t0, .inr (11, [.ref t1, .ref t2, .ref t3, .ref t4, .ref t5, .ref t6])), (t1, .inl (aT 0, 12, .inl r1)), (t2, .inl (aT 0, 12, .inl r2)), (t3, .inl (aT 0, 12, .inl r3)), (t4, .inl (aT 0, 12, .inl r4)), (t5, .inl (aT 2, 12, .inr (.inl r5))), (t6, .inl (aT 2, 12, .inr (.inl r6))), (a5, .inr (8, [.ref a6, .ref a7, .ref a8, .ref a9, .int (nI nm), .int nx])), (a6, .inl (aT 0, 12, .inl fI)), (a7, .inl (aT 0, 12, .inl fN)), (a8, .inl (aT 0, 12, .inl fW)), (a9, .inl (aT 0, 12, .inl fP))] (qL D aT (fun r W1 => r.toInt = dpD pr nm (fun j => (fW j).toInt) (fun _ => 0) 0 ∧ W1 = ([(t0, .inr (11, [.ref t1, .ref t2, .ref t3, .ref t4, .ref t5, .ref t6])), (t1, .inl (aT 0, 12, .inl r1)), (t2, .inl (aT 0, 12, .inl r2)), (t3, .inl (aT 0, 12, .inl r3)), (t4, .inl (aT 0, 12, .inl r4)), (t5, .inl (aT 2, 12, .inr (.inl r5))), (t6, .inl (aT 2, 12, .inr (.inl r6))), (a5, .inr (8, [.ref a6, .ref a7, .ref a8, .ref a9, .int (nI nm), .int nx])), (a6, .inl (aT 0, 12, .inl fI)), (a7, .inl (aT 0, 12, .inl fN)), (a8, .inl (aT 0, 12, .inl fW)), (a9, .inl (aT 0, 12, .inl fP))] : va_W))) (fun _ _ => False) := by
  refine CxG.of RX8 (by decide +kernel) rfl (Nat.le_of_ble_eq_true rfl) ?_
  intro p e s m below meth c A ls C hml hl hA hr hlocks hex hnm hZ hW
  have hl : lv_has ls 6 [(0, .ref t0), (1, .ref a5)] := hl
  have hx := C.1
  have hb := C.2.1
  refine lv_lconst (v := 0) hx hb dX8_bestBySets_0 (by decide) ?_
  refine lv_lstore_n (lv' := [(2, .long 0), (0, .ref t0), (1, .ref a5)]) hx hb dX8_bestBySets_1 rfl hl (by decide) rfl (fun ls hl => ?_)
  refine lv_iconst (v := nI 1) hx hb dX8_bestBySets_2 (by decide) ?_
  refine lv_aload_n hx hb dX8_bestBySets_3 rfl (lv_at hl 2 rfl) ?_
  refine cx_getN C hZ hW 7 4 rfl rfl (by decide) inX5 nw_162 rfl rfl dX8_bestBySets_4 ?_
  refine lv_ishl hx hb dX8_bestBySets_7 ?_
  refine r_eq (y := (nI (2 ^ nm))) (sh_eq nm (by have h1 := hO.1; omega)) ?_
  refine lv_istore (lv' := [(4, .int (nI (2 ^ nm))), (2, .long 0), (0, .ref t0), (1, .ref a5)]) hx hb dX8_bestBySets_8 hl (by decide) rfl (fun ls hl => ?_)
  refine lv_iconst (v := nI 0) hx hb dX8_bestBySets_10 (by decide) ?_
  refine lv_istore (lv' := [(5, .int (nI 0)), (4, .int (nI (2 ^ nm))), (2, .long 0), (0, .ref t0), (1, .ref a5)]) hx hb dX8_bestBySets_11 hl (by decide) rfl (fun ls hl => ?_)
  refine W_loopH (σ := Nat × Int64) (fun z_ => 2 ^ nm - z_.1) (fun z_ H locs g => ∃ ls, g = F0 m 13 ls [] ∧ lv_has ls 6 [(5, .int (nI z_.1)), (4, .int (nI (2 ^ nm))), (2, .long z_.2), (1, .ref a5), (0, .ref t0)] ∧ CxB D [(t0, .inr (11, [.ref t1, .ref t2, .ref t3, .ref t4, .ref t5, .ref t6])), (t1, .inl (aT 0, 12, .inl r1)), (t2, .inl (aT 0, 12, .inl r2)), (t3, .inl (aT 0, 12, .inl r3)), (t4, .inl (aT 0, 12, .inl r4)), (t5, .inl (aT 2, 12, .inr (.inl r5))), (t6, .inl (aT 2, 12, .inr (.inl r6))), (a5, .inr (8, [.ref a6, .ref a7, .ref a8, .ref a9, .int (nI nm), .int nx])), (a6, .inl (aT 0, 12, .inl fI)), (a7, .inl (aT 0, 12, .inl fN)), (a8, .inl (aT 0, 12, .inl fW)), (a9, .inl (aT 0, 12, .inl fP))] A s.heap H locs ∧ z_.1 ≤ 2 ^ nm ∧ BsI pr fW nm z_.1 z_.2) ?_ (0, 0) _ ⟨_, rfl, lv_sub hl [0, 1, 2, 4, 3] rfl, hW, ⟨Nat.zero_le _, BsI.init⟩⟩
  clear hW hl
  rintro ⟨i, z⟩ H locs g ⟨ls, rfl, hl, hW, ⟨hi, hg9⟩⟩ ih_13
  dsimp only at hl hW hi hg9 ⊢
  refine lv_iload hx hb dX8_bestBySets_13 (lv_at hl 0 rfl) ?_
  refine lv_iload hx hb dX8_bestBySets_15 (lv_at hl 1 rfl) ?_
  refine r_geN hx hb (a := i) (b := 2 ^ nm) (by have h1 := hO.1; have := two_le hO.1; omega) (by have h1 := hO.1; have := two_le hO.1; omega) (tgt := 46) dX8_bestBySets_17 (by decide) (fun c_17 => ?_) (fun c_17 => ?_)
  · refine lv_lload_n hx hb dX8_bestBySets_46 rfl (lv_at hl 2 rfl) ?_
    exact cx_lret C hr hlocks hW ⟨Nat.le_of_ble_eq_true rfl, Nat.le_of_ble_eq_true rfl⟩ (⟨hg9.fin hO.2.2.2.1 (by omega), rfl⟩) dX8_bestBySets_47
  · refine lv_aload_n hx hb dX8_bestBySets_20 rfl (lv_at hl 3 rfl) ?_
    refine lv_iload hx hb dX8_bestBySets_21 (lv_at hl 0 rfl) ?_
    refine cx_calli (Wr := [(t0, .inr (11, [.ref t1, .ref t2, .ref t3, .ref t4, .ref t5, .ref t6])), (t1, .inl (aT 0, 12, .inl r1)), (t2, .inl (aT 0, 12, .inl r2)), (t3, .inl (aT 0, 12, .inl r3)), (t4, .inl (aT 0, 12, .inl r4)), (t5, .inl (aT 2, 12, .inr (.inl r5))), (t6, .inl (aT 2, 12, .inr (.inl r6)))]) (cx_runS C hml hl.1 hZ hW hA (As := [.ref a5, .int (nI i)]) (rest := []) (k_X8_isGood l hfl D aT a5 a6 a7 a8 a9 fI fN fW fP nm nx idn pr tn hO (nI i)) gS_X8_X8_isGood_77 hS_X8_isGood rfl ⟨Nat.le_of_ble_eq_true rfl, Nat.le_of_ble_eq_true rfl⟩ ⟨Nat.le_of_ble_eq_true rfl, Nat.le_of_ble_eq_true rfl⟩ [7, 8, 9, 10, 11] rfl (by decide) rfl (Nat.le_of_ble_eq_true rfl) dX8_bestBySets_23) hW hA [7, 8, 9, 10, 11] [0, 1, 2, 3, 4, 5, 6] rfl rfl (by decide) (by decide) (fun _ _ _ _ _ _ h9 => h9.elim) (fun r_23 W_23 H locs hq hW => ?_)
    obtain ⟨⟨b_23, rfl, hb_23⟩, rfl⟩ := hq
    refine r_bI_eq hx hb (b := b_23) (tgt := 40) dX8_bestBySets_26 (by decide) (fun c_26 => ?_) (fun c_26 => ?_)
    · refine lv_iinc (v := (nI (i + 1))) (lv' := [(5, .int (nI (i + 1))), (4, .int (nI (2 ^ nm))), (2, .long z), (1, .ref a5), (0, .ref t0)]) hx hb dX8_bestBySets_40 hl (k := 0) rfl (nI_1 _) (by decide) rfl (fun ls hl => ?_)
      refine lv_goto (tgt := 13) hx hb dX8_bestBySets_43 (by decide) ?_
      exact ih_13 ((i + 1), z) _ _ _ (by first | omega | (dsimp only; omega)) ⟨_, rfl, lv_sub hl [0, 1, 2, 3, 4] rfl, hW, ⟨by dsimp only; omega, hg9.no (fun z9 => by rw [hb_23.mpr ((go_iff hO.2.2.2.1 hO.1).mpr z9)] at c_26; cases c_26)⟩⟩
    · refine lv_lload_n hx hb dX8_bestBySets_29 rfl (lv_at hl 2 rfl) ?_
      refine lv_aload_n hx hb dX8_bestBySets_30 rfl (lv_at hl 3 rfl) ?_
      refine lv_iload hx hb dX8_bestBySets_31 (lv_at hl 0 rfl) ?_
      refine cx_calll (Wr := [(t0, .inr (11, [.ref t1, .ref t2, .ref t3, .ref t4, .ref t5, .ref t6])), (t1, .inl (aT 0, 12, .inl r1)), (t2, .inl (aT 0, 12, .inl r2)), (t3, .inl (aT 0, 12, .inl r3)), (t4, .inl (aT 0, 12, .inl r4)), (t5, .inl (aT 2, 12, .inr (.inl r5))), (t6, .inl (aT 2, 12, .inr (.inl r6)))]) (cx_runS C hml hl.1 hZ hW hA (As := [.ref a5, .int (nI i)]) (rest := [.long z]) (k_X8_worthOf l hfl D aT a5 a6 a7 a8 a9 fI fN fW fP nm nx idn pr tn hO (nI i)) gS_X8_X8_worthOf_81 hS_X8_worthOf rfl ⟨Nat.le_of_ble_eq_true rfl, Nat.le_of_ble_eq_true rfl⟩ ⟨Nat.le_of_ble_eq_true rfl, Nat.le_of_ble_eq_true rfl⟩ [7, 8, 9, 10, 11] rfl (by decide) rfl (Nat.le_of_ble_eq_true rfl) dX8_bestBySets_33) hW hA [7, 8, 9, 10, 11] [0, 1, 2, 3, 4, 5, 6] rfl rfl (by decide) (by decide) (fun _ _ _ _ _ _ h9 => h9.elim) (fun r_33 W_33 H locs hq hW => ?_)
      obtain ⟨hr_33, rfl⟩ := hq
      refine va_mmax_long hx hb (hml.trans hl.1.symm) C.2.2.2.1 (C.2.2.1 _ gw_442) (C.2.2.1 _ gw_443) (C.2.2.1 _ gw_89) (C.2.2.1 _ gm_maxl) (Nat.le_of_ble_eq_true rfl) (Nat.le_of_ble_eq_true rfl) (Nat.le_of_ble_eq_true rfl) (Nat.le_of_ble_eq_true rfl) dX8_bestBySets_36 ?_
      refine lv_lstore_n (lv' := [(2, .long (if r_33 < z then z else r_33)), (5, .int (nI i)), (4, .int (nI (2 ^ nm))), (1, .ref a5), (0, .ref t0)]) hx hb dX8_bestBySets_39 rfl hl (by decide) rfl (fun ls hl => ?_)
      refine lv_iinc (v := (nI (i + 1))) (lv' := [(5, .int (nI (i + 1))), (2, .long (if r_33 < z then z else r_33)), (4, .int (nI (2 ^ nm))), (1, .ref a5), (0, .ref t0)]) hx hb dX8_bestBySets_40 hl (k := 1) rfl (nI_1 _) (by decide) rfl (fun ls hl => ?_)
      refine lv_goto (tgt := 13) hx hb dX8_bestBySets_43 (by decide) ?_
      exact ih_13 ((i + 1), (if r_33 < z then z else r_33)) _ _ _ (by first | omega | (dsimp only; omega)) ⟨_, rfl, lv_sub hl [0, 2, 1, 3, 4] rfl, hW, ⟨by dsimp only; omega, hg9.yes ((go_iff hO.2.2.2.1 hO.1).mp (hb_23.mp c_26)) (hr_33.1.trans (wsT_s nm hO.1))⟩⟩
theorem dX8_agreeOnPaths_0 : decode cX8_agreeOnPaths 0 = .ok (.iconst 0, 1) := by decide +kernel
theorem dX8_agreeOnPaths_1 : decode cX8_agreeOnPaths 1 = .ok (.istore_n 2, 1) := by decide +kernel
theorem dX8_agreeOnPaths_2 : decode cX8_agreeOnPaths 2 = .ok (.iload_n 2, 1) := by decide +kernel
theorem dX8_agreeOnPaths_3 : decode cX8_agreeOnPaths 3 = .ok (.aload_n 1, 1) := by decide +kernel
theorem dX8_agreeOnPaths_4 : decode cX8_agreeOnPaths 4 = .ok (.getfield 50, 3) := by decide +kernel
theorem dX8_agreeOnPaths_7 : decode cX8_agreeOnPaths 7 = .ok (.if_icmp .ge 26, 3) := by decide +kernel
theorem dX8_agreeOnPaths_10 : decode cX8_agreeOnPaths 10 = .ok (.aload_n 0, 1) := by decide +kernel
theorem dX8_agreeOnPaths_11 : decode cX8_agreeOnPaths 11 = .ok (.aload_n 1, 1) := by decide +kernel
theorem dX8_agreeOnPaths_12 : decode cX8_agreeOnPaths 12 = .ok (.iload_n 2, 1) := by decide +kernel
theorem dX8_agreeOnPaths_13 : decode cX8_agreeOnPaths 13 = .ok (.invokevirtual 85, 3) := by decide +kernel
theorem dX8_agreeOnPaths_16 : decode cX8_agreeOnPaths 16 = .ok (.aload_n 0, 1) := by decide +kernel
theorem dX8_agreeOnPaths_17 : decode cX8_agreeOnPaths 17 = .ok (.aload_n 1, 1) := by decide +kernel
theorem dX8_agreeOnPaths_18 : decode cX8_agreeOnPaths 18 = .ok (.iload_n 2, 1) := by decide +kernel
theorem dX8_agreeOnPaths_19 : decode cX8_agreeOnPaths 19 = .ok (.invokevirtual 89, 3) := by decide +kernel
theorem dX8_agreeOnPaths_22 : decode cX8_agreeOnPaths 22 = .ok (.if_icmp .eq 5, 3) := by decide +kernel
theorem dX8_agreeOnPaths_25 : decode cX8_agreeOnPaths 25 = .ok (.iconst 0, 1) := by decide +kernel
theorem dX8_agreeOnPaths_26 : decode cX8_agreeOnPaths 26 = .ok (.ireturn, 1) := by decide +kernel
theorem dX8_agreeOnPaths_27 : decode cX8_agreeOnPaths 27 = .ok (.iinc 2 1, 3) := by decide +kernel
theorem dX8_agreeOnPaths_30 : decode cX8_agreeOnPaths 30 = .ok (.goto (-28), 3) := by decide +kernel
theorem dX8_agreeOnPaths_33 : decode cX8_agreeOnPaths 33 = .ok (.iconst 1, 1) := by decide +kernel
theorem dX8_agreeOnPaths_34 : decode cX8_agreeOnPaths 34 = .ok (.ireturn, 1) := by decide +kernel
theorem gV_X8_X8_longestByHeights_85 : GoodIn gw (wsV RX8 85 RX8 yX8_longestByHeights (Cond.code yX8_longestByHeights cX8_longestByHeights 7 (some .int) :: gw)) := gdV gw_499 gw_500 gw_501 gw_72 gw_502
theorem hV_X8_longestByHeights : yX8_longestByHeights.cls = RX8 ∧ yX8_longestByHeights.cls ≠ "java/lang/invoke/MethodHandle" ∧ yX8_longestByHeights.cls ≠ "java/lang/invoke/VarHandle" ∧ (parseMethodDescriptor yX8_longestByHeights.desc).map (fun d => d.parameters.length) = some 2 := ⟨rfl, by decide +kernel, by decide +kernel, by decide +kernel⟩
theorem gV_X8_X8_longestBySweeps_89 : GoodIn gw (wsV RX8 89 RX8 yX8_longestBySweeps (Cond.code yX8_longestBySweeps cX8_longestBySweeps 5 (some .int) :: gw)) := gdV gw_511 gw_512 gw_513 gw_72 gw_514
theorem hV_X8_longestBySweeps : yX8_longestBySweeps.cls = RX8 ∧ yX8_longestBySweeps.cls ≠ "java/lang/invoke/MethodHandle" ∧ yX8_longestBySweeps.cls ≠ "java/lang/invoke/VarHandle" ∧ (parseMethodDescriptor yX8_longestBySweeps.desc).map (fun d => d.parameters.length) = some 2 := ⟨rfl, by decide +kernel, by decide +kernel, by decide +kernel⟩
set_option maxHeartbeats 2000000 in
set_option maxRecDepth 20000 in
theorem k_X8_agreeOnPaths (l : Launch) (hfl : l.stackTraces = false) (D : va_G) (aT : Nat → ClassId) (t0 : Nat) (t1 : Nat) (t2 : Nat) (t3 : Nat) (t4 : Nat) (t5 : Nat) (t6 : Nat) (r1 : Nat → Int32) (r2 : Nat → Int32) (r3 : Nat → Int32) (r4 : Nat → Int32) (r5 : Nat → Int64) (r6 : Nat → Int64) (a5 : Nat) (a6 : Nat) (a7 : Nat) (a8 : Nat) (a9 : Nat) (fI : Nat → Int32) (fN : Nat → Int32) (fW : Nat → Int32) (fP : Nat → Int32) (nm : Nat) (nx : Int32) (idn : Nat → Nat) (pr : Nat → Option Nat) (tn : Nat → Nat) (hO : MoC fI fN fP nm idn pr tn) : CxG l yX8_agreeOnPaths cX8_agreeOnPaths 3 (some (.boolean)) 3 0 0 74 D aT [.ref t0, .ref a5] [(t0, .inr (11, [.ref t1, .ref t2, .ref t3, .ref t4, .ref t5, .ref t6])), (t1, .inl (aT 0, 12, .inl r1)), (t2, .inl (aT 0, 12, .inl r2)), (t3, .inl (aT 0, 12, .inl r3)), (t4, .inl (aT 0, 12, .inl r4)), (t5, .inl (aT 2, 12, .inr (.inl r5))), (t6, .inl (aT 2, 12, .inr (.inl r6))), (a5, .inr (8, [.ref a6, .ref a7, .ref a8, .ref a9, .int (nI nm), .int nx])), (a6, .inl (aT 0, 12, .inl fI)), (a7, .inl (aT 0, 12, .inl fN)), (a8, .inl (aT 0, 12, .inl fW)), (a9, .inl (aT 0, 12, .inl fP))] (qI D aT (fun r W1 => r = bI true ∧ ∃ g3 g4 : Nat → Int32, W1 = ([(t0, .inr (11, [.ref t1, .ref t2, .ref t3, .ref t4, .ref t5, .ref t6])), (t1, .inl (aT 0, 12, .inl r1)), (t2, .inl (aT 0, 12, .inl r2)), (t3, .inl (aT 0, 12, .inl g3)), (t4, .inl (aT 0, 12, .inl g4)), (t5, .inl (aT 2, 12, .inr (.inl r5))), (t6, .inl (aT 2, 12, .inr (.inl r6))), (a5, .inr (8, [.ref a6, .ref a7, .ref a8, .ref a9, .int (nI nm), .int nx])), (a6, .inl (aT 0, 12, .inl fI)), (a7, .inl (aT 0, 12, .inl fN)), (a8, .inl (aT 0, 12, .inl fW)), (a9, .inl (aT 0, 12, .inl fP))] : va_W))) (fun _ _ => False) := by
  refine CxG.of RX8 (by decide +kernel) rfl (Nat.le_of_ble_eq_true rfl) ?_
  intro p e s m below meth c A ls C hml hl hA hr hlocks hex hnm hZ hW
  have hl : lv_has ls 3 [(0, .ref t0), (1, .ref a5)] := hl
  have hx := C.1
  have hb := C.2.1
  refine lv_iconst (v := nI 0) hx hb dX8_agreeOnPaths_0 (by decide) ?_
  refine lv_istore_n (lv' := [(2, .int (nI 0)), (0, .ref t0), (1, .ref a5)]) hx hb dX8_agreeOnPaths_1 rfl hl (by decide) rfl (fun ls hl => ?_)
  refine W_loopH (σ := Nat × (Nat → Int32) × (Nat → Int32)) (fun z_ => nm - z_.1) (fun z_ H locs g => ∃ ls, g = F0 m 2 ls [] ∧ lv_has ls 3 [(2, .int (nI z_.1)), (1, .ref a5), (0, .ref t0)] ∧ CxB D [(t0, .inr (11, [.ref t1, .ref t2, .ref t3, .ref t4, .ref t5, .ref t6])), (t1, .inl (aT 0, 12, .inl r1)), (t2, .inl (aT 0, 12, .inl r2)), (t3, .inl (aT 0, 12, .inl z_.2.1)), (t4, .inl (aT 0, 12, .inl z_.2.2)), (t5, .inl (aT 2, 12, .inr (.inl r5))), (t6, .inl (aT 2, 12, .inr (.inl r6))), (a5, .inr (8, [.ref a6, .ref a7, .ref a8, .ref a9, .int (nI nm), .int nx])), (a6, .inl (aT 0, 12, .inl fI)), (a7, .inl (aT 0, 12, .inl fN)), (a8, .inl (aT 0, 12, .inl fW)), (a9, .inl (aT 0, 12, .inl fP))] A s.heap H locs ∧ z_.1 ≤ nm) ?_ (0, r3, r4) _ ⟨_, rfl, lv_sub hl [0, 2, 1] rfl, hW, Nat.zero_le _⟩
  clear hW hl
  rintro ⟨i, f, q⟩ H locs g ⟨ls, rfl, hl, hW, hi⟩ ih_2
  dsimp only at hl hW hi ⊢
  refine lv_iload_n hx hb dX8_agreeOnPaths_2 rfl (lv_at hl 0 rfl) ?_
  refine lv_aload_n hx hb dX8_agreeOnPaths_3 rfl (lv_at hl 1 rfl) ?_
  refine cx_getN C hZ hW 7 4 rfl rfl (by decide) inX5 nw_162 rfl rfl dX8_agreeOnPaths_4 ?_
  refine r_geN hx hb (a := i) (b := nm) (by have h1 := hO.1; omega) (by have h1 := hO.1; omega) (tgt := 33) dX8_agreeOnPaths_7 (by decide) (fun c_7 => ?_) (fun c_7 => ?_)
  · refine lv_iconst (v := nI 1) hx hb dX8_agreeOnPaths_33 (by decide) ?_
    exact cx_iret C hr hlocks (by decide) hW ⟨Nat.le_of_ble_eq_true rfl, Nat.le_of_ble_eq_true rfl⟩ (⟨rfl, _, _, rfl⟩) dX8_agreeOnPaths_34
  · refine lv_aload_n hx hb dX8_agreeOnPaths_10 rfl (lv_at hl 2 rfl) ?_
    refine lv_aload_n hx hb dX8_agreeOnPaths_11 rfl (lv_at hl 1 rfl) ?_
    refine lv_iload_n hx hb dX8_agreeOnPaths_12 rfl (lv_at hl 0 rfl) ?_
    refine cx_calli (Wr := []) (cx_runV C hml hl.1 hZ hW hA (As := [.ref a5, .int (nI i)]) (rest := []) (k_X8_longestByHeights l hfl D aT t0 t1 t2 t3 t4 t5 t6 r1 r2 f q r5 r6 a5 a6 a7 a8 a9 fI fN fW fP nm nx idn pr tn hO i (show i < nm by omega)) gV_X8_X8_longestByHeights_85 hV_X8_longestByHeights rfl ⟨Nat.le_of_ble_eq_true rfl, Nat.le_of_ble_eq_true rfl⟩ ⟨Nat.le_of_ble_eq_true rfl, Nat.le_of_ble_eq_true rfl⟩ [0, 1, 2, 3, 4, 5, 6, 7, 8, 9, 10, 11] rfl (by decide) 0 11 rfl rfl rfl rfl (Nat.le_of_ble_eq_true rfl) dX8_agreeOnPaths_13) hW hA [0, 1, 2, 3, 4, 5, 6, 7, 8, 9, 10, 11] [] rfl rfl (by decide) (by decide) (fun _ _ _ _ _ _ h9 => h9.elim) (fun r_13 W_13 H locs hq hW => ?_)
    obtain ⟨rfl, q3_13, rfl⟩ := hq
    refine lv_aload_n hx hb dX8_agreeOnPaths_16 rfl (lv_at hl 2 rfl) ?_
    refine lv_aload_n hx hb dX8_agreeOnPaths_17 rfl (lv_at hl 1 rfl) ?_
    refine lv_iload_n hx hb dX8_agreeOnPaths_18 rfl (lv_at hl 0 rfl) ?_
    refine cx_calli (Wr := []) (cx_runV C hml hl.1 hZ hW hA (As := [.ref a5, .int (nI i)]) (rest := [.int (nI (lpO pr nm i nm + 1))]) (k_X8_longestBySweeps l hfl D aT t0 t1 t2 t3 t4 t5 t6 r1 r2 q3_13 q r5 r6 a5 a6 a7 a8 a9 fI fN fW fP nm nx idn pr tn hO i (show i < nm by omega)) gV_X8_X8_longestBySweeps_89 hV_X8_longestBySweeps rfl ⟨Nat.le_of_ble_eq_true rfl, Nat.le_of_ble_eq_true rfl⟩ ⟨Nat.le_of_ble_eq_true rfl, Nat.le_of_ble_eq_true rfl⟩ [0, 1, 2, 3, 4, 5, 6, 7, 8, 9, 10, 11] rfl (by decide) 0 11 rfl rfl rfl rfl (Nat.le_of_ble_eq_true rfl) dX8_agreeOnPaths_19) hW hA [0, 1, 2, 3, 4, 5, 6, 7, 8, 9, 10, 11] [] rfl rfl (by decide) (by decide) (fun _ _ _ _ _ _ h9 => h9.elim) (fun r_19 W_19 H locs hq hW => ?_)
    obtain ⟨rfl, q4_19, rfl⟩ := hq
    refine lv_icmp_eq hx hb (x := (nI (lpO pr nm i nm + 1))) (y := (nI (lpO pr nm i nm + 1))) (tgt := 27) dX8_agreeOnPaths_22 (by decide) (fun c_22 => ?_) (fun c_22 => ?_)
    · refine lv_iinc (v := (nI (i + 1))) (lv' := [(2, .int (nI (i + 1))), (1, .ref a5), (0, .ref t0)]) hx hb dX8_agreeOnPaths_27 hl (k := 0) rfl (nI_1 _) (by decide) rfl (fun ls hl => ?_)
      refine lv_goto (tgt := 2) hx hb dX8_agreeOnPaths_30 (by decide) ?_
      exact ih_2 ((i + 1), q3_13, q4_19) _ _ _ (by first | omega | (dsimp only; omega)) ⟨_, rfl, lv_sub hl [0, 1, 2] rfl, hW, (by dsimp only; omega)⟩
    · exact absurd rfl c_22
theorem dX8_agreeOnCommonMotions_0 : decode cX8_agreeOnCommonMotions 0 = .ok (.iconst 0, 1) := by decide +kernel
theorem dX8_agreeOnCommonMotions_1 : decode cX8_agreeOnCommonMotions 1 = .ok (.istore_n 2, 1) := by decide +kernel
theorem dX8_agreeOnCommonMotions_2 : decode cX8_agreeOnCommonMotions 2 = .ok (.iload_n 2, 1) := by decide +kernel
theorem dX8_agreeOnCommonMotions_3 : decode cX8_agreeOnCommonMotions 3 = .ok (.aload_n 1, 1) := by decide +kernel
theorem dX8_agreeOnCommonMotions_4 : decode cX8_agreeOnCommonMotions 4 = .ok (.getfield 50, 3) := by decide +kernel
theorem dX8_agreeOnCommonMotions_7 : decode cX8_agreeOnCommonMotions 7 = .ok (.if_icmp .ge 44, 3) := by decide +kernel
theorem dX8_agreeOnCommonMotions_10 : decode cX8_agreeOnCommonMotions 10 = .ok (.iconst 0, 1) := by decide +kernel
theorem dX8_agreeOnCommonMotions_11 : decode cX8_agreeOnCommonMotions 11 = .ok (.istore_n 3, 1) := by decide +kernel
theorem dX8_agreeOnCommonMotions_12 : decode cX8_agreeOnCommonMotions 12 = .ok (.iload_n 3, 1) := by decide +kernel
theorem dX8_agreeOnCommonMotions_13 : decode cX8_agreeOnCommonMotions 13 = .ok (.aload_n 1, 1) := by decide +kernel
theorem dX8_agreeOnCommonMotions_14 : decode cX8_agreeOnCommonMotions 14 = .ok (.getfield 50, 3) := by decide +kernel
theorem dX8_agreeOnCommonMotions_17 : decode cX8_agreeOnCommonMotions 17 = .ok (.if_icmp .ge 28, 3) := by decide +kernel
theorem dX8_agreeOnCommonMotions_20 : decode cX8_agreeOnCommonMotions 20 = .ok (.aload_n 0, 1) := by decide +kernel
theorem dX8_agreeOnCommonMotions_21 : decode cX8_agreeOnCommonMotions 21 = .ok (.aload_n 1, 1) := by decide +kernel
theorem dX8_agreeOnCommonMotions_22 : decode cX8_agreeOnCommonMotions 22 = .ok (.iload_n 2, 1) := by decide +kernel
theorem dX8_agreeOnCommonMotions_23 : decode cX8_agreeOnCommonMotions 23 = .ok (.iload_n 3, 1) := by decide +kernel
theorem dX8_agreeOnCommonMotions_24 : decode cX8_agreeOnCommonMotions 24 = .ok (.invokevirtual 92, 3) := by decide +kernel
theorem dX8_agreeOnCommonMotions_27 : decode cX8_agreeOnCommonMotions 27 = .ok (.aload_n 0, 1) := by decide +kernel
theorem dX8_agreeOnCommonMotions_28 : decode cX8_agreeOnCommonMotions 28 = .ok (.aload_n 1, 1) := by decide +kernel
theorem dX8_agreeOnCommonMotions_29 : decode cX8_agreeOnCommonMotions 29 = .ok (.iload_n 2, 1) := by decide +kernel
theorem dX8_agreeOnCommonMotions_30 : decode cX8_agreeOnCommonMotions 30 = .ok (.iload_n 3, 1) := by decide +kernel
theorem dX8_agreeOnCommonMotions_31 : decode cX8_agreeOnCommonMotions 31 = .ok (.invokevirtual 95, 3) := by decide +kernel
theorem dX8_agreeOnCommonMotions_34 : decode cX8_agreeOnCommonMotions 34 = .ok (.if_icmp .eq 5, 3) := by decide +kernel
theorem dX8_agreeOnCommonMotions_37 : decode cX8_agreeOnCommonMotions 37 = .ok (.iconst 0, 1) := by decide +kernel
theorem dX8_agreeOnCommonMotions_38 : decode cX8_agreeOnCommonMotions 38 = .ok (.ireturn, 1) := by decide +kernel
theorem dX8_agreeOnCommonMotions_39 : decode cX8_agreeOnCommonMotions 39 = .ok (.iinc 3 1, 3) := by decide +kernel
theorem dX8_agreeOnCommonMotions_42 : decode cX8_agreeOnCommonMotions 42 = .ok (.goto (-30), 3) := by decide +kernel
theorem dX8_agreeOnCommonMotions_45 : decode cX8_agreeOnCommonMotions 45 = .ok (.iinc 2 1, 3) := by decide +kernel
theorem dX8_agreeOnCommonMotions_48 : decode cX8_agreeOnCommonMotions 48 = .ok (.goto (-46), 3) := by decide +kernel
theorem dX8_agreeOnCommonMotions_51 : decode cX8_agreeOnCommonMotions 51 = .ok (.iconst 1, 1) := by decide +kernel
theorem dX8_agreeOnCommonMotions_52 : decode cX8_agreeOnCommonMotions 52 = .ok (.ireturn, 1) := by decide +kernel
theorem gV_X8_X8_commonByClimbing_92 : GoodIn gw (wsV RX8 92 RX8 yX8_commonByClimbing (Cond.code yX8_commonByClimbing cX8_commonByClimbing 9 (some .int) :: gw)) := gdV gw_523 gw_524 gw_525 gw_72 gw_526
theorem hV_X8_commonByClimbing : yX8_commonByClimbing.cls = RX8 ∧ yX8_commonByClimbing.cls ≠ "java/lang/invoke/MethodHandle" ∧ yX8_commonByClimbing.cls ≠ "java/lang/invoke/VarHandle" ∧ (parseMethodDescriptor yX8_commonByClimbing.desc).map (fun d => d.parameters.length) = some 3 := ⟨rfl, by decide +kernel, by decide +kernel, by decide +kernel⟩
theorem gV_X8_X8_commonByRows_95 : GoodIn gw (wsV RX8 95 RX8 yX8_commonByRows (Cond.code yX8_commonByRows cX8_commonByRows 8 (some .int) :: gw)) := gdV gw_531 gw_532 gw_533 gw_72 gw_534
theorem hV_X8_commonByRows : yX8_commonByRows.cls = RX8 ∧ yX8_commonByRows.cls ≠ "java/lang/invoke/MethodHandle" ∧ yX8_commonByRows.cls ≠ "java/lang/invoke/VarHandle" ∧ (parseMethodDescriptor yX8_commonByRows.desc).map (fun d => d.parameters.length) = some 3 := ⟨rfl, by decide +kernel, by decide +kernel, by decide +kernel⟩
set_option maxHeartbeats 2000000 in
set_option maxRecDepth 20000 in
theorem k_X8_agreeOnCommonMotions (l : Launch) (hfl : l.stackTraces = false) (D : va_G) (aT : Nat → ClassId) (t0 : Nat) (t1 : Nat) (t2 : Nat) (t3 : Nat) (t4 : Nat) (t5 : Nat) (t6 : Nat) (r1 : Nat → Int32) (r2 : Nat → Int32) (r3 : Nat → Int32) (r4 : Nat → Int32) (r5 : Nat → Int64) (r6 : Nat → Int64) (a5 : Nat) (a6 : Nat) (a7 : Nat) (a8 : Nat) (a9 : Nat) (fI : Nat → Int32) (fN : Nat → Int32) (fW : Nat → Int32) (fP : Nat → Int32) (nm : Nat) (nx : Int32) (idn : Nat → Nat) (pr : Nat → Option Nat) (tn : Nat → Nat) (hO : MoC fI fN fP nm idn pr tn) : CxG l yX8_agreeOnCommonMotions cX8_agreeOnCommonMotions 4 (some (.boolean)) 3 0 0 75 D aT [.ref t0, .ref a5] [(t0, .inr (11, [.ref t1, .ref t2, .ref t3, .ref t4, .ref t5, .ref t6])), (t1, .inl (aT 0, 12, .inl r1)), (t2, .inl (aT 0, 12, .inl r2)), (t3, .inl (aT 0, 12, .inl r3)), (t4, .inl (aT 0, 12, .inl r4)), (t5, .inl (aT 2, 12, .inr (.inl r5))), (t6, .inl (aT 2, 12, .inr (.inl r6))), (a5, .inr (8, [.ref a6, .ref a7, .ref a8, .ref a9, .int (nI nm), .int nx])), (a6, .inl (aT 0, 12, .inl fI)), (a7, .inl (aT 0, 12, .inl fN)), (a8, .inl (aT 0, 12, .inl fW)), (a9, .inl (aT 0, 12, .inl fP))] (qI D aT (fun r W1 => r = bI true ∧ ∃ g1 g2 : Nat → Int32, W1 = ([(t0, .inr (11, [.ref t1, .ref t2, .ref t3, .ref t4, .ref t5, .ref t6])), (t1, .inl (aT 0, 12, .inl g1)), (t2, .inl (aT 0, 12, .inl g2)), (t3, .inl (aT 0, 12, .inl r3)), (t4, .inl (aT 0, 12, .inl r4)), (t5, .inl (aT 2, 12, .inr (.inl r5))), (t6, .inl (aT 2, 12, .inr (.inl r6))), (a5, .inr (8, [.ref a6, .ref a7, .ref a8, .ref a9, .int (nI nm), .int nx])), (a6, .inl (aT 0, 12, .inl fI)), (a7, .inl (aT 0, 12, .inl fN)), (a8, .inl (aT 0, 12, .inl fW)), (a9, .inl (aT 0, 12, .inl fP))] : va_W))) (fun _ _ => False) := by
  refine CxG.of RX8 (by decide +kernel) rfl (Nat.le_of_ble_eq_true rfl) ?_
  intro p e s m below meth c A ls C hml hl hA hr hlocks hex hnm hZ hW
  have hl : lv_has ls 4 [(0, .ref t0), (1, .ref a5)] := hl
  have hx := C.1
  have hb := C.2.1
  refine lv_iconst (v := nI 0) hx hb dX8_agreeOnCommonMotions_0 (by decide) ?_
  refine lv_istore_n (lv' := [(2, .int (nI 0)), (0, .ref t0), (1, .ref a5)]) hx hb dX8_agreeOnCommonMotions_1 rfl hl (by decide) rfl (fun ls hl => ?_)
  refine W_loopH (σ := Nat × (Nat → Int32) × (Nat → Int32)) (fun z_ => nm - z_.1) (fun z_ H locs g => ∃ ls, g = F0 m 2 ls [] ∧ lv_has ls 4 [(2, .int (nI z_.1)), (1, .ref a5), (0, .ref t0)] ∧ CxB D [(t0, .inr (11, [.ref t1, .ref t2, .ref t3, .ref t4, .ref t5, .ref t6])), (t1, .inl (aT 0, 12, .inl z_.2.1)), (t2, .inl (aT 0, 12, .inl z_.2.2)), (t3, .inl (aT 0, 12, .inl r3)), (t4, .inl (aT 0, 12, .inl r4)), (t5, .inl (aT 2, 12, .inr (.inl r5))), (t6, .inl (aT 2, 12, .inr (.inl r6))), (a5, .inr (8, [.ref a6, .ref a7, .ref a8, .ref a9, .int (nI nm), .int nx])), (a6, .inl (aT 0, 12, .inl fI)), (a7, .inl (aT 0, 12, .inl fN)), (a8, .inl (aT 0, 12, .inl fW)), (a9, .inl (aT 0, 12, .inl fP))] A s.heap H locs ∧ z_.1 ≤ nm) ?_ (0, r1, r2) _ ⟨_, rfl, lv_sub hl [0, 2, 1] rfl, hW, Nat.zero_le _⟩
  clear hW hl
  rintro ⟨i, f, q⟩ H locs g ⟨ls, rfl, hl, hW, hi⟩ ih_2
  dsimp only at hl hW hi ⊢
  refine lv_iload_n hx hb dX8_agreeOnCommonMotions_2 rfl (lv_at hl 0 rfl) ?_
  refine lv_aload_n hx hb dX8_agreeOnCommonMotions_3 rfl (lv_at hl 1 rfl) ?_
  refine cx_getN C hZ hW 7 4 rfl rfl (by decide) inX5 nw_162 rfl rfl dX8_agreeOnCommonMotions_4 ?_
  refine r_geN hx hb (a := i) (b := nm) (by have h1 := hO.1; omega) (by have h1 := hO.1; omega) (tgt := 51) dX8_agreeOnCommonMotions_7 (by decide) (fun c_7 => ?_) (fun c_7 => ?_)
  · refine lv_iconst (v := nI 1) hx hb dX8_agreeOnCommonMotions_51 (by decide) ?_
    exact cx_iret C hr hlocks (by decide) hW ⟨Nat.le_of_ble_eq_true rfl, Nat.le_of_ble_eq_true rfl⟩ (⟨rfl, _, _, rfl⟩) dX8_agreeOnCommonMotions_52
  · refine lv_iconst (v := nI 0) hx hb dX8_agreeOnCommonMotions_10 (by decide) ?_
    refine lv_istore_n (lv' := [(3, .int (nI 0)), (2, .int (nI i)), (1, .ref a5), (0, .ref t0)]) hx hb dX8_agreeOnCommonMotions_11 rfl hl (by decide) rfl (fun ls hl => ?_)
    refine W_loopH (σ := Nat × (Nat → Int32) × (Nat → Int32)) (fun z_ => nm - z_.1) (fun z_ H locs g => ∃ ls, g = F0 m 12 ls [] ∧ lv_has ls 4 [(3, .int (nI z_.1)), (2, .int (nI i)), (1, .ref a5), (0, .ref t0)] ∧ CxB D [(t0, .inr (11, [.ref t1, .ref t2, .ref t3, .ref t4, .ref t5, .ref t6])), (t1, .inl (aT 0, 12, .inl z_.2.1)), (t2, .inl (aT 0, 12, .inl z_.2.2)), (t3, .inl (aT 0, 12, .inl r3)), (t4, .inl (aT 0, 12, .inl r4)), (t5, .inl (aT 2, 12, .inr (.inl r5))), (t6, .inl (aT 2, 12, .inr (.inl r6))), (a5, .inr (8, [.ref a6, .ref a7, .ref a8, .ref a9, .int (nI nm), .int nx])), (a6, .inl (aT 0, 12, .inl fI)), (a7, .inl (aT 0, 12, .inl fN)), (a8, .inl (aT 0, 12, .inl fW)), (a9, .inl (aT 0, 12, .inl fP))] A s.heap H locs ∧ z_.1 ≤ nm) ?_ (0, f, q) _ ⟨_, rfl, lv_sub hl [0, 1, 2, 3] rfl, hW, Nat.zero_le _⟩
    clear hW hl
    rintro ⟨j, f, q⟩ H locs g ⟨ls, rfl, hl, hW, hj9⟩ ih_12
    dsimp only at hl hW hj9 ⊢
    refine lv_iload_n hx hb dX8_agreeOnCommonMotions_12 rfl (lv_at hl 0 rfl) ?_
    refine lv_aload_n hx hb dX8_agreeOnCommonMotions_13 rfl (lv_at hl 2 rfl) ?_
    refine cx_getN C hZ hW 7 4 rfl rfl (by decide) inX5 nw_162 rfl rfl dX8_agreeOnCommonMotions_14 ?_
    refine r_geN hx hb (a := j) (b := nm) (by have h1 := hO.1; omega) (by have h1 := hO.1; omega) (tgt := 45) dX8_agreeOnCommonMotions_17 (by decide) (fun c_17 => ?_) (fun c_17 => ?_)
    · refine lv_iinc (v := (nI (i + 1))) (lv' := [(2, .int (nI (i + 1))), (3, .int (nI j)), (1, .ref a5), (0, .ref t0)]) hx hb dX8_agreeOnCommonMotions_45 hl (k := 1) rfl (nI_1 _) (by decide) rfl (fun ls hl => ?_)
      refine lv_goto (tgt := 2) hx hb dX8_agreeOnCommonMotions_48 (by decide) ?_
      exact ih_2 ((i + 1), f, q) _ _ _ (by first | omega | (dsimp only; omega)) ⟨_, rfl, lv_sub hl [0, 2, 3] rfl, hW, (by dsimp only; omega)⟩
    · refine lv_aload_n hx hb dX8_agreeOnCommonMotions_20 rfl (lv_at hl 3 rfl) ?_
      refine lv_aload_n hx hb dX8_agreeOnCommonMotions_21 rfl (lv_at hl 2 rfl) ?_
      refine lv_iload_n hx hb dX8_agreeOnCommonMotions_22 rfl (lv_at hl 1 rfl) ?_
      refine lv_iload_n hx hb dX8_agreeOnCommonMotions_23 rfl (lv_at hl 0 rfl) ?_
      refine cx_calli (Wr := []) (cx_runV C hml hl.1 hZ hW hA (As := [.ref a5, .int (nI i), .int (nI j)]) (rest := []) (k_X8_commonByClimbing l hfl D aT t0 t1 t2 t3 t4 t5 t6 f q r3 r4 r5 r6 a5 a6 a7 a8 a9 fI fN fW fP nm nx idn pr tn hO i j (show i < nm by omega) (show j < nm by omega)) gV_X8_X8_commonByClimbing_92 hV_X8_commonByClimbing rfl ⟨Nat.le_of_ble_eq_true rfl, Nat.le_of_ble_eq_true rfl⟩ ⟨Nat.le_of_ble_eq_true rfl, Nat.le_of_ble_eq_true rfl⟩ [0, 1, 2, 3, 4, 5, 6, 7, 8, 9, 10, 11] rfl (by decide) 0 11 rfl rfl rfl rfl (Nat.le_of_ble_eq_true rfl) dX8_agreeOnCommonMotions_24) hW hA [0, 1, 2, 3, 4, 5, 6, 7, 8, 9, 10, 11] [] rfl rfl (by decide) (by decide) (fun _ _ _ _ _ _ h9 => h9.elim) (fun r_24 W_24 H locs hq hW => ?_)
      obtain ⟨rfl, rfl⟩ := hq
      refine lv_aload_n hx hb dX8_agreeOnCommonMotions_27 rfl (lv_at hl 3 rfl) ?_
      refine lv_aload_n hx hb dX8_agreeOnCommonMotions_28 rfl (lv_at hl 2 rfl) ?_
      refine lv_iload_n hx hb dX8_agreeOnCommonMotions_29 rfl (lv_at hl 1 rfl) ?_
      refine lv_iload_n hx hb dX8_agreeOnCommonMotions_30 rfl (lv_at hl 0 rfl) ?_
      refine cx_calli (Wr := []) (cx_runV C hml hl.1 hZ hW hA (As := [.ref a5, .int (nI i), .int (nI j)]) (rest := [.int (oi (cmF pr i j nm))]) (k_X8_commonByRows l hfl D aT t0 t1 t2 t3 t4 t5 t6 f q r3 r4 r5 r6 a5 a6 a7 a8 a9 fI fN fW fP nm nx idn pr tn hO i j (show i < nm by omega) (show j < nm by omega)) gV_X8_X8_commonByRows_95 hV_X8_commonByRows rfl ⟨Nat.le_of_ble_eq_true rfl, Nat.le_of_ble_eq_true rfl⟩ ⟨Nat.le_of_ble_eq_true rfl, Nat.le_of_ble_eq_true rfl⟩ [0, 1, 2, 3, 4, 5, 6, 7, 8, 9, 10, 11] rfl (by decide) 0 11 rfl rfl rfl rfl (Nat.le_of_ble_eq_true rfl) dX8_agreeOnCommonMotions_31) hW hA [0, 1, 2, 3, 4, 5, 6, 7, 8, 9, 10, 11] [] rfl rfl (by decide) (by decide) (fun _ _ _ _ _ _ h9 => h9.elim) (fun r_31 W_31 H locs hq hW => ?_)
      obtain ⟨rfl, q1_31, q2_31, rfl⟩ := hq
      refine lv_icmp_eq hx hb (x := (oi (cmF pr i j nm))) (y := (oi (cmF pr i j nm))) (tgt := 39) dX8_agreeOnCommonMotions_34 (by decide) (fun c_34 => ?_) (fun c_34 => ?_)
      · refine lv_iinc (v := (nI (j + 1))) (lv' := [(3, .int (nI (j + 1))), (2, .int (nI i)), (1, .ref a5), (0, .ref t0)]) hx hb dX8_agreeOnCommonMotions_39 hl (k := 0) rfl (nI_1 _) (by decide) rfl (fun ls hl => ?_)
        refine lv_goto (tgt := 12) hx hb dX8_agreeOnCommonMotions_42 (by decide) ?_
        exact ih_12 ((j + 1), q1_31, q2_31) _ _ _ (by first | omega | (dsimp only; omega)) ⟨_, rfl, lv_sub hl [0, 1, 2, 3] rfl, hW, (by dsimp only; omega)⟩
      · exact absurd rfl c_34
