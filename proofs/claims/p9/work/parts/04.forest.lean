/-- the first place before n where f is x -/
def fnd (f : Nat → Int32) (x : Int32) : Nat → Option Nat
  | 0 => none
  | n + 1 => match fnd f x n with
    | some k => some k
    | none => if f n = x then some n else none
theorem fnd_step {f : Nat → Int32} {x : Int32} {k : Nat} (h : fnd f x k = none) (h2 : ¬ f k = x) : fnd f x (k + 1) = none := by simp [fnd, h, h2]
theorem fnd_hit {f : Nat → Int32} {x : Int32} {k : Nat} (h : fnd f x k = none) (h2 : f k = x) : ∀ {n : Nat}, k < n → fnd f x n = some k := by
  intro n
  induction n with
  | zero => intro h3; exact absurd h3 (Nat.not_lt_zero _)
  | succ n ih =>
    intro h3
    rcases Nat.lt_or_ge k n with q | q
    · simp [fnd, ih q]
    · have e : n = k := by omega
      subst e
      simp [fnd, h, h2]
theorem fnd_some {f : Nat → Int32} {x : Int32} : ∀ {n k : Nat}, fnd f x n = some k → k < n ∧ f k = x ∧ ∀ j, j < k → f j ≠ x := by
  intro n
  induction n with
  | zero => intro k h; simp [fnd] at h
  | succ n ih =>
    intro k h
    unfold fnd at h
    cases hf : fnd f x n with
    | some j =>
      rw [hf] at h
      cases h
      obtain ⟨h1, h2, h3⟩ := ih hf
      exact ⟨by omega, h2, h3⟩
    | none =>
      rw [hf] at h
      dsimp only at h
      split at h
      · rename_i hq
        cases h
        refine ⟨by omega, hq, fun j hj hjx => ?_⟩
        have := fnd_hit (f := f) (x := x) (k := j)
        clear this
        have key : ∀ n j, j < n → f j = x → fnd f x n ≠ none := by
          intro n
          induction n with
          | zero => intro j hj; exact absurd hj (Nat.not_lt_zero _)
          | succ n ih2 =>
            intro j hj hx
            unfold fnd
            cases hg : fnd f x n with
            | some i => simp
            | none =>
              rcases Nat.lt_or_ge j n with q | q
              · exact absurd hg (ih2 j q hx)
              · have e : j = n := by omega
                subst e
                simp [hx]
        exact key _ j hj hjx hf
      · cases h
theorem fnd_none {f : Nat → Int32} {x : Int32} : ∀ {n : Nat}, fnd f x n = none → ∀ j, j < n → f j ≠ x := by
  intro n
  induction n with
  | zero => intro _ j hj; exact absurd hj (Nat.not_lt_zero _)
  | succ n ih =>
    intro h j hj hx
    unfold fnd at h
    cases hf : fnd f x n with
    | some i => rw [hf] at h; cases h
    | none =>
      rw [hf] at h
      rcases Nat.lt_or_ge j n with q | q
      · exact ih hf j q hx
      · have e : j = n := by omega
        subst e
        simp [hx] at h
/-- the forest that the reference's row holds: n motions, their ids, parents (by place), tones -/
def FoR (m : Nat → Int32) (n : Nat) (idn : Nat → Nat) (pr : Nat → Option Nat) (tn : Nat → Nat) : Prop :=
  m 2 = nI n ∧ n ≤ 12 ∧ (∀ k, k < n → m (29 + 4 * k) = nI (idn k) ∧ idn k < 1048576) ∧ (∀ k, k < n → m (29 + 4 * k + 1) = oi ((pr k).map idn)) ∧ (∀ k j, k < n → pr k = some j → j < k) ∧ (∀ j k, j < k → k < n → idn j < idn k) ∧ ∀ k, k < n → m (29 + 4 * k + 2) = nI (tn k) ∧ tn k ≤ 9
theorem FoR.par {m : Nat → Int32} {n : Nat} {idn : Nat → Nat} {pr : Nat → Option Nat} {tn : Nat → Nat} (h : FoR m n idn pr tn) {k j : Nat} (hk : k < n) (hp : pr k = some j) : j < n := by
  have := h.2.2.2.2.1 k j hk hp
  omega
theorem FoR.find {m : Nat → Int32} {n : Nat} {idn : Nat → Nat} {pr : Nat → Option Nat} {tn : Nat → Nat} (h : FoR m n idn pr tn) {j : Nat} (hj : j < n) : fnd (fun k => m (29 + 4 * k)) (nI (idn j)) n = some j := by
  obtain ⟨-, -, h3, -, -, h6, -⟩ := h
  cases hf : fnd (fun k => m (29 + 4 * k)) (nI (idn j)) n with
  | none => exact absurd (h3 j hj).1 (fnd_none hf j hj)
  | some i =>
    obtain ⟨hi, he, -⟩ := fnd_some hf
    have e1 : nI (idn i) = nI (idn j) := by rw [← (h3 i hi).1]; exact he
    have e2 := (nI_eq (by have := (h3 i hi).2; omega) (by have := (h3 j hj).2; omega)).mp e1
    have : i = j := by
      rcases Nat.lt_or_ge i j with q | q
      · have := h6 i j q hj; omega
      · rcases Nat.lt_or_ge j i with q2 | q2
        · have := h6 j i q2 hi; omega
        · omega
    rw [this]
theorem FoR.findPar {m : Nat → Int32} {n : Nat} {idn : Nat → Nat} {pr : Nat → Option Nat} {tn : Nat → Nat} (h : FoR m n idn pr tn) {k i : Nat} (hk : k < n) (hp : (pr k).map idn = some i) : fnd (fun k => m (29 + 4 * k)) (oi ((pr k).map idn)) n = pr k := by
  cases hq : pr k with
  | none => rw [hq] at hp; cases hp
  | some j =>
    show fnd _ (nI (idn j)) n = some j
    exact h.find (h.par hk hq)
/-- how deep a motion lies -/
def dpf (pr : Nat → Option Nat) : Nat → Nat → Nat
  | 0, _ => 0
  | f + 1, k => match pr k with
    | none => 0
    | some j => dpf pr f j + 1
def dep (pr : Nat → Option Nat) (k : Nat) : Nat := dpf pr k k
def ParOk (pr : Nat → Option Nat) (n : Nat) : Prop := ∀ k j, k < n → pr k = some j → j < k
theorem FoR.ok {m : Nat → Int32} {n : Nat} {idn : Nat → Nat} {pr : Nat → Option Nat} {tn : Nat → Nat} (h : FoR m n idn pr tn) : ParOk pr n := h.2.2.2.2.1
theorem dpf_fuel {pr : Nat → Option Nat} {n : Nat} (h : ParOk pr n) : ∀ f k, k < n → k ≤ f → dpf pr f k = dpf pr k k := by
  intro f
  induction f using Nat.strongRecOn with
  | _ f ih =>
    intro k hk hf
    cases f with
    | zero => have : k = 0 := by omega
              subst this; rfl
    | succ f =>
      cases k with
      | zero =>
        unfold dpf
        cases hp : pr 0 with
        | none => rfl
        | some j => have := h 0 j hk hp; omega
      | succ k =>
        unfold dpf
        cases hp : pr (k + 1) with
        | none => rfl
        | some j =>
          have hj := h _ j hk hp
          dsimp only
          rw [ih f (by omega) j (by omega) (by omega)]
          rcases Nat.lt_or_ge k (f + 1) with q | q
          · rw [ih k q j (by omega) (by omega)]
          · omega
theorem dep_some {pr : Nat → Option Nat} {n k j : Nat} (h : ParOk pr n) (hk : k < n) (hp : pr k = some j) : dep pr k = dep pr j + 1 := by
  have hj := h k j hk hp
  cases k with
  | zero => omega
  | succ k =>
    unfold dep
    rw [show dpf pr (k + 1) (k + 1) = dpf pr k j + 1 by rw [dpf, hp]]
    rw [dpf_fuel h k j (by omega) (by omega)]
theorem dep_none {pr : Nat → Option Nat} {k : Nat} (hp : pr k = none) : dep pr k = 0 := by
  unfold dep
  cases k with
  | zero => rfl
  | succ k => rw [dpf, hp]
def depO (pr : Nat → Option Nat) : Option Nat → Nat
  | none => 0
  | some j => dep pr j + 1
theorem dep_O {pr : Nat → Option Nat} {n k : Nat} (h : ParOk pr n) (hk : k < n) : dep pr k = depO pr (pr k) := by
  cases hp : pr k with
  | none => exact dep_none hp
  | some j => exact dep_some h hk hp
theorem dep_le {pr : Nat → Option Nat} {n : Nat} (h : ParOk pr n) : ∀ k, k < n → dep pr k ≤ k := by
  intro k
  induction k using Nat.strongRecOn with
  | _ k ih =>
    intro hk
    cases hp : pr k with
    | none => rw [dep_none hp]; omega
    | some j =>
      have hj := h k j hk hp
      rw [dep_some h hk hp]
      have := ih j hj (by omega)
      omega
/-- whether k lies in the branch of r -/
def anf (pr : Nat → Option Nat) (r : Nat) : Nat → Nat → Bool
  | 0, k => k == r
  | f + 1, k => k == r || match pr k with
    | none => false
    | some j => anf pr r f j
def anc (pr : Nat → Option Nat) (r k : Nat) : Bool := anf pr r k k
theorem anf_fuel {pr : Nat → Option Nat} {n r : Nat} (h : ParOk pr n) : ∀ f k, k < n → k ≤ f → anf pr r f k = anf pr r k k := by
  intro f
  induction f using Nat.strongRecOn with
  | _ f ih =>
    intro k hk hf
    cases f with
    | zero => have : k = 0 := by omega
              subst this; rfl
    | succ f =>
      cases k with
      | zero =>
        unfold anf
        cases hp : pr 0 with
        | none => simp
        | some j => have := h 0 j hk hp; omega
      | succ k =>
        unfold anf
        cases hp : pr (k + 1) with
        | none => rfl
        | some j =>
          have hj := h _ j hk hp
          dsimp only
          rw [ih f (by omega) j (by omega) (by omega)]
          rcases Nat.lt_or_ge k (f + 1) with q | q
          · rw [ih k q j (by omega) (by omega)]
          · omega
def ancO (pr : Nat → Option Nat) (r : Nat) : Option Nat → Bool
  | none => false
  | some j => anc pr r j
theorem anc_self (pr : Nat → Option Nat) (r : Nat) : anc pr r r = true := by
  unfold anc
  cases r <;> simp [anf]
theorem anc_O {pr : Nat → Option Nat} {n k r : Nat} (h : ParOk pr n) (hk : k < n) (hr : k ≠ r) : anc pr r k = ancO pr r (pr k) := by
  unfold anc
  cases k with
  | zero =>
    cases hp : pr 0 with
    | none => simp [anf, ancO, hr]
    | some j => have := h 0 j hk hp; omega
  | succ k =>
    rw [anf, show (k + 1 == r) = false by simp [hr], Bool.false_or]
    cases hp : pr (k + 1) with
    | none => simp [ancO, hr]
    | some j =>
      have hj := h _ j hk hp
      simp only [ancO, anc]
      rw [anf_fuel h k j (by omega) (by omega)]
/-- whether p has no child before i -/
def tipB (pr : Nat → Option Nat) (p : Nat) : Nat → Bool
  | 0 => true
  | i + 1 => tipB pr p i && !(pr i == some p)
/-- the last tip of the branch of r before i -/
def ltp (pr : Nat → Option Nat) (n r : Nat) : Nat → Option Nat
  | 0 => none
  | k + 1 => if anc pr r k && tipB pr k n then some k else ltp pr n r k
theorem ltp_lt {pr : Nat → Option Nat} {n r : Nat} : ∀ {i k}, ltp pr n r i = some k → k < i := by
  intro i
  induction i with
  | zero => intro k h; cases h
  | succ i ih =>
    intro k h
    unfold ltp at h
    split at h
    · cases h; omega
    · have := ih h; omega
theorem FoR.pid {m : Nat → Int32} {n : Nat} {idn : Nat → Nat} {pr : Nat → Option Nat} {tn : Nat → Nat} (h : FoR m n idn pr tn) {k : Nat} (hk : k < n) : ∀ j, (pr k).map idn = some j → j < 2 ^ 31 := by
  intro j hj
  cases hq : pr k with
  | none => rw [hq] at hj; cases hj
  | some i =>
    rw [hq] at hj
    cases hj
    have := (h.2.2.1 i (h.par hk hq)).2
    omega
theorem FoR.plim {m : Nat → Int32} {n : Nat} {idn : Nat → Nat} {pr : Nat → Option Nat} {tn : Nat → Nat} (h : FoR m n idn pr tn) {k : Nat} (hk : k < n) : ∀ j, pr k = some j → j < 2 ^ 31 := by
  intro j hj
  have := h.par hk hj
  have := h.2.1
  omega

def oM : Option Nat → Nat
  | none => 0
  | some j => j + 1
theorem oM_lt {pr : Nat → Option Nat} {n j : Nat} (h : ParOk pr n) (hj : j < n) : oM (pr j) < oM (some j) := by
  cases hp : pr j with
  | none => simp [oM]
  | some i => have := h j i hj hp; simp [oM]; omega
theorem nI_m1 {q : Nat} (hq : q < 2 ^ 31) (h : (-1 : Int32) = nI q) : False := by
  have h1 : (nI q).toInt = (-1 : Int32).toInt := by rw [← h]
  rw [nI_toInt hq] at h1
  have h2 : (-1 : Int32).toInt = -1 := by decide
  omega
theorem oi_nI {o : Option Nat} {q : Nat} (ho : ∀ j, o = some j → j < 2 ^ 31) (hq : q < 2 ^ 31) : oi o = nI q ↔ o = some q := by
  cases o with
  | none => exact ⟨fun h => (nI_m1 hq h).elim, fun h => by cases h⟩
  | some j => exact ⟨fun h => by rw [(nI_eq (ho j rfl) hq).mp h], fun h => by cases h; rfl⟩
section ON
variable {p : Program} {l : Launch} {e : Env} {R : Room} {s : State} {m : MethodId} {args : Array Value} {below : List Frame} {meth : Method} {c : Code} {H : Heap} {locs : List Loc} {cells slots : Nat} {Q : State → Prop} {cc : ByteArray} {pc : Nat} {ls : Array Slot} {rest : List Value}
theorem r_on_eq (hx : p.tables.exec = Jvm.exec) (hb : c.code = cc) {o : Option Nat} {q : Nat} (ho : ∀ j, o = some j → j < 2 ^ 31) (hq : q < 2 ^ 31) {off : Int} {tgt : Nat} (hdg : decode cc pc = .ok (.if_icmp .eq off, 3)) (ht : (pc : Int) + off = (tgt : Int)) (kt : o = some q → W p l e R s m args below meth c H locs cells slots Q (F0 m tgt ls rest)) (kf : o ≠ some q → W p l e R s m args below meth c H locs cells slots Q (F0 m (pc + 3) ls rest)) : W p l e R s m args below meth c H locs cells slots Q (F0 m pc ls (.int (nI q) :: .int (oi o) :: rest)) :=
  lv_icmp_eq hx hb hdg ht (fun h => kt ((oi_nI ho hq).mp h)) (fun h => kf (fun z => h ((oi_nI ho hq).mpr z)))
theorem r_on_ne (hx : p.tables.exec = Jvm.exec) (hb : c.code = cc) {o : Option Nat} {q : Nat} (ho : ∀ j, o = some j → j < 2 ^ 31) (hq : q < 2 ^ 31) {off : Int} {tgt : Nat} (hdg : decode cc pc = .ok (.if_icmp .ne off, 3)) (ht : (pc : Int) + off = (tgt : Int)) (kt : o ≠ some q → W p l e R s m args below meth c H locs cells slots Q (F0 m tgt ls rest)) (kf : o = some q → W p l e R s m args below meth c H locs cells slots Q (F0 m (pc + 3) ls rest)) : W p l e R s m args below meth c H locs cells slots Q (F0 m pc ls (.int (nI q) :: .int (oi o) :: rest)) :=
  lv_icmp_ne hx hb hdg ht (fun h => kt (fun z => h ((oi_nI ho hq).mpr z))) (fun h => kf ((oi_nI ho hq).mp h))
end ON
/-- how far two numbers lie apart -/
def dif (a b : Nat) : Nat := a - b + (b - a)
theorem dif_abs {a b : Nat} (ha : a < 1024) (hb : b < 1024) : (if 0 ≤ nI a - nI b then nI a - nI b else 0 - (nI a - nI b)) = nI (dif a b) := by
  have e := pk_sub_toInt (a := a) (b := b) (by omega) (by omega)
  have h0 : (0 : Int32).toInt = 0 := by decide
  have hd : (nI (dif a b)).toInt = (dif a b : Int) := nI_toInt (by unfold dif; omega)
  apply Int32.toInt_inj.mp
  rw [hd]
  split
  · rename_i h
    have h1 : (0 : Int32).toInt ≤ (nI a - nI b).toInt := Int32.le_iff_toInt_le.mp h
    rw [h0] at h1
    rw [e] at h1 ⊢
    unfold dif; omega
  · rename_i h
    have h1 : ¬ (0 : Int32).toInt ≤ (nI a - nI b).toInt := fun q => h (Int32.le_iff_toInt_le.mpr q)
    rw [h0, e] at h1
    rw [Int32.toInt_sub, h0, e]
    unfold dif
    rw [show (0 : Int) - ((a : Int) - b) = ((a - b + (b - a) : Nat) : Int) by omega]
    exact Int.bmod_eq_of_le (by omega) (by omega)
/-- the hedges that the reference's row holds -/
def HeR (m : Nat → Int32) (h : Nat) (lv th ta : Nat → Nat) : Prop :=
  m 0 = nI h ∧ h ≤ 6 ∧ (∀ i, i < h → m (11 + 3 * i) = nI (lv i) ∧ 1 ≤ lv i ∧ lv i ≤ 99) ∧ (∀ i, i < h → m (11 + 3 * i + 1) = nI (th i) ∧ th i ≤ 9) ∧ ∀ i, i < h → m (11 + 3 * i + 2) = nI (ta i) ∧ ta i ≤ 9
/-- the leaves in favour of a tone, of the first hedges -/
def fav (lv ta : Nat → Nat) (t : Nat) : Nat → Nat
  | 0 => 0
  | i + 1 => fav lv ta t i + if dif (ta i) t ≤ 3 then lv i else 0
def sml (lv : Nat → Nat) : Nat → Nat
  | 0 => 0
  | i + 1 => sml lv i + lv i
theorem in_f1 {v lo hi : Int64} (h : lg_cmp v lo < 0) : nI 0 = bI (decide (lo ≤ v ∧ v ≤ hi)) := by
  have h1 : ¬ lo ≤ v := by
    intro q
    unfold lg_cmp at h
    split at h
    · exact absurd h (by decide)
    · split at h
      · exact absurd h (by decide)
      · rename_i h1 h2
        exact h1 (Int64.lt_of_le_of_ne q (fun z => h2 z.symm))
  simp [h1, bI]; rfl
theorem in_f2 {v lo hi : Int64} (h : 0 < lg_cmp v hi) : nI 0 = bI (decide (lo ≤ v ∧ v ≤ hi)) := by
  have h1 : ¬ v ≤ hi := by
    intro q
    unfold lg_cmp at h
    split at h
    · rename_i h1
      exact absurd q (Int64.not_le.mpr h1)
    · split at h
      · exact absurd h (by decide)
      · exact absurd h (by decide)
  simp [h1, bI]; rfl
theorem in_t {v lo hi : Int64} (h1 : ¬ lg_cmp v lo < 0) (h2 : ¬ 0 < lg_cmp v hi) : nI 1 = bI (decide (lo ≤ v ∧ v ≤ hi)) := by
  have e1 : lo ≤ v := by
    apply Decidable.byContradiction
    intro q
    apply h1
    have q1 : v < lo := Int64.not_le.mp q
    unfold lg_cmp
    rw [if_neg (fun z => absurd (Int64.le_of_lt z) q), if_neg (fun z => by rw [z] at q1; exact Int64.lt_irrefl q1)]
    decide
  have e2 : v ≤ hi := by
    apply Decidable.byContradiction
    intro q
    apply h2
    unfold lg_cmp
    rw [if_pos (Int64.not_le.mp q)]
    decide
  simp [e1, e2, bI]; rfl

def rgB (lo hi : Int64) (x : Int32) : Bool := decide (lo ≤ x.toInt64 ∧ x.toInt64 ≤ hi)
theorem sr_sr (S : MSt) (i : Nat) (f g : Nat → Int32) : sr (sr S i f) i g = sr S i g := by
  funext r; unfold sr; split <;> rfl
theorem sr_self (S : MSt) (i : Nat) : sr S i (S i) = S := by
  funext r; unfold sr; split
  · rename_i h; rw [h]
  · rfl
/-- the row behind an added hedge -/
def hedgeF (m : Nat → Int32) (h : Nat) (x y z : Int32) : Nat → Int32 := fun j => if j = 0 then nI (h + 1) else if j = 11 + 3 * h + 2 then z else if j = 11 + 3 * h + 1 then y else if j = 11 + 3 * h then x else m j
/-- the row behind an added motion -/
def addF (m : Nat → Int32) (n : Nat) (p x w : Int32) : Nat → Int32 := fun j => if j = 1 then m 1 + nI 1 else if j = 2 then nI (n + 1) else if j = 29 + 4 * n + 3 then w else if j = 29 + 4 * n + 2 then x else if j = 29 + 4 * n + 1 then p else if j = 29 + 4 * n then m 1 else m j
/-- the row behind a motion taken out, with its count as it was -/
def drpF (m : Nat → Int32) (k i : Nat) : Nat → Int32 := fun j => if 29 + 4 * k ≤ j ∧ j < i then m (j + 4) else m j
def drzF (m : Nat → Int32) (k i : Nat) : Nat → Int32 := fun j => if 73 ≤ j ∧ j < i then 0 else drpF m k 73 j
def dropF (m : Nat → Int32) (k n : Nat) : Nat → Int32 := fun j => if j = 2 then nI (n - 1) else drzF m k 77 j
theorem drpF_0 (m : Nat → Int32) (k : Nat) : drpF m k (29 + 4 * k) = m := by
  funext j; unfold drpF; rw [if_neg (by omega)]
theorem drpF_1 (m : Nat → Int32) (k i : Nat) (h : 29 + 4 * k ≤ i) : upd (drpF m k i) i (drpF m k i (i + 4)) = drpF m k (i + 1) := by
  funext j; unfold upd drpF
  by_cases h1 : j = i
  · subst h1; rw [if_pos rfl, if_neg (by omega), if_pos (by omega)]
  · rw [if_neg h1]
    by_cases h2 : 29 + 4 * k ≤ j ∧ j < i
    · rw [if_pos h2, if_pos (by omega)]
    · rw [if_neg h2, if_neg (by omega)]
theorem drzF_0 (m : Nat → Int32) (k : Nat) : drzF m k 73 = drpF m k 73 := by
  funext j; unfold drzF; rw [if_neg (by omega)]
theorem drzF_1 (m : Nat → Int32) (k i : Nat) (h : 73 ≤ i) : upd (drzF m k i) i (nI 0) = drzF m k (i + 1) := by
  funext j; unfold upd drzF
  by_cases h1 : j = i
  · subst h1; rw [if_pos rfl, if_pos (by omega)]; rfl
  · rw [if_neg h1]
    by_cases h2 : 73 ≤ j ∧ j < i
    · rw [if_pos h2, if_pos (by omega)]
    · rw [if_neg h2, if_neg (by omega)]
/-- the first n places of f, the rest of g -/
def cpyF (g f : Nat → Int32) (n : Nat) : Nat → Int32 := fun j => if j < n then f j else g j
theorem cpyF_0 (g f : Nat → Int32) : cpyF g f 0 = g := by funext j; simp [cpyF]
theorem cpyF_1 (g f : Nat → Int32) (i : Nat) : upd (cpyF g f i) i (f i) = cpyF g f (i + 1) := by
  funext j; unfold upd cpyF
  by_cases h1 : j = i
  · subst h1; rw [if_pos rfl, if_pos (by omega)]
  · rw [if_neg h1]
    by_cases h2 : j < i
    · rw [if_pos h2, if_pos (by omega)]
    · rw [if_neg h2, if_neg (by omega)]

section IFN
variable {p : Program} {l : Launch} {e : Env} {R : Room} {s : State} {m : MethodId} {args : Array Value} {below : List Frame} {meth : Method} {c : Code} {H : Heap} {locs : List Loc} {cells slots : Nat} {Q : State → Prop} {cc : ByteArray} {pc : Nat} {ls : Array Slot} {rest : List Value}
theorem nI_le0 {a : Nat} (ha : a < 2 ^ 31) : nI a ≤ 0 ↔ a = 0 := by
  rw [← nI_0, nI_leI ha (by decide)]; omega
theorem nI_lt0 {a : Nat} (ha : a < 2 ^ 31) : 0 < nI a ↔ 0 < a := by
  rw [← nI_0, nI_ltI (by decide) ha]
theorem nI_e0 {a : Nat} (ha : a < 2 ^ 31) : nI a = 0 ↔ a = 0 := by
  rw [← nI_0, nI_eq ha (by decide)]
theorem r_ifleN (hx : p.tables.exec = Jvm.exec) (hb : c.code = cc) {a : Nat} (ha : a < 2 ^ 31) {off : Int} {tgt : Nat} (hdg : decode cc pc = .ok (.ifCond .le off, 3)) (ht : (pc : Int) + off = (tgt : Int)) (kt : a = 0 → W p l e R s m args below meth c H locs cells slots Q (F0 m tgt ls rest)) (kf : 0 < a → W p l e R s m args below meth c H locs cells slots Q (F0 m (pc + 3) ls rest)) : W p l e R s m args below meth c H locs cells slots Q (F0 m pc ls (.int (nI a) :: rest)) :=
  lv_if_le hx hb hdg ht (fun h => kt ((nI_le0 ha).mp h)) (fun h => kf (Nat.pos_of_ne_zero (fun z => h ((nI_le0 ha).mpr z))))
theorem r_ifgtN (hx : p.tables.exec = Jvm.exec) (hb : c.code = cc) {a : Nat} (ha : a < 2 ^ 31) {off : Int} {tgt : Nat} (hdg : decode cc pc = .ok (.ifCond .gt off, 3)) (ht : (pc : Int) + off = (tgt : Int)) (kt : 0 < a → W p l e R s m args below meth c H locs cells slots Q (F0 m tgt ls rest)) (kf : a = 0 → W p l e R s m args below meth c H locs cells slots Q (F0 m (pc + 3) ls rest)) : W p l e R s m args below meth c H locs cells slots Q (F0 m pc ls (.int (nI a) :: rest)) :=
  lv_if_gt hx hb hdg ht (fun h => kt ((nI_lt0 ha).mp h)) (fun h => kf (Nat.eq_zero_of_not_pos (fun z => h ((nI_lt0 ha).mpr z))))
theorem r_ifeqN (hx : p.tables.exec = Jvm.exec) (hb : c.code = cc) {a : Nat} (ha : a < 2 ^ 31) {off : Int} {tgt : Nat} (hdg : decode cc pc = .ok (.ifCond .eq off, 3)) (ht : (pc : Int) + off = (tgt : Int)) (kt : a = 0 → W p l e R s m args below meth c H locs cells slots Q (F0 m tgt ls rest)) (kf : a ≠ 0 → W p l e R s m args below meth c H locs cells slots Q (F0 m (pc + 3) ls rest)) : W p l e R s m args below meth c H locs cells slots Q (F0 m pc ls (.int (nI a) :: rest)) :=
  lv_if_eq hx hb hdg ht (fun h => kt ((nI_e0 ha).mp h)) (fun h => kf (fun z => h ((nI_e0 ha).mpr z)))
theorem r_ifneN (hx : p.tables.exec = Jvm.exec) (hb : c.code = cc) {a : Nat} (ha : a < 2 ^ 31) {off : Int} {tgt : Nat} (hdg : decode cc pc = .ok (.ifCond .ne off, 3)) (ht : (pc : Int) + off = (tgt : Int)) (kt : a ≠ 0 → W p l e R s m args below meth c H locs cells slots Q (F0 m tgt ls rest)) (kf : a = 0 → W p l e R s m args below meth c H locs cells slots Q (F0 m (pc + 3) ls rest)) : W p l e R s m args below meth c H locs cells slots Q (F0 m pc ls (.int (nI a) :: rest)) :=
  lv_if_ne hx hb hdg ht (fun h => kt (fun z => h ((nI_e0 ha).mpr z))) (fun h => kf ((nI_e0 ha).mp h))
end IFN
/-- whether a hedge vetoes: its difference, its thorns -/
def vetB (d t : Nat) : Bool := decide (7 ≤ d ∧ 0 < t)
def shF (f : Nat → Int32) (i : Nat) : Nat → Int32 := fun j => if j < i then f (j + 77) else f j
theorem shF_0 (f : Nat → Int32) : shF f 0 = f := by funext j; simp [shF]
theorem shF_1 (f : Nat → Int32) (i : Nat) : upd (shF f i) i (shF f i (i + 77)) = shF f (i + 1) := by
  funext j; unfold upd shF
  by_cases h1 : j = i
  · subst h1; rw [if_pos rfl, if_neg (by omega), if_pos (by omega)]
  · rw [if_neg h1]
    by_cases h2 : j < i
    · rw [if_pos h2, if_pos (by omega)]
    · rw [if_neg h2, if_neg (by omega)]
def putF (f g : Nat → Int32) (b i : Nat) : Nat → Int32 := fun j => if b ≤ j ∧ j < b + i then g (j - b) else f j
theorem putF_0 (f g : Nat → Int32) (b : Nat) : putF f g b 0 = f := by
  funext j; unfold putF; rw [if_neg (by omega)]
theorem putF_1 (f g : Nat → Int32) (b i : Nat) : upd (putF f g b i) (b + i) (g i) = putF f g b (i + 1) := by
  funext j; unfold upd putF
  by_cases h1 : j = b + i
  · subst h1; rw [if_pos rfl, if_pos (by omega), Nat.add_sub_cancel_left]
  · rw [if_neg h1]
    by_cases h2 : b ≤ j ∧ j < b + i
    · rw [if_pos h2, if_pos (by omega)]
    · rw [if_neg h2, if_neg (by omega)]
/-- the row of the past behind a change -/
def pstF (f g : Nat → Int32) (ch : Nat) : Nat → Int32 := putF (if ch = 8 then shF f 539 else f) g (77 * (min ch 7)) 77
theorem sr_ss (S : MSt) (i k : Nat) (f : Nat → Int32) (x : Int32) (h : i ≠ 13) : sr (ss S k x) i f = ss (sr S i f) k x := by
  funext r; unfold ss sr
  by_cases h1 : r = i
  · subst h1; simp [h]
  · by_cases h2 : r = 13
    · subst h2; simp [h1, Ne.symm h]
    · simp [h1, h2]
theorem ss_ss (S : MSt) (k : Nat) (x y : Int32) : ss (ss S k x) k y = ss S k y := by
  funext r j; unfold ss sr upd
  by_cases h : r = 13
  · subst h; simp; split <;> rfl
  · simp [h]
theorem ss_n (S : MSt) (k i : Nat) (x : Int32) (h : i ≠ 13) : ss S k x i = S i := by simp [ss, sr, h]
theorem ss_s (S : MSt) (k : Nat) (x : Int32) : ss S k x 13 k = x := by simp [ss, sr, upd]
theorem ss_o (S : MSt) (k j : Nat) (x : Int32) (h : j ≠ k) : ss S k x 13 j = S 13 j := by simp [ss, sr, upd, h]
