section
theorem cx_drop {D : va_G} {Wd W1 : va_W} {A : Nat → Prop} {H0 H : Heap} {locs : List Loc} (h : CxB D Wd A H0 H locs) (is : List Nat) (his : is.map (fun i => Wd[i]?) = W1.map some) (hn : va_nd is = true) : CxB D W1 A H0 H locs := ⟨h.1.sub is (cx_fm his), h.2.1.sub is hn his, h.2.2⟩
section G1
variable {p : Program} {l : Launch} {e : Env} {R : Room} {s : State} {m : MethodId} {args : Array Value} {below : List Frame} {meth : Method} {c : Code} {H : Heap} {locs : List Loc} {cells slots : Nat} {Q : State → Prop} {cc : ByteArray} {pc : Nat} {ls : Array Slot} {rest : List Value} {D : va_G} {aT : Nat → ClassId} {own : String} {nL : Nat}
theorem oi_lt0 {o : Option Nat} (ho : ∀ j, o = some j → j < 2 ^ 31) : oi o < 0 ↔ o = none := by
  cases o with
  | none => exact ⟨fun _ => rfl, fun _ => by decide⟩
  | some j => exact ⟨fun h => absurd h (nI_pos (ho j rfl)), fun h => by cases h⟩
theorem r_oi_lt0 (hx : p.tables.exec = Jvm.exec) (hb : c.code = cc) {o : Option Nat} (ho : ∀ j, o = some j → j < 2 ^ 31) {off : Int} {tgt : Nat} (hdg : decode cc pc = .ok (.ifCond .lt off, 3)) (ht : (pc : Int) + off = (tgt : Int)) (kt : o = none → W p l e R s m args below meth c H locs cells slots Q (F0 m tgt ls rest)) (kf : ∀ j, o = some j → W p l e R s m args below meth c H locs cells slots Q (F0 m (pc + 3) ls rest)) : W p l e R s m args below meth c H locs cells slots Q (F0 m pc ls (.int (oi o) :: rest)) := by
  refine lv_if_lt hx hb hdg ht (fun h => kt ((oi_lt0 ho).mp h)) (fun h => ?_)
  cases o with
  | none => exact absurd ((oi_lt0 ho).mpr rfl) h
  | some j => exact kf j rfl
theorem r_oi_ge0 (hx : p.tables.exec = Jvm.exec) (hb : c.code = cc) {o : Option Nat} (ho : ∀ j, o = some j → j < 2 ^ 31) {off : Int} {tgt : Nat} (hdg : decode cc pc = .ok (.ifCond .ge off, 3)) (ht : (pc : Int) + off = (tgt : Int)) (kt : ∀ j, o = some j → W p l e R s m args below meth c H locs cells slots Q (F0 m tgt ls rest)) (kf : o = none → W p l e R s m args below meth c H locs cells slots Q (F0 m (pc + 3) ls rest)) : W p l e R s m args below meth c H locs cells slots Q (F0 m pc ls (.int (oi o) :: rest)) := by
  refine lv_if_ge hx hb hdg ht (fun h => ?_) (fun h => kf ((oi_lt0 ho).mp (Int32.not_le.mp h)))
  cases o with
  | none => exact absurd h (by decide)
  | some j => exact kt j rfl
theorem cx_max (C : CxX p c cc s args m D aT own) (hml : c.maxLocals = nL) (hls : ls.size = nL) {index : Nat} (hk : Cond.methodLink own index Lib.Math.max.name ∈ gw) (hR : 1 ≤ R.frames ∧ 21 ≤ R.locals ∧ (rest.map fun v => v.category).sum ≤ 8) (hcs : cells ≤ R.cells ∧ slots ≤ R.slots) {x y : Int32} (hdg : decode cc pc = .ok (.invokestatic index, 3))
    (kk : W p l e R s m args below meth c H locs cells slots Q (F0 m (pc + 3) ls (.int (if x < y then y else x) :: rest))) : W p l e R s m args below meth c H locs cells slots Q (F0 m pc ls (.int y :: .int x :: rest)) :=
  va_mmax C.1 C.2.1 (by rw [hml, hls]) C.2.2.2.1 (C.2.2.1 _ hk) (C.2.2.1 _ gm_max.1) (C.2.2.1 _ gw_89) (C.2.2.1 _ gm_max.2) hR.1 (by omega) hcs.1 hcs.2 hdg kk
theorem cx_min (C : CxX p c cc s args m D aT own) (hml : c.maxLocals = nL) (hls : ls.size = nL) {index : Nat} (hk : Cond.methodLink own index Lib.Math.min.name ∈ gw) (hR : 1 ≤ R.frames ∧ 21 ≤ R.locals ∧ (rest.map fun v => v.category).sum ≤ 8) (hcs : cells ≤ R.cells ∧ slots ≤ R.slots) {x y : Int32} (hdg : decode cc pc = .ok (.invokestatic index, 3))
    (kk : W p l e R s m args below meth c H locs cells slots Q (F0 m (pc + 3) ls (.int (if y < x then y else x) :: rest))) : W p l e R s m args below meth c H locs cells slots Q (F0 m pc ls (.int y :: .int x :: rest)) :=
  va_mmin C.1 C.2.1 (by rw [hml, hls]) C.2.2.2.1 (C.2.2.1 _ hk) (C.2.2.1 _ gm_min.1) (C.2.2.1 _ gw_89) (C.2.2.1 _ gm_min.2) hR.1 (by omega) hcs.1 hcs.2 hdg kk
end G1
/-- the hedges that the class's rows hold -/
def HeC (fL fT fX : Nat → Int32) (nh : Nat) (lv th ta : Nat → Nat) : Prop :=
  nh ≤ 6 ∧ (∀ i, i < nh → fL i = nI (lv i) ∧ 1 ≤ lv i ∧ lv i ≤ 99) ∧ (∀ i, i < nh → fT i = nI (th i) ∧ th i ≤ 9) ∧ ∀ i, i < nh → fX i = nI (ta i) ∧ ta i ≤ 9
/-- the motions that the class's rows hold -/
def MoC (fI fN fP : Nat → Int32) (nm : Nat) (idn : Nat → Nat) (pr : Nat → Option Nat) (tn : Nat → Nat) : Prop :=
  nm ≤ 12 ∧ (∀ k, k < nm → fI k = nI (idn k) ∧ idn k < 1048576) ∧ (∀ k, k < nm → fP k = oi (pr k)) ∧ ParOk pr nm ∧ (∀ j k, j < k → k < nm → idn j < idn k) ∧ ∀ k, k < nm → fN k = nI (tn k) ∧ tn k ≤ 9
theorem isHB_lo {n : Nat} {x : Int32} (h : x < 0) : nI 0 = bI (isHB n x) := by
  have h1 : x.toInt < (0 : Int32).toInt := Int32.lt_iff_toInt_lt.mp h
  have h2 : (0 : Int32).toInt = 0 := by decide
  unfold isHB; rw [decide_eq_false (by omega)]; rfl
theorem isHB_hi {n : Nat} {x : Int32} (hn : n < 1024) (h : nI n ≤ x) : nI 0 = bI (isHB n x) := by
  have h1 : (nI n).toInt ≤ x.toInt := Int32.le_iff_toInt_le.mp h
  rw [nI_toInt (by omega)] at h1
  unfold isHB; rw [decide_eq_false (by omega)]; rfl
theorem isHB_in {n : Nat} {x : Int32} (hn : n < 1024) (h0 : ¬ x < 0) (h : ¬ nI n ≤ x) : nI 1 = bI (isHB n x) := by
  have h1 : x.toInt < (nI n).toInt := Int32.lt_iff_toInt_lt.mp (Int32.not_le.mp h)
  have h3 : (0 : Int32).toInt ≤ x.toInt := Int32.le_iff_toInt_le.mp (Int32.not_lt.mp h0)
  have h2 : (0 : Int32).toInt = 0 := by decide
  rw [nI_toInt (by omega)] at h1
  unfold isHB; rw [decide_eq_true (by omega)]; rfl
/-- the thorns when the first i hedges have been asked -/
def thV (v : Nat → Bool) (th : Nat → Nat) (i j : Nat) : Nat := if j < i ∧ v j = true then th j - 1 else th j
def anV (v : Nat → Bool) : Nat → Bool
  | 0 => false
  | i + 1 => anV v i || v i
def vvF (th ta : Nat → Nat) (t j : Nat) : Bool := vetB (dif (ta j) t) (th j)
theorem thV_i {v : Nat → Bool} {th : Nat → Nat} {i : Nat} : thV v th i i = th i := by unfold thV; rw [if_neg (by omega)]
theorem thV_0 {v : Nat → Bool} {th : Nat → Nat} : thV v th 0 = th := by funext j; unfold thV; rw [if_neg (by omega)]
theorem HeC.vt1 {fL f fX : Nat → Int32} {nh i : Nat} {v : Nat → Bool} {lv th ta : Nat → Nat} (h : HeC fL f fX nh lv (thV v th i) ta) (hi : i < nh) (hv : v i = true) : HeC fL (upd f i (nI (th i - 1))) fX nh lv (thV v th (i + 1)) ta := by
  obtain ⟨h1, h2, h3, h4⟩ := h
  refine ⟨h1, h2, fun k hk => ?_, h4⟩
  have h9 := h3 k hk
  by_cases hki : k = i
  · subst hki
    rw [pk_us]
    rw [thV_i] at h9
    have e : thV v th (k + 1) k = th k - 1 := by unfold thV; rw [if_pos ⟨by omega, hv⟩]
    rw [e]; exact ⟨rfl, by omega⟩
  · rw [pk_un hki]
    have e : thV v th (i + 1) k = thV v th i k := by
      unfold thV
      by_cases q : k < i ∧ v k = true
      · rw [if_pos q, if_pos ⟨by omega, q.2⟩]
      · rw [if_neg q, if_neg (fun z => q ⟨by omega, z.2⟩)]
    rw [e]; exact h9
theorem HeC.vt0 {fL f fX : Nat → Int32} {nh i : Nat} {v : Nat → Bool} {lv th ta : Nat → Nat} (h : HeC fL f fX nh lv (thV v th i) ta) (hv : v i = false) : HeC fL f fX nh lv (thV v th (i + 1)) ta := by
  have e : thV v th (i + 1) = thV v th i := by
    funext k
    unfold thV
    by_cases q : k < i ∧ v k = true
    · rw [if_pos q, if_pos ⟨by omega, q.2⟩]
    · rw [if_neg q, if_neg (fun z => q ⟨by
        rcases Nat.lt_or_ge k i with w | w
        · exact w
        · have : k = i := by omega
          subst this; rw [hv] at z; exact absurd z.2 (by decide), z.2⟩)]
  rw [e]; exact h
theorem vv_at {th ta : Nat → Nat} {t i : Nat} : vetB (dif (ta i) t) (thV (vvF th ta t) th i i) = vvF th ta t i := by rw [thV_i]; rfl
theorem vv_pos {th ta : Nat → Nat} {t i : Nat} (h : vvF th ta t i = true) : 0 < th i := by
  unfold vvF vetB at h
  exact (of_decide_eq_true h).2
theorem anV_1 {v : Nat → Bool} {i : Nat} (h : v i = true) : true = anV v (i + 1) := by unfold anV; rw [h, Bool.or_true]
theorem anV_0 {v : Nat → Bool} {i : Nat} (h : v i = false) : anV v i = anV v (i + 1) := by
  show anV v i = (anV v i || v i)
  rw [h, Bool.or_false]
theorem lg_by : ∀ s, s < 4 → lgF s = byF s := by decide
/-- leaves and thorns when the first i hedges have met the season -/
def lvS (s : Nat) (lv : Nat → Nat) (i j : Nat) : Nat := if j < i then leafN s (lv j) else lv j
def thS (s : Nat) (th : Nat → Nat) (i j : Nat) : Nat := if j < i then th j + taddN s (th j) else th j
theorem lvS_i {s i : Nat} {lv : Nat → Nat} : lvS s lv i i = lv i := by unfold lvS; rw [if_neg (by omega)]
theorem thS_i {s i : Nat} {th : Nat → Nat} : thS s th i i = th i := by unfold thS; rw [if_neg (by omega)]
theorem lvS_0 {s : Nat} {lv : Nat → Nat} : lvS s lv 0 = lv := by funext j; unfold lvS; rw [if_neg (by omega)]
theorem thS_0 {s : Nat} {th : Nat → Nat} : thS s th 0 = th := by funext j; unfold thS; rw [if_neg (by omega)]
theorem HeC.mt {f g g1 fX : Nat → Int32} {nh i s : Nat} {lv th ta : Nat → Nat} (h : HeC f g fX nh (lvS s lv i) (thS s th i) ta) (hi : i < nh) (hg : ∀ k, k < nh → g1 k = if k = i then nI (th i + taddN s (th i)) else g k) : HeC (upd f i (nI (leafN s (lv i)))) g1 fX nh (lvS s lv (i + 1)) (thS s th (i + 1)) ta := by
  obtain ⟨h1, h2, h3, h4⟩ := h
  refine ⟨h1, fun k hk => ?_, fun k hk => ?_, h4⟩
  · have h9 := h2 k hk
    by_cases hki : k = i
    · subst hki
      rw [pk_us]
      rw [lvS_i] at h9
      have e : lvS s lv (k + 1) k = leafN s (lv k) := by unfold lvS; rw [if_pos (by omega)]
      rw [e]; exact ⟨rfl, leafN_in h9.2.1 h9.2.2⟩
    · rw [pk_un hki]
      have e : lvS s lv (i + 1) k = lvS s lv i k := by
        unfold lvS
        by_cases q : k < i
        · rw [if_pos q, if_pos (by omega)]
        · rw [if_neg q, if_neg (by omega)]
      rw [e]; exact h9
  · have h9 := h3 k hk
    rw [hg k hk]
    by_cases hki : k = i
    · subst hki
      rw [thS_i] at h9
      have e : thS s th (k + 1) k = th k + taddN s (th k) := by unfold thS; rw [if_pos (by omega)]
      rw [e, if_pos rfl]; exact ⟨rfl, taddN_in h9.2⟩
    · rw [if_neg hki]
      have e : thS s th (i + 1) k = thS s th i k := by
        unfold thS
        by_cases q : k < i
        · rw [if_pos q, if_pos (by omega)]
        · rw [if_neg q, if_neg (by omega)]
      rw [e]; exact h9
theorem HeC.thb {f g fX : Nat → Int32} {nh i : Nat} {lv th ta : Nat → Nat} (h : HeC f g fX nh lv th ta) (hi : i < nh) : th i ≤ 9 := (h.2.2.1 i hi).2
theorem tadd_1 {s a : Nat} (h : s = 0) (h9 : a < 9) : taddN s a = 1 := by unfold taddN; rw [if_pos ⟨h, h9⟩]
theorem tadd_0 {s a : Nat} (h : s ≠ 0 ∨ 9 ≤ a) : taddN s a = 0 := by unfold taddN; rw [if_neg (fun z => by omega)]
/-- the last of the first ones whose rank is r; 0 if there is none -/
def atR (ah : Nat → Nat → Bool) (n : Nat) (r : Int32) : Nat → Nat
  | 0 => 0
  | i + 1 => if nI (rkN ah i n) = r then i else atR ah n r i
theorem atR_lt {ah : Nat → Nat → Bool} {n : Nat} {r : Int32} : ∀ i, atR ah n r i ≤ i ∧ (0 < i → atR ah n r i < i) := by
  intro i
  induction i with
  | zero => exact ⟨Nat.le_refl _, fun h => absurd h (Nat.lt_irrefl _)⟩
  | succ i ih =>
    unfold atR
    split
    · omega
    · have := ih.1
      omega
theorem mt_same {f q fX : Nat → Int32} {nh i s k : Nat} {lv th ta : Nat → Nat} (h : HeC f q fX nh (lvS s lv i) (thS s th i) ta) (e : taddN s (th i) = 0) (hk : k < nh) : q k = if k = i then nI (th i + taddN s (th i)) else q k := by
  by_cases z : k = i
  · subst z
    rw [if_pos rfl, e, Nat.add_zero]
    have h5 := (h.2.2.1 k hk).1
    rw [thS_i] at h5
    exact h5
  · rw [if_neg z]
theorem lv_at2 {f q fX : Nat → Int32} {nh i s : Nat} {lv th ta : Nat → Nat} (h : HeC f q fX nh (lvS s lv i) (thS s th i) ta) (hi : i < nh) : 1 ≤ lv i ∧ lv i ≤ 99 := by
  have h5 := (h.2.1 i hi).2
  rw [lvS_i] at h5
  exact h5
theorem th_at2 {f q fX : Nat → Int32} {nh i s : Nat} {lv th ta : Nat → Nat} (h : HeC f q fX nh (lvS s lv i) (thS s th i) ta) (hi : i < nh) : th i ≤ 9 := by
  have h5 := (h.2.2.1 i hi).2
  rw [thS_i] at h5
  exact h5
theorem dX2_has_0 : decode cX2_has 0 = .ok (.iload_n 1, 1) := by decide +kernel
theorem dX2_has_1 : decode cX2_has 1 = .ok (.ifCond .lt 15, 3) := by decide +kernel
theorem dX2_has_4 : decode cX2_has 4 = .ok (.iload_n 1, 1) := by decide +kernel
theorem dX2_has_5 : decode cX2_has 5 = .ok (.aload_n 0, 1) := by decide +kernel
theorem dX2_has_6 : decode cX2_has 6 = .ok (.getfield 21, 3) := by decide +kernel
theorem dX2_has_9 : decode cX2_has 9 = .ok (.if_icmp .ge 7, 3) := by decide +kernel
theorem dX2_has_12 : decode cX2_has 12 = .ok (.iconst 1, 1) := by decide +kernel
theorem dX2_has_13 : decode cX2_has 13 = .ok (.goto 4, 3) := by decide +kernel
theorem dX2_has_16 : decode cX2_has 16 = .ok (.iconst 0, 1) := by decide +kernel
theorem dX2_has_17 : decode cX2_has 17 = .ok (.ireturn, 1) := by decide +kernel
set_option maxHeartbeats 2000000 in
set_option maxRecDepth 20000 in
theorem k_X2_has (l : Launch) (hfl : l.stackTraces = false) (D : va_G) (aT : Nat → ClassId) (a1 : Nat) (a2 : Nat) (a3 : Nat) (a4 : Nat) (fL : Nat → Int32) (fT : Nat → Int32) (fX : Nat → Int32) (nh : Nat) (lv : Nat → Nat) (th : Nat → Nat) (ta : Nat → Nat) (hH : HeC fL fT fX nh lv th ta) (x : Int32) : CxG l yX2_has cX2_has 2 (some (.boolean)) 0 0 0 0 D aT [.ref a1, .int x] [(a1, .inr (6, [.ref a2, .ref a3, .ref a4, .int (nI nh)])), (a2, .inl (aT 0, 6, .inl fL)), (a3, .inl (aT 0, 6, .inl fT)), (a4, .inl (aT 0, 6, .inl fX))] (qI D aT (fun r W1 => r = bI (isHB nh x) ∧ W1 = ([(a1, .inr (6, [.ref a2, .ref a3, .ref a4, .int (nI nh)])), (a2, .inl (aT 0, 6, .inl fL)), (a3, .inl (aT 0, 6, .inl fT)), (a4, .inl (aT 0, 6, .inl fX))] : va_W))) (fun _ _ => False) := by
  refine CxG.of RX2 (by decide +kernel) rfl (Nat.le_of_ble_eq_true rfl) ?_
  intro p e s m below meth c A ls C hml hl hA hr hlocks hex hnm hZ hW
  have hl : lv_has ls 2 [(0, .ref a1), (1, .int x)] := hl
  have hx := C.1
  have hb := C.2.1
  refine lv_iload_n hx hb dX2_has_0 rfl (lv_at hl 1 rfl) ?_
  refine lv_if_lt hx hb (x := x) (tgt := 16) dX2_has_1 (by decide) (fun c_1 => ?_) (fun c_1 => ?_)
  · refine lv_iconst (v := nI 0) hx hb dX2_has_16 (by decide) ?_
    exact cx_iret C hr hlocks (by decide) hW ⟨Nat.le_of_ble_eq_true rfl, Nat.le_of_ble_eq_true rfl⟩ (⟨isHB_lo c_1, rfl⟩) dX2_has_17
  · refine lv_iload_n hx hb dX2_has_4 rfl (lv_at hl 1 rfl) ?_
    refine lv_aload_n hx hb dX2_has_5 rfl (lv_at hl 0 rfl) ?_
    refine cx_get C hW 0 3 rfl rfl (by decide) inX2 gw_129 rfl rfl dX2_has_6 ?_
    refine lv_icmp_ge hx hb (x := x) (y := (nI nh)) (tgt := 16) dX2_has_9 (by decide) (fun c_9 => ?_) (fun c_9 => ?_)
    · refine lv_iconst (v := nI 0) hx hb dX2_has_16 (by decide) ?_
      exact cx_iret C hr hlocks (by decide) hW ⟨Nat.le_of_ble_eq_true rfl, Nat.le_of_ble_eq_true rfl⟩ (⟨isHB_hi (by have := hH.1; omega) c_9, rfl⟩) dX2_has_17
    · refine lv_iconst (v := nI 1) hx hb dX2_has_12 (by decide) ?_
      refine lv_goto (tgt := 17) hx hb dX2_has_13 (by decide) ?_
      exact cx_iret C hr hlocks (by decide) hW ⟨Nat.le_of_ble_eq_true rfl, Nat.le_of_ble_eq_true rfl⟩ (⟨isHB_in (by have := hH.1; omega) c_1 c_9, rfl⟩) dX2_has_17
theorem dX2_isFull_0 : decode cX2_isFull 0 = .ok (.aload_n 0, 1) := by decide +kernel
theorem dX2_isFull_1 : decode cX2_isFull 1 = .ok (.getfield 21, 3) := by decide +kernel
theorem dX2_isFull_4 : decode cX2_isFull 4 = .ok (.bipush 6, 2) := by decide +kernel
theorem dX2_isFull_6 : decode cX2_isFull 6 = .ok (.if_icmp .lt 7, 3) := by decide +kernel
theorem dX2_isFull_9 : decode cX2_isFull 9 = .ok (.iconst 1, 1) := by decide +kernel
theorem dX2_isFull_10 : decode cX2_isFull 10 = .ok (.goto 4, 3) := by decide +kernel
theorem dX2_isFull_13 : decode cX2_isFull 13 = .ok (.iconst 0, 1) := by decide +kernel
theorem dX2_isFull_14 : decode cX2_isFull 14 = .ok (.ireturn, 1) := by decide +kernel
set_option maxHeartbeats 2000000 in
set_option maxRecDepth 20000 in
theorem k_X2_isFull (l : Launch) (hfl : l.stackTraces = false) (D : va_G) (aT : Nat → ClassId) (a1 : Nat) (a2 : Nat) (a3 : Nat) (a4 : Nat) (fL : Nat → Int32) (fT : Nat → Int32) (fX : Nat → Int32) (nh : Nat) (lv : Nat → Nat) (th : Nat → Nat) (ta : Nat → Nat) (hH : HeC fL fT fX nh lv th ta) : CxG l yX2_isFull cX2_isFull 1 (some (.boolean)) 0 0 0 0 D aT [.ref a1] [(a1, .inr (6, [.ref a2, .ref a3, .ref a4, .int (nI nh)])), (a2, .inl (aT 0, 6, .inl fL)), (a3, .inl (aT 0, 6, .inl fT)), (a4, .inl (aT 0, 6, .inl fX))] (qI D aT (fun r W1 => r = bI (decide (6 ≤ nh)) ∧ W1 = ([(a1, .inr (6, [.ref a2, .ref a3, .ref a4, .int (nI nh)])), (a2, .inl (aT 0, 6, .inl fL)), (a3, .inl (aT 0, 6, .inl fT)), (a4, .inl (aT 0, 6, .inl fX))] : va_W))) (fun _ _ => False) := by
  refine CxG.of RX2 (by decide +kernel) rfl (Nat.le_of_ble_eq_true rfl) ?_
  intro p e s m below meth c A ls C hml hl hA hr hlocks hex hnm hZ hW
  have hl : lv_has ls 1 [(0, .ref a1)] := hl
  have hx := C.1
  have hb := C.2.1
  refine lv_aload_n hx hb dX2_isFull_0 rfl (lv_at hl 0 rfl) ?_
  refine cx_get C hW 0 3 rfl rfl (by decide) inX2 gw_129 rfl rfl dX2_isFull_1 ?_
  refine lv_bipush (v := nI 6) hx hb dX2_isFull_4 (by decide) ?_
  refine r_ltN hx hb (a := nh) (b := 6) (by have := hH.1; omega) (by have := hH.1; omega) (tgt := 13) dX2_isFull_6 (by decide) (fun c_6 => ?_) (fun c_6 => ?_)
  · refine lv_iconst (v := nI 0) hx hb dX2_isFull_13 (by decide) ?_
    exact cx_iret C hr hlocks (by decide) hW ⟨Nat.le_of_ble_eq_true rfl, Nat.le_of_ble_eq_true rfl⟩ (⟨by rw [decide_eq_false (by omega)]; rfl, rfl⟩) dX2_isFull_14
  · refine lv_iconst (v := nI 1) hx hb dX2_isFull_9 (by decide) ?_
    refine lv_goto (tgt := 14) hx hb dX2_isFull_10 (by decide) ?_
    exact cx_iret C hr hlocks (by decide) hW ⟨Nat.le_of_ble_eq_true rfl, Nat.le_of_ble_eq_true rfl⟩ (⟨by rw [decide_eq_true (by omega)]; rfl, rfl⟩) dX2_isFull_14
theorem dX2_difference_0 : decode cX2_difference 0 = .ok (.aload_n 0, 1) := by decide +kernel
theorem dX2_difference_1 : decode cX2_difference 1 = .ok (.getfield 18, 3) := by decide +kernel
theorem dX2_difference_4 : decode cX2_difference 4 = .ok (.iload_n 1, 1) := by decide +kernel
theorem dX2_difference_5 : decode cX2_difference 5 = .ok (.iaload, 1) := by decide +kernel
theorem dX2_difference_6 : decode cX2_difference 6 = .ok (.iload_n 2, 1) := by decide +kernel
theorem dX2_difference_7 : decode cX2_difference 7 = .ok (.isub, 1) := by decide +kernel
theorem dX2_difference_8 : decode cX2_difference 8 = .ok (.istore_n 3, 1) := by decide +kernel
theorem dX2_difference_9 : decode cX2_difference 9 = .ok (.iload_n 3, 1) := by decide +kernel
theorem dX2_difference_10 : decode cX2_difference 10 = .ok (.ifCond .ge 8, 3) := by decide +kernel
theorem dX2_difference_13 : decode cX2_difference 13 = .ok (.iload_n 3, 1) := by decide +kernel
theorem dX2_difference_14 : decode cX2_difference 14 = .ok (.ineg, 1) := by decide +kernel
theorem dX2_difference_15 : decode cX2_difference 15 = .ok (.goto 4, 3) := by decide +kernel
theorem dX2_difference_18 : decode cX2_difference 18 = .ok (.iload_n 3, 1) := by decide +kernel
theorem dX2_difference_19 : decode cX2_difference 19 = .ok (.ireturn, 1) := by decide +kernel
set_option maxHeartbeats 2000000 in
set_option maxRecDepth 20000 in
theorem k_X2_difference (l : Launch) (hfl : l.stackTraces = false) (D : va_G) (aT : Nat → ClassId) (a1 : Nat) (a2 : Nat) (a3 : Nat) (a4 : Nat) (fL : Nat → Int32) (fT : Nat → Int32) (fX : Nat → Int32) (nh : Nat) (lv : Nat → Nat) (th : Nat → Nat) (ta : Nat → Nat) (hH : HeC fL fT fX nh lv th ta) (i : Nat) (hi : i < nh) (t : Nat) (ht : t ≤ 9) : CxG l yX2_difference cX2_difference 4 (some (.int)) 0 0 0 0 D aT [.ref a1, .int (nI i), .int (nI t)] [(a1, .inr (6, [.ref a2, .ref a3, .ref a4, .int (nI nh)])), (a2, .inl (aT 0, 6, .inl fL)), (a3, .inl (aT 0, 6, .inl fT)), (a4, .inl (aT 0, 6, .inl fX))] (qI D aT (fun r W1 => r = nI (dif (ta i) t) ∧ W1 = ([(a1, .inr (6, [.ref a2, .ref a3, .ref a4, .int (nI nh)])), (a2, .inl (aT 0, 6, .inl fL)), (a3, .inl (aT 0, 6, .inl fT)), (a4, .inl (aT 0, 6, .inl fX))] : va_W))) (fun _ _ => False) := by
  refine CxG.of RX2 (by decide +kernel) rfl (Nat.le_of_ble_eq_true rfl) ?_
  intro p e s m below meth c A ls C hml hl hA hr hlocks hex hnm hZ hW
  have hl : lv_has ls 4 [(0, .ref a1), (1, .int (nI i)), (2, .int (nI t))] := hl
  have hx := C.1
  have hb := C.2.1
  refine lv_aload_n hx hb dX2_difference_0 rfl (lv_at hl 0 rfl) ?_
  refine cx_get C hW 0 2 rfl rfl (by decide) inX2 gw_128 rfl rfl dX2_difference_1 ?_
  refine lv_iload_n hx hb dX2_difference_4 rfl (lv_at hl 1 rfl) ?_
  refine cx_ald C hW 3 0 (j := i) rfl rfl rfl (by have := hH.1; omega) (by decide) dX2_difference_5 ?_
  refine r_eq (y := (nI (ta i))) ((hH.2.2.2 i (by first | assumption | omega)).1) ?_
  refine lv_iload_n hx hb dX2_difference_6 rfl (lv_at hl 2 rfl) ?_
  refine lv_isub hx hb dX2_difference_7 ?_
  refine lv_istore_n (lv' := [(3, .int ((nI (ta i)) - (nI t))), (0, .ref a1), (1, .int (nI i)), (2, .int (nI t))]) hx hb dX2_difference_8 rfl hl (by decide) rfl (fun ls hl => ?_)
  refine lv_iload_n hx hb dX2_difference_9 rfl (lv_at hl 0 rfl) ?_
  refine lv_if_ge hx hb (x := ((nI (ta i)) - (nI t))) (tgt := 18) dX2_difference_10 (by decide) (fun c_10 => ?_) (fun c_10 => ?_)
  · refine lv_iload_n hx hb dX2_difference_18 rfl (lv_at hl 0 rfl) ?_
    exact cx_iret C hr hlocks rfl hW ⟨Nat.le_of_ble_eq_true rfl, Nat.le_of_ble_eq_true rfl⟩ (⟨by have h5 := (dif_abs (a := ta i) (b := t) (by have := (hH.2.2.2 i hi).2; omega) (by omega)); rw [if_pos c_10] at h5; exact h5, rfl⟩) dX2_difference_19
  · refine lv_iload_n hx hb dX2_difference_13 rfl (lv_at hl 0 rfl) ?_
    refine lv_ineg hx hb dX2_difference_14 ?_
    refine lv_goto (tgt := 19) hx hb dX2_difference_15 (by decide) ?_
    exact cx_iret C hr hlocks rfl hW ⟨Nat.le_of_ble_eq_true rfl, Nat.le_of_ble_eq_true rfl⟩ (⟨by have h5 := (dif_abs (a := ta i) (b := t) (by have := (hH.2.2.2 i hi).2; omega) (by omega)); rw [if_neg c_10] at h5; rw [Int32.zero_sub] at h5; exact h5, rfl⟩) dX2_difference_19
theorem dX2_vetoes_0 : decode cX2_vetoes 0 = .ok (.aload_n 0, 1) := by decide +kernel
theorem dX2_vetoes_1 : decode cX2_vetoes 1 = .ok (.iload_n 1, 1) := by decide +kernel
theorem dX2_vetoes_2 : decode cX2_vetoes 2 = .ok (.iload_n 2, 1) := by decide +kernel
theorem dX2_vetoes_3 : decode cX2_vetoes 3 = .ok (.invokevirtual 31, 3) := by decide +kernel
theorem dX2_vetoes_6 : decode cX2_vetoes 6 = .ok (.bipush 7, 2) := by decide +kernel
theorem dX2_vetoes_8 : decode cX2_vetoes 8 = .ok (.if_icmp .lt 17, 3) := by decide +kernel
theorem dX2_vetoes_11 : decode cX2_vetoes 11 = .ok (.aload_n 0, 1) := by decide +kernel
theorem dX2_vetoes_12 : decode cX2_vetoes 12 = .ok (.getfield 15, 3) := by decide +kernel
theorem dX2_vetoes_15 : decode cX2_vetoes 15 = .ok (.iload_n 1, 1) := by decide +kernel
theorem dX2_vetoes_16 : decode cX2_vetoes 16 = .ok (.iaload, 1) := by decide +kernel
theorem dX2_vetoes_17 : decode cX2_vetoes 17 = .ok (.iconst 1, 1) := by decide +kernel
theorem dX2_vetoes_18 : decode cX2_vetoes 18 = .ok (.if_icmp .lt 7, 3) := by decide +kernel
theorem dX2_vetoes_21 : decode cX2_vetoes 21 = .ok (.iconst 1, 1) := by decide +kernel
theorem dX2_vetoes_22 : decode cX2_vetoes 22 = .ok (.goto 4, 3) := by decide +kernel
theorem dX2_vetoes_25 : decode cX2_vetoes 25 = .ok (.iconst 0, 1) := by decide +kernel
theorem dX2_vetoes_26 : decode cX2_vetoes 26 = .ok (.ireturn, 1) := by decide +kernel
theorem gV_X2_X2_difference_31 : GoodIn gw (wsV RX2 31 RX2 yX2_difference (Cond.code yX2_difference cX2_difference 4 (some .int) :: gw)) := gdV gw_780 gw_781 gw_782 gw_69 gw_783
theorem hV_X2_difference : yX2_difference.cls = RX2 ∧ yX2_difference.cls ≠ "java/lang/invoke/MethodHandle" ∧ yX2_difference.cls ≠ "java/lang/invoke/VarHandle" ∧ (parseMethodDescriptor yX2_difference.desc).map (fun d => d.parameters.length) = some 2 := ⟨rfl, by decide +kernel, by decide +kernel, by decide +kernel⟩
set_option maxHeartbeats 2000000 in
set_option maxRecDepth 20000 in
theorem k_X2_vetoes (l : Launch) (hfl : l.stackTraces = false) (D : va_G) (aT : Nat → ClassId) (a1 : Nat) (a2 : Nat) (a3 : Nat) (a4 : Nat) (fL : Nat → Int32) (fT : Nat → Int32) (fX : Nat → Int32) (nh : Nat) (lv : Nat → Nat) (th : Nat → Nat) (ta : Nat → Nat) (hH : HeC fL fT fX nh lv th ta) (i : Nat) (hi : i < nh) (t : Nat) (ht : t ≤ 9) : CxG l yX2_vetoes cX2_vetoes 3 (some (.boolean)) 1 0 0 23 D aT [.ref a1, .int (nI i), .int (nI t)] [(a1, .inr (6, [.ref a2, .ref a3, .ref a4, .int (nI nh)])), (a2, .inl (aT 0, 6, .inl fL)), (a3, .inl (aT 0, 6, .inl fT)), (a4, .inl (aT 0, 6, .inl fX))] (qI D aT (fun r W1 => r = bI (vetB (dif (ta i) t) (th i)) ∧ W1 = ([(a1, .inr (6, [.ref a2, .ref a3, .ref a4, .int (nI nh)])), (a2, .inl (aT 0, 6, .inl fL)), (a3, .inl (aT 0, 6, .inl fT)), (a4, .inl (aT 0, 6, .inl fX))] : va_W))) (fun _ _ => False) := by
  refine CxG.of RX2 (by decide +kernel) rfl (Nat.le_of_ble_eq_true rfl) ?_
  intro p e s m below meth c A ls C hml hl hA hr hlocks hex hnm hZ hW
  have hl : lv_has ls 3 [(0, .ref a1), (1, .int (nI i)), (2, .int (nI t))] := hl
  have hx := C.1
  have hb := C.2.1
  refine lv_aload_n hx hb dX2_vetoes_0 rfl (lv_at hl 0 rfl) ?_
  refine lv_iload_n hx hb dX2_vetoes_1 rfl (lv_at hl 1 rfl) ?_
  refine lv_iload_n hx hb dX2_vetoes_2 rfl (lv_at hl 2 rfl) ?_
  refine cx_calli (Wr := []) (cx_runV C hml hl.1 hZ hW hA (As := [.int (nI i), .int (nI t)]) (rest := []) (k_X2_difference l hfl D aT a1 a2 a3 a4 fL fT fX nh lv th ta hH i hi t ht) gV_X2_X2_difference_31 hV_X2_difference rfl ⟨Nat.le_of_ble_eq_true rfl, Nat.le_of_ble_eq_true rfl⟩ ⟨Nat.le_of_ble_eq_true rfl, Nat.le_of_ble_eq_true rfl⟩ [0, 1, 2, 3] rfl (by decide) 0 6 rfl rfl rfl rfl (Nat.le_of_ble_eq_true rfl) dX2_vetoes_3) hW hA [0, 1, 2, 3] [] rfl rfl (by decide) (by decide) (fun _ _ _ _ _ _ h9 => h9.elim) (fun r_3 W_3 H locs hq hW => ?_)
  obtain ⟨rfl, rfl⟩ := hq
  refine lv_bipush (v := nI 7) hx hb dX2_vetoes_6 (by decide) ?_
  refine r_ltN hx hb (a := dif (ta i) t) (b := 7) (by have := (hH.2.2.2 i hi).2; first | omega | (unfold dif; omega)) (by have := (hH.2.2.2 i hi).2; first | omega | (unfold dif; omega)) (tgt := 25) dX2_vetoes_8 (by decide) (fun c_8 => ?_) (fun c_8 => ?_)
  · refine lv_iconst (v := nI 0) hx hb dX2_vetoes_25 (by decide) ?_
    exact cx_iret C hr hlocks (by decide) hW ⟨Nat.le_of_ble_eq_true rfl, Nat.le_of_ble_eq_true rfl⟩ (⟨by unfold vetB; rw [decide_eq_false (by omega)]; rfl, rfl⟩) dX2_vetoes_26
  · refine lv_aload_n hx hb dX2_vetoes_11 rfl (lv_at hl 0 rfl) ?_
    refine cx_get C hW 0 1 rfl rfl (by decide) inX2 gw_126 rfl rfl dX2_vetoes_12 ?_
    refine lv_iload_n hx hb dX2_vetoes_15 rfl (lv_at hl 1 rfl) ?_
    refine cx_ald C hW 2 0 (j := i) rfl rfl rfl (by have := hH.1; omega) (by decide) dX2_vetoes_16 ?_
    refine r_eq (y := (nI (th i))) ((hH.2.2.1 i (by first | assumption | omega)).1) ?_
    refine lv_iconst (v := nI 1) hx hb dX2_vetoes_17 (by decide) ?_
    refine r_ltN hx hb (a := th i) (b := 1) (by have := (hH.2.2.1 i hi).2; omega) (by have := (hH.2.2.1 i hi).2; omega) (tgt := 25) dX2_vetoes_18 (by decide) (fun c_18 => ?_) (fun c_18 => ?_)
    · refine lv_iconst (v := nI 0) hx hb dX2_vetoes_25 (by decide) ?_
      exact cx_iret C hr hlocks (by decide) hW ⟨Nat.le_of_ble_eq_true rfl, Nat.le_of_ble_eq_true rfl⟩ (⟨by unfold vetB; rw [decide_eq_false (by omega)]; rfl, rfl⟩) dX2_vetoes_26
    · refine lv_iconst (v := nI 1) hx hb dX2_vetoes_21 (by decide) ?_
      refine lv_goto (tgt := 26) hx hb dX2_vetoes_22 (by decide) ?_
      exact cx_iret C hr hlocks (by decide) hW ⟨Nat.le_of_ble_eq_true rfl, Nat.le_of_ble_eq_true rfl⟩ (⟨by unfold vetB; rw [decide_eq_true (by omega)]; rfl, rfl⟩) dX2_vetoes_26
theorem dX2_leavesFor_0 : decode cX2_leavesFor 0 = .ok (.iconst 0, 1) := by decide +kernel
theorem dX2_leavesFor_1 : decode cX2_leavesFor 1 = .ok (.istore_n 2, 1) := by decide +kernel
theorem dX2_leavesFor_2 : decode cX2_leavesFor 2 = .ok (.iconst 0, 1) := by decide +kernel
theorem dX2_leavesFor_3 : decode cX2_leavesFor 3 = .ok (.istore_n 3, 1) := by decide +kernel
theorem dX2_leavesFor_4 : decode cX2_leavesFor 4 = .ok (.iload_n 3, 1) := by decide +kernel
theorem dX2_leavesFor_5 : decode cX2_leavesFor 5 = .ok (.aload_n 0, 1) := by decide +kernel
theorem dX2_leavesFor_6 : decode cX2_leavesFor 6 = .ok (.getfield 21, 3) := by decide +kernel
theorem dX2_leavesFor_9 : decode cX2_leavesFor 9 = .ok (.if_icmp .ge 28, 3) := by decide +kernel
theorem dX2_leavesFor_12 : decode cX2_leavesFor 12 = .ok (.aload_n 0, 1) := by decide +kernel
theorem dX2_leavesFor_13 : decode cX2_leavesFor 13 = .ok (.iload_n 3, 1) := by decide +kernel
theorem dX2_leavesFor_14 : decode cX2_leavesFor 14 = .ok (.iload_n 1, 1) := by decide +kernel
theorem dX2_leavesFor_15 : decode cX2_leavesFor 15 = .ok (.invokevirtual 31, 3) := by decide +kernel
theorem dX2_leavesFor_18 : decode cX2_leavesFor 18 = .ok (.iconst 3, 1) := by decide +kernel
theorem dX2_leavesFor_19 : decode cX2_leavesFor 19 = .ok (.if_icmp .gt 12, 3) := by decide +kernel
theorem dX2_leavesFor_22 : decode cX2_leavesFor 22 = .ok (.iload_n 2, 1) := by decide +kernel
theorem dX2_leavesFor_23 : decode cX2_leavesFor 23 = .ok (.aload_n 0, 1) := by decide +kernel
theorem dX2_leavesFor_24 : decode cX2_leavesFor 24 = .ok (.getfield 9, 3) := by decide +kernel
theorem dX2_leavesFor_27 : decode cX2_leavesFor 27 = .ok (.iload_n 3, 1) := by decide +kernel
theorem dX2_leavesFor_28 : decode cX2_leavesFor 28 = .ok (.iaload, 1) := by decide +kernel
theorem dX2_leavesFor_29 : decode cX2_leavesFor 29 = .ok (.iadd, 1) := by decide +kernel
theorem dX2_leavesFor_30 : decode cX2_leavesFor 30 = .ok (.istore_n 2, 1) := by decide +kernel
theorem dX2_leavesFor_31 : decode cX2_leavesFor 31 = .ok (.iinc 3 1, 3) := by decide +kernel
theorem dX2_leavesFor_34 : decode cX2_leavesFor 34 = .ok (.goto (-30), 3) := by decide +kernel
theorem dX2_leavesFor_37 : decode cX2_leavesFor 37 = .ok (.iload_n 2, 1) := by decide +kernel
theorem dX2_leavesFor_38 : decode cX2_leavesFor 38 = .ok (.ireturn, 1) := by decide +kernel
set_option maxHeartbeats 2000000 in
set_option maxRecDepth 20000 in
theorem k_X2_leavesFor (l : Launch) (hfl : l.stackTraces = false) (D : va_G) (aT : Nat → ClassId) (a1 : Nat) (a2 : Nat) (a3 : Nat) (a4 : Nat) (fL : Nat → Int32) (fT : Nat → Int32) (fX : Nat → Int32) (nh : Nat) (lv : Nat → Nat) (th : Nat → Nat) (ta : Nat → Nat) (hH : HeC fL fT fX nh lv th ta) (t : Nat) (ht : t ≤ 9) : CxG l yX2_leavesFor cX2_leavesFor 4 (some (.int)) 1 0 0 23 D aT [.ref a1, .int (nI t)] [(a1, .inr (6, [.ref a2, .ref a3, .ref a4, .int (nI nh)])), (a2, .inl (aT 0, 6, .inl fL)), (a3, .inl (aT 0, 6, .inl fT)), (a4, .inl (aT 0, 6, .inl fX))] (qI D aT (fun r W1 => r = nI (fav lv ta t nh) ∧ W1 = ([(a1, .inr (6, [.ref a2, .ref a3, .ref a4, .int (nI nh)])), (a2, .inl (aT 0, 6, .inl fL)), (a3, .inl (aT 0, 6, .inl fT)), (a4, .inl (aT 0, 6, .inl fX))] : va_W))) (fun _ _ => False) := by
  refine CxG.of RX2 (by decide +kernel) rfl (Nat.le_of_ble_eq_true rfl) ?_
  intro p e s m below meth c A ls C hml hl hA hr hlocks hex hnm hZ hW
  have hl : lv_has ls 4 [(0, .ref a1), (1, .int (nI t))] := hl
  have hx := C.1
  have hb := C.2.1
  refine lv_iconst (v := nI 0) hx hb dX2_leavesFor_0 (by decide) ?_
  refine lv_istore_n (lv' := [(2, .int (nI 0)), (0, .ref a1), (1, .int (nI t))]) hx hb dX2_leavesFor_1 rfl hl (by decide) rfl (fun ls hl => ?_)
  refine lv_iconst (v := nI 0) hx hb dX2_leavesFor_2 (by decide) ?_
  refine lv_istore_n (lv' := [(3, .int (nI 0)), (2, .int (nI 0)), (0, .ref a1), (1, .int (nI t))]) hx hb dX2_leavesFor_3 rfl hl (by decide) rfl (fun ls hl => ?_)
  refine W_loopH (σ := Nat) (fun z_ => nh - z_) (fun z_ H locs g => ∃ ls, g = F0 m 4 ls [] ∧ lv_has ls 4 [(3, .int (nI z_)), (2, .int (nI (fav lv ta t z_))), (1, .int (nI t)), (0, .ref a1)] ∧ CxB D [(a1, .inr (6, [.ref a2, .ref a3, .ref a4, .int (nI nh)])), (a2, .inl (aT 0, 6, .inl fL)), (a3, .inl (aT 0, 6, .inl fT)), (a4, .inl (aT 0, 6, .inl fX))] A s.heap H locs ∧ z_ ≤ nh) ?_ 0 _ ⟨_, rfl, lv_sub hl [0, 1, 3, 2] rfl, hW, Nat.zero_le _⟩
  clear hW hl
  rintro i H locs g ⟨ls, rfl, hl, hW, hi⟩ ih_4
  refine lv_iload_n hx hb dX2_leavesFor_4 rfl (lv_at hl 0 rfl) ?_
  refine lv_aload_n hx hb dX2_leavesFor_5 rfl (lv_at hl 3 rfl) ?_
  refine cx_get C hW 0 3 rfl rfl (by decide) inX2 gw_129 rfl rfl dX2_leavesFor_6 ?_
  refine r_geN hx hb (a := i) (b := nh) (by have := hH.1; omega) (by have := hH.1; omega) (tgt := 37) dX2_leavesFor_9 (by decide) (fun c_9 => ?_) (fun c_9 => ?_)
  · refine lv_iload_n hx hb dX2_leavesFor_37 rfl (lv_at hl 1 rfl) ?_
    exact cx_iret C hr hlocks rfl hW ⟨Nat.le_of_ble_eq_true rfl, Nat.le_of_ble_eq_true rfl⟩ (⟨by rw [show i = nh by omega], rfl⟩) dX2_leavesFor_38
  · refine lv_aload_n hx hb dX2_leavesFor_12 rfl (lv_at hl 3 rfl) ?_
    refine lv_iload_n hx hb dX2_leavesFor_13 rfl (lv_at hl 0 rfl) ?_
    refine lv_iload_n hx hb dX2_leavesFor_14 rfl (lv_at hl 2 rfl) ?_
    refine cx_calli (Wr := []) (cx_runV C hml hl.1 hZ hW hA (As := [.int (nI i), .int (nI t)]) (rest := []) (k_X2_difference l hfl D aT a1 a2 a3 a4 fL fT fX nh lv th ta hH i (show i < nh by omega) t ht) gV_X2_X2_difference_31 hV_X2_difference rfl ⟨Nat.le_of_ble_eq_true rfl, Nat.le_of_ble_eq_true rfl⟩ ⟨Nat.le_of_ble_eq_true rfl, Nat.le_of_ble_eq_true rfl⟩ [0, 1, 2, 3] rfl (by decide) 0 6 rfl rfl rfl rfl (Nat.le_of_ble_eq_true rfl) dX2_leavesFor_15) hW hA [0, 1, 2, 3] [] rfl rfl (by decide) (by decide) (fun _ _ _ _ _ _ h9 => h9.elim) (fun r_15 W_15 H locs hq hW => ?_)
    obtain ⟨rfl, rfl⟩ := hq
    refine lv_iconst (v := nI 3) hx hb dX2_leavesFor_18 (by decide) ?_
    refine r_gtN hx hb (a := dif (ta i) t) (b := 3) (by have := (hH.2.2.2 i (by omega)).2; first | omega | (unfold dif; omega)) (by have := (hH.2.2.2 i (by omega)).2; first | omega | (unfold dif; omega)) (tgt := 31) dX2_leavesFor_19 (by decide) (fun c_19 => ?_) (fun c_19 => ?_)
    · have hl : lv_has ls 4 [(3, .int (nI i)), (2, .int (nI (fav lv ta t (i + 1)))), (1, .int (nI t)), (0, .ref a1)] := by
        rw [show nI (fav lv ta t (i + 1)) = nI (fav lv ta t i) from congrArg nI (by rw [fav, if_neg (by omega), Nat.add_zero])]
        exact hl
      refine lv_iinc (v := (nI (i + 1))) (lv' := [(3, .int (nI (i + 1))), (2, .int (nI (fav lv ta t (i + 1)))), (1, .int (nI t)), (0, .ref a1)]) hx hb dX2_leavesFor_31 hl (k := 0) rfl (nI_1 _) (by decide) rfl (fun ls hl => ?_)
      refine lv_goto (tgt := 4) hx hb dX2_leavesFor_34 (by decide) ?_
      exact ih_4 (i + 1) _ _ _ (by first | omega | (dsimp only; omega)) ⟨_, rfl, lv_sub hl [0, 1, 2, 3] rfl, hW, (by omega)⟩
    · refine lv_iload_n hx hb dX2_leavesFor_22 rfl (lv_at hl 1 rfl) ?_
      refine lv_aload_n hx hb dX2_leavesFor_23 rfl (lv_at hl 3 rfl) ?_
      refine cx_get C hW 0 0 rfl rfl (by decide) inX2 gw_124 rfl rfl dX2_leavesFor_24 ?_
      refine lv_iload_n hx hb dX2_leavesFor_27 rfl (lv_at hl 0 rfl) ?_
      refine cx_ald C hW 1 0 (j := i) rfl rfl rfl (by have := hH.1; omega) (by decide) dX2_leavesFor_28 ?_
      refine r_eq (y := (nI (lv i))) ((hH.2.1 i (by first | assumption | omega)).1) ?_
      refine r_iaddN hx hb (a := fav lv ta t i) (b := lv i) dX2_leavesFor_29 ?_
      refine r_eq (y := (nI (fav lv ta t (i + 1)))) (by rw [fav, if_pos (by omega)]) ?_
      refine lv_istore_n (lv' := [(2, .int (nI (fav lv ta t (i + 1)))), (3, .int (nI i)), (1, .int (nI t)), (0, .ref a1)]) hx hb dX2_leavesFor_30 rfl hl (by decide) rfl (fun ls hl => ?_)
      refine lv_iinc (v := (nI (i + 1))) (lv' := [(3, .int (nI (i + 1))), (2, .int (nI (fav lv ta t (i + 1)))), (1, .int (nI t)), (0, .ref a1)]) hx hb dX2_leavesFor_31 hl (k := 1) rfl (nI_1 _) (by decide) rfl (fun ls hl => ?_)
      refine lv_goto (tgt := 4) hx hb dX2_leavesFor_34 (by decide) ?_
      exact ih_4 (i + 1) _ _ _ (by first | omega | (dsimp only; omega)) ⟨_, rfl, lv_sub hl [0, 1, 2, 3] rfl, hW, (by omega)⟩
theorem dX2_totalLeaves_0 : decode cX2_totalLeaves 0 = .ok (.iconst 0, 1) := by decide +kernel
theorem dX2_totalLeaves_1 : decode cX2_totalLeaves 1 = .ok (.istore_n 1, 1) := by decide +kernel
theorem dX2_totalLeaves_2 : decode cX2_totalLeaves 2 = .ok (.iconst 0, 1) := by decide +kernel
theorem dX2_totalLeaves_3 : decode cX2_totalLeaves 3 = .ok (.istore_n 2, 1) := by decide +kernel
theorem dX2_totalLeaves_4 : decode cX2_totalLeaves 4 = .ok (.iload_n 2, 1) := by decide +kernel
theorem dX2_totalLeaves_5 : decode cX2_totalLeaves 5 = .ok (.aload_n 0, 1) := by decide +kernel
theorem dX2_totalLeaves_6 : decode cX2_totalLeaves 6 = .ok (.getfield 21, 3) := by decide +kernel
theorem dX2_totalLeaves_9 : decode cX2_totalLeaves 9 = .ok (.if_icmp .ge 18, 3) := by decide +kernel
theorem dX2_totalLeaves_12 : decode cX2_totalLeaves 12 = .ok (.iload_n 1, 1) := by decide +kernel
theorem dX2_totalLeaves_13 : decode cX2_totalLeaves 13 = .ok (.aload_n 0, 1) := by decide +kernel
theorem dX2_totalLeaves_14 : decode cX2_totalLeaves 14 = .ok (.getfield 9, 3) := by decide +kernel
theorem dX2_totalLeaves_17 : decode cX2_totalLeaves 17 = .ok (.iload_n 2, 1) := by decide +kernel
theorem dX2_totalLeaves_18 : decode cX2_totalLeaves 18 = .ok (.iaload, 1) := by decide +kernel
theorem dX2_totalLeaves_19 : decode cX2_totalLeaves 19 = .ok (.iadd, 1) := by decide +kernel
theorem dX2_totalLeaves_20 : decode cX2_totalLeaves 20 = .ok (.istore_n 1, 1) := by decide +kernel
theorem dX2_totalLeaves_21 : decode cX2_totalLeaves 21 = .ok (.iinc 2 1, 3) := by decide +kernel
theorem dX2_totalLeaves_24 : decode cX2_totalLeaves 24 = .ok (.goto (-20), 3) := by decide +kernel
theorem dX2_totalLeaves_27 : decode cX2_totalLeaves 27 = .ok (.iload_n 1, 1) := by decide +kernel
theorem dX2_totalLeaves_28 : decode cX2_totalLeaves 28 = .ok (.ireturn, 1) := by decide +kernel
set_option maxHeartbeats 2000000 in
set_option maxRecDepth 20000 in
theorem k_X2_totalLeaves (l : Launch) (hfl : l.stackTraces = false) (D : va_G) (aT : Nat → ClassId) (a1 : Nat) (a2 : Nat) (a3 : Nat) (a4 : Nat) (fL : Nat → Int32) (fT : Nat → Int32) (fX : Nat → Int32) (nh : Nat) (lv : Nat → Nat) (th : Nat → Nat) (ta : Nat → Nat) (hH : HeC fL fT fX nh lv th ta) : CxG l yX2_totalLeaves cX2_totalLeaves 3 (some (.int)) 0 0 0 0 D aT [.ref a1] [(a1, .inr (6, [.ref a2, .ref a3, .ref a4, .int (nI nh)])), (a2, .inl (aT 0, 6, .inl fL)), (a3, .inl (aT 0, 6, .inl fT)), (a4, .inl (aT 0, 6, .inl fX))] (qI D aT (fun r W1 => r = nI (sml lv nh) ∧ W1 = ([(a1, .inr (6, [.ref a2, .ref a3, .ref a4, .int (nI nh)])), (a2, .inl (aT 0, 6, .inl fL)), (a3, .inl (aT 0, 6, .inl fT)), (a4, .inl (aT 0, 6, .inl fX))] : va_W))) (fun _ _ => False) := by
  refine CxG.of RX2 (by decide +kernel) rfl (Nat.le_of_ble_eq_true rfl) ?_
  intro p e s m below meth c A ls C hml hl hA hr hlocks hex hnm hZ hW
  have hl : lv_has ls 3 [(0, .ref a1)] := hl
  have hx := C.1
  have hb := C.2.1
  refine lv_iconst (v := nI 0) hx hb dX2_totalLeaves_0 (by decide) ?_
  refine lv_istore_n (lv' := [(1, .int (nI 0)), (0, .ref a1)]) hx hb dX2_totalLeaves_1 rfl hl (by decide) rfl (fun ls hl => ?_)
  refine lv_iconst (v := nI 0) hx hb dX2_totalLeaves_2 (by decide) ?_
  refine lv_istore_n (lv' := [(2, .int (nI 0)), (1, .int (nI 0)), (0, .ref a1)]) hx hb dX2_totalLeaves_3 rfl hl (by decide) rfl (fun ls hl => ?_)
  refine W_loopH (σ := Nat) (fun z_ => nh - z_) (fun z_ H locs g => ∃ ls, g = F0 m 4 ls [] ∧ lv_has ls 3 [(2, .int (nI z_)), (1, .int (nI (sml lv z_))), (0, .ref a1)] ∧ CxB D [(a1, .inr (6, [.ref a2, .ref a3, .ref a4, .int (nI nh)])), (a2, .inl (aT 0, 6, .inl fL)), (a3, .inl (aT 0, 6, .inl fT)), (a4, .inl (aT 0, 6, .inl fX))] A s.heap H locs ∧ z_ ≤ nh) ?_ 0 _ ⟨_, rfl, lv_sub hl [0, 1, 2] rfl, hW, Nat.zero_le _⟩
  clear hW hl
  rintro i H locs g ⟨ls, rfl, hl, hW, hi⟩ ih_4
  refine lv_iload_n hx hb dX2_totalLeaves_4 rfl (lv_at hl 0 rfl) ?_
  refine lv_aload_n hx hb dX2_totalLeaves_5 rfl (lv_at hl 2 rfl) ?_
  refine cx_get C hW 0 3 rfl rfl (by decide) inX2 gw_129 rfl rfl dX2_totalLeaves_6 ?_
  refine r_geN hx hb (a := i) (b := nh) (by have := hH.1; omega) (by have := hH.1; omega) (tgt := 27) dX2_totalLeaves_9 (by decide) (fun c_9 => ?_) (fun c_9 => ?_)
  · refine lv_iload_n hx hb dX2_totalLeaves_27 rfl (lv_at hl 1 rfl) ?_
    exact cx_iret C hr hlocks rfl hW ⟨Nat.le_of_ble_eq_true rfl, Nat.le_of_ble_eq_true rfl⟩ (⟨by rw [show i = nh by omega], rfl⟩) dX2_totalLeaves_28
  · refine lv_iload_n hx hb dX2_totalLeaves_12 rfl (lv_at hl 1 rfl) ?_
    refine lv_aload_n hx hb dX2_totalLeaves_13 rfl (lv_at hl 2 rfl) ?_
    refine cx_get C hW 0 0 rfl rfl (by decide) inX2 gw_124 rfl rfl dX2_totalLeaves_14 ?_
    refine lv_iload_n hx hb dX2_totalLeaves_17 rfl (lv_at hl 0 rfl) ?_
    refine cx_ald C hW 1 0 (j := i) rfl rfl rfl (by have := hH.1; omega) (by decide) dX2_totalLeaves_18 ?_
    refine r_eq (y := (nI (lv i))) ((hH.2.1 i (by first | assumption | omega)).1) ?_
    refine r_iaddN hx hb (a := sml lv i) (b := lv i) dX2_totalLeaves_19 ?_
    refine r_eq (y := (nI (sml lv (i + 1)))) (rfl) ?_
    refine lv_istore_n (lv' := [(1, .int (nI (sml lv (i + 1)))), (2, .int (nI i)), (0, .ref a1)]) hx hb dX2_totalLeaves_20 rfl hl (by decide) rfl (fun ls hl => ?_)
    refine lv_iinc (v := (nI (i + 1))) (lv' := [(2, .int (nI (i + 1))), (1, .int (nI (sml lv (i + 1)))), (0, .ref a1)]) hx hb dX2_totalLeaves_21 hl (k := 1) rfl (nI_1 _) (by decide) rfl (fun ls hl => ?_)
    refine lv_goto (tgt := 4) hx hb dX2_totalLeaves_24 (by decide) ?_
    exact ih_4 (i + 1) _ _ _ (by first | omega | (dsimp only; omega)) ⟨_, rfl, lv_sub hl [0, 1, 2] rfl, hW, (by omega)⟩
theorem dX2_add_0 : decode cX2_add 0 = .ok (.aload_n 0, 1) := by decide +kernel
theorem dX2_add_1 : decode cX2_add 1 = .ok (.getfield 21, 3) := by decide +kernel
theorem dX2_add_4 : decode cX2_add 4 = .ok (.istore 4, 2) := by decide +kernel
theorem dX2_add_6 : decode cX2_add 6 = .ok (.aload_n 0, 1) := by decide +kernel
theorem dX2_add_7 : decode cX2_add 7 = .ok (.getfield 9, 3) := by decide +kernel
theorem dX2_add_10 : decode cX2_add 10 = .ok (.iload 4, 2) := by decide +kernel
theorem dX2_add_12 : decode cX2_add 12 = .ok (.iload_n 1, 1) := by decide +kernel
theorem dX2_add_13 : decode cX2_add 13 = .ok (.iastore, 1) := by decide +kernel
theorem dX2_add_14 : decode cX2_add 14 = .ok (.aload_n 0, 1) := by decide +kernel
theorem dX2_add_15 : decode cX2_add 15 = .ok (.getfield 15, 3) := by decide +kernel
theorem dX2_add_18 : decode cX2_add 18 = .ok (.iload 4, 2) := by decide +kernel
theorem dX2_add_20 : decode cX2_add 20 = .ok (.iload_n 2, 1) := by decide +kernel
theorem dX2_add_21 : decode cX2_add 21 = .ok (.iastore, 1) := by decide +kernel
theorem dX2_add_22 : decode cX2_add 22 = .ok (.aload_n 0, 1) := by decide +kernel
theorem dX2_add_23 : decode cX2_add 23 = .ok (.getfield 18, 3) := by decide +kernel
theorem dX2_add_26 : decode cX2_add 26 = .ok (.iload 4, 2) := by decide +kernel
theorem dX2_add_28 : decode cX2_add 28 = .ok (.iload_n 3, 1) := by decide +kernel
theorem dX2_add_29 : decode cX2_add 29 = .ok (.iastore, 1) := by decide +kernel
theorem dX2_add_30 : decode cX2_add 30 = .ok (.aload_n 0, 1) := by decide +kernel
theorem dX2_add_31 : decode cX2_add 31 = .ok (.iload 4, 2) := by decide +kernel
theorem dX2_add_33 : decode cX2_add 33 = .ok (.iconst 1, 1) := by decide +kernel
theorem dX2_add_34 : decode cX2_add 34 = .ok (.iadd, 1) := by decide +kernel
theorem dX2_add_35 : decode cX2_add 35 = .ok (.putfield 21, 3) := by decide +kernel
theorem dX2_add_38 : decode cX2_add 38 = .ok (.iload 4, 2) := by decide +kernel
theorem dX2_add_40 : decode cX2_add 40 = .ok (.ireturn, 1) := by decide +kernel
set_option maxHeartbeats 2000000 in
set_option maxRecDepth 20000 in
theorem k_X2_add (l : Launch) (hfl : l.stackTraces = false) (D : va_G) (aT : Nat → ClassId) (a1 : Nat) (a2 : Nat) (a3 : Nat) (a4 : Nat) (fL : Nat → Int32) (fT : Nat → Int32) (fX : Nat → Int32) (nh : Nat) (lv : Nat → Nat) (th : Nat → Nat) (ta : Nat → Nat) (hH : HeC fL fT fX nh lv th ta) (x : Int32) (y : Int32) (z : Int32) (h6 : nh < 6) : CxG l yX2_add cX2_add 5 (some (.int)) 0 0 0 0 D aT [.ref a1, .int x, .int y, .int z] [(a1, .inr (6, [.ref a2, .ref a3, .ref a4, .int (nI nh)])), (a2, .inl (aT 0, 6, .inl fL)), (a3, .inl (aT 0, 6, .inl fT)), (a4, .inl (aT 0, 6, .inl fX))] (qI D aT (fun r W1 => r = (nI nh) ∧ W1 = ([(a1, .inr (6, [.ref a2, .ref a3, .ref a4, .int (nI (nh + 1))])), (a2, .inl (aT 0, 6, .inl (upd fL nh (x)))), (a3, .inl (aT 0, 6, .inl (upd fT nh (y)))), (a4, .inl (aT 0, 6, .inl (upd fX nh (z))))] : va_W))) (fun _ _ => False) := by
  refine CxG.of RX2 (by decide +kernel) rfl (Nat.le_of_ble_eq_true rfl) ?_
  intro p e s m below meth c A ls C hml hl hA hr hlocks hex hnm hZ hW
  have hl : lv_has ls 5 [(0, .ref a1), (1, .int x), (2, .int y), (3, .int z)] := hl
  have hx := C.1
  have hb := C.2.1
  refine lv_aload_n hx hb dX2_add_0 rfl (lv_at hl 0 rfl) ?_
  refine cx_get C hW 0 3 rfl rfl (by decide) inX2 gw_129 rfl rfl dX2_add_1 ?_
  refine lv_istore (lv' := [(4, .int (nI nh)), (0, .ref a1), (1, .int x), (2, .int y), (3, .int z)]) hx hb dX2_add_4 hl (by decide) rfl (fun ls hl => ?_)
  refine lv_aload_n hx hb dX2_add_6 rfl (lv_at hl 1 rfl) ?_
  refine cx_get C hW 0 0 rfl rfl (by decide) inX2 gw_124 rfl rfl dX2_add_7 ?_
  refine lv_iload hx hb dX2_add_10 (lv_at hl 0 rfl) ?_
  refine lv_iload_n hx hb dX2_add_12 rfl (lv_at hl 2 rfl) ?_
  refine cx_ast C hW 1 0 (j := nh) (W1 := [(a1, .inr (6, [.ref a2, .ref a3, .ref a4, .int (nI nh)])), (a2, .inl (aT 0, 6, .inl (upd fL nh (x)))), (a3, .inl (aT 0, 6, .inl fT)), (a4, .inl (aT 0, 6, .inl fX))]) rfl rfl rfl (by omega) (by decide) rfl dX2_add_13 (fun H locs hW => ?_)
  refine lv_aload_n hx hb dX2_add_14 rfl (lv_at hl 1 rfl) ?_
  refine cx_get C hW 0 1 rfl rfl (by decide) inX2 gw_126 rfl rfl dX2_add_15 ?_
  refine lv_iload hx hb dX2_add_18 (lv_at hl 0 rfl) ?_
  refine lv_iload_n hx hb dX2_add_20 rfl (lv_at hl 3 rfl) ?_
  refine cx_ast C hW 2 0 (j := nh) (W1 := [(a1, .inr (6, [.ref a2, .ref a3, .ref a4, .int (nI nh)])), (a2, .inl (aT 0, 6, .inl (upd fL nh (x)))), (a3, .inl (aT 0, 6, .inl (upd fT nh (y)))), (a4, .inl (aT 0, 6, .inl fX))]) rfl rfl rfl (by omega) (by decide) rfl dX2_add_21 (fun H locs hW => ?_)
  refine lv_aload_n hx hb dX2_add_22 rfl (lv_at hl 1 rfl) ?_
  refine cx_get C hW 0 2 rfl rfl (by decide) inX2 gw_128 rfl rfl dX2_add_23 ?_
  refine lv_iload hx hb dX2_add_26 (lv_at hl 0 rfl) ?_
  refine lv_iload_n hx hb dX2_add_28 rfl (lv_at hl 4 rfl) ?_
  refine cx_ast C hW 3 0 (j := nh) (W1 := [(a1, .inr (6, [.ref a2, .ref a3, .ref a4, .int (nI nh)])), (a2, .inl (aT 0, 6, .inl (upd fL nh (x)))), (a3, .inl (aT 0, 6, .inl (upd fT nh (y)))), (a4, .inl (aT 0, 6, .inl (upd fX nh (z))))]) rfl rfl rfl (by omega) (by decide) rfl dX2_add_29 (fun H locs hW => ?_)
  refine lv_aload_n hx hb dX2_add_30 rfl (lv_at hl 1 rfl) ?_
  refine lv_iload hx hb dX2_add_31 (lv_at hl 0 rfl) ?_
  refine lv_iconst (v := nI 1) hx hb dX2_add_33 (by decide) ?_
  refine r_iaddN hx hb (a := nh) (b := 1) dX2_add_34 ?_
  refine cx_put C hW 0 3 (W1 := [(a1, .inr (6, [.ref a2, .ref a3, .ref a4, .int (nI (nh + 1))])), (a2, .inl (aT 0, 6, .inl (upd fL nh (x)))), (a3, .inl (aT 0, 6, .inl (upd fT nh (y)))), (a4, .inl (aT 0, 6, .inl (upd fX nh (z))))]) rfl rfl (by decide) inX2 tyX2 tyX2_ok nmX2 gw_129 rfl rfl rfl rfl rfl (Nat.le_of_ble_eq_true rfl) rfl dX2_add_35 (fun H locs hW => ?_)
  refine lv_iload hx hb dX2_add_38 (lv_at hl 0 rfl) ?_
  exact cx_iret C hr hlocks rfl hW ⟨Nat.le_of_ble_eq_true rfl, Nat.le_of_ble_eq_true rfl⟩ (⟨rfl, rfl⟩) dX2_add_40
theorem dX2_decideOn_0 : decode cX2_decideOn 0 = .ok (.iconst 0, 1) := by decide +kernel
theorem dX2_decideOn_1 : decode cX2_decideOn 1 = .ok (.istore_n 2, 1) := by decide +kernel
theorem dX2_decideOn_2 : decode cX2_decideOn 2 = .ok (.iconst 0, 1) := by decide +kernel
theorem dX2_decideOn_3 : decode cX2_decideOn 3 = .ok (.istore_n 3, 1) := by decide +kernel
theorem dX2_decideOn_4 : decode cX2_decideOn 4 = .ok (.iload_n 3, 1) := by decide +kernel
theorem dX2_decideOn_5 : decode cX2_decideOn 5 = .ok (.aload_n 0, 1) := by decide +kernel
theorem dX2_decideOn_6 : decode cX2_decideOn 6 = .ok (.getfield 21, 3) := by decide +kernel
theorem dX2_decideOn_9 : decode cX2_decideOn 9 = .ok (.if_icmp .ge 30, 3) := by decide +kernel
theorem dX2_decideOn_12 : decode cX2_decideOn 12 = .ok (.aload_n 0, 1) := by decide +kernel
theorem dX2_decideOn_13 : decode cX2_decideOn 13 = .ok (.iload_n 3, 1) := by decide +kernel
theorem dX2_decideOn_14 : decode cX2_decideOn 14 = .ok (.iload_n 1, 1) := by decide +kernel
theorem dX2_decideOn_15 : decode cX2_decideOn 15 = .ok (.invokevirtual 35, 3) := by decide +kernel
theorem dX2_decideOn_18 : decode cX2_decideOn 18 = .ok (.ifCond .eq 15, 3) := by decide +kernel
theorem dX2_decideOn_21 : decode cX2_decideOn 21 = .ok (.aload_n 0, 1) := by decide +kernel
theorem dX2_decideOn_22 : decode cX2_decideOn 22 = .ok (.getfield 15, 3) := by decide +kernel
theorem dX2_decideOn_25 : decode cX2_decideOn 25 = .ok (.iload_n 3, 1) := by decide +kernel
theorem dX2_decideOn_26 : decode cX2_decideOn 26 = .ok (.dup2, 1) := by decide +kernel
theorem dX2_decideOn_27 : decode cX2_decideOn 27 = .ok (.iaload, 1) := by decide +kernel
theorem dX2_decideOn_28 : decode cX2_decideOn 28 = .ok (.iconst 1, 1) := by decide +kernel
theorem dX2_decideOn_29 : decode cX2_decideOn 29 = .ok (.isub, 1) := by decide +kernel
theorem dX2_decideOn_30 : decode cX2_decideOn 30 = .ok (.iastore, 1) := by decide +kernel
theorem dX2_decideOn_31 : decode cX2_decideOn 31 = .ok (.iconst 1, 1) := by decide +kernel
theorem dX2_decideOn_32 : decode cX2_decideOn 32 = .ok (.istore_n 2, 1) := by decide +kernel
theorem dX2_decideOn_33 : decode cX2_decideOn 33 = .ok (.iinc 3 1, 3) := by decide +kernel
theorem dX2_decideOn_36 : decode cX2_decideOn 36 = .ok (.goto (-32), 3) := by decide +kernel
theorem dX2_decideOn_39 : decode cX2_decideOn 39 = .ok (.iload_n 2, 1) := by decide +kernel
theorem dX2_decideOn_40 : decode cX2_decideOn 40 = .ok (.ifCond .eq 6, 3) := by decide +kernel
theorem dX2_decideOn_43 : decode cX2_decideOn 43 = .ok (.bipush 118, 2) := by decide +kernel
theorem dX2_decideOn_45 : decode cX2_decideOn 45 = .ok (.ireturn, 1) := by decide +kernel
theorem dX2_decideOn_46 : decode cX2_decideOn 46 = .ok (.iconst 2, 1) := by decide +kernel
theorem dX2_decideOn_47 : decode cX2_decideOn 47 = .ok (.aload_n 0, 1) := by decide +kernel
theorem dX2_decideOn_48 : decode cX2_decideOn 48 = .ok (.iload_n 1, 1) := by decide +kernel
theorem dX2_decideOn_49 : decode cX2_decideOn 49 = .ok (.invokevirtual 39, 3) := by decide +kernel
theorem dX2_decideOn_52 : decode cX2_decideOn 52 = .ok (.imul, 1) := by decide +kernel
theorem dX2_decideOn_53 : decode cX2_decideOn 53 = .ok (.aload_n 0, 1) := by decide +kernel
theorem dX2_decideOn_54 : decode cX2_decideOn 54 = .ok (.invokevirtual 43, 3) := by decide +kernel
theorem dX2_decideOn_57 : decode cX2_decideOn 57 = .ok (.if_icmp .le 8, 3) := by decide +kernel
theorem dX2_decideOn_60 : decode cX2_decideOn 60 = .ok (.bipush 99, 2) := by decide +kernel
theorem dX2_decideOn_62 : decode cX2_decideOn 62 = .ok (.goto 5, 3) := by decide +kernel
theorem dX2_decideOn_65 : decode cX2_decideOn 65 = .ok (.bipush 114, 2) := by decide +kernel
theorem dX2_decideOn_67 : decode cX2_decideOn 67 = .ok (.ireturn, 1) := by decide +kernel
theorem gV_X2_X2_leavesFor_39 : GoodIn gw (wsV RX2 39 RX2 yX2_leavesFor (Cond.code yX2_leavesFor cX2_leavesFor 4 (some .int) :: gw)) := gdV gw_784 gw_785 gw_786 gw_69 gw_787
theorem hV_X2_leavesFor : yX2_leavesFor.cls = RX2 ∧ yX2_leavesFor.cls ≠ "java/lang/invoke/MethodHandle" ∧ yX2_leavesFor.cls ≠ "java/lang/invoke/VarHandle" ∧ (parseMethodDescriptor yX2_leavesFor.desc).map (fun d => d.parameters.length) = some 1 := ⟨rfl, by decide +kernel, by decide +kernel, by decide +kernel⟩
theorem gV_X2_X2_totalLeaves_43 : GoodIn gw (wsV RX2 43 RX2 yX2_totalLeaves (Cond.code yX2_totalLeaves cX2_totalLeaves 3 (some .int) :: gw)) := gdV gw_788 gw_789 gw_790 gw_69 gw_791
theorem hV_X2_totalLeaves : yX2_totalLeaves.cls = RX2 ∧ yX2_totalLeaves.cls ≠ "java/lang/invoke/MethodHandle" ∧ yX2_totalLeaves.cls ≠ "java/lang/invoke/VarHandle" ∧ (parseMethodDescriptor yX2_totalLeaves.desc).map (fun d => d.parameters.length) = some 0 := ⟨rfl, by decide +kernel, by decide +kernel, by decide +kernel⟩
theorem gV_X2_X2_vetoes_35 : GoodIn gw (wsV RX2 35 RX2 yX2_vetoes (Cond.code yX2_vetoes cX2_vetoes 3 (some .boolean) :: gw)) := gdV gw_776 gw_777 gw_778 gw_69 gw_779
theorem hV_X2_vetoes : yX2_vetoes.cls = RX2 ∧ yX2_vetoes.cls ≠ "java/lang/invoke/MethodHandle" ∧ yX2_vetoes.cls ≠ "java/lang/invoke/VarHandle" ∧ (parseMethodDescriptor yX2_vetoes.desc).map (fun d => d.parameters.length) = some 2 := ⟨rfl, by decide +kernel, by decide +kernel, by decide +kernel⟩
set_option maxHeartbeats 2000000 in
set_option maxRecDepth 20000 in
theorem k_X2_decideOn (l : Launch) (hfl : l.stackTraces = false) (D : va_G) (aT : Nat → ClassId) (a1 : Nat) (a2 : Nat) (a3 : Nat) (a4 : Nat) (fL : Nat → Int32) (fT : Nat → Int32) (fX : Nat → Int32) (nh : Nat) (lv : Nat → Nat) (th : Nat → Nat) (ta : Nat → Nat) (hH : HeC fL fT fX nh lv th ta) (t : Nat) (ht : t ≤ 9) : CxG l yX2_decideOn cX2_decideOn 4 (some (.char)) 2 0 0 46 D aT [.ref a1, .int (nI t)] [(a1, .inr (6, [.ref a2, .ref a3, .ref a4, .int (nI nh)])), (a2, .inl (aT 0, 6, .inl fL)), (a3, .inl (aT 0, 6, .inl fT)), (a4, .inl (aT 0, 6, .inl fX))] (qI D aT (fun r W1 => ∃ f : Nat → Int32, HeC fL f fX nh lv (thV (vvF th ta t) th nh) ta ∧ ((anV (vvF th ta t) nh = true ∧ r = nI 118) ∨ (anV (vvF th ta t) nh = false ∧ sml lv nh < 2 * fav lv ta t nh ∧ r = nI 99) ∨ (anV (vvF th ta t) nh = false ∧ ¬ sml lv nh < 2 * fav lv ta t nh ∧ r = nI 114)) ∧ W1 = ([(a1, .inr (6, [.ref a2, .ref a3, .ref a4, .int (nI nh)])), (a2, .inl (aT 0, 6, .inl fL)), (a3, .inl (aT 0, 6, .inl f)), (a4, .inl (aT 0, 6, .inl fX))] : va_W))) (fun _ _ => False) := by
  refine CxG.of RX2 (by decide +kernel) rfl (Nat.le_of_ble_eq_true rfl) ?_
  intro p e s m below meth c A ls C hml hl hA hr hlocks hex hnm hZ hW
  have hl : lv_has ls 4 [(0, .ref a1), (1, .int (nI t))] := hl
  have hx := C.1
  have hb := C.2.1
  refine lv_iconst (v := nI 0) hx hb dX2_decideOn_0 (by decide) ?_
  refine lv_istore_n (lv' := [(2, .int (nI 0)), (0, .ref a1), (1, .int (nI t))]) hx hb dX2_decideOn_1 rfl hl (by decide) rfl (fun ls hl => ?_)
  refine lv_iconst (v := nI 0) hx hb dX2_decideOn_2 (by decide) ?_
  refine lv_istore_n (lv' := [(3, .int (nI 0)), (2, .int (nI 0)), (0, .ref a1), (1, .int (nI t))]) hx hb dX2_decideOn_3 rfl hl (by decide) rfl (fun ls hl => ?_)
  have hl : lv_has ls 4 [(3, .int (nI 0)), (2, .int (bI false)), (0, .ref a1), (1, .int (nI t))] := hl
  refine W_loopH (σ := Nat × (Nat → Int32) × Bool) (fun z_ => nh - z_.1) (fun z_ H locs g => ∃ ls, g = F0 m 4 ls [] ∧ lv_has ls 4 [(3, .int (nI z_.1)), (2, .int (bI z_.2.2)), (1, .int (nI t)), (0, .ref a1)] ∧ CxB D [(a1, .inr (6, [.ref a2, .ref a3, .ref a4, .int (nI nh)])), (a2, .inl (aT 0, 6, .inl fL)), (a3, .inl (aT 0, 6, .inl z_.2.1)), (a4, .inl (aT 0, 6, .inl fX))] A s.heap H locs ∧ z_.1 ≤ nh ∧ HeC fL z_.2.1 fX nh lv (thV (vvF th ta t) th z_.1) ta ∧ z_.2.2 = anV (vvF th ta t) z_.1) ?_ (0, fT, false) _ ⟨_, rfl, lv_sub hl [0, 1, 3, 2] rfl, hW, ⟨Nat.zero_le _, by rw [thV_0]; exact hH, rfl⟩⟩
  clear hW hl
  rintro ⟨i, f, b⟩ H locs g ⟨ls, rfl, hl, hW, ⟨hi, hv0, hbv⟩⟩ ih_4
  dsimp only at hl hW hi hv0 hbv ⊢
  refine lv_iload_n hx hb dX2_decideOn_4 rfl (lv_at hl 0 rfl) ?_
  refine lv_aload_n hx hb dX2_decideOn_5 rfl (lv_at hl 3 rfl) ?_
  refine cx_get C hW 0 3 rfl rfl (by decide) inX2 gw_129 rfl rfl dX2_decideOn_6 ?_
  refine r_geN hx hb (a := i) (b := nh) (by have := hH.1; omega) (by have := hH.1; omega) (tgt := 39) dX2_decideOn_9 (by decide) (fun c_9 => ?_) (fun c_9 => ?_)
  · refine lv_iload_n hx hb dX2_decideOn_39 rfl (lv_at hl 1 rfl) ?_
    refine r_bI_eq hx hb (b := b) (tgt := 46) dX2_decideOn_40 (by decide) (fun c_40 => ?_) (fun c_40 => ?_)
    · refine lv_iconst (v := nI 2) hx hb dX2_decideOn_46 (by decide) ?_
      refine lv_aload_n hx hb dX2_decideOn_47 rfl (lv_at hl 3 rfl) ?_
      refine lv_iload_n hx hb dX2_decideOn_48 rfl (lv_at hl 2 rfl) ?_
      refine cx_calli (Wr := []) (cx_runV C hml hl.1 hZ hW hA (As := [.int (nI t)]) (rest := [.int (nI 2)]) (k_X2_leavesFor l hfl D aT a1 a2 a3 a4 fL f fX nh lv (thV (vvF th ta t) th i) ta hv0 t ht) gV_X2_X2_leavesFor_39 hV_X2_leavesFor rfl ⟨Nat.le_of_ble_eq_true rfl, Nat.le_of_ble_eq_true rfl⟩ ⟨Nat.le_of_ble_eq_true rfl, Nat.le_of_ble_eq_true rfl⟩ [0, 1, 2, 3] rfl (by decide) 0 6 rfl rfl rfl rfl (Nat.le_of_ble_eq_true rfl) dX2_decideOn_49) hW hA [0, 1, 2, 3] [] rfl rfl (by decide) (by decide) (fun _ _ _ _ _ _ h9 => h9.elim) (fun r_49 W_49 H locs hq hW => ?_)
      obtain ⟨rfl, rfl⟩ := hq
      refine r_imulN hx hb (a := 2) (b := fav lv ta t nh) dX2_decideOn_52 ?_
      refine lv_aload_n hx hb dX2_decideOn_53 rfl (lv_at hl 3 rfl) ?_
      refine cx_calli (Wr := []) (cx_runV C hml hl.1 hZ hW hA (As := []) (rest := [.int (nI (2 * (fav lv ta t nh)))]) (k_X2_totalLeaves l hfl D aT a1 a2 a3 a4 fL f fX nh lv (thV (vvF th ta t) th i) ta hv0) gV_X2_X2_totalLeaves_43 hV_X2_totalLeaves rfl ⟨Nat.le_of_ble_eq_true rfl, Nat.le_of_ble_eq_true rfl⟩ ⟨Nat.le_of_ble_eq_true rfl, Nat.le_of_ble_eq_true rfl⟩ [0, 1, 2, 3] rfl (by decide) 0 6 rfl rfl rfl rfl (Nat.le_of_ble_eq_true rfl) dX2_decideOn_54) hW hA [0, 1, 2, 3] [] rfl rfl (by decide) (by decide) (fun _ _ _ _ _ _ h9 => h9.elim) (fun r_54 W_54 H locs hq hW => ?_)
      obtain ⟨rfl, rfl⟩ := hq
      refine r_leN hx hb (a := 2 * (fav lv ta t nh)) (b := sml lv nh) (by have h5 := sml_le (lv := lv) (i := nh) (fun k hk => (hH.2.1 k hk).2.2); have h6 := fav_le (lv := lv) (ta := ta) (t := t) (i := nh) (fun k hk => (hH.2.1 k hk).2.2); have := hH.1; omega) (by have h5 := sml_le (lv := lv) (i := nh) (fun k hk => (hH.2.1 k hk).2.2); have h6 := fav_le (lv := lv) (ta := ta) (t := t) (i := nh) (fun k hk => (hH.2.1 k hk).2.2); have := hH.1; omega) (tgt := 65) dX2_decideOn_57 (by decide) (fun c_57 => ?_) (fun c_57 => ?_)
      · refine lv_bipush (v := nI 114) hx hb dX2_decideOn_65 (by decide) ?_
        exact cx_iret C hr hlocks (by decide) hW ⟨Nat.le_of_ble_eq_true rfl, Nat.le_of_ble_eq_true rfl⟩ (⟨f, (by have e9 : i = nh := (by omega); rw [e9] at hv0; exact hv0), Or.inr (Or.inr ⟨(by rw [← show i = nh by omega, ← hbv]; exact c_40), by omega, rfl⟩), rfl⟩) dX2_decideOn_67
      · refine lv_bipush (v := nI 99) hx hb dX2_decideOn_60 (by decide) ?_
        refine lv_goto (tgt := 67) hx hb dX2_decideOn_62 (by decide) ?_
        exact cx_iret C hr hlocks (by decide) hW ⟨Nat.le_of_ble_eq_true rfl, Nat.le_of_ble_eq_true rfl⟩ (⟨f, (by have e9 : i = nh := (by omega); rw [e9] at hv0; exact hv0), Or.inr (Or.inl ⟨(by rw [← show i = nh by omega, ← hbv]; exact c_40), by omega, rfl⟩), rfl⟩) dX2_decideOn_67
    · refine lv_bipush (v := nI 118) hx hb dX2_decideOn_43 (by decide) ?_
      exact cx_iret C hr hlocks (by decide) hW ⟨Nat.le_of_ble_eq_true rfl, Nat.le_of_ble_eq_true rfl⟩ (⟨f, (by have e9 : i = nh := (by omega); rw [e9] at hv0; exact hv0), Or.inl ⟨(by rw [← show i = nh by omega, ← hbv]; exact c_40), rfl⟩, rfl⟩) dX2_decideOn_45
  · refine lv_aload_n hx hb dX2_decideOn_12 rfl (lv_at hl 3 rfl) ?_
    refine lv_iload_n hx hb dX2_decideOn_13 rfl (lv_at hl 0 rfl) ?_
    refine lv_iload_n hx hb dX2_decideOn_14 rfl (lv_at hl 2 rfl) ?_
    refine cx_calli (Wr := []) (cx_runV C hml hl.1 hZ hW hA (As := [.int (nI i), .int (nI t)]) (rest := []) (k_X2_vetoes l hfl D aT a1 a2 a3 a4 fL f fX nh lv (thV (vvF th ta t) th i) ta hv0 i (show i < nh by omega) t ht) gV_X2_X2_vetoes_35 hV_X2_vetoes rfl ⟨Nat.le_of_ble_eq_true rfl, Nat.le_of_ble_eq_true rfl⟩ ⟨Nat.le_of_ble_eq_true rfl, Nat.le_of_ble_eq_true rfl⟩ [0, 1, 2, 3] rfl (by decide) 0 6 rfl rfl rfl rfl (Nat.le_of_ble_eq_true rfl) dX2_decideOn_15) hW hA [0, 1, 2, 3] [] rfl rfl (by decide) (by decide) (fun _ _ _ _ _ _ h9 => h9.elim) (fun r_15 W_15 H locs hq hW => ?_)
    obtain ⟨rfl, rfl⟩ := hq
    refine r_bI_eq hx hb (b := (vetB (dif (ta i) t) ((thV (vvF th ta t) th i) i))) (tgt := 33) dX2_decideOn_18 (by decide) (fun c_18 => ?_) (fun c_18 => ?_)
    · refine lv_iinc (v := (nI (i + 1))) (lv' := [(3, .int (nI (i + 1))), (2, .int (bI b)), (1, .int (nI t)), (0, .ref a1)]) hx hb dX2_decideOn_33 hl (k := 0) rfl (nI_1 _) (by decide) rfl (fun ls hl => ?_)
      refine lv_goto (tgt := 4) hx hb dX2_decideOn_36 (by decide) ?_
      exact ih_4 ((i + 1), f, b) _ _ _ (by first | omega | (dsimp only; omega)) ⟨_, rfl, lv_sub hl [0, 1, 2, 3] rfl, hW, ⟨(by omega), hv0.vt0 (by rw [← vv_at (th := th) (ta := ta)]; exact c_18), (by rw [hbv]; exact anV_0 (by rw [← vv_at (th := th) (ta := ta)]; exact c_18))⟩⟩
    · refine lv_aload_n hx hb dX2_decideOn_21 rfl (lv_at hl 3 rfl) ?_
      refine cx_get C hW 0 1 rfl rfl (by decide) inX2 gw_126 rfl rfl dX2_decideOn_22 ?_
      refine lv_iload_n hx hb dX2_decideOn_25 rfl (lv_at hl 0 rfl) ?_
      refine lv_dup2_11 hx hb dX2_decideOn_26 rfl rfl ?_
      refine cx_ald C hW 2 0 (j := i) rfl rfl rfl (by have := hH.1; omega) (by decide) dX2_decideOn_27 ?_
      refine r_eq (y := (nI (th i))) (by have h5 := (hv0.2.2.1 i (by omega)).1; rw [thV_i] at h5; exact h5) ?_
      refine lv_iconst (v := nI 1) hx hb dX2_decideOn_28 (by decide) ?_
      refine r_isubN hx hb (a := th i) (b := 1) (by have := vv_pos (th := th) (ta := ta) (t := t) (i := i) (by rw [← vv_at (th := th) (ta := ta)]; exact c_18); omega) dX2_decideOn_29 ?_
      refine cx_ast C hW 2 0 (j := i) (W1 := [(a1, .inr (6, [.ref a2, .ref a3, .ref a4, .int (nI nh)])), (a2, .inl (aT 0, 6, .inl fL)), (a3, .inl (aT 0, 6, .inl (upd f i ((nI ((th i) - 1)))))), (a4, .inl (aT 0, 6, .inl fX))]) rfl rfl rfl (by have := hH.1; omega) (by decide) rfl dX2_decideOn_30 (fun H locs hW => ?_)
      refine lv_iconst (v := nI 1) hx hb dX2_decideOn_31 (by decide) ?_
      refine lv_istore_n (lv' := [(2, .int (nI 1)), (3, .int (nI i)), (1, .int (nI t)), (0, .ref a1)]) hx hb dX2_decideOn_32 rfl hl (by decide) rfl (fun ls hl => ?_)
      refine lv_iinc (v := (nI (i + 1))) (lv' := [(3, .int (nI (i + 1))), (2, .int (nI 1)), (1, .int (nI t)), (0, .ref a1)]) hx hb dX2_decideOn_33 hl (k := 1) rfl (nI_1 _) (by decide) rfl (fun ls hl => ?_)
      refine lv_goto (tgt := 4) hx hb dX2_decideOn_36 (by decide) ?_
      exact ih_4 ((i + 1), (upd f i ((nI ((th i) - 1)))), true) _ _ _ (by first | omega | (dsimp only; omega)) ⟨_, rfl, lv_sub hl [0, 1, 2, 3] rfl, hW, ⟨(by omega), hv0.vt1 (by omega) (by rw [← vv_at (th := th) (ta := ta)]; exact c_18), anV_1 (by rw [← vv_at (th := th) (ta := ta)]; exact c_18)⟩⟩
theorem dX2_meet_0 : decode cX2_meet 0 = .ok (.iconst 0, 1) := by decide +kernel
theorem dX2_meet_1 : decode cX2_meet 1 = .ok (.istore_n 2, 1) := by decide +kernel
theorem dX2_meet_2 : decode cX2_meet 2 = .ok (.iload_n 2, 1) := by decide +kernel
theorem dX2_meet_3 : decode cX2_meet 3 = .ok (.aload_n 0, 1) := by decide +kernel
theorem dX2_meet_4 : decode cX2_meet 4 = .ok (.getfield 21, 3) := by decide +kernel
theorem dX2_meet_7 : decode cX2_meet 7 = .ok (.if_icmp .ge 63, 3) := by decide +kernel
theorem dX2_meet_10 : decode cX2_meet 10 = .ok (.aload_n 0, 1) := by decide +kernel
theorem dX2_meet_11 : decode cX2_meet 11 = .ok (.getfield 9, 3) := by decide +kernel
theorem dX2_meet_14 : decode cX2_meet 14 = .ok (.iload_n 2, 1) := by decide +kernel
theorem dX2_meet_15 : decode cX2_meet 15 = .ok (.iaload, 1) := by decide +kernel
theorem dX2_meet_16 : decode cX2_meet 16 = .ok (.getstatic 47, 3) := by decide +kernel
theorem dX2_meet_19 : decode cX2_meet 19 = .ok (.iload_n 1, 1) := by decide +kernel
theorem dX2_meet_20 : decode cX2_meet 20 = .ok (.iaload, 1) := by decide +kernel
theorem dX2_meet_21 : decode cX2_meet 21 = .ok (.iadd, 1) := by decide +kernel
theorem dX2_meet_22 : decode cX2_meet 22 = .ok (.istore_n 3, 1) := by decide +kernel
theorem dX2_meet_23 : decode cX2_meet 23 = .ok (.aload_n 0, 1) := by decide +kernel
theorem dX2_meet_24 : decode cX2_meet 24 = .ok (.getfield 9, 3) := by decide +kernel
theorem dX2_meet_27 : decode cX2_meet 27 = .ok (.iload_n 2, 1) := by decide +kernel
theorem dX2_meet_28 : decode cX2_meet 28 = .ok (.iconst 1, 1) := by decide +kernel
theorem dX2_meet_29 : decode cX2_meet 29 = .ok (.bipush 99, 2) := by decide +kernel
theorem dX2_meet_31 : decode cX2_meet 31 = .ok (.iload_n 3, 1) := by decide +kernel
theorem dX2_meet_32 : decode cX2_meet 32 = .ok (.invokestatic 50, 3) := by decide +kernel
theorem dX2_meet_35 : decode cX2_meet 35 = .ok (.invokestatic 55, 3) := by decide +kernel
theorem dX2_meet_38 : decode cX2_meet 38 = .ok (.iastore, 1) := by decide +kernel
theorem dX2_meet_39 : decode cX2_meet 39 = .ok (.iload_n 1, 1) := by decide +kernel
theorem dX2_meet_40 : decode cX2_meet 40 = .ok (.ifCond .ne 24, 3) := by decide +kernel
theorem dX2_meet_43 : decode cX2_meet 43 = .ok (.aload_n 0, 1) := by decide +kernel
theorem dX2_meet_44 : decode cX2_meet 44 = .ok (.getfield 15, 3) := by decide +kernel
theorem dX2_meet_47 : decode cX2_meet 47 = .ok (.iload_n 2, 1) := by decide +kernel
theorem dX2_meet_48 : decode cX2_meet 48 = .ok (.iaload, 1) := by decide +kernel
theorem dX2_meet_49 : decode cX2_meet 49 = .ok (.bipush 9, 2) := by decide +kernel
theorem dX2_meet_51 : decode cX2_meet 51 = .ok (.if_icmp .ge 13, 3) := by decide +kernel
theorem dX2_meet_54 : decode cX2_meet 54 = .ok (.aload_n 0, 1) := by decide +kernel
theorem dX2_meet_55 : decode cX2_meet 55 = .ok (.getfield 15, 3) := by decide +kernel
theorem dX2_meet_58 : decode cX2_meet 58 = .ok (.iload_n 2, 1) := by decide +kernel
theorem dX2_meet_59 : decode cX2_meet 59 = .ok (.dup2, 1) := by decide +kernel
theorem dX2_meet_60 : decode cX2_meet 60 = .ok (.iaload, 1) := by decide +kernel
theorem dX2_meet_61 : decode cX2_meet 61 = .ok (.iconst 1, 1) := by decide +kernel
theorem dX2_meet_62 : decode cX2_meet 62 = .ok (.iadd, 1) := by decide +kernel
theorem dX2_meet_63 : decode cX2_meet 63 = .ok (.iastore, 1) := by decide +kernel
theorem dX2_meet_64 : decode cX2_meet 64 = .ok (.iinc 2 1, 3) := by decide +kernel
theorem dX2_meet_67 : decode cX2_meet 67 = .ok (.goto (-65), 3) := by decide +kernel
theorem dX2_meet_70 : decode cX2_meet 70 = .ok (.return_, 1) := by decide +kernel
set_option maxHeartbeats 2000000 in
set_option maxRecDepth 20000 in
theorem k_X2_meet (l : Launch) (hfl : l.stackTraces = false) (D : va_G) (aT : Nat → ClassId) (a1 : Nat) (a2 : Nat) (a3 : Nat) (a4 : Nat) (fL : Nat → Int32) (fT : Nat → Int32) (fX : Nat → Int32) (nh : Nat) (lv : Nat → Nat) (th : Nat → Nat) (ta : Nat → Nat) (hH : HeC fL fT fX nh lv th ta) (s9 : Nat) (hs : s9 < 4) : CxG l yX2_meet cX2_meet 4 none 1 0 0 40 D aT [.ref a1, .int (nI s9)] [(a1, .inr (6, [.ref a2, .ref a3, .ref a4, .int (nI nh)])), (a2, .inl (aT 0, 6, .inl fL)), (a3, .inl (aT 0, 6, .inl fT)), (a4, .inl (aT 0, 6, .inl fX))] (qV D aT (fun W1 => ∃ f q : Nat → Int32, HeC f q fX nh (lvS s9 lv nh) (thS s9 th nh) ta ∧ W1 = ([(a1, .inr (6, [.ref a2, .ref a3, .ref a4, .int (nI nh)])), (a2, .inl (aT 0, 6, .inl f)), (a3, .inl (aT 0, 6, .inl q)), (a4, .inl (aT 0, 6, .inl fX))] : va_W))) (fun _ _ => False) := by
  refine CxG.of RX2 (by decide +kernel) rfl (Nat.le_of_ble_eq_true rfl) ?_
  intro p e s m below meth c A ls C hml hl hA hr hlocks hex hnm hZ hW
  have hl : lv_has ls 4 [(0, .ref a1), (1, .int (nI s9))] := hl
  have hx := C.1
  have hb := C.2.1
  refine lv_iconst (v := nI 0) hx hb dX2_meet_0 (by decide) ?_
  refine lv_istore_n (lv' := [(2, .int (nI 0)), (0, .ref a1), (1, .int (nI s9))]) hx hb dX2_meet_1 rfl hl (by decide) rfl (fun ls hl => ?_)
  refine W_loopH (σ := Nat × (Nat → Int32) × (Nat → Int32)) (fun z_ => nh - z_.1) (fun z_ H locs g => ∃ ls, g = F0 m 2 ls [] ∧ lv_has ls 4 [(2, .int (nI z_.1)), (1, .int (nI s9)), (0, .ref a1)] ∧ CxB D [(a1, .inr (6, [.ref a2, .ref a3, .ref a4, .int (nI nh)])), (a2, .inl (aT 0, 6, .inl z_.2.1)), (a3, .inl (aT 0, 6, .inl z_.2.2)), (a4, .inl (aT 0, 6, .inl fX))] A s.heap H locs ∧ z_.1 ≤ nh ∧ HeC z_.2.1 z_.2.2 fX nh (lvS s9 lv z_.1) (thS s9 th z_.1) ta) ?_ (0, fL, fT) _ ⟨_, rfl, lv_sub hl [0, 2, 1] rfl, hW, ⟨Nat.zero_le _, by rw [lvS_0, thS_0]; exact hH⟩⟩
  clear hW hl
  rintro ⟨i, f, q⟩ H locs g ⟨ls, rfl, hl, hW, ⟨hi, hm0⟩⟩ ih_2
  dsimp only at hl hW hi hm0 ⊢
  refine lv_iload_n hx hb dX2_meet_2 rfl (lv_at hl 0 rfl) ?_
  refine lv_aload_n hx hb dX2_meet_3 rfl (lv_at hl 2 rfl) ?_
  refine cx_get C hW 0 3 rfl rfl (by decide) inX2 gw_129 rfl rfl dX2_meet_4 ?_
  refine r_geN hx hb (a := i) (b := nh) (by have := hH.1; omega) (by have := hH.1; omega) (tgt := 70) dX2_meet_7 (by decide) (fun c_7 => ?_) (fun c_7 => ?_)
  · exact cx_vret C hr hlocks hW ⟨Nat.le_of_ble_eq_true rfl, Nat.le_of_ble_eq_true rfl⟩ (⟨f, q, (by have e9 : i = nh := (by omega); rw [e9] at hm0; exact hm0), rfl⟩) dX2_meet_70
  · refine lv_aload_n hx hb dX2_meet_10 rfl (lv_at hl 2 rfl) ?_
    refine cx_get C hW 0 0 rfl rfl (by decide) inX2 gw_124 rfl rfl dX2_meet_11 ?_
    refine lv_iload_n hx hb dX2_meet_14 rfl (lv_at hl 0 rfl) ?_
    refine cx_ald C hW 1 0 (j := i) rfl rfl rfl (by have := hH.1; omega) (by decide) dX2_meet_15 ?_
    refine r_eq (y := (nI (lv i))) (by have h5 := (hm0.2.1 i (by omega)).1; rw [lvS_i] at h5; exact h5) ?_
    refine va_getsN hx hb hZ.2.2.2.2.2.2.2.2.1 hW.2.2 C.2.2.2.1 (va_Nw.use (nw_tab nw_407) (hZ.1 _ nw_407)) (fun _ h9 => h9) dX2_meet_16 ?_
    refine lv_iload_n hx hb dX2_meet_19 rfl (lv_at hl 1 rfl) ?_
    refine va_ti hx hb hZ.2.2.2.2.2.2.2.2.2.1 hW.2.2 (i := nI s9) (vp_in_nI (hs) (by decide)) (v := .int (lgF s9)) (by rw [nI_clamp (by omega)]) dX2_meet_20 ?_
    refine lv_iadd hx hb dX2_meet_21 ?_
    refine lv_istore_n (lv' := [(3, .int ((nI (lv i)) + (lgF s9))), (2, .int (nI i)), (1, .int (nI s9)), (0, .ref a1)]) hx hb dX2_meet_22 rfl hl (by decide) rfl (fun ls hl => ?_)
    refine lv_aload_n hx hb dX2_meet_23 rfl (lv_at hl 3 rfl) ?_
    refine cx_get C hW 0 0 rfl rfl (by decide) inX2 gw_124 rfl rfl dX2_meet_24 ?_
    refine lv_iload_n hx hb dX2_meet_27 rfl (lv_at hl 1 rfl) ?_
    refine lv_iconst (v := nI 1) hx hb dX2_meet_28 (by decide) ?_
    refine lv_bipush (v := nI 99) hx hb dX2_meet_29 (by decide) ?_
    refine lv_iload_n hx hb dX2_meet_31 rfl (lv_at hl 0 rfl) ?_
    refine cx_min C hml hl.1 gw_409 ⟨Nat.le_of_ble_eq_true rfl, Nat.le_of_ble_eq_true rfl, Nat.le_of_ble_eq_true rfl⟩ ⟨Nat.le_of_ble_eq_true rfl, Nat.le_of_ble_eq_true rfl⟩ dX2_meet_32 ?_
    refine cx_max C hml hl.1 gw_412 ⟨Nat.le_of_ble_eq_true rfl, Nat.le_of_ble_eq_true rfl, Nat.le_of_ble_eq_true rfl⟩ ⟨Nat.le_of_ble_eq_true rfl, Nat.le_of_ble_eq_true rfl⟩ dX2_meet_35 ?_
    refine r_eq (y := (nI (leafN s9 (lv i)))) (by rw [lg_by s9 hs]; exact clp_eq s9 hs (lv i) (by have := lv_at2 hm0 (show i < nh by omega); omega) (lv_at2 hm0 (show i < nh by omega)).1) ?_
    refine cx_ast C hW 1 0 (j := i) (W1 := [(a1, .inr (6, [.ref a2, .ref a3, .ref a4, .int (nI nh)])), (a2, .inl (aT 0, 6, .inl (upd f i ((nI (leafN s9 (lv i))))))), (a3, .inl (aT 0, 6, .inl q)), (a4, .inl (aT 0, 6, .inl fX))]) rfl rfl rfl (by have := hH.1; omega) (by decide) rfl dX2_meet_38 (fun H locs hW => ?_)
    refine lv_iload_n hx hb dX2_meet_39 rfl (lv_at hl 2 rfl) ?_
    refine r_ifneN hx hb (a := s9) (by omega) (tgt := 64) dX2_meet_40 (by decide) (fun c_40 => ?_) (fun c_40 => ?_)
    · refine lv_iinc (v := (nI (i + 1))) (lv' := [(2, .int (nI (i + 1))), (3, .int ((nI (lv i)) + (lgF s9))), (1, .int (nI s9)), (0, .ref a1)]) hx hb dX2_meet_64 hl (k := 1) rfl (nI_1 _) (by decide) rfl (fun ls hl => ?_)
      refine lv_goto (tgt := 2) hx hb dX2_meet_67 (by decide) ?_
      exact ih_2 ((i + 1), (upd f i ((nI (leafN s9 (lv i))))), q) _ _ _ (by first | omega | (dsimp only; omega)) ⟨_, rfl, lv_sub hl [0, 2, 3] rfl, hW, ⟨(by omega), hm0.mt (by omega) (fun k hk => mt_same hm0 (tadd_0 (Or.inl c_40)) hk)⟩⟩
    · refine lv_aload_n hx hb dX2_meet_43 rfl (lv_at hl 3 rfl) ?_
      refine cx_get C hW 0 1 rfl rfl (by decide) inX2 gw_126 rfl rfl dX2_meet_44 ?_
      refine lv_iload_n hx hb dX2_meet_47 rfl (lv_at hl 1 rfl) ?_
      refine cx_ald C hW 2 0 (j := i) rfl rfl rfl (by have := hH.1; omega) (by decide) dX2_meet_48 ?_
      refine r_eq (y := (nI (th i))) (by have h5 := (hm0.2.2.1 i (by omega)).1; rw [thS_i] at h5; exact h5) ?_
      refine lv_bipush (v := nI 9) hx hb dX2_meet_49 (by decide) ?_
      refine r_geN hx hb (a := th i) (b := 9) (by have := th_at2 hm0 (show i < nh by omega); omega) (by have := th_at2 hm0 (show i < nh by omega); omega) (tgt := 64) dX2_meet_51 (by decide) (fun c_51 => ?_) (fun c_51 => ?_)
      · refine lv_iinc (v := (nI (i + 1))) (lv' := [(2, .int (nI (i + 1))), (3, .int ((nI (lv i)) + (lgF s9))), (1, .int (nI s9)), (0, .ref a1)]) hx hb dX2_meet_64 hl (k := 1) rfl (nI_1 _) (by decide) rfl (fun ls hl => ?_)
        refine lv_goto (tgt := 2) hx hb dX2_meet_67 (by decide) ?_
        exact ih_2 ((i + 1), (upd f i ((nI (leafN s9 (lv i))))), q) _ _ _ (by first | omega | (dsimp only; omega)) ⟨_, rfl, lv_sub hl [0, 2, 3] rfl, hW, ⟨(by omega), hm0.mt (by omega) (fun k hk => mt_same hm0 (tadd_0 (Or.inr c_51)) hk)⟩⟩
      · refine lv_aload_n hx hb dX2_meet_54 rfl (lv_at hl 3 rfl) ?_
        refine cx_get C hW 0 1 rfl rfl (by decide) inX2 gw_126 rfl rfl dX2_meet_55 ?_
        refine lv_iload_n hx hb dX2_meet_58 rfl (lv_at hl 1 rfl) ?_
        refine lv_dup2_11 hx hb dX2_meet_59 rfl rfl ?_
        refine cx_ald C hW 2 0 (j := i) rfl rfl rfl (by have := hH.1; omega) (by decide) dX2_meet_60 ?_
        refine r_eq (y := (nI (th i))) (by have h5 := (hm0.2.2.1 i (by omega)).1; rw [thS_i] at h5; exact h5) ?_
        refine lv_iconst (v := nI 1) hx hb dX2_meet_61 (by decide) ?_
        refine r_iaddN hx hb (a := th i) (b := 1) dX2_meet_62 ?_
        refine cx_ast C hW 2 0 (j := i) (W1 := [(a1, .inr (6, [.ref a2, .ref a3, .ref a4, .int (nI nh)])), (a2, .inl (aT 0, 6, .inl (upd f i ((nI (leafN s9 (lv i))))))), (a3, .inl (aT 0, 6, .inl (upd q i ((nI (th i + 1)))))), (a4, .inl (aT 0, 6, .inl fX))]) rfl rfl rfl (by have := hH.1; omega) (by decide) rfl dX2_meet_63 (fun H locs hW => ?_)
        refine lv_iinc (v := (nI (i + 1))) (lv' := [(2, .int (nI (i + 1))), (3, .int ((nI (lv i)) + (lgF s9))), (1, .int (nI s9)), (0, .ref a1)]) hx hb dX2_meet_64 hl (k := 1) rfl (nI_1 _) (by decide) rfl (fun ls hl => ?_)
        refine lv_goto (tgt := 2) hx hb dX2_meet_67 (by decide) ?_
        exact ih_2 ((i + 1), (upd f i ((nI (leafN s9 (lv i))))), (upd q i ((nI (th i + 1))))) _ _ _ (by first | omega | (dsimp only; omega)) ⟨_, rfl, lv_sub hl [0, 2, 3] rfl, hW, ⟨(by omega), hm0.mt (by omega) (fun k hk => by rw [tadd_1 c_40 c_51]; rfl)⟩⟩
theorem dX2_ranksBefore_0 : decode cX2_ranksBefore 0 = .ok (.aload_n 0, 1) := by decide +kernel
theorem dX2_ranksBefore_1 : decode cX2_ranksBefore 1 = .ok (.getfield 9, 3) := by decide +kernel
theorem dX2_ranksBefore_4 : decode cX2_ranksBefore 4 = .ok (.iload_n 1, 1) := by decide +kernel
theorem dX2_ranksBefore_5 : decode cX2_ranksBefore 5 = .ok (.iaload, 1) := by decide +kernel
theorem dX2_ranksBefore_6 : decode cX2_ranksBefore 6 = .ok (.aload_n 0, 1) := by decide +kernel
theorem dX2_ranksBefore_7 : decode cX2_ranksBefore 7 = .ok (.getfield 9, 3) := by decide +kernel
theorem dX2_ranksBefore_10 : decode cX2_ranksBefore 10 = .ok (.iload_n 2, 1) := by decide +kernel
theorem dX2_ranksBefore_11 : decode cX2_ranksBefore 11 = .ok (.iaload, 1) := by decide +kernel
theorem dX2_ranksBefore_12 : decode cX2_ranksBefore 12 = .ok (.if_icmp .eq 24, 3) := by decide +kernel
theorem dX2_ranksBefore_15 : decode cX2_ranksBefore 15 = .ok (.aload_n 0, 1) := by decide +kernel
theorem dX2_ranksBefore_16 : decode cX2_ranksBefore 16 = .ok (.getfield 9, 3) := by decide +kernel
theorem dX2_ranksBefore_19 : decode cX2_ranksBefore 19 = .ok (.iload_n 1, 1) := by decide +kernel
theorem dX2_ranksBefore_20 : decode cX2_ranksBefore 20 = .ok (.iaload, 1) := by decide +kernel
theorem dX2_ranksBefore_21 : decode cX2_ranksBefore 21 = .ok (.aload_n 0, 1) := by decide +kernel
theorem dX2_ranksBefore_22 : decode cX2_ranksBefore 22 = .ok (.getfield 9, 3) := by decide +kernel
theorem dX2_ranksBefore_25 : decode cX2_ranksBefore 25 = .ok (.iload_n 2, 1) := by decide +kernel
theorem dX2_ranksBefore_26 : decode cX2_ranksBefore 26 = .ok (.iaload, 1) := by decide +kernel
theorem dX2_ranksBefore_27 : decode cX2_ranksBefore 27 = .ok (.if_icmp .le 7, 3) := by decide +kernel
theorem dX2_ranksBefore_30 : decode cX2_ranksBefore 30 = .ok (.iconst 1, 1) := by decide +kernel
theorem dX2_ranksBefore_31 : decode cX2_ranksBefore 31 = .ok (.goto 4, 3) := by decide +kernel
theorem dX2_ranksBefore_34 : decode cX2_ranksBefore 34 = .ok (.iconst 0, 1) := by decide +kernel
theorem dX2_ranksBefore_35 : decode cX2_ranksBefore 35 = .ok (.ireturn, 1) := by decide +kernel
theorem dX2_ranksBefore_36 : decode cX2_ranksBefore 36 = .ok (.aload_n 0, 1) := by decide +kernel
theorem dX2_ranksBefore_37 : decode cX2_ranksBefore 37 = .ok (.getfield 15, 3) := by decide +kernel
theorem dX2_ranksBefore_40 : decode cX2_ranksBefore 40 = .ok (.iload_n 1, 1) := by decide +kernel
theorem dX2_ranksBefore_41 : decode cX2_ranksBefore 41 = .ok (.iaload, 1) := by decide +kernel
theorem dX2_ranksBefore_42 : decode cX2_ranksBefore 42 = .ok (.aload_n 0, 1) := by decide +kernel
theorem dX2_ranksBefore_43 : decode cX2_ranksBefore 43 = .ok (.getfield 15, 3) := by decide +kernel
theorem dX2_ranksBefore_46 : decode cX2_ranksBefore 46 = .ok (.iload_n 2, 1) := by decide +kernel
theorem dX2_ranksBefore_47 : decode cX2_ranksBefore 47 = .ok (.iaload, 1) := by decide +kernel
theorem dX2_ranksBefore_48 : decode cX2_ranksBefore 48 = .ok (.if_icmp .eq 24, 3) := by decide +kernel
theorem dX2_ranksBefore_51 : decode cX2_ranksBefore 51 = .ok (.aload_n 0, 1) := by decide +kernel
theorem dX2_ranksBefore_52 : decode cX2_ranksBefore 52 = .ok (.getfield 15, 3) := by decide +kernel
theorem dX2_ranksBefore_55 : decode cX2_ranksBefore 55 = .ok (.iload_n 1, 1) := by decide +kernel
theorem dX2_ranksBefore_56 : decode cX2_ranksBefore 56 = .ok (.iaload, 1) := by decide +kernel
theorem dX2_ranksBefore_57 : decode cX2_ranksBefore 57 = .ok (.aload_n 0, 1) := by decide +kernel
theorem dX2_ranksBefore_58 : decode cX2_ranksBefore 58 = .ok (.getfield 15, 3) := by decide +kernel
theorem dX2_ranksBefore_61 : decode cX2_ranksBefore 61 = .ok (.iload_n 2, 1) := by decide +kernel
theorem dX2_ranksBefore_62 : decode cX2_ranksBefore 62 = .ok (.iaload, 1) := by decide +kernel
theorem dX2_ranksBefore_63 : decode cX2_ranksBefore 63 = .ok (.if_icmp .le 7, 3) := by decide +kernel
theorem dX2_ranksBefore_66 : decode cX2_ranksBefore 66 = .ok (.iconst 1, 1) := by decide +kernel
theorem dX2_ranksBefore_67 : decode cX2_ranksBefore 67 = .ok (.goto 4, 3) := by decide +kernel
theorem dX2_ranksBefore_70 : decode cX2_ranksBefore 70 = .ok (.iconst 0, 1) := by decide +kernel
theorem dX2_ranksBefore_71 : decode cX2_ranksBefore 71 = .ok (.ireturn, 1) := by decide +kernel
theorem dX2_ranksBefore_72 : decode cX2_ranksBefore 72 = .ok (.iload_n 1, 1) := by decide +kernel
theorem dX2_ranksBefore_73 : decode cX2_ranksBefore 73 = .ok (.iload_n 2, 1) := by decide +kernel
theorem dX2_ranksBefore_74 : decode cX2_ranksBefore 74 = .ok (.if_icmp .ge 7, 3) := by decide +kernel
theorem dX2_ranksBefore_77 : decode cX2_ranksBefore 77 = .ok (.iconst 1, 1) := by decide +kernel
theorem dX2_ranksBefore_78 : decode cX2_ranksBefore 78 = .ok (.goto 4, 3) := by decide +kernel
theorem dX2_ranksBefore_81 : decode cX2_ranksBefore 81 = .ok (.iconst 0, 1) := by decide +kernel
theorem dX2_ranksBefore_82 : decode cX2_ranksBefore 82 = .ok (.ireturn, 1) := by decide +kernel
set_option maxHeartbeats 2000000 in
set_option maxRecDepth 20000 in
theorem k_X2_ranksBefore (l : Launch) (hfl : l.stackTraces = false) (D : va_G) (aT : Nat → ClassId) (a1 : Nat) (a2 : Nat) (a3 : Nat) (a4 : Nat) (fL : Nat → Int32) (fT : Nat → Int32) (fX : Nat → Int32) (nh : Nat) (lv : Nat → Nat) (th : Nat → Nat) (ta : Nat → Nat) (hH : HeC fL fT fX nh lv th ta) (a : Nat) (b : Nat) (ha : a < nh) (hb9 : b < nh) : CxG l yX2_ranksBefore cX2_ranksBefore 3 (some (.boolean)) 0 0 0 0 D aT [.ref a1, .int (nI a), .int (nI b)] [(a1, .inr (6, [.ref a2, .ref a3, .ref a4, .int (nI nh)])), (a2, .inl (aT 0, 6, .inl fL)), (a3, .inl (aT 0, 6, .inl fT)), (a4, .inl (aT 0, 6, .inl fX))] (qI D aT (fun r W1 => r = bI (hAh lv th a b) ∧ W1 = ([(a1, .inr (6, [.ref a2, .ref a3, .ref a4, .int (nI nh)])), (a2, .inl (aT 0, 6, .inl fL)), (a3, .inl (aT 0, 6, .inl fT)), (a4, .inl (aT 0, 6, .inl fX))] : va_W))) (fun _ _ => False) := by
  refine CxG.of RX2 (by decide +kernel) rfl (Nat.le_of_ble_eq_true rfl) ?_
  intro p e s m below meth c A ls C hml hl hA hr hlocks hex hnm hZ hW
  have hl : lv_has ls 3 [(0, .ref a1), (1, .int (nI a)), (2, .int (nI b))] := hl
  have hx := C.1
  have hb := C.2.1
  refine lv_aload_n hx hb dX2_ranksBefore_0 rfl (lv_at hl 0 rfl) ?_
  refine cx_get C hW 0 0 rfl rfl (by decide) inX2 gw_124 rfl rfl dX2_ranksBefore_1 ?_
  refine lv_iload_n hx hb dX2_ranksBefore_4 rfl (lv_at hl 1 rfl) ?_
  refine cx_ald C hW 1 0 (j := a) rfl rfl rfl (by have := (hH.2.1 a ha).2.2; have := (hH.2.1 b hb9).2.2; have := (hH.2.2.1 a ha).2; have := (hH.2.2.1 b hb9).2; have := hH.1; omega) (by decide) dX2_ranksBefore_5 ?_
  refine r_eq (y := (nI (lv a))) ((hH.2.1 a (by first | assumption | omega)).1) ?_
  refine lv_aload_n hx hb dX2_ranksBefore_6 rfl (lv_at hl 0 rfl) ?_
  refine cx_get C hW 0 0 rfl rfl (by decide) inX2 gw_124 rfl rfl dX2_ranksBefore_7 ?_
  refine lv_iload_n hx hb dX2_ranksBefore_10 rfl (lv_at hl 2 rfl) ?_
  refine cx_ald C hW 1 0 (j := b) rfl rfl rfl (by have := (hH.2.1 a ha).2.2; have := (hH.2.1 b hb9).2.2; have := (hH.2.2.1 a ha).2; have := (hH.2.2.1 b hb9).2; have := hH.1; omega) (by decide) dX2_ranksBefore_11 ?_
  refine r_eq (y := (nI (lv b))) ((hH.2.1 b (by first | assumption | omega)).1) ?_
  refine r_eqN hx hb (a := lv a) (b := lv b) (by have := (hH.2.1 a ha).2.2; have := (hH.2.1 b hb9).2.2; have := (hH.2.2.1 a ha).2; have := (hH.2.2.1 b hb9).2; have := hH.1; omega) (by have := (hH.2.1 a ha).2.2; have := (hH.2.1 b hb9).2.2; have := (hH.2.2.1 a ha).2; have := (hH.2.2.1 b hb9).2; have := hH.1; omega) (tgt := 36) dX2_ranksBefore_12 (by decide) (fun c_12 => ?_) (fun c_12 => ?_)
  · refine lv_aload_n hx hb dX2_ranksBefore_36 rfl (lv_at hl 0 rfl) ?_
    refine cx_get C hW 0 1 rfl rfl (by decide) inX2 gw_126 rfl rfl dX2_ranksBefore_37 ?_
    refine lv_iload_n hx hb dX2_ranksBefore_40 rfl (lv_at hl 1 rfl) ?_
    refine cx_ald C hW 2 0 (j := a) rfl rfl rfl (by have := (hH.2.1 a ha).2.2; have := (hH.2.1 b hb9).2.2; have := (hH.2.2.1 a ha).2; have := (hH.2.2.1 b hb9).2; have := hH.1; omega) (by decide) dX2_ranksBefore_41 ?_
    refine r_eq (y := (nI (th a))) ((hH.2.2.1 a (by first | assumption | omega)).1) ?_
    refine lv_aload_n hx hb dX2_ranksBefore_42 rfl (lv_at hl 0 rfl) ?_
    refine cx_get C hW 0 1 rfl rfl (by decide) inX2 gw_126 rfl rfl dX2_ranksBefore_43 ?_
    refine lv_iload_n hx hb dX2_ranksBefore_46 rfl (lv_at hl 2 rfl) ?_
    refine cx_ald C hW 2 0 (j := b) rfl rfl rfl (by have := (hH.2.1 a ha).2.2; have := (hH.2.1 b hb9).2.2; have := (hH.2.2.1 a ha).2; have := (hH.2.2.1 b hb9).2; have := hH.1; omega) (by decide) dX2_ranksBefore_47 ?_
    refine r_eq (y := (nI (th b))) ((hH.2.2.1 b (by first | assumption | omega)).1) ?_
    refine r_eqN hx hb (a := th a) (b := th b) (by have := (hH.2.1 a ha).2.2; have := (hH.2.1 b hb9).2.2; have := (hH.2.2.1 a ha).2; have := (hH.2.2.1 b hb9).2; have := hH.1; omega) (by have := (hH.2.1 a ha).2.2; have := (hH.2.1 b hb9).2.2; have := (hH.2.2.1 a ha).2; have := (hH.2.2.1 b hb9).2; have := hH.1; omega) (tgt := 72) dX2_ranksBefore_48 (by decide) (fun c_48 => ?_) (fun c_48 => ?_)
    · refine lv_iload_n hx hb dX2_ranksBefore_72 rfl (lv_at hl 1 rfl) ?_
      refine lv_iload_n hx hb dX2_ranksBefore_73 rfl (lv_at hl 2 rfl) ?_
      refine r_geN hx hb (a := a) (b := b) (by have := (hH.2.1 a ha).2.2; have := (hH.2.1 b hb9).2.2; have := (hH.2.2.1 a ha).2; have := (hH.2.2.1 b hb9).2; have := hH.1; omega) (by have := (hH.2.1 a ha).2.2; have := (hH.2.1 b hb9).2.2; have := (hH.2.2.1 a ha).2; have := (hH.2.2.1 b hb9).2; have := hH.1; omega) (tgt := 81) dX2_ranksBefore_74 (by decide) (fun c_74 => ?_) (fun c_74 => ?_)
      · refine lv_iconst (v := nI 0) hx hb dX2_ranksBefore_81 (by decide) ?_
        exact cx_iret C hr hlocks (by decide) hW ⟨Nat.le_of_ble_eq_true rfl, Nat.le_of_ble_eq_true rfl⟩ (⟨by unfold hAh; rw [decide_eq_false (by omega)]; rfl, rfl⟩) dX2_ranksBefore_82
      · refine lv_iconst (v := nI 1) hx hb dX2_ranksBefore_77 (by decide) ?_
        refine lv_goto (tgt := 82) hx hb dX2_ranksBefore_78 (by decide) ?_
        exact cx_iret C hr hlocks (by decide) hW ⟨Nat.le_of_ble_eq_true rfl, Nat.le_of_ble_eq_true rfl⟩ (⟨by unfold hAh; rw [decide_eq_true (by omega)]; rfl, rfl⟩) dX2_ranksBefore_82
    · refine lv_aload_n hx hb dX2_ranksBefore_51 rfl (lv_at hl 0 rfl) ?_
      refine cx_get C hW 0 1 rfl rfl (by decide) inX2 gw_126 rfl rfl dX2_ranksBefore_52 ?_
      refine lv_iload_n hx hb dX2_ranksBefore_55 rfl (lv_at hl 1 rfl) ?_
      refine cx_ald C hW 2 0 (j := a) rfl rfl rfl (by have := (hH.2.1 a ha).2.2; have := (hH.2.1 b hb9).2.2; have := (hH.2.2.1 a ha).2; have := (hH.2.2.1 b hb9).2; have := hH.1; omega) (by decide) dX2_ranksBefore_56 ?_
      refine r_eq (y := (nI (th a))) ((hH.2.2.1 a (by first | assumption | omega)).1) ?_
      refine lv_aload_n hx hb dX2_ranksBefore_57 rfl (lv_at hl 0 rfl) ?_
      refine cx_get C hW 0 1 rfl rfl (by decide) inX2 gw_126 rfl rfl dX2_ranksBefore_58 ?_
      refine lv_iload_n hx hb dX2_ranksBefore_61 rfl (lv_at hl 2 rfl) ?_
      refine cx_ald C hW 2 0 (j := b) rfl rfl rfl (by have := (hH.2.1 a ha).2.2; have := (hH.2.1 b hb9).2.2; have := (hH.2.2.1 a ha).2; have := (hH.2.2.1 b hb9).2; have := hH.1; omega) (by decide) dX2_ranksBefore_62 ?_
      refine r_eq (y := (nI (th b))) ((hH.2.2.1 b (by first | assumption | omega)).1) ?_
      refine r_leN hx hb (a := th a) (b := th b) (by have := (hH.2.1 a ha).2.2; have := (hH.2.1 b hb9).2.2; have := (hH.2.2.1 a ha).2; have := (hH.2.2.1 b hb9).2; have := hH.1; omega) (by have := (hH.2.1 a ha).2.2; have := (hH.2.1 b hb9).2.2; have := (hH.2.2.1 a ha).2; have := (hH.2.2.1 b hb9).2; have := hH.1; omega) (tgt := 70) dX2_ranksBefore_63 (by decide) (fun c_63 => ?_) (fun c_63 => ?_)
      · refine lv_iconst (v := nI 0) hx hb dX2_ranksBefore_70 (by decide) ?_
        exact cx_iret C hr hlocks (by decide) hW ⟨Nat.le_of_ble_eq_true rfl, Nat.le_of_ble_eq_true rfl⟩ (⟨by unfold hAh; rw [decide_eq_false (by omega)]; rfl, rfl⟩) dX2_ranksBefore_71
      · refine lv_iconst (v := nI 1) hx hb dX2_ranksBefore_66 (by decide) ?_
        refine lv_goto (tgt := 71) hx hb dX2_ranksBefore_67 (by decide) ?_
        exact cx_iret C hr hlocks (by decide) hW ⟨Nat.le_of_ble_eq_true rfl, Nat.le_of_ble_eq_true rfl⟩ (⟨by unfold hAh; rw [decide_eq_true (by omega)]; rfl, rfl⟩) dX2_ranksBefore_71
  · refine lv_aload_n hx hb dX2_ranksBefore_15 rfl (lv_at hl 0 rfl) ?_
    refine cx_get C hW 0 0 rfl rfl (by decide) inX2 gw_124 rfl rfl dX2_ranksBefore_16 ?_
    refine lv_iload_n hx hb dX2_ranksBefore_19 rfl (lv_at hl 1 rfl) ?_
    refine cx_ald C hW 1 0 (j := a) rfl rfl rfl (by have := (hH.2.1 a ha).2.2; have := (hH.2.1 b hb9).2.2; have := (hH.2.2.1 a ha).2; have := (hH.2.2.1 b hb9).2; have := hH.1; omega) (by decide) dX2_ranksBefore_20 ?_
    refine r_eq (y := (nI (lv a))) ((hH.2.1 a (by first | assumption | omega)).1) ?_
    refine lv_aload_n hx hb dX2_ranksBefore_21 rfl (lv_at hl 0 rfl) ?_
    refine cx_get C hW 0 0 rfl rfl (by decide) inX2 gw_124 rfl rfl dX2_ranksBefore_22 ?_
    refine lv_iload_n hx hb dX2_ranksBefore_25 rfl (lv_at hl 2 rfl) ?_
    refine cx_ald C hW 1 0 (j := b) rfl rfl rfl (by have := (hH.2.1 a ha).2.2; have := (hH.2.1 b hb9).2.2; have := (hH.2.2.1 a ha).2; have := (hH.2.2.1 b hb9).2; have := hH.1; omega) (by decide) dX2_ranksBefore_26 ?_
    refine r_eq (y := (nI (lv b))) ((hH.2.1 b (by first | assumption | omega)).1) ?_
    refine r_leN hx hb (a := lv a) (b := lv b) (by have := (hH.2.1 a ha).2.2; have := (hH.2.1 b hb9).2.2; have := (hH.2.2.1 a ha).2; have := (hH.2.2.1 b hb9).2; have := hH.1; omega) (by have := (hH.2.1 a ha).2.2; have := (hH.2.1 b hb9).2.2; have := (hH.2.2.1 a ha).2; have := (hH.2.2.1 b hb9).2; have := hH.1; omega) (tgt := 34) dX2_ranksBefore_27 (by decide) (fun c_27 => ?_) (fun c_27 => ?_)
    · refine lv_iconst (v := nI 0) hx hb dX2_ranksBefore_34 (by decide) ?_
      exact cx_iret C hr hlocks (by decide) hW ⟨Nat.le_of_ble_eq_true rfl, Nat.le_of_ble_eq_true rfl⟩ (⟨by unfold hAh; rw [decide_eq_false (by omega)]; rfl, rfl⟩) dX2_ranksBefore_35
    · refine lv_iconst (v := nI 1) hx hb dX2_ranksBefore_30 (by decide) ?_
      refine lv_goto (tgt := 35) hx hb dX2_ranksBefore_31 (by decide) ?_
      exact cx_iret C hr hlocks (by decide) hW ⟨Nat.le_of_ble_eq_true rfl, Nat.le_of_ble_eq_true rfl⟩ (⟨by unfold hAh; rw [decide_eq_true (by omega)]; rfl, rfl⟩) dX2_ranksBefore_35
theorem dX2_rankOf_0 : decode cX2_rankOf 0 = .ok (.iconst 0, 1) := by decide +kernel
theorem dX2_rankOf_1 : decode cX2_rankOf 1 = .ok (.istore_n 2, 1) := by decide +kernel
theorem dX2_rankOf_2 : decode cX2_rankOf 2 = .ok (.iconst 0, 1) := by decide +kernel
theorem dX2_rankOf_3 : decode cX2_rankOf 3 = .ok (.istore_n 3, 1) := by decide +kernel
theorem dX2_rankOf_4 : decode cX2_rankOf 4 = .ok (.iload_n 3, 1) := by decide +kernel
theorem dX2_rankOf_5 : decode cX2_rankOf 5 = .ok (.aload_n 0, 1) := by decide +kernel
theorem dX2_rankOf_6 : decode cX2_rankOf 6 = .ok (.getfield 21, 3) := by decide +kernel
theorem dX2_rankOf_9 : decode cX2_rankOf 9 = .ok (.if_icmp .ge 21, 3) := by decide +kernel
theorem dX2_rankOf_12 : decode cX2_rankOf 12 = .ok (.aload_n 0, 1) := by decide +kernel
theorem dX2_rankOf_13 : decode cX2_rankOf 13 = .ok (.iload_n 3, 1) := by decide +kernel
theorem dX2_rankOf_14 : decode cX2_rankOf 14 = .ok (.iload_n 1, 1) := by decide +kernel
theorem dX2_rankOf_15 : decode cX2_rankOf 15 = .ok (.invokevirtual 61, 3) := by decide +kernel
theorem dX2_rankOf_18 : decode cX2_rankOf 18 = .ok (.ifCond .eq 6, 3) := by decide +kernel
theorem dX2_rankOf_21 : decode cX2_rankOf 21 = .ok (.iinc 2 1, 3) := by decide +kernel
theorem dX2_rankOf_24 : decode cX2_rankOf 24 = .ok (.iinc 3 1, 3) := by decide +kernel
theorem dX2_rankOf_27 : decode cX2_rankOf 27 = .ok (.goto (-23), 3) := by decide +kernel
theorem dX2_rankOf_30 : decode cX2_rankOf 30 = .ok (.iload_n 2, 1) := by decide +kernel
theorem dX2_rankOf_31 : decode cX2_rankOf 31 = .ok (.ireturn, 1) := by decide +kernel
theorem gV_X2_X2_ranksBefore_61 : GoodIn gw (wsV RX2 61 RX2 yX2_ranksBefore (Cond.code yX2_ranksBefore cX2_ranksBefore 3 (some .boolean) :: gw)) := gdV gw_873 gw_874 gw_875 gw_69 gw_876
theorem hV_X2_ranksBefore : yX2_ranksBefore.cls = RX2 ∧ yX2_ranksBefore.cls ≠ "java/lang/invoke/MethodHandle" ∧ yX2_ranksBefore.cls ≠ "java/lang/invoke/VarHandle" ∧ (parseMethodDescriptor yX2_ranksBefore.desc).map (fun d => d.parameters.length) = some 2 := ⟨rfl, by decide +kernel, by decide +kernel, by decide +kernel⟩
set_option maxHeartbeats 2000000 in
set_option maxRecDepth 20000 in
theorem k_X2_rankOf (l : Launch) (hfl : l.stackTraces = false) (D : va_G) (aT : Nat → ClassId) (a1 : Nat) (a2 : Nat) (a3 : Nat) (a4 : Nat) (fL : Nat → Int32) (fT : Nat → Int32) (fX : Nat → Int32) (nh : Nat) (lv : Nat → Nat) (th : Nat → Nat) (ta : Nat → Nat) (hH : HeC fL fT fX nh lv th ta) (k : Nat) (hk : k < nh) : CxG l yX2_rankOf cX2_rankOf 4 (some (.int)) 1 0 0 22 D aT [.ref a1, .int (nI k)] [(a1, .inr (6, [.ref a2, .ref a3, .ref a4, .int (nI nh)])), (a2, .inl (aT 0, 6, .inl fL)), (a3, .inl (aT 0, 6, .inl fT)), (a4, .inl (aT 0, 6, .inl fX))] (qI D aT (fun r W1 => r = nI (rkN (hAh lv th) k nh) ∧ W1 = ([(a1, .inr (6, [.ref a2, .ref a3, .ref a4, .int (nI nh)])), (a2, .inl (aT 0, 6, .inl fL)), (a3, .inl (aT 0, 6, .inl fT)), (a4, .inl (aT 0, 6, .inl fX))] : va_W))) (fun _ _ => False) := by
  refine CxG.of RX2 (by decide +kernel) rfl (Nat.le_of_ble_eq_true rfl) ?_
  intro p e s m below meth c A ls C hml hl hA hr hlocks hex hnm hZ hW
  have hl : lv_has ls 4 [(0, .ref a1), (1, .int (nI k))] := hl
  have hx := C.1
  have hb := C.2.1
  refine lv_iconst (v := nI 0) hx hb dX2_rankOf_0 (by decide) ?_
  refine lv_istore_n (lv' := [(2, .int (nI 0)), (0, .ref a1), (1, .int (nI k))]) hx hb dX2_rankOf_1 rfl hl (by decide) rfl (fun ls hl => ?_)
  refine lv_iconst (v := nI 0) hx hb dX2_rankOf_2 (by decide) ?_
  refine lv_istore_n (lv' := [(3, .int (nI 0)), (2, .int (nI 0)), (0, .ref a1), (1, .int (nI k))]) hx hb dX2_rankOf_3 rfl hl (by decide) rfl (fun ls hl => ?_)
  refine W_loopH (σ := Nat) (fun z_ => nh - z_) (fun z_ H locs g => ∃ ls, g = F0 m 4 ls [] ∧ lv_has ls 4 [(3, .int (nI z_)), (2, .int (nI (rkN (hAh lv th) k z_))), (1, .int (nI k)), (0, .ref a1)] ∧ CxB D [(a1, .inr (6, [.ref a2, .ref a3, .ref a4, .int (nI nh)])), (a2, .inl (aT 0, 6, .inl fL)), (a3, .inl (aT 0, 6, .inl fT)), (a4, .inl (aT 0, 6, .inl fX))] A s.heap H locs ∧ z_ ≤ nh) ?_ 0 _ ⟨_, rfl, lv_sub hl [0, 1, 3, 2] rfl, hW, Nat.zero_le _⟩
  clear hW hl
  rintro i H locs g ⟨ls, rfl, hl, hW, hi⟩ ih_4
  refine lv_iload_n hx hb dX2_rankOf_4 rfl (lv_at hl 0 rfl) ?_
  refine lv_aload_n hx hb dX2_rankOf_5 rfl (lv_at hl 3 rfl) ?_
  refine cx_get C hW 0 3 rfl rfl (by decide) inX2 gw_129 rfl rfl dX2_rankOf_6 ?_
  refine r_geN hx hb (a := i) (b := nh) (by have := hH.1; omega) (by have := hH.1; omega) (tgt := 30) dX2_rankOf_9 (by decide) (fun c_9 => ?_) (fun c_9 => ?_)
  · refine lv_iload_n hx hb dX2_rankOf_30 rfl (lv_at hl 1 rfl) ?_
    exact cx_iret C hr hlocks rfl hW ⟨Nat.le_of_ble_eq_true rfl, Nat.le_of_ble_eq_true rfl⟩ (⟨by rw [show i = nh by omega], rfl⟩) dX2_rankOf_31
  · refine lv_aload_n hx hb dX2_rankOf_12 rfl (lv_at hl 3 rfl) ?_
    refine lv_iload_n hx hb dX2_rankOf_13 rfl (lv_at hl 0 rfl) ?_
    refine lv_iload_n hx hb dX2_rankOf_14 rfl (lv_at hl 2 rfl) ?_
    refine cx_calli (Wr := []) (cx_runV C hml hl.1 hZ hW hA (As := [.int (nI i), .int (nI k)]) (rest := []) (k_X2_ranksBefore l hfl D aT a1 a2 a3 a4 fL fT fX nh lv th ta hH i k (show i < nh by omega) hk) gV_X2_X2_ranksBefore_61 hV_X2_ranksBefore rfl ⟨Nat.le_of_ble_eq_true rfl, Nat.le_of_ble_eq_true rfl⟩ ⟨Nat.le_of_ble_eq_true rfl, Nat.le_of_ble_eq_true rfl⟩ [0, 1, 2, 3] rfl (by decide) 0 6 rfl rfl rfl rfl (Nat.le_of_ble_eq_true rfl) dX2_rankOf_15) hW hA [0, 1, 2, 3] [] rfl rfl (by decide) (by decide) (fun _ _ _ _ _ _ h9 => h9.elim) (fun r_15 W_15 H locs hq hW => ?_)
    obtain ⟨rfl, rfl⟩ := hq
    refine r_bI_eq hx hb (b := (hAh lv th i k)) (tgt := 24) dX2_rankOf_18 (by decide) (fun c_18 => ?_) (fun c_18 => ?_)
    · have hl : lv_has ls 4 [(3, .int (nI i)), (2, .int (nI (rkN (hAh lv th) k (i + 1)))), (1, .int (nI k)), (0, .ref a1)] := by
        rw [show nI (rkN (hAh lv th) k (i + 1)) = nI (rkN (hAh lv th) k i) from congrArg nI (by rw [rkN, if_neg (by rw [c_18]; decide), Nat.add_zero])]
        exact hl
      refine lv_iinc (v := (nI (i + 1))) (lv' := [(3, .int (nI (i + 1))), (2, .int (nI (rkN (hAh lv th) k (i + 1)))), (1, .int (nI k)), (0, .ref a1)]) hx hb dX2_rankOf_24 hl (k := 0) rfl (nI_1 _) (by decide) rfl (fun ls hl => ?_)
      refine lv_goto (tgt := 4) hx hb dX2_rankOf_27 (by decide) ?_
      exact ih_4 (i + 1) _ _ _ (by first | omega | (dsimp only; omega)) ⟨_, rfl, lv_sub hl [0, 1, 2, 3] rfl, hW, (by omega)⟩
    · refine lv_iinc (v := (nI ((rkN (hAh lv th) k i) + 1))) (lv' := [(2, .int (nI ((rkN (hAh lv th) k i) + 1))), (3, .int (nI i)), (1, .int (nI k)), (0, .ref a1)]) hx hb dX2_rankOf_21 hl (k := 1) rfl (nI_1 _) (by decide) rfl (fun ls hl => ?_)
      have hl : lv_has ls 4 [(2, .int (nI (rkN (hAh lv th) k (i + 1)))), (3, .int (nI i)), (1, .int (nI k)), (0, .ref a1)] := by
        rw [show nI (rkN (hAh lv th) k (i + 1)) = nI ((rkN (hAh lv th) k i) + 1) from congrArg nI (by rw [rkN, if_pos c_18])]
        exact hl
      refine lv_iinc (v := (nI (i + 1))) (lv' := [(3, .int (nI (i + 1))), (2, .int (nI (rkN (hAh lv th) k (i + 1)))), (1, .int (nI k)), (0, .ref a1)]) hx hb dX2_rankOf_24 hl (k := 1) rfl (nI_1 _) (by decide) rfl (fun ls hl => ?_)
      refine lv_goto (tgt := 4) hx hb dX2_rankOf_27 (by decide) ?_
      exact ih_4 (i + 1) _ _ _ (by first | omega | (dsimp only; omega)) ⟨_, rfl, lv_sub hl [0, 1, 2, 3] rfl, hW, (by omega)⟩
theorem dX2_atRank_0 : decode cX2_atRank 0 = .ok (.iconst 0, 1) := by decide +kernel
theorem dX2_atRank_1 : decode cX2_atRank 1 = .ok (.istore_n 2, 1) := by decide +kernel
theorem dX2_atRank_2 : decode cX2_atRank 2 = .ok (.iconst 0, 1) := by decide +kernel
theorem dX2_atRank_3 : decode cX2_atRank 3 = .ok (.istore_n 3, 1) := by decide +kernel
theorem dX2_atRank_4 : decode cX2_atRank 4 = .ok (.iload_n 3, 1) := by decide +kernel
theorem dX2_atRank_5 : decode cX2_atRank 5 = .ok (.aload_n 0, 1) := by decide +kernel
theorem dX2_atRank_6 : decode cX2_atRank 6 = .ok (.getfield 21, 3) := by decide +kernel
theorem dX2_atRank_9 : decode cX2_atRank 9 = .ok (.if_icmp .ge 20, 3) := by decide +kernel
theorem dX2_atRank_12 : decode cX2_atRank 12 = .ok (.aload_n 0, 1) := by decide +kernel
theorem dX2_atRank_13 : decode cX2_atRank 13 = .ok (.iload_n 3, 1) := by decide +kernel
theorem dX2_atRank_14 : decode cX2_atRank 14 = .ok (.invokevirtual 58, 3) := by decide +kernel
theorem dX2_atRank_17 : decode cX2_atRank 17 = .ok (.iload_n 1, 1) := by decide +kernel
theorem dX2_atRank_18 : decode cX2_atRank 18 = .ok (.if_icmp .ne 5, 3) := by decide +kernel
theorem dX2_atRank_21 : decode cX2_atRank 21 = .ok (.iload_n 3, 1) := by decide +kernel
theorem dX2_atRank_22 : decode cX2_atRank 22 = .ok (.istore_n 2, 1) := by decide +kernel
theorem dX2_atRank_23 : decode cX2_atRank 23 = .ok (.iinc 3 1, 3) := by decide +kernel
theorem dX2_atRank_26 : decode cX2_atRank 26 = .ok (.goto (-22), 3) := by decide +kernel
theorem dX2_atRank_29 : decode cX2_atRank 29 = .ok (.iload_n 2, 1) := by decide +kernel
theorem dX2_atRank_30 : decode cX2_atRank 30 = .ok (.ireturn, 1) := by decide +kernel
theorem gV_X2_X2_rankOf_58 : GoodIn gw (wsV RX2 58 RX2 yX2_rankOf (Cond.code yX2_rankOf cX2_rankOf 4 (some .int) :: gw)) := gdV gw_869 gw_871 gw_7 gw_69 gw_872
theorem hV_X2_rankOf : yX2_rankOf.cls = RX2 ∧ yX2_rankOf.cls ≠ "java/lang/invoke/MethodHandle" ∧ yX2_rankOf.cls ≠ "java/lang/invoke/VarHandle" ∧ (parseMethodDescriptor yX2_rankOf.desc).map (fun d => d.parameters.length) = some 1 := ⟨rfl, by decide +kernel, by decide +kernel, by decide +kernel⟩
set_option maxHeartbeats 2000000 in
set_option maxRecDepth 20000 in
theorem k_X2_atRank (l : Launch) (hfl : l.stackTraces = false) (D : va_G) (aT : Nat → ClassId) (a1 : Nat) (a2 : Nat) (a3 : Nat) (a4 : Nat) (fL : Nat → Int32) (fT : Nat → Int32) (fX : Nat → Int32) (nh : Nat) (lv : Nat → Nat) (th : Nat → Nat) (ta : Nat → Nat) (hH : HeC fL fT fX nh lv th ta) (x : Int32) : CxG l yX2_atRank cX2_atRank 4 (some (.int)) 2 0 0 45 D aT [.ref a1, .int x] [(a1, .inr (6, [.ref a2, .ref a3, .ref a4, .int (nI nh)])), (a2, .inl (aT 0, 6, .inl fL)), (a3, .inl (aT 0, 6, .inl fT)), (a4, .inl (aT 0, 6, .inl fX))] (qI D aT (fun r W1 => r = nI (atR (hAh lv th) nh x nh) ∧ W1 = ([(a1, .inr (6, [.ref a2, .ref a3, .ref a4, .int (nI nh)])), (a2, .inl (aT 0, 6, .inl fL)), (a3, .inl (aT 0, 6, .inl fT)), (a4, .inl (aT 0, 6, .inl fX))] : va_W))) (fun _ _ => False) := by
  refine CxG.of RX2 (by decide +kernel) rfl (Nat.le_of_ble_eq_true rfl) ?_
  intro p e s m below meth c A ls C hml hl hA hr hlocks hex hnm hZ hW
  have hl : lv_has ls 4 [(0, .ref a1), (1, .int x)] := hl
  have hx := C.1
  have hb := C.2.1
  refine lv_iconst (v := nI 0) hx hb dX2_atRank_0 (by decide) ?_
  refine lv_istore_n (lv' := [(2, .int (nI 0)), (0, .ref a1), (1, .int x)]) hx hb dX2_atRank_1 rfl hl (by decide) rfl (fun ls hl => ?_)
  refine lv_iconst (v := nI 0) hx hb dX2_atRank_2 (by decide) ?_
  refine lv_istore_n (lv' := [(3, .int (nI 0)), (2, .int (nI 0)), (0, .ref a1), (1, .int x)]) hx hb dX2_atRank_3 rfl hl (by decide) rfl (fun ls hl => ?_)
  refine W_loopH (σ := Nat) (fun z_ => nh - z_) (fun z_ H locs g => ∃ ls, g = F0 m 4 ls [] ∧ lv_has ls 4 [(3, .int (nI z_)), (2, .int (nI (atR (hAh lv th) nh x z_))), (1, .int x), (0, .ref a1)] ∧ CxB D [(a1, .inr (6, [.ref a2, .ref a3, .ref a4, .int (nI nh)])), (a2, .inl (aT 0, 6, .inl fL)), (a3, .inl (aT 0, 6, .inl fT)), (a4, .inl (aT 0, 6, .inl fX))] A s.heap H locs ∧ z_ ≤ nh) ?_ 0 _ ⟨_, rfl, lv_sub hl [0, 1, 3, 2] rfl, hW, Nat.zero_le _⟩
  clear hW hl
  rintro i H locs g ⟨ls, rfl, hl, hW, hi⟩ ih_4
  refine lv_iload_n hx hb dX2_atRank_4 rfl (lv_at hl 0 rfl) ?_
  refine lv_aload_n hx hb dX2_atRank_5 rfl (lv_at hl 3 rfl) ?_
  refine cx_get C hW 0 3 rfl rfl (by decide) inX2 gw_129 rfl rfl dX2_atRank_6 ?_
  refine r_geN hx hb (a := i) (b := nh) (by have := hH.1; omega) (by have := hH.1; omega) (tgt := 29) dX2_atRank_9 (by decide) (fun c_9 => ?_) (fun c_9 => ?_)
  · refine lv_iload_n hx hb dX2_atRank_29 rfl (lv_at hl 1 rfl) ?_
    exact cx_iret C hr hlocks rfl hW ⟨Nat.le_of_ble_eq_true rfl, Nat.le_of_ble_eq_true rfl⟩ (⟨by rw [show i = nh by omega], rfl⟩) dX2_atRank_30
  · refine lv_aload_n hx hb dX2_atRank_12 rfl (lv_at hl 3 rfl) ?_
    refine lv_iload_n hx hb dX2_atRank_13 rfl (lv_at hl 0 rfl) ?_
    refine cx_calli (Wr := []) (cx_runV C hml hl.1 hZ hW hA (As := [.int (nI i)]) (rest := []) (k_X2_rankOf l hfl D aT a1 a2 a3 a4 fL fT fX nh lv th ta hH i (show i < nh by omega)) gV_X2_X2_rankOf_58 hV_X2_rankOf rfl ⟨Nat.le_of_ble_eq_true rfl, Nat.le_of_ble_eq_true rfl⟩ ⟨Nat.le_of_ble_eq_true rfl, Nat.le_of_ble_eq_true rfl⟩ [0, 1, 2, 3] rfl (by decide) 0 6 rfl rfl rfl rfl (Nat.le_of_ble_eq_true rfl) dX2_atRank_14) hW hA [0, 1, 2, 3] [] rfl rfl (by decide) (by decide) (fun _ _ _ _ _ _ h9 => h9.elim) (fun r_14 W_14 H locs hq hW => ?_)
    obtain ⟨rfl, rfl⟩ := hq
    refine lv_iload_n hx hb dX2_atRank_17 rfl (lv_at hl 2 rfl) ?_
    refine lv_icmp_ne hx hb (x := (nI (rkN (hAh lv th) i nh))) (y := x) (tgt := 23) dX2_atRank_18 (by decide) (fun c_18 => ?_) (fun c_18 => ?_)
    · have hl : lv_has ls 4 [(3, .int (nI i)), (2, .int (nI (atR (hAh lv th) nh x (i + 1)))), (1, .int x), (0, .ref a1)] := by
        rw [show nI (atR (hAh lv th) nh x (i + 1)) = nI (atR (hAh lv th) nh x i) from congrArg nI (by rw [atR, if_neg c_18])]
        exact hl
      refine lv_iinc (v := (nI (i + 1))) (lv' := [(3, .int (nI (i + 1))), (2, .int (nI (atR (hAh lv th) nh x (i + 1)))), (1, .int x), (0, .ref a1)]) hx hb dX2_atRank_23 hl (k := 0) rfl (nI_1 _) (by decide) rfl (fun ls hl => ?_)
      refine lv_goto (tgt := 4) hx hb dX2_atRank_26 (by decide) ?_
      exact ih_4 (i + 1) _ _ _ (by first | omega | (dsimp only; omega)) ⟨_, rfl, lv_sub hl [0, 1, 2, 3] rfl, hW, (by omega)⟩
    · refine lv_iload_n hx hb dX2_atRank_21 rfl (lv_at hl 0 rfl) ?_
      refine lv_istore_n (lv' := [(2, .int (nI i)), (3, .int (nI i)), (1, .int x), (0, .ref a1)]) hx hb dX2_atRank_22 rfl hl (by decide) rfl (fun ls hl => ?_)
      have hl : lv_has ls 4 [(2, .int (nI (atR (hAh lv th) nh x (i + 1)))), (3, .int (nI i)), (1, .int x), (0, .ref a1)] := by
        rw [show nI (atR (hAh lv th) nh x (i + 1)) = nI (i) from congrArg nI (by rw [atR, if_pos c_18])]
        exact hl
      refine lv_iinc (v := (nI (i + 1))) (lv' := [(3, .int (nI (i + 1))), (2, .int (nI (atR (hAh lv th) nh x (i + 1)))), (1, .int x), (0, .ref a1)]) hx hb dX2_atRank_23 hl (k := 1) rfl (nI_1 _) (by decide) rfl (fun ls hl => ?_)
      refine lv_goto (tgt := 4) hx hb dX2_atRank_26 (by decide) ?_
      exact ih_4 (i + 1) _ _ _ (by first | omega | (dsimp only; omega)) ⟨_, rfl, lv_sub hl [0, 1, 2, 3] rfl, hW, (by omega)⟩
end
section
theorem anc_ge {pr : Nat → Option Nat} {n r : Nat} (h : ParOk pr n) : ∀ k, k < n → anc pr r k = true → r ≤ k := by
  intro k
  induction k using Nat.strongRecOn with
  | _ k ih =>
    intro hk ha
    by_cases e : k = r
    · omega
    · rw [anc_O h hk e] at ha
      cases hp : pr k with
      | none => rw [hp] at ha; simp [ancO] at ha
      | some j =>
        rw [hp] at ha
        have hj := h k j hk hp
        have := ih j hj (by omega) ha
        omega
theorem tipB_yes {pr : Nat → Option Nat} {q : Nat} : ∀ {n : Nat}, (∀ j, j < n → pr j ≠ some q) → tipB pr q n = true := by
  intro n
  induction n with
  | zero => intro _; rfl
  | succ n ih =>
    intro h
    unfold tipB
    rw [ih (fun j hj => h j (by omega)), Bool.true_and]
    cases hp : pr n with
    | none => rfl
    | some j =>
      have := h n (by omega)
      rw [hp] at this
      have hj : j ≠ q := fun e => this (by rw [e])
      simp [hj]
theorem tipB_not {pr : Nat → Option Nat} {q i : Nat} (h : pr i = some q) : ∀ {n : Nat}, i < n → tipB pr q n = false := by
  intro n
  induction n with
  | zero => intro hi; omega
  | succ n ih =>
    intro hi
    unfold tipB
    rcases Nat.lt_or_ge i n with w | w
    · rw [ih w, Bool.false_and]
    · have e : i = n := by omega
      subst e
      rw [h]
      simp
section G2
variable {p : Program} {l : Launch} {e : Env} {R : Room} {s : State} {m : MethodId} {args : Array Value} {below : List Frame} {meth : Method} {c : Code} {H : Heap} {locs : List Loc} {cells slots : Nat} {Q : State → Prop} {cc : ByteArray} {pc : Nat} {ls : Array Slot} {rest : List Value}
theorem r_oi_leN (hx : p.tables.exec = Jvm.exec) (hb : c.code = cc) {o : Option Nat} {q : Nat} (ho : ∀ j, o = some j → j < 2 ^ 31) (hq : q < 2 ^ 31) {off : Int} {tgt : Nat} (hdg : decode cc pc = .ok (.if_icmp .le off, 3)) (ht : (pc : Int) + off = (tgt : Int)) (kt : (∀ j, o = some j → j ≤ q) → W p l e R s m args below meth c H locs cells slots Q (F0 m tgt ls rest)) (kf : ∀ j, o = some j → q < j → W p l e R s m args below meth c H locs cells slots Q (F0 m (pc + 3) ls rest)) : W p l e R s m args below meth c H locs cells slots Q (F0 m pc ls (.int (nI q) :: .int (oi o) :: rest)) := by
  refine lv_icmp_le hx hb hdg ht (fun h => kt (fun j hj => ?_)) (fun h => ?_)
  · subst hj
    exact (nI_leI (ho j rfl) hq).mp h
  · cases o with
    | none => exact absurd (Int32.le_of_lt (neg1_lt hq)) h
    | some j =>
      refine kf j rfl ?_
      rcases Nat.lt_or_ge q j with w | w
      · exact w
      · exact absurd ((nI_leI (ho j rfl) hq).mpr w) h
end G2
theorem br_end {pr : Nat → Option Nat} {n top : Nat} {o : Option Nat} (h : ParOk pr n) (hn : ∀ j, o = some j → j < n) (ho : ∀ j, o = some j → j ≤ top) : ancO pr top o = decide (o = some top) := by
  cases o with
  | none => rfl
  | some j =>
    show anc pr top j = _
    by_cases e : j = top
    · subst e
      rw [anc_self]; simp
    · have : anc pr top j ≠ true := fun z => by
        have h1 := anc_ge h j (hn j rfl) z
        have h2 := ho j rfl
        omega
      simp [e, this]
theorem oM_0 {o : Option Nat} (h : oM o = 0) : ∀ j, o = some j → False := by
  intro j hj
  subst hj
  simp [oM] at h
theorem brs_top {pr : Nat → Option Nat} {n top : Nat} (h : ParOk pr n) : ∀ i, i ≤ top → i ≤ n → brs pr top i = 0 := by
  intro i
  induction i with
  | zero => intro _ _; rfl
  | succ i ih =>
    intro h1 h2
    unfold brs
    rw [ih (by omega) (by omega), if_neg (fun z => by have := anc_ge h i (by omega) z; omega)]
theorem brs_le {pr : Nat → Option Nat} {r : Nat} : ∀ i, brs pr r i ≤ i := by
  intro i
  induction i with
  | zero => exact Nat.le_refl _
  | succ i ih => unfold brs; split <;> omega
theorem ltp_skip {pr : Nat → Option Nat} {n r i : Nat} (h : ¬ (anc pr r i = true ∧ tipB pr i n = true)) : ltp pr n r (i + 1) = ltp pr n r i := by
  show (if (anc pr r i && tipB pr i n) = true then some i else ltp pr n r i) = _
  rw [if_neg (fun z => h (by rwa [Bool.and_eq_true] at z))]
theorem ltp_hit {pr : Nat → Option Nat} {n r i : Nat} (h1 : anc pr r i = true) (h2 : tipB pr i n = true) : ltp pr n r (i + 1) = some i := by
  show (if (anc pr r i && tipB pr i n) = true then some i else ltp pr n r i) = _
  rw [h1, h2]; rfl
theorem ltp_anc {pr : Nat → Option Nat} {n r : Nat} : ∀ {i k : Nat}, ltp pr n r i = some k → anc pr r k = true := by
  intro i
  induction i with
  | zero => intro k h; cases h
  | succ i ih =>
    intro k h
    by_cases q : anc pr r i = true ∧ tipB pr i n = true
    · rw [ltp_hit q.1 q.2] at h
      cases h
      exact q.1
    · rw [ltp_skip q] at h
      exact ih h
theorem ltp_top {pr : Nat → Option Nat} {n r : Nat} (h : ParOk pr n) (hr : r < n) (e : ltp pr n r n = ltp pr n r (r + 1)) : ltp pr n r n = some r := by
  obtain ⟨t, h1, h2⟩ := ltp_ex h hr
  rw [h1] at e
  have h3 := ltp_lt e.symm
  have h4 := anc_ge h t h2 (ltp_anc h1)
  have : t = r := by omega
  rw [h1, this]
/-- a row behind a place taken out, as far as the loop has come -/
def rmF (f : Nat → Int32) (k i : Nat) : Nat → Int32 := fun j => if k ≤ j ∧ j + 1 < i then f (j + 1) else f j
def dcP (k : Nat) (x : Int32) : Int32 := if x ≤ nI k then x else x - nI 1
def rmP (f : Nat → Int32) (k i : Nat) : Nat → Int32 := fun j => if k ≤ j ∧ j + 1 < i then dcP k (f (j + 1)) else f j
theorem rmF_0 {f : Nat → Int32} {k : Nat} : rmF f k (k + 1) = f := by funext j; unfold rmF; rw [if_neg (by omega)]
theorem rmP_0 {f : Nat → Int32} {k : Nat} : rmP f k (k + 1) = f := by funext j; unfold rmP; rw [if_neg (by omega)]
theorem rmF_i {f : Nat → Int32} {k i : Nat} : rmF f k i i = f i := by unfold rmF; rw [if_neg (by omega)]
theorem rmP_i {f : Nat → Int32} {k i : Nat} : rmP f k i i = f i := by unfold rmP; rw [if_neg (by omega)]
theorem rmF_1 {f : Nat → Int32} {k i : Nat} (h : k + 1 ≤ i) : rmF f k (i + 1) = upd (rmF f k i) (i - 1) (f i) := by
  funext j; unfold upd rmF
  by_cases h1 : j = i - 1
  · rw [if_pos h1, if_pos (by omega), show j + 1 = i by omega]
  · rw [if_neg h1]
    by_cases h2 : k ≤ j ∧ j + 1 < i
    · rw [if_pos h2, if_pos (by omega)]
    · rw [if_neg h2, if_neg (by omega)]
theorem rmP_1 {f : Nat → Int32} {k i : Nat} (h : k + 1 ≤ i) : rmP f k (i + 1) = upd (rmP f k i) (i - 1) (dcP k (f i)) := by
  funext j; unfold upd rmP
  by_cases h1 : j = i - 1
  · rw [if_pos h1, if_pos (by omega), show j + 1 = i by omega]
  · rw [if_neg h1]
    by_cases h2 : k ≤ j ∧ j + 1 < i
    · rw [if_pos h2, if_pos (by omega)]
    · rw [if_neg h2, if_neg (by omega)]
theorem rmF_at {f : Nat → Int32} {k n j : Nat} (hj : j < n - 1) : rmF f k n j = f (sk k j) := by
  unfold rmF sk
  by_cases h : j < k
  · rw [if_neg (by omega), if_pos h]
  · rw [if_pos (by omega), if_neg h]
theorem dc_oi {k : Nat} {o : Option Nat} (hk : k < 2 ^ 31) (ho : ∀ j, o = some j → j < 2 ^ 31) (hne : o ≠ some k) : dcP k (oi o) = oi (o.map (un k)) := by
  unfold dcP
  cases o with
  | none => rw [if_pos (show oi none ≤ nI k from Int32.le_of_lt (neg1_lt hk))]; rfl
  | some j =>
    have hj := ho j rfl
    have hjk : j ≠ k := fun e => hne (by rw [e])
    show (if nI j ≤ nI k then nI j else nI j - nI 1) = nI (un k j)
    unfold un
    by_cases h : j < k
    · rw [if_pos ((nI_leI hj hk).mpr (by omega)), if_pos h]
    · rw [if_neg (fun z => h (by have := (nI_leI hj hk).mp z; omega)), if_neg h]
      exact pk_sub (by omega)
theorem rmP_at {f : Nat → Int32} {pr : Nat → Option Nat} {k n j : Nat} (hk : k < n) (hn : n ≤ 12) (hP : ∀ i, i < n → f i = oi (pr i)) (hok : ParOk pr n) (ht : ∀ i, i < n → pr i ≠ some k) (hj : j < n - 1) : rmP f k n j = oi (drP pr k j) := by
  have hs : sk k j < n := sk_lt hj
  have key : dcP k (oi (pr (sk k j))) = oi (drP pr k j) := dc_oi (by omega) (fun i hi => by have := hok _ i hs hi; omega) (ht _ hs)
  by_cases h : j < k
  · have e : sk k j = j := by unfold sk; rw [if_pos h]
    have e2 : rmP f k n j = f j := by unfold rmP; rw [if_neg (by omega)]
    rw [e2, ← key, e, hP j (by omega)]
    unfold dcP
    cases hp : pr j with
    | none => rw [if_pos (show oi none ≤ nI k from Int32.le_of_lt (neg1_lt (by omega)))]
    | some i =>
      have := hok j i (by omega) hp
      rw [if_pos (show oi (some i) ≤ nI k from nI_le (by omega) (by omega))]
  · have e : sk k j = j + 1 := by unfold sk; rw [if_neg h]
    have e2 : rmP f k n j = dcP k (f (j + 1)) := by unfold rmP; rw [if_pos (by omega)]
    rw [e2, ← key, e, hP (j + 1) (by omega)]
theorem MoC.drop {fI fN fP : Nat → Int32} {nm k : Nat} {idn : Nat → Nat} {pr : Nat → Option Nat} {tn : Nat → Nat} (h : MoC fI fN fP nm idn pr tn) (hk : k < nm) (ht : ∀ j, j < nm → pr j ≠ some k) : MoC (rmF fI k nm) (rmF fN k nm) (rmP fP k nm) (nm - 1) (fun j => idn (sk k j)) (drP pr k) (fun j => tn (sk k j)) := by
  obtain ⟨h1, h2, h3, h4, h5, h6⟩ := h
  refine ⟨by omega, fun j hj => ?_, fun j hj => rmP_at hk h1 h3 h4 ht hj, drP_ok h4 ht, fun i j hij hj => ?_, fun j hj => ?_⟩
  · rw [rmF_at hj]; exact h2 _ (sk_lt hj)
  · refine h5 _ _ ?_ (sk_lt hj)
    unfold sk
    split <;> split <;> omega
  · rw [rmF_at hj]; exact h6 _ (sk_lt hj)
theorem MoC.add {fI fN fP : Nat → Int32} {nm nxn t : Nat} {po : Option Nat} {idn : Nat → Nat} {pr : Nat → Option Nat} {tn : Nat → Nat} (h : MoC fI fN fP nm idn pr tn) (h12 : nm < 12) (hid : ∀ k, k < nm → idn k < nxn) (hnx : nxn < 1048576) (hpo : ∀ j, po = some j → j < nm) (ht : t ≤ 9) : MoC (upd fI nm (nI nxn)) (upd fN nm (nI t)) (upd fP nm (oi po)) (nm + 1) (fun k => if k = nm then nxn else idn k) (fun k => if k = nm then po else pr k) (fun k => if k = nm then t else tn k) := by
  obtain ⟨h1, h2, h3, h4, h5, h6⟩ := h
  refine ⟨by omega, fun j hj => ?_, fun j hj => ?_, fun k j hk hp => ?_, fun i j hij hj => ?_, fun j hj => ?_⟩
  · by_cases e : j = nm
    · subst e; dsimp only; rw [pk_us, if_pos rfl]; exact ⟨rfl, hnx⟩
    · dsimp only; rw [pk_un e, if_neg e]; exact h2 j (by omega)
  · by_cases e : j = nm
    · subst e; dsimp only; rw [pk_us, if_pos rfl]
    · dsimp only; rw [pk_un e, if_neg e]; exact h3 j (by omega)
  · dsimp only at hp
    by_cases e : k = nm
    · subst e; rw [if_pos rfl] at hp; exact hpo j hp
    · rw [if_neg e] at hp; exact h4 k j (by omega) hp
  · dsimp only
    by_cases e : j = nm
    · subst e; rw [if_pos rfl, if_neg (by omega)]; exact hid i hij
    · rw [if_neg e, if_neg (by omega)]; exact h5 i j hij (by omega)
  · by_cases e : j = nm
    · subst e; dsimp only; rw [pk_us, if_pos rfl]; exact ⟨rfl, ht⟩
    · dsimp only; rw [pk_un e, if_neg e]; exact h6 j (by omega)
/-- the sum of the first weights -/
def smC (f : Nat → Int32) : Nat → Int32
  | 0 => nI 0
  | i + 1 => smC f i + f i
/-- whether motion a ranks ahead of b -/
def mAc (f : Nat → Int32) (pr : Nat → Option Nat) (a b : Nat) : Bool := decide (f b < f a ∨ (f a = f b ∧ (dep pr a < dep pr b ∨ (dep pr a = dep pr b ∧ a < b))))
theorem MoC.lim {fI fN fP : Nat → Int32} {nm : Nat} {idn : Nat → Nat} {pr : Nat → Option Nat} {tn : Nat → Nat} (h : MoC fI fN fP nm idn pr tn) {k : Nat} (hk : k < nm) : ∀ j, pr k = some j → j < 2 ^ 31 := by
  intro j hj
  have h1 := h.1
  have h2 := h.2.2.2.1 k j hk hj
  omega
theorem mAc_1 {f : Nat → Int32} {pr : Nat → Option Nat} {a b : Nat} (h : f b < f a) : nI 1 = bI (mAc f pr a b) := by unfold mAc; rw [decide_eq_true (Or.inl h)]; rfl
theorem mAc_2 {f : Nat → Int32} {pr : Nat → Option Nat} {a b : Nat} (h1 : ¬ f a = f b) (h2 : f a ≤ f b) : nI 0 = bI (mAc f pr a b) := by
  unfold mAc
  rw [decide_eq_false (fun z => by
    rcases z with z | z
    · exact absurd z (Int32.not_lt.mpr h2)
    · exact h1 z.1)]
  rfl
theorem mAc_3 {f : Nat → Int32} {pr : Nat → Option Nat} {a b : Nat} (h1 : f a = f b) (h2 : dep pr a < dep pr b ∨ (dep pr a = dep pr b ∧ a < b)) : nI 1 = bI (mAc f pr a b) := by unfold mAc; rw [decide_eq_true (Or.inr ⟨h1, h2⟩)]; rfl
theorem mAc_4 {f : Nat → Int32} {pr : Nat → Option Nat} {a b : Nat} (h1 : f a = f b) (h2 : ¬ (dep pr a < dep pr b ∨ (dep pr a = dep pr b ∧ a < b))) : nI 0 = bI (mAc f pr a b) := by
  unfold mAc
  rw [decide_eq_false (fun z => by
    rcases z with z | z
    · rw [h1] at z; exact Int32.lt_irrefl z
    · exact h2 z.2)]
  rfl
theorem dX5_isFull_0 : decode cX5_isFull 0 = .ok (.aload_n 0, 1) := by decide +kernel
theorem dX5_isFull_1 : decode cX5_isFull 1 = .ok (.getfield 24, 3) := by decide +kernel
theorem dX5_isFull_4 : decode cX5_isFull 4 = .ok (.bipush 12, 2) := by decide +kernel
theorem dX5_isFull_6 : decode cX5_isFull 6 = .ok (.if_icmp .lt 7, 3) := by decide +kernel
theorem dX5_isFull_9 : decode cX5_isFull 9 = .ok (.iconst 1, 1) := by decide +kernel
theorem dX5_isFull_10 : decode cX5_isFull 10 = .ok (.goto 4, 3) := by decide +kernel
theorem dX5_isFull_13 : decode cX5_isFull 13 = .ok (.iconst 0, 1) := by decide +kernel
theorem dX5_isFull_14 : decode cX5_isFull 14 = .ok (.ireturn, 1) := by decide +kernel
set_option maxHeartbeats 2000000 in
set_option maxRecDepth 20000 in
theorem k_X5_isFull (l : Launch) (hfl : l.stackTraces = false) (D : va_G) (aT : Nat → ClassId) (a5 : Nat) (a6 : Nat) (a7 : Nat) (a8 : Nat) (a9 : Nat) (fI : Nat → Int32) (fN : Nat → Int32) (fW : Nat → Int32) (fP : Nat → Int32) (nm : Nat) (nx : Int32) (h12 : nm ≤ 12) : CxG l yX5_isFull cX5_isFull 1 (some (.boolean)) 0 0 0 0 D aT [.ref a5] [(a5, .inr (8, [.ref a6, .ref a7, .ref a8, .ref a9, .int (nI nm), .int nx])), (a6, .inl (aT 0, 12, .inl fI)), (a7, .inl (aT 0, 12, .inl fN)), (a8, .inl (aT 0, 12, .inl fW)), (a9, .inl (aT 0, 12, .inl fP))] (qI D aT (fun r W1 => r = bI (decide (12 ≤ nm)) ∧ W1 = ([(a5, .inr (8, [.ref a6, .ref a7, .ref a8, .ref a9, .int (nI nm), .int nx])), (a6, .inl (aT 0, 12, .inl fI)), (a7, .inl (aT 0, 12, .inl fN)), (a8, .inl (aT 0, 12, .inl fW)), (a9, .inl (aT 0, 12, .inl fP))] : va_W))) (fun _ _ => False) := by
  refine CxG.of RX5 (by decide +kernel) rfl (Nat.le_of_ble_eq_true rfl) ?_
  intro p e s m below meth c A ls C hml hl hA hr hlocks hex hnm hZ hW
  have hl : lv_has ls 1 [(0, .ref a5)] := hl
  have hx := C.1
  have hb := C.2.1
  refine lv_aload_n hx hb dX5_isFull_0 rfl (lv_at hl 0 rfl) ?_
  refine cx_get C hW 0 4 rfl rfl (by decide) inX5 gw_161 rfl rfl dX5_isFull_1 ?_
  refine lv_bipush (v := nI 12) hx hb dX5_isFull_4 (by decide) ?_
  refine r_ltN hx hb (a := nm) (b := 12) (by omega) (by omega) (tgt := 13) dX5_isFull_6 (by decide) (fun c_6 => ?_) (fun c_6 => ?_)
  · refine lv_iconst (v := nI 0) hx hb dX5_isFull_13 (by decide) ?_
    exact cx_iret C hr hlocks (by decide) hW ⟨Nat.le_of_ble_eq_true rfl, Nat.le_of_ble_eq_true rfl⟩ (⟨by rw [decide_eq_false (by omega)]; rfl, rfl⟩) dX5_isFull_14
  · refine lv_iconst (v := nI 1) hx hb dX5_isFull_9 (by decide) ?_
    refine lv_goto (tgt := 14) hx hb dX5_isFull_10 (by decide) ?_
    exact cx_iret C hr hlocks (by decide) hW ⟨Nat.le_of_ble_eq_true rfl, Nat.le_of_ble_eq_true rfl⟩ (⟨by rw [decide_eq_true (by omega)]; rfl, rfl⟩) dX5_isFull_14
theorem dX5_require_0 : decode cX5_require 0 = .ok (.iconst 0, 1) := by decide +kernel
theorem dX5_require_1 : decode cX5_require 1 = .ok (.istore_n 2, 1) := by decide +kernel
theorem dX5_require_2 : decode cX5_require 2 = .ok (.iload_n 2, 1) := by decide +kernel
theorem dX5_require_3 : decode cX5_require 3 = .ok (.aload_n 0, 1) := by decide +kernel
theorem dX5_require_4 : decode cX5_require 4 = .ok (.getfield 24, 3) := by decide +kernel
theorem dX5_require_7 : decode cX5_require 7 = .ok (.if_icmp .ge 21, 3) := by decide +kernel
theorem dX5_require_10 : decode cX5_require 10 = .ok (.aload_n 0, 1) := by decide +kernel
theorem dX5_require_11 : decode cX5_require 11 = .ok (.getfield 9, 3) := by decide +kernel
theorem dX5_require_14 : decode cX5_require 14 = .ok (.iload_n 2, 1) := by decide +kernel
theorem dX5_require_15 : decode cX5_require 15 = .ok (.iaload, 1) := by decide +kernel
theorem dX5_require_16 : decode cX5_require 16 = .ok (.iload_n 1, 1) := by decide +kernel
theorem dX5_require_17 : decode cX5_require 17 = .ok (.if_icmp .ne 5, 3) := by decide +kernel
theorem dX5_require_20 : decode cX5_require 20 = .ok (.iload_n 2, 1) := by decide +kernel
theorem dX5_require_21 : decode cX5_require 21 = .ok (.ireturn, 1) := by decide +kernel
theorem dX5_require_22 : decode cX5_require 22 = .ok (.iinc 2 1, 3) := by decide +kernel
theorem dX5_require_25 : decode cX5_require 25 = .ok (.goto (-23), 3) := by decide +kernel
theorem dX5_require_28 : decode cX5_require 28 = .ok (.new 37, 3) := by decide +kernel
theorem dX5_require_31 : decode cX5_require 31 = .ok (.dup, 1) := by decide +kernel
theorem dX5_require_32 : decode cX5_require 32 = .ok (.ldc 39, 2) := by decide +kernel
theorem dX5_require_34 : decode cX5_require 34 = .ok (.invokespecial 41, 3) := by decide +kernel
theorem dX5_require_37 : decode cX5_require 37 = .ok (.athrow, 1) := by decide +kernel
set_option maxHeartbeats 2000000 in
set_option maxRecDepth 20000 in
theorem k_X5_require (l : Launch) (hfl : l.stackTraces = false) (D : va_G) (aT : Nat → ClassId) (a5 : Nat) (a6 : Nat) (a7 : Nat) (a8 : Nat) (a9 : Nat) (fI : Nat → Int32) (fN : Nat → Int32) (fW : Nat → Int32) (fP : Nat → Int32) (nm : Nat) (nx : Int32) (h12 : nm ≤ 12) (x : Int32) : CxG l yX5_require cX5_require 3 (some (.int)) 6 1 6 90 D aT [.ref a5, .int x] [(a5, .inr (8, [.ref a6, .ref a7, .ref a8, .ref a9, .int (nI nm), .int nx])), (a6, .inl (aT 0, 12, .inl fI)), (a7, .inl (aT 0, 12, .inl fN)), (a8, .inl (aT 0, 12, .inl fW)), (a9, .inl (aT 0, 12, .inl fP))] (qI D aT (fun r W1 => (∃ q, fnd fI x nm = some q ∧ q < nm ∧ r = nI q) ∧ W1 = ([(a5, .inr (8, [.ref a6, .ref a7, .ref a8, .ref a9, .int (nI nm), .int nx])), (a6, .inl (aT 0, 12, .inl fI)), (a7, .inl (aT 0, 12, .inl fN)), (a8, .inl (aT 0, 12, .inl fW)), (a9, .inl (aT 0, 12, .inl fP))] : va_W))) (fun E W1 => E = "java/util/NoSuchElementException" ∧ fnd fI x nm = none ∧ W1 = ([(a5, .inr (8, [.ref a6, .ref a7, .ref a8, .ref a9, .int (nI nm), .int nx])), (a6, .inl (aT 0, 12, .inl fI)), (a7, .inl (aT 0, 12, .inl fN)), (a8, .inl (aT 0, 12, .inl fW)), (a9, .inl (aT 0, 12, .inl fP))] : va_W)) := by
  refine CxG.of RX5 (by decide +kernel) rfl (Nat.le_of_ble_eq_true rfl) ?_
  intro p e s m below meth c A ls C hml hl hA hr hlocks hex hnm hZ hW
  have hl : lv_has ls 3 [(0, .ref a5), (1, .int x)] := hl
  have hx := C.1
  have hb := C.2.1
  refine lv_iconst (v := nI 0) hx hb dX5_require_0 (by decide) ?_
  refine lv_istore_n (lv' := [(2, .int (nI 0)), (0, .ref a5), (1, .int x)]) hx hb dX5_require_1 rfl hl (by decide) rfl (fun ls hl => ?_)
  refine W_loopH (σ := Nat) (fun z_ => nm - z_) (fun z_ H locs g => ∃ ls, g = F0 m 2 ls [] ∧ lv_has ls 3 [(2, .int (nI z_)), (1, .int x), (0, .ref a5)] ∧ CxB D [(a5, .inr (8, [.ref a6, .ref a7, .ref a8, .ref a9, .int (nI nm), .int nx])), (a6, .inl (aT 0, 12, .inl fI)), (a7, .inl (aT 0, 12, .inl fN)), (a8, .inl (aT 0, 12, .inl fW)), (a9, .inl (aT 0, 12, .inl fP))] A s.heap H locs ∧ z_ ≤ nm ∧ fnd fI x z_ = none) ?_ 0 _ ⟨_, rfl, lv_sub hl [0, 2, 1] rfl, hW, ⟨Nat.zero_le _, rfl⟩⟩
  clear hW hl
  rintro i H locs g ⟨ls, rfl, hl, hW, ⟨hi, hf⟩⟩ ih_2
  refine lv_iload_n hx hb dX5_require_2 rfl (lv_at hl 0 rfl) ?_
  refine lv_aload_n hx hb dX5_require_3 rfl (lv_at hl 2 rfl) ?_
  refine cx_get C hW 0 4 rfl rfl (by decide) inX5 gw_161 rfl rfl dX5_require_4 ?_
  refine r_geN hx hb (a := i) (b := nm) (by omega) (by omega) (tgt := 28) dX5_require_7 (by decide) (fun c_7 => ?_) (fun c_7 => ?_)
  · exact cx_throwX C hfl hex hml hl.1 hlocks hZ hW dx_NoSuchElementException_0 dx_NoSuchElementException_1 dx_NoSuchElementException_2 dx_NoSuchElementException_5 at_X5_NoSuchElementException (List.mem_of_getElem? (i := 4) rfl) gw_703 gw_88 (by decide +kernel) dX5_require_28 dX5_require_31 dX5_require_32 dX5_require_34 dX5_require_37 ⟨Nat.le_of_ble_eq_true rfl, Nat.le_of_ble_eq_true rfl, Nat.le_of_ble_eq_true rfl, Nat.le_of_ble_eq_true rfl⟩ ⟨Nat.le_of_ble_eq_true rfl, Nat.le_of_ble_eq_true rfl⟩ (⟨rfl, by rw [show nm = i by omega]; exact hf, rfl⟩)
  · refine lv_aload_n hx hb dX5_require_10 rfl (lv_at hl 2 rfl) ?_
    refine cx_get C hW 0 0 rfl rfl (by decide) inX5 gw_148 rfl rfl dX5_require_11 ?_
    refine lv_iload_n hx hb dX5_require_14 rfl (lv_at hl 0 rfl) ?_
    refine cx_ald C hW 1 0 (j := i) rfl rfl rfl (by omega) (by decide) dX5_require_15 ?_
    refine lv_iload_n hx hb dX5_require_16 rfl (lv_at hl 1 rfl) ?_
    refine lv_icmp_ne hx hb (x := (fI i)) (y := x) (tgt := 22) dX5_require_17 (by decide) (fun c_17 => ?_) (fun c_17 => ?_)
    · refine lv_iinc (v := (nI (i + 1))) (lv' := [(2, .int (nI (i + 1))), (1, .int x), (0, .ref a5)]) hx hb dX5_require_22 hl (k := 0) rfl (nI_1 _) (by decide) rfl (fun ls hl => ?_)
      refine lv_goto (tgt := 2) hx hb dX5_require_25 (by decide) ?_
      exact ih_2 (i + 1) _ _ _ (by first | omega | (dsimp only; omega)) ⟨_, rfl, lv_sub hl [0, 1, 2] rfl, hW, ⟨by omega, fnd_step hf c_17⟩⟩
    · refine lv_iload_n hx hb dX5_require_20 rfl (lv_at hl 0 rfl) ?_
      exact cx_iret C hr hlocks rfl hW ⟨Nat.le_of_ble_eq_true rfl, Nat.le_of_ble_eq_true rfl⟩ (⟨⟨i, fnd_hit hf c_17 (by omega), by omega, rfl⟩, rfl⟩) dX5_require_21
theorem dX5_add_0 : decode cX5_add 0 = .ok (.aload_n 0, 1) := by decide +kernel
theorem dX5_add_1 : decode cX5_add 1 = .ok (.getfield 28, 3) := by decide +kernel
theorem dX5_add_4 : decode cX5_add 4 = .ok (.istore 4, 2) := by decide +kernel
theorem dX5_add_6 : decode cX5_add 6 = .ok (.aload_n 0, 1) := by decide +kernel
theorem dX5_add_7 : decode cX5_add 7 = .ok (.getfield 9, 3) := by decide +kernel
theorem dX5_add_10 : decode cX5_add 10 = .ok (.aload_n 0, 1) := by decide +kernel
theorem dX5_add_11 : decode cX5_add 11 = .ok (.getfield 24, 3) := by decide +kernel
theorem dX5_add_14 : decode cX5_add 14 = .ok (.iload 4, 2) := by decide +kernel
theorem dX5_add_16 : decode cX5_add 16 = .ok (.iastore, 1) := by decide +kernel
theorem dX5_add_17 : decode cX5_add 17 = .ok (.aload_n 0, 1) := by decide +kernel
theorem dX5_add_18 : decode cX5_add 18 = .ok (.getfield 15, 3) := by decide +kernel
theorem dX5_add_21 : decode cX5_add 21 = .ok (.aload_n 0, 1) := by decide +kernel
theorem dX5_add_22 : decode cX5_add 22 = .ok (.getfield 24, 3) := by decide +kernel
theorem dX5_add_25 : decode cX5_add 25 = .ok (.iload_n 2, 1) := by decide +kernel
theorem dX5_add_26 : decode cX5_add 26 = .ok (.iastore, 1) := by decide +kernel
theorem dX5_add_27 : decode cX5_add 27 = .ok (.aload_n 0, 1) := by decide +kernel
theorem dX5_add_28 : decode cX5_add 28 = .ok (.getfield 18, 3) := by decide +kernel
theorem dX5_add_31 : decode cX5_add 31 = .ok (.aload_n 0, 1) := by decide +kernel
theorem dX5_add_32 : decode cX5_add 32 = .ok (.getfield 24, 3) := by decide +kernel
theorem dX5_add_35 : decode cX5_add 35 = .ok (.iload_n 3, 1) := by decide +kernel
theorem dX5_add_36 : decode cX5_add 36 = .ok (.iastore, 1) := by decide +kernel
theorem dX5_add_37 : decode cX5_add 37 = .ok (.aload_n 0, 1) := by decide +kernel
theorem dX5_add_38 : decode cX5_add 38 = .ok (.getfield 21, 3) := by decide +kernel
theorem dX5_add_41 : decode cX5_add 41 = .ok (.aload_n 0, 1) := by decide +kernel
theorem dX5_add_42 : decode cX5_add 42 = .ok (.getfield 24, 3) := by decide +kernel
theorem dX5_add_45 : decode cX5_add 45 = .ok (.iload_n 1, 1) := by decide +kernel
theorem dX5_add_46 : decode cX5_add 46 = .ok (.iastore, 1) := by decide +kernel
theorem dX5_add_47 : decode cX5_add 47 = .ok (.aload_n 0, 1) := by decide +kernel
theorem dX5_add_48 : decode cX5_add 48 = .ok (.dup, 1) := by decide +kernel
theorem dX5_add_49 : decode cX5_add 49 = .ok (.getfield 24, 3) := by decide +kernel
theorem dX5_add_52 : decode cX5_add 52 = .ok (.iconst 1, 1) := by decide +kernel
theorem dX5_add_53 : decode cX5_add 53 = .ok (.iadd, 1) := by decide +kernel
theorem dX5_add_54 : decode cX5_add 54 = .ok (.putfield 24, 3) := by decide +kernel
theorem dX5_add_57 : decode cX5_add 57 = .ok (.aload_n 0, 1) := by decide +kernel
theorem dX5_add_58 : decode cX5_add 58 = .ok (.iload 4, 2) := by decide +kernel
theorem dX5_add_60 : decode cX5_add 60 = .ok (.iconst 1, 1) := by decide +kernel
theorem dX5_add_61 : decode cX5_add 61 = .ok (.iadd, 1) := by decide +kernel
theorem dX5_add_62 : decode cX5_add 62 = .ok (.putfield 28, 3) := by decide +kernel
theorem dX5_add_65 : decode cX5_add 65 = .ok (.iload 4, 2) := by decide +kernel
theorem dX5_add_67 : decode cX5_add 67 = .ok (.ireturn, 1) := by decide +kernel
set_option maxHeartbeats 2000000 in
set_option maxRecDepth 20000 in
theorem k_X5_add (l : Launch) (hfl : l.stackTraces = false) (D : va_G) (aT : Nat → ClassId) (a5 : Nat) (a6 : Nat) (a7 : Nat) (a8 : Nat) (a9 : Nat) (fI : Nat → Int32) (fN : Nat → Int32) (fW : Nat → Int32) (fP : Nat → Int32) (nm : Nat) (nx : Int32) (x : Int32) (y : Int32) (z : Int32) (h12 : nm < 12) : CxG l yX5_add cX5_add 5 (some (.int)) 0 0 0 0 D aT [.ref a5, .int x, .int y, .int z] [(a5, .inr (8, [.ref a6, .ref a7, .ref a8, .ref a9, .int (nI nm), .int nx])), (a6, .inl (aT 0, 12, .inl fI)), (a7, .inl (aT 0, 12, .inl fN)), (a8, .inl (aT 0, 12, .inl fW)), (a9, .inl (aT 0, 12, .inl fP))] (qI D aT (fun r W1 => r = nx ∧ W1 = ([(a5, .inr (8, [.ref a6, .ref a7, .ref a8, .ref a9, .int (nI (nm + 1)), .int (nx + (nI 1))])), (a6, .inl (aT 0, 12, .inl (upd fI nm (nx)))), (a7, .inl (aT 0, 12, .inl (upd fN nm (y)))), (a8, .inl (aT 0, 12, .inl (upd fW nm (z)))), (a9, .inl (aT 0, 12, .inl (upd fP nm (x))))] : va_W))) (fun _ _ => False) := by
  refine CxG.of RX5 (by decide +kernel) rfl (Nat.le_of_ble_eq_true rfl) ?_
  intro p e s m below meth c A ls C hml hl hA hr hlocks hex hnm hZ hW
  have hl : lv_has ls 5 [(0, .ref a5), (1, .int x), (2, .int y), (3, .int z)] := hl
  have hx := C.1
  have hb := C.2.1
  refine lv_aload_n hx hb dX5_add_0 rfl (lv_at hl 0 rfl) ?_
  refine cx_get C hW 0 5 rfl rfl (by decide) inX5 gw_165 rfl rfl dX5_add_1 ?_
  refine lv_istore (lv' := [(4, .int nx), (0, .ref a5), (1, .int x), (2, .int y), (3, .int z)]) hx hb dX5_add_4 hl (by decide) rfl (fun ls hl => ?_)
  refine lv_aload_n hx hb dX5_add_6 rfl (lv_at hl 1 rfl) ?_
  refine cx_get C hW 0 0 rfl rfl (by decide) inX5 gw_148 rfl rfl dX5_add_7 ?_
  refine lv_aload_n hx hb dX5_add_10 rfl (lv_at hl 1 rfl) ?_
  refine cx_get C hW 0 4 rfl rfl (by decide) inX5 gw_161 rfl rfl dX5_add_11 ?_
  refine lv_iload hx hb dX5_add_14 (lv_at hl 0 rfl) ?_
  refine cx_ast C hW 1 0 (j := nm) (W1 := [(a5, .inr (8, [.ref a6, .ref a7, .ref a8, .ref a9, .int (nI nm), .int nx])), (a6, .inl (aT 0, 12, .inl (upd fI nm (nx)))), (a7, .inl (aT 0, 12, .inl fN)), (a8, .inl (aT 0, 12, .inl fW)), (a9, .inl (aT 0, 12, .inl fP))]) rfl rfl rfl (by omega) (by decide) rfl dX5_add_16 (fun H locs hW => ?_)
  refine lv_aload_n hx hb dX5_add_17 rfl (lv_at hl 1 rfl) ?_
  refine cx_get C hW 0 1 rfl rfl (by decide) inX5 gw_150 rfl rfl dX5_add_18 ?_
  refine lv_aload_n hx hb dX5_add_21 rfl (lv_at hl 1 rfl) ?_
  refine cx_get C hW 0 4 rfl rfl (by decide) inX5 gw_161 rfl rfl dX5_add_22 ?_
  refine lv_iload_n hx hb dX5_add_25 rfl (lv_at hl 3 rfl) ?_
  refine cx_ast C hW 2 0 (j := nm) (W1 := [(a5, .inr (8, [.ref a6, .ref a7, .ref a8, .ref a9, .int (nI nm), .int nx])), (a6, .inl (aT 0, 12, .inl (upd fI nm (nx)))), (a7, .inl (aT 0, 12, .inl (upd fN nm (y)))), (a8, .inl (aT 0, 12, .inl fW)), (a9, .inl (aT 0, 12, .inl fP))]) rfl rfl rfl (by omega) (by decide) rfl dX5_add_26 (fun H locs hW => ?_)
  refine lv_aload_n hx hb dX5_add_27 rfl (lv_at hl 1 rfl) ?_
  refine cx_get C hW 0 2 rfl rfl (by decide) inX5 gw_153 rfl rfl dX5_add_28 ?_
  refine lv_aload_n hx hb dX5_add_31 rfl (lv_at hl 1 rfl) ?_
  refine cx_get C hW 0 4 rfl rfl (by decide) inX5 gw_161 rfl rfl dX5_add_32 ?_
  refine lv_iload_n hx hb dX5_add_35 rfl (lv_at hl 4 rfl) ?_
  refine cx_ast C hW 3 0 (j := nm) (W1 := [(a5, .inr (8, [.ref a6, .ref a7, .ref a8, .ref a9, .int (nI nm), .int nx])), (a6, .inl (aT 0, 12, .inl (upd fI nm (nx)))), (a7, .inl (aT 0, 12, .inl (upd fN nm (y)))), (a8, .inl (aT 0, 12, .inl (upd fW nm (z)))), (a9, .inl (aT 0, 12, .inl fP))]) rfl rfl rfl (by omega) (by decide) rfl dX5_add_36 (fun H locs hW => ?_)
  refine lv_aload_n hx hb dX5_add_37 rfl (lv_at hl 1 rfl) ?_
  refine cx_get C hW 0 3 rfl rfl (by decide) inX5 gw_157 rfl rfl dX5_add_38 ?_
  refine lv_aload_n hx hb dX5_add_41 rfl (lv_at hl 1 rfl) ?_
  refine cx_get C hW 0 4 rfl rfl (by decide) inX5 gw_161 rfl rfl dX5_add_42 ?_
  refine lv_iload_n hx hb dX5_add_45 rfl (lv_at hl 2 rfl) ?_
  refine cx_ast C hW 4 0 (j := nm) (W1 := [(a5, .inr (8, [.ref a6, .ref a7, .ref a8, .ref a9, .int (nI nm), .int nx])), (a6, .inl (aT 0, 12, .inl (upd fI nm (nx)))), (a7, .inl (aT 0, 12, .inl (upd fN nm (y)))), (a8, .inl (aT 0, 12, .inl (upd fW nm (z)))), (a9, .inl (aT 0, 12, .inl (upd fP nm (x))))]) rfl rfl rfl (by omega) (by decide) rfl dX5_add_46 (fun H locs hW => ?_)
  refine lv_aload_n hx hb dX5_add_47 rfl (lv_at hl 1 rfl) ?_
  refine lv_dup hx hb dX5_add_48 rfl ?_
  refine cx_get C hW 0 4 rfl rfl (by decide) inX5 gw_161 rfl rfl dX5_add_49 ?_
  refine lv_iconst (v := nI 1) hx hb dX5_add_52 (by decide) ?_
  refine r_iaddN hx hb (a := nm) (b := 1) dX5_add_53 ?_
  refine cx_put C hW 0 4 (W1 := [(a5, .inr (8, [.ref a6, .ref a7, .ref a8, .ref a9, .int (nI (nm + 1)), .int nx])), (a6, .inl (aT 0, 12, .inl (upd fI nm (nx)))), (a7, .inl (aT 0, 12, .inl (upd fN nm (y)))), (a8, .inl (aT 0, 12, .inl (upd fW nm (z)))), (a9, .inl (aT 0, 12, .inl (upd fP nm (x))))]) rfl rfl (by decide) inX5 tyX5 tyX5_ok nmX5 gw_161 rfl rfl rfl rfl rfl (Nat.le_of_ble_eq_true rfl) rfl dX5_add_54 (fun H locs hW => ?_)
  refine lv_aload_n hx hb dX5_add_57 rfl (lv_at hl 1 rfl) ?_
  refine lv_iload hx hb dX5_add_58 (lv_at hl 0 rfl) ?_
  refine lv_iconst (v := nI 1) hx hb dX5_add_60 (by decide) ?_
  refine lv_iadd hx hb dX5_add_61 ?_
  refine cx_put C hW 0 5 (W1 := [(a5, .inr (8, [.ref a6, .ref a7, .ref a8, .ref a9, .int (nI (nm + 1)), .int (nx + (nI 1))])), (a6, .inl (aT 0, 12, .inl (upd fI nm (nx)))), (a7, .inl (aT 0, 12, .inl (upd fN nm (y)))), (a8, .inl (aT 0, 12, .inl (upd fW nm (z)))), (a9, .inl (aT 0, 12, .inl (upd fP nm (x))))]) rfl rfl (by decide) inX5 tyX5 tyX5_ok nmX5 gw_165 rfl rfl rfl rfl rfl (Nat.le_of_ble_eq_true rfl) rfl dX5_add_62 (fun H locs hW => ?_)
  refine lv_iload hx hb dX5_add_65 (lv_at hl 0 rfl) ?_
  exact cx_iret C hr hlocks rfl hW ⟨Nat.le_of_ble_eq_true rfl, Nat.le_of_ble_eq_true rfl⟩ (⟨rfl, rfl⟩) dX5_add_67
theorem dX5_removeTip_0 : decode cX5_removeTip 0 = .ok (.iload_n 1, 1) := by decide +kernel
theorem dX5_removeTip_1 : decode cX5_removeTip 1 = .ok (.iconst 1, 1) := by decide +kernel
theorem dX5_removeTip_2 : decode cX5_removeTip 2 = .ok (.iadd, 1) := by decide +kernel
theorem dX5_removeTip_3 : decode cX5_removeTip 3 = .ok (.istore_n 2, 1) := by decide +kernel
theorem dX5_removeTip_4 : decode cX5_removeTip 4 = .ok (.iload_n 2, 1) := by decide +kernel
theorem dX5_removeTip_5 : decode cX5_removeTip 5 = .ok (.aload_n 0, 1) := by decide +kernel
theorem dX5_removeTip_6 : decode cX5_removeTip 6 = .ok (.getfield 24, 3) := by decide +kernel
theorem dX5_removeTip_9 : decode cX5_removeTip 9 = .ok (.if_icmp .ge 86, 3) := by decide +kernel
theorem dX5_removeTip_12 : decode cX5_removeTip 12 = .ok (.aload_n 0, 1) := by decide +kernel
theorem dX5_removeTip_13 : decode cX5_removeTip 13 = .ok (.getfield 9, 3) := by decide +kernel
theorem dX5_removeTip_16 : decode cX5_removeTip 16 = .ok (.iload_n 2, 1) := by decide +kernel
theorem dX5_removeTip_17 : decode cX5_removeTip 17 = .ok (.iconst 1, 1) := by decide +kernel
theorem dX5_removeTip_18 : decode cX5_removeTip 18 = .ok (.isub, 1) := by decide +kernel
theorem dX5_removeTip_19 : decode cX5_removeTip 19 = .ok (.aload_n 0, 1) := by decide +kernel
theorem dX5_removeTip_20 : decode cX5_removeTip 20 = .ok (.getfield 9, 3) := by decide +kernel
theorem dX5_removeTip_23 : decode cX5_removeTip 23 = .ok (.iload_n 2, 1) := by decide +kernel
theorem dX5_removeTip_24 : decode cX5_removeTip 24 = .ok (.iaload, 1) := by decide +kernel
theorem dX5_removeTip_25 : decode cX5_removeTip 25 = .ok (.iastore, 1) := by decide +kernel
theorem dX5_removeTip_26 : decode cX5_removeTip 26 = .ok (.aload_n 0, 1) := by decide +kernel
theorem dX5_removeTip_27 : decode cX5_removeTip 27 = .ok (.getfield 15, 3) := by decide +kernel
theorem dX5_removeTip_30 : decode cX5_removeTip 30 = .ok (.iload_n 2, 1) := by decide +kernel
theorem dX5_removeTip_31 : decode cX5_removeTip 31 = .ok (.iconst 1, 1) := by decide +kernel
theorem dX5_removeTip_32 : decode cX5_removeTip 32 = .ok (.isub, 1) := by decide +kernel
theorem dX5_removeTip_33 : decode cX5_removeTip 33 = .ok (.aload_n 0, 1) := by decide +kernel
theorem dX5_removeTip_34 : decode cX5_removeTip 34 = .ok (.getfield 15, 3) := by decide +kernel
theorem dX5_removeTip_37 : decode cX5_removeTip 37 = .ok (.iload_n 2, 1) := by decide +kernel
theorem dX5_removeTip_38 : decode cX5_removeTip 38 = .ok (.iaload, 1) := by decide +kernel
theorem dX5_removeTip_39 : decode cX5_removeTip 39 = .ok (.iastore, 1) := by decide +kernel
theorem dX5_removeTip_40 : decode cX5_removeTip 40 = .ok (.aload_n 0, 1) := by decide +kernel
theorem dX5_removeTip_41 : decode cX5_removeTip 41 = .ok (.getfield 18, 3) := by decide +kernel
theorem dX5_removeTip_44 : decode cX5_removeTip 44 = .ok (.iload_n 2, 1) := by decide +kernel
theorem dX5_removeTip_45 : decode cX5_removeTip 45 = .ok (.iconst 1, 1) := by decide +kernel
theorem dX5_removeTip_46 : decode cX5_removeTip 46 = .ok (.isub, 1) := by decide +kernel
theorem dX5_removeTip_47 : decode cX5_removeTip 47 = .ok (.aload_n 0, 1) := by decide +kernel
theorem dX5_removeTip_48 : decode cX5_removeTip 48 = .ok (.getfield 18, 3) := by decide +kernel
theorem dX5_removeTip_51 : decode cX5_removeTip 51 = .ok (.iload_n 2, 1) := by decide +kernel
theorem dX5_removeTip_52 : decode cX5_removeTip 52 = .ok (.iaload, 1) := by decide +kernel
theorem dX5_removeTip_53 : decode cX5_removeTip 53 = .ok (.iastore, 1) := by decide +kernel
theorem dX5_removeTip_54 : decode cX5_removeTip 54 = .ok (.aload_n 0, 1) := by decide +kernel
theorem dX5_removeTip_55 : decode cX5_removeTip 55 = .ok (.getfield 21, 3) := by decide +kernel
theorem dX5_removeTip_58 : decode cX5_removeTip 58 = .ok (.iload_n 2, 1) := by decide +kernel
theorem dX5_removeTip_59 : decode cX5_removeTip 59 = .ok (.iconst 1, 1) := by decide +kernel
theorem dX5_removeTip_60 : decode cX5_removeTip 60 = .ok (.isub, 1) := by decide +kernel
theorem dX5_removeTip_61 : decode cX5_removeTip 61 = .ok (.aload_n 0, 1) := by decide +kernel
theorem dX5_removeTip_62 : decode cX5_removeTip 62 = .ok (.getfield 21, 3) := by decide +kernel
theorem dX5_removeTip_65 : decode cX5_removeTip 65 = .ok (.iload_n 2, 1) := by decide +kernel
theorem dX5_removeTip_66 : decode cX5_removeTip 66 = .ok (.iaload, 1) := by decide +kernel
theorem dX5_removeTip_67 : decode cX5_removeTip 67 = .ok (.iload_n 1, 1) := by decide +kernel
theorem dX5_removeTip_68 : decode cX5_removeTip 68 = .ok (.if_icmp .le 14, 3) := by decide +kernel
theorem dX5_removeTip_71 : decode cX5_removeTip 71 = .ok (.aload_n 0, 1) := by decide +kernel
theorem dX5_removeTip_72 : decode cX5_removeTip 72 = .ok (.getfield 21, 3) := by decide +kernel
theorem dX5_removeTip_75 : decode cX5_removeTip 75 = .ok (.iload_n 2, 1) := by decide +kernel
theorem dX5_removeTip_76 : decode cX5_removeTip 76 = .ok (.iaload, 1) := by decide +kernel
theorem dX5_removeTip_77 : decode cX5_removeTip 77 = .ok (.iconst 1, 1) := by decide +kernel
theorem dX5_removeTip_78 : decode cX5_removeTip 78 = .ok (.isub, 1) := by decide +kernel
theorem dX5_removeTip_79 : decode cX5_removeTip 79 = .ok (.goto 9, 3) := by decide +kernel
theorem dX5_removeTip_82 : decode cX5_removeTip 82 = .ok (.aload_n 0, 1) := by decide +kernel
theorem dX5_removeTip_83 : decode cX5_removeTip 83 = .ok (.getfield 21, 3) := by decide +kernel
theorem dX5_removeTip_86 : decode cX5_removeTip 86 = .ok (.iload_n 2, 1) := by decide +kernel
theorem dX5_removeTip_87 : decode cX5_removeTip 87 = .ok (.iaload, 1) := by decide +kernel
theorem dX5_removeTip_88 : decode cX5_removeTip 88 = .ok (.iastore, 1) := by decide +kernel
theorem dX5_removeTip_89 : decode cX5_removeTip 89 = .ok (.iinc 2 1, 3) := by decide +kernel
theorem dX5_removeTip_92 : decode cX5_removeTip 92 = .ok (.goto (-88), 3) := by decide +kernel
theorem dX5_removeTip_95 : decode cX5_removeTip 95 = .ok (.aload_n 0, 1) := by decide +kernel
theorem dX5_removeTip_96 : decode cX5_removeTip 96 = .ok (.dup, 1) := by decide +kernel
theorem dX5_removeTip_97 : decode cX5_removeTip 97 = .ok (.getfield 24, 3) := by decide +kernel
theorem dX5_removeTip_100 : decode cX5_removeTip 100 = .ok (.iconst 1, 1) := by decide +kernel
theorem dX5_removeTip_101 : decode cX5_removeTip 101 = .ok (.isub, 1) := by decide +kernel
theorem dX5_removeTip_102 : decode cX5_removeTip 102 = .ok (.putfield 24, 3) := by decide +kernel
theorem dX5_removeTip_105 : decode cX5_removeTip 105 = .ok (.return_, 1) := by decide +kernel
set_option maxHeartbeats 2000000 in
set_option maxRecDepth 20000 in
theorem k_X5_removeTip (l : Launch) (hfl : l.stackTraces = false) (D : va_G) (aT : Nat → ClassId) (a5 : Nat) (a6 : Nat) (a7 : Nat) (a8 : Nat) (a9 : Nat) (fI : Nat → Int32) (fN : Nat → Int32) (fW : Nat → Int32) (fP : Nat → Int32) (nm : Nat) (nx : Int32) (k : Nat) (hk : k < nm) (h12 : nm ≤ 12) : CxG l yX5_removeTip cX5_removeTip 3 none 0 0 0 0 D aT [.ref a5, .int (nI k)] [(a5, .inr (8, [.ref a6, .ref a7, .ref a8, .ref a9, .int (nI nm), .int nx])), (a6, .inl (aT 0, 12, .inl fI)), (a7, .inl (aT 0, 12, .inl fN)), (a8, .inl (aT 0, 12, .inl fW)), (a9, .inl (aT 0, 12, .inl fP))] (qV D aT (fun W1 => W1 = [(a5, .inr (8, [.ref a6, .ref a7, .ref a8, .ref a9, .int (nI (nm - 1)), .int nx])), (a6, .inl (aT 0, 12, .inl (rmF fI k nm))), (a7, .inl (aT 0, 12, .inl (rmF fN k nm))), (a8, .inl (aT 0, 12, .inl (rmF fW k nm))), (a9, .inl (aT 0, 12, .inl (rmP fP k nm)))])) (fun _ _ => False) := by
  refine CxG.of RX5 (by decide +kernel) rfl (Nat.le_of_ble_eq_true rfl) ?_
  intro p e s m below meth c A ls C hml hl hA hr hlocks hex hnm hZ hW
  have hl : lv_has ls 3 [(0, .ref a5), (1, .int (nI k))] := hl
  have hx := C.1
  have hb := C.2.1
  refine lv_iload_n hx hb dX5_removeTip_0 rfl (lv_at hl 1 rfl) ?_
  refine lv_iconst (v := nI 1) hx hb dX5_removeTip_1 (by decide) ?_
  refine r_iaddN hx hb (a := k) (b := 1) dX5_removeTip_2 ?_
  refine lv_istore_n (lv' := [(2, .int (nI (k + 1))), (0, .ref a5), (1, .int (nI k))]) hx hb dX5_removeTip_3 rfl hl (by decide) rfl (fun ls hl => ?_)
  rw [← (show rmF fI k (k + 1) = fI from rmF_0)] at hW
  rw [← (show rmF fN k (k + 1) = fN from rmF_0)] at hW
  rw [← (show rmF fW k (k + 1) = fW from rmF_0)] at hW
  rw [← (show rmP fP k (k + 1) = fP from rmP_0)] at hW
  refine W_loopH (σ := Nat) (fun z_ => nm - z_) (fun z_ H locs g => ∃ ls, g = F0 m 4 ls [] ∧ lv_has ls 3 [(2, .int (nI z_)), (1, .int (nI k)), (0, .ref a5)] ∧ CxB D [(a5, .inr (8, [.ref a6, .ref a7, .ref a8, .ref a9, .int (nI nm), .int nx])), (a6, .inl (aT 0, 12, .inl (rmF fI k z_))), (a7, .inl (aT 0, 12, .inl (rmF fN k z_))), (a8, .inl (aT 0, 12, .inl (rmF fW k z_))), (a9, .inl (aT 0, 12, .inl (rmP fP k z_)))] A s.heap H locs ∧ k + 1 ≤ z_ ∧ z_ ≤ nm) ?_ (k + 1) _ ⟨_, rfl, lv_sub hl [0, 2, 1] rfl, hW, ⟨Nat.le_refl _, hk⟩⟩
  clear hW hl
  rintro i H locs g ⟨ls, rfl, hl, hW, ⟨h1, hi⟩⟩ ih_4
  refine lv_iload_n hx hb dX5_removeTip_4 rfl (lv_at hl 0 rfl) ?_
  refine lv_aload_n hx hb dX5_removeTip_5 rfl (lv_at hl 2 rfl) ?_
  refine cx_get C hW 0 4 rfl rfl (by decide) inX5 gw_161 rfl rfl dX5_removeTip_6 ?_
  refine r_geN hx hb (a := i) (b := nm) (by omega) (by omega) (tgt := 95) dX5_removeTip_9 (by decide) (fun c_9 => ?_) (fun c_9 => ?_)
  · refine lv_aload_n hx hb dX5_removeTip_95 rfl (lv_at hl 2 rfl) ?_
    refine lv_dup hx hb dX5_removeTip_96 rfl ?_
    refine cx_get C hW 0 4 rfl rfl (by decide) inX5 gw_161 rfl rfl dX5_removeTip_97 ?_
    refine lv_iconst (v := nI 1) hx hb dX5_removeTip_100 (by decide) ?_
    refine r_isubN hx hb (a := nm) (b := 1) (by omega) dX5_removeTip_101 ?_
    refine cx_put C hW 0 4 (W1 := [(a5, .inr (8, [.ref a6, .ref a7, .ref a8, .ref a9, .int (nI (nm - 1)), .int nx])), (a6, .inl (aT 0, 12, .inl (rmF fI k i))), (a7, .inl (aT 0, 12, .inl (rmF fN k i))), (a8, .inl (aT 0, 12, .inl (rmF fW k i))), (a9, .inl (aT 0, 12, .inl (rmP fP k i)))]) rfl rfl (by decide) inX5 tyX5 tyX5_ok nmX5 gw_161 rfl rfl rfl rfl rfl (Nat.le_of_ble_eq_true rfl) rfl dX5_removeTip_102 (fun H locs hW => ?_)
    exact cx_vret C hr hlocks hW ⟨Nat.le_of_ble_eq_true rfl, Nat.le_of_ble_eq_true rfl⟩ (by rw [show i = nm by omega]) dX5_removeTip_105
  · refine lv_aload_n hx hb dX5_removeTip_12 rfl (lv_at hl 2 rfl) ?_
    refine cx_get C hW 0 0 rfl rfl (by decide) inX5 gw_148 rfl rfl dX5_removeTip_13 ?_
    refine lv_iload_n hx hb dX5_removeTip_16 rfl (lv_at hl 0 rfl) ?_
    refine lv_iconst (v := nI 1) hx hb dX5_removeTip_17 (by decide) ?_
    refine r_isubN hx hb (a := i) (b := 1) (by omega) dX5_removeTip_18 ?_
    refine lv_aload_n hx hb dX5_removeTip_19 rfl (lv_at hl 2 rfl) ?_
    refine cx_get C hW 0 0 rfl rfl (by decide) inX5 gw_148 rfl rfl dX5_removeTip_20 ?_
    refine lv_iload_n hx hb dX5_removeTip_23 rfl (lv_at hl 0 rfl) ?_
    refine cx_ald C hW 1 0 (j := i) rfl rfl rfl (by omega) (by decide) dX5_removeTip_24 ?_
    refine cx_ast C hW 1 0 (j := i - 1) (W1 := [(a5, .inr (8, [.ref a6, .ref a7, .ref a8, .ref a9, .int (nI nm), .int nx])), (a6, .inl (aT 0, 12, .inl (upd (rmF fI k i) (i - 1) (((rmF fI k i) i))))), (a7, .inl (aT 0, 12, .inl (rmF fN k i))), (a8, .inl (aT 0, 12, .inl (rmF fW k i))), (a9, .inl (aT 0, 12, .inl (rmP fP k i)))]) rfl rfl rfl (by omega) (by decide) rfl dX5_removeTip_25 (fun H locs hW => ?_)
    refine lv_aload_n hx hb dX5_removeTip_26 rfl (lv_at hl 2 rfl) ?_
    refine cx_get C hW 0 1 rfl rfl (by decide) inX5 gw_150 rfl rfl dX5_removeTip_27 ?_
    refine lv_iload_n hx hb dX5_removeTip_30 rfl (lv_at hl 0 rfl) ?_
    refine lv_iconst (v := nI 1) hx hb dX5_removeTip_31 (by decide) ?_
    refine r_isubN hx hb (a := i) (b := 1) (by omega) dX5_removeTip_32 ?_
    refine lv_aload_n hx hb dX5_removeTip_33 rfl (lv_at hl 2 rfl) ?_
    refine cx_get C hW 0 1 rfl rfl (by decide) inX5 gw_150 rfl rfl dX5_removeTip_34 ?_
    refine lv_iload_n hx hb dX5_removeTip_37 rfl (lv_at hl 0 rfl) ?_
    refine cx_ald C hW 2 0 (j := i) rfl rfl rfl (by omega) (by decide) dX5_removeTip_38 ?_
    refine cx_ast C hW 2 0 (j := i - 1) (W1 := [(a5, .inr (8, [.ref a6, .ref a7, .ref a8, .ref a9, .int (nI nm), .int nx])), (a6, .inl (aT 0, 12, .inl (upd (rmF fI k i) (i - 1) (((rmF fI k i) i))))), (a7, .inl (aT 0, 12, .inl (upd (rmF fN k i) (i - 1) (((rmF fN k i) i))))), (a8, .inl (aT 0, 12, .inl (rmF fW k i))), (a9, .inl (aT 0, 12, .inl (rmP fP k i)))]) rfl rfl rfl (by omega) (by decide) rfl dX5_removeTip_39 (fun H locs hW => ?_)
    refine lv_aload_n hx hb dX5_removeTip_40 rfl (lv_at hl 2 rfl) ?_
    refine cx_get C hW 0 2 rfl rfl (by decide) inX5 gw_153 rfl rfl dX5_removeTip_41 ?_
    refine lv_iload_n hx hb dX5_removeTip_44 rfl (lv_at hl 0 rfl) ?_
    refine lv_iconst (v := nI 1) hx hb dX5_removeTip_45 (by decide) ?_
    refine r_isubN hx hb (a := i) (b := 1) (by omega) dX5_removeTip_46 ?_
    refine lv_aload_n hx hb dX5_removeTip_47 rfl (lv_at hl 2 rfl) ?_
    refine cx_get C hW 0 2 rfl rfl (by decide) inX5 gw_153 rfl rfl dX5_removeTip_48 ?_
    refine lv_iload_n hx hb dX5_removeTip_51 rfl (lv_at hl 0 rfl) ?_
    refine cx_ald C hW 3 0 (j := i) rfl rfl rfl (by omega) (by decide) dX5_removeTip_52 ?_
    refine cx_ast C hW 3 0 (j := i - 1) (W1 := [(a5, .inr (8, [.ref a6, .ref a7, .ref a8, .ref a9, .int (nI nm), .int nx])), (a6, .inl (aT 0, 12, .inl (upd (rmF fI k i) (i - 1) (((rmF fI k i) i))))), (a7, .inl (aT 0, 12, .inl (upd (rmF fN k i) (i - 1) (((rmF fN k i) i))))), (a8, .inl (aT 0, 12, .inl (upd (rmF fW k i) (i - 1) (((rmF fW k i) i))))), (a9, .inl (aT 0, 12, .inl (rmP fP k i)))]) rfl rfl rfl (by omega) (by decide) rfl dX5_removeTip_53 (fun H locs hW => ?_)
    refine lv_aload_n hx hb dX5_removeTip_54 rfl (lv_at hl 2 rfl) ?_
    refine cx_get C hW 0 3 rfl rfl (by decide) inX5 gw_157 rfl rfl dX5_removeTip_55 ?_
    refine lv_iload_n hx hb dX5_removeTip_58 rfl (lv_at hl 0 rfl) ?_
    refine lv_iconst (v := nI 1) hx hb dX5_removeTip_59 (by decide) ?_
    refine r_isubN hx hb (a := i) (b := 1) (by omega) dX5_removeTip_60 ?_
    refine lv_aload_n hx hb dX5_removeTip_61 rfl (lv_at hl 2 rfl) ?_
    refine cx_get C hW 0 3 rfl rfl (by decide) inX5 gw_157 rfl rfl dX5_removeTip_62 ?_
    refine lv_iload_n hx hb dX5_removeTip_65 rfl (lv_at hl 0 rfl) ?_
    refine cx_ald C hW 4 0 (j := i) rfl rfl rfl (by omega) (by decide) dX5_removeTip_66 ?_
    refine lv_iload_n hx hb dX5_removeTip_67 rfl (lv_at hl 1 rfl) ?_
    refine lv_icmp_le hx hb (x := ((rmP fP k i) i)) (y := (nI k)) (tgt := 82) dX5_removeTip_68 (by decide) (fun c_68 => ?_) (fun c_68 => ?_)
    · refine lv_aload_n hx hb dX5_removeTip_82 rfl (lv_at hl 2 rfl) ?_
      refine cx_get C hW 0 3 rfl rfl (by decide) inX5 gw_157 rfl rfl dX5_removeTip_83 ?_
      refine lv_iload_n hx hb dX5_removeTip_86 rfl (lv_at hl 0 rfl) ?_
      refine cx_ald C hW 4 0 (j := i) rfl rfl rfl (by omega) (by decide) dX5_removeTip_87 ?_
      refine cx_ast C hW 4 0 (j := i - 1) (W1 := [(a5, .inr (8, [.ref a6, .ref a7, .ref a8, .ref a9, .int (nI nm), .int nx])), (a6, .inl (aT 0, 12, .inl (upd (rmF fI k i) (i - 1) (((rmF fI k i) i))))), (a7, .inl (aT 0, 12, .inl (upd (rmF fN k i) (i - 1) (((rmF fN k i) i))))), (a8, .inl (aT 0, 12, .inl (upd (rmF fW k i) (i - 1) (((rmF fW k i) i))))), (a9, .inl (aT 0, 12, .inl (upd (rmP fP k i) (i - 1) (((rmP fP k i) i)))))]) rfl rfl rfl (by omega) (by decide) rfl dX5_removeTip_88 (fun H locs hW => ?_)
      refine lv_iinc (v := (nI (i + 1))) (lv' := [(2, .int (nI (i + 1))), (1, .int (nI k)), (0, .ref a5)]) hx hb dX5_removeTip_89 hl (k := 0) rfl (nI_1 _) (by decide) rfl (fun ls hl => ?_)
      refine lv_goto (tgt := 4) hx hb dX5_removeTip_92 (by decide) ?_
      rw [← (show rmF fI k (i + 1) = upd (rmF fI k i) (i - 1) (((rmF fI k i) i)) from by rw [rmF_i]; exact rmF_1 (by omega))] at hW
      rw [← (show rmF fN k (i + 1) = upd (rmF fN k i) (i - 1) (((rmF fN k i) i)) from by rw [rmF_i]; exact rmF_1 (by omega))] at hW
      rw [← (show rmF fW k (i + 1) = upd (rmF fW k i) (i - 1) (((rmF fW k i) i)) from by rw [rmF_i]; exact rmF_1 (by omega))] at hW
      rw [← (show rmP fP k (i + 1) = upd (rmP fP k i) (i - 1) (((rmP fP k i) i)) from by rw [rmP_i]; rw [rmP_i] at c_68; rw [rmP_1 (by omega), dcP, if_pos c_68])] at hW
      exact ih_4 (i + 1) _ _ _ (by first | omega | (dsimp only; omega)) ⟨_, rfl, lv_sub hl [0, 1, 2] rfl, hW, ⟨by omega, by omega⟩⟩
    · refine lv_aload_n hx hb dX5_removeTip_71 rfl (lv_at hl 2 rfl) ?_
      refine cx_get C hW 0 3 rfl rfl (by decide) inX5 gw_157 rfl rfl dX5_removeTip_72 ?_
      refine lv_iload_n hx hb dX5_removeTip_75 rfl (lv_at hl 0 rfl) ?_
      refine cx_ald C hW 4 0 (j := i) rfl rfl rfl (by omega) (by decide) dX5_removeTip_76 ?_
      refine lv_iconst (v := nI 1) hx hb dX5_removeTip_77 (by decide) ?_
      refine lv_isub hx hb dX5_removeTip_78 ?_
      refine lv_goto (tgt := 88) hx hb dX5_removeTip_79 (by decide) ?_
      refine cx_ast C hW 4 0 (j := i - 1) (W1 := [(a5, .inr (8, [.ref a6, .ref a7, .ref a8, .ref a9, .int (nI nm), .int nx])), (a6, .inl (aT 0, 12, .inl (upd (rmF fI k i) (i - 1) (((rmF fI k i) i))))), (a7, .inl (aT 0, 12, .inl (upd (rmF fN k i) (i - 1) (((rmF fN k i) i))))), (a8, .inl (aT 0, 12, .inl (upd (rmF fW k i) (i - 1) (((rmF fW k i) i))))), (a9, .inl (aT 0, 12, .inl (upd (rmP fP k i) (i - 1) ((((rmP fP k i) i) - (nI 1))))))]) rfl rfl rfl (by omega) (by decide) rfl dX5_removeTip_88 (fun H locs hW => ?_)
      refine lv_iinc (v := (nI (i + 1))) (lv' := [(2, .int (nI (i + 1))), (1, .int (nI k)), (0, .ref a5)]) hx hb dX5_removeTip_89 hl (k := 0) rfl (nI_1 _) (by decide) rfl (fun ls hl => ?_)
      refine lv_goto (tgt := 4) hx hb dX5_removeTip_92 (by decide) ?_
      rw [← (show rmF fI k (i + 1) = upd (rmF fI k i) (i - 1) (((rmF fI k i) i)) from by rw [rmF_i]; exact rmF_1 (by omega))] at hW
      rw [← (show rmF fN k (i + 1) = upd (rmF fN k i) (i - 1) (((rmF fN k i) i)) from by rw [rmF_i]; exact rmF_1 (by omega))] at hW
      rw [← (show rmF fW k (i + 1) = upd (rmF fW k i) (i - 1) (((rmF fW k i) i)) from by rw [rmF_i]; exact rmF_1 (by omega))] at hW
      rw [← (show rmP fP k (i + 1) = upd (rmP fP k i) (i - 1) ((((rmP fP k i) i) - (nI 1))) from by rw [rmP_i]; rw [rmP_i] at c_68; rw [rmP_1 (by omega), dcP, if_neg c_68])] at hW
      exact ih_4 (i + 1) _ _ _ (by first | omega | (dsimp only; omega)) ⟨_, rfl, lv_sub hl [0, 1, 2] rfl, hW, ⟨by omega, by omega⟩⟩
theorem dX5_hasAmendments_0 : decode cX5_hasAmendments 0 = .ok (.iload_n 1, 1) := by decide +kernel
theorem dX5_hasAmendments_1 : decode cX5_hasAmendments 1 = .ok (.iconst 1, 1) := by decide +kernel
theorem dX5_hasAmendments_2 : decode cX5_hasAmendments 2 = .ok (.iadd, 1) := by decide +kernel
theorem dX5_hasAmendments_3 : decode cX5_hasAmendments 3 = .ok (.istore_n 2, 1) := by decide +kernel
theorem dX5_hasAmendments_4 : decode cX5_hasAmendments 4 = .ok (.iload_n 2, 1) := by decide +kernel
theorem dX5_hasAmendments_5 : decode cX5_hasAmendments 5 = .ok (.aload_n 0, 1) := by decide +kernel
theorem dX5_hasAmendments_6 : decode cX5_hasAmendments 6 = .ok (.getfield 24, 3) := by decide +kernel
theorem dX5_hasAmendments_9 : decode cX5_hasAmendments 9 = .ok (.if_icmp .ge 21, 3) := by decide +kernel
theorem dX5_hasAmendments_12 : decode cX5_hasAmendments 12 = .ok (.aload_n 0, 1) := by decide +kernel
theorem dX5_hasAmendments_13 : decode cX5_hasAmendments 13 = .ok (.getfield 21, 3) := by decide +kernel
theorem dX5_hasAmendments_16 : decode cX5_hasAmendments 16 = .ok (.iload_n 2, 1) := by decide +kernel
theorem dX5_hasAmendments_17 : decode cX5_hasAmendments 17 = .ok (.iaload, 1) := by decide +kernel
theorem dX5_hasAmendments_18 : decode cX5_hasAmendments 18 = .ok (.iload_n 1, 1) := by decide +kernel
theorem dX5_hasAmendments_19 : decode cX5_hasAmendments 19 = .ok (.if_icmp .ne 5, 3) := by decide +kernel
theorem dX5_hasAmendments_22 : decode cX5_hasAmendments 22 = .ok (.iconst 1, 1) := by decide +kernel
theorem dX5_hasAmendments_23 : decode cX5_hasAmendments 23 = .ok (.ireturn, 1) := by decide +kernel
theorem dX5_hasAmendments_24 : decode cX5_hasAmendments 24 = .ok (.iinc 2 1, 3) := by decide +kernel
theorem dX5_hasAmendments_27 : decode cX5_hasAmendments 27 = .ok (.goto (-23), 3) := by decide +kernel
theorem dX5_hasAmendments_30 : decode cX5_hasAmendments 30 = .ok (.iconst 0, 1) := by decide +kernel
theorem dX5_hasAmendments_31 : decode cX5_hasAmendments 31 = .ok (.ireturn, 1) := by decide +kernel
set_option maxHeartbeats 2000000 in
set_option maxRecDepth 20000 in
theorem k_X5_hasAmendments (l : Launch) (hfl : l.stackTraces = false) (D : va_G) (aT : Nat → ClassId) (a5 : Nat) (a6 : Nat) (a7 : Nat) (a8 : Nat) (a9 : Nat) (fI : Nat → Int32) (fN : Nat → Int32) (fW : Nat → Int32) (fP : Nat → Int32) (nm : Nat) (nx : Int32) (idn : Nat → Nat) (pr : Nat → Option Nat) (tn : Nat → Nat) (hO : MoC fI fN fP nm idn pr tn) (q : Nat) (hq9 : q < nm) : CxG l yX5_hasAmendments cX5_hasAmendments 3 (some (.boolean)) 0 0 0 0 D aT [.ref a5, .int (nI q)] [(a5, .inr (8, [.ref a6, .ref a7, .ref a8, .ref a9, .int (nI nm), .int nx])), (a6, .inl (aT 0, 12, .inl fI)), (a7, .inl (aT 0, 12, .inl fN)), (a8, .inl (aT 0, 12, .inl fW)), (a9, .inl (aT 0, 12, .inl fP))] (qI D aT (fun r W1 => r = bI (!tipB pr q nm) ∧ W1 = ([(a5, .inr (8, [.ref a6, .ref a7, .ref a8, .ref a9, .int (nI nm), .int nx])), (a6, .inl (aT 0, 12, .inl fI)), (a7, .inl (aT 0, 12, .inl fN)), (a8, .inl (aT 0, 12, .inl fW)), (a9, .inl (aT 0, 12, .inl fP))] : va_W))) (fun _ _ => False) := by
  refine CxG.of RX5 (by decide +kernel) rfl (Nat.le_of_ble_eq_true rfl) ?_
  intro p e s m below meth c A ls C hml hl hA hr hlocks hex hnm hZ hW
  have hl : lv_has ls 3 [(0, .ref a5), (1, .int (nI q))] := hl
  have hx := C.1
  have hb := C.2.1
  refine lv_iload_n hx hb dX5_hasAmendments_0 rfl (lv_at hl 1 rfl) ?_
  refine lv_iconst (v := nI 1) hx hb dX5_hasAmendments_1 (by decide) ?_
  refine r_iaddN hx hb (a := q) (b := 1) dX5_hasAmendments_2 ?_
  refine lv_istore_n (lv' := [(2, .int (nI (q + 1))), (0, .ref a5), (1, .int (nI q))]) hx hb dX5_hasAmendments_3 rfl hl (by decide) rfl (fun ls hl => ?_)
  refine W_loopH (σ := Nat) (fun z_ => nm - z_) (fun z_ H locs g => ∃ ls, g = F0 m 4 ls [] ∧ lv_has ls 3 [(2, .int (nI z_)), (1, .int (nI q)), (0, .ref a5)] ∧ CxB D [(a5, .inr (8, [.ref a6, .ref a7, .ref a8, .ref a9, .int (nI nm), .int nx])), (a6, .inl (aT 0, 12, .inl fI)), (a7, .inl (aT 0, 12, .inl fN)), (a8, .inl (aT 0, 12, .inl fW)), (a9, .inl (aT 0, 12, .inl fP))] A s.heap H locs ∧ q + 1 ≤ z_ ∧ z_ ≤ nm ∧ ∀ j, j < z_ → pr j ≠ some q) ?_ (q + 1) _ ⟨_, rfl, lv_sub hl [0, 2, 1] rfl, hW, ⟨Nat.le_refl _, hq9, fun j hj hp => by have := hO.2.2.2.1 j q (by omega) hp; omega⟩⟩
  clear hW hl
  rintro i H locs g ⟨ls, rfl, hl, hW, ⟨h1, hi, ht⟩⟩ ih_4
  refine lv_iload_n hx hb dX5_hasAmendments_4 rfl (lv_at hl 0 rfl) ?_
  refine lv_aload_n hx hb dX5_hasAmendments_5 rfl (lv_at hl 2 rfl) ?_
  refine cx_get C hW 0 4 rfl rfl (by decide) inX5 gw_161 rfl rfl dX5_hasAmendments_6 ?_
  refine r_geN hx hb (a := i) (b := nm) (by have := hO.1; omega) (by have := hO.1; omega) (tgt := 30) dX5_hasAmendments_9 (by decide) (fun c_9 => ?_) (fun c_9 => ?_)
  · refine lv_iconst (v := nI 0) hx hb dX5_hasAmendments_30 (by decide) ?_
    exact cx_iret C hr hlocks (by decide) hW ⟨Nat.le_of_ble_eq_true rfl, Nat.le_of_ble_eq_true rfl⟩ (⟨by rw [tipB_yes (fun j hj => ht j (by omega))]; rfl, rfl⟩) dX5_hasAmendments_31
  · refine lv_aload_n hx hb dX5_hasAmendments_12 rfl (lv_at hl 2 rfl) ?_
    refine cx_get C hW 0 3 rfl rfl (by decide) inX5 gw_157 rfl rfl dX5_hasAmendments_13 ?_
    refine lv_iload_n hx hb dX5_hasAmendments_16 rfl (lv_at hl 0 rfl) ?_
    refine cx_ald C hW 4 0 (j := i) rfl rfl rfl (by have := hO.1; omega) (by decide) dX5_hasAmendments_17 ?_
    refine r_eq (y := (oi (pr i))) (hO.2.2.1 i (by first | assumption | omega)) ?_
    refine lv_iload_n hx hb dX5_hasAmendments_18 rfl (lv_at hl 1 rfl) ?_
    refine r_on_ne hx hb (o := (pr i)) (q := q) (by intro j hj; have h1 := hO.1; have h2 := hO.2.2.2.1 _ _ (by first | assumption | omega) hj; omega) (by have := hO.1; omega) (tgt := 24) dX5_hasAmendments_19 (by decide) (fun c_19 => ?_) (fun c_19 => ?_)
    · refine lv_iinc (v := (nI (i + 1))) (lv' := [(2, .int (nI (i + 1))), (1, .int (nI q)), (0, .ref a5)]) hx hb dX5_hasAmendments_24 hl (k := 0) rfl (nI_1 _) (by decide) rfl (fun ls hl => ?_)
      refine lv_goto (tgt := 4) hx hb dX5_hasAmendments_27 (by decide) ?_
      exact ih_4 (i + 1) _ _ _ (by first | omega | (dsimp only; omega)) ⟨_, rfl, lv_sub hl [0, 1, 2] rfl, hW, ⟨by omega, by omega, (fun j hj => by rcases Nat.lt_or_ge j i with w | w; exact ht j w; rw [show j = i by omega]; exact c_19)⟩⟩
    · refine lv_iconst (v := nI 1) hx hb dX5_hasAmendments_22 (by decide) ?_
      exact cx_iret C hr hlocks (by decide) hW ⟨Nat.le_of_ble_eq_true rfl, Nat.le_of_ble_eq_true rfl⟩ (⟨by rw [tipB_not c_19 (show i < nm by omega)]; rfl, rfl⟩) dX5_hasAmendments_23
theorem dX5_depthOf_0 : decode cX5_depthOf 0 = .ok (.iconst 0, 1) := by decide +kernel
theorem dX5_depthOf_1 : decode cX5_depthOf 1 = .ok (.istore_n 2, 1) := by decide +kernel
theorem dX5_depthOf_2 : decode cX5_depthOf 2 = .ok (.aload_n 0, 1) := by decide +kernel
theorem dX5_depthOf_3 : decode cX5_depthOf 3 = .ok (.getfield 21, 3) := by decide +kernel
theorem dX5_depthOf_6 : decode cX5_depthOf 6 = .ok (.iload_n 1, 1) := by decide +kernel
theorem dX5_depthOf_7 : decode cX5_depthOf 7 = .ok (.iaload, 1) := by decide +kernel
theorem dX5_depthOf_8 : decode cX5_depthOf 8 = .ok (.istore_n 3, 1) := by decide +kernel
theorem dX5_depthOf_9 : decode cX5_depthOf 9 = .ok (.iload_n 3, 1) := by decide +kernel
theorem dX5_depthOf_10 : decode cX5_depthOf 10 = .ok (.ifCond .lt 22, 3) := by decide +kernel
theorem dX5_depthOf_13 : decode cX5_depthOf 13 = .ok (.iload_n 2, 1) := by decide +kernel
theorem dX5_depthOf_14 : decode cX5_depthOf 14 = .ok (.bipush 12, 2) := by decide +kernel
theorem dX5_depthOf_16 : decode cX5_depthOf 16 = .ok (.if_icmp .ge 16, 3) := by decide +kernel
theorem dX5_depthOf_19 : decode cX5_depthOf 19 = .ok (.aload_n 0, 1) := by decide +kernel
theorem dX5_depthOf_20 : decode cX5_depthOf 20 = .ok (.getfield 21, 3) := by decide +kernel
theorem dX5_depthOf_23 : decode cX5_depthOf 23 = .ok (.iload_n 3, 1) := by decide +kernel
theorem dX5_depthOf_24 : decode cX5_depthOf 24 = .ok (.iaload, 1) := by decide +kernel
theorem dX5_depthOf_25 : decode cX5_depthOf 25 = .ok (.istore_n 3, 1) := by decide +kernel
theorem dX5_depthOf_26 : decode cX5_depthOf 26 = .ok (.iinc 2 1, 3) := by decide +kernel
theorem dX5_depthOf_29 : decode cX5_depthOf 29 = .ok (.goto (-20), 3) := by decide +kernel
theorem dX5_depthOf_32 : decode cX5_depthOf 32 = .ok (.iload_n 2, 1) := by decide +kernel
theorem dX5_depthOf_33 : decode cX5_depthOf 33 = .ok (.ireturn, 1) := by decide +kernel
set_option maxHeartbeats 2000000 in
set_option maxRecDepth 20000 in
theorem k_X5_depthOf (l : Launch) (hfl : l.stackTraces = false) (D : va_G) (aT : Nat → ClassId) (a5 : Nat) (a6 : Nat) (a7 : Nat) (a8 : Nat) (a9 : Nat) (fI : Nat → Int32) (fN : Nat → Int32) (fW : Nat → Int32) (fP : Nat → Int32) (nm : Nat) (nx : Int32) (idn : Nat → Nat) (pr : Nat → Option Nat) (tn : Nat → Nat) (hO : MoC fI fN fP nm idn pr tn) (k : Nat) (hk : k < nm) : CxG l yX5_depthOf cX5_depthOf 4 (some (.int)) 0 0 0 0 D aT [.ref a5, .int (nI k)] [(a5, .inr (8, [.ref a6, .ref a7, .ref a8, .ref a9, .int (nI nm), .int nx])), (a6, .inl (aT 0, 12, .inl fI)), (a7, .inl (aT 0, 12, .inl fN)), (a8, .inl (aT 0, 12, .inl fW)), (a9, .inl (aT 0, 12, .inl fP))] (qI D aT (fun r W1 => r = nI (dep pr k) ∧ W1 = ([(a5, .inr (8, [.ref a6, .ref a7, .ref a8, .ref a9, .int (nI nm), .int nx])), (a6, .inl (aT 0, 12, .inl fI)), (a7, .inl (aT 0, 12, .inl fN)), (a8, .inl (aT 0, 12, .inl fW)), (a9, .inl (aT 0, 12, .inl fP))] : va_W))) (fun _ _ => False) := by
  refine CxG.of RX5 (by decide +kernel) rfl (Nat.le_of_ble_eq_true rfl) ?_
  intro p e s m below meth c A ls C hml hl hA hr hlocks hex hnm hZ hW
  have hl : lv_has ls 4 [(0, .ref a5), (1, .int (nI k))] := hl
  have hx := C.1
  have hb := C.2.1
  refine lv_iconst (v := nI 0) hx hb dX5_depthOf_0 (by decide) ?_
  refine lv_istore_n (lv' := [(2, .int (nI 0)), (0, .ref a5), (1, .int (nI k))]) hx hb dX5_depthOf_1 rfl hl (by decide) rfl (fun ls hl => ?_)
  refine lv_aload_n hx hb dX5_depthOf_2 rfl (lv_at hl 1 rfl) ?_
  refine cx_get C hW 0 3 rfl rfl (by decide) inX5 gw_157 rfl rfl dX5_depthOf_3 ?_
  refine lv_iload_n hx hb dX5_depthOf_6 rfl (lv_at hl 2 rfl) ?_
  refine cx_ald C hW 4 0 (j := k) rfl rfl rfl (by have := hO.1; omega) (by decide) dX5_depthOf_7 ?_
  refine r_eq (y := (oi (pr k))) (hO.2.2.1 k (by first | assumption | omega)) ?_
  refine lv_istore_n (lv' := [(3, .int (oi (pr k))), (2, .int (nI 0)), (0, .ref a5), (1, .int (nI k))]) hx hb dX5_depthOf_8 rfl hl (by decide) rfl (fun ls hl => ?_)
  refine W_loopH (σ := Option Nat × Nat) (fun z_ => oM z_.1) (fun z_ H locs g => ∃ ls, g = F0 m 9 ls [] ∧ lv_has ls 4 [(3, .int (oi z_.1)), (2, .int (nI z_.2)), (1, .int (nI k)), (0, .ref a5)] ∧ CxB D [(a5, .inr (8, [.ref a6, .ref a7, .ref a8, .ref a9, .int (nI nm), .int nx])), (a6, .inl (aT 0, 12, .inl fI)), (a7, .inl (aT 0, 12, .inl fN)), (a8, .inl (aT 0, 12, .inl fW)), (a9, .inl (aT 0, 12, .inl fP))] A s.heap H locs ∧ (∀ j, z_.1 = some j → j < nm) ∧ depO pr z_.1 + z_.2 = dep pr k) ?_ ((pr k), 0) _ ⟨_, rfl, lv_sub hl [0, 1, 3, 2] rfl, hW, ⟨fun j hj => by have := hO.2.2.2.1 k j hk hj; omega, (dep_O hO.2.2.2.1 hk).symm⟩⟩
  clear hW hl
  rintro ⟨o, u⟩ H locs g ⟨ls, rfl, hl, hW, ⟨hon, hd⟩⟩ ih_9
  dsimp only at hl hW hon hd ⊢
  refine lv_iload_n hx hb dX5_depthOf_9 rfl (lv_at hl 0 rfl) ?_
  refine r_oi_lt0 hx hb (o := o) (fun j hj => by have h1 := hO.1; have := hon j hj; omega) (tgt := 32) dX5_depthOf_10 (by decide) (fun c_10 => ?_) (fun j_10 c_10 => ?_)
  · subst c_10
    have hl : lv_has ls 4 [(3, .int (-1)), (2, .int (nI u)), (1, .int (nI k)), (0, .ref a5)] := hl
    refine lv_iload_n hx hb dX5_depthOf_32 rfl (lv_at hl 1 rfl) ?_
    exact cx_iret C hr hlocks rfl hW ⟨Nat.le_of_ble_eq_true rfl, Nat.le_of_ble_eq_true rfl⟩ (⟨by rw [← hd]; show nI u = nI (0 + u); rw [Nat.zero_add], rfl⟩) dX5_depthOf_33
  · subst c_10
    have hl : lv_has ls 4 [(3, .int (nI j_10)), (2, .int (nI u)), (1, .int (nI k)), (0, .ref a5)] := hl
    refine lv_iload_n hx hb dX5_depthOf_13 rfl (lv_at hl 1 rfl) ?_
    refine lv_bipush (v := nI 12) hx hb dX5_depthOf_14 (by decide) ?_
    refine r_geN hx hb (a := u) (b := 12) (by have h1 := hO.1; have h2 := dep_le hO.2.2.2.1 k hk; have h3 : (dep pr j_10 + 1) + u = dep pr k := hd; omega) (by have h1 := hO.1; have h2 := dep_le hO.2.2.2.1 k hk; have h3 : (dep pr j_10 + 1) + u = dep pr k := hd; omega) (tgt := 32) dX5_depthOf_16 (by decide) (fun c_16 => ?_) (fun c_16 => ?_)
    · exact absurd (dep_le hO.2.2.2.1 k hk) (by have h1 := hO.1; have h3 : (dep pr j_10 + 1) + u = dep pr k := hd; omega)
    · refine lv_aload_n hx hb dX5_depthOf_19 rfl (lv_at hl 3 rfl) ?_
      refine cx_get C hW 0 3 rfl rfl (by decide) inX5 gw_157 rfl rfl dX5_depthOf_20 ?_
      refine lv_iload_n hx hb dX5_depthOf_23 rfl (lv_at hl 0 rfl) ?_
      refine cx_ald C hW 4 0 (j := j_10) rfl rfl rfl (by have := hO.1; have := hon _ rfl; omega) (by decide) dX5_depthOf_24 ?_
      refine r_eq (y := (oi (pr j_10))) (hO.2.2.1 _ (hon _ rfl)) ?_
      refine lv_istore_n (lv' := [(3, .int (oi (pr j_10))), (2, .int (nI u)), (1, .int (nI k)), (0, .ref a5)]) hx hb dX5_depthOf_25 rfl hl (by decide) rfl (fun ls hl => ?_)
      refine lv_iinc (v := (nI (u + 1))) (lv' := [(2, .int (nI (u + 1))), (3, .int (oi (pr j_10))), (1, .int (nI k)), (0, .ref a5)]) hx hb dX5_depthOf_26 hl (k := 1) rfl (nI_1 _) (by decide) rfl (fun ls hl => ?_)
      refine lv_goto (tgt := 9) hx hb dX5_depthOf_29 (by decide) ?_
      exact ih_9 ((pr j_10), (u + 1)) _ _ _ (oM_lt hO.2.2.2.1 (hon _ rfl)) ⟨_, rfl, lv_sub hl [1, 0, 2, 3] rfl, hW, ⟨fun j hj => by have h1 := hO.2.2.2.1 j_10 j (hon _ rfl) hj; have := hon _ rfl; omega, by rw [← hd, ← dep_O hO.2.2.2.1 (hon _ rfl)]; show dep pr j_10 + (u + 1) = (dep pr j_10 + 1) + u; omega⟩⟩
theorem dX5_isInBranch_0 : decode cX5_isInBranch 0 = .ok (.iload_n 1, 1) := by decide +kernel
theorem dX5_isInBranch_1 : decode cX5_isInBranch 1 = .ok (.istore_n 3, 1) := by decide +kernel
theorem dX5_isInBranch_2 : decode cX5_isInBranch 2 = .ok (.iconst 0, 1) := by decide +kernel
theorem dX5_isInBranch_3 : decode cX5_isInBranch 3 = .ok (.istore 4, 2) := by decide +kernel
theorem dX5_isInBranch_5 : decode cX5_isInBranch 5 = .ok (.iload 4, 2) := by decide +kernel
theorem dX5_isInBranch_7 : decode cX5_isInBranch 7 = .ok (.bipush 12, 2) := by decide +kernel
theorem dX5_isInBranch_9 : decode cX5_isInBranch 9 = .ok (.if_icmp .ge 21, 3) := by decide +kernel
theorem dX5_isInBranch_12 : decode cX5_isInBranch 12 = .ok (.iload_n 3, 1) := by decide +kernel
theorem dX5_isInBranch_13 : decode cX5_isInBranch 13 = .ok (.iload_n 2, 1) := by decide +kernel
theorem dX5_isInBranch_14 : decode cX5_isInBranch 14 = .ok (.if_icmp .le 16, 3) := by decide +kernel
theorem dX5_isInBranch_17 : decode cX5_isInBranch 17 = .ok (.aload_n 0, 1) := by decide +kernel
theorem dX5_isInBranch_18 : decode cX5_isInBranch 18 = .ok (.getfield 21, 3) := by decide +kernel
theorem dX5_isInBranch_21 : decode cX5_isInBranch 21 = .ok (.iload_n 3, 1) := by decide +kernel
theorem dX5_isInBranch_22 : decode cX5_isInBranch 22 = .ok (.iaload, 1) := by decide +kernel
theorem dX5_isInBranch_23 : decode cX5_isInBranch 23 = .ok (.istore_n 3, 1) := by decide +kernel
theorem dX5_isInBranch_24 : decode cX5_isInBranch 24 = .ok (.iinc 4 1, 3) := by decide +kernel
theorem dX5_isInBranch_27 : decode cX5_isInBranch 27 = .ok (.goto (-22), 3) := by decide +kernel
theorem dX5_isInBranch_30 : decode cX5_isInBranch 30 = .ok (.iload_n 3, 1) := by decide +kernel
theorem dX5_isInBranch_31 : decode cX5_isInBranch 31 = .ok (.iload_n 2, 1) := by decide +kernel
theorem dX5_isInBranch_32 : decode cX5_isInBranch 32 = .ok (.if_icmp .ne 7, 3) := by decide +kernel
theorem dX5_isInBranch_35 : decode cX5_isInBranch 35 = .ok (.iconst 1, 1) := by decide +kernel
theorem dX5_isInBranch_36 : decode cX5_isInBranch 36 = .ok (.goto 4, 3) := by decide +kernel
theorem dX5_isInBranch_39 : decode cX5_isInBranch 39 = .ok (.iconst 0, 1) := by decide +kernel
theorem dX5_isInBranch_40 : decode cX5_isInBranch 40 = .ok (.ireturn, 1) := by decide +kernel
set_option maxHeartbeats 2000000 in
set_option maxRecDepth 20000 in
theorem k_X5_isInBranch (l : Launch) (hfl : l.stackTraces = false) (D : va_G) (aT : Nat → ClassId) (a5 : Nat) (a6 : Nat) (a7 : Nat) (a8 : Nat) (a9 : Nat) (fI : Nat → Int32) (fN : Nat → Int32) (fW : Nat → Int32) (fP : Nat → Int32) (nm : Nat) (nx : Int32) (idn : Nat → Nat) (pr : Nat → Option Nat) (tn : Nat → Nat) (hO : MoC fI fN fP nm idn pr tn) (k : Nat) (hk : k < nm) (tp : Nat) (htp : tp < nm) : CxG l yX5_isInBranch cX5_isInBranch 5 (some (.boolean)) 0 0 0 0 D aT [.ref a5, .int (nI k), .int (nI tp)] [(a5, .inr (8, [.ref a6, .ref a7, .ref a8, .ref a9, .int (nI nm), .int nx])), (a6, .inl (aT 0, 12, .inl fI)), (a7, .inl (aT 0, 12, .inl fN)), (a8, .inl (aT 0, 12, .inl fW)), (a9, .inl (aT 0, 12, .inl fP))] (qI D aT (fun r W1 => r = bI (anc pr tp k) ∧ W1 = ([(a5, .inr (8, [.ref a6, .ref a7, .ref a8, .ref a9, .int (nI nm), .int nx])), (a6, .inl (aT 0, 12, .inl fI)), (a7, .inl (aT 0, 12, .inl fN)), (a8, .inl (aT 0, 12, .inl fW)), (a9, .inl (aT 0, 12, .inl fP))] : va_W))) (fun _ _ => False) := by
  refine CxG.of RX5 (by decide +kernel) rfl (Nat.le_of_ble_eq_true rfl) ?_
  intro p e s m below meth c A ls C hml hl hA hr hlocks hex hnm hZ hW
  have hl : lv_has ls 5 [(0, .ref a5), (1, .int (nI k)), (2, .int (nI tp))] := hl
  have hx := C.1
  have hb := C.2.1
  refine lv_iload_n hx hb dX5_isInBranch_0 rfl (lv_at hl 1 rfl) ?_
  refine lv_istore_n (lv' := [(3, .int (nI k)), (0, .ref a5), (1, .int (nI k)), (2, .int (nI tp))]) hx hb dX5_isInBranch_1 rfl hl (by decide) rfl (fun ls hl => ?_)
  refine lv_iconst (v := nI 0) hx hb dX5_isInBranch_2 (by decide) ?_
  refine lv_istore (lv' := [(4, .int (nI 0)), (3, .int (nI k)), (0, .ref a5), (1, .int (nI k)), (2, .int (nI tp))]) hx hb dX5_isInBranch_3 hl (by decide) rfl (fun ls hl => ?_)
  have hl : lv_has ls 5 [(4, .int (nI 0)), (3, .int (oi (some k))), (0, .ref a5), (1, .int (nI k)), (2, .int (nI tp))] := hl
  refine W_loopH (σ := Option Nat × Nat) (fun z_ => oM z_.1) (fun z_ H locs g => ∃ ls, g = F0 m 5 ls [] ∧ lv_has ls 5 [(4, .int (nI z_.2)), (3, .int (oi z_.1)), (2, .int (nI tp)), (1, .int (nI k)), (0, .ref a5)] ∧ CxB D [(a5, .inr (8, [.ref a6, .ref a7, .ref a8, .ref a9, .int (nI nm), .int nx])), (a6, .inl (aT 0, 12, .inl fI)), (a7, .inl (aT 0, 12, .inl fN)), (a8, .inl (aT 0, 12, .inl fW)), (a9, .inl (aT 0, 12, .inl fP))] A s.heap H locs ∧ (∀ j, z_.1 = some j → j < nm) ∧ ancO pr tp z_.1 = anc pr tp k ∧ oM z_.1 + z_.2 ≤ 12) ?_ ((some k), 0) _ ⟨_, rfl, lv_sub hl [0, 1, 4, 3, 2] rfl, hW, ⟨fun j hj => by cases hj; exact hk, rfl, by have := hO.1; show k + 1 + 0 ≤ 12; omega⟩⟩
  clear hW hl
  rintro ⟨o, u⟩ H locs g ⟨ls, rfl, hl, hW, ⟨hon, ha, hm⟩⟩ ih_5
  dsimp only at hl hW hon ha hm ⊢
  refine lv_iload hx hb dX5_isInBranch_5 (lv_at hl 0 rfl) ?_
  refine lv_bipush (v := nI 12) hx hb dX5_isInBranch_7 (by decide) ?_
  refine r_geN hx hb (a := u) (b := 12) (by omega) (by omega) (tgt := 30) dX5_isInBranch_9 (by decide) (fun c_9 => ?_) (fun c_9 => ?_)
  · refine lv_iload_n hx hb dX5_isInBranch_30 rfl (lv_at hl 1 rfl) ?_
    refine lv_iload_n hx hb dX5_isInBranch_31 rfl (lv_at hl 2 rfl) ?_
    refine r_on_ne hx hb (o := o) (q := tp) (fun j hj => by have h1 := hO.1; have := hon j hj; omega) (by have := hO.1; omega) (tgt := 39) dX5_isInBranch_32 (by decide) (fun c_32 => ?_) (fun c_32 => ?_)
    · refine lv_iconst (v := nI 0) hx hb dX5_isInBranch_39 (by decide) ?_
      exact cx_iret C hr hlocks (by decide) hW ⟨Nat.le_of_ble_eq_true rfl, Nat.le_of_ble_eq_true rfl⟩ (⟨by rw [← ha, br_end hO.2.2.2.1 hon (fun j hj => (oM_0 (by omega) j hj).elim), decide_eq_false c_32]; rfl, rfl⟩) dX5_isInBranch_40
    · refine lv_iconst (v := nI 1) hx hb dX5_isInBranch_35 (by decide) ?_
      refine lv_goto (tgt := 40) hx hb dX5_isInBranch_36 (by decide) ?_
      exact cx_iret C hr hlocks (by decide) hW ⟨Nat.le_of_ble_eq_true rfl, Nat.le_of_ble_eq_true rfl⟩ (⟨by rw [← ha, br_end hO.2.2.2.1 hon (fun j hj => (oM_0 (by omega) j hj).elim), decide_eq_true c_32]; rfl, rfl⟩) dX5_isInBranch_40
  · refine lv_iload_n hx hb dX5_isInBranch_12 rfl (lv_at hl 1 rfl) ?_
    refine lv_iload_n hx hb dX5_isInBranch_13 rfl (lv_at hl 2 rfl) ?_
    refine r_oi_leN hx hb (o := o) (q := tp) (fun j hj => by have h1 := hO.1; have := hon j hj; omega) (by have := hO.1; omega) (tgt := 30) dX5_isInBranch_14 (by decide) (fun c_14 => ?_) (fun j_14 e_14 c_14 => ?_)
    · refine lv_iload_n hx hb dX5_isInBranch_30 rfl (lv_at hl 1 rfl) ?_
      refine lv_iload_n hx hb dX5_isInBranch_31 rfl (lv_at hl 2 rfl) ?_
      refine r_on_ne hx hb (o := o) (q := tp) (fun j hj => by have h1 := hO.1; have := hon j hj; omega) (by have := hO.1; omega) (tgt := 39) dX5_isInBranch_32 (by decide) (fun c_32 => ?_) (fun c_32 => ?_)
      · refine lv_iconst (v := nI 0) hx hb dX5_isInBranch_39 (by decide) ?_
        exact cx_iret C hr hlocks (by decide) hW ⟨Nat.le_of_ble_eq_true rfl, Nat.le_of_ble_eq_true rfl⟩ (⟨by rw [← ha, br_end hO.2.2.2.1 hon (c_14), decide_eq_false c_32]; rfl, rfl⟩) dX5_isInBranch_40
      · refine lv_iconst (v := nI 1) hx hb dX5_isInBranch_35 (by decide) ?_
        refine lv_goto (tgt := 40) hx hb dX5_isInBranch_36 (by decide) ?_
        exact cx_iret C hr hlocks (by decide) hW ⟨Nat.le_of_ble_eq_true rfl, Nat.le_of_ble_eq_true rfl⟩ (⟨by rw [← ha, br_end hO.2.2.2.1 hon (c_14), decide_eq_true c_32]; rfl, rfl⟩) dX5_isInBranch_40
    · subst e_14
      have hl : lv_has ls 5 [(4, .int (nI u)), (3, .int (nI j_14)), (2, .int (nI tp)), (1, .int (nI k)), (0, .ref a5)] := hl
      refine lv_aload_n hx hb dX5_isInBranch_17 rfl (lv_at hl 4 rfl) ?_
      refine cx_get C hW 0 3 rfl rfl (by decide) inX5 gw_157 rfl rfl dX5_isInBranch_18 ?_
      refine lv_iload_n hx hb dX5_isInBranch_21 rfl (lv_at hl 1 rfl) ?_
      refine cx_ald C hW 4 0 (j := j_14) rfl rfl rfl (by have := hO.1; have := hon _ rfl; omega) (by decide) dX5_isInBranch_22 ?_
      refine r_eq (y := (oi (pr j_14))) (hO.2.2.1 _ (hon _ rfl)) ?_
      refine lv_istore_n (lv' := [(3, .int (oi (pr j_14))), (4, .int (nI u)), (2, .int (nI tp)), (1, .int (nI k)), (0, .ref a5)]) hx hb dX5_isInBranch_23 rfl hl (by decide) rfl (fun ls hl => ?_)
      refine lv_iinc (v := (nI (u + 1))) (lv' := [(4, .int (nI (u + 1))), (3, .int (oi (pr j_14))), (2, .int (nI tp)), (1, .int (nI k)), (0, .ref a5)]) hx hb dX5_isInBranch_24 hl (k := 1) rfl (nI_1 _) (by decide) rfl (fun ls hl => ?_)
      refine lv_goto (tgt := 5) hx hb dX5_isInBranch_27 (by decide) ?_
      exact ih_5 ((pr j_14), (u + 1)) _ _ _ (oM_lt hO.2.2.2.1 (hon _ rfl)) ⟨_, rfl, lv_sub hl [0, 1, 2, 3, 4] rfl, hW, ⟨fun j hj => by have h1 := hO.2.2.2.1 j_14 j (hon _ rfl) hj; have := hon _ rfl; omega, by rw [← ha]; exact (anc_O hO.2.2.2.1 (hon _ rfl) (by omega)).symm, by have h1 := oM_lt hO.2.2.2.1 (hon _ rfl); dsimp only; omega⟩⟩
theorem dX5_sizeOfBranch_0 : decode cX5_sizeOfBranch 0 = .ok (.iconst 0, 1) := by decide +kernel
theorem dX5_sizeOfBranch_1 : decode cX5_sizeOfBranch 1 = .ok (.istore_n 2, 1) := by decide +kernel
theorem dX5_sizeOfBranch_2 : decode cX5_sizeOfBranch 2 = .ok (.iload_n 1, 1) := by decide +kernel
theorem dX5_sizeOfBranch_3 : decode cX5_sizeOfBranch 3 = .ok (.istore_n 3, 1) := by decide +kernel
theorem dX5_sizeOfBranch_4 : decode cX5_sizeOfBranch 4 = .ok (.iload_n 3, 1) := by decide +kernel
theorem dX5_sizeOfBranch_5 : decode cX5_sizeOfBranch 5 = .ok (.aload_n 0, 1) := by decide +kernel
theorem dX5_sizeOfBranch_6 : decode cX5_sizeOfBranch 6 = .ok (.getfield 24, 3) := by decide +kernel
theorem dX5_sizeOfBranch_9 : decode cX5_sizeOfBranch 9 = .ok (.if_icmp .ge 21, 3) := by decide +kernel
theorem dX5_sizeOfBranch_12 : decode cX5_sizeOfBranch 12 = .ok (.aload_n 0, 1) := by decide +kernel
theorem dX5_sizeOfBranch_13 : decode cX5_sizeOfBranch 13 = .ok (.iload_n 3, 1) := by decide +kernel
theorem dX5_sizeOfBranch_14 : decode cX5_sizeOfBranch 14 = .ok (.iload_n 1, 1) := by decide +kernel
theorem dX5_sizeOfBranch_15 : decode cX5_sizeOfBranch 15 = .ok (.invokevirtual 44, 3) := by decide +kernel
theorem dX5_sizeOfBranch_18 : decode cX5_sizeOfBranch 18 = .ok (.ifCond .eq 6, 3) := by decide +kernel
theorem dX5_sizeOfBranch_21 : decode cX5_sizeOfBranch 21 = .ok (.iinc 2 1, 3) := by decide +kernel
theorem dX5_sizeOfBranch_24 : decode cX5_sizeOfBranch 24 = .ok (.iinc 3 1, 3) := by decide +kernel
theorem dX5_sizeOfBranch_27 : decode cX5_sizeOfBranch 27 = .ok (.goto (-23), 3) := by decide +kernel
theorem dX5_sizeOfBranch_30 : decode cX5_sizeOfBranch 30 = .ok (.iload_n 2, 1) := by decide +kernel
theorem dX5_sizeOfBranch_31 : decode cX5_sizeOfBranch 31 = .ok (.ireturn, 1) := by decide +kernel
theorem gV_X5_X5_isInBranch_44 : GoodIn gw (wsV RX5 44 RX5 yX5_isInBranch (Cond.code yX5_isInBranch cX5_isInBranch 5 (some .boolean) :: gw)) := gdV gw_752 gw_507 gw_508 gw_70 gw_509
theorem hV_X5_isInBranch : yX5_isInBranch.cls = RX5 ∧ yX5_isInBranch.cls ≠ "java/lang/invoke/MethodHandle" ∧ yX5_isInBranch.cls ≠ "java/lang/invoke/VarHandle" ∧ (parseMethodDescriptor yX5_isInBranch.desc).map (fun d => d.parameters.length) = some 2 := ⟨rfl, by decide +kernel, by decide +kernel, by decide +kernel⟩
set_option maxHeartbeats 2000000 in
set_option maxRecDepth 20000 in
theorem k_X5_sizeOfBranch (l : Launch) (hfl : l.stackTraces = false) (D : va_G) (aT : Nat → ClassId) (a5 : Nat) (a6 : Nat) (a7 : Nat) (a8 : Nat) (a9 : Nat) (fI : Nat → Int32) (fN : Nat → Int32) (fW : Nat → Int32) (fP : Nat → Int32) (nm : Nat) (nx : Int32) (idn : Nat → Nat) (pr : Nat → Option Nat) (tn : Nat → Nat) (hO : MoC fI fN fP nm idn pr tn) (tp : Nat) (htp : tp < nm) : CxG l yX5_sizeOfBranch cX5_sizeOfBranch 4 (some (.int)) 1 0 0 24 D aT [.ref a5, .int (nI tp)] [(a5, .inr (8, [.ref a6, .ref a7, .ref a8, .ref a9, .int (nI nm), .int nx])), (a6, .inl (aT 0, 12, .inl fI)), (a7, .inl (aT 0, 12, .inl fN)), (a8, .inl (aT 0, 12, .inl fW)), (a9, .inl (aT 0, 12, .inl fP))] (qI D aT (fun r W1 => r = nI (brs pr tp nm) ∧ W1 = ([(a5, .inr (8, [.ref a6, .ref a7, .ref a8, .ref a9, .int (nI nm), .int nx])), (a6, .inl (aT 0, 12, .inl fI)), (a7, .inl (aT 0, 12, .inl fN)), (a8, .inl (aT 0, 12, .inl fW)), (a9, .inl (aT 0, 12, .inl fP))] : va_W))) (fun _ _ => False) := by
  refine CxG.of RX5 (by decide +kernel) rfl (Nat.le_of_ble_eq_true rfl) ?_
  intro p e s m below meth c A ls C hml hl hA hr hlocks hex hnm hZ hW
  have hl : lv_has ls 4 [(0, .ref a5), (1, .int (nI tp))] := hl
  have hx := C.1
  have hb := C.2.1
  refine lv_iconst (v := nI 0) hx hb dX5_sizeOfBranch_0 (by decide) ?_
  refine lv_istore_n (lv' := [(2, .int (nI 0)), (0, .ref a5), (1, .int (nI tp))]) hx hb dX5_sizeOfBranch_1 rfl hl (by decide) rfl (fun ls hl => ?_)
  refine lv_iload_n hx hb dX5_sizeOfBranch_2 rfl (lv_at hl 2 rfl) ?_
  refine lv_istore_n (lv' := [(3, .int (nI tp)), (2, .int (nI 0)), (0, .ref a5), (1, .int (nI tp))]) hx hb dX5_sizeOfBranch_3 rfl hl (by decide) rfl (fun ls hl => ?_)
  have hl : lv_has ls 4 [(3, .int (nI tp)), (2, .int (nI (brs pr tp tp))), (0, .ref a5), (1, .int (nI tp))] := by
    rw [show nI (brs pr tp tp) = nI (0) from congrArg nI (brs_top hO.2.2.2.1 tp (Nat.le_refl _) (Nat.le_of_lt htp))]
    exact hl
  refine W_loopH (σ := Nat) (fun z_ => nm - z_) (fun z_ H locs g => ∃ ls, g = F0 m 4 ls [] ∧ lv_has ls 4 [(3, .int (nI z_)), (2, .int (nI (brs pr tp z_))), (1, .int (nI tp)), (0, .ref a5)] ∧ CxB D [(a5, .inr (8, [.ref a6, .ref a7, .ref a8, .ref a9, .int (nI nm), .int nx])), (a6, .inl (aT 0, 12, .inl fI)), (a7, .inl (aT 0, 12, .inl fN)), (a8, .inl (aT 0, 12, .inl fW)), (a9, .inl (aT 0, 12, .inl fP))] A s.heap H locs ∧ tp ≤ z_ ∧ z_ ≤ nm) ?_ tp _ ⟨_, rfl, lv_sub hl [0, 1, 3, 2] rfl, hW, ⟨Nat.le_refl _, Nat.le_of_lt htp⟩⟩
  clear hW hl
  rintro i H locs g ⟨ls, rfl, hl, hW, ⟨h1, hi⟩⟩ ih_4
  refine lv_iload_n hx hb dX5_sizeOfBranch_4 rfl (lv_at hl 0 rfl) ?_
  refine lv_aload_n hx hb dX5_sizeOfBranch_5 rfl (lv_at hl 3 rfl) ?_
  refine cx_get C hW 0 4 rfl rfl (by decide) inX5 gw_161 rfl rfl dX5_sizeOfBranch_6 ?_
  refine r_geN hx hb (a := i) (b := nm) (by have := hO.1; omega) (by have := hO.1; omega) (tgt := 30) dX5_sizeOfBranch_9 (by decide) (fun c_9 => ?_) (fun c_9 => ?_)
  · refine lv_iload_n hx hb dX5_sizeOfBranch_30 rfl (lv_at hl 1 rfl) ?_
    exact cx_iret C hr hlocks rfl hW ⟨Nat.le_of_ble_eq_true rfl, Nat.le_of_ble_eq_true rfl⟩ (⟨by rw [show i = nm by omega], rfl⟩) dX5_sizeOfBranch_31
  · refine lv_aload_n hx hb dX5_sizeOfBranch_12 rfl (lv_at hl 3 rfl) ?_
    refine lv_iload_n hx hb dX5_sizeOfBranch_13 rfl (lv_at hl 0 rfl) ?_
    refine lv_iload_n hx hb dX5_sizeOfBranch_14 rfl (lv_at hl 2 rfl) ?_
    refine cx_calli (Wr := []) (cx_runV C hml hl.1 hZ hW hA (As := [.int (nI i), .int (nI tp)]) (rest := []) (k_X5_isInBranch l hfl D aT a5 a6 a7 a8 a9 fI fN fW fP nm nx idn pr tn hO i (show i < nm by omega) tp htp) gV_X5_X5_isInBranch_44 hV_X5_isInBranch rfl ⟨Nat.le_of_ble_eq_true rfl, Nat.le_of_ble_eq_true rfl⟩ ⟨Nat.le_of_ble_eq_true rfl, Nat.le_of_ble_eq_true rfl⟩ [0, 1, 2, 3, 4] rfl (by decide) 0 8 rfl rfl rfl rfl (Nat.le_of_ble_eq_true rfl) dX5_sizeOfBranch_15) hW hA [0, 1, 2, 3, 4] [] rfl rfl (by decide) (by decide) (fun _ _ _ _ _ _ h9 => h9.elim) (fun r_15 W_15 H locs hq hW => ?_)
    obtain ⟨rfl, rfl⟩ := hq
    refine r_bI_eq hx hb (b := (anc pr tp i)) (tgt := 24) dX5_sizeOfBranch_18 (by decide) (fun c_18 => ?_) (fun c_18 => ?_)
    · have hl : lv_has ls 4 [(3, .int (nI i)), (2, .int (nI (brs pr tp (i + 1)))), (1, .int (nI tp)), (0, .ref a5)] := by
        rw [show nI (brs pr tp (i + 1)) = nI (brs pr tp i) from congrArg nI (by rw [brs, if_neg (by rw [c_18]; decide), Nat.add_zero])]
        exact hl
      refine lv_iinc (v := (nI (i + 1))) (lv' := [(3, .int (nI (i + 1))), (2, .int (nI (brs pr tp (i + 1)))), (1, .int (nI tp)), (0, .ref a5)]) hx hb dX5_sizeOfBranch_24 hl (k := 0) rfl (nI_1 _) (by decide) rfl (fun ls hl => ?_)
      refine lv_goto (tgt := 4) hx hb dX5_sizeOfBranch_27 (by decide) ?_
      exact ih_4 (i + 1) _ _ _ (by first | omega | (dsimp only; omega)) ⟨_, rfl, lv_sub hl [0, 1, 2, 3] rfl, hW, ⟨by omega, by omega⟩⟩
    · refine lv_iinc (v := (nI ((brs pr tp i) + 1))) (lv' := [(2, .int (nI ((brs pr tp i) + 1))), (3, .int (nI i)), (1, .int (nI tp)), (0, .ref a5)]) hx hb dX5_sizeOfBranch_21 hl (k := 1) rfl (nI_1 _) (by decide) rfl (fun ls hl => ?_)
      have hl : lv_has ls 4 [(2, .int (nI (brs pr tp (i + 1)))), (3, .int (nI i)), (1, .int (nI tp)), (0, .ref a5)] := by
        rw [show nI (brs pr tp (i + 1)) = nI ((brs pr tp i) + 1) from congrArg nI (by rw [brs, if_pos c_18])]
        exact hl
      refine lv_iinc (v := (nI (i + 1))) (lv' := [(3, .int (nI (i + 1))), (2, .int (nI (brs pr tp (i + 1)))), (1, .int (nI tp)), (0, .ref a5)]) hx hb dX5_sizeOfBranch_24 hl (k := 1) rfl (nI_1 _) (by decide) rfl (fun ls hl => ?_)
      refine lv_goto (tgt := 4) hx hb dX5_sizeOfBranch_27 (by decide) ?_
      exact ih_4 (i + 1) _ _ _ (by first | omega | (dsimp only; omega)) ⟨_, rfl, lv_sub hl [0, 1, 2, 3] rfl, hW, ⟨by omega, by omega⟩⟩
theorem dX5_lastTipOf_0 : decode cX5_lastTipOf 0 = .ok (.aload_n 0, 1) := by decide +kernel
theorem dX5_lastTipOf_1 : decode cX5_lastTipOf 1 = .ok (.getfield 24, 3) := by decide +kernel
theorem dX5_lastTipOf_4 : decode cX5_lastTipOf 4 = .ok (.iconst 1, 1) := by decide +kernel
theorem dX5_lastTipOf_5 : decode cX5_lastTipOf 5 = .ok (.isub, 1) := by decide +kernel
theorem dX5_lastTipOf_6 : decode cX5_lastTipOf 6 = .ok (.istore_n 2, 1) := by decide +kernel
theorem dX5_lastTipOf_7 : decode cX5_lastTipOf 7 = .ok (.iload_n 2, 1) := by decide +kernel
theorem dX5_lastTipOf_8 : decode cX5_lastTipOf 8 = .ok (.iload_n 1, 1) := by decide +kernel
theorem dX5_lastTipOf_9 : decode cX5_lastTipOf 9 = .ok (.if_icmp .le 28, 3) := by decide +kernel
theorem dX5_lastTipOf_12 : decode cX5_lastTipOf 12 = .ok (.aload_n 0, 1) := by decide +kernel
theorem dX5_lastTipOf_13 : decode cX5_lastTipOf 13 = .ok (.iload_n 2, 1) := by decide +kernel
theorem dX5_lastTipOf_14 : decode cX5_lastTipOf 14 = .ok (.iload_n 1, 1) := by decide +kernel
theorem dX5_lastTipOf_15 : decode cX5_lastTipOf 15 = .ok (.invokevirtual 44, 3) := by decide +kernel
theorem dX5_lastTipOf_18 : decode cX5_lastTipOf 18 = .ok (.ifCond .eq 13, 3) := by decide +kernel
theorem dX5_lastTipOf_21 : decode cX5_lastTipOf 21 = .ok (.aload_n 0, 1) := by decide +kernel
theorem dX5_lastTipOf_22 : decode cX5_lastTipOf 22 = .ok (.iload_n 2, 1) := by decide +kernel
theorem dX5_lastTipOf_23 : decode cX5_lastTipOf 23 = .ok (.invokevirtual 48, 3) := by decide +kernel
theorem dX5_lastTipOf_26 : decode cX5_lastTipOf 26 = .ok (.ifCond .ne 5, 3) := by decide +kernel
theorem dX5_lastTipOf_29 : decode cX5_lastTipOf 29 = .ok (.iload_n 2, 1) := by decide +kernel
theorem dX5_lastTipOf_30 : decode cX5_lastTipOf 30 = .ok (.ireturn, 1) := by decide +kernel
theorem dX5_lastTipOf_31 : decode cX5_lastTipOf 31 = .ok (.iinc 2 (-1), 3) := by decide +kernel
theorem dX5_lastTipOf_34 : decode cX5_lastTipOf 34 = .ok (.goto (-27), 3) := by decide +kernel
theorem dX5_lastTipOf_37 : decode cX5_lastTipOf 37 = .ok (.iload_n 1, 1) := by decide +kernel
theorem dX5_lastTipOf_38 : decode cX5_lastTipOf 38 = .ok (.ireturn, 1) := by decide +kernel
theorem gV_X5_X5_hasAmendments_48 : GoodIn gw (wsV RX5 48 RX5 yX5_hasAmendments (Cond.code yX5_hasAmendments cX5_hasAmendments 3 (some .boolean) :: gw)) := gdV gw_753 gw_754 gw_755 gw_70 gw_756
theorem hV_X5_hasAmendments : yX5_hasAmendments.cls = RX5 ∧ yX5_hasAmendments.cls ≠ "java/lang/invoke/MethodHandle" ∧ yX5_hasAmendments.cls ≠ "java/lang/invoke/VarHandle" ∧ (parseMethodDescriptor yX5_hasAmendments.desc).map (fun d => d.parameters.length) = some 1 := ⟨rfl, by decide +kernel, by decide +kernel, by decide +kernel⟩
set_option maxHeartbeats 2000000 in
set_option maxRecDepth 20000 in
theorem k_X5_lastTipOf (l : Launch) (hfl : l.stackTraces = false) (D : va_G) (aT : Nat → ClassId) (a5 : Nat) (a6 : Nat) (a7 : Nat) (a8 : Nat) (a9 : Nat) (fI : Nat → Int32) (fN : Nat → Int32) (fW : Nat → Int32) (fP : Nat → Int32) (nm : Nat) (nx : Int32) (idn : Nat → Nat) (pr : Nat → Option Nat) (tn : Nat → Nat) (hO : MoC fI fN fP nm idn pr tn) (tp : Nat) (htp : tp < nm) : CxG l yX5_lastTipOf cX5_lastTipOf 3 (some (.int)) 1 0 0 24 D aT [.ref a5, .int (nI tp)] [(a5, .inr (8, [.ref a6, .ref a7, .ref a8, .ref a9, .int (nI nm), .int nx])), (a6, .inl (aT 0, 12, .inl fI)), (a7, .inl (aT 0, 12, .inl fN)), (a8, .inl (aT 0, 12, .inl fW)), (a9, .inl (aT 0, 12, .inl fP))] (qI D aT (fun r W1 => (∃ t, ltp pr nm tp nm = some t ∧ t < nm ∧ r = nI t) ∧ W1 = ([(a5, .inr (8, [.ref a6, .ref a7, .ref a8, .ref a9, .int (nI nm), .int nx])), (a6, .inl (aT 0, 12, .inl fI)), (a7, .inl (aT 0, 12, .inl fN)), (a8, .inl (aT 0, 12, .inl fW)), (a9, .inl (aT 0, 12, .inl fP))] : va_W))) (fun _ _ => False) := by
  refine CxG.of RX5 (by decide +kernel) rfl (Nat.le_of_ble_eq_true rfl) ?_
  intro p e s m below meth c A ls C hml hl hA hr hlocks hex hnm hZ hW
  have hl : lv_has ls 3 [(0, .ref a5), (1, .int (nI tp))] := hl
  have hx := C.1
  have hb := C.2.1
  refine lv_aload_n hx hb dX5_lastTipOf_0 rfl (lv_at hl 0 rfl) ?_
  refine cx_get C hW 0 4 rfl rfl (by decide) inX5 gw_161 rfl rfl dX5_lastTipOf_1 ?_
  refine lv_iconst (v := nI 1) hx hb dX5_lastTipOf_4 (by decide) ?_
  refine r_isubN hx hb (a := nm) (b := 1) (by omega) dX5_lastTipOf_5 ?_
  refine lv_istore_n (lv' := [(2, .int (nI (nm - 1))), (0, .ref a5), (1, .int (nI tp))]) hx hb dX5_lastTipOf_6 rfl hl (by decide) rfl (fun ls hl => ?_)
  refine W_loopH (σ := Nat) (fun z_ => z_) (fun z_ H locs g => ∃ ls, g = F0 m 7 ls [] ∧ lv_has ls 3 [(2, .int (nI z_)), (1, .int (nI tp)), (0, .ref a5)] ∧ CxB D [(a5, .inr (8, [.ref a6, .ref a7, .ref a8, .ref a9, .int (nI nm), .int nx])), (a6, .inl (aT 0, 12, .inl fI)), (a7, .inl (aT 0, 12, .inl fN)), (a8, .inl (aT 0, 12, .inl fW)), (a9, .inl (aT 0, 12, .inl fP))] A s.heap H locs ∧ tp ≤ z_ ∧ z_ < nm ∧ ltp pr nm tp nm = ltp pr nm tp (z_ + 1)) ?_ (nm - 1) _ ⟨_, rfl, lv_sub hl [0, 2, 1] rfl, hW, ⟨by omega, by omega, by rw [show nm - 1 + 1 = nm by omega]⟩⟩
  clear hW hl
  rintro i H locs g ⟨ls, rfl, hl, hW, ⟨h1, hi, hlt⟩⟩ ih_7
  refine lv_iload_n hx hb dX5_lastTipOf_7 rfl (lv_at hl 0 rfl) ?_
  refine lv_iload_n hx hb dX5_lastTipOf_8 rfl (lv_at hl 1 rfl) ?_
  refine r_leN hx hb (a := i) (b := tp) (by have := hO.1; omega) (by have := hO.1; omega) (tgt := 37) dX5_lastTipOf_9 (by decide) (fun c_9 => ?_) (fun c_9 => ?_)
  · refine lv_iload_n hx hb dX5_lastTipOf_37 rfl (lv_at hl 1 rfl) ?_
    exact cx_iret C hr hlocks rfl hW ⟨Nat.le_of_ble_eq_true rfl, Nat.le_of_ble_eq_true rfl⟩ (⟨⟨tp, ltp_top hO.2.2.2.1 htp (by rw [hlt, show i = tp by omega]), htp, rfl⟩, rfl⟩) dX5_lastTipOf_38
  · refine lv_aload_n hx hb dX5_lastTipOf_12 rfl (lv_at hl 2 rfl) ?_
    refine lv_iload_n hx hb dX5_lastTipOf_13 rfl (lv_at hl 0 rfl) ?_
    refine lv_iload_n hx hb dX5_lastTipOf_14 rfl (lv_at hl 1 rfl) ?_
    refine cx_calli (Wr := []) (cx_runV C hml hl.1 hZ hW hA (As := [.int (nI i), .int (nI tp)]) (rest := []) (k_X5_isInBranch l hfl D aT a5 a6 a7 a8 a9 fI fN fW fP nm nx idn pr tn hO i (show i < nm by omega) tp htp) gV_X5_X5_isInBranch_44 hV_X5_isInBranch rfl ⟨Nat.le_of_ble_eq_true rfl, Nat.le_of_ble_eq_true rfl⟩ ⟨Nat.le_of_ble_eq_true rfl, Nat.le_of_ble_eq_true rfl⟩ [0, 1, 2, 3, 4] rfl (by decide) 0 8 rfl rfl rfl rfl (Nat.le_of_ble_eq_true rfl) dX5_lastTipOf_15) hW hA [0, 1, 2, 3, 4] [] rfl rfl (by decide) (by decide) (fun _ _ _ _ _ _ h9 => h9.elim) (fun r_15 W_15 H locs hq hW => ?_)
    obtain ⟨rfl, rfl⟩ := hq
    refine r_bI_eq hx hb (b := (anc pr tp i)) (tgt := 31) dX5_lastTipOf_18 (by decide) (fun c_18 => ?_) (fun c_18 => ?_)
    · refine lv_iinc (v := (nI (i - 1))) (lv' := [(2, .int (nI (i - 1))), (1, .int (nI tp)), (0, .ref a5)]) hx hb dX5_lastTipOf_31 hl (k := 0) rfl (pd_eq (by omega)) (by decide) rfl (fun ls hl => ?_)
      refine lv_goto (tgt := 7) hx hb dX5_lastTipOf_34 (by decide) ?_
      exact ih_7 (i - 1) _ _ _ (by first | omega | (dsimp only; omega)) ⟨_, rfl, lv_sub hl [0, 1, 2] rfl, hW, ⟨by omega, by omega, by rw [hlt, show i - 1 + 1 = i by omega]; exact ltp_skip (by rw [c_18]; rintro ⟨z, -⟩; exact absurd z (by decide))⟩⟩
    · refine lv_aload_n hx hb dX5_lastTipOf_21 rfl (lv_at hl 2 rfl) ?_
      refine lv_iload_n hx hb dX5_lastTipOf_22 rfl (lv_at hl 0 rfl) ?_
      refine cx_calli (Wr := []) (cx_runV C hml hl.1 hZ hW hA (As := [.int (nI i)]) (rest := []) (k_X5_hasAmendments l hfl D aT a5 a6 a7 a8 a9 fI fN fW fP nm nx idn pr tn hO i (show i < nm by omega)) gV_X5_X5_hasAmendments_48 hV_X5_hasAmendments rfl ⟨Nat.le_of_ble_eq_true rfl, Nat.le_of_ble_eq_true rfl⟩ ⟨Nat.le_of_ble_eq_true rfl, Nat.le_of_ble_eq_true rfl⟩ [0, 1, 2, 3, 4] rfl (by decide) 0 8 rfl rfl rfl rfl (Nat.le_of_ble_eq_true rfl) dX5_lastTipOf_23) hW hA [0, 1, 2, 3, 4] [] rfl rfl (by decide) (by decide) (fun _ _ _ _ _ _ h9 => h9.elim) (fun r_23 W_23 H locs hq hW => ?_)
      obtain ⟨rfl, rfl⟩ := hq
      refine r_bI_ne hx hb (b := (!tipB pr i nm)) (tgt := 31) dX5_lastTipOf_26 (by decide) (fun c_26 => ?_) (fun c_26 => ?_)
      · refine lv_iinc (v := (nI (i - 1))) (lv' := [(2, .int (nI (i - 1))), (1, .int (nI tp)), (0, .ref a5)]) hx hb dX5_lastTipOf_31 hl (k := 0) rfl (pd_eq (by omega)) (by decide) rfl (fun ls hl => ?_)
        refine lv_goto (tgt := 7) hx hb dX5_lastTipOf_34 (by decide) ?_
        exact ih_7 (i - 1) _ _ _ (by first | omega | (dsimp only; omega)) ⟨_, rfl, lv_sub hl [0, 1, 2] rfl, hW, ⟨by omega, by omega, by rw [hlt, show i - 1 + 1 = i by omega]; exact ltp_skip (by rintro ⟨-, z⟩; rw [z] at c_26; exact absurd c_26 (by decide))⟩⟩
      · refine lv_iload_n hx hb dX5_lastTipOf_29 rfl (lv_at hl 0 rfl) ?_
        exact cx_iret C hr hlocks rfl hW ⟨Nat.le_of_ble_eq_true rfl, Nat.le_of_ble_eq_true rfl⟩ (⟨⟨i, by rw [hlt]; exact ltp_hit c_18 (by simpa using c_26), by omega, rfl⟩, rfl⟩) dX5_lastTipOf_30
theorem dX5_totalWeight_0 : decode cX5_totalWeight 0 = .ok (.iconst 0, 1) := by decide +kernel
theorem dX5_totalWeight_1 : decode cX5_totalWeight 1 = .ok (.istore_n 1, 1) := by decide +kernel
theorem dX5_totalWeight_2 : decode cX5_totalWeight 2 = .ok (.iconst 0, 1) := by decide +kernel
theorem dX5_totalWeight_3 : decode cX5_totalWeight 3 = .ok (.istore_n 2, 1) := by decide +kernel
theorem dX5_totalWeight_4 : decode cX5_totalWeight 4 = .ok (.iload_n 2, 1) := by decide +kernel
theorem dX5_totalWeight_5 : decode cX5_totalWeight 5 = .ok (.aload_n 0, 1) := by decide +kernel
theorem dX5_totalWeight_6 : decode cX5_totalWeight 6 = .ok (.getfield 24, 3) := by decide +kernel
theorem dX5_totalWeight_9 : decode cX5_totalWeight 9 = .ok (.if_icmp .ge 18, 3) := by decide +kernel
theorem dX5_totalWeight_12 : decode cX5_totalWeight 12 = .ok (.iload_n 1, 1) := by decide +kernel
theorem dX5_totalWeight_13 : decode cX5_totalWeight 13 = .ok (.aload_n 0, 1) := by decide +kernel
theorem dX5_totalWeight_14 : decode cX5_totalWeight 14 = .ok (.getfield 18, 3) := by decide +kernel
theorem dX5_totalWeight_17 : decode cX5_totalWeight 17 = .ok (.iload_n 2, 1) := by decide +kernel
theorem dX5_totalWeight_18 : decode cX5_totalWeight 18 = .ok (.iaload, 1) := by decide +kernel
theorem dX5_totalWeight_19 : decode cX5_totalWeight 19 = .ok (.iadd, 1) := by decide +kernel
theorem dX5_totalWeight_20 : decode cX5_totalWeight 20 = .ok (.istore_n 1, 1) := by decide +kernel
theorem dX5_totalWeight_21 : decode cX5_totalWeight 21 = .ok (.iinc 2 1, 3) := by decide +kernel
theorem dX5_totalWeight_24 : decode cX5_totalWeight 24 = .ok (.goto (-20), 3) := by decide +kernel
theorem dX5_totalWeight_27 : decode cX5_totalWeight 27 = .ok (.iload_n 1, 1) := by decide +kernel
theorem dX5_totalWeight_28 : decode cX5_totalWeight 28 = .ok (.ireturn, 1) := by decide +kernel
set_option maxHeartbeats 2000000 in
set_option maxRecDepth 20000 in
theorem k_X5_totalWeight (l : Launch) (hfl : l.stackTraces = false) (D : va_G) (aT : Nat → ClassId) (a5 : Nat) (a6 : Nat) (a7 : Nat) (a8 : Nat) (a9 : Nat) (fI : Nat → Int32) (fN : Nat → Int32) (fW : Nat → Int32) (fP : Nat → Int32) (nm : Nat) (nx : Int32) (h12 : nm ≤ 12) : CxG l yX5_totalWeight cX5_totalWeight 3 (some (.int)) 0 0 0 0 D aT [.ref a5] [(a5, .inr (8, [.ref a6, .ref a7, .ref a8, .ref a9, .int (nI nm), .int nx])), (a6, .inl (aT 0, 12, .inl fI)), (a7, .inl (aT 0, 12, .inl fN)), (a8, .inl (aT 0, 12, .inl fW)), (a9, .inl (aT 0, 12, .inl fP))] (qI D aT (fun r W1 => r = smC fW nm ∧ W1 = ([(a5, .inr (8, [.ref a6, .ref a7, .ref a8, .ref a9, .int (nI nm), .int nx])), (a6, .inl (aT 0, 12, .inl fI)), (a7, .inl (aT 0, 12, .inl fN)), (a8, .inl (aT 0, 12, .inl fW)), (a9, .inl (aT 0, 12, .inl fP))] : va_W))) (fun _ _ => False) := by
  refine CxG.of RX5 (by decide +kernel) rfl (Nat.le_of_ble_eq_true rfl) ?_
  intro p e s m below meth c A ls C hml hl hA hr hlocks hex hnm hZ hW
  have hl : lv_has ls 3 [(0, .ref a5)] := hl
  have hx := C.1
  have hb := C.2.1
  refine lv_iconst (v := nI 0) hx hb dX5_totalWeight_0 (by decide) ?_
  refine lv_istore_n (lv' := [(1, .int (nI 0)), (0, .ref a5)]) hx hb dX5_totalWeight_1 rfl hl (by decide) rfl (fun ls hl => ?_)
  refine lv_iconst (v := nI 0) hx hb dX5_totalWeight_2 (by decide) ?_
  refine lv_istore_n (lv' := [(2, .int (nI 0)), (1, .int (nI 0)), (0, .ref a5)]) hx hb dX5_totalWeight_3 rfl hl (by decide) rfl (fun ls hl => ?_)
  refine W_loopH (σ := Nat) (fun z_ => nm - z_) (fun z_ H locs g => ∃ ls, g = F0 m 4 ls [] ∧ lv_has ls 3 [(2, .int (nI z_)), (1, .int (smC fW z_)), (0, .ref a5)] ∧ CxB D [(a5, .inr (8, [.ref a6, .ref a7, .ref a8, .ref a9, .int (nI nm), .int nx])), (a6, .inl (aT 0, 12, .inl fI)), (a7, .inl (aT 0, 12, .inl fN)), (a8, .inl (aT 0, 12, .inl fW)), (a9, .inl (aT 0, 12, .inl fP))] A s.heap H locs ∧ z_ ≤ nm) ?_ 0 _ ⟨_, rfl, lv_sub hl [0, 1, 2] rfl, hW, Nat.zero_le _⟩
  clear hW hl
  rintro i H locs g ⟨ls, rfl, hl, hW, hi⟩ ih_4
  refine lv_iload_n hx hb dX5_totalWeight_4 rfl (lv_at hl 0 rfl) ?_
  refine lv_aload_n hx hb dX5_totalWeight_5 rfl (lv_at hl 2 rfl) ?_
  refine cx_get C hW 0 4 rfl rfl (by decide) inX5 gw_161 rfl rfl dX5_totalWeight_6 ?_
  refine r_geN hx hb (a := i) (b := nm) (by omega) (by omega) (tgt := 27) dX5_totalWeight_9 (by decide) (fun c_9 => ?_) (fun c_9 => ?_)
  · refine lv_iload_n hx hb dX5_totalWeight_27 rfl (lv_at hl 1 rfl) ?_
    exact cx_iret C hr hlocks rfl hW ⟨Nat.le_of_ble_eq_true rfl, Nat.le_of_ble_eq_true rfl⟩ (⟨by rw [show i = nm by omega], rfl⟩) dX5_totalWeight_28
  · refine lv_iload_n hx hb dX5_totalWeight_12 rfl (lv_at hl 1 rfl) ?_
    refine lv_aload_n hx hb dX5_totalWeight_13 rfl (lv_at hl 2 rfl) ?_
    refine cx_get C hW 0 2 rfl rfl (by decide) inX5 gw_153 rfl rfl dX5_totalWeight_14 ?_
    refine lv_iload_n hx hb dX5_totalWeight_17 rfl (lv_at hl 0 rfl) ?_
    refine cx_ald C hW 3 0 (j := i) rfl rfl rfl (by omega) (by decide) dX5_totalWeight_18 ?_
    refine lv_iadd hx hb dX5_totalWeight_19 ?_
    refine lv_istore_n (lv' := [(1, .int ((smC fW i) + (fW i))), (2, .int (nI i)), (0, .ref a5)]) hx hb dX5_totalWeight_20 rfl hl (by decide) rfl (fun ls hl => ?_)
    refine lv_iinc (v := (nI (i + 1))) (lv' := [(2, .int (nI (i + 1))), (1, .int ((smC fW i) + (fW i))), (0, .ref a5)]) hx hb dX5_totalWeight_21 hl (k := 1) rfl (nI_1 _) (by decide) rfl (fun ls hl => ?_)
    refine lv_goto (tgt := 4) hx hb dX5_totalWeight_24 (by decide) ?_
    exact ih_4 (i + 1) _ _ _ (by first | omega | (dsimp only; omega)) ⟨_, rfl, lv_sub hl [0, 1, 2] rfl, hW, (by omega)⟩
theorem dX5_ranksBefore_0 : decode cX5_ranksBefore 0 = .ok (.aload_n 0, 1) := by decide +kernel
theorem dX5_ranksBefore_1 : decode cX5_ranksBefore 1 = .ok (.getfield 18, 3) := by decide +kernel
theorem dX5_ranksBefore_4 : decode cX5_ranksBefore 4 = .ok (.iload_n 1, 1) := by decide +kernel
theorem dX5_ranksBefore_5 : decode cX5_ranksBefore 5 = .ok (.iaload, 1) := by decide +kernel
theorem dX5_ranksBefore_6 : decode cX5_ranksBefore 6 = .ok (.aload_n 0, 1) := by decide +kernel
theorem dX5_ranksBefore_7 : decode cX5_ranksBefore 7 = .ok (.getfield 18, 3) := by decide +kernel
theorem dX5_ranksBefore_10 : decode cX5_ranksBefore 10 = .ok (.iload_n 2, 1) := by decide +kernel
theorem dX5_ranksBefore_11 : decode cX5_ranksBefore 11 = .ok (.iaload, 1) := by decide +kernel
theorem dX5_ranksBefore_12 : decode cX5_ranksBefore 12 = .ok (.if_icmp .eq 24, 3) := by decide +kernel
theorem dX5_ranksBefore_15 : decode cX5_ranksBefore 15 = .ok (.aload_n 0, 1) := by decide +kernel
theorem dX5_ranksBefore_16 : decode cX5_ranksBefore 16 = .ok (.getfield 18, 3) := by decide +kernel
theorem dX5_ranksBefore_19 : decode cX5_ranksBefore 19 = .ok (.iload_n 1, 1) := by decide +kernel
theorem dX5_ranksBefore_20 : decode cX5_ranksBefore 20 = .ok (.iaload, 1) := by decide +kernel
theorem dX5_ranksBefore_21 : decode cX5_ranksBefore 21 = .ok (.aload_n 0, 1) := by decide +kernel
theorem dX5_ranksBefore_22 : decode cX5_ranksBefore 22 = .ok (.getfield 18, 3) := by decide +kernel
theorem dX5_ranksBefore_25 : decode cX5_ranksBefore 25 = .ok (.iload_n 2, 1) := by decide +kernel
theorem dX5_ranksBefore_26 : decode cX5_ranksBefore 26 = .ok (.iaload, 1) := by decide +kernel
theorem dX5_ranksBefore_27 : decode cX5_ranksBefore 27 = .ok (.if_icmp .le 7, 3) := by decide +kernel
theorem dX5_ranksBefore_30 : decode cX5_ranksBefore 30 = .ok (.iconst 1, 1) := by decide +kernel
theorem dX5_ranksBefore_31 : decode cX5_ranksBefore 31 = .ok (.goto 4, 3) := by decide +kernel
theorem dX5_ranksBefore_34 : decode cX5_ranksBefore 34 = .ok (.iconst 0, 1) := by decide +kernel
theorem dX5_ranksBefore_35 : decode cX5_ranksBefore 35 = .ok (.ireturn, 1) := by decide +kernel
theorem dX5_ranksBefore_36 : decode cX5_ranksBefore 36 = .ok (.aload_n 0, 1) := by decide +kernel
theorem dX5_ranksBefore_37 : decode cX5_ranksBefore 37 = .ok (.iload_n 1, 1) := by decide +kernel
theorem dX5_ranksBefore_38 : decode cX5_ranksBefore 38 = .ok (.invokevirtual 52, 3) := by decide +kernel
theorem dX5_ranksBefore_41 : decode cX5_ranksBefore 41 = .ok (.istore_n 3, 1) := by decide +kernel
theorem dX5_ranksBefore_42 : decode cX5_ranksBefore 42 = .ok (.aload_n 0, 1) := by decide +kernel
theorem dX5_ranksBefore_43 : decode cX5_ranksBefore 43 = .ok (.iload_n 2, 1) := by decide +kernel
theorem dX5_ranksBefore_44 : decode cX5_ranksBefore 44 = .ok (.invokevirtual 52, 3) := by decide +kernel
theorem dX5_ranksBefore_47 : decode cX5_ranksBefore 47 = .ok (.istore 4, 2) := by decide +kernel
theorem dX5_ranksBefore_49 : decode cX5_ranksBefore 49 = .ok (.iload_n 3, 1) := by decide +kernel
theorem dX5_ranksBefore_50 : decode cX5_ranksBefore 50 = .ok (.iload 4, 2) := by decide +kernel
theorem dX5_ranksBefore_52 : decode cX5_ranksBefore 52 = .ok (.if_icmp .eq 15, 3) := by decide +kernel
theorem dX5_ranksBefore_55 : decode cX5_ranksBefore 55 = .ok (.iload_n 3, 1) := by decide +kernel
theorem dX5_ranksBefore_56 : decode cX5_ranksBefore 56 = .ok (.iload 4, 2) := by decide +kernel
theorem dX5_ranksBefore_58 : decode cX5_ranksBefore 58 = .ok (.if_icmp .ge 7, 3) := by decide +kernel
theorem dX5_ranksBefore_61 : decode cX5_ranksBefore 61 = .ok (.iconst 1, 1) := by decide +kernel
theorem dX5_ranksBefore_62 : decode cX5_ranksBefore 62 = .ok (.goto 4, 3) := by decide +kernel
theorem dX5_ranksBefore_65 : decode cX5_ranksBefore 65 = .ok (.iconst 0, 1) := by decide +kernel
theorem dX5_ranksBefore_66 : decode cX5_ranksBefore 66 = .ok (.ireturn, 1) := by decide +kernel
theorem dX5_ranksBefore_67 : decode cX5_ranksBefore 67 = .ok (.iload_n 1, 1) := by decide +kernel
theorem dX5_ranksBefore_68 : decode cX5_ranksBefore 68 = .ok (.iload_n 2, 1) := by decide +kernel
theorem dX5_ranksBefore_69 : decode cX5_ranksBefore 69 = .ok (.if_icmp .ge 7, 3) := by decide +kernel
theorem dX5_ranksBefore_72 : decode cX5_ranksBefore 72 = .ok (.iconst 1, 1) := by decide +kernel
theorem dX5_ranksBefore_73 : decode cX5_ranksBefore 73 = .ok (.goto 4, 3) := by decide +kernel
theorem dX5_ranksBefore_76 : decode cX5_ranksBefore 76 = .ok (.iconst 0, 1) := by decide +kernel
theorem dX5_ranksBefore_77 : decode cX5_ranksBefore 77 = .ok (.ireturn, 1) := by decide +kernel
theorem gV_X5_X5_depthOf_52 : GoodIn gw (wsV RX5 52 RX5 yX5_depthOf (Cond.code yX5_depthOf cX5_depthOf 4 (some .int) :: gw)) := gdV gw_982 gw_528 gw_529 gw_70 gw_530
theorem hV_X5_depthOf : yX5_depthOf.cls = RX5 ∧ yX5_depthOf.cls ≠ "java/lang/invoke/MethodHandle" ∧ yX5_depthOf.cls ≠ "java/lang/invoke/VarHandle" ∧ (parseMethodDescriptor yX5_depthOf.desc).map (fun d => d.parameters.length) = some 1 := ⟨rfl, by decide +kernel, by decide +kernel, by decide +kernel⟩
set_option maxHeartbeats 2000000 in
set_option maxRecDepth 20000 in
theorem k_X5_ranksBefore (l : Launch) (hfl : l.stackTraces = false) (D : va_G) (aT : Nat → ClassId) (a5 : Nat) (a6 : Nat) (a7 : Nat) (a8 : Nat) (a9 : Nat) (fI : Nat → Int32) (fN : Nat → Int32) (fW : Nat → Int32) (fP : Nat → Int32) (nm : Nat) (nx : Int32) (idn : Nat → Nat) (pr : Nat → Option Nat) (tn : Nat → Nat) (hO : MoC fI fN fP nm idn pr tn) (a : Nat) (b : Nat) (ha : a < nm) (hb9 : b < nm) : CxG l yX5_ranksBefore cX5_ranksBefore 5 (some (.boolean)) 1 0 0 23 D aT [.ref a5, .int (nI a), .int (nI b)] [(a5, .inr (8, [.ref a6, .ref a7, .ref a8, .ref a9, .int (nI nm), .int nx])), (a6, .inl (aT 0, 12, .inl fI)), (a7, .inl (aT 0, 12, .inl fN)), (a8, .inl (aT 0, 12, .inl fW)), (a9, .inl (aT 0, 12, .inl fP))] (qI D aT (fun r W1 => r = bI (mAc fW pr a b) ∧ W1 = ([(a5, .inr (8, [.ref a6, .ref a7, .ref a8, .ref a9, .int (nI nm), .int nx])), (a6, .inl (aT 0, 12, .inl fI)), (a7, .inl (aT 0, 12, .inl fN)), (a8, .inl (aT 0, 12, .inl fW)), (a9, .inl (aT 0, 12, .inl fP))] : va_W))) (fun _ _ => False) := by
  refine CxG.of RX5 (by decide +kernel) rfl (Nat.le_of_ble_eq_true rfl) ?_
  intro p e s m below meth c A ls C hml hl hA hr hlocks hex hnm hZ hW
  have hl : lv_has ls 5 [(0, .ref a5), (1, .int (nI a)), (2, .int (nI b))] := hl
  have hx := C.1
  have hb := C.2.1
  refine lv_aload_n hx hb dX5_ranksBefore_0 rfl (lv_at hl 0 rfl) ?_
  refine cx_get C hW 0 2 rfl rfl (by decide) inX5 gw_153 rfl rfl dX5_ranksBefore_1 ?_
  refine lv_iload_n hx hb dX5_ranksBefore_4 rfl (lv_at hl 1 rfl) ?_
  refine cx_ald C hW 3 0 (j := a) rfl rfl rfl (by have := hO.1; omega) (by decide) dX5_ranksBefore_5 ?_
  refine lv_aload_n hx hb dX5_ranksBefore_6 rfl (lv_at hl 0 rfl) ?_
  refine cx_get C hW 0 2 rfl rfl (by decide) inX5 gw_153 rfl rfl dX5_ranksBefore_7 ?_
  refine lv_iload_n hx hb dX5_ranksBefore_10 rfl (lv_at hl 2 rfl) ?_
  refine cx_ald C hW 3 0 (j := b) rfl rfl rfl (by have := hO.1; omega) (by decide) dX5_ranksBefore_11 ?_
  refine lv_icmp_eq hx hb (x := (fW a)) (y := (fW b)) (tgt := 36) dX5_ranksBefore_12 (by decide) (fun c_12 => ?_) (fun c_12 => ?_)
  · refine lv_aload_n hx hb dX5_ranksBefore_36 rfl (lv_at hl 0 rfl) ?_
    refine lv_iload_n hx hb dX5_ranksBefore_37 rfl (lv_at hl 1 rfl) ?_
    refine cx_calli (Wr := []) (cx_runV C hml hl.1 hZ hW hA (As := [.int (nI a)]) (rest := []) (k_X5_depthOf l hfl D aT a5 a6 a7 a8 a9 fI fN fW fP nm nx idn pr tn hO a ha) gV_X5_X5_depthOf_52 hV_X5_depthOf rfl ⟨Nat.le_of_ble_eq_true rfl, Nat.le_of_ble_eq_true rfl⟩ ⟨Nat.le_of_ble_eq_true rfl, Nat.le_of_ble_eq_true rfl⟩ [0, 1, 2, 3, 4] rfl (by decide) 0 8 rfl rfl rfl rfl (Nat.le_of_ble_eq_true rfl) dX5_ranksBefore_38) hW hA [0, 1, 2, 3, 4] [] rfl rfl (by decide) (by decide) (fun _ _ _ _ _ _ h9 => h9.elim) (fun r_38 W_38 H locs hq hW => ?_)
    obtain ⟨rfl, rfl⟩ := hq
    refine lv_istore_n (lv' := [(3, .int (nI (dep pr a))), (0, .ref a5), (1, .int (nI a)), (2, .int (nI b))]) hx hb dX5_ranksBefore_41 rfl hl (by decide) rfl (fun ls hl => ?_)
    refine lv_aload_n hx hb dX5_ranksBefore_42 rfl (lv_at hl 1 rfl) ?_
    refine lv_iload_n hx hb dX5_ranksBefore_43 rfl (lv_at hl 3 rfl) ?_
    refine cx_calli (Wr := []) (cx_runV C hml hl.1 hZ hW hA (As := [.int (nI b)]) (rest := []) (k_X5_depthOf l hfl D aT a5 a6 a7 a8 a9 fI fN fW fP nm nx idn pr tn hO b hb9) gV_X5_X5_depthOf_52 hV_X5_depthOf rfl ⟨Nat.le_of_ble_eq_true rfl, Nat.le_of_ble_eq_true rfl⟩ ⟨Nat.le_of_ble_eq_true rfl, Nat.le_of_ble_eq_true rfl⟩ [0, 1, 2, 3, 4] rfl (by decide) 0 8 rfl rfl rfl rfl (Nat.le_of_ble_eq_true rfl) dX5_ranksBefore_44) hW hA [0, 1, 2, 3, 4] [] rfl rfl (by decide) (by decide) (fun _ _ _ _ _ _ h9 => h9.elim) (fun r_44 W_44 H locs hq hW => ?_)
    obtain ⟨rfl, rfl⟩ := hq
    refine lv_istore (lv' := [(4, .int (nI (dep pr b))), (3, .int (nI (dep pr a))), (0, .ref a5), (1, .int (nI a)), (2, .int (nI b))]) hx hb dX5_ranksBefore_47 hl (by decide) rfl (fun ls hl => ?_)
    refine lv_iload_n hx hb dX5_ranksBefore_49 rfl (lv_at hl 1 rfl) ?_
    refine lv_iload hx hb dX5_ranksBefore_50 (lv_at hl 0 rfl) ?_
    refine r_eqN hx hb (a := dep pr a) (b := dep pr b) (by have h1 := hO.1; have := dep_le hO.2.2.2.1 a ha; have := dep_le hO.2.2.2.1 b hb9; omega) (by have h1 := hO.1; have := dep_le hO.2.2.2.1 a ha; have := dep_le hO.2.2.2.1 b hb9; omega) (tgt := 67) dX5_ranksBefore_52 (by decide) (fun c_52 => ?_) (fun c_52 => ?_)
    · refine lv_iload_n hx hb dX5_ranksBefore_67 rfl (lv_at hl 3 rfl) ?_
      refine lv_iload_n hx hb dX5_ranksBefore_68 rfl (lv_at hl 4 rfl) ?_
      refine r_geN hx hb (a := a) (b := b) (by have := hO.1; omega) (by have := hO.1; omega) (tgt := 76) dX5_ranksBefore_69 (by decide) (fun c_69 => ?_) (fun c_69 => ?_)
      · refine lv_iconst (v := nI 0) hx hb dX5_ranksBefore_76 (by decide) ?_
        exact cx_iret C hr hlocks (by decide) hW ⟨Nat.le_of_ble_eq_true rfl, Nat.le_of_ble_eq_true rfl⟩ (⟨mAc_4 c_12 (by omega), rfl⟩) dX5_ranksBefore_77
      · refine lv_iconst (v := nI 1) hx hb dX5_ranksBefore_72 (by decide) ?_
        refine lv_goto (tgt := 77) hx hb dX5_ranksBefore_73 (by decide) ?_
        exact cx_iret C hr hlocks (by decide) hW ⟨Nat.le_of_ble_eq_true rfl, Nat.le_of_ble_eq_true rfl⟩ (⟨mAc_3 c_12 (by omega), rfl⟩) dX5_ranksBefore_77
    · refine lv_iload_n hx hb dX5_ranksBefore_55 rfl (lv_at hl 1 rfl) ?_
      refine lv_iload hx hb dX5_ranksBefore_56 (lv_at hl 0 rfl) ?_
      refine r_geN hx hb (a := dep pr a) (b := dep pr b) (by have h1 := hO.1; have := dep_le hO.2.2.2.1 a ha; have := dep_le hO.2.2.2.1 b hb9; omega) (by have h1 := hO.1; have := dep_le hO.2.2.2.1 a ha; have := dep_le hO.2.2.2.1 b hb9; omega) (tgt := 65) dX5_ranksBefore_58 (by decide) (fun c_58 => ?_) (fun c_58 => ?_)
      · refine lv_iconst (v := nI 0) hx hb dX5_ranksBefore_65 (by decide) ?_
        exact cx_iret C hr hlocks (by decide) hW ⟨Nat.le_of_ble_eq_true rfl, Nat.le_of_ble_eq_true rfl⟩ (⟨mAc_4 c_12 (by omega), rfl⟩) dX5_ranksBefore_66
      · refine lv_iconst (v := nI 1) hx hb dX5_ranksBefore_61 (by decide) ?_
        refine lv_goto (tgt := 66) hx hb dX5_ranksBefore_62 (by decide) ?_
        exact cx_iret C hr hlocks (by decide) hW ⟨Nat.le_of_ble_eq_true rfl, Nat.le_of_ble_eq_true rfl⟩ (⟨mAc_3 c_12 (by omega), rfl⟩) dX5_ranksBefore_66
  · refine lv_aload_n hx hb dX5_ranksBefore_15 rfl (lv_at hl 0 rfl) ?_
    refine cx_get C hW 0 2 rfl rfl (by decide) inX5 gw_153 rfl rfl dX5_ranksBefore_16 ?_
    refine lv_iload_n hx hb dX5_ranksBefore_19 rfl (lv_at hl 1 rfl) ?_
    refine cx_ald C hW 3 0 (j := a) rfl rfl rfl (by have := hO.1; omega) (by decide) dX5_ranksBefore_20 ?_
    refine lv_aload_n hx hb dX5_ranksBefore_21 rfl (lv_at hl 0 rfl) ?_
    refine cx_get C hW 0 2 rfl rfl (by decide) inX5 gw_153 rfl rfl dX5_ranksBefore_22 ?_
    refine lv_iload_n hx hb dX5_ranksBefore_25 rfl (lv_at hl 2 rfl) ?_
    refine cx_ald C hW 3 0 (j := b) rfl rfl rfl (by have := hO.1; omega) (by decide) dX5_ranksBefore_26 ?_
    refine lv_icmp_le hx hb (x := (fW a)) (y := (fW b)) (tgt := 34) dX5_ranksBefore_27 (by decide) (fun c_27 => ?_) (fun c_27 => ?_)
    · refine lv_iconst (v := nI 0) hx hb dX5_ranksBefore_34 (by decide) ?_
      exact cx_iret C hr hlocks (by decide) hW ⟨Nat.le_of_ble_eq_true rfl, Nat.le_of_ble_eq_true rfl⟩ (⟨mAc_2 c_12 c_27, rfl⟩) dX5_ranksBefore_35
    · refine lv_iconst (v := nI 1) hx hb dX5_ranksBefore_30 (by decide) ?_
      refine lv_goto (tgt := 35) hx hb dX5_ranksBefore_31 (by decide) ?_
      exact cx_iret C hr hlocks (by decide) hW ⟨Nat.le_of_ble_eq_true rfl, Nat.le_of_ble_eq_true rfl⟩ (⟨mAc_1 (Int32.not_le.mp c_27), rfl⟩) dX5_ranksBefore_35
theorem dX5_rankOf_0 : decode cX5_rankOf 0 = .ok (.iconst 0, 1) := by decide +kernel
theorem dX5_rankOf_1 : decode cX5_rankOf 1 = .ok (.istore_n 2, 1) := by decide +kernel
theorem dX5_rankOf_2 : decode cX5_rankOf 2 = .ok (.iconst 0, 1) := by decide +kernel
theorem dX5_rankOf_3 : decode cX5_rankOf 3 = .ok (.istore_n 3, 1) := by decide +kernel
theorem dX5_rankOf_4 : decode cX5_rankOf 4 = .ok (.iload_n 3, 1) := by decide +kernel
theorem dX5_rankOf_5 : decode cX5_rankOf 5 = .ok (.aload_n 0, 1) := by decide +kernel
theorem dX5_rankOf_6 : decode cX5_rankOf 6 = .ok (.getfield 24, 3) := by decide +kernel
theorem dX5_rankOf_9 : decode cX5_rankOf 9 = .ok (.if_icmp .ge 21, 3) := by decide +kernel
theorem dX5_rankOf_12 : decode cX5_rankOf 12 = .ok (.aload_n 0, 1) := by decide +kernel
theorem dX5_rankOf_13 : decode cX5_rankOf 13 = .ok (.iload_n 3, 1) := by decide +kernel
theorem dX5_rankOf_14 : decode cX5_rankOf 14 = .ok (.iload_n 1, 1) := by decide +kernel
theorem dX5_rankOf_15 : decode cX5_rankOf 15 = .ok (.invokevirtual 59, 3) := by decide +kernel
theorem dX5_rankOf_18 : decode cX5_rankOf 18 = .ok (.ifCond .eq 6, 3) := by decide +kernel
theorem dX5_rankOf_21 : decode cX5_rankOf 21 = .ok (.iinc 2 1, 3) := by decide +kernel
theorem dX5_rankOf_24 : decode cX5_rankOf 24 = .ok (.iinc 3 1, 3) := by decide +kernel
theorem dX5_rankOf_27 : decode cX5_rankOf 27 = .ok (.goto (-23), 3) := by decide +kernel
theorem dX5_rankOf_30 : decode cX5_rankOf 30 = .ok (.iload_n 2, 1) := by decide +kernel
theorem dX5_rankOf_31 : decode cX5_rankOf 31 = .ok (.ireturn, 1) := by decide +kernel
theorem gV_X5_X5_ranksBefore_59 : GoodIn gw (wsV RX5 59 RX5 yX5_ranksBefore (Cond.code yX5_ranksBefore cX5_ranksBefore 5 (some .boolean) :: gw)) := gdV gw_978 gw_979 gw_980 gw_70 gw_981
theorem hV_X5_ranksBefore : yX5_ranksBefore.cls = RX5 ∧ yX5_ranksBefore.cls ≠ "java/lang/invoke/MethodHandle" ∧ yX5_ranksBefore.cls ≠ "java/lang/invoke/VarHandle" ∧ (parseMethodDescriptor yX5_ranksBefore.desc).map (fun d => d.parameters.length) = some 2 := ⟨rfl, by decide +kernel, by decide +kernel, by decide +kernel⟩
set_option maxHeartbeats 2000000 in
set_option maxRecDepth 20000 in
theorem k_X5_rankOf (l : Launch) (hfl : l.stackTraces = false) (D : va_G) (aT : Nat → ClassId) (a5 : Nat) (a6 : Nat) (a7 : Nat) (a8 : Nat) (a9 : Nat) (fI : Nat → Int32) (fN : Nat → Int32) (fW : Nat → Int32) (fP : Nat → Int32) (nm : Nat) (nx : Int32) (idn : Nat → Nat) (pr : Nat → Option Nat) (tn : Nat → Nat) (hO : MoC fI fN fP nm idn pr tn) (k : Nat) (hk : k < nm) : CxG l yX5_rankOf cX5_rankOf 4 (some (.int)) 2 0 0 47 D aT [.ref a5, .int (nI k)] [(a5, .inr (8, [.ref a6, .ref a7, .ref a8, .ref a9, .int (nI nm), .int nx])), (a6, .inl (aT 0, 12, .inl fI)), (a7, .inl (aT 0, 12, .inl fN)), (a8, .inl (aT 0, 12, .inl fW)), (a9, .inl (aT 0, 12, .inl fP))] (qI D aT (fun r W1 => r = nI (rkN (mAc fW pr) k nm) ∧ W1 = ([(a5, .inr (8, [.ref a6, .ref a7, .ref a8, .ref a9, .int (nI nm), .int nx])), (a6, .inl (aT 0, 12, .inl fI)), (a7, .inl (aT 0, 12, .inl fN)), (a8, .inl (aT 0, 12, .inl fW)), (a9, .inl (aT 0, 12, .inl fP))] : va_W))) (fun _ _ => False) := by
  refine CxG.of RX5 (by decide +kernel) rfl (Nat.le_of_ble_eq_true rfl) ?_
  intro p e s m below meth c A ls C hml hl hA hr hlocks hex hnm hZ hW
  have hl : lv_has ls 4 [(0, .ref a5), (1, .int (nI k))] := hl
  have hx := C.1
  have hb := C.2.1
  refine lv_iconst (v := nI 0) hx hb dX5_rankOf_0 (by decide) ?_
  refine lv_istore_n (lv' := [(2, .int (nI 0)), (0, .ref a5), (1, .int (nI k))]) hx hb dX5_rankOf_1 rfl hl (by decide) rfl (fun ls hl => ?_)
  refine lv_iconst (v := nI 0) hx hb dX5_rankOf_2 (by decide) ?_
  refine lv_istore_n (lv' := [(3, .int (nI 0)), (2, .int (nI 0)), (0, .ref a5), (1, .int (nI k))]) hx hb dX5_rankOf_3 rfl hl (by decide) rfl (fun ls hl => ?_)
  refine W_loopH (σ := Nat) (fun z_ => nm - z_) (fun z_ H locs g => ∃ ls, g = F0 m 4 ls [] ∧ lv_has ls 4 [(3, .int (nI z_)), (2, .int (nI (rkN (mAc fW pr) k z_))), (1, .int (nI k)), (0, .ref a5)] ∧ CxB D [(a5, .inr (8, [.ref a6, .ref a7, .ref a8, .ref a9, .int (nI nm), .int nx])), (a6, .inl (aT 0, 12, .inl fI)), (a7, .inl (aT 0, 12, .inl fN)), (a8, .inl (aT 0, 12, .inl fW)), (a9, .inl (aT 0, 12, .inl fP))] A s.heap H locs ∧ z_ ≤ nm) ?_ 0 _ ⟨_, rfl, lv_sub hl [0, 1, 3, 2] rfl, hW, Nat.zero_le _⟩
  clear hW hl
  rintro i H locs g ⟨ls, rfl, hl, hW, hi⟩ ih_4
  refine lv_iload_n hx hb dX5_rankOf_4 rfl (lv_at hl 0 rfl) ?_
  refine lv_aload_n hx hb dX5_rankOf_5 rfl (lv_at hl 3 rfl) ?_
  refine cx_get C hW 0 4 rfl rfl (by decide) inX5 gw_161 rfl rfl dX5_rankOf_6 ?_
  refine r_geN hx hb (a := i) (b := nm) (by have := hO.1; omega) (by have := hO.1; omega) (tgt := 30) dX5_rankOf_9 (by decide) (fun c_9 => ?_) (fun c_9 => ?_)
  · refine lv_iload_n hx hb dX5_rankOf_30 rfl (lv_at hl 1 rfl) ?_
    exact cx_iret C hr hlocks rfl hW ⟨Nat.le_of_ble_eq_true rfl, Nat.le_of_ble_eq_true rfl⟩ (⟨by rw [show i = nm by omega], rfl⟩) dX5_rankOf_31
  · refine lv_aload_n hx hb dX5_rankOf_12 rfl (lv_at hl 3 rfl) ?_
    refine lv_iload_n hx hb dX5_rankOf_13 rfl (lv_at hl 0 rfl) ?_
    refine lv_iload_n hx hb dX5_rankOf_14 rfl (lv_at hl 2 rfl) ?_
    refine cx_calli (Wr := []) (cx_runV C hml hl.1 hZ hW hA (As := [.int (nI i), .int (nI k)]) (rest := []) (k_X5_ranksBefore l hfl D aT a5 a6 a7 a8 a9 fI fN fW fP nm nx idn pr tn hO i k (show i < nm by omega) hk) gV_X5_X5_ranksBefore_59 hV_X5_ranksBefore rfl ⟨Nat.le_of_ble_eq_true rfl, Nat.le_of_ble_eq_true rfl⟩ ⟨Nat.le_of_ble_eq_true rfl, Nat.le_of_ble_eq_true rfl⟩ [0, 1, 2, 3, 4] rfl (by decide) 0 8 rfl rfl rfl rfl (Nat.le_of_ble_eq_true rfl) dX5_rankOf_15) hW hA [0, 1, 2, 3, 4] [] rfl rfl (by decide) (by decide) (fun _ _ _ _ _ _ h9 => h9.elim) (fun r_15 W_15 H locs hq hW => ?_)
    obtain ⟨rfl, rfl⟩ := hq
    refine r_bI_eq hx hb (b := (mAc fW pr i k)) (tgt := 24) dX5_rankOf_18 (by decide) (fun c_18 => ?_) (fun c_18 => ?_)
    · have hl : lv_has ls 4 [(3, .int (nI i)), (2, .int (nI (rkN (mAc fW pr) k (i + 1)))), (1, .int (nI k)), (0, .ref a5)] := by
        rw [show nI (rkN (mAc fW pr) k (i + 1)) = nI (rkN (mAc fW pr) k i) from congrArg nI (by rw [rkN, if_neg (by rw [c_18]; decide), Nat.add_zero])]
        exact hl
      refine lv_iinc (v := (nI (i + 1))) (lv' := [(3, .int (nI (i + 1))), (2, .int (nI (rkN (mAc fW pr) k (i + 1)))), (1, .int (nI k)), (0, .ref a5)]) hx hb dX5_rankOf_24 hl (k := 0) rfl (nI_1 _) (by decide) rfl (fun ls hl => ?_)
      refine lv_goto (tgt := 4) hx hb dX5_rankOf_27 (by decide) ?_
      exact ih_4 (i + 1) _ _ _ (by first | omega | (dsimp only; omega)) ⟨_, rfl, lv_sub hl [0, 1, 2, 3] rfl, hW, (by omega)⟩
    · refine lv_iinc (v := (nI ((rkN (mAc fW pr) k i) + 1))) (lv' := [(2, .int (nI ((rkN (mAc fW pr) k i) + 1))), (3, .int (nI i)), (1, .int (nI k)), (0, .ref a5)]) hx hb dX5_rankOf_21 hl (k := 1) rfl (nI_1 _) (by decide) rfl (fun ls hl => ?_)
      have hl : lv_has ls 4 [(2, .int (nI (rkN (mAc fW pr) k (i + 1)))), (3, .int (nI i)), (1, .int (nI k)), (0, .ref a5)] := by
        rw [show nI (rkN (mAc fW pr) k (i + 1)) = nI ((rkN (mAc fW pr) k i) + 1) from congrArg nI (by rw [rkN, if_pos c_18])]
        exact hl
      refine lv_iinc (v := (nI (i + 1))) (lv' := [(3, .int (nI (i + 1))), (2, .int (nI (rkN (mAc fW pr) k (i + 1)))), (1, .int (nI k)), (0, .ref a5)]) hx hb dX5_rankOf_24 hl (k := 1) rfl (nI_1 _) (by decide) rfl (fun ls hl => ?_)
      refine lv_goto (tgt := 4) hx hb dX5_rankOf_27 (by decide) ?_
      exact ih_4 (i + 1) _ _ _ (by first | omega | (dsimp only; omega)) ⟨_, rfl, lv_sub hl [0, 1, 2, 3] rfl, hW, (by omega)⟩
theorem dX5_atRank_0 : decode cX5_atRank 0 = .ok (.iconst 0, 1) := by decide +kernel
theorem dX5_atRank_1 : decode cX5_atRank 1 = .ok (.istore_n 2, 1) := by decide +kernel
theorem dX5_atRank_2 : decode cX5_atRank 2 = .ok (.iconst 0, 1) := by decide +kernel
theorem dX5_atRank_3 : decode cX5_atRank 3 = .ok (.istore_n 3, 1) := by decide +kernel
theorem dX5_atRank_4 : decode cX5_atRank 4 = .ok (.iload_n 3, 1) := by decide +kernel
theorem dX5_atRank_5 : decode cX5_atRank 5 = .ok (.aload_n 0, 1) := by decide +kernel
theorem dX5_atRank_6 : decode cX5_atRank 6 = .ok (.getfield 24, 3) := by decide +kernel
theorem dX5_atRank_9 : decode cX5_atRank 9 = .ok (.if_icmp .ge 20, 3) := by decide +kernel
theorem dX5_atRank_12 : decode cX5_atRank 12 = .ok (.aload_n 0, 1) := by decide +kernel
theorem dX5_atRank_13 : decode cX5_atRank 13 = .ok (.iload_n 3, 1) := by decide +kernel
theorem dX5_atRank_14 : decode cX5_atRank 14 = .ok (.invokevirtual 56, 3) := by decide +kernel
theorem dX5_atRank_17 : decode cX5_atRank 17 = .ok (.iload_n 1, 1) := by decide +kernel
theorem dX5_atRank_18 : decode cX5_atRank 18 = .ok (.if_icmp .ne 5, 3) := by decide +kernel
theorem dX5_atRank_21 : decode cX5_atRank 21 = .ok (.iload_n 3, 1) := by decide +kernel
theorem dX5_atRank_22 : decode cX5_atRank 22 = .ok (.istore_n 2, 1) := by decide +kernel
theorem dX5_atRank_23 : decode cX5_atRank 23 = .ok (.iinc 3 1, 3) := by decide +kernel
theorem dX5_atRank_26 : decode cX5_atRank 26 = .ok (.goto (-22), 3) := by decide +kernel
theorem dX5_atRank_29 : decode cX5_atRank 29 = .ok (.iload_n 2, 1) := by decide +kernel
theorem dX5_atRank_30 : decode cX5_atRank 30 = .ok (.ireturn, 1) := by decide +kernel
theorem gV_X5_X5_rankOf_56 : GoodIn gw (wsV RX5 56 RX5 yX5_rankOf (Cond.code yX5_rankOf cX5_rankOf 4 (some .int) :: gw)) := gdV gw_974 gw_976 gw_9 gw_70 gw_977
theorem hV_X5_rankOf : yX5_rankOf.cls = RX5 ∧ yX5_rankOf.cls ≠ "java/lang/invoke/MethodHandle" ∧ yX5_rankOf.cls ≠ "java/lang/invoke/VarHandle" ∧ (parseMethodDescriptor yX5_rankOf.desc).map (fun d => d.parameters.length) = some 1 := ⟨rfl, by decide +kernel, by decide +kernel, by decide +kernel⟩
set_option maxHeartbeats 2000000 in
set_option maxRecDepth 20000 in
theorem k_X5_atRank (l : Launch) (hfl : l.stackTraces = false) (D : va_G) (aT : Nat → ClassId) (a5 : Nat) (a6 : Nat) (a7 : Nat) (a8 : Nat) (a9 : Nat) (fI : Nat → Int32) (fN : Nat → Int32) (fW : Nat → Int32) (fP : Nat → Int32) (nm : Nat) (nx : Int32) (idn : Nat → Nat) (pr : Nat → Option Nat) (tn : Nat → Nat) (hO : MoC fI fN fP nm idn pr tn) (x : Int32) : CxG l yX5_atRank cX5_atRank 4 (some (.int)) 3 0 0 70 D aT [.ref a5, .int x] [(a5, .inr (8, [.ref a6, .ref a7, .ref a8, .ref a9, .int (nI nm), .int nx])), (a6, .inl (aT 0, 12, .inl fI)), (a7, .inl (aT 0, 12, .inl fN)), (a8, .inl (aT 0, 12, .inl fW)), (a9, .inl (aT 0, 12, .inl fP))] (qI D aT (fun r W1 => r = nI (atR (mAc fW pr) nm x nm) ∧ W1 = ([(a5, .inr (8, [.ref a6, .ref a7, .ref a8, .ref a9, .int (nI nm), .int nx])), (a6, .inl (aT 0, 12, .inl fI)), (a7, .inl (aT 0, 12, .inl fN)), (a8, .inl (aT 0, 12, .inl fW)), (a9, .inl (aT 0, 12, .inl fP))] : va_W))) (fun _ _ => False) := by
  refine CxG.of RX5 (by decide +kernel) rfl (Nat.le_of_ble_eq_true rfl) ?_
  intro p e s m below meth c A ls C hml hl hA hr hlocks hex hnm hZ hW
  have hl : lv_has ls 4 [(0, .ref a5), (1, .int x)] := hl
  have hx := C.1
  have hb := C.2.1
  refine lv_iconst (v := nI 0) hx hb dX5_atRank_0 (by decide) ?_
  refine lv_istore_n (lv' := [(2, .int (nI 0)), (0, .ref a5), (1, .int x)]) hx hb dX5_atRank_1 rfl hl (by decide) rfl (fun ls hl => ?_)
  refine lv_iconst (v := nI 0) hx hb dX5_atRank_2 (by decide) ?_
  refine lv_istore_n (lv' := [(3, .int (nI 0)), (2, .int (nI 0)), (0, .ref a5), (1, .int x)]) hx hb dX5_atRank_3 rfl hl (by decide) rfl (fun ls hl => ?_)
  refine W_loopH (σ := Nat) (fun z_ => nm - z_) (fun z_ H locs g => ∃ ls, g = F0 m 4 ls [] ∧ lv_has ls 4 [(3, .int (nI z_)), (2, .int (nI (atR (mAc fW pr) nm x z_))), (1, .int x), (0, .ref a5)] ∧ CxB D [(a5, .inr (8, [.ref a6, .ref a7, .ref a8, .ref a9, .int (nI nm), .int nx])), (a6, .inl (aT 0, 12, .inl fI)), (a7, .inl (aT 0, 12, .inl fN)), (a8, .inl (aT 0, 12, .inl fW)), (a9, .inl (aT 0, 12, .inl fP))] A s.heap H locs ∧ z_ ≤ nm) ?_ 0 _ ⟨_, rfl, lv_sub hl [0, 1, 3, 2] rfl, hW, Nat.zero_le _⟩
  clear hW hl
  rintro i H locs g ⟨ls, rfl, hl, hW, hi⟩ ih_4
  refine lv_iload_n hx hb dX5_atRank_4 rfl (lv_at hl 0 rfl) ?_
  refine lv_aload_n hx hb dX5_atRank_5 rfl (lv_at hl 3 rfl) ?_
  refine cx_get C hW 0 4 rfl rfl (by decide) inX5 gw_161 rfl rfl dX5_atRank_6 ?_
  refine r_geN hx hb (a := i) (b := nm) (by have := hO.1; omega) (by have := hO.1; omega) (tgt := 29) dX5_atRank_9 (by decide) (fun c_9 => ?_) (fun c_9 => ?_)
  · refine lv_iload_n hx hb dX5_atRank_29 rfl (lv_at hl 1 rfl) ?_
    exact cx_iret C hr hlocks rfl hW ⟨Nat.le_of_ble_eq_true rfl, Nat.le_of_ble_eq_true rfl⟩ (⟨by rw [show i = nm by omega], rfl⟩) dX5_atRank_30
  · refine lv_aload_n hx hb dX5_atRank_12 rfl (lv_at hl 3 rfl) ?_
    refine lv_iload_n hx hb dX5_atRank_13 rfl (lv_at hl 0 rfl) ?_
    refine cx_calli (Wr := []) (cx_runV C hml hl.1 hZ hW hA (As := [.int (nI i)]) (rest := []) (k_X5_rankOf l hfl D aT a5 a6 a7 a8 a9 fI fN fW fP nm nx idn pr tn hO i (show i < nm by omega)) gV_X5_X5_rankOf_56 hV_X5_rankOf rfl ⟨Nat.le_of_ble_eq_true rfl, Nat.le_of_ble_eq_true rfl⟩ ⟨Nat.le_of_ble_eq_true rfl, Nat.le_of_ble_eq_true rfl⟩ [0, 1, 2, 3, 4] rfl (by decide) 0 8 rfl rfl rfl rfl (Nat.le_of_ble_eq_true rfl) dX5_atRank_14) hW hA [0, 1, 2, 3, 4] [] rfl rfl (by decide) (by decide) (fun _ _ _ _ _ _ h9 => h9.elim) (fun r_14 W_14 H locs hq hW => ?_)
    obtain ⟨rfl, rfl⟩ := hq
    refine lv_iload_n hx hb dX5_atRank_17 rfl (lv_at hl 2 rfl) ?_
    refine lv_icmp_ne hx hb (x := (nI (rkN (mAc fW pr) i nm))) (y := x) (tgt := 23) dX5_atRank_18 (by decide) (fun c_18 => ?_) (fun c_18 => ?_)
    · have hl : lv_has ls 4 [(3, .int (nI i)), (2, .int (nI (atR (mAc fW pr) nm x (i + 1)))), (1, .int x), (0, .ref a5)] := by
        rw [show nI (atR (mAc fW pr) nm x (i + 1)) = nI (atR (mAc fW pr) nm x i) from congrArg nI (by rw [atR, if_neg c_18])]
        exact hl
      refine lv_iinc (v := (nI (i + 1))) (lv' := [(3, .int (nI (i + 1))), (2, .int (nI (atR (mAc fW pr) nm x (i + 1)))), (1, .int x), (0, .ref a5)]) hx hb dX5_atRank_23 hl (k := 0) rfl (nI_1 _) (by decide) rfl (fun ls hl => ?_)
      refine lv_goto (tgt := 4) hx hb dX5_atRank_26 (by decide) ?_
      exact ih_4 (i + 1) _ _ _ (by first | omega | (dsimp only; omega)) ⟨_, rfl, lv_sub hl [0, 1, 2, 3] rfl, hW, (by omega)⟩
    · refine lv_iload_n hx hb dX5_atRank_21 rfl (lv_at hl 0 rfl) ?_
      refine lv_istore_n (lv' := [(2, .int (nI i)), (3, .int (nI i)), (1, .int x), (0, .ref a5)]) hx hb dX5_atRank_22 rfl hl (by decide) rfl (fun ls hl => ?_)
      have hl : lv_has ls 4 [(2, .int (nI (atR (mAc fW pr) nm x (i + 1)))), (3, .int (nI i)), (1, .int x), (0, .ref a5)] := by
        rw [show nI (atR (mAc fW pr) nm x (i + 1)) = nI (i) from congrArg nI (by rw [atR, if_pos (by first | exact c_18 | exact Decidable.not_not.mp c_18)])]
        exact hl
      refine lv_iinc (v := (nI (i + 1))) (lv' := [(3, .int (nI (i + 1))), (2, .int (nI (atR (mAc fW pr) nm x (i + 1)))), (1, .int x), (0, .ref a5)]) hx hb dX5_atRank_23 hl (k := 1) rfl (nI_1 _) (by decide) rfl (fun ls hl => ?_)
      refine lv_goto (tgt := 4) hx hb dX5_atRank_26 (by decide) ?_
      exact ih_4 (i + 1) _ _ _ (by first | omega | (dsimp only; omega)) ⟨_, rfl, lv_sub hl [0, 1, 2, 3] rfl, hW, (by omega)⟩
end
section
/-- a State's rows: 0 leaves, 1 thorns, 2 tastes, 3 ids, 4 tones, 5 weights, 6 parents, 7 minutes; 8 its numbers: 0 next id, 1 season, 2 votes, 3 carried, 4 begun, 5 pruned, 6 rejected, 7 vetoed, 8 adopted -/
def bkO (f0 f1 f2 f3 f4 f5 f6 f7 : Nat → Int32) (x0 x1 x2 x3 x4 x5 x6 x7 x8 : Int32) : Nat → Nat → Int32
  | 0 => f0
  | 1 => f1
  | 2 => f2
  | 3 => f3
  | 4 => f4
  | 5 => f5
  | 6 => f6
  | 7 => f7
  | _ => fun k => match k with
    | 0 => x0
    | 1 => x1
    | 2 => x2
    | 3 => x3
    | 4 => x4
    | 5 => x5
    | 6 => x6
    | 7 => x7
    | _ => x8
/-- the State that holds what the reference's row M holds -/
def BlC (b : Nat → Nat → Int32) (nh nm : Nat) (M : Nat → Int32) : Prop :=
  nh = hM M ∧ nm = nM M ∧ (∀ i, i < nh → b 0 i = M (11 + 3 * i) ∧ b 1 i = M (11 + 3 * i + 1) ∧ b 2 i = M (11 + 3 * i + 2)) ∧
  (∀ k, k < nm → b 3 k = M (29 + 4 * k) ∧ b 4 k = M (29 + 4 * k + 2) ∧ b 5 k = M (29 + 4 * k + 3) ∧ b 6 k = oi (prM M k)) ∧
  (∀ j, j < 4 → b 7 j = M (4 + j)) ∧ (b 8 0 = M 1 ∧ b 8 1 = M 3 ∧ b 8 2 = M 9 ∧ b 8 3 = M 10 ∧ b 8 8 = M 8) ∧ b 8 4 - b 8 5 - b 8 6 - b 8 7 - b 8 8 = smw M nm
theorem BlC.he {b : Nat → Nat → Int32} {nh nm B : Nat} {M : Nat → Int32} (h : BlC b nh nm M) (hC : CoW M B) : HeC (b 0) (b 1) (b 2) nh (lvM M) (thM M) (taM M) := by
  obtain ⟨h1, h2, h3, h4, h5, h6, h7⟩ := h
  obtain ⟨-, g1, g2, g3, g4⟩ := hC.2.1
  subst h1
  exact ⟨g1, fun i hi => by rw [(h3 i hi).1]; exact g2 i hi, fun i hi => by rw [(h3 i hi).2.1]; exact g3 i hi, fun i hi => by rw [(h3 i hi).2.2]; exact g4 i hi⟩
theorem BlC.mo {b : Nat → Nat → Int32} {nh nm B : Nat} {M : Nat → Int32} (h : BlC b nh nm M) (hC : CoW M B) : MoC (b 3) (b 4) (b 6) nm (idM M) (prM M) (tnM M) := by
  obtain ⟨h1, h2, h3, h4, h5, h6, h7⟩ := h
  obtain ⟨-, g1, g2, g3, g4, g5, g6⟩ := hC.1
  subst h2
  exact ⟨g1, fun i hi => by rw [(h4 i hi).1]; exact g2 i hi, fun i hi => (h4 i hi).2.2.2, g4, g5, fun i hi => by rw [(h4 i hi).2.1]; exact g6 i hi⟩
theorem BlC.fnd_eq {b : Nat → Nat → Int32} {nh nm : Nat} {M : Nat → Int32} (h : BlC b nh nm M) (x : Int32) : fnd (b 3) x nm = fnd (fun k => M (29 + 4 * k)) x nm := by
  have key : ∀ i, i ≤ nm → fnd (b 3) x i = fnd (fun k => M (29 + 4 * k)) x i := by
    intro i
    induction i with
    | zero => intro _; rfl
    | succ i ih =>
      intro hi
      show (match fnd (b 3) x i with | some k => some k | none => if b 3 i = x then some i else none) = (match fnd (fun k => M (29 + 4 * k)) x i with | some k => some k | none => if M (29 + 4 * i) = x then some i else none)
      rw [ih (by omega), (h.2.2.2.1 i (by omega)).1]
  exact key nm (Nat.le_refl _)
theorem smw_cong {m m' : Nat → Int32} : ∀ n, (∀ k, k < n → m' (29 + 4 * k + 3) = m (29 + 4 * k + 3)) → smw m' n = smw m n := by
  intro n
  induction n with
  | zero => intro _; rfl
  | succ n ih => intro h; show smw m' n + _ = smw m n + _; rw [ih (fun k hk => h k (by omega)), h n (by omega)]
theorem BlC.sm_eq {b : Nat → Nat → Int32} {nh nm : Nat} {M : Nat → Int32} (h : BlC b nh nm M) : smC (b 5) nm = smw M nm := by
  have key : ∀ i, i ≤ nm → smC (b 5) i = smw M i := by
    intro i
    induction i with
    | zero => intro _; rfl
    | succ i ih => intro hi; show smC (b 5) i + b 5 i = smw M i + _; rw [ih (by omega), (h.2.2.2.1 i (by omega)).2.2.1]
  exact key nm (Nat.le_refl _)
/-- rows that leave all but minutes, votes and the like -/
theorem i_sub1 (a b c d e w : Int32) : (a + w) - b - c - d - e = (a - b - c - d - e) + w := by
  simp only [Int32.sub_eq_add_neg]; ac_rfl
theorem i_sub2 (a b c d e w : Int32) : a - (b + w) - c - d - e = (a - b - c - d - e) - w := by
  simp only [Int32.sub_eq_add_neg, Int32.neg_add]; ac_rfl
theorem i_sub3 (a b c d e w : Int32) : a - b - (c + w) - d - e = (a - b - c - d - e) - w := by
  simp only [Int32.sub_eq_add_neg, Int32.neg_add]; ac_rfl
theorem i_sub4 (a b c d e w : Int32) : a - b - c - (d + w) - e = (a - b - c - d - e) - w := by
  simp only [Int32.sub_eq_add_neg, Int32.neg_add]; ac_rfl
theorem i_sub5 (a b c d e w : Int32) : a - b - c - d - (e + w) = (a - b - c - d - e) - w := by
  simp only [Int32.sub_eq_add_neg, Int32.neg_add]; ac_rfl
theorem hedgeF_o {m : Nat → Int32} {h j : Nat} {x y z : Int32} (h0 : j ≠ 0) (h1 : j < 11 + 3 * h ∨ 11 + 3 * h + 2 < j) : hedgeF m h x y z j = m j := by
  unfold hedgeF
  rw [if_neg h0, if_neg (by omega), if_neg (by omega), if_neg (by omega)]
theorem BlC.hedge {b : Nat → Nat → Int32} {nh nm B : Nat} {M : Nat → Int32} {x y z : Int32} (h : BlC b nh nm M) (hC : CoW M B) (h6 : nh < 6) : BlC (bkO (upd (b 0) nh x) (upd (b 1) nh y) (upd (b 2) nh z) (b 3) (b 4) (b 5) (b 6) (b 7) (b 8 0) (b 8 1) (b 8 2) (b 8 3) (b 8 4) (b 8 5) (b 8 6) (b 8 7) (b 8 8)) (nh + 1) nm (hedgeF M (hM M) x y z) := by
  obtain ⟨h1, h2, h3, h4, h5, h6', h7⟩ := h
  subst h1; subst h2
  have hF : FoR (hedgeF M (hM M) x y z) (nM M) (idM M) (prM M) (tnM M) := FoR.he hC.1 (fun j hj => hedgeF_o (by omega) (by omega))
  have hh : hM (hedgeF M (hM M) x y z) = hM M + 1 := by
    unfold hM hedgeF; rw [if_pos rfl]; exact nI_clamp (by unfold hM at h6; omega)
  have hn := hF.n_eq
  refine ⟨hh.symm, hn.symm, fun i hi => ?_, fun k hk => ?_, fun j hj => ?_, ?_, ?_⟩
  · show upd (b 0) (hM M) x i = _ ∧ upd (b 1) (hM M) y i = _ ∧ upd (b 2) (hM M) z i = _
    by_cases e : i = hM M
    · subst e
      rw [pk_us, pk_us, pk_us]
      unfold hedgeF
      rw [if_neg (by omega), if_neg (by omega), if_neg (by omega), if_pos rfl, if_neg (by omega), if_neg (by omega), if_pos rfl, if_neg (by omega), if_pos rfl]
      exact ⟨rfl, rfl, rfl⟩
    · rw [pk_un e, pk_un e, pk_un e, hedgeF_o (by omega) (by omega), hedgeF_o (by omega) (by omega), hedgeF_o (by omega) (by omega)]
      exact h3 i (by omega)
  · show b 3 k = _ ∧ b 4 k = _ ∧ b 5 k = _ ∧ b 6 k = _
    rw [hF.pr_eq hk, hedgeF_o (by omega) (by omega), hedgeF_o (by omega) (by omega), hedgeF_o (by omega) (by omega)]
    exact h4 k hk
  · show b 7 j = _
    rw [hedgeF_o (by omega) (by omega)]; exact h5 j hj
  · show b 8 0 = _ ∧ b 8 1 = _ ∧ b 8 2 = _ ∧ b 8 3 = _ ∧ b 8 8 = _
    rw [hedgeF_o (by omega) (by omega), hedgeF_o (by omega) (by omega), hedgeF_o (by omega) (by omega), hedgeF_o (by omega) (by omega), hedgeF_o (by omega) (by omega)]
    exact h6'
  · show b 8 4 - b 8 5 - b 8 6 - b 8 7 - b 8 8 = _
    rw [h7]
    exact (smw_cong _ (fun k hk => hedgeF_o (by omega) (by omega))).symm
theorem BlC.addm {b : Nat → Nat → Int32} {nh nm B t : Nat} {po : Option Nat} {M : Nat → Int32} {w : Int32} (h : BlC b nh nm M) (hC : CoW M B) (hB : B < 1048576) (h12 : nm < 12) (hpo : ∀ j, po = some j → j < nm) (ht : t ≤ 9) : BlC (bkO (b 0) (b 1) (b 2) (upd (b 3) nm (b 8 0)) (upd (b 4) nm (nI t)) (upd (b 5) nm w) (upd (b 6) nm (oi po)) (b 7) (b 8 0 + nI 1) (b 8 1) (b 8 2) (b 8 3) (b 8 4 + w) (b 8 5) (b 8 6) (b 8 7) (b 8 8)) nh (nm + 1) (addF M (nM M) (oi (po.map (idM M))) (nI t) w) := by
  obtain ⟨h1, h2, h3, h4, h5, h6', h7⟩ := h
  subst h1; subst h2
  obtain ⟨c1, c2, c3, nx, c4, c5, c6⟩ := hC
  have hF := FoR.add (n := nM M) c1 c5 c6 (by omega) h12 hpo ht w
  have hH : HeR (addF M (nM M) (oi (po.map (idM M))) (nI t) w) (hM M) (lvM M) (thM M) (taM M) := HeR.cong c2 (fun j hj => addF_o (by omega) (by omega) (by omega))
  have h12' := c2.2.1
  refine ⟨hH.eqs.1.symm, hF.n_eq.symm, fun i hi => ?_, fun k hk => ?_, fun j hj => ?_, ?_, ?_⟩
  · show b 0 i = _ ∧ b 1 i = _ ∧ b 2 i = _
    rw [addF_o (by omega) (by omega) (by omega), addF_o (by omega) (by omega) (by omega), addF_o (by omega) (by omega) (by omega)]
    exact h3 i hi
  · show upd (b 3) (nM M) (b 8 0) k = _ ∧ upd (b 4) (nM M) (nI t) k = _ ∧ upd (b 5) (nM M) w k = _ ∧ upd (b 6) (nM M) (oi po) k = _
    rw [hF.pr_eq hk]
    by_cases e : k = nM M
    · subst e
      rw [pk_us, pk_us, pk_us, pk_us, if_pos rfl, h6'.1]
      unfold addF
      rw [if_neg (by omega), if_neg (by omega), if_neg (by omega), if_neg (by omega), if_neg (by omega), if_pos rfl, if_neg (by omega), if_neg (by omega), if_neg (by omega), if_pos rfl, if_neg (by omega), if_neg (by omega), if_pos rfl]
      exact ⟨rfl, rfl, rfl, rfl⟩
    · rw [pk_un e, pk_un e, pk_un e, pk_un e, if_neg e, addF_o (by omega) (by omega) (by omega), addF_o (by omega) (by omega) (by omega), addF_o (by omega) (by omega) (by omega)]
      exact h4 k (by omega)
  · show b 7 j = _
    rw [addF_o (by omega) (by omega) (by omega)]; exact h5 j hj
  · show b 8 0 + nI 1 = _ ∧ b 8 1 = _ ∧ b 8 2 = _ ∧ b 8 3 = _ ∧ b 8 8 = _
    rw [addF_o (j := 3) (by omega) (by omega) (by omega), addF_o (j := 9) (by omega) (by omega) (by omega), addF_o (j := 10) (by omega) (by omega) (by omega), addF_o (j := 8) (by omega) (by omega) (by omega), h6'.1]
    exact ⟨by unfold addF; rw [if_pos rfl], h6'.2⟩
  · show (b 8 4 + w) - b 8 5 - b 8 6 - b 8 7 - b 8 8 = smw _ (nM M) + _
    rw [i_sub1, h7, smw_cong (m := M) (nM M) (fun k hk => addF_o (by omega) (by omega) (by omega))]
    congr 1
    unfold addF
    rw [if_neg (by omega), if_neg (by omega), if_pos rfl]
/-- the sum without one -/
theorem smw_drop {m : Nat → Int32} {k n : Nat} (hk : k < n) (hn : n ≤ 12) : smw (dropF m k n) (n - 1) = smw m n - m (29 + 4 * k + 3) := by
  have low : ∀ i, i ≤ k → smw (dropF m k n) i = smw m i := fun i hi => smw_cong i (fun j hj => dropF_lo (by omega) (by omega) (by omega))
  have key : ∀ i, k ≤ i → i + 1 ≤ n → smw (dropF m k n) i + m (29 + 4 * k + 3) = smw m (i + 1) := by
    intro i
    induction i with
    | zero =>
      intro h1 h2
      have : k = 0 := by omega
      subst this
      rfl
    | succ i ih =>
      intro h1 h2
      by_cases e : k = i + 1
      · subst e
        rw [low _ (Nat.le_refl _)]
        rfl
      · have h3 := ih (by omega) (by omega)
        show (smw (dropF m k n) i + dropF m k n (29 + 4 * i + 3)) + m (29 + 4 * k + 3) = smw m (i + 1) + m (29 + 4 * (i + 1) + 3)
        rw [← h3, dropF_hi (by omega) (by omega), show 29 + 4 * i + 3 + 4 = 29 + 4 * (i + 1) + 3 by omega]
        ac_rfl
  have h5 := key (n - 1) (by omega) (by omega)
  rw [show n - 1 + 1 = n by omega] at h5
  rw [← h5, Int32.add_sub_cancel]
theorem BlC.drp {b : Nat → Nat → Int32} {nh nm B k : Nat} {M : Nat → Int32} {x5 x6 x7 : Int32} (h : BlC b nh nm M) (hC : CoW M B) (hk : k < nm) (ht : ∀ j, j < nm → prM M j ≠ some k) (hx : b 8 4 - x5 - x6 - x7 - b 8 8 = smw M nm - b 5 k) : BlC (bkO (b 0) (b 1) (b 2) (rmF (b 3) k nm) (rmF (b 4) k nm) (rmF (b 5) k nm) (rmP (b 6) k nm) (b 7) (b 8 0) (b 8 1) (b 8 2) (b 8 3) (b 8 4) x5 x6 x7 (b 8 8)) nh (nm - 1) (dropF M k nm) := by
  have hO := h.mo hC
  obtain ⟨h1, h2, h3, h4, h5, h6', h7⟩ := h
  subst h1; subst h2
  obtain ⟨c1, c2, c3, c4⟩ := hC
  have h12 := c1.n12
  have h6h := c2.2.1
  have hF := FoR.drop c1 hk ht
  have hH : HeR (dropF M k (nM M)) (hM M) (lvM M) (thM M) (taM M) := HeR.cong c2 (fun j hj => dropF_low (by omega) (by omega))
  refine ⟨hH.eqs.1.symm, hF.n_eq.symm, fun i hi => ?_, fun j hj => ?_, fun j hj => ?_, ?_, ?_⟩
  · show b 0 i = _ ∧ b 1 i = _ ∧ b 2 i = _
    rw [dropF_low (by omega) (by omega), dropF_low (by omega) (by omega), dropF_low (by omega) (by omega)]
    exact h3 i hi
  · show rmF (b 3) k (nM M) j = _ ∧ rmF (b 4) k (nM M) j = _ ∧ rmF (b 5) k (nM M) j = _ ∧ rmP (b 6) k (nM M) j = _
    have hs := sk_lt (k := k) hj
    rw [hF.pr_eq hj, rmF_at hj, rmF_at hj, rmF_at hj, rmP_at hk h12 hO.2.2.1 hO.2.2.2.1 ht hj]
    have a0 := dropF_at (m := M) (k := k) (n := nM M) (j := j) (w := 0) (by omega) (by omega)
    have a2 := dropF_at (m := M) (k := k) (n := nM M) (j := j) (w := 2) (by omega) (by omega)
    have a3 := dropF_at (m := M) (k := k) (n := nM M) (j := j) (w := 3) (by omega) (by omega)
    rw [Nat.add_zero, Nat.add_zero] at a0
    rw [a0, a2, a3]
    exact ⟨(h4 _ hs).1, (h4 _ hs).2.1, (h4 _ hs).2.2.1, rfl⟩
  · show b 7 j = _
    rw [dropF_low (by omega) (by omega)]; exact h5 j hj
  · show b 8 0 = _ ∧ b 8 1 = _ ∧ b 8 2 = _ ∧ b 8 3 = _ ∧ b 8 8 = _
    rw [dropF_low (by omega) (by omega), dropF_low (by omega) (by omega), dropF_low (by omega) (by omega), dropF_low (by omega) (by omega), dropF_low (by omega) (by omega)]
    exact h6'
  · show b 8 4 - x5 - x6 - x7 - b 8 8 = _
    rw [hx, smw_drop hk h12, (h4 k hk).2.2.1]
theorem BlC.cut {b : Nat → Nat → Int32} {nh nm B k : Nat} {M : Nat → Int32} (h : BlC b nh nm M) (hC : CoW M B) (hk : k < nm) (ht : ∀ j, j < nm → prM M j ≠ some k) : BlC (bkO (b 0) (b 1) (b 2) (rmF (b 3) k nm) (rmF (b 4) k nm) (rmF (b 5) k nm) (rmP (b 6) k nm) (b 7) (b 8 0) (b 8 1) (b 8 2) (b 8 3) (b 8 4) (b 8 5 + b 5 k) (b 8 6) (b 8 7) (b 8 8)) nh (nm - 1) (dropF M k nm) :=
  h.drp hC hk ht (by rw [i_sub2, h.2.2.2.2.2.2])
/-- the same without the accounts -/
def BlQ (b : Nat → Nat → Int32) (nh nm : Nat) (M : Nat → Int32) : Prop :=
  nh = hM M ∧ nm = nM M ∧ (∀ i, i < nh → b 0 i = M (11 + 3 * i) ∧ b 1 i = M (11 + 3 * i + 1) ∧ b 2 i = M (11 + 3 * i + 2)) ∧
  (∀ k, k < nm → b 3 k = M (29 + 4 * k) ∧ b 4 k = M (29 + 4 * k + 2) ∧ b 5 k = M (29 + 4 * k + 3) ∧ b 6 k = oi (prM M k)) ∧
  (∀ j, j < 4 → b 7 j = M (4 + j)) ∧ (b 8 0 = M 1 ∧ b 8 1 = M 3 ∧ b 8 2 = M 9 ∧ b 8 3 = M 10 ∧ b 8 8 = M 8)
theorem BlC.q {b : Nat → Nat → Int32} {nh nm : Nat} {M : Nat → Int32} (h : BlC b nh nm M) : BlQ b nh nm M := ⟨h.1, h.2.1, h.2.2.1, h.2.2.2.1, h.2.2.2.2.1, h.2.2.2.2.2.1⟩
theorem BlC.acc {b : Nat → Nat → Int32} {nh nm : Nat} {M : Nat → Int32} (h : BlC b nh nm M) : b 8 4 - b 8 5 - b 8 6 - b 8 7 - b 8 8 = smw M nm := h.2.2.2.2.2.2
theorem BlQ.c {b : Nat → Nat → Int32} {nh nm : Nat} {M : Nat → Int32} (h : BlQ b nh nm M) (ha : b 8 4 - b 8 5 - b 8 6 - b 8 7 - b 8 8 = smw M nm) : BlC b nh nm M := ⟨h.1, h.2.1, h.2.2.1, h.2.2.2.1, h.2.2.2.2.1, h.2.2.2.2.2, ha⟩
theorem BlQ.drp {b b' : Nat → Nat → Int32} {nh nm k : Nat} {M : Nat → Int32} (h : BlQ b nh nm M) (hF : FoW M) (hH : HeW M) (hk : k < nm) (ht : ∀ j, j < nm → prM M j ≠ some k) (e0 : b' 0 = b 0) (e1 : b' 1 = b 1) (e2 : b' 2 = b 2) (e3 : b' 3 = rmF (b 3) k nm) (e4 : b' 4 = rmF (b 4) k nm) (e5 : b' 5 = rmF (b 5) k nm) (e6 : b' 6 = rmP (b 6) k nm) (e7 : b' 7 = b 7) (e8 : b' 8 0 = b 8 0 ∧ b' 8 1 = b 8 1 ∧ b' 8 2 = b 8 2 ∧ b' 8 3 = b 8 3 ∧ b' 8 8 = b 8 8) : BlQ b' nh (nm - 1) (dropF M k nm) := by
  obtain ⟨h1, h2, h3, h4, h5, h6'⟩ := h
  subst h1; subst h2
  have h12 := hF.n12
  have h6h := hH.2.1
  have hF2 := FoR.drop hF hk ht
  have hH2 : HeR (dropF M k (nM M)) (hM M) (lvM M) (thM M) (taM M) := HeR.cong hH (fun j hj => dropF_low (by omega) (by omega))
  refine ⟨hH2.eqs.1.symm, hF2.n_eq.symm, fun i hi => ?_, fun j hj => ?_, fun j hj => ?_, ?_⟩
  · rw [e0, e1, e2, dropF_low (by omega) (by omega), dropF_low (by omega) (by omega), dropF_low (by omega) (by omega)]
    exact h3 i hi
  · have hs := sk_lt (k := k) hj
    rw [e3, e4, e5, e6, hF2.pr_eq hj, rmF_at hj, rmF_at hj, rmF_at hj, rmP_at hk h12 (fun i hi => (h4 i hi).2.2.2) hF.ok ht hj]
    have a0 := dropF_at (m := M) (k := k) (n := nM M) (j := j) (w := 0) (by omega) (by omega)
    have a2 := dropF_at (m := M) (k := k) (n := nM M) (j := j) (w := 2) (by omega) (by omega)
    have a3 := dropF_at (m := M) (k := k) (n := nM M) (j := j) (w := 3) (by omega) (by omega)
    rw [Nat.add_zero, Nat.add_zero] at a0
    rw [a0, a2, a3]
    exact ⟨(h4 _ hs).1, (h4 _ hs).2.1, (h4 _ hs).2.2.1, rfl⟩
  · rw [e7, dropF_low (by omega) (by omega)]; exact h5 j hj
  · rw [e8.1, e8.2.1, e8.2.2.1, e8.2.2.2.1, e8.2.2.2.2, dropF_low (by omega) (by omega), dropF_low (by omega) (by omega), dropF_low (by omega) (by omega), dropF_low (by omega) (by omega), dropF_low (by omega) (by omega)]
    exact h6'
/-- the reference's thorns and its flag, as the class's -/
theorem vtF_row {t : Nat} {M : Nat → Int32} (H : HeW M) : ∀ i, i ≤ hM M → (∀ j, j < hM M → (vtF t M i).1 (11 + 3 * j + 1) = nI (thV (vvF (thM M) (taM M) t) (thM M) i j)) ∧ (vtF t M i).2 = anV (vvF (thM M) (taM M) t) i := by
  intro i
  induction i with
  | zero =>
    intro _
    refine ⟨fun j hj => ?_, rfl⟩
    rw [thV_0]
    exact (H.2.2.2.1 j hj).1
  | succ i ih =>
    intro hi
    obtain ⟨r1, r2⟩ := ih (by omega)
    obtain ⟨a1, a2, a3, a4, a5⟩ := vtF_ok (t := t) H i (by omega)
    have ht : thM (vtF t M i).1 i = thM M i := by
      unfold thM
      rw [r1 i (by omega), thV_i]
      exact nI_clamp (by have := (H.2.2.2.1 i (by omega)).2; unfold thM at this ⊢; omega)
    have hd : vetB (dif (taM (vtF t M i).1 i) t) (thM (vtF t M i).1 i) = vvF (thM M) (taM M) t i := by rw [ht, a5 i (by omega)]; rfl
    unfold vtF
    cases hv : vvF (thM M) (taM M) t i with
    | true =>
      rw [hd, hv, if_pos rfl]
      refine ⟨fun j hj => ?_, anV_1 hv⟩
      dsimp only
      rw [ht]
      by_cases e : j = i
      · subst e
        rw [pk_us]
        unfold thV
        rw [if_pos ⟨by omega, hv⟩]
      · rw [pk_un (by omega), r1 j hj]
        congr 1
        unfold thV
        by_cases q : j < i ∧ vvF (thM M) (taM M) t j = true
        · rw [if_pos q, if_pos ⟨by omega, q.2⟩]
        · rw [if_neg q, if_neg (fun z => q ⟨by omega, z.2⟩)]
    | false =>
      rw [hd, hv, if_neg (by decide)]
      refine ⟨fun j hj => ?_, by rw [r2]; exact anV_0 hv⟩
      rw [r1 j hj]
      congr 1
      unfold thV
      by_cases q : j < i ∧ vvF (thM M) (taM M) t j = true
      · rw [if_pos q, if_pos ⟨by omega, q.2⟩]
      · rw [if_neg q, if_neg (fun z => q ⟨by
          rcases Nat.lt_or_ge j i with w | w
          · exact w
          · have : j = i := by omega
            subst this; rw [hv] at z; exact absurd z.2 (by decide), z.2⟩)]
/-- behind the vote of the hedges, and its count -/
theorem BlQ.vt {b : Nat → Nat → Int32} {nh nm t : Nat} {M f : Nat → Int32} (h : BlQ b nh nm M) (hF : FoW M) (hH : HeW M) (hf : ∀ i, i < nh → f i = nI (thV (vvF (thM M) (taM M) t) (thM M) nh i)) {b' : Nat → Nat → Int32} (e : b' = bkO (b 0) f (b 2) (b 3) (b 4) (b 5) (b 6) (b 7) (b 8 0) (b 8 1) (b 8 2 + nI 1) (b 8 3) (b 8 4) (b 8 5) (b 8 6) (b 8 7) (b 8 8)) : BlQ b' nh nm (upd (vtF t M (hM M)).1 9 ((vtF t M (hM M)).1 9 + nI 1)) ∧ FoR (upd (vtF t M (hM M)).1 9 ((vtF t M (hM M)).1 9 + nI 1)) (nM M) (idM M) (prM M) (tnM M) ∧ HeW (upd (vtF t M (hM M)).1 9 ((vtF t M (hM M)).1 9 + nI 1)) := by
  obtain ⟨h1, h2, h3, h4, h5, h6⟩ := h
  subst h1; subst h2; subst e
  obtain ⟨a1, a2, a3, a4, a5⟩ := vtF_ok (t := t) hH (hM M) (Nat.le_refl _)
  have hr := (vtF_row (t := t) hH (hM M) (Nat.le_refl _)).1
  have h6h := hH.2.1
  have hF1 : FoR (vtF t M (hM M)).1 (nM M) (idM M) (prM M) (tnM M) := FoR.he hF (fun j hj => a3 j (by omega))
  have hF2 : FoR (upd (vtF t M (hM M)).1 9 ((vtF t M (hM M)).1 9 + nI 1)) (nM M) (idM M) (prM M) (tnM M) := hF1.he (fun j hj => pk_un (by omega))
  have hH2 : HeR (upd (vtF t M (hM M)).1 9 ((vtF t M (hM M)).1 9 + nI 1)) (hM (vtF t M (hM M)).1) (lvM (vtF t M (hM M)).1) (thM (vtF t M (hM M)).1) (taM (vtF t M (hM M)).1) := HeR.cong a1 (fun j hj => pk_un (by omega))
  refine ⟨⟨by rw [hH2.eqs.1, a2], hF2.n_eq.symm, fun i hi => ?_, fun k hk => ?_, fun j hj => ?_, ?_⟩, hF2, hH2.w⟩
  · show b 0 i = _ ∧ f i = _ ∧ b 2 i = _
    rw [pk_un (by omega), pk_un (by omega), pk_un (by omega), hr i hi, hf i hi]
    refine ⟨?_, rfl, ?_⟩
    · rw [(a1.2.2.1 i (by rw [a2]; exact hi)).1, a4 i hi, (h3 i hi).1]; exact (hH.2.2.1 i hi).1
    · rw [(a1.2.2.2.2 i (by rw [a2]; exact hi)).1, a5 i hi, (h3 i hi).2.2]; exact (hH.2.2.2.2 i hi).1
  · show b 3 k = _ ∧ b 4 k = _ ∧ b 5 k = _ ∧ b 6 k = _
    rw [hF2.pr_eq hk, pk_un (by omega), pk_un (by omega), pk_un (by omega), a3 _ (by omega), a3 _ (by omega), a3 _ (by omega)]
    exact h4 k hk
  · show b 7 j = _
    rw [pk_un (by omega), a3 _ (by omega)]; exact h5 j hj
  · show b 8 0 = _ ∧ b 8 1 = _ ∧ b 8 2 + nI 1 = _ ∧ b 8 3 = _ ∧ b 8 8 = _
    rw [pk_un (by omega), pk_un (by omega), pk_us, pk_un (by omega), pk_un (by omega), a3 _ (by omega), a3 _ (by omega), a3 _ (by omega), a3 _ (by omega), a3 _ (by omega)]
    exact ⟨h6.1, h6.2.1, by rw [h6.2.2.1], h6.2.2.2⟩
theorem seaF_row {s : Nat} {M : Nat → Int32} (H : HeW M) : ∀ i, i ≤ hM M → ∀ j, j < hM M → (seaF s M i) (11 + 3 * j) = nI (lvS s (lvM M) i j) ∧ (seaF s M i) (11 + 3 * j + 1) = nI (thS s (thM M) i j) ∧ (seaF s M i) (11 + 3 * j + 2) = M (11 + 3 * j + 2) := by
  intro i
  induction i with
  | zero =>
    intro _ j hj
    rw [lvS_0, thS_0]
    exact ⟨(H.2.2.1 j hj).1, (H.2.2.2.1 j hj).1, rfl⟩
  | succ i ih =>
    intro hi j hj
    obtain ⟨r1, r2, r3⟩ := ih (by omega) i (by omega)
    have hl : lvM (seaF s M i) i = lvM M i := by
      unfold lvM; rw [r1, lvS_i]; exact nI_clamp (by have := (H.2.2.1 i (by omega)).2.2; unfold lvM at this ⊢; omega)
    have ht : thM (seaF s M i) i = thM M i := by
      unfold thM; rw [r2, thS_i]; exact nI_clamp (by have := (H.2.2.2.1 i (by omega)).2; unfold thM at this ⊢; omega)
    show upd (upd (seaF s M i) (11 + 3 * i) (nI (leafN s (lvM (seaF s M i) i)))) (11 + 3 * i + 1) (nI (thM (seaF s M i) i + taddN s (thM (seaF s M i) i))) (11 + 3 * j) = _ ∧ upd (upd (seaF s M i) (11 + 3 * i) (nI (leafN s (lvM (seaF s M i) i)))) (11 + 3 * i + 1) (nI (thM (seaF s M i) i + taddN s (thM (seaF s M i) i))) (11 + 3 * j + 1) = _ ∧ upd (upd (seaF s M i) (11 + 3 * i) (nI (leafN s (lvM (seaF s M i) i)))) (11 + 3 * i + 1) (nI (thM (seaF s M i) i + taddN s (thM (seaF s M i) i))) (11 + 3 * j + 2) = _
    rw [hl, ht]
    obtain ⟨q1, q2, q3⟩ := ih (by omega) j hj
    by_cases e : j = i
    · subst e
      rw [pk_un (by omega), pk_us, pk_us, pk_un (by omega), pk_un (by omega)]
      unfold lvS thS
      rw [if_pos (by omega), if_pos (by omega)]
      exact ⟨rfl, rfl, q3⟩
    · rw [pk_un (by omega), pk_un (by omega), pk_un (by omega), pk_un (by omega), pk_un (by omega), pk_un (by omega), q1, q2]
      refine ⟨?_, ?_, q3⟩
      · congr 1; unfold lvS
        by_cases q : j < i
        · rw [if_pos q, if_pos (by omega)]
        · rw [if_neg q, if_neg (by omega)]
      · congr 1; unfold thS
        by_cases q : j < i
        · rw [if_pos q, if_pos (by omega)]
        · rw [if_neg q, if_neg (by omega)]
theorem BlC.sea {b : Nat → Nat → Int32} {nh nm B s : Nat} {M f q : Nat → Int32} (h : BlC b nh nm M) (hC : CoW M B) (hf : ∀ i, i < nh → f i = nI (lvS s (lvM M) nh i)) (hq : ∀ i, i < nh → q i = nI (thS s (thM M) nh i)) : BlC (bkO f q (b 2) (b 3) (b 4) (b 5) (b 6) (b 7) (b 8 0) (nI s) (b 8 2) (b 8 3) (b 8 4) (b 8 5) (b 8 6) (b 8 7) (b 8 8)) nh nm (seaF s (upd M 3 (nI s)) (hM M)) := by
  obtain ⟨h1, h2, h3, h4, h5, h6, h7⟩ := h
  subst h1; subst h2
  have h6h := hC.2.1.2.1
  have hH0 : HeR (upd M 3 (nI s)) (hM M) (lvM M) (thM M) (taM M) := HeR.cong hC.2.1 (fun j hj => pk_un (by omega))
  have e1 := hH0.eqs
  obtain ⟨a1, a2, a3⟩ := seaF_ok (s := s) hH0.w (hM M) (by rw [e1.1]; exact Nat.le_refl _)
  have hr := seaF_row (s := s) hH0.w (hM M) (by rw [e1.1]; exact Nat.le_refl _)
  have hF : FoR (seaF s (upd M 3 (nI s)) (hM M)) (nM M) (idM M) (prM M) (tnM M) := FoR.he hC.1 (fun j hj => by rw [a3 j (by omega), pk_un (by omega)])
  refine ⟨by rw [a2, e1.1], hF.n_eq.symm, fun i hi => ?_, fun k hk => ?_, fun j hj => ?_, ?_, ?_⟩
  · show f i = _ ∧ q i = _ ∧ b 2 i = _
    obtain ⟨r1, r2, r3⟩ := hr i (by rw [e1.1]; exact hi)
    rw [r1, r2, r3, hf i hi, hq i hi, pk_un (by omega)]
    refine ⟨?_, ?_, (h3 i hi).2.2⟩
    · congr 1; unfold lvS; rw [if_pos hi, if_pos hi, e1.2.1 i hi]
    · congr 1; unfold thS; rw [if_pos hi, if_pos hi, e1.2.2.1 i hi]
  · show b 3 k = _ ∧ b 4 k = _ ∧ b 5 k = _ ∧ b 6 k = _
    rw [hF.pr_eq hk, a3 _ (by omega), a3 _ (by omega), a3 _ (by omega), pk_un (by omega), pk_un (by omega), pk_un (by omega)]
    exact h4 k hk
  · show b 7 j = _
    rw [a3 _ (by omega), pk_un (by omega)]; exact h5 j hj
  · show b 8 0 = _ ∧ nI s = _ ∧ b 8 2 = _ ∧ b 8 3 = _ ∧ b 8 8 = _
    rw [a3 _ (by omega), a3 _ (by omega), a3 _ (by omega), a3 _ (by omega), a3 _ (by omega), pk_un (by omega), pk_us, pk_un (by omega), pk_un (by omega), pk_un (by omega)]
    exact ⟨h6.1, rfl, h6.2.2⟩
  · show b 8 4 - b 8 5 - b 8 6 - b 8 7 - b 8 8 = _
    rw [h7]
    exact (smw_cong _ (fun k hk => by rw [a3 _ (by omega), pk_un (by omega)])).symm
theorem carF_fh {M : Nat → Int32} {q : Nat} (hF : FoR M (nM M) (idM M) (prM M) (tnM M)) (hH : HeW M) (hs : snM M < 4) : FoR (carF M q) (nM M) (idM M) (prM M) (tnM M) ∧ HeR (carF M q) (hM M) (lvM M) (thM M) (taM M) :=
  ⟨hF.cong (fun j hj => carF_keep hs (by rcases hj with hj | hj; exact Or.inr (Or.inr (Or.inl hj)); exact Or.inr (Or.inr (Or.inr (Or.inr (Or.inr hj)))))), HeR.cong hH (fun j hj => carF_keep hs (by rcases hj with hj | hj; exact Or.inl hj; exact Or.inr (Or.inr (Or.inr (Or.inr (Or.inl hj))))))⟩
theorem BlQ.car0 {b b' : Nat → Nat → Int32} {nh nm q s : Nat} {M : Nat → Int32} (h : BlQ b nh nm M) (hF : FoW M) (hH : HeW M) (hs : M 3 = nI s) (hs4 : s < 4) (hq : q < nm) (hp : prM M q = none) (e : b' = bkO (b 0) (b 1) (b 2) (b 3) (b 4) (b 5) (b 6) (upd (b 7) s (b 7 s + nI 1)) (b 8 0) (b 8 1) (b 8 2) (b 8 3 + nI 1) (b 8 4) (b 8 5) (b 8 6) (b 8 7) (b 8 8 + b 5 q)) : BlQ b' nh nm (carF M q) ∧ FoR (carF M q) (nM M) (idM M) (prM M) (tnM M) ∧ HeW (carF M q) ∧ ∀ k, carF M q (29 + 4 * k + 3) = M (29 + 4 * k + 3) := by
  obtain ⟨h1, h2, h3, h4, h5, h6⟩ := h
  subst h1; subst h2; subst e
  have hsn : snM M = s := snM_eq hs hs4
  obtain ⟨f1, f2⟩ := carF_fh (q := q) hF hH (by rw [hsn]; exact hs4)
  have h12 := hF.n12
  have h6h := hH.2.1
  have o : ∀ j, j ≠ 8 → j ≠ 4 + s → j ≠ 10 → carF M q j = M j := fun j a1 a2 a3 => by
    unfold carF; rw [hp, hsn]; dsimp only; rw [pk_un a1, pk_un a2, pk_un a3]
  have o8 : carF M q 8 = M 8 + M (29 + 4 * q + 3) := by unfold carF; rw [hp]; dsimp only; rw [pk_us]
  have o4 : carF M q (4 + s) = M (4 + s) + nI 1 := by unfold carF; rw [hp, hsn]; dsimp only; rw [pk_un (by omega), pk_us]
  have o10 : carF M q 10 = M 10 + nI 1 := by unfold carF; rw [hp, hsn]; dsimp only; rw [pk_un (by omega), pk_un (by omega), pk_us]
  refine ⟨⟨f2.eqs.1.symm, f1.n_eq.symm, fun i hi => ?_, fun k hk => ?_, fun j hj => ?_, ?_⟩, f1, f2.w, fun k => o _ (by omega) (by omega) (by omega)⟩
  · show b 0 i = _ ∧ b 1 i = _ ∧ b 2 i = _
    rw [o _ (by omega) (by omega) (by omega), o _ (by omega) (by omega) (by omega), o _ (by omega) (by omega) (by omega)]
    exact h3 i hi
  · show b 3 k = _ ∧ b 4 k = _ ∧ b 5 k = _ ∧ b 6 k = _
    rw [f1.pr_eq hk, o _ (by omega) (by omega) (by omega), o _ (by omega) (by omega) (by omega), o _ (by omega) (by omega) (by omega)]
    exact h4 k hk
  · show upd (b 7) s (b 7 s + nI 1) j = _
    by_cases e : j = s
    · subst e; rw [pk_us, o4, h5 j hj]
    · rw [pk_un e, o _ (by omega) (by omega) (by omega)]; exact h5 j hj
  · show b 8 0 = _ ∧ b 8 1 = _ ∧ b 8 2 = _ ∧ b 8 3 + nI 1 = _ ∧ b 8 8 + b 5 q = _
    rw [o 1 (by omega) (by omega) (by omega), o 3 (by omega) (by omega) (by omega), o 9 (by omega) (by omega) (by omega), o10, o8, h6.2.2.2.1, h6.2.2.2.2, (h4 q hq).2.2.1]
    exact ⟨h6.1, h6.2.1, h6.2.2.1, rfl, rfl⟩
theorem smw_put {m m' : Nat → Int32} {p : Nat} {w : Int32} (ho : ∀ k, k ≠ p → m' (29 + 4 * k + 3) = m (29 + 4 * k + 3)) (hp : m' (29 + 4 * p + 3) = m (29 + 4 * p + 3) + w) : ∀ n, p < n → smw m' n = smw m n + w := by
  intro n
  induction n with
  | zero => intro h; omega
  | succ n ih =>
    intro h
    show smw m' n + m' (29 + 4 * n + 3) = (smw m n + m (29 + 4 * n + 3)) + w
    by_cases e : n = p
    · subst e
      rw [hp, smw_cong n (fun k hk => ho k (by omega))]
      ac_rfl
    · rw [ih (by omega), ho n e]
      ac_rfl
theorem BlQ.car1 {b b' : Nat → Nat → Int32} {nh nm q p s : Nat} {M : Nat → Int32} (h : BlQ b nh nm M) (hF : FoW M) (hH : HeW M) (hs : M 3 = nI s) (hs4 : s < 4) (hq : q < nm) (hp : prM M q = some p) (e : b' = bkO (b 0) (b 1) (b 2) (b 3) (b 4) (upd (b 5) p (b 5 p + b 5 q)) (b 6) (b 7) (b 8 0) (b 8 1) (b 8 2) (b 8 3 + nI 1) (b 8 4) (b 8 5) (b 8 6) (b 8 7) (b 8 8)) : BlQ b' nh nm (carF M q) ∧ FoR (carF M q) (nM M) (idM M) (prM M) (tnM M) ∧ HeW (carF M q) ∧ smw (carF M q) nm = smw M nm + b 5 q ∧ carF M q (29 + 4 * q + 3) = M (29 + 4 * q + 3) := by
  obtain ⟨h1, h2, h3, h4, h5, h6⟩ := h
  subst h1; subst h2; subst e
  have hsn : snM M = s := snM_eq hs hs4
  obtain ⟨f1, f2⟩ := carF_fh (q := q) hF hH (by rw [hsn]; exact hs4)
  have h12 := hF.n12
  have h6h := hH.2.1
  have hpq := hF.ok q p hq hp
  have o : ∀ j, j ≠ 29 + 4 * p + 3 → j ≠ 10 → carF M q j = M j := fun j a1 a3 => by
    unfold carF; rw [hp]; dsimp only; rw [pk_un a1, pk_un a3]
  have op : carF M q (29 + 4 * p + 3) = M (29 + 4 * p + 3) + M (29 + 4 * q + 3) := by unfold carF; rw [hp]; dsimp only; rw [pk_us]
  have o10 : carF M q 10 = M 10 + nI 1 := by unfold carF; rw [hp]; dsimp only; rw [pk_un (by omega), pk_us]
  have w5 := (h4 q hq).2.2.1
  refine ⟨⟨f2.eqs.1.symm, f1.n_eq.symm, fun i hi => ?_, fun k hk => ?_, fun j hj => ?_, ?_⟩, f1, f2.w, ?_, o _ (by omega) (by omega)⟩
  · show b 0 i = _ ∧ b 1 i = _ ∧ b 2 i = _
    rw [o _ (by omega) (by omega), o _ (by omega) (by omega), o _ (by omega) (by omega)]
    exact h3 i hi
  · show b 3 k = _ ∧ b 4 k = _ ∧ upd (b 5) p (b 5 p + b 5 q) k = _ ∧ b 6 k = _
    rw [f1.pr_eq hk, o (29 + 4 * k) (by omega) (by omega), o (29 + 4 * k + 2) (by omega) (by omega)]
    by_cases e : k = p
    · subst e
      rw [pk_us, op, w5, (h4 k hk).2.2.1]
      exact ⟨(h4 k hk).1, (h4 k hk).2.1, rfl, (h4 k hk).2.2.2⟩
    · rw [pk_un e, o (29 + 4 * k + 3) (by omega) (by omega)]
      exact h4 k hk
  · show b 7 j = _
    rw [o _ (by omega) (by omega)]; exact h5 j hj
  · show b 8 0 = _ ∧ b 8 1 = _ ∧ b 8 2 = _ ∧ b 8 3 + nI 1 = _ ∧ b 8 8 = _
    rw [o 1 (by omega) (by omega), o 3 (by omega) (by omega), o 9 (by omega) (by omega), o10, o 8 (by omega) (by omega), h6.2.2.2.1]
    exact ⟨h6.1, h6.2.1, h6.2.2.1, rfl, h6.2.2.2.2⟩
  · rw [smw_put (m := M) (p := p) (w := M (29 + 4 * q + 3)) (fun k hk => o _ (by omega) (by omega)) op _ (by omega), w5]
theorem carB_eq {t : Nat} {M : Nat → Int32} (H : HeW M) : carB (vtF t M (hM M)).1 t = decide (sml (lvM M) (hM M) < 2 * fav (lvM M) (taM M) t (hM M)) := by
  obtain ⟨a1, a2, a3, a4, a5⟩ := vtF_ok (t := t) H (hM M) (Nat.le_refl _)
  unfold carB
  rw [a2, sml_cong (fun k hk => a4 k hk), fav_cong (fun k hk => a4 k hk) (fun k hk => a5 k hk)]
theorem i_acc0 (a w : Int32) : a - w - w = a - w - w := rfl
section VOTE
variable {b : Nat → Nat → Int32} {nh nm B q s : Nat} {M f : Nat → Int32}
theorem BlC.vote (h : BlC b nh nm M) (hC : CoW M B) (hq : q < nm) (ht : tipB (prM M) q nm = true) (hf : ∀ i, i < nh → f i = nI (thV (vvF (thM M) (taM M) (tnM M q)) (thM M) nh i)) :
    (anV (vvF (thM M) (taM M) (tnM M q)) nh = true → votC M q = 118 ∧ BlC (bkO (b 0) f (b 2) (rmF (b 3) q nm) (rmF (b 4) q nm) (rmF (b 5) q nm) (rmP (b 6) q nm) (b 7) (b 8 0) (b 8 1) (b 8 2 + nI 1) (b 8 3) (b 8 4) (b 8 5) (b 8 6) (b 8 7 + b 5 q) (b 8 8)) nh (nm - 1) (votF M q)) ∧
    (anV (vvF (thM M) (taM M) (tnM M q)) nh = false → ¬ sml (lvM M) nh < 2 * fav (lvM M) (taM M) (tnM M q) nh → votC M q = 114 ∧ BlC (bkO (b 0) f (b 2) (rmF (b 3) q nm) (rmF (b 4) q nm) (rmF (b 5) q nm) (rmP (b 6) q nm) (b 7) (b 8 0) (b 8 1) (b 8 2 + nI 1) (b 8 3) (b 8 4) (b 8 5) (b 8 6 + b 5 q) (b 8 7) (b 8 8)) nh (nm - 1) (votF M q)) ∧
    (anV (vvF (thM M) (taM M) (tnM M q)) nh = false → sml (lvM M) nh < 2 * fav (lvM M) (taM M) (tnM M q) nh → prM M q = none → M 3 = nI s → s < 4 → votC M q = 99 ∧ BlC (bkO (b 0) f (b 2) (rmF (b 3) q nm) (rmF (b 4) q nm) (rmF (b 5) q nm) (rmP (b 6) q nm) (upd (b 7) s (b 7 s + nI 1)) (b 8 0) (b 8 1) (b 8 2 + nI 1) (b 8 3 + nI 1) (b 8 4) (b 8 5) (b 8 6) (b 8 7) (b 8 8 + b 5 q)) nh (nm - 1) (votF M q)) ∧
    (∀ p, anV (vvF (thM M) (taM M) (tnM M q)) nh = false → sml (lvM M) nh < 2 * fav (lvM M) (taM M) (tnM M q) nh → prM M q = some p → M 3 = nI s → s < 4 → votC M q = 99 ∧ BlC (bkO (b 0) f (b 2) (rmF (b 3) q nm) (rmF (b 4) q nm) (rmF (upd (b 5) p (b 5 p + b 5 q)) q nm) (rmP (b 6) q nm) (b 7) (b 8 0) (b 8 1) (b 8 2 + nI 1) (b 8 3 + nI 1) (b 8 4) (b 8 5) (b 8 6) (b 8 7) (b 8 8)) nh (nm - 1) (votF M q)) := by
  have hq0 := h.q
  have ha := h.acc
  have h1 := h.1
  have h2 := h.2.1
  have w5 := (h.2.2.2.1 q hq).2.2.1
  have h6h := hC.2.1.2.1
  have h12 := hC.1.n12
  subst h1; subst h2
  obtain ⟨v1, v2, v3⟩ := hq0.vt (t := tnM M q) hC.1 hC.2.1 hf rfl
  have va := (vtF_row (t := tnM M q) hC.2.1 (hM M) (Nat.le_refl _)).2
  have vo := (vtF_ok (t := tnM M q) hC.2.1 (hM M) (Nat.le_refl _)).2.2.1
  have e1 : ∀ j, 29 ≤ j → upd (vtF (tnM M q) M (hM M)).1 9 ((vtF (tnM M q) M (hM M)).1 9 + nI 1) j = M j := fun j hj => by rw [pk_un (by omega), vo j (by omega)]
  have e3 : upd (vtF (tnM M q) M (hM M)).1 9 ((vtF (tnM M q) M (hM M)).1 9 + nI 1) 3 = M 3 := by rw [pk_un (by omega), vo 3 (by omega)]
  have sm1 : smw (upd (vtF (tnM M q) M (hM M)).1 9 ((vtF (tnM M q) M (hM M)).1 9 + nI 1)) (nM M) = smw M (nM M) := smw_cong _ (fun k hk => e1 _ (by omega))
  have tp : ∀ j, j < nM M → prM (upd (vtF (tnM M q) M (hM M)).1 9 ((vtF (tnM M q) M (hM M)).1 9 + nI 1)) j ≠ some q := fun j hj => by rw [v2.pr_eq hj]; exact tipB_no ht j hj
  have hv2 : ∀ x, (vtF (tnM M q) M (hM M)).2 = x → ((vtF (tnM M q) M (hM M)).1, x) = vtF (tnM M q) M (hM M) := fun x hx => by rw [← hx]
  have hk2 : snM (upd (vtF (tnM M q) M (hM M)).1 9 ((vtF (tnM M q) M (hM M)).1 9 + nI 1)) = snM M := by unfold snM; rw [e3]
  refine ⟨fun g => ?_, fun g gc => ?_, fun g gc gp gs gs4 => ?_, fun p g gc gp gs gs4 => ?_⟩
  · obtain ⟨z1, z2⟩ := votF_v (hv2 true (va.trans g))
    refine ⟨z1, ?_⟩
    rw [z2]
    refine BlQ.c (BlQ.drp v1 v2.w v3 hq tp rfl rfl rfl rfl rfl rfl rfl rfl ⟨rfl, rfl, rfl, rfl, rfl⟩) ?_
    show b 8 4 - b 8 5 - b 8 6 - (b 8 7 + b 5 q) - b 8 8 = _
    rw [i_sub4, ha, smw_drop hq h12, sm1, e1 _ (by omega), w5]
  · obtain ⟨z1, z2⟩ := votF_r (hv2 false (va.trans g)) (by rw [carB_eq hC.2.1]; exact decide_eq_false gc)
    refine ⟨z1, ?_⟩
    rw [z2]
    refine BlQ.c (BlQ.drp v1 v2.w v3 hq tp rfl rfl rfl rfl rfl rfl rfl rfl ⟨rfl, rfl, rfl, rfl, rfl⟩) ?_
    show b 8 4 - b 8 5 - (b 8 6 + b 5 q) - b 8 7 - b 8 8 = _
    rw [i_sub3, ha, smw_drop hq h12, sm1, e1 _ (by omega), w5]
  · obtain ⟨z1, z2⟩ := votF_c (hv2 false (va.trans g)) (by rw [carB_eq hC.2.1]; exact decide_eq_true gc)
    refine ⟨z1, ?_⟩
    rw [z2]
    obtain ⟨c1, c2, c3, c4⟩ := v1.car0 v2.w v3 (by rw [e3]; exact gs) gs4 hq (by rw [v2.pr_eq hq]; exact gp) rfl
    rw [v2.n_eq] at c2
    have c2' : FoR (carF (upd (vtF (tnM M q) M (hM M)).1 9 ((vtF (tnM M q) M (hM M)).1 9 + nI 1)) q) (nM M) _ _ _ := c2
    refine BlQ.c (BlQ.drp c1 c2'.w c3 hq (fun j hj => by rw [c2'.pr_eq hj]; exact tp j hj) rfl rfl rfl rfl rfl rfl rfl rfl ⟨rfl, rfl, rfl, rfl, rfl⟩) ?_
    show b 8 4 - b 8 5 - b 8 6 - b 8 7 - (b 8 8 + b 5 q) = _
    rw [i_sub5, ha, smw_drop hq h12, c4, e1 _ (by omega), smw_cong _ (fun k hk => c4 k), sm1, w5]
  · obtain ⟨z1, z2⟩ := votF_c (hv2 false (va.trans g)) (by rw [carB_eq hC.2.1]; exact decide_eq_true gc)
    refine ⟨z1, ?_⟩
    rw [z2]
    obtain ⟨c1, c2, c3, c4, c5⟩ := v1.car1 v2.w v3 (by rw [e3]; exact gs) gs4 hq (by rw [v2.pr_eq hq]; exact gp) rfl
    rw [v2.n_eq] at c2
    have hpq := hC.1.ok q p hq gp
    have c2' : FoR (carF (upd (vtF (tnM M q) M (hM M)).1 9 ((vtF (tnM M q) M (hM M)).1 9 + nI 1)) q) (nM M) _ _ _ := c2
    refine BlQ.c (BlQ.drp c1 c2'.w c3 hq (fun j hj => by rw [c2'.pr_eq hj]; exact tp j hj) rfl rfl rfl rfl rfl rfl rfl rfl ⟨rfl, rfl, rfl, rfl, rfl⟩) ?_
    show b 8 4 - b 8 5 - b 8 6 - b 8 7 - b 8 8 = _
    rw [ha, smw_drop hq h12, c4, c5, e1 _ (by omega), sm1, ← w5]
    show _ = smw M (nM M) + b 5 q - b 5 q
    rw [Int32.add_sub_cancel]
end VOTE
/-- a pruning loop's row, still to come -/
theorem prn_end {r dp : Nat} {m : Nat → Int32} {c : Nat} : prnF r dp 0 m c = (m, c) := rfl
end
section
theorem rg_i {A B : Int64} {a b : Int32} (hA : A.toInt = a.toInt) (hB : B.toInt = b.toInt) (x : Int32) : rgB A B x = decide (a ≤ x ∧ x ≤ b) := by
  unfold rgB
  refine decide_eq_decide.mpr ?_
  rw [Int64.le_iff_toInt_le, Int64.le_iff_toInt_le, Int32.toInt_toInt64, hA, hB, Int32.le_iff_toInt_le, Int32.le_iff_toInt_le]
theorem rg_lo {A B : Int64} {a b : Int32} (hA : A.toInt = a.toInt) (hB : B.toInt = b.toInt) {x : Int32} (h : x < a) : rgB A B x = false := by
  rw [rg_i hA hB]
  exact decide_eq_false (fun q => absurd q.1 (Int32.not_le.mpr h))
theorem rg_hi {A B : Int64} {a b : Int32} (hA : A.toInt = a.toInt) (hB : B.toInt = b.toInt) {x : Int32} (h : b < x) : rgB A B x = false := by
  rw [rg_i hA hB]
  exact decide_eq_false (fun q => absurd q.2 (Int32.not_le.mpr h))
theorem rg_in {A B : Int64} {a b : Int32} (hA : A.toInt = a.toInt) (hB : B.toInt = b.toInt) {x : Int32} (h1 : ¬ x < a) (h2 : ¬ b < x) : rgB A B x = true := by
  rw [rg_i hA hB]
  exact decide_eq_true ⟨Int32.not_lt.mp h1, Int32.not_lt.mp h2⟩
theorem dg_lo {x : Int32} (h : x < 0) : rgB 0 9 x = false := rg_lo (a := 0) (b := 9) (by decide) (by decide) h
theorem dg_hi {x : Int32} (h : nI 9 < x) : rgB 0 9 x = false := rg_hi (a := 0) (b := nI 9) (by decide) (by decide) h
theorem dg_in {x : Int32} (h1 : ¬ x < 0) (h2 : ¬ nI 9 < x) : rgB 0 9 x = true := rg_in (a := 0) (b := nI 9) (by decide) (by decide) h1 h2
theorem pd_1 (a : Nat) : nI (a + 1) + -1 = nI a := by rw [pd_eq (by omega)]; rfl
theorem dX7_isDigit_0 : decode cX7_isDigit 0 = .ok (.iload_n 0, 1) := by decide +kernel
theorem dX7_isDigit_1 : decode cX7_isDigit 1 = .ok (.ifCond .lt 13, 3) := by decide +kernel
theorem dX7_isDigit_4 : decode cX7_isDigit 4 = .ok (.iload_n 0, 1) := by decide +kernel
theorem dX7_isDigit_5 : decode cX7_isDigit 5 = .ok (.bipush 9, 2) := by decide +kernel
theorem dX7_isDigit_7 : decode cX7_isDigit 7 = .ok (.if_icmp .gt 7, 3) := by decide +kernel
theorem dX7_isDigit_10 : decode cX7_isDigit 10 = .ok (.iconst 1, 1) := by decide +kernel
theorem dX7_isDigit_11 : decode cX7_isDigit 11 = .ok (.goto 4, 3) := by decide +kernel
theorem dX7_isDigit_14 : decode cX7_isDigit 14 = .ok (.iconst 0, 1) := by decide +kernel
theorem dX7_isDigit_15 : decode cX7_isDigit 15 = .ok (.ireturn, 1) := by decide +kernel
set_option maxHeartbeats 2000000 in
set_option maxRecDepth 20000 in
theorem k_X7_isDigit (l : Launch) (hfl : l.stackTraces = false) (D : va_G) (aT : Nat → ClassId) (x : Int32) : CxG l yX7_isDigit cX7_isDigit 1 (some (.boolean)) 0 0 0 0 D aT [.int x] [] (qI D aT (fun r W1 => r = bI (rgB 0 9 x) ∧ W1 = [])) (fun _ _ => False) := by
  refine CxG.of RX7 (by decide +kernel) rfl (Nat.le_of_ble_eq_true rfl) ?_
  intro p e s m below meth c A ls C hml hl hA hr hlocks hex hnm hZ hW
  have hl : lv_has ls 1 [(0, .int x)] := hl
  have hx := C.1
  have hb := C.2.1
  refine lv_iload_n hx hb dX7_isDigit_0 rfl (lv_at hl 0 rfl) ?_
  refine lv_if_lt hx hb (x := x) (tgt := 14) dX7_isDigit_1 (by decide) (fun c_1 => ?_) (fun c_1 => ?_)
  · refine lv_iconst (v := nI 0) hx hb dX7_isDigit_14 (by decide) ?_
    exact cx_iret C hr hlocks (by decide) hW ⟨Nat.le_of_ble_eq_true rfl, Nat.le_of_ble_eq_true rfl⟩ (⟨by rw [dg_lo c_1]; rfl, rfl⟩) dX7_isDigit_15
  · refine lv_iload_n hx hb dX7_isDigit_4 rfl (lv_at hl 0 rfl) ?_
    refine lv_bipush (v := nI 9) hx hb dX7_isDigit_5 (by decide) ?_
    refine lv_icmp_gt hx hb (x := x) (y := (nI 9)) (tgt := 14) dX7_isDigit_7 (by decide) (fun c_7 => ?_) (fun c_7 => ?_)
    · refine lv_iconst (v := nI 0) hx hb dX7_isDigit_14 (by decide) ?_
      exact cx_iret C hr hlocks (by decide) hW ⟨Nat.le_of_ble_eq_true rfl, Nat.le_of_ble_eq_true rfl⟩ (⟨by rw [dg_hi c_7]; rfl, rfl⟩) dX7_isDigit_15
    · refine lv_iconst (v := nI 1) hx hb dX7_isDigit_10 (by decide) ?_
      refine lv_goto (tgt := 15) hx hb dX7_isDigit_11 (by decide) ?_
      exact cx_iret C hr hlocks (by decide) hW ⟨Nat.le_of_ble_eq_true rfl, Nat.le_of_ble_eq_true rfl⟩ (⟨by rw [dg_in c_1 c_7]; rfl, rfl⟩) dX7_isDigit_15
theorem dX7_requireToneAndWeight_0 : decode cX7_requireToneAndWeight 0 = .ok (.iload_n 0, 1) := by decide +kernel
theorem dX7_requireToneAndWeight_1 : decode cX7_requireToneAndWeight 1 = .ok (.invokestatic 67, 3) := by decide +kernel
theorem dX7_requireToneAndWeight_4 : decode cX7_requireToneAndWeight 4 = .ok (.ifCond .eq 14, 3) := by decide +kernel
theorem dX7_requireToneAndWeight_7 : decode cX7_requireToneAndWeight 7 = .ok (.iload_n 1, 1) := by decide +kernel
theorem dX7_requireToneAndWeight_8 : decode cX7_requireToneAndWeight 8 = .ok (.iconst 1, 1) := by decide +kernel
theorem dX7_requireToneAndWeight_9 : decode cX7_requireToneAndWeight 9 = .ok (.if_icmp .lt 9, 3) := by decide +kernel
theorem dX7_requireToneAndWeight_12 : decode cX7_requireToneAndWeight 12 = .ok (.iload_n 1, 1) := by decide +kernel
theorem dX7_requireToneAndWeight_13 : decode cX7_requireToneAndWeight 13 = .ok (.bipush 20, 2) := by decide +kernel
theorem dX7_requireToneAndWeight_15 : decode cX7_requireToneAndWeight 15 = .ok (.if_icmp .le 13, 3) := by decide +kernel
theorem dX7_requireToneAndWeight_18 : decode cX7_requireToneAndWeight 18 = .ok (.new 71, 3) := by decide +kernel
theorem dX7_requireToneAndWeight_21 : decode cX7_requireToneAndWeight 21 = .ok (.dup, 1) := by decide +kernel
theorem dX7_requireToneAndWeight_22 : decode cX7_requireToneAndWeight 22 = .ok (.ldc 162, 2) := by decide +kernel
theorem dX7_requireToneAndWeight_24 : decode cX7_requireToneAndWeight 24 = .ok (.invokespecial 75, 3) := by decide +kernel
theorem dX7_requireToneAndWeight_27 : decode cX7_requireToneAndWeight 27 = .ok (.athrow, 1) := by decide +kernel
theorem dX7_requireToneAndWeight_28 : decode cX7_requireToneAndWeight 28 = .ok (.return_, 1) := by decide +kernel
theorem gS_X7_X7_isDigit_67 : GoodIn gw (va_wsS RX7 67 yX7_isDigit (Cond.code yX7_isDigit cX7_isDigit 1 (some .boolean) :: gw)) := gdS2 gw_556 gw_557 gw_68 gw_558
theorem hS_X7_isDigit : yX7_isDigit.cls ≠ "java/lang/invoke/MethodHandle" ∧ yX7_isDigit.cls ≠ "java/lang/invoke/VarHandle" ∧ (parseMethodDescriptor yX7_isDigit.desc).map (fun d => d.parameters.length) = some 1 := ⟨by decide +kernel, by decide +kernel, by decide +kernel⟩
set_option maxHeartbeats 2000000 in
set_option maxRecDepth 20000 in
theorem k_X7_requireToneAndWeight (l : Launch) (hfl : l.stackTraces = false) (D : va_G) (aT : Nat → ClassId) (x : Int32) (y : Int32) : CxG l yX7_requireToneAndWeight cX7_requireToneAndWeight 2 none 6 1 6 90 D aT [.int x, .int y] [] (qV D aT (fun W1 => (rgB 0 9 x && rgB 1 20 y) = true ∧ W1 = [])) (fun E W1 => (E = "java/lang/IllegalArgumentException" ∧ (rgB 0 9 x && rgB 1 20 y) = false) ∧ W1 = []) := by
  refine CxG.of RX7 (by decide +kernel) rfl (Nat.le_of_ble_eq_true rfl) ?_
  intro p e s m below meth c A ls C hml hl hA hr hlocks hex hnm hZ hW
  have hl : lv_has ls 2 [(0, .int x), (1, .int y)] := hl
  have hx := C.1
  have hb := C.2.1
  refine lv_iload_n hx hb dX7_requireToneAndWeight_0 rfl (lv_at hl 0 rfl) ?_
  refine cx_calli (Wr := []) (cx_runS C hml hl.1 hZ hW hA (As := [.int x]) (rest := []) (k_X7_isDigit l hfl D aT x) gS_X7_X7_isDigit_67 hS_X7_isDigit rfl ⟨Nat.le_of_ble_eq_true rfl, Nat.le_of_ble_eq_true rfl⟩ ⟨Nat.le_of_ble_eq_true rfl, Nat.le_of_ble_eq_true rfl⟩ [] rfl (by decide) rfl (Nat.le_of_ble_eq_true rfl) dX7_requireToneAndWeight_1) hW hA [] [] rfl rfl (by decide) (by decide) (fun _ _ _ _ _ _ h9 => h9.elim) (fun r_1 W_1 H locs hq hW => ?_)
  obtain ⟨rfl, rfl⟩ := hq
  refine r_bI_eq hx hb (b := (rgB 0 9 x)) (tgt := 18) dX7_requireToneAndWeight_4 (by decide) (fun c_4 => ?_) (fun c_4 => ?_)
  · exact cx_throw C hfl hex hml hl.1 hlocks hZ hW at_X7_IllegalArgumentException (List.mem_of_getElem? (i := 2) rfl) gw_559 gw_86 (by decide +kernel) dX7_requireToneAndWeight_18 dX7_requireToneAndWeight_21 dX7_requireToneAndWeight_22 dX7_requireToneAndWeight_24 dX7_requireToneAndWeight_27 ⟨Nat.le_of_ble_eq_true rfl, Nat.le_of_ble_eq_true rfl, Nat.le_of_ble_eq_true rfl, Nat.le_of_ble_eq_true rfl⟩ ⟨Nat.le_of_ble_eq_true rfl, Nat.le_of_ble_eq_true rfl⟩ (⟨⟨rfl, by rw [c_4]; rfl⟩, rfl⟩)
  · refine lv_iload_n hx hb dX7_requireToneAndWeight_7 rfl (lv_at hl 1 rfl) ?_
    refine lv_iconst (v := nI 1) hx hb dX7_requireToneAndWeight_8 (by decide) ?_
    refine lv_icmp_lt hx hb (x := y) (y := (nI 1)) (tgt := 18) dX7_requireToneAndWeight_9 (by decide) (fun c_9 => ?_) (fun c_9 => ?_)
    · exact cx_throw C hfl hex hml hl.1 hlocks hZ hW at_X7_IllegalArgumentException (List.mem_of_getElem? (i := 2) rfl) gw_559 gw_86 (by decide +kernel) dX7_requireToneAndWeight_18 dX7_requireToneAndWeight_21 dX7_requireToneAndWeight_22 dX7_requireToneAndWeight_24 dX7_requireToneAndWeight_27 ⟨Nat.le_of_ble_eq_true rfl, Nat.le_of_ble_eq_true rfl, Nat.le_of_ble_eq_true rfl, Nat.le_of_ble_eq_true rfl⟩ ⟨Nat.le_of_ble_eq_true rfl, Nat.le_of_ble_eq_true rfl⟩ (⟨⟨rfl, by rw [rg_lo (a := nI 1) (b := nI 20) (by decide) (by decide) c_9]; simp⟩, rfl⟩)
    · refine lv_iload_n hx hb dX7_requireToneAndWeight_12 rfl (lv_at hl 1 rfl) ?_
      refine lv_bipush (v := nI 20) hx hb dX7_requireToneAndWeight_13 (by decide) ?_
      refine lv_icmp_le hx hb (x := y) (y := (nI 20)) (tgt := 28) dX7_requireToneAndWeight_15 (by decide) (fun c_15 => ?_) (fun c_15 => ?_)
      · exact cx_vret C hr hlocks hW ⟨Nat.le_of_ble_eq_true rfl, Nat.le_of_ble_eq_true rfl⟩ (⟨by rw [c_4, rg_in (a := nI 1) (b := nI 20) (by decide) (by decide) c_9 (Int32.not_lt.mpr c_15)]; rfl, rfl⟩) dX7_requireToneAndWeight_28
      · exact cx_throw C hfl hex hml hl.1 hlocks hZ hW at_X7_IllegalArgumentException (List.mem_of_getElem? (i := 2) rfl) gw_559 gw_86 (by decide +kernel) dX7_requireToneAndWeight_18 dX7_requireToneAndWeight_21 dX7_requireToneAndWeight_22 dX7_requireToneAndWeight_24 dX7_requireToneAndWeight_27 ⟨Nat.le_of_ble_eq_true rfl, Nat.le_of_ble_eq_true rfl, Nat.le_of_ble_eq_true rfl, Nat.le_of_ble_eq_true rfl⟩ ⟨Nat.le_of_ble_eq_true rfl, Nat.le_of_ble_eq_true rfl⟩ (⟨⟨rfl, by rw [rg_hi (a := nI 1) (b := nI 20) (by decide) (by decide) (Int32.not_le.mp c_15)]; simp⟩, rfl⟩)
theorem dX7_newHedge_0 : decode cX7_newHedge 0 = .ok (.iload_n 1, 1) := by decide +kernel
theorem dX7_newHedge_1 : decode cX7_newHedge 1 = .ok (.iconst 1, 1) := by decide +kernel
theorem dX7_newHedge_2 : decode cX7_newHedge 2 = .ok (.if_icmp .lt 23, 3) := by decide +kernel
theorem dX7_newHedge_5 : decode cX7_newHedge 5 = .ok (.iload_n 1, 1) := by decide +kernel
theorem dX7_newHedge_6 : decode cX7_newHedge 6 = .ok (.bipush 99, 2) := by decide +kernel
theorem dX7_newHedge_8 : decode cX7_newHedge 8 = .ok (.if_icmp .gt 17, 3) := by decide +kernel
theorem dX7_newHedge_11 : decode cX7_newHedge 11 = .ok (.iload_n 2, 1) := by decide +kernel
theorem dX7_newHedge_12 : decode cX7_newHedge 12 = .ok (.invokestatic 67, 3) := by decide +kernel
theorem dX7_newHedge_15 : decode cX7_newHedge 15 = .ok (.ifCond .eq 10, 3) := by decide +kernel
theorem dX7_newHedge_18 : decode cX7_newHedge 18 = .ok (.iload_n 3, 1) := by decide +kernel
theorem dX7_newHedge_19 : decode cX7_newHedge 19 = .ok (.invokestatic 67, 3) := by decide +kernel
theorem dX7_newHedge_22 : decode cX7_newHedge 22 = .ok (.ifCond .ne 13, 3) := by decide +kernel
theorem dX7_newHedge_25 : decode cX7_newHedge 25 = .ok (.new 71, 3) := by decide +kernel
theorem dX7_newHedge_28 : decode cX7_newHedge 28 = .ok (.dup, 1) := by decide +kernel
theorem dX7_newHedge_29 : decode cX7_newHedge 29 = .ok (.ldc 73, 2) := by decide +kernel
theorem dX7_newHedge_31 : decode cX7_newHedge 31 = .ok (.invokespecial 75, 3) := by decide +kernel
theorem dX7_newHedge_34 : decode cX7_newHedge 34 = .ok (.athrow, 1) := by decide +kernel
theorem dX7_newHedge_35 : decode cX7_newHedge 35 = .ok (.aload_n 0, 1) := by decide +kernel
theorem dX7_newHedge_36 : decode cX7_newHedge 36 = .ok (.getfield 12, 3) := by decide +kernel
theorem dX7_newHedge_39 : decode cX7_newHedge 39 = .ok (.invokevirtual 78, 3) := by decide +kernel
theorem dX7_newHedge_42 : decode cX7_newHedge 42 = .ok (.ifCond .eq 13, 3) := by decide +kernel
theorem dX7_newHedge_45 : decode cX7_newHedge 45 = .ok (.new 82, 3) := by decide +kernel
theorem dX7_newHedge_48 : decode cX7_newHedge 48 = .ok (.dup, 1) := by decide +kernel
theorem dX7_newHedge_49 : decode cX7_newHedge 49 = .ok (.ldc 84, 2) := by decide +kernel
theorem dX7_newHedge_51 : decode cX7_newHedge 51 = .ok (.invokespecial 86, 3) := by decide +kernel
theorem dX7_newHedge_54 : decode cX7_newHedge 54 = .ok (.athrow, 1) := by decide +kernel
theorem dX7_newHedge_55 : decode cX7_newHedge 55 = .ok (.aload_n 0, 1) := by decide +kernel
theorem dX7_newHedge_56 : decode cX7_newHedge 56 = .ok (.getfield 12, 3) := by decide +kernel
theorem dX7_newHedge_59 : decode cX7_newHedge 59 = .ok (.iload_n 1, 1) := by decide +kernel
theorem dX7_newHedge_60 : decode cX7_newHedge 60 = .ok (.iload_n 2, 1) := by decide +kernel
theorem dX7_newHedge_61 : decode cX7_newHedge 61 = .ok (.iload_n 3, 1) := by decide +kernel
theorem dX7_newHedge_62 : decode cX7_newHedge 62 = .ok (.invokevirtual 87, 3) := by decide +kernel
theorem dX7_newHedge_65 : decode cX7_newHedge 65 = .ok (.ireturn, 1) := by decide +kernel
theorem gV_X7_X2_isFull_78 : GoodIn gw (wsV RX7 78 RX2 yX2_isFull (Cond.code yX2_isFull cX2_isFull 1 (some .boolean) :: gw)) := gdV gw_631 gw_632 gw_633 gw_69 gw_634
theorem hV_X2_isFull : yX2_isFull.cls = RX2 ∧ yX2_isFull.cls ≠ "java/lang/invoke/MethodHandle" ∧ yX2_isFull.cls ≠ "java/lang/invoke/VarHandle" ∧ (parseMethodDescriptor yX2_isFull.desc).map (fun d => d.parameters.length) = some 0 := ⟨rfl, by decide +kernel, by decide +kernel, by decide +kernel⟩
theorem gV_X7_X2_add_87 : GoodIn gw (wsV RX7 87 RX2 yX2_add (Cond.code yX2_add cX2_add 5 (some .int) :: gw)) := gdV gw_651 gw_652 gw_653 gw_69 gw_654
theorem hV_X2_add : yX2_add.cls = RX2 ∧ yX2_add.cls ≠ "java/lang/invoke/MethodHandle" ∧ yX2_add.cls ≠ "java/lang/invoke/VarHandle" ∧ (parseMethodDescriptor yX2_add.desc).map (fun d => d.parameters.length) = some 3 := ⟨rfl, by decide +kernel, by decide +kernel, by decide +kernel⟩
set_option maxHeartbeats 2000000 in
set_option maxRecDepth 20000 in
theorem k_X7_newHedge (l : Launch) (hfl : l.stackTraces = false) (D : va_G) (aT : Nat → ClassId) (a0 : Nat) (a1 : Nat) (a2 : Nat) (a3 : Nat) (a4 : Nat) (a5 : Nat) (a6 : Nat) (a7 : Nat) (a8 : Nat) (a9 : Nat) (a10 : Nat) (bb : Nat → Nat → Int32) (nh : Nat) (nm : Nat) (M : Nat → Int32) (Bd : Nat) (hBd : Bd < 1048000) (hC : CoW M Bd) (hB : BlC bb nh nm M) (x : Int32) (y : Int32) (z : Int32) : CxG l yX7_newHedge cX7_newHedge 4 (some (.int)) 6 1 6 90 D aT [.ref a0, .int x, .int y, .int z] [(a0, .inr (10, [.ref a1, .ref a5, .ref a10, .int (bb 8 1), .int (bb 8 2), .int (bb 8 3), .int (bb 8 4), .int (bb 8 5), .int (bb 8 6), .int (bb 8 7), .int (bb 8 8)])), (a1, .inr (6, [.ref a2, .ref a3, .ref a4, .int (nI nh)])), (a2, .inl (aT 0, 6, .inl (bb 0))), (a3, .inl (aT 0, 6, .inl (bb 1))), (a4, .inl (aT 0, 6, .inl (bb 2))), (a5, .inr (8, [.ref a6, .ref a7, .ref a8, .ref a9, .int (nI nm), .int (bb 8 0)])), (a6, .inl (aT 0, 12, .inl (bb 3))), (a7, .inl (aT 0, 12, .inl (bb 4))), (a8, .inl (aT 0, 12, .inl (bb 5))), (a9, .inl (aT 0, 12, .inl (bb 6))), (a10, .inl (aT 0, 4, .inl (bb 7)))] (qI D aT (fun r W1 => ∃ b2 : Nat → Nat → Int32, ((rgB 1 99 x && rgB 0 9 y && rgB 0 9 z) = true ∧ nh < 6 ∧ r = nI nh) ∧ BlC b2 (nh + 1) nm (hedgeF M (hM M) x y z) ∧ W1 = ([(a0, .inr (10, [.ref a1, .ref a5, .ref a10, .int (b2 8 1), .int (b2 8 2), .int (b2 8 3), .int (b2 8 4), .int (b2 8 5), .int (b2 8 6), .int (b2 8 7), .int (b2 8 8)])), (a1, .inr (6, [.ref a2, .ref a3, .ref a4, .int (nI (nh + 1))])), (a2, .inl (aT 0, 6, .inl (b2 0))), (a3, .inl (aT 0, 6, .inl (b2 1))), (a4, .inl (aT 0, 6, .inl (b2 2))), (a5, .inr (8, [.ref a6, .ref a7, .ref a8, .ref a9, .int (nI nm), .int (b2 8 0)])), (a6, .inl (aT 0, 12, .inl (b2 3))), (a7, .inl (aT 0, 12, .inl (b2 4))), (a8, .inl (aT 0, 12, .inl (b2 5))), (a9, .inl (aT 0, 12, .inl (b2 6))), (a10, .inl (aT 0, 4, .inl (b2 7)))] : va_W))) (fun E W1 => ((E = "java/lang/IllegalArgumentException" ∧ (rgB 1 99 x && rgB 0 9 y && rgB 0 9 z) = false) ∨ (E = "java/lang/IllegalStateException" ∧ (rgB 1 99 x && rgB 0 9 y && rgB 0 9 z) = true ∧ nh = 6)) ∧ W1 = ([(a0, .inr (10, [.ref a1, .ref a5, .ref a10, .int (bb 8 1), .int (bb 8 2), .int (bb 8 3), .int (bb 8 4), .int (bb 8 5), .int (bb 8 6), .int (bb 8 7), .int (bb 8 8)])), (a1, .inr (6, [.ref a2, .ref a3, .ref a4, .int (nI nh)])), (a2, .inl (aT 0, 6, .inl (bb 0))), (a3, .inl (aT 0, 6, .inl (bb 1))), (a4, .inl (aT 0, 6, .inl (bb 2))), (a5, .inr (8, [.ref a6, .ref a7, .ref a8, .ref a9, .int (nI nm), .int (bb 8 0)])), (a6, .inl (aT 0, 12, .inl (bb 3))), (a7, .inl (aT 0, 12, .inl (bb 4))), (a8, .inl (aT 0, 12, .inl (bb 5))), (a9, .inl (aT 0, 12, .inl (bb 6))), (a10, .inl (aT 0, 4, .inl (bb 7)))] : va_W)) := by
  have hH := hB.he hC
  have hO := hB.mo hC
  refine CxG.of RX7 (by decide +kernel) rfl (Nat.le_of_ble_eq_true rfl) ?_
  intro p e s m below meth c A ls C hml hl hA hr hlocks hex hnm hZ hW
  have hl : lv_has ls 4 [(0, .ref a0), (1, .int x), (2, .int y), (3, .int z)] := hl
  have hx := C.1
  have hb := C.2.1
  refine lv_iload_n hx hb dX7_newHedge_0 rfl (lv_at hl 1 rfl) ?_
  refine lv_iconst (v := nI 1) hx hb dX7_newHedge_1 (by decide) ?_
  refine lv_icmp_lt hx hb (x := x) (y := (nI 1)) (tgt := 25) dX7_newHedge_2 (by decide) (fun c_2 => ?_) (fun c_2 => ?_)
  · exact cx_throw C hfl hex hml hl.1 hlocks hZ hW at_X7_IllegalArgumentException (List.mem_of_getElem? (i := 0) rfl) gw_559 gw_86 (by decide +kernel) dX7_newHedge_25 dX7_newHedge_28 dX7_newHedge_29 dX7_newHedge_31 dX7_newHedge_34 ⟨Nat.le_of_ble_eq_true rfl, Nat.le_of_ble_eq_true rfl, Nat.le_of_ble_eq_true rfl, Nat.le_of_ble_eq_true rfl⟩ ⟨Nat.le_of_ble_eq_true rfl, Nat.le_of_ble_eq_true rfl⟩ (⟨Or.inl ⟨rfl, by rw [rg_lo (a := nI 1) (b := nI 99) (by decide) (by decide) c_2]; rfl⟩, rfl⟩)
  · refine lv_iload_n hx hb dX7_newHedge_5 rfl (lv_at hl 1 rfl) ?_
    refine lv_bipush (v := nI 99) hx hb dX7_newHedge_6 (by decide) ?_
    refine lv_icmp_gt hx hb (x := x) (y := (nI 99)) (tgt := 25) dX7_newHedge_8 (by decide) (fun c_8 => ?_) (fun c_8 => ?_)
    · exact cx_throw C hfl hex hml hl.1 hlocks hZ hW at_X7_IllegalArgumentException (List.mem_of_getElem? (i := 0) rfl) gw_559 gw_86 (by decide +kernel) dX7_newHedge_25 dX7_newHedge_28 dX7_newHedge_29 dX7_newHedge_31 dX7_newHedge_34 ⟨Nat.le_of_ble_eq_true rfl, Nat.le_of_ble_eq_true rfl, Nat.le_of_ble_eq_true rfl, Nat.le_of_ble_eq_true rfl⟩ ⟨Nat.le_of_ble_eq_true rfl, Nat.le_of_ble_eq_true rfl⟩ (⟨Or.inl ⟨rfl, by rw [rg_hi (a := nI 1) (b := nI 99) (by decide) (by decide) c_8]; rfl⟩, rfl⟩)
    · refine lv_iload_n hx hb dX7_newHedge_11 rfl (lv_at hl 2 rfl) ?_
      refine cx_calli (Wr := [(a0, .inr (10, [.ref a1, .ref a5, .ref a10, .int (bb 8 1), .int (bb 8 2), .int (bb 8 3), .int (bb 8 4), .int (bb 8 5), .int (bb 8 6), .int (bb 8 7), .int (bb 8 8)])), (a1, .inr (6, [.ref a2, .ref a3, .ref a4, .int (nI nh)])), (a2, .inl (aT 0, 6, .inl (bb 0))), (a3, .inl (aT 0, 6, .inl (bb 1))), (a4, .inl (aT 0, 6, .inl (bb 2))), (a5, .inr (8, [.ref a6, .ref a7, .ref a8, .ref a9, .int (nI nm), .int (bb 8 0)])), (a6, .inl (aT 0, 12, .inl (bb 3))), (a7, .inl (aT 0, 12, .inl (bb 4))), (a8, .inl (aT 0, 12, .inl (bb 5))), (a9, .inl (aT 0, 12, .inl (bb 6))), (a10, .inl (aT 0, 4, .inl (bb 7)))]) (cx_runS C hml hl.1 hZ hW hA (As := [.int y]) (rest := []) (k_X7_isDigit l hfl D aT y) gS_X7_X7_isDigit_67 hS_X7_isDigit rfl ⟨Nat.le_of_ble_eq_true rfl, Nat.le_of_ble_eq_true rfl⟩ ⟨Nat.le_of_ble_eq_true rfl, Nat.le_of_ble_eq_true rfl⟩ [] rfl (by decide) rfl (Nat.le_of_ble_eq_true rfl) dX7_newHedge_12) hW hA [] [0, 1, 2, 3, 4, 5, 6, 7, 8, 9, 10] rfl rfl (by decide) (by decide) (fun _ _ _ _ _ _ h9 => h9.elim) (fun r_12 W_12 H locs hq hW => ?_)
      obtain ⟨rfl, rfl⟩ := hq
      refine r_bI_eq hx hb (b := (rgB 0 9 y)) (tgt := 25) dX7_newHedge_15 (by decide) (fun c_15 => ?_) (fun c_15 => ?_)
      · exact cx_throw C hfl hex hml hl.1 hlocks hZ hW at_X7_IllegalArgumentException (List.mem_of_getElem? (i := 0) rfl) gw_559 gw_86 (by decide +kernel) dX7_newHedge_25 dX7_newHedge_28 dX7_newHedge_29 dX7_newHedge_31 dX7_newHedge_34 ⟨Nat.le_of_ble_eq_true rfl, Nat.le_of_ble_eq_true rfl, Nat.le_of_ble_eq_true rfl, Nat.le_of_ble_eq_true rfl⟩ ⟨Nat.le_of_ble_eq_true rfl, Nat.le_of_ble_eq_true rfl⟩ (⟨Or.inl ⟨rfl, by rw [c_15]; simp⟩, rfl⟩)
      · refine lv_iload_n hx hb dX7_newHedge_18 rfl (lv_at hl 3 rfl) ?_
        refine cx_calli (Wr := [(a0, .inr (10, [.ref a1, .ref a5, .ref a10, .int (bb 8 1), .int (bb 8 2), .int (bb 8 3), .int (bb 8 4), .int (bb 8 5), .int (bb 8 6), .int (bb 8 7), .int (bb 8 8)])), (a1, .inr (6, [.ref a2, .ref a3, .ref a4, .int (nI nh)])), (a2, .inl (aT 0, 6, .inl (bb 0))), (a3, .inl (aT 0, 6, .inl (bb 1))), (a4, .inl (aT 0, 6, .inl (bb 2))), (a5, .inr (8, [.ref a6, .ref a7, .ref a8, .ref a9, .int (nI nm), .int (bb 8 0)])), (a6, .inl (aT 0, 12, .inl (bb 3))), (a7, .inl (aT 0, 12, .inl (bb 4))), (a8, .inl (aT 0, 12, .inl (bb 5))), (a9, .inl (aT 0, 12, .inl (bb 6))), (a10, .inl (aT 0, 4, .inl (bb 7)))]) (cx_runS C hml hl.1 hZ hW hA (As := [.int z]) (rest := []) (k_X7_isDigit l hfl D aT z) gS_X7_X7_isDigit_67 hS_X7_isDigit rfl ⟨Nat.le_of_ble_eq_true rfl, Nat.le_of_ble_eq_true rfl⟩ ⟨Nat.le_of_ble_eq_true rfl, Nat.le_of_ble_eq_true rfl⟩ [] rfl (by decide) rfl (Nat.le_of_ble_eq_true rfl) dX7_newHedge_19) hW hA [] [0, 1, 2, 3, 4, 5, 6, 7, 8, 9, 10] rfl rfl (by decide) (by decide) (fun _ _ _ _ _ _ h9 => h9.elim) (fun r_19 W_19 H locs hq hW => ?_)
        obtain ⟨rfl, rfl⟩ := hq
        refine r_bI_ne hx hb (b := (rgB 0 9 z)) (tgt := 35) dX7_newHedge_22 (by decide) (fun c_22 => ?_) (fun c_22 => ?_)
        · refine lv_aload_n hx hb dX7_newHedge_35 rfl (lv_at hl 0 rfl) ?_
          refine cx_get C hW 0 0 rfl rfl (by decide) inX7 gw_179 rfl rfl dX7_newHedge_36 ?_
          refine cx_calli (Wr := [(a0, .inr (10, [.ref a1, .ref a5, .ref a10, .int (bb 8 1), .int (bb 8 2), .int (bb 8 3), .int (bb 8 4), .int (bb 8 5), .int (bb 8 6), .int (bb 8 7), .int (bb 8 8)])), (a5, .inr (8, [.ref a6, .ref a7, .ref a8, .ref a9, .int (nI nm), .int (bb 8 0)])), (a6, .inl (aT 0, 12, .inl (bb 3))), (a7, .inl (aT 0, 12, .inl (bb 4))), (a8, .inl (aT 0, 12, .inl (bb 5))), (a9, .inl (aT 0, 12, .inl (bb 6))), (a10, .inl (aT 0, 4, .inl (bb 7)))]) (cx_runV C hml hl.1 hZ hW hA (As := []) (rest := []) (k_X2_isFull l hfl D aT a1 a2 a3 a4 (bb 0) (bb 1) (bb 2) nh (lvM M) (thM M) (taM M) hH) gV_X7_X2_isFull_78 hV_X2_isFull rfl ⟨Nat.le_of_ble_eq_true rfl, Nat.le_of_ble_eq_true rfl⟩ ⟨Nat.le_of_ble_eq_true rfl, Nat.le_of_ble_eq_true rfl⟩ [1, 2, 3, 4] rfl (by decide) 1 6 rfl rfl rfl rfl (Nat.le_of_ble_eq_true rfl) dX7_newHedge_39) hW hA [1, 2, 3, 4] [0, 5, 6, 7, 8, 9, 10] rfl rfl (by decide) (by decide) (fun _ _ _ _ _ _ h9 => h9.elim) (fun r_39 W_39 H locs hq hW => ?_)
          obtain ⟨rfl, rfl⟩ := hq
          refine r_bI_eq hx hb (b := (decide (6 ≤ nh))) (tgt := 55) dX7_newHedge_42 (by decide) (fun c_42 => ?_) (fun c_42 => ?_)
          · refine lv_aload_n hx hb dX7_newHedge_55 rfl (lv_at hl 0 rfl) ?_
            refine cx_get C hW 0 0 rfl rfl (by decide) inX7 gw_179 rfl rfl dX7_newHedge_56 ?_
            refine lv_iload_n hx hb dX7_newHedge_59 rfl (lv_at hl 1 rfl) ?_
            refine lv_iload_n hx hb dX7_newHedge_60 rfl (lv_at hl 2 rfl) ?_
            refine lv_iload_n hx hb dX7_newHedge_61 rfl (lv_at hl 3 rfl) ?_
            refine cx_calli (Wr := [(a0, .inr (10, [.ref a1, .ref a5, .ref a10, .int (bb 8 1), .int (bb 8 2), .int (bb 8 3), .int (bb 8 4), .int (bb 8 5), .int (bb 8 6), .int (bb 8 7), .int (bb 8 8)])), (a5, .inr (8, [.ref a6, .ref a7, .ref a8, .ref a9, .int (nI nm), .int (bb 8 0)])), (a6, .inl (aT 0, 12, .inl (bb 3))), (a7, .inl (aT 0, 12, .inl (bb 4))), (a8, .inl (aT 0, 12, .inl (bb 5))), (a9, .inl (aT 0, 12, .inl (bb 6))), (a10, .inl (aT 0, 4, .inl (bb 7)))]) (cx_runV C hml hl.1 hZ hW hA (As := [.int x, .int y, .int z]) (rest := []) (k_X2_add l hfl D aT a1 a2 a3 a4 (bb 0) (bb 1) (bb 2) nh (lvM M) (thM M) (taM M) hH x y z (by have := of_decide_eq_false c_42; omega)) gV_X7_X2_add_87 hV_X2_add rfl ⟨Nat.le_of_ble_eq_true rfl, Nat.le_of_ble_eq_true rfl⟩ ⟨Nat.le_of_ble_eq_true rfl, Nat.le_of_ble_eq_true rfl⟩ [7, 8, 9, 10] rfl (by decide) 7 6 rfl rfl rfl rfl (Nat.le_of_ble_eq_true rfl) dX7_newHedge_62) hW hA [7, 8, 9, 10] [0, 1, 2, 3, 4, 5, 6] rfl rfl (by decide) (by decide) (fun _ _ _ _ _ _ h9 => h9.elim) (fun r_62 W_62 H locs hq hW => ?_)
            obtain ⟨rfl, rfl⟩ := hq
            have hW : CxB D [(a0, .inr (10, [.ref a1, .ref a5, .ref a10, .int (bb 8 1), .int (bb 8 2), .int (bb 8 3), .int (bb 8 4), .int (bb 8 5), .int (bb 8 6), .int (bb 8 7), .int (bb 8 8)])), (a1, .inr (6, [.ref a2, .ref a3, .ref a4, .int (nI (nh + 1))])), (a2, .inl (aT 0, 6, .inl (upd (bb 0) nh (x)))), (a3, .inl (aT 0, 6, .inl (upd (bb 1) nh (y)))), (a4, .inl (aT 0, 6, .inl (upd (bb 2) nh (z)))), (a5, .inr (8, [.ref a6, .ref a7, .ref a8, .ref a9, .int (nI nm), .int (bb 8 0)])), (a6, .inl (aT 0, 12, .inl (bb 3))), (a7, .inl (aT 0, 12, .inl (bb 4))), (a8, .inl (aT 0, 12, .inl (bb 5))), (a9, .inl (aT 0, 12, .inl (bb 6))), (a10, .inl (aT 0, 4, .inl (bb 7)))] A s.heap H _ := cx_drop hW [0, 7, 8, 9, 10, 1, 2, 3, 4, 5, 6] rfl (by decide)
            exact cx_iret C hr hlocks rfl hW ⟨Nat.le_of_ble_eq_true rfl, Nat.le_of_ble_eq_true rfl⟩ (⟨_, ⟨(by rw [rg_in (a := nI 1) (b := nI 99) (by decide) (by decide) c_2 c_8, c_15, c_22]; rfl), by have := of_decide_eq_false c_42; omega, rfl⟩, hB.hedge hC (by have := of_decide_eq_false c_42; omega), rfl⟩) dX7_newHedge_65
          · have hW : CxB D [(a0, .inr (10, [.ref a1, .ref a5, .ref a10, .int (bb 8 1), .int (bb 8 2), .int (bb 8 3), .int (bb 8 4), .int (bb 8 5), .int (bb 8 6), .int (bb 8 7), .int (bb 8 8)])), (a1, .inr (6, [.ref a2, .ref a3, .ref a4, .int (nI nh)])), (a2, .inl (aT 0, 6, .inl (bb 0))), (a3, .inl (aT 0, 6, .inl (bb 1))), (a4, .inl (aT 0, 6, .inl (bb 2))), (a5, .inr (8, [.ref a6, .ref a7, .ref a8, .ref a9, .int (nI nm), .int (bb 8 0)])), (a6, .inl (aT 0, 12, .inl (bb 3))), (a7, .inl (aT 0, 12, .inl (bb 4))), (a8, .inl (aT 0, 12, .inl (bb 5))), (a9, .inl (aT 0, 12, .inl (bb 6))), (a10, .inl (aT 0, 4, .inl (bb 7)))] A s.heap H _ := cx_drop hW [0, 7, 8, 9, 10, 1, 2, 3, 4, 5, 6] rfl (by decide)
            exact cx_throw C hfl hex hml hl.1 hlocks hZ hW at_X7_IllegalStateException (List.mem_of_getElem? (i := 1) rfl) gw_635 gw_87 (by decide +kernel) dX7_newHedge_45 dX7_newHedge_48 dX7_newHedge_49 dX7_newHedge_51 dX7_newHedge_54 ⟨Nat.le_of_ble_eq_true rfl, Nat.le_of_ble_eq_true rfl, Nat.le_of_ble_eq_true rfl, Nat.le_of_ble_eq_true rfl⟩ ⟨Nat.le_of_ble_eq_true rfl, Nat.le_of_ble_eq_true rfl⟩ (⟨Or.inr ⟨rfl, (by rw [rg_in (a := nI 1) (b := nI 99) (by decide) (by decide) c_2 c_8, c_15, c_22]; rfl), by have h5 := of_decide_eq_true c_42; have h4 := hH.1; omega⟩, rfl⟩)
        · exact cx_throw C hfl hex hml hl.1 hlocks hZ hW at_X7_IllegalArgumentException (List.mem_of_getElem? (i := 0) rfl) gw_559 gw_86 (by decide +kernel) dX7_newHedge_25 dX7_newHedge_28 dX7_newHedge_29 dX7_newHedge_31 dX7_newHedge_34 ⟨Nat.le_of_ble_eq_true rfl, Nat.le_of_ble_eq_true rfl, Nat.le_of_ble_eq_true rfl, Nat.le_of_ble_eq_true rfl⟩ ⟨Nat.le_of_ble_eq_true rfl, Nat.le_of_ble_eq_true rfl⟩ (⟨Or.inl ⟨rfl, by rw [c_22]; simp⟩, rfl⟩)
theorem dX7_requireRoom_0 : decode cX7_requireRoom 0 = .ok (.aload_n 0, 1) := by decide +kernel
theorem dX7_requireRoom_1 : decode cX7_requireRoom 1 = .ok (.getfield 21, 3) := by decide +kernel
theorem dX7_requireRoom_4 : decode cX7_requireRoom 4 = .ok (.invokevirtual 159, 3) := by decide +kernel
theorem dX7_requireRoom_7 : decode cX7_requireRoom 7 = .ok (.ifCond .eq 13, 3) := by decide +kernel
theorem dX7_requireRoom_10 : decode cX7_requireRoom 10 = .ok (.new 82, 3) := by decide +kernel
theorem dX7_requireRoom_13 : decode cX7_requireRoom 13 = .ok (.dup, 1) := by decide +kernel
theorem dX7_requireRoom_14 : decode cX7_requireRoom 14 = .ok (.ldc 160, 2) := by decide +kernel
theorem dX7_requireRoom_16 : decode cX7_requireRoom 16 = .ok (.invokespecial 86, 3) := by decide +kernel
theorem dX7_requireRoom_19 : decode cX7_requireRoom 19 = .ok (.athrow, 1) := by decide +kernel
theorem dX7_requireRoom_20 : decode cX7_requireRoom 20 = .ok (.return_, 1) := by decide +kernel
theorem gV_X7_X5_isFull_159 : GoodIn gw (wsV RX7 159 RX5 yX5_isFull (Cond.code yX5_isFull cX5_isFull 1 (some .boolean) :: gw)) := gdV gw_674 gw_675 gw_676 gw_70 gw_677
theorem hV_X5_isFull : yX5_isFull.cls = RX5 ∧ yX5_isFull.cls ≠ "java/lang/invoke/MethodHandle" ∧ yX5_isFull.cls ≠ "java/lang/invoke/VarHandle" ∧ (parseMethodDescriptor yX5_isFull.desc).map (fun d => d.parameters.length) = some 0 := ⟨rfl, by decide +kernel, by decide +kernel, by decide +kernel⟩
set_option maxHeartbeats 2000000 in
set_option maxRecDepth 20000 in
theorem k_X7_requireRoom (l : Launch) (hfl : l.stackTraces = false) (D : va_G) (aT : Nat → ClassId) (a0 : Nat) (a1 : Nat) (a2 : Nat) (a3 : Nat) (a4 : Nat) (a5 : Nat) (a6 : Nat) (a7 : Nat) (a8 : Nat) (a9 : Nat) (a10 : Nat) (bb : Nat → Nat → Int32) (nh : Nat) (nm : Nat) (h12 : nm ≤ 12) : CxG l yX7_requireRoom cX7_requireRoom 1 none 6 1 6 90 D aT [.ref a0] [(a0, .inr (10, [.ref a1, .ref a5, .ref a10, .int (bb 8 1), .int (bb 8 2), .int (bb 8 3), .int (bb 8 4), .int (bb 8 5), .int (bb 8 6), .int (bb 8 7), .int (bb 8 8)])), (a1, .inr (6, [.ref a2, .ref a3, .ref a4, .int (nI nh)])), (a2, .inl (aT 0, 6, .inl (bb 0))), (a3, .inl (aT 0, 6, .inl (bb 1))), (a4, .inl (aT 0, 6, .inl (bb 2))), (a5, .inr (8, [.ref a6, .ref a7, .ref a8, .ref a9, .int (nI nm), .int (bb 8 0)])), (a6, .inl (aT 0, 12, .inl (bb 3))), (a7, .inl (aT 0, 12, .inl (bb 4))), (a8, .inl (aT 0, 12, .inl (bb 5))), (a9, .inl (aT 0, 12, .inl (bb 6))), (a10, .inl (aT 0, 4, .inl (bb 7)))] (qV D aT (fun W1 => nm < 12 ∧ W1 = ([(a0, .inr (10, [.ref a1, .ref a5, .ref a10, .int (bb 8 1), .int (bb 8 2), .int (bb 8 3), .int (bb 8 4), .int (bb 8 5), .int (bb 8 6), .int (bb 8 7), .int (bb 8 8)])), (a1, .inr (6, [.ref a2, .ref a3, .ref a4, .int (nI nh)])), (a2, .inl (aT 0, 6, .inl (bb 0))), (a3, .inl (aT 0, 6, .inl (bb 1))), (a4, .inl (aT 0, 6, .inl (bb 2))), (a5, .inr (8, [.ref a6, .ref a7, .ref a8, .ref a9, .int (nI nm), .int (bb 8 0)])), (a6, .inl (aT 0, 12, .inl (bb 3))), (a7, .inl (aT 0, 12, .inl (bb 4))), (a8, .inl (aT 0, 12, .inl (bb 5))), (a9, .inl (aT 0, 12, .inl (bb 6))), (a10, .inl (aT 0, 4, .inl (bb 7)))] : va_W))) (fun E W1 => (E = "java/lang/IllegalStateException" ∧ nm = 12) ∧ W1 = ([(a0, .inr (10, [.ref a1, .ref a5, .ref a10, .int (bb 8 1), .int (bb 8 2), .int (bb 8 3), .int (bb 8 4), .int (bb 8 5), .int (bb 8 6), .int (bb 8 7), .int (bb 8 8)])), (a1, .inr (6, [.ref a2, .ref a3, .ref a4, .int (nI nh)])), (a2, .inl (aT 0, 6, .inl (bb 0))), (a3, .inl (aT 0, 6, .inl (bb 1))), (a4, .inl (aT 0, 6, .inl (bb 2))), (a5, .inr (8, [.ref a6, .ref a7, .ref a8, .ref a9, .int (nI nm), .int (bb 8 0)])), (a6, .inl (aT 0, 12, .inl (bb 3))), (a7, .inl (aT 0, 12, .inl (bb 4))), (a8, .inl (aT 0, 12, .inl (bb 5))), (a9, .inl (aT 0, 12, .inl (bb 6))), (a10, .inl (aT 0, 4, .inl (bb 7)))] : va_W)) := by
  refine CxG.of RX7 (by decide +kernel) rfl (Nat.le_of_ble_eq_true rfl) ?_
  intro p e s m below meth c A ls C hml hl hA hr hlocks hex hnm hZ hW
  have hl : lv_has ls 1 [(0, .ref a0)] := hl
  have hx := C.1
  have hb := C.2.1
  refine lv_aload_n hx hb dX7_requireRoom_0 rfl (lv_at hl 0 rfl) ?_
  refine cx_get C hW 0 1 rfl rfl (by decide) inX7 gw_181 rfl rfl dX7_requireRoom_1 ?_
  refine cx_calli (Wr := [(a0, .inr (10, [.ref a1, .ref a5, .ref a10, .int (bb 8 1), .int (bb 8 2), .int (bb 8 3), .int (bb 8 4), .int (bb 8 5), .int (bb 8 6), .int (bb 8 7), .int (bb 8 8)])), (a1, .inr (6, [.ref a2, .ref a3, .ref a4, .int (nI nh)])), (a2, .inl (aT 0, 6, .inl (bb 0))), (a3, .inl (aT 0, 6, .inl (bb 1))), (a4, .inl (aT 0, 6, .inl (bb 2))), (a10, .inl (aT 0, 4, .inl (bb 7)))]) (cx_runV C hml hl.1 hZ hW hA (As := []) (rest := []) (k_X5_isFull l hfl D aT a5 a6 a7 a8 a9 (bb 3) (bb 4) (bb 5) (bb 6) nm (bb 8 0) h12) gV_X7_X5_isFull_159 hV_X5_isFull rfl ⟨Nat.le_of_ble_eq_true rfl, Nat.le_of_ble_eq_true rfl⟩ ⟨Nat.le_of_ble_eq_true rfl, Nat.le_of_ble_eq_true rfl⟩ [5, 6, 7, 8, 9] rfl (by decide) 5 8 rfl rfl rfl rfl (Nat.le_of_ble_eq_true rfl) dX7_requireRoom_4) hW hA [5, 6, 7, 8, 9] [0, 1, 2, 3, 4, 10] rfl rfl (by decide) (by decide) (fun _ _ _ _ _ _ h9 => h9.elim) (fun r_4 W_4 H locs hq hW => ?_)
  obtain ⟨rfl, rfl⟩ := hq
  refine r_bI_eq hx hb (b := (decide (12 ≤ nm))) (tgt := 20) dX7_requireRoom_7 (by decide) (fun c_7 => ?_) (fun c_7 => ?_)
  · have hW : CxB D [(a0, .inr (10, [.ref a1, .ref a5, .ref a10, .int (bb 8 1), .int (bb 8 2), .int (bb 8 3), .int (bb 8 4), .int (bb 8 5), .int (bb 8 6), .int (bb 8 7), .int (bb 8 8)])), (a1, .inr (6, [.ref a2, .ref a3, .ref a4, .int (nI nh)])), (a2, .inl (aT 0, 6, .inl (bb 0))), (a3, .inl (aT 0, 6, .inl (bb 1))), (a4, .inl (aT 0, 6, .inl (bb 2))), (a5, .inr (8, [.ref a6, .ref a7, .ref a8, .ref a9, .int (nI nm), .int (bb 8 0)])), (a6, .inl (aT 0, 12, .inl (bb 3))), (a7, .inl (aT 0, 12, .inl (bb 4))), (a8, .inl (aT 0, 12, .inl (bb 5))), (a9, .inl (aT 0, 12, .inl (bb 6))), (a10, .inl (aT 0, 4, .inl (bb 7)))] A s.heap H _ := cx_drop hW [0, 1, 2, 3, 4, 6, 7, 8, 9, 10, 5] rfl (by decide)
    exact cx_vret C hr hlocks hW ⟨Nat.le_of_ble_eq_true rfl, Nat.le_of_ble_eq_true rfl⟩ (⟨by have h5 := of_decide_eq_false c_7; omega, rfl⟩) dX7_requireRoom_20
  · have hW : CxB D [(a0, .inr (10, [.ref a1, .ref a5, .ref a10, .int (bb 8 1), .int (bb 8 2), .int (bb 8 3), .int (bb 8 4), .int (bb 8 5), .int (bb 8 6), .int (bb 8 7), .int (bb 8 8)])), (a1, .inr (6, [.ref a2, .ref a3, .ref a4, .int (nI nh)])), (a2, .inl (aT 0, 6, .inl (bb 0))), (a3, .inl (aT 0, 6, .inl (bb 1))), (a4, .inl (aT 0, 6, .inl (bb 2))), (a5, .inr (8, [.ref a6, .ref a7, .ref a8, .ref a9, .int (nI nm), .int (bb 8 0)])), (a6, .inl (aT 0, 12, .inl (bb 3))), (a7, .inl (aT 0, 12, .inl (bb 4))), (a8, .inl (aT 0, 12, .inl (bb 5))), (a9, .inl (aT 0, 12, .inl (bb 6))), (a10, .inl (aT 0, 4, .inl (bb 7)))] A s.heap H _ := cx_drop hW [0, 1, 2, 3, 4, 6, 7, 8, 9, 10, 5] rfl (by decide)
    exact cx_throw C hfl hex hml hl.1 hlocks hZ hW at_X7_IllegalStateException (List.mem_of_getElem? (i := 3) rfl) gw_635 gw_87 (by decide +kernel) dX7_requireRoom_10 dX7_requireRoom_13 dX7_requireRoom_14 dX7_requireRoom_16 dX7_requireRoom_19 ⟨Nat.le_of_ble_eq_true rfl, Nat.le_of_ble_eq_true rfl, Nat.le_of_ble_eq_true rfl, Nat.le_of_ble_eq_true rfl⟩ ⟨Nat.le_of_ble_eq_true rfl, Nat.le_of_ble_eq_true rfl⟩ (⟨⟨rfl, by have h5 := of_decide_eq_true c_7; omega⟩, rfl⟩)
theorem dX7_begin_0 : decode cX7_begin 0 = .ok (.aload_n 0, 1) := by decide +kernel
theorem dX7_begin_1 : decode cX7_begin 1 = .ok (.dup, 1) := by decide +kernel
theorem dX7_begin_2 : decode cX7_begin 2 = .ok (.getfield 52, 3) := by decide +kernel
theorem dX7_begin_5 : decode cX7_begin 5 = .ok (.iload_n 3, 1) := by decide +kernel
theorem dX7_begin_6 : decode cX7_begin 6 = .ok (.iadd, 1) := by decide +kernel
theorem dX7_begin_7 : decode cX7_begin 7 = .ok (.putfield 52, 3) := by decide +kernel
theorem dX7_begin_10 : decode cX7_begin 10 = .ok (.aload_n 0, 1) := by decide +kernel
theorem dX7_begin_11 : decode cX7_begin 11 = .ok (.getfield 21, 3) := by decide +kernel
theorem dX7_begin_14 : decode cX7_begin 14 = .ok (.iload_n 1, 1) := by decide +kernel
theorem dX7_begin_15 : decode cX7_begin 15 = .ok (.iload_n 2, 1) := by decide +kernel
theorem dX7_begin_16 : decode cX7_begin 16 = .ok (.iload_n 3, 1) := by decide +kernel
theorem dX7_begin_17 : decode cX7_begin 17 = .ok (.invokevirtual 158, 3) := by decide +kernel
theorem dX7_begin_20 : decode cX7_begin 20 = .ok (.ireturn, 1) := by decide +kernel
theorem gV_X7_X5_add_158 : GoodIn gw (wsV RX7 158 RX5 yX5_add (Cond.code yX5_add cX5_add 5 (some .int) :: gw)) := gdV gw_683 gw_684 gw_685 gw_70 gw_686
theorem hV_X5_add : yX5_add.cls = RX5 ∧ yX5_add.cls ≠ "java/lang/invoke/MethodHandle" ∧ yX5_add.cls ≠ "java/lang/invoke/VarHandle" ∧ (parseMethodDescriptor yX5_add.desc).map (fun d => d.parameters.length) = some 3 := ⟨rfl, by decide +kernel, by decide +kernel, by decide +kernel⟩
set_option maxHeartbeats 2000000 in
set_option maxRecDepth 20000 in
theorem k_X7_begin (l : Launch) (hfl : l.stackTraces = false) (D : va_G) (aT : Nat → ClassId) (a0 : Nat) (a1 : Nat) (a2 : Nat) (a3 : Nat) (a4 : Nat) (a5 : Nat) (a6 : Nat) (a7 : Nat) (a8 : Nat) (a9 : Nat) (a10 : Nat) (bb : Nat → Nat → Int32) (nh : Nat) (nm : Nat) (x : Int32) (y : Int32) (z : Int32) (h12 : nm < 12) : CxG l yX7_begin cX7_begin 4 (some (.int)) 1 0 0 24 D aT [.ref a0, .int x, .int y, .int z] [(a0, .inr (10, [.ref a1, .ref a5, .ref a10, .int (bb 8 1), .int (bb 8 2), .int (bb 8 3), .int (bb 8 4), .int (bb 8 5), .int (bb 8 6), .int (bb 8 7), .int (bb 8 8)])), (a1, .inr (6, [.ref a2, .ref a3, .ref a4, .int (nI nh)])), (a2, .inl (aT 0, 6, .inl (bb 0))), (a3, .inl (aT 0, 6, .inl (bb 1))), (a4, .inl (aT 0, 6, .inl (bb 2))), (a5, .inr (8, [.ref a6, .ref a7, .ref a8, .ref a9, .int (nI nm), .int (bb 8 0)])), (a6, .inl (aT 0, 12, .inl (bb 3))), (a7, .inl (aT 0, 12, .inl (bb 4))), (a8, .inl (aT 0, 12, .inl (bb 5))), (a9, .inl (aT 0, 12, .inl (bb 6))), (a10, .inl (aT 0, 4, .inl (bb 7)))] (qI D aT (fun r W1 => r = (bb 8 0) ∧ W1 = ([(a0, .inr (10, [.ref a1, .ref a5, .ref a10, .int (bb 8 1), .int (bb 8 2), .int (bb 8 3), .int ((bb 8 4) + z), .int (bb 8 5), .int (bb 8 6), .int (bb 8 7), .int (bb 8 8)])), (a1, .inr (6, [.ref a2, .ref a3, .ref a4, .int (nI nh)])), (a2, .inl (aT 0, 6, .inl (bb 0))), (a3, .inl (aT 0, 6, .inl (bb 1))), (a4, .inl (aT 0, 6, .inl (bb 2))), (a5, .inr (8, [.ref a6, .ref a7, .ref a8, .ref a9, .int (nI (nm + 1)), .int ((bb 8 0) + (nI 1))])), (a6, .inl (aT 0, 12, .inl (upd (bb 3) nm ((bb 8 0))))), (a7, .inl (aT 0, 12, .inl (upd (bb 4) nm (y)))), (a8, .inl (aT 0, 12, .inl (upd (bb 5) nm (z)))), (a9, .inl (aT 0, 12, .inl (upd (bb 6) nm (x)))), (a10, .inl (aT 0, 4, .inl (bb 7)))] : va_W))) (fun _ _ => False) := by
  refine CxG.of RX7 (by decide +kernel) rfl (Nat.le_of_ble_eq_true rfl) ?_
  intro p e s m below meth c A ls C hml hl hA hr hlocks hex hnm hZ hW
  have hl : lv_has ls 4 [(0, .ref a0), (1, .int x), (2, .int y), (3, .int z)] := hl
  have hx := C.1
  have hb := C.2.1
  refine lv_aload_n hx hb dX7_begin_0 rfl (lv_at hl 0 rfl) ?_
  refine lv_dup hx hb dX7_begin_1 rfl ?_
  refine cx_get C hW 0 6 rfl rfl (by decide) inX7 gw_191 rfl rfl dX7_begin_2 ?_
  refine lv_iload_n hx hb dX7_begin_5 rfl (lv_at hl 3 rfl) ?_
  refine lv_iadd hx hb dX7_begin_6 ?_
  refine cx_put C hW 0 6 (W1 := [(a0, .inr (10, [.ref a1, .ref a5, .ref a10, .int (bb 8 1), .int (bb 8 2), .int (bb 8 3), .int ((bb 8 4) + z), .int (bb 8 5), .int (bb 8 6), .int (bb 8 7), .int (bb 8 8)])), (a1, .inr (6, [.ref a2, .ref a3, .ref a4, .int (nI nh)])), (a2, .inl (aT 0, 6, .inl (bb 0))), (a3, .inl (aT 0, 6, .inl (bb 1))), (a4, .inl (aT 0, 6, .inl (bb 2))), (a5, .inr (8, [.ref a6, .ref a7, .ref a8, .ref a9, .int (nI nm), .int (bb 8 0)])), (a6, .inl (aT 0, 12, .inl (bb 3))), (a7, .inl (aT 0, 12, .inl (bb 4))), (a8, .inl (aT 0, 12, .inl (bb 5))), (a9, .inl (aT 0, 12, .inl (bb 6))), (a10, .inl (aT 0, 4, .inl (bb 7)))]) rfl rfl (by decide) inX7 tyX7 tyX7_ok nmX7 gw_191 rfl rfl rfl rfl rfl (Nat.le_of_ble_eq_true rfl) rfl dX7_begin_7 (fun H locs hW => ?_)
  refine lv_aload_n hx hb dX7_begin_10 rfl (lv_at hl 0 rfl) ?_
  refine cx_get C hW 0 1 rfl rfl (by decide) inX7 gw_181 rfl rfl dX7_begin_11 ?_
  refine lv_iload_n hx hb dX7_begin_14 rfl (lv_at hl 1 rfl) ?_
  refine lv_iload_n hx hb dX7_begin_15 rfl (lv_at hl 2 rfl) ?_
  refine lv_iload_n hx hb dX7_begin_16 rfl (lv_at hl 3 rfl) ?_
  refine cx_calli (Wr := [(a0, .inr (10, [.ref a1, .ref a5, .ref a10, .int (bb 8 1), .int (bb 8 2), .int (bb 8 3), .int ((bb 8 4) + z), .int (bb 8 5), .int (bb 8 6), .int (bb 8 7), .int (bb 8 8)])), (a1, .inr (6, [.ref a2, .ref a3, .ref a4, .int (nI nh)])), (a2, .inl (aT 0, 6, .inl (bb 0))), (a3, .inl (aT 0, 6, .inl (bb 1))), (a4, .inl (aT 0, 6, .inl (bb 2))), (a10, .inl (aT 0, 4, .inl (bb 7)))]) (cx_runV C hml hl.1 hZ hW hA (As := [.int x, .int y, .int z]) (rest := []) (k_X5_add l hfl D aT a5 a6 a7 a8 a9 (bb 3) (bb 4) (bb 5) (bb 6) nm (bb 8 0) x y z h12) gV_X7_X5_add_158 hV_X5_add rfl ⟨Nat.le_of_ble_eq_true rfl, Nat.le_of_ble_eq_true rfl⟩ ⟨Nat.le_of_ble_eq_true rfl, Nat.le_of_ble_eq_true rfl⟩ [5, 6, 7, 8, 9] rfl (by decide) 5 8 rfl rfl rfl rfl (Nat.le_of_ble_eq_true rfl) dX7_begin_17) hW hA [5, 6, 7, 8, 9] [0, 1, 2, 3, 4, 10] rfl rfl (by decide) (by decide) (fun _ _ _ _ _ _ h9 => h9.elim) (fun r_17 W_17 H locs hq hW => ?_)
  obtain ⟨rfl, rfl⟩ := hq
  have hW : CxB D [(a0, .inr (10, [.ref a1, .ref a5, .ref a10, .int (bb 8 1), .int (bb 8 2), .int (bb 8 3), .int ((bb 8 4) + z), .int (bb 8 5), .int (bb 8 6), .int (bb 8 7), .int (bb 8 8)])), (a1, .inr (6, [.ref a2, .ref a3, .ref a4, .int (nI nh)])), (a2, .inl (aT 0, 6, .inl (bb 0))), (a3, .inl (aT 0, 6, .inl (bb 1))), (a4, .inl (aT 0, 6, .inl (bb 2))), (a5, .inr (8, [.ref a6, .ref a7, .ref a8, .ref a9, .int (nI (nm + 1)), .int ((bb 8 0) + (nI 1))])), (a6, .inl (aT 0, 12, .inl (upd (bb 3) nm ((bb 8 0))))), (a7, .inl (aT 0, 12, .inl (upd (bb 4) nm (y)))), (a8, .inl (aT 0, 12, .inl (upd (bb 5) nm (z)))), (a9, .inl (aT 0, 12, .inl (upd (bb 6) nm (x)))), (a10, .inl (aT 0, 4, .inl (bb 7)))] A s.heap H _ := cx_drop hW [0, 1, 2, 3, 4, 6, 7, 8, 9, 10, 5] rfl (by decide)
  exact cx_iret C hr hlocks rfl hW ⟨Nat.le_of_ble_eq_true rfl, Nat.le_of_ble_eq_true rfl⟩ (⟨rfl, rfl⟩) dX7_begin_20
theorem dX7_newMain_0 : decode cX7_newMain 0 = .ok (.iload_n 1, 1) := by decide +kernel
theorem dX7_newMain_1 : decode cX7_newMain 1 = .ok (.iload_n 2, 1) := by decide +kernel
theorem dX7_newMain_2 : decode cX7_newMain 2 = .ok (.invokestatic 91, 3) := by decide +kernel
theorem dX7_newMain_5 : decode cX7_newMain 5 = .ok (.aload_n 0, 1) := by decide +kernel
theorem dX7_newMain_6 : decode cX7_newMain 6 = .ok (.invokevirtual 95, 3) := by decide +kernel
theorem dX7_newMain_9 : decode cX7_newMain 9 = .ok (.aload_n 0, 1) := by decide +kernel
theorem dX7_newMain_10 : decode cX7_newMain 10 = .ok (.iconst (-1), 1) := by decide +kernel
theorem dX7_newMain_11 : decode cX7_newMain 11 = .ok (.iload_n 1, 1) := by decide +kernel
theorem dX7_newMain_12 : decode cX7_newMain 12 = .ok (.iload_n 2, 1) := by decide +kernel
theorem dX7_newMain_13 : decode cX7_newMain 13 = .ok (.invokevirtual 98, 3) := by decide +kernel
theorem dX7_newMain_16 : decode cX7_newMain 16 = .ok (.ireturn, 1) := by decide +kernel
theorem gS_X7_X7_requireToneAndWeight_91 : GoodIn gw (va_wsS RX7 91 yX7_requireToneAndWeight (Cond.code yX7_requireToneAndWeight cX7_requireToneAndWeight 2 (none) :: gw)) := gdS2 gw_666 gw_667 gw_68 gw_668
theorem hS_X7_requireToneAndWeight : yX7_requireToneAndWeight.cls ≠ "java/lang/invoke/MethodHandle" ∧ yX7_requireToneAndWeight.cls ≠ "java/lang/invoke/VarHandle" ∧ (parseMethodDescriptor yX7_requireToneAndWeight.desc).map (fun d => d.parameters.length) = some 2 := ⟨by decide +kernel, by decide +kernel, by decide +kernel⟩
theorem gV_X7_X7_requireRoom_95 : GoodIn gw (wsV RX7 95 RX7 yX7_requireRoom (Cond.code yX7_requireRoom cX7_requireRoom 1 (none) :: gw)) := gdV gw_670 gw_672 gw_3 gw_68 gw_673
theorem hV_X7_requireRoom : yX7_requireRoom.cls = RX7 ∧ yX7_requireRoom.cls ≠ "java/lang/invoke/MethodHandle" ∧ yX7_requireRoom.cls ≠ "java/lang/invoke/VarHandle" ∧ (parseMethodDescriptor yX7_requireRoom.desc).map (fun d => d.parameters.length) = some 0 := ⟨rfl, by decide +kernel, by decide +kernel, by decide +kernel⟩
theorem gV_X7_X7_begin_98 : GoodIn gw (wsV RX7 98 RX7 yX7_begin (Cond.code yX7_begin cX7_begin 4 (some .int) :: gw)) := gdV gw_679 gw_681 gw_4 gw_68 gw_682
theorem hV_X7_begin : yX7_begin.cls = RX7 ∧ yX7_begin.cls ≠ "java/lang/invoke/MethodHandle" ∧ yX7_begin.cls ≠ "java/lang/invoke/VarHandle" ∧ (parseMethodDescriptor yX7_begin.desc).map (fun d => d.parameters.length) = some 3 := ⟨rfl, by decide +kernel, by decide +kernel, by decide +kernel⟩
set_option maxHeartbeats 2000000 in
set_option maxRecDepth 20000 in
theorem k_X7_newMain (l : Launch) (hfl : l.stackTraces = false) (D : va_G) (aT : Nat → ClassId) (a0 : Nat) (a1 : Nat) (a2 : Nat) (a3 : Nat) (a4 : Nat) (a5 : Nat) (a6 : Nat) (a7 : Nat) (a8 : Nat) (a9 : Nat) (a10 : Nat) (bb : Nat → Nat → Int32) (nh : Nat) (nm : Nat) (M : Nat → Int32) (Bd : Nat) (hBd : Bd < 1048000) (hC : CoW M Bd) (hB : BlC bb nh nm M) (x : Int32) (y : Int32) : CxG l yX7_newMain cX7_newMain 3 (some (.int)) 7 2 12 111 D aT [.ref a0, .int x, .int y] [(a0, .inr (10, [.ref a1, .ref a5, .ref a10, .int (bb 8 1), .int (bb 8 2), .int (bb 8 3), .int (bb 8 4), .int (bb 8 5), .int (bb 8 6), .int (bb 8 7), .int (bb 8 8)])), (a1, .inr (6, [.ref a2, .ref a3, .ref a4, .int (nI nh)])), (a2, .inl (aT 0, 6, .inl (bb 0))), (a3, .inl (aT 0, 6, .inl (bb 1))), (a4, .inl (aT 0, 6, .inl (bb 2))), (a5, .inr (8, [.ref a6, .ref a7, .ref a8, .ref a9, .int (nI nm), .int (bb 8 0)])), (a6, .inl (aT 0, 12, .inl (bb 3))), (a7, .inl (aT 0, 12, .inl (bb 4))), (a8, .inl (aT 0, 12, .inl (bb 5))), (a9, .inl (aT 0, 12, .inl (bb 6))), (a10, .inl (aT 0, 4, .inl (bb 7)))] (qI D aT (fun r W1 => ∃ b2 : Nat → Nat → Int32, ((rgB 0 9 x && rgB 1 20 y) = true ∧ nm < 12 ∧ r = M 1) ∧ BlC b2 nh (nm + 1) (addF M (nM M) (-1) x y) ∧ W1 = ([(a0, .inr (10, [.ref a1, .ref a5, .ref a10, .int (b2 8 1), .int (b2 8 2), .int (b2 8 3), .int (b2 8 4), .int (b2 8 5), .int (b2 8 6), .int (b2 8 7), .int (b2 8 8)])), (a1, .inr (6, [.ref a2, .ref a3, .ref a4, .int (nI nh)])), (a2, .inl (aT 0, 6, .inl (b2 0))), (a3, .inl (aT 0, 6, .inl (b2 1))), (a4, .inl (aT 0, 6, .inl (b2 2))), (a5, .inr (8, [.ref a6, .ref a7, .ref a8, .ref a9, .int (nI (nm + 1)), .int (b2 8 0)])), (a6, .inl (aT 0, 12, .inl (b2 3))), (a7, .inl (aT 0, 12, .inl (b2 4))), (a8, .inl (aT 0, 12, .inl (b2 5))), (a9, .inl (aT 0, 12, .inl (b2 6))), (a10, .inl (aT 0, 4, .inl (b2 7)))] : va_W))) (fun E W1 => ((E = "java/lang/IllegalArgumentException" ∧ (rgB 0 9 x && rgB 1 20 y) = false) ∨ (E = "java/lang/IllegalStateException" ∧ (rgB 0 9 x && rgB 1 20 y) = true ∧ nm = 12)) ∧ W1 = ([(a0, .inr (10, [.ref a1, .ref a5, .ref a10, .int (bb 8 1), .int (bb 8 2), .int (bb 8 3), .int (bb 8 4), .int (bb 8 5), .int (bb 8 6), .int (bb 8 7), .int (bb 8 8)])), (a1, .inr (6, [.ref a2, .ref a3, .ref a4, .int (nI nh)])), (a2, .inl (aT 0, 6, .inl (bb 0))), (a3, .inl (aT 0, 6, .inl (bb 1))), (a4, .inl (aT 0, 6, .inl (bb 2))), (a5, .inr (8, [.ref a6, .ref a7, .ref a8, .ref a9, .int (nI nm), .int (bb 8 0)])), (a6, .inl (aT 0, 12, .inl (bb 3))), (a7, .inl (aT 0, 12, .inl (bb 4))), (a8, .inl (aT 0, 12, .inl (bb 5))), (a9, .inl (aT 0, 12, .inl (bb 6))), (a10, .inl (aT 0, 4, .inl (bb 7)))] : va_W)) := by
  have hH := hB.he hC
  have hO := hB.mo hC
  refine CxG.of RX7 (by decide +kernel) rfl (Nat.le_of_ble_eq_true rfl) ?_
  intro p e s m below meth c A ls C hml hl hA hr hlocks hex hnm hZ hW
  have hl : lv_has ls 3 [(0, .ref a0), (1, .int x), (2, .int y)] := hl
  have hx := C.1
  have hb := C.2.1
  refine lv_iload_n hx hb dX7_newMain_0 rfl (lv_at hl 1 rfl) ?_
  refine lv_iload_n hx hb dX7_newMain_1 rfl (lv_at hl 2 rfl) ?_
  refine cx_callv (Wr := [(a0, .inr (10, [.ref a1, .ref a5, .ref a10, .int (bb 8 1), .int (bb 8 2), .int (bb 8 3), .int (bb 8 4), .int (bb 8 5), .int (bb 8 6), .int (bb 8 7), .int (bb 8 8)])), (a1, .inr (6, [.ref a2, .ref a3, .ref a4, .int (nI nh)])), (a2, .inl (aT 0, 6, .inl (bb 0))), (a3, .inl (aT 0, 6, .inl (bb 1))), (a4, .inl (aT 0, 6, .inl (bb 2))), (a5, .inr (8, [.ref a6, .ref a7, .ref a8, .ref a9, .int (nI nm), .int (bb 8 0)])), (a6, .inl (aT 0, 12, .inl (bb 3))), (a7, .inl (aT 0, 12, .inl (bb 4))), (a8, .inl (aT 0, 12, .inl (bb 5))), (a9, .inl (aT 0, 12, .inl (bb 6))), (a10, .inl (aT 0, 4, .inl (bb 7)))]) (cx_runS C hml hl.1 hZ hW hA (As := [.int x, .int y]) (rest := []) (k_X7_requireToneAndWeight l hfl D aT x y) gS_X7_X7_requireToneAndWeight_91 hS_X7_requireToneAndWeight rfl ⟨Nat.le_of_ble_eq_true rfl, Nat.le_of_ble_eq_true rfl⟩ ⟨Nat.le_of_ble_eq_true rfl, Nat.le_of_ble_eq_true rfl⟩ [] rfl (by decide) rfl (Nat.le_of_ble_eq_true rfl) dX7_newMain_2) hW hA [] [0, 1, 2, 3, 4, 5, 6, 7, 8, 9, 10] rfl rfl (by decide) (by decide) (fun E ce q9 W9 H9 locs9 hE hW9 h7 h8 h9 => by
      obtain ⟨hE, rfl⟩ := hE
      exact cx_out C hex hlocks (Wd := [(a0, .inr (10, [.ref a1, .ref a5, .ref a10, .int (bb 8 1), .int (bb 8 2), .int (bb 8 3), .int (bb 8 4), .int (bb 8 5), .int (bb 8 6), .int (bb 8 7), .int (bb 8 8)])), (a1, .inr (6, [.ref a2, .ref a3, .ref a4, .int (nI nh)])), (a2, .inl (aT 0, 6, .inl (bb 0))), (a3, .inl (aT 0, 6, .inl (bb 1))), (a4, .inl (aT 0, 6, .inl (bb 2))), (a5, .inr (8, [.ref a6, .ref a7, .ref a8, .ref a9, .int (nI nm), .int (bb 8 0)])), (a6, .inl (aT 0, 12, .inl (bb 3))), (a7, .inl (aT 0, 12, .inl (bb 4))), (a8, .inl (aT 0, 12, .inl (bb 5))), (a9, .inl (aT 0, 12, .inl (bb 6))), (a10, .inl (aT 0, 4, .inl (bb 7)))]) (cx_drop hW9 [0, 1, 2, 3, 4, 5, 6, 7, 8, 9, 10] rfl (by decide)) h7 h8 h9 ⟨Nat.le_of_ble_eq_true rfl, Nat.le_of_ble_eq_true rfl⟩ (⟨Or.inl hE, rfl⟩)) (fun W_2 H locs hq hW => ?_)
  obtain ⟨hok_2, rfl⟩ := hq
  refine lv_aload_n hx hb dX7_newMain_5 rfl (lv_at hl 0 rfl) ?_
  refine cx_callv (Wr := []) (cx_runV C hml hl.1 hZ hW hA (As := []) (rest := []) (k_X7_requireRoom l hfl D aT a0 a1 a2 a3 a4 a5 a6 a7 a8 a9 a10 bb nh nm hO.1) gV_X7_X7_requireRoom_95 hV_X7_requireRoom rfl ⟨Nat.le_of_ble_eq_true rfl, Nat.le_of_ble_eq_true rfl⟩ ⟨Nat.le_of_ble_eq_true rfl, Nat.le_of_ble_eq_true rfl⟩ [0, 1, 2, 3, 4, 5, 6, 7, 8, 9, 10] rfl (by decide) 0 10 rfl rfl rfl rfl (Nat.le_of_ble_eq_true rfl) dX7_newMain_6) hW hA [0, 1, 2, 3, 4, 5, 6, 7, 8, 9, 10] [] rfl rfl (by decide) (by decide) (fun E ce q9 W9 H9 locs9 hE hW9 h7 h8 h9 => by
      obtain ⟨hE, rfl⟩ := hE
      exact cx_out C hex hlocks (Wd := [(a0, .inr (10, [.ref a1, .ref a5, .ref a10, .int (bb 8 1), .int (bb 8 2), .int (bb 8 3), .int (bb 8 4), .int (bb 8 5), .int (bb 8 6), .int (bb 8 7), .int (bb 8 8)])), (a1, .inr (6, [.ref a2, .ref a3, .ref a4, .int (nI nh)])), (a2, .inl (aT 0, 6, .inl (bb 0))), (a3, .inl (aT 0, 6, .inl (bb 1))), (a4, .inl (aT 0, 6, .inl (bb 2))), (a5, .inr (8, [.ref a6, .ref a7, .ref a8, .ref a9, .int (nI nm), .int (bb 8 0)])), (a6, .inl (aT 0, 12, .inl (bb 3))), (a7, .inl (aT 0, 12, .inl (bb 4))), (a8, .inl (aT 0, 12, .inl (bb 5))), (a9, .inl (aT 0, 12, .inl (bb 6))), (a10, .inl (aT 0, 4, .inl (bb 7)))]) (cx_drop hW9 [0, 1, 2, 3, 4, 5, 6, 7, 8, 9, 10] rfl (by decide)) h7 h8 h9 ⟨Nat.le_of_ble_eq_true rfl, Nat.le_of_ble_eq_true rfl⟩ (⟨Or.inr ⟨hE.1, hok_2, hE.2⟩, rfl⟩)) (fun W_6 H locs hq hW => ?_)
  obtain ⟨hr_6, rfl⟩ := hq
  refine lv_aload_n hx hb dX7_newMain_9 rfl (lv_at hl 0 rfl) ?_
  refine lv_iconst (v := (-1)) hx hb dX7_newMain_10 (by decide) ?_
  refine lv_iload_n hx hb dX7_newMain_11 rfl (lv_at hl 1 rfl) ?_
  refine lv_iload_n hx hb dX7_newMain_12 rfl (lv_at hl 2 rfl) ?_
  refine cx_calli (Wr := []) (cx_runV C hml hl.1 hZ hW hA (As := [.int (-1), .int x, .int y]) (rest := []) (k_X7_begin l hfl D aT a0 a1 a2 a3 a4 a5 a6 a7 a8 a9 a10 bb nh nm (-1) x y hr_6) gV_X7_X7_begin_98 hV_X7_begin rfl ⟨Nat.le_of_ble_eq_true rfl, Nat.le_of_ble_eq_true rfl⟩ ⟨Nat.le_of_ble_eq_true rfl, Nat.le_of_ble_eq_true rfl⟩ [0, 1, 2, 3, 4, 5, 6, 7, 8, 9, 10] rfl (by decide) 0 10 rfl rfl rfl rfl (Nat.le_of_ble_eq_true rfl) dX7_newMain_13) hW hA [0, 1, 2, 3, 4, 5, 6, 7, 8, 9, 10] [] rfl rfl (by decide) (by decide) (fun _ _ _ _ _ _ h9 => h9.elim) (fun r_13 W_13 H locs hq hW => ?_)
  obtain ⟨rfl, rfl⟩ := hq
  exact cx_iret C hr hlocks rfl hW ⟨Nat.le_of_ble_eq_true rfl, Nat.le_of_ble_eq_true rfl⟩ (by
      obtain ⟨t, et, ht, -⟩ := rg_of (a := 0) (b := 9) (x := x) (by have h5 := hok_2; rw [Bool.and_eq_true] at h5; exact h5.1) (Or.inl (by decide)) (bb := 9) (by decide) (by decide)
      subst et
      exact ⟨_, ⟨hok_2, hr_6, hB.2.2.2.2.2.1.1⟩, hB.addm (po := none) (w := y) hC (by omega) hr_6 (fun j hj => by cases hj) ht, rfl⟩) dX7_newMain_16
theorem dX7_newAmendment_0 : decode cX7_newAmendment 0 = .ok (.aload_n 0, 1) := by decide +kernel
theorem dX7_newAmendment_1 : decode cX7_newAmendment 1 = .ok (.getfield 21, 3) := by decide +kernel
theorem dX7_newAmendment_4 : decode cX7_newAmendment 4 = .ok (.iload_n 1, 1) := by decide +kernel
theorem dX7_newAmendment_5 : decode cX7_newAmendment 5 = .ok (.invokevirtual 101, 3) := by decide +kernel
theorem dX7_newAmendment_8 : decode cX7_newAmendment 8 = .ok (.istore 4, 2) := by decide +kernel
theorem dX7_newAmendment_10 : decode cX7_newAmendment 10 = .ok (.iload_n 2, 1) := by decide +kernel
theorem dX7_newAmendment_11 : decode cX7_newAmendment 11 = .ok (.iload_n 3, 1) := by decide +kernel
theorem dX7_newAmendment_12 : decode cX7_newAmendment 12 = .ok (.invokestatic 91, 3) := by decide +kernel
theorem dX7_newAmendment_15 : decode cX7_newAmendment 15 = .ok (.aload_n 0, 1) := by decide +kernel
theorem dX7_newAmendment_16 : decode cX7_newAmendment 16 = .ok (.invokevirtual 95, 3) := by decide +kernel
theorem dX7_newAmendment_19 : decode cX7_newAmendment 19 = .ok (.aload_n 0, 1) := by decide +kernel
theorem dX7_newAmendment_20 : decode cX7_newAmendment 20 = .ok (.iload 4, 2) := by decide +kernel
theorem dX7_newAmendment_22 : decode cX7_newAmendment 22 = .ok (.iload_n 2, 1) := by decide +kernel
theorem dX7_newAmendment_23 : decode cX7_newAmendment 23 = .ok (.iload_n 3, 1) := by decide +kernel
theorem dX7_newAmendment_24 : decode cX7_newAmendment 24 = .ok (.invokevirtual 98, 3) := by decide +kernel
theorem dX7_newAmendment_27 : decode cX7_newAmendment 27 = .ok (.ireturn, 1) := by decide +kernel
theorem gV_X7_X5_require_101 : GoodIn gw (wsV RX7 101 RX5 yX5_require (Cond.code yX5_require cX5_require 3 (some .int) :: gw)) := gdV gw_699 gw_700 gw_701 gw_70 gw_702
theorem hV_X5_require : yX5_require.cls = RX5 ∧ yX5_require.cls ≠ "java/lang/invoke/MethodHandle" ∧ yX5_require.cls ≠ "java/lang/invoke/VarHandle" ∧ (parseMethodDescriptor yX5_require.desc).map (fun d => d.parameters.length) = some 1 := ⟨rfl, by decide +kernel, by decide +kernel, by decide +kernel⟩
set_option maxHeartbeats 2000000 in
set_option maxRecDepth 20000 in
theorem k_X7_newAmendment (l : Launch) (hfl : l.stackTraces = false) (D : va_G) (aT : Nat → ClassId) (a0 : Nat) (a1 : Nat) (a2 : Nat) (a3 : Nat) (a4 : Nat) (a5 : Nat) (a6 : Nat) (a7 : Nat) (a8 : Nat) (a9 : Nat) (a10 : Nat) (bb : Nat → Nat → Int32) (nh : Nat) (nm : Nat) (M : Nat → Int32) (Bd : Nat) (hBd : Bd < 1048000) (hC : CoW M Bd) (hB : BlC bb nh nm M) (x : Int32) (y : Int32) (z : Int32) : CxG l yX7_newAmendment cX7_newAmendment 5 (some (.int)) 7 3 18 112 D aT [.ref a0, .int x, .int y, .int z] [(a0, .inr (10, [.ref a1, .ref a5, .ref a10, .int (bb 8 1), .int (bb 8 2), .int (bb 8 3), .int (bb 8 4), .int (bb 8 5), .int (bb 8 6), .int (bb 8 7), .int (bb 8 8)])), (a1, .inr (6, [.ref a2, .ref a3, .ref a4, .int (nI nh)])), (a2, .inl (aT 0, 6, .inl (bb 0))), (a3, .inl (aT 0, 6, .inl (bb 1))), (a4, .inl (aT 0, 6, .inl (bb 2))), (a5, .inr (8, [.ref a6, .ref a7, .ref a8, .ref a9, .int (nI nm), .int (bb 8 0)])), (a6, .inl (aT 0, 12, .inl (bb 3))), (a7, .inl (aT 0, 12, .inl (bb 4))), (a8, .inl (aT 0, 12, .inl (bb 5))), (a9, .inl (aT 0, 12, .inl (bb 6))), (a10, .inl (aT 0, 4, .inl (bb 7)))] (qI D aT (fun r W1 => ∃ b2 : Nat → Nat → Int32, ((∃ q, fnd (fun k => M (29 + 4 * k)) x nm = some q) ∧ (rgB 0 9 y && rgB 1 20 z) = true ∧ nm < 12 ∧ r = M 1) ∧ BlC b2 nh (nm + 1) (addF M (nM M) x y z) ∧ W1 = ([(a0, .inr (10, [.ref a1, .ref a5, .ref a10, .int (b2 8 1), .int (b2 8 2), .int (b2 8 3), .int (b2 8 4), .int (b2 8 5), .int (b2 8 6), .int (b2 8 7), .int (b2 8 8)])), (a1, .inr (6, [.ref a2, .ref a3, .ref a4, .int (nI nh)])), (a2, .inl (aT 0, 6, .inl (b2 0))), (a3, .inl (aT 0, 6, .inl (b2 1))), (a4, .inl (aT 0, 6, .inl (b2 2))), (a5, .inr (8, [.ref a6, .ref a7, .ref a8, .ref a9, .int (nI (nm + 1)), .int (b2 8 0)])), (a6, .inl (aT 0, 12, .inl (b2 3))), (a7, .inl (aT 0, 12, .inl (b2 4))), (a8, .inl (aT 0, 12, .inl (b2 5))), (a9, .inl (aT 0, 12, .inl (b2 6))), (a10, .inl (aT 0, 4, .inl (b2 7)))] : va_W))) (fun E W1 => ((E = "java/util/NoSuchElementException" ∧ fnd (fun k => M (29 + 4 * k)) x nm = none) ∨ ((∃ q, fnd (fun k => M (29 + 4 * k)) x nm = some q) ∧ ((E = "java/lang/IllegalArgumentException" ∧ (rgB 0 9 y && rgB 1 20 z) = false) ∨ (E = "java/lang/IllegalStateException" ∧ (rgB 0 9 y && rgB 1 20 z) = true ∧ nm = 12)))) ∧ W1 = ([(a0, .inr (10, [.ref a1, .ref a5, .ref a10, .int (bb 8 1), .int (bb 8 2), .int (bb 8 3), .int (bb 8 4), .int (bb 8 5), .int (bb 8 6), .int (bb 8 7), .int (bb 8 8)])), (a1, .inr (6, [.ref a2, .ref a3, .ref a4, .int (nI nh)])), (a2, .inl (aT 0, 6, .inl (bb 0))), (a3, .inl (aT 0, 6, .inl (bb 1))), (a4, .inl (aT 0, 6, .inl (bb 2))), (a5, .inr (8, [.ref a6, .ref a7, .ref a8, .ref a9, .int (nI nm), .int (bb 8 0)])), (a6, .inl (aT 0, 12, .inl (bb 3))), (a7, .inl (aT 0, 12, .inl (bb 4))), (a8, .inl (aT 0, 12, .inl (bb 5))), (a9, .inl (aT 0, 12, .inl (bb 6))), (a10, .inl (aT 0, 4, .inl (bb 7)))] : va_W)) := by
  have hH := hB.he hC
  have hO := hB.mo hC
  refine CxG.of RX7 (by decide +kernel) rfl (Nat.le_of_ble_eq_true rfl) ?_
  intro p e s m below meth c A ls C hml hl hA hr hlocks hex hnm hZ hW
  have hl : lv_has ls 5 [(0, .ref a0), (1, .int x), (2, .int y), (3, .int z)] := hl
  have hx := C.1
  have hb := C.2.1
  refine lv_aload_n hx hb dX7_newAmendment_0 rfl (lv_at hl 0 rfl) ?_
  refine cx_get C hW 0 1 rfl rfl (by decide) inX7 gw_181 rfl rfl dX7_newAmendment_1 ?_
  refine lv_iload_n hx hb dX7_newAmendment_4 rfl (lv_at hl 1 rfl) ?_
  refine cx_calli (Wr := [(a0, .inr (10, [.ref a1, .ref a5, .ref a10, .int (bb 8 1), .int (bb 8 2), .int (bb 8 3), .int (bb 8 4), .int (bb 8 5), .int (bb 8 6), .int (bb 8 7), .int (bb 8 8)])), (a1, .inr (6, [.ref a2, .ref a3, .ref a4, .int (nI nh)])), (a2, .inl (aT 0, 6, .inl (bb 0))), (a3, .inl (aT 0, 6, .inl (bb 1))), (a4, .inl (aT 0, 6, .inl (bb 2))), (a10, .inl (aT 0, 4, .inl (bb 7)))]) (cx_runV C hml hl.1 hZ hW hA (As := [.int x]) (rest := []) (k_X5_require l hfl D aT a5 a6 a7 a8 a9 (bb 3) (bb 4) (bb 5) (bb 6) nm (bb 8 0) hO.1 x) gV_X7_X5_require_101 hV_X5_require rfl ⟨Nat.le_of_ble_eq_true rfl, Nat.le_of_ble_eq_true rfl⟩ ⟨Nat.le_of_ble_eq_true rfl, Nat.le_of_ble_eq_true rfl⟩ [5, 6, 7, 8, 9] rfl (by decide) 5 8 rfl rfl rfl rfl (Nat.le_of_ble_eq_true rfl) dX7_newAmendment_5) hW hA [5, 6, 7, 8, 9] [0, 1, 2, 3, 4, 10] rfl rfl (by decide) (by decide) (fun E ce q9 W9 H9 locs9 hE hW9 h7 h8 h9 => by
      obtain ⟨hE1, hE2, rfl⟩ := hE
      exact cx_out C hex hlocks (Wd := [(a0, .inr (10, [.ref a1, .ref a5, .ref a10, .int (bb 8 1), .int (bb 8 2), .int (bb 8 3), .int (bb 8 4), .int (bb 8 5), .int (bb 8 6), .int (bb 8 7), .int (bb 8 8)])), (a1, .inr (6, [.ref a2, .ref a3, .ref a4, .int (nI nh)])), (a2, .inl (aT 0, 6, .inl (bb 0))), (a3, .inl (aT 0, 6, .inl (bb 1))), (a4, .inl (aT 0, 6, .inl (bb 2))), (a5, .inr (8, [.ref a6, .ref a7, .ref a8, .ref a9, .int (nI nm), .int (bb 8 0)])), (a6, .inl (aT 0, 12, .inl (bb 3))), (a7, .inl (aT 0, 12, .inl (bb 4))), (a8, .inl (aT 0, 12, .inl (bb 5))), (a9, .inl (aT 0, 12, .inl (bb 6))), (a10, .inl (aT 0, 4, .inl (bb 7)))]) (cx_drop hW9 [0, 1, 2, 3, 4, 6, 7, 8, 9, 10, 5] rfl (by decide)) h7 h8 h9 ⟨Nat.le_of_ble_eq_true rfl, Nat.le_of_ble_eq_true rfl⟩ (⟨Or.inl ⟨hE1, (by rw [← hB.fnd_eq]; exact hE2)⟩, rfl⟩)) (fun r_5 W_5 H locs hq hW => ?_)
  obtain ⟨⟨q_5, hq_5, hqn_5, rfl⟩, rfl⟩ := hq
  refine lv_istore (lv' := [(4, .int (nI q_5)), (0, .ref a0), (1, .int x), (2, .int y), (3, .int z)]) hx hb dX7_newAmendment_8 hl (by decide) rfl (fun ls hl => ?_)
  refine lv_iload_n hx hb dX7_newAmendment_10 rfl (lv_at hl 3 rfl) ?_
  refine lv_iload_n hx hb dX7_newAmendment_11 rfl (lv_at hl 4 rfl) ?_
  refine cx_callv (Wr := [(a0, .inr (10, [.ref a1, .ref a5, .ref a10, .int (bb 8 1), .int (bb 8 2), .int (bb 8 3), .int (bb 8 4), .int (bb 8 5), .int (bb 8 6), .int (bb 8 7), .int (bb 8 8)])), (a1, .inr (6, [.ref a2, .ref a3, .ref a4, .int (nI nh)])), (a2, .inl (aT 0, 6, .inl (bb 0))), (a3, .inl (aT 0, 6, .inl (bb 1))), (a4, .inl (aT 0, 6, .inl (bb 2))), (a10, .inl (aT 0, 4, .inl (bb 7))), (a5, .inr (8, [.ref a6, .ref a7, .ref a8, .ref a9, .int (nI nm), .int (bb 8 0)])), (a6, .inl (aT 0, 12, .inl (bb 3))), (a7, .inl (aT 0, 12, .inl (bb 4))), (a8, .inl (aT 0, 12, .inl (bb 5))), (a9, .inl (aT 0, 12, .inl (bb 6)))]) (cx_runS C hml hl.1 hZ hW hA (As := [.int y, .int z]) (rest := []) (k_X7_requireToneAndWeight l hfl D aT y z) gS_X7_X7_requireToneAndWeight_91 hS_X7_requireToneAndWeight rfl ⟨Nat.le_of_ble_eq_true rfl, Nat.le_of_ble_eq_true rfl⟩ ⟨Nat.le_of_ble_eq_true rfl, Nat.le_of_ble_eq_true rfl⟩ [] rfl (by decide) rfl (Nat.le_of_ble_eq_true rfl) dX7_newAmendment_12) hW hA [] [0, 1, 2, 3, 4, 5, 6, 7, 8, 9, 10] rfl rfl (by decide) (by decide) (fun E ce q9 W9 H9 locs9 hE hW9 h7 h8 h9 => by
      obtain ⟨hE, rfl⟩ := hE
      exact cx_out C hex hlocks (Wd := [(a0, .inr (10, [.ref a1, .ref a5, .ref a10, .int (bb 8 1), .int (bb 8 2), .int (bb 8 3), .int (bb 8 4), .int (bb 8 5), .int (bb 8 6), .int (bb 8 7), .int (bb 8 8)])), (a1, .inr (6, [.ref a2, .ref a3, .ref a4, .int (nI nh)])), (a2, .inl (aT 0, 6, .inl (bb 0))), (a3, .inl (aT 0, 6, .inl (bb 1))), (a4, .inl (aT 0, 6, .inl (bb 2))), (a5, .inr (8, [.ref a6, .ref a7, .ref a8, .ref a9, .int (nI nm), .int (bb 8 0)])), (a6, .inl (aT 0, 12, .inl (bb 3))), (a7, .inl (aT 0, 12, .inl (bb 4))), (a8, .inl (aT 0, 12, .inl (bb 5))), (a9, .inl (aT 0, 12, .inl (bb 6))), (a10, .inl (aT 0, 4, .inl (bb 7)))]) (cx_drop hW9 [0, 1, 2, 3, 4, 6, 7, 8, 9, 10, 5] rfl (by decide)) h7 h8 h9 ⟨Nat.le_of_ble_eq_true rfl, Nat.le_of_ble_eq_true rfl⟩ (⟨Or.inr ⟨⟨q_5, (by rw [← hB.fnd_eq]; exact hq_5)⟩, Or.inl hE⟩, rfl⟩)) (fun W_12 H locs hq hW => ?_)
  obtain ⟨hok_12, rfl⟩ := hq
  refine lv_aload_n hx hb dX7_newAmendment_15 rfl (lv_at hl 1 rfl) ?_
  refine cx_callv (Wr := []) (cx_runV C hml hl.1 hZ hW hA (As := []) (rest := []) (k_X7_requireRoom l hfl D aT a0 a1 a2 a3 a4 a5 a6 a7 a8 a9 a10 bb nh nm hO.1) gV_X7_X7_requireRoom_95 hV_X7_requireRoom rfl ⟨Nat.le_of_ble_eq_true rfl, Nat.le_of_ble_eq_true rfl⟩ ⟨Nat.le_of_ble_eq_true rfl, Nat.le_of_ble_eq_true rfl⟩ [0, 1, 2, 3, 4, 6, 7, 8, 9, 10, 5] rfl (by decide) 0 10 rfl rfl rfl rfl (Nat.le_of_ble_eq_true rfl) dX7_newAmendment_16) hW hA [0, 1, 2, 3, 4, 6, 7, 8, 9, 10, 5] [] rfl rfl (by decide) (by decide) (fun E ce q9 W9 H9 locs9 hE hW9 h7 h8 h9 => by
      obtain ⟨hE, rfl⟩ := hE
      exact cx_out C hex hlocks (Wd := [(a0, .inr (10, [.ref a1, .ref a5, .ref a10, .int (bb 8 1), .int (bb 8 2), .int (bb 8 3), .int (bb 8 4), .int (bb 8 5), .int (bb 8 6), .int (bb 8 7), .int (bb 8 8)])), (a1, .inr (6, [.ref a2, .ref a3, .ref a4, .int (nI nh)])), (a2, .inl (aT 0, 6, .inl (bb 0))), (a3, .inl (aT 0, 6, .inl (bb 1))), (a4, .inl (aT 0, 6, .inl (bb 2))), (a5, .inr (8, [.ref a6, .ref a7, .ref a8, .ref a9, .int (nI nm), .int (bb 8 0)])), (a6, .inl (aT 0, 12, .inl (bb 3))), (a7, .inl (aT 0, 12, .inl (bb 4))), (a8, .inl (aT 0, 12, .inl (bb 5))), (a9, .inl (aT 0, 12, .inl (bb 6))), (a10, .inl (aT 0, 4, .inl (bb 7)))]) (cx_drop hW9 [0, 1, 2, 3, 4, 5, 6, 7, 8, 9, 10] rfl (by decide)) h7 h8 h9 ⟨Nat.le_of_ble_eq_true rfl, Nat.le_of_ble_eq_true rfl⟩ (⟨Or.inr ⟨⟨q_5, (by rw [← hB.fnd_eq]; exact hq_5)⟩, Or.inr ⟨hE.1, hok_12, hE.2⟩⟩, rfl⟩)) (fun W_16 H locs hq hW => ?_)
  obtain ⟨hr_16, rfl⟩ := hq
  refine lv_aload_n hx hb dX7_newAmendment_19 rfl (lv_at hl 1 rfl) ?_
  refine lv_iload hx hb dX7_newAmendment_20 (lv_at hl 0 rfl) ?_
  refine lv_iload_n hx hb dX7_newAmendment_22 rfl (lv_at hl 3 rfl) ?_
  refine lv_iload_n hx hb dX7_newAmendment_23 rfl (lv_at hl 4 rfl) ?_
  refine cx_calli (Wr := []) (cx_runV C hml hl.1 hZ hW hA (As := [.int (nI q_5), .int y, .int z]) (rest := []) (k_X7_begin l hfl D aT a0 a1 a2 a3 a4 a5 a6 a7 a8 a9 a10 bb nh nm (nI q_5) y z hr_16) gV_X7_X7_begin_98 hV_X7_begin rfl ⟨Nat.le_of_ble_eq_true rfl, Nat.le_of_ble_eq_true rfl⟩ ⟨Nat.le_of_ble_eq_true rfl, Nat.le_of_ble_eq_true rfl⟩ [0, 1, 2, 3, 4, 5, 6, 7, 8, 9, 10] rfl (by decide) 0 10 rfl rfl rfl rfl (Nat.le_of_ble_eq_true rfl) dX7_newAmendment_24) hW hA [0, 1, 2, 3, 4, 5, 6, 7, 8, 9, 10] [] rfl rfl (by decide) (by decide) (fun _ _ _ _ _ _ h9 => h9.elim) (fun r_24 W_24 H locs hq hW => ?_)
  obtain ⟨rfl, rfl⟩ := hq
  exact cx_iret C hr hlocks rfl hW ⟨Nat.le_of_ble_eq_true rfl, Nat.le_of_ble_eq_true rfl⟩ (by
      obtain ⟨t, et, ht, -⟩ := rg_of (a := 0) (b := 9) (x := y) (by have h5 := hok_12; rw [Bool.and_eq_true] at h5; exact h5.1) (Or.inl (by decide)) (bb := 9) (by decide) (by decide)
      have ex : x = oi ((some q_5).map (idM M)) := (by rw [hB.2.1] at hqn_5; have h5 := (fnd_some hq_5).2.1; rw [← h5, (hB.2.2.2.1 q_5 (by rw [hB.2.1]; exact hqn_5)).1]; exact (hC.1.2.2.1 q_5 hqn_5).1)
      have h6 := hB.addm (po := some q_5) (w := z) hC (by omega) hr_16 (fun j hj => by cases hj; exact hqn_5) ht
      rw [← ex, ← et] at h6
      subst et
      exact ⟨_, ⟨⟨q_5, (by rw [← hB.fnd_eq]; exact hq_5)⟩, hok_12, hr_16, hB.2.2.2.2.2.1.1⟩, h6, rfl⟩) dX7_newAmendment_27
theorem dX7_growTip_0 : decode cX7_growTip 0 = .ok (.aload_n 0, 1) := by decide +kernel
theorem dX7_growTip_1 : decode cX7_growTip 1 = .ok (.getfield 21, 3) := by decide +kernel
theorem dX7_growTip_4 : decode cX7_growTip 4 = .ok (.aload_n 0, 1) := by decide +kernel
theorem dX7_growTip_5 : decode cX7_growTip 5 = .ok (.getfield 21, 3) := by decide +kernel
theorem dX7_growTip_8 : decode cX7_growTip 8 = .ok (.iload_n 1, 1) := by decide +kernel
theorem dX7_growTip_9 : decode cX7_growTip 9 = .ok (.invokevirtual 101, 3) := by decide +kernel
theorem dX7_growTip_12 : decode cX7_growTip 12 = .ok (.invokevirtual 105, 3) := by decide +kernel
theorem dX7_growTip_15 : decode cX7_growTip 15 = .ok (.istore_n 2, 1) := by decide +kernel
theorem dX7_growTip_16 : decode cX7_growTip 16 = .ok (.aload_n 0, 1) := by decide +kernel
theorem dX7_growTip_17 : decode cX7_growTip 17 = .ok (.invokevirtual 95, 3) := by decide +kernel
theorem dX7_growTip_20 : decode cX7_growTip 20 = .ok (.aload_n 0, 1) := by decide +kernel
theorem dX7_growTip_21 : decode cX7_growTip 21 = .ok (.getfield 21, 3) := by decide +kernel
theorem dX7_growTip_24 : decode cX7_growTip 24 = .ok (.getfield 108, 3) := by decide +kernel
theorem dX7_growTip_27 : decode cX7_growTip 27 = .ok (.iload_n 2, 1) := by decide +kernel
theorem dX7_growTip_28 : decode cX7_growTip 28 = .ok (.iaload, 1) := by decide +kernel
theorem dX7_growTip_29 : decode cX7_growTip 29 = .ok (.bipush 9, 2) := by decide +kernel
theorem dX7_growTip_31 : decode cX7_growTip 31 = .ok (.if_icmp .ne 7, 3) := by decide +kernel
theorem dX7_growTip_34 : decode cX7_growTip 34 = .ok (.iconst 0, 1) := by decide +kernel
theorem dX7_growTip_35 : decode cX7_growTip 35 = .ok (.goto 14, 3) := by decide +kernel
theorem dX7_growTip_38 : decode cX7_growTip 38 = .ok (.aload_n 0, 1) := by decide +kernel
theorem dX7_growTip_39 : decode cX7_growTip 39 = .ok (.getfield 21, 3) := by decide +kernel
theorem dX7_growTip_42 : decode cX7_growTip 42 = .ok (.getfield 108, 3) := by decide +kernel
theorem dX7_growTip_45 : decode cX7_growTip 45 = .ok (.iload_n 2, 1) := by decide +kernel
theorem dX7_growTip_46 : decode cX7_growTip 46 = .ok (.iaload, 1) := by decide +kernel
theorem dX7_growTip_47 : decode cX7_growTip 47 = .ok (.iconst 1, 1) := by decide +kernel
theorem dX7_growTip_48 : decode cX7_growTip 48 = .ok (.iadd, 1) := by decide +kernel
theorem dX7_growTip_49 : decode cX7_growTip 49 = .ok (.istore_n 3, 1) := by decide +kernel
theorem dX7_growTip_50 : decode cX7_growTip 50 = .ok (.aload_n 0, 1) := by decide +kernel
theorem dX7_growTip_51 : decode cX7_growTip 51 = .ok (.iload_n 2, 1) := by decide +kernel
theorem dX7_growTip_52 : decode cX7_growTip 52 = .ok (.iload_n 3, 1) := by decide +kernel
theorem dX7_growTip_53 : decode cX7_growTip 53 = .ok (.iconst 1, 1) := by decide +kernel
theorem dX7_growTip_54 : decode cX7_growTip 54 = .ok (.aload_n 0, 1) := by decide +kernel
theorem dX7_growTip_55 : decode cX7_growTip 55 = .ok (.getfield 21, 3) := by decide +kernel
theorem dX7_growTip_58 : decode cX7_growTip 58 = .ok (.getfield 111, 3) := by decide +kernel
theorem dX7_growTip_61 : decode cX7_growTip 61 = .ok (.iload_n 2, 1) := by decide +kernel
theorem dX7_growTip_62 : decode cX7_growTip 62 = .ok (.iaload, 1) := by decide +kernel
theorem dX7_growTip_63 : decode cX7_growTip 63 = .ok (.iconst 2, 1) := by decide +kernel
theorem dX7_growTip_64 : decode cX7_growTip 64 = .ok (.idiv, 1) := by decide +kernel
theorem dX7_growTip_65 : decode cX7_growTip 65 = .ok (.invokestatic 114, 3) := by decide +kernel
theorem dX7_growTip_68 : decode cX7_growTip 68 = .ok (.invokevirtual 98, 3) := by decide +kernel
theorem dX7_growTip_71 : decode cX7_growTip 71 = .ok (.ireturn, 1) := by decide +kernel
theorem gV_X7_X5_lastTipOf_105 : GoodIn gw (wsV RX7 105 RX5 yX5_lastTipOf (Cond.code yX5_lastTipOf cX5_lastTipOf 3 (some .int) :: gw)) := gdV gw_748 gw_749 gw_750 gw_70 gw_751
theorem hV_X5_lastTipOf : yX5_lastTipOf.cls = RX5 ∧ yX5_lastTipOf.cls ≠ "java/lang/invoke/MethodHandle" ∧ yX5_lastTipOf.cls ≠ "java/lang/invoke/VarHandle" ∧ (parseMethodDescriptor yX5_lastTipOf.desc).map (fun d => d.parameters.length) = some 1 := ⟨rfl, by decide +kernel, by decide +kernel, by decide +kernel⟩
set_option maxHeartbeats 2000000 in
set_option maxRecDepth 20000 in
theorem k_X7_growTip (l : Launch) (hfl : l.stackTraces = false) (D : va_G) (aT : Nat → ClassId) (a0 : Nat) (a1 : Nat) (a2 : Nat) (a3 : Nat) (a4 : Nat) (a5 : Nat) (a6 : Nat) (a7 : Nat) (a8 : Nat) (a9 : Nat) (a10 : Nat) (bb : Nat → Nat → Int32) (nh : Nat) (nm : Nat) (M : Nat → Int32) (Bd : Nat) (hBd : Bd < 1048000) (hC : CoW M Bd) (hB : BlC bb nh nm M) (x : Int32) : CxG l yX7_growTip cX7_growTip 4 (some (.int)) 7 2 12 112 D aT [.ref a0, .int x] [(a0, .inr (10, [.ref a1, .ref a5, .ref a10, .int (bb 8 1), .int (bb 8 2), .int (bb 8 3), .int (bb 8 4), .int (bb 8 5), .int (bb 8 6), .int (bb 8 7), .int (bb 8 8)])), (a1, .inr (6, [.ref a2, .ref a3, .ref a4, .int (nI nh)])), (a2, .inl (aT 0, 6, .inl (bb 0))), (a3, .inl (aT 0, 6, .inl (bb 1))), (a4, .inl (aT 0, 6, .inl (bb 2))), (a5, .inr (8, [.ref a6, .ref a7, .ref a8, .ref a9, .int (nI nm), .int (bb 8 0)])), (a6, .inl (aT 0, 12, .inl (bb 3))), (a7, .inl (aT 0, 12, .inl (bb 4))), (a8, .inl (aT 0, 12, .inl (bb 5))), (a9, .inl (aT 0, 12, .inl (bb 6))), (a10, .inl (aT 0, 4, .inl (bb 7)))] (qI D aT (fun r W1 => ∃ (q t : Nat) (b2 : Nat → Nat → Int32), (fnd (fun k => M (29 + 4 * k)) x nm = some q ∧ nm < 12 ∧ ltp (prM M) nm q nm = some t ∧ r = M 1) ∧ BlC b2 nh (nm + 1) (addF M (nM M) (M (29 + 4 * t)) (nI ((tnM M t + 1) % 10)) (hlfF (M (29 + 4 * t + 3)))) ∧ W1 = ([(a0, .inr (10, [.ref a1, .ref a5, .ref a10, .int (b2 8 1), .int (b2 8 2), .int (b2 8 3), .int (b2 8 4), .int (b2 8 5), .int (b2 8 6), .int (b2 8 7), .int (b2 8 8)])), (a1, .inr (6, [.ref a2, .ref a3, .ref a4, .int (nI nh)])), (a2, .inl (aT 0, 6, .inl (b2 0))), (a3, .inl (aT 0, 6, .inl (b2 1))), (a4, .inl (aT 0, 6, .inl (b2 2))), (a5, .inr (8, [.ref a6, .ref a7, .ref a8, .ref a9, .int (nI (nm + 1)), .int (b2 8 0)])), (a6, .inl (aT 0, 12, .inl (b2 3))), (a7, .inl (aT 0, 12, .inl (b2 4))), (a8, .inl (aT 0, 12, .inl (b2 5))), (a9, .inl (aT 0, 12, .inl (b2 6))), (a10, .inl (aT 0, 4, .inl (b2 7)))] : va_W))) (fun E W1 => ((E = "java/util/NoSuchElementException" ∧ fnd (fun k => M (29 + 4 * k)) x nm = none) ∨ ((∃ q, fnd (fun k => M (29 + 4 * k)) x nm = some q) ∧ E = "java/lang/IllegalStateException" ∧ nm = 12)) ∧ W1 = ([(a0, .inr (10, [.ref a1, .ref a5, .ref a10, .int (bb 8 1), .int (bb 8 2), .int (bb 8 3), .int (bb 8 4), .int (bb 8 5), .int (bb 8 6), .int (bb 8 7), .int (bb 8 8)])), (a1, .inr (6, [.ref a2, .ref a3, .ref a4, .int (nI nh)])), (a2, .inl (aT 0, 6, .inl (bb 0))), (a3, .inl (aT 0, 6, .inl (bb 1))), (a4, .inl (aT 0, 6, .inl (bb 2))), (a5, .inr (8, [.ref a6, .ref a7, .ref a8, .ref a9, .int (nI nm), .int (bb 8 0)])), (a6, .inl (aT 0, 12, .inl (bb 3))), (a7, .inl (aT 0, 12, .inl (bb 4))), (a8, .inl (aT 0, 12, .inl (bb 5))), (a9, .inl (aT 0, 12, .inl (bb 6))), (a10, .inl (aT 0, 4, .inl (bb 7)))] : va_W)) := by
  have hH := hB.he hC
  have hO := hB.mo hC
  refine CxG.of RX7 (by decide +kernel) rfl (Nat.le_of_ble_eq_true rfl) ?_
  intro p e s m below meth c A ls C hml hl hA hr hlocks hex hnm hZ hW
  have hl : lv_has ls 4 [(0, .ref a0), (1, .int x)] := hl
  have hx := C.1
  have hb := C.2.1
  refine lv_aload_n hx hb dX7_growTip_0 rfl (lv_at hl 0 rfl) ?_
  refine cx_get C hW 0 1 rfl rfl (by decide) inX7 gw_181 rfl rfl dX7_growTip_1 ?_
  refine lv_aload_n hx hb dX7_growTip_4 rfl (lv_at hl 0 rfl) ?_
  refine cx_get C hW 0 1 rfl rfl (by decide) inX7 gw_181 rfl rfl dX7_growTip_5 ?_
  refine lv_iload_n hx hb dX7_growTip_8 rfl (lv_at hl 1 rfl) ?_
  refine cx_calli (Wr := [(a0, .inr (10, [.ref a1, .ref a5, .ref a10, .int (bb 8 1), .int (bb 8 2), .int (bb 8 3), .int (bb 8 4), .int (bb 8 5), .int (bb 8 6), .int (bb 8 7), .int (bb 8 8)])), (a1, .inr (6, [.ref a2, .ref a3, .ref a4, .int (nI nh)])), (a2, .inl (aT 0, 6, .inl (bb 0))), (a3, .inl (aT 0, 6, .inl (bb 1))), (a4, .inl (aT 0, 6, .inl (bb 2))), (a10, .inl (aT 0, 4, .inl (bb 7)))]) (cx_runV C hml hl.1 hZ hW hA (As := [.int x]) (rest := [.ref a5]) (k_X5_require l hfl D aT a5 a6 a7 a8 a9 (bb 3) (bb 4) (bb 5) (bb 6) nm (bb 8 0) hO.1 x) gV_X7_X5_require_101 hV_X5_require rfl ⟨Nat.le_of_ble_eq_true rfl, Nat.le_of_ble_eq_true rfl⟩ ⟨Nat.le_of_ble_eq_true rfl, Nat.le_of_ble_eq_true rfl⟩ [5, 6, 7, 8, 9] rfl (by decide) 5 8 rfl rfl rfl rfl (Nat.le_of_ble_eq_true rfl) dX7_growTip_9) hW hA [5, 6, 7, 8, 9] [0, 1, 2, 3, 4, 10] rfl rfl (by decide) (by decide) (fun E ce q9 W9 H9 locs9 hE hW9 h7 h8 h9 => by
      obtain ⟨hE1, hE2, rfl⟩ := hE
      exact cx_out C hex hlocks (Wd := [(a0, .inr (10, [.ref a1, .ref a5, .ref a10, .int (bb 8 1), .int (bb 8 2), .int (bb 8 3), .int (bb 8 4), .int (bb 8 5), .int (bb 8 6), .int (bb 8 7), .int (bb 8 8)])), (a1, .inr (6, [.ref a2, .ref a3, .ref a4, .int (nI nh)])), (a2, .inl (aT 0, 6, .inl (bb 0))), (a3, .inl (aT 0, 6, .inl (bb 1))), (a4, .inl (aT 0, 6, .inl (bb 2))), (a5, .inr (8, [.ref a6, .ref a7, .ref a8, .ref a9, .int (nI nm), .int (bb 8 0)])), (a6, .inl (aT 0, 12, .inl (bb 3))), (a7, .inl (aT 0, 12, .inl (bb 4))), (a8, .inl (aT 0, 12, .inl (bb 5))), (a9, .inl (aT 0, 12, .inl (bb 6))), (a10, .inl (aT 0, 4, .inl (bb 7)))]) (cx_drop hW9 [0, 1, 2, 3, 4, 6, 7, 8, 9, 10, 5] rfl (by decide)) h7 h8 h9 ⟨Nat.le_of_ble_eq_true rfl, Nat.le_of_ble_eq_true rfl⟩ (⟨Or.inl ⟨hE1, (by rw [← hB.fnd_eq]; exact hE2)⟩, rfl⟩)) (fun r_9 W_9 H locs hq hW => ?_)
  obtain ⟨⟨q_9, hq_9, hqn_9, rfl⟩, rfl⟩ := hq
  refine cx_calli (Wr := [(a0, .inr (10, [.ref a1, .ref a5, .ref a10, .int (bb 8 1), .int (bb 8 2), .int (bb 8 3), .int (bb 8 4), .int (bb 8 5), .int (bb 8 6), .int (bb 8 7), .int (bb 8 8)])), (a1, .inr (6, [.ref a2, .ref a3, .ref a4, .int (nI nh)])), (a2, .inl (aT 0, 6, .inl (bb 0))), (a3, .inl (aT 0, 6, .inl (bb 1))), (a4, .inl (aT 0, 6, .inl (bb 2))), (a10, .inl (aT 0, 4, .inl (bb 7)))]) (cx_runV C hml hl.1 hZ hW hA (As := [.int (nI q_9)]) (rest := []) (k_X5_lastTipOf l hfl D aT a5 a6 a7 a8 a9 (bb 3) (bb 4) (bb 5) (bb 6) nm (bb 8 0) (idM M) (prM M) (tnM M) hO q_9 hqn_9) gV_X7_X5_lastTipOf_105 hV_X5_lastTipOf rfl ⟨Nat.le_of_ble_eq_true rfl, Nat.le_of_ble_eq_true rfl⟩ ⟨Nat.le_of_ble_eq_true rfl, Nat.le_of_ble_eq_true rfl⟩ [6, 7, 8, 9, 10] rfl (by decide) 6 8 rfl rfl rfl rfl (Nat.le_of_ble_eq_true rfl) dX7_growTip_12) hW hA [6, 7, 8, 9, 10] [0, 1, 2, 3, 4, 5] rfl rfl (by decide) (by decide) (fun _ _ _ _ _ _ h9 => h9.elim) (fun r_12 W_12 H locs hq hW => ?_)
  obtain ⟨⟨t_12, ht_12, htn_12, rfl⟩, rfl⟩ := hq
  refine lv_istore_n (lv' := [(2, .int (nI t_12)), (0, .ref a0), (1, .int x)]) hx hb dX7_growTip_15 rfl hl (by decide) rfl (fun ls hl => ?_)
  refine lv_aload_n hx hb dX7_growTip_16 rfl (lv_at hl 1 rfl) ?_
  refine cx_callv (Wr := []) (cx_runV C hml hl.1 hZ hW hA (As := []) (rest := []) (k_X7_requireRoom l hfl D aT a0 a1 a2 a3 a4 a5 a6 a7 a8 a9 a10 bb nh nm hO.1) gV_X7_X7_requireRoom_95 hV_X7_requireRoom rfl ⟨Nat.le_of_ble_eq_true rfl, Nat.le_of_ble_eq_true rfl⟩ ⟨Nat.le_of_ble_eq_true rfl, Nat.le_of_ble_eq_true rfl⟩ [0, 1, 2, 3, 4, 6, 7, 8, 9, 10, 5] rfl (by decide) 0 10 rfl rfl rfl rfl (Nat.le_of_ble_eq_true rfl) dX7_growTip_17) hW hA [0, 1, 2, 3, 4, 6, 7, 8, 9, 10, 5] [] rfl rfl (by decide) (by decide) (fun E ce q9 W9 H9 locs9 hE hW9 h7 h8 h9 => by
      obtain ⟨hE, rfl⟩ := hE
      exact cx_out C hex hlocks (Wd := [(a0, .inr (10, [.ref a1, .ref a5, .ref a10, .int (bb 8 1), .int (bb 8 2), .int (bb 8 3), .int (bb 8 4), .int (bb 8 5), .int (bb 8 6), .int (bb 8 7), .int (bb 8 8)])), (a1, .inr (6, [.ref a2, .ref a3, .ref a4, .int (nI nh)])), (a2, .inl (aT 0, 6, .inl (bb 0))), (a3, .inl (aT 0, 6, .inl (bb 1))), (a4, .inl (aT 0, 6, .inl (bb 2))), (a5, .inr (8, [.ref a6, .ref a7, .ref a8, .ref a9, .int (nI nm), .int (bb 8 0)])), (a6, .inl (aT 0, 12, .inl (bb 3))), (a7, .inl (aT 0, 12, .inl (bb 4))), (a8, .inl (aT 0, 12, .inl (bb 5))), (a9, .inl (aT 0, 12, .inl (bb 6))), (a10, .inl (aT 0, 4, .inl (bb 7)))]) (cx_drop hW9 [0, 1, 2, 3, 4, 5, 6, 7, 8, 9, 10] rfl (by decide)) h7 h8 h9 ⟨Nat.le_of_ble_eq_true rfl, Nat.le_of_ble_eq_true rfl⟩ (⟨Or.inr ⟨⟨q_9, (by rw [← hB.fnd_eq]; exact hq_9)⟩, hE⟩, rfl⟩)) (fun W_17 H locs hq hW => ?_)
  obtain ⟨hr_17, rfl⟩ := hq
  refine lv_aload_n hx hb dX7_growTip_20 rfl (lv_at hl 1 rfl) ?_
  refine cx_get C hW 0 1 rfl rfl (by decide) inX7 gw_181 rfl rfl dX7_growTip_21 ?_
  refine cx_getN C hZ hW 5 1 rfl rfl (by decide) inX5 nw_151 rfl rfl dX7_growTip_24 ?_
  refine lv_iload_n hx hb dX7_growTip_27 rfl (lv_at hl 0 rfl) ?_
  refine cx_ald C hW 7 0 (j := t_12) rfl rfl rfl (by have := hO.1; omega) (by decide) dX7_growTip_28 ?_
  refine r_eq (y := (nI (tnM M t_12))) ((hO.2.2.2.2.2 t_12 (by first | assumption | omega)).1) ?_
  refine lv_bipush (v := nI 9) hx hb dX7_growTip_29 (by decide) ?_
  refine r_neN hx hb (a := tnM M t_12) (b := 9) (by have := (hO.2.2.2.2.2 t_12 htn_12).2; omega) (by have := (hO.2.2.2.2.2 t_12 htn_12).2; omega) (tgt := 38) dX7_growTip_31 (by decide) (fun c_31 => ?_) (fun c_31 => ?_)
  · refine lv_aload_n hx hb dX7_growTip_38 rfl (lv_at hl 1 rfl) ?_
    refine cx_get C hW 0 1 rfl rfl (by decide) inX7 gw_181 rfl rfl dX7_growTip_39 ?_
    refine cx_getN C hZ hW 5 1 rfl rfl (by decide) inX5 nw_151 rfl rfl dX7_growTip_42 ?_
    refine lv_iload_n hx hb dX7_growTip_45 rfl (lv_at hl 0 rfl) ?_
    refine cx_ald C hW 7 0 (j := t_12) rfl rfl rfl (by have := hO.1; omega) (by decide) dX7_growTip_46 ?_
    refine r_eq (y := (nI (tnM M t_12))) ((hO.2.2.2.2.2 t_12 (by first | assumption | omega)).1) ?_
    refine lv_iconst (v := nI 1) hx hb dX7_growTip_47 (by decide) ?_
    refine r_iaddN hx hb (a := tnM M t_12) (b := 1) dX7_growTip_48 ?_
    refine lv_istore_n (lv' := [(3, .int (nI (tnM M t_12 + 1))), (2, .int (nI t_12)), (0, .ref a0), (1, .int x)]) hx hb dX7_growTip_49 rfl hl (by decide) rfl (fun ls hl => ?_)
    refine lv_aload_n hx hb dX7_growTip_50 rfl (lv_at hl 2 rfl) ?_
    refine lv_iload_n hx hb dX7_growTip_51 rfl (lv_at hl 1 rfl) ?_
    refine lv_iload_n hx hb dX7_growTip_52 rfl (lv_at hl 0 rfl) ?_
    refine lv_iconst (v := nI 1) hx hb dX7_growTip_53 (by decide) ?_
    refine lv_aload_n hx hb dX7_growTip_54 rfl (lv_at hl 2 rfl) ?_
    refine cx_get C hW 0 1 rfl rfl (by decide) inX7 gw_181 rfl rfl dX7_growTip_55 ?_
    refine cx_getN C hZ hW 5 2 rfl rfl (by decide) inX5 nw_154 rfl rfl dX7_growTip_58 ?_
    refine lv_iload_n hx hb dX7_growTip_61 rfl (lv_at hl 1 rfl) ?_
    refine cx_ald C hW 8 0 (j := t_12) rfl rfl rfl (by have := hO.1; omega) (by decide) dX7_growTip_62 ?_
    refine lv_iconst (v := nI 2) hx hb dX7_growTip_63 (by decide) ?_
    refine lv_idiv hx hb dX7_growTip_64 (by decide) ?_
    refine cx_max C hml hl.1 gw_757 ⟨Nat.le_of_ble_eq_true rfl, Nat.le_of_ble_eq_true rfl, Nat.le_of_ble_eq_true rfl⟩ ⟨Nat.le_of_ble_eq_true rfl, Nat.le_of_ble_eq_true rfl⟩ dX7_growTip_65 ?_
    refine cx_calli (Wr := []) (cx_runV C hml hl.1 hZ hW hA (As := [.int (nI t_12), .int (nI (tnM M t_12 + 1)), .int (if (nI 1) < (((bb 5) t_12) / (nI 2)) then (((bb 5) t_12) / (nI 2)) else (nI 1))]) (rest := []) (k_X7_begin l hfl D aT a0 a1 a2 a3 a4 a5 a6 a7 a8 a9 a10 bb nh nm (nI t_12) (nI (tnM M t_12 + 1)) (if (nI 1) < (((bb 5) t_12) / (nI 2)) then (((bb 5) t_12) / (nI 2)) else (nI 1)) hr_17) gV_X7_X7_begin_98 hV_X7_begin rfl ⟨Nat.le_of_ble_eq_true rfl, Nat.le_of_ble_eq_true rfl⟩ ⟨Nat.le_of_ble_eq_true rfl, Nat.le_of_ble_eq_true rfl⟩ [0, 1, 2, 3, 4, 5, 6, 7, 8, 9, 10] rfl (by decide) 0 10 rfl rfl rfl rfl (Nat.le_of_ble_eq_true rfl) dX7_growTip_68) hW hA [0, 1, 2, 3, 4, 5, 6, 7, 8, 9, 10] [] rfl rfl (by decide) (by decide) (fun _ _ _ _ _ _ h9 => h9.elim) (fun r_68 W_68 H locs hq hW => ?_)
    obtain ⟨rfl, rfl⟩ := hq
    exact cx_iret C hr hlocks rfl hW ⟨Nat.le_of_ble_eq_true rfl, Nat.le_of_ble_eq_true rfl⟩ (by
        have hx2 := hB.2.1
        have ei : M (29 + 4 * t_12) = oi ((some t_12).map (idM M)) := (hC.1.2.2.1 t_12 (by omega)).1
        have ew : hlfF (M (29 + 4 * t_12 + 3)) = (if nI 1 < (bb 5) t_12 / nI 2 then (bb 5) t_12 / nI 2 else nI 1) := by rw [(hB.2.2.2.1 t_12 htn_12).2.2.1]; rfl
        have h6 := hB.addm (po := some t_12) (t := (tnM M t_12 + 1)) (w := hlfF (M (29 + 4 * t_12 + 3))) hC (by omega) hr_17 (fun j hj => by cases hj; exact htn_12) (by have := (hO.2.2.2.2.2 t_12 htn_12).2; omega)
        rw [← ei] at h6
        have e10 : (tnM M t_12 + 1) % 10 = (tnM M t_12 + 1) := by have := (hO.2.2.2.2.2 t_12 htn_12).2; omega
        refine ⟨q_9, t_12, bkO (bb 0) (bb 1) (bb 2) (upd (bb 3) nm ((bb 8 0))) (upd (bb 4) nm ((nI (tnM M t_12 + 1)))) (upd (bb 5) nm ((if (nI 1) < (((bb 5) t_12) / (nI 2)) then (((bb 5) t_12) / (nI 2)) else (nI 1)))) (upd (bb 6) nm ((nI t_12))) (bb 7) ((bb 8 0) + (nI 1)) (bb 8 1) (bb 8 2) (bb 8 3) ((bb 8 4) + (if (nI 1) < (((bb 5) t_12) / (nI 2)) then (((bb 5) t_12) / (nI 2)) else (nI 1))) (bb 8 5) (bb 8 6) (bb 8 7) (bb 8 8), ⟨(by rw [← hB.fnd_eq]; exact hq_9), hr_17, ht_12, hB.2.2.2.2.2.1.1⟩, ?_, rfl⟩
        rw [e10]
        rw [ew] at h6 ⊢
        exact h6) dX7_growTip_71
  · refine lv_iconst (v := nI 0) hx hb dX7_growTip_34 (by decide) ?_
    refine lv_goto (tgt := 49) hx hb dX7_growTip_35 (by decide) ?_
    refine lv_istore_n (lv' := [(3, .int (nI 0)), (2, .int (nI t_12)), (0, .ref a0), (1, .int x)]) hx hb dX7_growTip_49 rfl hl (by decide) rfl (fun ls hl => ?_)
    refine lv_aload_n hx hb dX7_growTip_50 rfl (lv_at hl 2 rfl) ?_
    refine lv_iload_n hx hb dX7_growTip_51 rfl (lv_at hl 1 rfl) ?_
    refine lv_iload_n hx hb dX7_growTip_52 rfl (lv_at hl 0 rfl) ?_
    refine lv_iconst (v := nI 1) hx hb dX7_growTip_53 (by decide) ?_
    refine lv_aload_n hx hb dX7_growTip_54 rfl (lv_at hl 2 rfl) ?_
    refine cx_get C hW 0 1 rfl rfl (by decide) inX7 gw_181 rfl rfl dX7_growTip_55 ?_
    refine cx_getN C hZ hW 5 2 rfl rfl (by decide) inX5 nw_154 rfl rfl dX7_growTip_58 ?_
    refine lv_iload_n hx hb dX7_growTip_61 rfl (lv_at hl 1 rfl) ?_
    refine cx_ald C hW 8 0 (j := t_12) rfl rfl rfl (by have := hO.1; omega) (by decide) dX7_growTip_62 ?_
    refine lv_iconst (v := nI 2) hx hb dX7_growTip_63 (by decide) ?_
    refine lv_idiv hx hb dX7_growTip_64 (by decide) ?_
    refine cx_max C hml hl.1 gw_757 ⟨Nat.le_of_ble_eq_true rfl, Nat.le_of_ble_eq_true rfl, Nat.le_of_ble_eq_true rfl⟩ ⟨Nat.le_of_ble_eq_true rfl, Nat.le_of_ble_eq_true rfl⟩ dX7_growTip_65 ?_
    refine cx_calli (Wr := []) (cx_runV C hml hl.1 hZ hW hA (As := [.int (nI t_12), .int (nI 0), .int (if (nI 1) < (((bb 5) t_12) / (nI 2)) then (((bb 5) t_12) / (nI 2)) else (nI 1))]) (rest := []) (k_X7_begin l hfl D aT a0 a1 a2 a3 a4 a5 a6 a7 a8 a9 a10 bb nh nm (nI t_12) (nI 0) (if (nI 1) < (((bb 5) t_12) / (nI 2)) then (((bb 5) t_12) / (nI 2)) else (nI 1)) hr_17) gV_X7_X7_begin_98 hV_X7_begin rfl ⟨Nat.le_of_ble_eq_true rfl, Nat.le_of_ble_eq_true rfl⟩ ⟨Nat.le_of_ble_eq_true rfl, Nat.le_of_ble_eq_true rfl⟩ [0, 1, 2, 3, 4, 5, 6, 7, 8, 9, 10] rfl (by decide) 0 10 rfl rfl rfl rfl (Nat.le_of_ble_eq_true rfl) dX7_growTip_68) hW hA [0, 1, 2, 3, 4, 5, 6, 7, 8, 9, 10] [] rfl rfl (by decide) (by decide) (fun _ _ _ _ _ _ h9 => h9.elim) (fun r_68 W_68 H locs hq hW => ?_)
    obtain ⟨rfl, rfl⟩ := hq
    exact cx_iret C hr hlocks rfl hW ⟨Nat.le_of_ble_eq_true rfl, Nat.le_of_ble_eq_true rfl⟩ (by
        have hx2 := hB.2.1
        have ei : M (29 + 4 * t_12) = oi ((some t_12).map (idM M)) := (hC.1.2.2.1 t_12 (by omega)).1
        have ew : hlfF (M (29 + 4 * t_12 + 3)) = (if nI 1 < (bb 5) t_12 / nI 2 then (bb 5) t_12 / nI 2 else nI 1) := by rw [(hB.2.2.2.1 t_12 htn_12).2.2.1]; rfl
        have h6 := hB.addm (po := some t_12) (t := 0) (w := hlfF (M (29 + 4 * t_12 + 3))) hC (by omega) hr_17 (fun j hj => by cases hj; exact htn_12) (by have := (hO.2.2.2.2.2 t_12 htn_12).2; omega)
        rw [← ei] at h6
        have e10 : (tnM M t_12 + 1) % 10 = 0 := by omega
        refine ⟨q_9, t_12, bkO (bb 0) (bb 1) (bb 2) (upd (bb 3) nm ((bb 8 0))) (upd (bb 4) nm ((nI 0))) (upd (bb 5) nm ((if (nI 1) < (((bb 5) t_12) / (nI 2)) then (((bb 5) t_12) / (nI 2)) else (nI 1)))) (upd (bb 6) nm ((nI t_12))) (bb 7) ((bb 8 0) + (nI 1)) (bb 8 1) (bb 8 2) (bb 8 3) ((bb 8 4) + (if (nI 1) < (((bb 5) t_12) / (nI 2)) then (((bb 5) t_12) / (nI 2)) else (nI 1))) (bb 8 5) (bb 8 6) (bb 8 7) (bb 8 8), ⟨(by rw [← hB.fnd_eq]; exact hq_9), hr_17, ht_12, hB.2.2.2.2.2.1.1⟩, ?_, rfl⟩
        rw [e10]
        rw [ew] at h6 ⊢
        exact h6) dX7_growTip_71
theorem dX7_cutBack_0 : decode cX7_cutBack 0 = .ok (.aload_n 0, 1) := by decide +kernel
theorem dX7_cutBack_1 : decode cX7_cutBack 1 = .ok (.getfield 21, 3) := by decide +kernel
theorem dX7_cutBack_4 : decode cX7_cutBack 4 = .ok (.iload_n 1, 1) := by decide +kernel
theorem dX7_cutBack_5 : decode cX7_cutBack 5 = .ok (.invokevirtual 101, 3) := by decide +kernel
theorem dX7_cutBack_8 : decode cX7_cutBack 8 = .ok (.istore_n 3, 1) := by decide +kernel
theorem dX7_cutBack_9 : decode cX7_cutBack 9 = .ok (.iload_n 2, 1) := by decide +kernel
theorem dX7_cutBack_10 : decode cX7_cutBack 10 = .ok (.invokestatic 67, 3) := by decide +kernel
theorem dX7_cutBack_13 : decode cX7_cutBack 13 = .ok (.ifCond .ne 13, 3) := by decide +kernel
theorem dX7_cutBack_16 : decode cX7_cutBack 16 = .ok (.new 71, 3) := by decide +kernel
theorem dX7_cutBack_19 : decode cX7_cutBack 19 = .ok (.dup, 1) := by decide +kernel
theorem dX7_cutBack_20 : decode cX7_cutBack 20 = .ok (.ldc 120, 2) := by decide +kernel
theorem dX7_cutBack_22 : decode cX7_cutBack 22 = .ok (.invokespecial 75, 3) := by decide +kernel
theorem dX7_cutBack_25 : decode cX7_cutBack 25 = .ok (.athrow, 1) := by decide +kernel
theorem dX7_cutBack_26 : decode cX7_cutBack 26 = .ok (.aload_n 0, 1) := by decide +kernel
theorem dX7_cutBack_27 : decode cX7_cutBack 27 = .ok (.getfield 21, 3) := by decide +kernel
theorem dX7_cutBack_30 : decode cX7_cutBack 30 = .ok (.iload_n 3, 1) := by decide +kernel
theorem dX7_cutBack_31 : decode cX7_cutBack 31 = .ok (.invokevirtual 122, 3) := by decide +kernel
theorem dX7_cutBack_34 : decode cX7_cutBack 34 = .ok (.iload_n 2, 1) := by decide +kernel
theorem dX7_cutBack_35 : decode cX7_cutBack 35 = .ok (.iadd, 1) := by decide +kernel
theorem dX7_cutBack_36 : decode cX7_cutBack 36 = .ok (.istore 4, 2) := by decide +kernel
theorem dX7_cutBack_38 : decode cX7_cutBack 38 = .ok (.iconst 0, 1) := by decide +kernel
theorem dX7_cutBack_39 : decode cX7_cutBack 39 = .ok (.istore 5, 2) := by decide +kernel
theorem dX7_cutBack_41 : decode cX7_cutBack 41 = .ok (.aload_n 0, 1) := by decide +kernel
theorem dX7_cutBack_42 : decode cX7_cutBack 42 = .ok (.getfield 21, 3) := by decide +kernel
theorem dX7_cutBack_45 : decode cX7_cutBack 45 = .ok (.getfield 125, 3) := by decide +kernel
theorem dX7_cutBack_48 : decode cX7_cutBack 48 = .ok (.iconst 1, 1) := by decide +kernel
theorem dX7_cutBack_49 : decode cX7_cutBack 49 = .ok (.isub, 1) := by decide +kernel
theorem dX7_cutBack_50 : decode cX7_cutBack 50 = .ok (.istore 6, 2) := by decide +kernel
theorem dX7_cutBack_52 : decode cX7_cutBack 52 = .ok (.iload 6, 2) := by decide +kernel
theorem dX7_cutBack_54 : decode cX7_cutBack 54 = .ok (.iload_n 3, 1) := by decide +kernel
theorem dX7_cutBack_55 : decode cX7_cutBack 55 = .ok (.if_icmp .le 67, 3) := by decide +kernel
theorem dX7_cutBack_58 : decode cX7_cutBack 58 = .ok (.aload_n 0, 1) := by decide +kernel
theorem dX7_cutBack_59 : decode cX7_cutBack 59 = .ok (.getfield 21, 3) := by decide +kernel
theorem dX7_cutBack_62 : decode cX7_cutBack 62 = .ok (.iload 6, 2) := by decide +kernel
theorem dX7_cutBack_64 : decode cX7_cutBack 64 = .ok (.iload_n 3, 1) := by decide +kernel
theorem dX7_cutBack_65 : decode cX7_cutBack 65 = .ok (.invokevirtual 128, 3) := by decide +kernel
theorem dX7_cutBack_68 : decode cX7_cutBack 68 = .ok (.ifCond .eq 48, 3) := by decide +kernel
theorem dX7_cutBack_71 : decode cX7_cutBack 71 = .ok (.aload_n 0, 1) := by decide +kernel
theorem dX7_cutBack_72 : decode cX7_cutBack 72 = .ok (.getfield 21, 3) := by decide +kernel
theorem dX7_cutBack_75 : decode cX7_cutBack 75 = .ok (.iload 6, 2) := by decide +kernel
theorem dX7_cutBack_77 : decode cX7_cutBack 77 = .ok (.invokevirtual 122, 3) := by decide +kernel
theorem dX7_cutBack_80 : decode cX7_cutBack 80 = .ok (.iload 4, 2) := by decide +kernel
theorem dX7_cutBack_82 : decode cX7_cutBack 82 = .ok (.if_icmp .le 34, 3) := by decide +kernel
theorem dX7_cutBack_85 : decode cX7_cutBack 85 = .ok (.aload_n 0, 1) := by decide +kernel
theorem dX7_cutBack_86 : decode cX7_cutBack 86 = .ok (.dup, 1) := by decide +kernel
theorem dX7_cutBack_87 : decode cX7_cutBack 87 = .ok (.getfield 55, 3) := by decide +kernel
theorem dX7_cutBack_90 : decode cX7_cutBack 90 = .ok (.aload_n 0, 1) := by decide +kernel
theorem dX7_cutBack_91 : decode cX7_cutBack 91 = .ok (.getfield 21, 3) := by decide +kernel
theorem dX7_cutBack_94 : decode cX7_cutBack 94 = .ok (.getfield 111, 3) := by decide +kernel
theorem dX7_cutBack_97 : decode cX7_cutBack 97 = .ok (.iload 6, 2) := by decide +kernel
theorem dX7_cutBack_99 : decode cX7_cutBack 99 = .ok (.iaload, 1) := by decide +kernel
theorem dX7_cutBack_100 : decode cX7_cutBack 100 = .ok (.iadd, 1) := by decide +kernel
theorem dX7_cutBack_101 : decode cX7_cutBack 101 = .ok (.putfield 55, 3) := by decide +kernel
theorem dX7_cutBack_104 : decode cX7_cutBack 104 = .ok (.aload_n 0, 1) := by decide +kernel
theorem dX7_cutBack_105 : decode cX7_cutBack 105 = .ok (.getfield 21, 3) := by decide +kernel
theorem dX7_cutBack_108 : decode cX7_cutBack 108 = .ok (.iload 6, 2) := by decide +kernel
theorem dX7_cutBack_110 : decode cX7_cutBack 110 = .ok (.invokevirtual 132, 3) := by decide +kernel
theorem dX7_cutBack_113 : decode cX7_cutBack 113 = .ok (.iinc 5 1, 3) := by decide +kernel
theorem dX7_cutBack_116 : decode cX7_cutBack 116 = .ok (.iinc 6 (-1), 3) := by decide +kernel
theorem dX7_cutBack_119 : decode cX7_cutBack 119 = .ok (.goto (-67), 3) := by decide +kernel
theorem dX7_cutBack_122 : decode cX7_cutBack 122 = .ok (.iload 5, 2) := by decide +kernel
theorem dX7_cutBack_124 : decode cX7_cutBack 124 = .ok (.ireturn, 1) := by decide +kernel
theorem gV_X7_X5_depthOf_122 : GoodIn gw (wsV RX7 122 RX5 yX5_depthOf (Cond.code yX5_depthOf cX5_depthOf 4 (some .int) :: gw)) := gdV gw_731 gw_528 gw_529 gw_70 gw_530
theorem gV_X7_X5_isInBranch_128 : GoodIn gw (wsV RX7 128 RX5 yX5_isInBranch (Cond.code yX5_isInBranch cX5_isInBranch 5 (some .boolean) :: gw)) := gdV gw_732 gw_507 gw_508 gw_70 gw_509
theorem gV_X7_X5_removeTip_132 : GoodIn gw (wsV RX7 132 RX5 yX5_removeTip (Cond.code yX5_removeTip cX5_removeTip 3 (none) :: gw)) := gdV gw_733 gw_734 gw_735 gw_70 gw_736
theorem hV_X5_removeTip : yX5_removeTip.cls = RX5 ∧ yX5_removeTip.cls ≠ "java/lang/invoke/MethodHandle" ∧ yX5_removeTip.cls ≠ "java/lang/invoke/VarHandle" ∧ (parseMethodDescriptor yX5_removeTip.desc).map (fun d => d.parameters.length) = some 1 := ⟨rfl, by decide +kernel, by decide +kernel, by decide +kernel⟩
set_option maxHeartbeats 2000000 in
set_option maxRecDepth 20000 in
theorem k_X7_cutBack (l : Launch) (hfl : l.stackTraces = false) (D : va_G) (aT : Nat → ClassId) (a0 : Nat) (a1 : Nat) (a2 : Nat) (a3 : Nat) (a4 : Nat) (a5 : Nat) (a6 : Nat) (a7 : Nat) (a8 : Nat) (a9 : Nat) (a10 : Nat) (bb : Nat → Nat → Int32) (nh : Nat) (nm : Nat) (M : Nat → Int32) (Bd : Nat) (hBd : Bd < 1048000) (hC : CoW M Bd) (hB : BlC bb nh nm M) (x : Int32) (y : Int32) : CxG l yX7_cutBack cX7_cutBack 7 (some (.int)) 7 2 12 112 D aT [.ref a0, .int x, .int y] [(a0, .inr (10, [.ref a1, .ref a5, .ref a10, .int (bb 8 1), .int (bb 8 2), .int (bb 8 3), .int (bb 8 4), .int (bb 8 5), .int (bb 8 6), .int (bb 8 7), .int (bb 8 8)])), (a1, .inr (6, [.ref a2, .ref a3, .ref a4, .int (nI nh)])), (a2, .inl (aT 0, 6, .inl (bb 0))), (a3, .inl (aT 0, 6, .inl (bb 1))), (a4, .inl (aT 0, 6, .inl (bb 2))), (a5, .inr (8, [.ref a6, .ref a7, .ref a8, .ref a9, .int (nI nm), .int (bb 8 0)])), (a6, .inl (aT 0, 12, .inl (bb 3))), (a7, .inl (aT 0, 12, .inl (bb 4))), (a8, .inl (aT 0, 12, .inl (bb 5))), (a9, .inl (aT 0, 12, .inl (bb 6))), (a10, .inl (aT 0, 4, .inl (bb 7)))] (qI D aT (fun r W1 => ∃ (q v n2 : Nat) (b2 : Nat → Nat → Int32), (fnd (fun k => M (29 + 4 * k)) x nm = some q ∧ y = nI v ∧ v ≤ 9 ∧ rgB 0 9 y = true ∧ r = nI (prnR M q v).2) ∧ BlC b2 nh n2 (prnR M q v).1 ∧ W1 = ([(a0, .inr (10, [.ref a1, .ref a5, .ref a10, .int (b2 8 1), .int (b2 8 2), .int (b2 8 3), .int (b2 8 4), .int (b2 8 5), .int (b2 8 6), .int (b2 8 7), .int (b2 8 8)])), (a1, .inr (6, [.ref a2, .ref a3, .ref a4, .int (nI nh)])), (a2, .inl (aT 0, 6, .inl (b2 0))), (a3, .inl (aT 0, 6, .inl (b2 1))), (a4, .inl (aT 0, 6, .inl (b2 2))), (a5, .inr (8, [.ref a6, .ref a7, .ref a8, .ref a9, .int (nI n2), .int (b2 8 0)])), (a6, .inl (aT 0, 12, .inl (b2 3))), (a7, .inl (aT 0, 12, .inl (b2 4))), (a8, .inl (aT 0, 12, .inl (b2 5))), (a9, .inl (aT 0, 12, .inl (b2 6))), (a10, .inl (aT 0, 4, .inl (b2 7)))] : va_W))) (fun E W1 => ((E = "java/util/NoSuchElementException" ∧ fnd (fun k => M (29 + 4 * k)) x nm = none) ∨ ((∃ q, fnd (fun k => M (29 + 4 * k)) x nm = some q) ∧ E = "java/lang/IllegalArgumentException" ∧ rgB 0 9 y = false)) ∧ W1 = ([(a0, .inr (10, [.ref a1, .ref a5, .ref a10, .int (bb 8 1), .int (bb 8 2), .int (bb 8 3), .int (bb 8 4), .int (bb 8 5), .int (bb 8 6), .int (bb 8 7), .int (bb 8 8)])), (a1, .inr (6, [.ref a2, .ref a3, .ref a4, .int (nI nh)])), (a2, .inl (aT 0, 6, .inl (bb 0))), (a3, .inl (aT 0, 6, .inl (bb 1))), (a4, .inl (aT 0, 6, .inl (bb 2))), (a5, .inr (8, [.ref a6, .ref a7, .ref a8, .ref a9, .int (nI nm), .int (bb 8 0)])), (a6, .inl (aT 0, 12, .inl (bb 3))), (a7, .inl (aT 0, 12, .inl (bb 4))), (a8, .inl (aT 0, 12, .inl (bb 5))), (a9, .inl (aT 0, 12, .inl (bb 6))), (a10, .inl (aT 0, 4, .inl (bb 7)))] : va_W)) := by
  have hH := hB.he hC
  have hO := hB.mo hC
  refine CxG.of RX7 (by decide +kernel) rfl (Nat.le_of_ble_eq_true rfl) ?_
  intro p e s m below meth c A ls C hml hl hA hr hlocks hex hnm hZ hW
  have hl : lv_has ls 7 [(0, .ref a0), (1, .int x), (2, .int y)] := hl
  have hx := C.1
  have hb := C.2.1
  refine lv_aload_n hx hb dX7_cutBack_0 rfl (lv_at hl 0 rfl) ?_
  refine cx_get C hW 0 1 rfl rfl (by decide) inX7 gw_181 rfl rfl dX7_cutBack_1 ?_
  refine lv_iload_n hx hb dX7_cutBack_4 rfl (lv_at hl 1 rfl) ?_
  refine cx_calli (Wr := [(a0, .inr (10, [.ref a1, .ref a5, .ref a10, .int (bb 8 1), .int (bb 8 2), .int (bb 8 3), .int (bb 8 4), .int (bb 8 5), .int (bb 8 6), .int (bb 8 7), .int (bb 8 8)])), (a1, .inr (6, [.ref a2, .ref a3, .ref a4, .int (nI nh)])), (a2, .inl (aT 0, 6, .inl (bb 0))), (a3, .inl (aT 0, 6, .inl (bb 1))), (a4, .inl (aT 0, 6, .inl (bb 2))), (a10, .inl (aT 0, 4, .inl (bb 7)))]) (cx_runV C hml hl.1 hZ hW hA (As := [.int x]) (rest := []) (k_X5_require l hfl D aT a5 a6 a7 a8 a9 (bb 3) (bb 4) (bb 5) (bb 6) nm (bb 8 0) hO.1 x) gV_X7_X5_require_101 hV_X5_require rfl ⟨Nat.le_of_ble_eq_true rfl, Nat.le_of_ble_eq_true rfl⟩ ⟨Nat.le_of_ble_eq_true rfl, Nat.le_of_ble_eq_true rfl⟩ [5, 6, 7, 8, 9] rfl (by decide) 5 8 rfl rfl rfl rfl (Nat.le_of_ble_eq_true rfl) dX7_cutBack_5) hW hA [5, 6, 7, 8, 9] [0, 1, 2, 3, 4, 10] rfl rfl (by decide) (by decide) (fun E ce q9 W9 H9 locs9 hE hW9 h7 h8 h9 => by
      obtain ⟨hE1, hE2, rfl⟩ := hE
      exact cx_out C hex hlocks (Wd := [(a0, .inr (10, [.ref a1, .ref a5, .ref a10, .int (bb 8 1), .int (bb 8 2), .int (bb 8 3), .int (bb 8 4), .int (bb 8 5), .int (bb 8 6), .int (bb 8 7), .int (bb 8 8)])), (a1, .inr (6, [.ref a2, .ref a3, .ref a4, .int (nI nh)])), (a2, .inl (aT 0, 6, .inl (bb 0))), (a3, .inl (aT 0, 6, .inl (bb 1))), (a4, .inl (aT 0, 6, .inl (bb 2))), (a5, .inr (8, [.ref a6, .ref a7, .ref a8, .ref a9, .int (nI nm), .int (bb 8 0)])), (a6, .inl (aT 0, 12, .inl (bb 3))), (a7, .inl (aT 0, 12, .inl (bb 4))), (a8, .inl (aT 0, 12, .inl (bb 5))), (a9, .inl (aT 0, 12, .inl (bb 6))), (a10, .inl (aT 0, 4, .inl (bb 7)))]) (cx_drop hW9 [0, 1, 2, 3, 4, 6, 7, 8, 9, 10, 5] rfl (by decide)) h7 h8 h9 ⟨Nat.le_of_ble_eq_true rfl, Nat.le_of_ble_eq_true rfl⟩ (⟨Or.inl ⟨hE1, (by rw [← hB.fnd_eq]; exact hE2)⟩, rfl⟩)) (fun r_5 W_5 H locs hq hW => ?_)
  obtain ⟨⟨q_5, hq_5, hqn_5, rfl⟩, rfl⟩ := hq
  refine lv_istore_n (lv' := [(3, .int (nI q_5)), (0, .ref a0), (1, .int x), (2, .int y)]) hx hb dX7_cutBack_8 rfl hl (by decide) rfl (fun ls hl => ?_)
  refine lv_iload_n hx hb dX7_cutBack_9 rfl (lv_at hl 3 rfl) ?_
  refine cx_calli (Wr := [(a0, .inr (10, [.ref a1, .ref a5, .ref a10, .int (bb 8 1), .int (bb 8 2), .int (bb 8 3), .int (bb 8 4), .int (bb 8 5), .int (bb 8 6), .int (bb 8 7), .int (bb 8 8)])), (a1, .inr (6, [.ref a2, .ref a3, .ref a4, .int (nI nh)])), (a2, .inl (aT 0, 6, .inl (bb 0))), (a3, .inl (aT 0, 6, .inl (bb 1))), (a4, .inl (aT 0, 6, .inl (bb 2))), (a10, .inl (aT 0, 4, .inl (bb 7))), (a5, .inr (8, [.ref a6, .ref a7, .ref a8, .ref a9, .int (nI nm), .int (bb 8 0)])), (a6, .inl (aT 0, 12, .inl (bb 3))), (a7, .inl (aT 0, 12, .inl (bb 4))), (a8, .inl (aT 0, 12, .inl (bb 5))), (a9, .inl (aT 0, 12, .inl (bb 6)))]) (cx_runS C hml hl.1 hZ hW hA (As := [.int y]) (rest := []) (k_X7_isDigit l hfl D aT y) gS_X7_X7_isDigit_67 hS_X7_isDigit rfl ⟨Nat.le_of_ble_eq_true rfl, Nat.le_of_ble_eq_true rfl⟩ ⟨Nat.le_of_ble_eq_true rfl, Nat.le_of_ble_eq_true rfl⟩ [] rfl (by decide) rfl (Nat.le_of_ble_eq_true rfl) dX7_cutBack_10) hW hA [] [0, 1, 2, 3, 4, 5, 6, 7, 8, 9, 10] rfl rfl (by decide) (by decide) (fun _ _ _ _ _ _ h9 => h9.elim) (fun r_10 W_10 H locs hq hW => ?_)
  obtain ⟨rfl, rfl⟩ := hq
  refine r_bI_ne hx hb (b := (rgB 0 9 y)) (tgt := 26) dX7_cutBack_13 (by decide) (fun c_13 => ?_) (fun c_13 => ?_)
  · obtain ⟨v, ev, hv9, -⟩ := rg_of (a := 0) (b := 9) (x := y) c_13 (Or.inl (by decide)) (bb := 9) (by decide) (by decide)
    subst ev
    have hxm := hB.2.1
    have hl : lv_has ls 7 [(3, .int (nI q_5)), (0, .ref a0), (1, .int x), (2, .int (nI v))] := hl
    refine lv_aload_n hx hb dX7_cutBack_26 rfl (lv_at hl 1 rfl) ?_
    refine cx_get C hW 0 1 rfl rfl (by decide) inX7 gw_181 rfl rfl dX7_cutBack_27 ?_
    refine lv_iload_n hx hb dX7_cutBack_30 rfl (lv_at hl 0 rfl) ?_
    refine cx_calli (Wr := [(a0, .inr (10, [.ref a1, .ref a5, .ref a10, .int (bb 8 1), .int (bb 8 2), .int (bb 8 3), .int (bb 8 4), .int (bb 8 5), .int (bb 8 6), .int (bb 8 7), .int (bb 8 8)])), (a1, .inr (6, [.ref a2, .ref a3, .ref a4, .int (nI nh)])), (a2, .inl (aT 0, 6, .inl (bb 0))), (a3, .inl (aT 0, 6, .inl (bb 1))), (a4, .inl (aT 0, 6, .inl (bb 2))), (a10, .inl (aT 0, 4, .inl (bb 7)))]) (cx_runV C hml hl.1 hZ hW hA (As := [.int (nI q_5)]) (rest := []) (k_X5_depthOf l hfl D aT a5 a6 a7 a8 a9 (bb 3) (bb 4) (bb 5) (bb 6) nm (bb 8 0) (idM M) (prM M) (tnM M) hO q_5 hqn_5) gV_X7_X5_depthOf_122 hV_X5_depthOf rfl ⟨Nat.le_of_ble_eq_true rfl, Nat.le_of_ble_eq_true rfl⟩ ⟨Nat.le_of_ble_eq_true rfl, Nat.le_of_ble_eq_true rfl⟩ [6, 7, 8, 9, 10] rfl (by decide) 6 8 rfl rfl rfl rfl (Nat.le_of_ble_eq_true rfl) dX7_cutBack_31) hW hA [6, 7, 8, 9, 10] [0, 1, 2, 3, 4, 5] rfl rfl (by decide) (by decide) (fun _ _ _ _ _ _ h9 => h9.elim) (fun r_31 W_31 H locs hq hW => ?_)
    obtain ⟨rfl, rfl⟩ := hq
    refine lv_iload_n hx hb dX7_cutBack_34 rfl (lv_at hl 3 rfl) ?_
    refine r_iaddN hx hb (a := dep (prM M) q_5) (b := v) dX7_cutBack_35 ?_
    refine lv_istore (lv' := [(4, .int (nI ((dep (prM M) q_5) + v))), (3, .int (nI q_5)), (0, .ref a0), (1, .int x), (2, .int (nI v))]) hx hb dX7_cutBack_36 hl (by decide) rfl (fun ls hl => ?_)
    refine lv_iconst (v := nI 0) hx hb dX7_cutBack_38 (by decide) ?_
    refine lv_istore (lv' := [(5, .int (nI 0)), (4, .int (nI ((dep (prM M) q_5) + v))), (3, .int (nI q_5)), (0, .ref a0), (1, .int x), (2, .int (nI v))]) hx hb dX7_cutBack_39 hl (by decide) rfl (fun ls hl => ?_)
    refine lv_aload_n hx hb dX7_cutBack_41 rfl (lv_at hl 3 rfl) ?_
    refine cx_get C hW 0 1 rfl rfl (by decide) inX7 gw_181 rfl rfl dX7_cutBack_42 ?_
    refine cx_getN C hZ hW 6 4 rfl rfl (by decide) inX5 nw_163 rfl rfl dX7_cutBack_45 ?_
    refine lv_iconst (v := nI 1) hx hb dX7_cutBack_48 (by decide) ?_
    refine r_isubN hx hb (a := nm) (b := 1) (by omega) dX7_cutBack_49 ?_
    refine r_eq (congrArg nI (show nm - 1 = q_5 + (nm - 1 - q_5) by omega)) ?_
    refine lv_istore (lv' := [(6, .int (nI (q_5 + (nm - 1 - q_5)))), (5, .int (nI 0)), (4, .int (nI ((dep (prM M) q_5) + v))), (3, .int (nI q_5)), (0, .ref a0), (1, .int x), (2, .int (nI v))]) hx hb dX7_cutBack_50 hl (by decide) rfl (fun ls hl => ?_)
    refine W_loopH (σ := Nat × (Nat → Nat → Int32) × Nat × Nat × (Nat → Int32)) (fun z_ => z_.1) (fun z_ H locs g => ∃ ls, g = F0 m 52 ls [] ∧ lv_has ls 7 [(6, .int (nI (q_5 + z_.1))), (5, .int (nI z_.2.2.2.1)), (4, .int (nI (dep (prM M) q_5 + v))), (3, .int (nI q_5)), (2, .int (nI v)), (1, .int x), (0, .ref a0)] ∧ CxB D [(a0, .inr (10, [.ref a1, .ref a5, .ref a10, .int (z_.2.1 8 1), .int (z_.2.1 8 2), .int (z_.2.1 8 3), .int (z_.2.1 8 4), .int (z_.2.1 8 5), .int (z_.2.1 8 6), .int (z_.2.1 8 7), .int (z_.2.1 8 8)])), (a1, .inr (6, [.ref a2, .ref a3, .ref a4, .int (nI nh)])), (a2, .inl (aT 0, 6, .inl (z_.2.1 0))), (a3, .inl (aT 0, 6, .inl (z_.2.1 1))), (a4, .inl (aT 0, 6, .inl (z_.2.1 2))), (a10, .inl (aT 0, 4, .inl (z_.2.1 7))), (a5, .inr (8, [.ref a6, .ref a7, .ref a8, .ref a9, .int (nI z_.2.2.1), .int (z_.2.1 8 0)])), (a6, .inl (aT 0, 12, .inl (z_.2.1 3))), (a7, .inl (aT 0, 12, .inl (z_.2.1 4))), (a8, .inl (aT 0, 12, .inl (z_.2.1 5))), (a9, .inl (aT 0, 12, .inl (z_.2.1 6)))] A s.heap H locs ∧ BlC z_.2.1 nh z_.2.2.1 z_.2.2.2.2 ∧ CoW z_.2.2.2.2 Bd ∧ prnOk q_5 (dep (prM M) q_5 + v) z_.1 z_.2.2.2.2 ∧ prnF q_5 (dep (prM M) q_5 + v) z_.1 z_.2.2.2.2 z_.2.2.2.1 = prnR M q_5 v) ?_ ((nm - 1 - q_5), bb, nm, 0, M) _ ⟨_, rfl, lv_sub hl [0, 1, 2, 3, 6, 5, 4] rfl, hW, ⟨hB, hC, (by rw [hxm]; exact prnOk_0 hC.1 (by omega)), (by rw [hxm]; rfl)⟩⟩
    clear hW hl
    rintro ⟨i_, b, n, u, mm⟩ H locs g ⟨ls, rfl, hl, hW, ⟨hBl, hCl, hpo, hpf⟩⟩ ih_52
    dsimp only at hl hW hBl hCl hpo hpf ⊢
    refine lv_iload hx hb dX7_cutBack_52 (lv_at hl 0 rfl) ?_
    refine lv_iload_n hx hb dX7_cutBack_54 rfl (lv_at hl 3 rfl) ?_
    refine r_leN hx hb (a := q_5 + i_) (b := q_5) (by have h1 := hpo.2.1; have h2 := hBl.2.1; have h3 := hCl.1.n12; have h4 := hpo.2.1; omega) (by have h1 := hpo.2.1; have h2 := hBl.2.1; have h3 := hCl.1.n12; have h4 := hpo.2.1; omega) (tgt := 122) dX7_cutBack_55 (by decide) (fun c_55 => ?_) (fun c_55 => ?_)
    · refine lv_iload hx hb dX7_cutBack_122 (lv_at hl 1 rfl) ?_
      have hW : CxB D [(a0, .inr (10, [.ref a1, .ref a5, .ref a10, .int (b 8 1), .int (b 8 2), .int (b 8 3), .int (b 8 4), .int (b 8 5), .int (b 8 6), .int (b 8 7), .int (b 8 8)])), (a1, .inr (6, [.ref a2, .ref a3, .ref a4, .int (nI nh)])), (a2, .inl (aT 0, 6, .inl (b 0))), (a3, .inl (aT 0, 6, .inl (b 1))), (a4, .inl (aT 0, 6, .inl (b 2))), (a5, .inr (8, [.ref a6, .ref a7, .ref a8, .ref a9, .int (nI n), .int (b 8 0)])), (a6, .inl (aT 0, 12, .inl (b 3))), (a7, .inl (aT 0, 12, .inl (b 4))), (a8, .inl (aT 0, 12, .inl (b 5))), (a9, .inl (aT 0, 12, .inl (b 6))), (a10, .inl (aT 0, 4, .inl (b 7)))] A s.heap H _ := cx_drop hW [0, 1, 2, 3, 4, 6, 7, 8, 9, 10, 5] rfl (by decide)
      exact cx_iret C hr hlocks rfl hW ⟨Nat.le_of_ble_eq_true rfl, Nat.le_of_ble_eq_true rfl⟩ (by
          have e0 : i_ = 0 := by omega
          subst e0
          rw [prn_end] at hpf
          refine ⟨q_5, v, n, b, ⟨(by rw [← hB.fnd_eq]; exact hq_5), rfl, hv9, c_13, by rw [← hpf]⟩, by rw [← hpf]; exact hBl, rfl⟩) dX7_cutBack_124
    · obtain ⟨i, rfl⟩ : ∃ k, i_ = k + 1 := ⟨i_ - 1, by omega⟩
      have hl : lv_has ls 7 [(6, .int (nI (q_5 + (i + 1)))), (5, .int (nI u)), (4, .int (nI (dep (prM M) q_5 + v))), (3, .int (nI q_5)), (2, .int (nI v)), (1, .int x), (0, .ref a0)] := hl
      have hxn := hBl.2.1
      have hlt := hpo.2.1
      have hOl := hBl.mo hCl
      refine lv_aload_n hx hb dX7_cutBack_58 rfl (lv_at hl 6 rfl) ?_
      refine cx_get C hW 0 1 rfl rfl (by decide) inX7 gw_181 rfl rfl dX7_cutBack_59 ?_
      refine lv_iload hx hb dX7_cutBack_62 (lv_at hl 0 rfl) ?_
      refine lv_iload_n hx hb dX7_cutBack_64 rfl (lv_at hl 3 rfl) ?_
      refine cx_calli (Wr := [(a0, .inr (10, [.ref a1, .ref a5, .ref a10, .int (b 8 1), .int (b 8 2), .int (b 8 3), .int (b 8 4), .int (b 8 5), .int (b 8 6), .int (b 8 7), .int (b 8 8)])), (a1, .inr (6, [.ref a2, .ref a3, .ref a4, .int (nI nh)])), (a2, .inl (aT 0, 6, .inl (b 0))), (a3, .inl (aT 0, 6, .inl (b 1))), (a4, .inl (aT 0, 6, .inl (b 2))), (a10, .inl (aT 0, 4, .inl (b 7)))]) (cx_runV C hml hl.1 hZ hW hA (As := [.int (nI (q_5 + (i + 1))), .int (nI q_5)]) (rest := []) (k_X5_isInBranch l hfl D aT a5 a6 a7 a8 a9 (b 3) (b 4) (b 5) (b 6) n (b 8 0) (idM mm) (prM mm) (tnM mm) hOl (q_5 + (i + 1)) (show q_5 + (i + 1) < n by omega) q_5 (show q_5 < n by omega)) gV_X7_X5_isInBranch_128 hV_X5_isInBranch rfl ⟨Nat.le_of_ble_eq_true rfl, Nat.le_of_ble_eq_true rfl⟩ ⟨Nat.le_of_ble_eq_true rfl, Nat.le_of_ble_eq_true rfl⟩ [6, 7, 8, 9, 10] rfl (by decide) 6 8 rfl rfl rfl rfl (Nat.le_of_ble_eq_true rfl) dX7_cutBack_65) hW hA [6, 7, 8, 9, 10] [0, 1, 2, 3, 4, 5] rfl rfl (by decide) (by decide) (fun _ _ _ _ _ _ h9 => h9.elim) (fun r_65 W_65 H locs hq hW => ?_)
      obtain ⟨rfl, rfl⟩ := hq
      refine r_bI_eq hx hb (b := (anc (prM mm) q_5 (q_5 + (i + 1)))) (tgt := 116) dX7_cutBack_68 (by decide) (fun c_68 => ?_) (fun c_68 => ?_)
      · refine lv_iinc (v := (nI (q_5 + i))) (lv' := [(6, .int (nI (q_5 + i))), (5, .int (nI u)), (4, .int (nI (dep (prM M) q_5 + v))), (3, .int (nI q_5)), (2, .int (nI v)), (1, .int x), (0, .ref a0)]) hx hb dX7_cutBack_116 hl (k := 0) rfl (pd_1 (q_5 + i)) (by decide) rfl (fun ls hl => ?_)
        refine lv_goto (tgt := 52) hx hb dX7_cutBack_119 (by decide) ?_
        exact ih_52 (i, b, n, u, mm) _ _ _ (by first | omega | (dsimp only; omega)) ⟨_, rfl, lv_sub hl [0, 1, 2, 3, 4, 5, 6] rfl, hW, ⟨hBl, hCl, prn_skip hpo (by rintro ⟨z1, z2⟩; rw [c_68] at z1; exact absurd z1 (by decide)), (by rw [← hpf]; exact (prnF_no (by rw [Bool.and_eq_false_iff]; exact Or.inl c_68)).symm)⟩⟩
      · refine lv_aload_n hx hb dX7_cutBack_71 rfl (lv_at hl 6 rfl) ?_
        refine cx_get C hW 0 1 rfl rfl (by decide) inX7 gw_181 rfl rfl dX7_cutBack_72 ?_
        refine lv_iload hx hb dX7_cutBack_75 (lv_at hl 0 rfl) ?_
        refine cx_calli (Wr := [(a0, .inr (10, [.ref a1, .ref a5, .ref a10, .int (b 8 1), .int (b 8 2), .int (b 8 3), .int (b 8 4), .int (b 8 5), .int (b 8 6), .int (b 8 7), .int (b 8 8)])), (a1, .inr (6, [.ref a2, .ref a3, .ref a4, .int (nI nh)])), (a2, .inl (aT 0, 6, .inl (b 0))), (a3, .inl (aT 0, 6, .inl (b 1))), (a4, .inl (aT 0, 6, .inl (b 2))), (a10, .inl (aT 0, 4, .inl (b 7)))]) (cx_runV C hml hl.1 hZ hW hA (As := [.int (nI (q_5 + (i + 1)))]) (rest := []) (k_X5_depthOf l hfl D aT a5 a6 a7 a8 a9 (b 3) (b 4) (b 5) (b 6) n (b 8 0) (idM mm) (prM mm) (tnM mm) hOl (q_5 + (i + 1)) (show q_5 + (i + 1) < n by omega)) gV_X7_X5_depthOf_122 hV_X5_depthOf rfl ⟨Nat.le_of_ble_eq_true rfl, Nat.le_of_ble_eq_true rfl⟩ ⟨Nat.le_of_ble_eq_true rfl, Nat.le_of_ble_eq_true rfl⟩ [6, 7, 8, 9, 10] rfl (by decide) 6 8 rfl rfl rfl rfl (Nat.le_of_ble_eq_true rfl) dX7_cutBack_77) hW hA [6, 7, 8, 9, 10] [0, 1, 2, 3, 4, 5] rfl rfl (by decide) (by decide) (fun _ _ _ _ _ _ h9 => h9.elim) (fun r_77 W_77 H locs hq hW => ?_)
        obtain ⟨rfl, rfl⟩ := hq
        refine lv_iload hx hb dX7_cutBack_80 (lv_at hl 2 rfl) ?_
        refine r_leN hx hb (a := dep (prM mm) (q_5 + (i + 1))) (b := dep (prM M) q_5 + v) (by have h5 := hOl.1; have h6 := dep_le hOl.2.2.2.1 _ (show q_5 + (i + 1) < n by omega); have h7 := dep_le hO.2.2.2.1 q_5 hqn_5; have h8 := hO.1; omega) (by have h5 := hOl.1; have h6 := dep_le hOl.2.2.2.1 _ (show q_5 + (i + 1) < n by omega); have h7 := dep_le hO.2.2.2.1 q_5 hqn_5; have h8 := hO.1; omega) (tgt := 116) dX7_cutBack_82 (by decide) (fun c_82 => ?_) (fun c_82 => ?_)
        · refine lv_iinc (v := (nI (q_5 + i))) (lv' := [(6, .int (nI (q_5 + i))), (5, .int (nI u)), (4, .int (nI (dep (prM M) q_5 + v))), (3, .int (nI q_5)), (2, .int (nI v)), (1, .int x), (0, .ref a0)]) hx hb dX7_cutBack_116 hl (k := 0) rfl (pd_1 (q_5 + i)) (by decide) rfl (fun ls hl => ?_)
          refine lv_goto (tgt := 52) hx hb dX7_cutBack_119 (by decide) ?_
          exact ih_52 (i, b, n, u, mm) _ _ _ (by first | omega | (dsimp only; omega)) ⟨_, rfl, lv_sub hl [0, 1, 2, 3, 4, 5, 6] rfl, hW, ⟨hBl, hCl, prn_skip hpo (by rintro ⟨z1, z2⟩; exact absurd z2 (Nat.not_lt.mpr c_82)), (by rw [← hpf]; exact (prnF_no (by rw [Bool.and_eq_false_iff]; exact Or.inr (decide_eq_false (Nat.not_lt.mpr c_82)))).symm)⟩⟩
        · refine lv_aload_n hx hb dX7_cutBack_85 rfl (lv_at hl 6 rfl) ?_
          refine lv_dup hx hb dX7_cutBack_86 rfl ?_
          refine cx_get C hW 0 7 rfl rfl (by decide) inX7 gw_192 rfl rfl dX7_cutBack_87 ?_
          refine lv_aload_n hx hb dX7_cutBack_90 rfl (lv_at hl 6 rfl) ?_
          refine cx_get C hW 0 1 rfl rfl (by decide) inX7 gw_181 rfl rfl dX7_cutBack_91 ?_
          refine cx_getN C hZ hW 6 2 rfl rfl (by decide) inX5 nw_154 rfl rfl dX7_cutBack_94 ?_
          refine lv_iload hx hb dX7_cutBack_97 (lv_at hl 0 rfl) ?_
          refine cx_ald C hW 9 0 (j := q_5 + (i + 1)) rfl rfl rfl (by have := hOl.1; omega) (by decide) dX7_cutBack_99 ?_
          refine lv_iadd hx hb dX7_cutBack_100 ?_
          refine cx_put C hW 0 7 (W1 := [(a0, .inr (10, [.ref a1, .ref a5, .ref a10, .int (b 8 1), .int (b 8 2), .int (b 8 3), .int (b 8 4), .int ((b 8 5) + ((b 5) (q_5 + (i + 1)))), .int (b 8 6), .int (b 8 7), .int (b 8 8)])), (a1, .inr (6, [.ref a2, .ref a3, .ref a4, .int (nI nh)])), (a2, .inl (aT 0, 6, .inl (b 0))), (a3, .inl (aT 0, 6, .inl (b 1))), (a4, .inl (aT 0, 6, .inl (b 2))), (a10, .inl (aT 0, 4, .inl (b 7))), (a5, .inr (8, [.ref a6, .ref a7, .ref a8, .ref a9, .int (nI n), .int (b 8 0)])), (a6, .inl (aT 0, 12, .inl (b 3))), (a7, .inl (aT 0, 12, .inl (b 4))), (a8, .inl (aT 0, 12, .inl (b 5))), (a9, .inl (aT 0, 12, .inl (b 6)))]) rfl rfl (by decide) inX7 tyX7 tyX7_ok nmX7 gw_192 rfl rfl rfl rfl rfl (Nat.le_of_ble_eq_true rfl) rfl dX7_cutBack_101 (fun H locs hW => ?_)
          refine lv_aload_n hx hb dX7_cutBack_104 rfl (lv_at hl 6 rfl) ?_
          refine cx_get C hW 0 1 rfl rfl (by decide) inX7 gw_181 rfl rfl dX7_cutBack_105 ?_
          refine lv_iload hx hb dX7_cutBack_108 (lv_at hl 0 rfl) ?_
          refine cx_callv (Wr := [(a0, .inr (10, [.ref a1, .ref a5, .ref a10, .int (b 8 1), .int (b 8 2), .int (b 8 3), .int (b 8 4), .int ((b 8 5) + ((b 5) (q_5 + (i + 1)))), .int (b 8 6), .int (b 8 7), .int (b 8 8)])), (a1, .inr (6, [.ref a2, .ref a3, .ref a4, .int (nI nh)])), (a2, .inl (aT 0, 6, .inl (b 0))), (a3, .inl (aT 0, 6, .inl (b 1))), (a4, .inl (aT 0, 6, .inl (b 2))), (a10, .inl (aT 0, 4, .inl (b 7)))]) (cx_runV C hml hl.1 hZ hW hA (As := [.int (nI (q_5 + (i + 1)))]) (rest := []) (k_X5_removeTip l hfl D aT a5 a6 a7 a8 a9 (b 3) (b 4) (b 5) (b 6) n (b 8 0) (q_5 + (i + 1)) (show q_5 + (i + 1) < n by omega) hOl.1) gV_X7_X5_removeTip_132 hV_X5_removeTip rfl ⟨Nat.le_of_ble_eq_true rfl, Nat.le_of_ble_eq_true rfl⟩ ⟨Nat.le_of_ble_eq_true rfl, Nat.le_of_ble_eq_true rfl⟩ [6, 7, 8, 9, 10] rfl (by decide) 6 8 rfl rfl rfl rfl (Nat.le_of_ble_eq_true rfl) dX7_cutBack_110) hW hA [6, 7, 8, 9, 10] [0, 1, 2, 3, 4, 5] rfl rfl (by decide) (by decide) (fun _ _ _ _ _ _ h9 => h9.elim) (fun W_110 H locs hq hW => ?_)
          obtain rfl := hq
          refine lv_iinc (v := (nI (u + 1))) (lv' := [(5, .int (nI (u + 1))), (6, .int (nI (q_5 + (i + 1)))), (4, .int (nI (dep (prM M) q_5 + v))), (3, .int (nI q_5)), (2, .int (nI v)), (1, .int x), (0, .ref a0)]) hx hb dX7_cutBack_113 hl (k := 1) rfl (nI_1 _) (by decide) rfl (fun ls hl => ?_)
          refine lv_iinc (v := (nI (q_5 + i))) (lv' := [(6, .int (nI (q_5 + i))), (5, .int (nI (u + 1))), (4, .int (nI (dep (prM M) q_5 + v))), (3, .int (nI q_5)), (2, .int (nI v)), (1, .int x), (0, .ref a0)]) hx hb dX7_cutBack_116 hl (k := 1) rfl (pd_1 (q_5 + i)) (by decide) rfl (fun ls hl => ?_)
          refine lv_goto (tgt := 52) hx hb dX7_cutBack_119 (by decide) ?_
          exact ih_52 (i, (bkO (b 0) (b 1) (b 2) (rmF (b 3) (q_5 + (i + 1)) n) (rmF (b 4) (q_5 + (i + 1)) n) (rmF (b 5) (q_5 + (i + 1)) n) (rmP (b 6) (q_5 + (i + 1)) n) (b 7) (b 8 0) (b 8 1) (b 8 2) (b 8 3) (b 8 4) ((b 8 5) + ((b 5) (q_5 + (i + 1)))) (b 8 6) (b 8 7) (b 8 8)), (n - 1), (u + 1), (dropF mm (q_5 + (i + 1)) n)) _ _ _ (by first | omega | (dsimp only; omega)) ⟨_, rfl, lv_sub hl [0, 1, 2, 3, 4, 5, 6] rfl, hW, ⟨hBl.cut hCl (by omega) (by rw [hxn]; exact prn_tip hpo c_68 c_82), (by rw [hxn]; exact hCl.drop (by omega) (prn_tip hpo c_68 c_82)), (by rw [hxn]; exact prn_drop hpo c_68 c_82), (by rw [← hpf, hxn]; exact (prnF_yes c_68 c_82).symm)⟩⟩
  · have hW : CxB D [(a0, .inr (10, [.ref a1, .ref a5, .ref a10, .int (bb 8 1), .int (bb 8 2), .int (bb 8 3), .int (bb 8 4), .int (bb 8 5), .int (bb 8 6), .int (bb 8 7), .int (bb 8 8)])), (a1, .inr (6, [.ref a2, .ref a3, .ref a4, .int (nI nh)])), (a2, .inl (aT 0, 6, .inl (bb 0))), (a3, .inl (aT 0, 6, .inl (bb 1))), (a4, .inl (aT 0, 6, .inl (bb 2))), (a5, .inr (8, [.ref a6, .ref a7, .ref a8, .ref a9, .int (nI nm), .int (bb 8 0)])), (a6, .inl (aT 0, 12, .inl (bb 3))), (a7, .inl (aT 0, 12, .inl (bb 4))), (a8, .inl (aT 0, 12, .inl (bb 5))), (a9, .inl (aT 0, 12, .inl (bb 6))), (a10, .inl (aT 0, 4, .inl (bb 7)))] A s.heap H _ := cx_drop hW [0, 1, 2, 3, 4, 6, 7, 8, 9, 10, 5] rfl (by decide)
    exact cx_throw C hfl hex hml hl.1 hlocks hZ hW at_X7_IllegalArgumentException (List.mem_of_getElem? (i := 5) rfl) gw_559 gw_86 (by decide +kernel) dX7_cutBack_16 dX7_cutBack_19 dX7_cutBack_20 dX7_cutBack_22 dX7_cutBack_25 ⟨Nat.le_of_ble_eq_true rfl, Nat.le_of_ble_eq_true rfl, Nat.le_of_ble_eq_true rfl, Nat.le_of_ble_eq_true rfl⟩ ⟨Nat.le_of_ble_eq_true rfl, Nat.le_of_ble_eq_true rfl⟩ (⟨Or.inr ⟨⟨q_5, (by rw [← hB.fnd_eq]; exact hq_5)⟩, rfl, c_13⟩, rfl⟩)
theorem dX7_bookOutcome_0 : decode cX7_bookOutcome 0 = .ok (.iload_n 1, 1) := by decide +kernel
theorem dX7_bookOutcome_1 : decode cX7_bookOutcome 1 = .ok (.bipush 118, 2) := by decide +kernel
theorem dX7_bookOutcome_3 : decode cX7_bookOutcome 3 = .ok (.if_icmp .ne 14, 3) := by decide +kernel
theorem dX7_bookOutcome_6 : decode cX7_bookOutcome 6 = .ok (.aload_n 0, 1) := by decide +kernel
theorem dX7_bookOutcome_7 : decode cX7_bookOutcome 7 = .ok (.dup, 1) := by decide +kernel
theorem dX7_bookOutcome_8 : decode cX7_bookOutcome 8 = .ok (.getfield 61, 3) := by decide +kernel
theorem dX7_bookOutcome_11 : decode cX7_bookOutcome 11 = .ok (.iload_n 2, 1) := by decide +kernel
theorem dX7_bookOutcome_12 : decode cX7_bookOutcome 12 = .ok (.iadd, 1) := by decide +kernel
theorem dX7_bookOutcome_13 : decode cX7_bookOutcome 13 = .ok (.putfield 61, 3) := by decide +kernel
theorem dX7_bookOutcome_16 : decode cX7_bookOutcome 16 = .ok (.return_, 1) := by decide +kernel
theorem dX7_bookOutcome_17 : decode cX7_bookOutcome 17 = .ok (.iload_n 1, 1) := by decide +kernel
theorem dX7_bookOutcome_18 : decode cX7_bookOutcome 18 = .ok (.bipush 114, 2) := by decide +kernel
theorem dX7_bookOutcome_20 : decode cX7_bookOutcome 20 = .ok (.if_icmp .ne 14, 3) := by decide +kernel
theorem dX7_bookOutcome_23 : decode cX7_bookOutcome 23 = .ok (.aload_n 0, 1) := by decide +kernel
theorem dX7_bookOutcome_24 : decode cX7_bookOutcome 24 = .ok (.dup, 1) := by decide +kernel
theorem dX7_bookOutcome_25 : decode cX7_bookOutcome 25 = .ok (.getfield 58, 3) := by decide +kernel
theorem dX7_bookOutcome_28 : decode cX7_bookOutcome 28 = .ok (.iload_n 2, 1) := by decide +kernel
theorem dX7_bookOutcome_29 : decode cX7_bookOutcome 29 = .ok (.iadd, 1) := by decide +kernel
theorem dX7_bookOutcome_30 : decode cX7_bookOutcome 30 = .ok (.putfield 58, 3) := by decide +kernel
theorem dX7_bookOutcome_33 : decode cX7_bookOutcome 33 = .ok (.return_, 1) := by decide +kernel
theorem dX7_bookOutcome_34 : decode cX7_bookOutcome 34 = .ok (.aload_n 0, 1) := by decide +kernel
theorem dX7_bookOutcome_35 : decode cX7_bookOutcome 35 = .ok (.dup, 1) := by decide +kernel
theorem dX7_bookOutcome_36 : decode cX7_bookOutcome 36 = .ok (.getfield 49, 3) := by decide +kernel
theorem dX7_bookOutcome_39 : decode cX7_bookOutcome 39 = .ok (.iconst 1, 1) := by decide +kernel
theorem dX7_bookOutcome_40 : decode cX7_bookOutcome 40 = .ok (.iadd, 1) := by decide +kernel
theorem dX7_bookOutcome_41 : decode cX7_bookOutcome 41 = .ok (.putfield 49, 3) := by decide +kernel
theorem dX7_bookOutcome_44 : decode cX7_bookOutcome 44 = .ok (.iload_n 3, 1) := by decide +kernel
theorem dX7_bookOutcome_45 : decode cX7_bookOutcome 45 = .ok (.ifCond .lt 19, 3) := by decide +kernel
theorem dX7_bookOutcome_48 : decode cX7_bookOutcome 48 = .ok (.aload_n 0, 1) := by decide +kernel
theorem dX7_bookOutcome_49 : decode cX7_bookOutcome 49 = .ok (.getfield 21, 3) := by decide +kernel
theorem dX7_bookOutcome_52 : decode cX7_bookOutcome 52 = .ok (.getfield 111, 3) := by decide +kernel
theorem dX7_bookOutcome_55 : decode cX7_bookOutcome 55 = .ok (.iload_n 3, 1) := by decide +kernel
theorem dX7_bookOutcome_56 : decode cX7_bookOutcome 56 = .ok (.dup2, 1) := by decide +kernel
theorem dX7_bookOutcome_57 : decode cX7_bookOutcome 57 = .ok (.iaload, 1) := by decide +kernel
theorem dX7_bookOutcome_58 : decode cX7_bookOutcome 58 = .ok (.iload_n 2, 1) := by decide +kernel
theorem dX7_bookOutcome_59 : decode cX7_bookOutcome 59 = .ok (.iadd, 1) := by decide +kernel
theorem dX7_bookOutcome_60 : decode cX7_bookOutcome 60 = .ok (.iastore, 1) := by decide +kernel
theorem dX7_bookOutcome_61 : decode cX7_bookOutcome 61 = .ok (.goto 26, 3) := by decide +kernel
theorem dX7_bookOutcome_64 : decode cX7_bookOutcome 64 = .ok (.aload_n 0, 1) := by decide +kernel
theorem dX7_bookOutcome_65 : decode cX7_bookOutcome 65 = .ok (.getfield 25, 3) := by decide +kernel
theorem dX7_bookOutcome_68 : decode cX7_bookOutcome 68 = .ok (.aload_n 0, 1) := by decide +kernel
theorem dX7_bookOutcome_69 : decode cX7_bookOutcome 69 = .ok (.getfield 29, 3) := by decide +kernel
theorem dX7_bookOutcome_72 : decode cX7_bookOutcome 72 = .ok (.dup2, 1) := by decide +kernel
theorem dX7_bookOutcome_73 : decode cX7_bookOutcome 73 = .ok (.iaload, 1) := by decide +kernel
theorem dX7_bookOutcome_74 : decode cX7_bookOutcome 74 = .ok (.iconst 1, 1) := by decide +kernel
theorem dX7_bookOutcome_75 : decode cX7_bookOutcome 75 = .ok (.iadd, 1) := by decide +kernel
theorem dX7_bookOutcome_76 : decode cX7_bookOutcome 76 = .ok (.iastore, 1) := by decide +kernel
theorem dX7_bookOutcome_77 : decode cX7_bookOutcome 77 = .ok (.aload_n 0, 1) := by decide +kernel
theorem dX7_bookOutcome_78 : decode cX7_bookOutcome 78 = .ok (.dup, 1) := by decide +kernel
theorem dX7_bookOutcome_79 : decode cX7_bookOutcome 79 = .ok (.getfield 64, 3) := by decide +kernel
theorem dX7_bookOutcome_82 : decode cX7_bookOutcome 82 = .ok (.iload_n 2, 1) := by decide +kernel
theorem dX7_bookOutcome_83 : decode cX7_bookOutcome 83 = .ok (.iadd, 1) := by decide +kernel
theorem dX7_bookOutcome_84 : decode cX7_bookOutcome 84 = .ok (.putfield 64, 3) := by decide +kernel
theorem dX7_bookOutcome_87 : decode cX7_bookOutcome 87 = .ok (.return_, 1) := by decide +kernel
set_option maxHeartbeats 2000000 in
set_option maxRecDepth 20000 in
theorem k_X7_book_v (l : Launch) (hfl : l.stackTraces = false) (D : va_G) (aT : Nat → ClassId) (a0 : Nat) (a1 : Nat) (a2 : Nat) (a3 : Nat) (a4 : Nat) (a5 : Nat) (a6 : Nat) (a7 : Nat) (a8 : Nat) (a9 : Nat) (a10 : Nat) (bb : Nat → Nat → Int32) (nh : Nat) (nm : Nat) (w : Int32) (po : Option Nat) : CxG l yX7_bookOutcome cX7_bookOutcome 4 none 0 0 0 0 D aT [.ref a0, .int (nI 118), .int w, .int (oi po)] [(a0, .inr (10, [.ref a1, .ref a5, .ref a10, .int (bb 8 1), .int (bb 8 2), .int (bb 8 3), .int (bb 8 4), .int (bb 8 5), .int (bb 8 6), .int (bb 8 7), .int (bb 8 8)])), (a1, .inr (6, [.ref a2, .ref a3, .ref a4, .int (nI nh)])), (a2, .inl (aT 0, 6, .inl (bb 0))), (a3, .inl (aT 0, 6, .inl (bb 1))), (a4, .inl (aT 0, 6, .inl (bb 2))), (a5, .inr (8, [.ref a6, .ref a7, .ref a8, .ref a9, .int (nI nm), .int (bb 8 0)])), (a6, .inl (aT 0, 12, .inl (bb 3))), (a7, .inl (aT 0, 12, .inl (bb 4))), (a8, .inl (aT 0, 12, .inl (bb 5))), (a9, .inl (aT 0, 12, .inl (bb 6))), (a10, .inl (aT 0, 4, .inl (bb 7)))] (qV D aT (fun W1 => W1 = [(a0, .inr (10, [.ref a1, .ref a5, .ref a10, .int (bb 8 1), .int (bb 8 2), .int (bb 8 3), .int (bb 8 4), .int (bb 8 5), .int (bb 8 6), .int ((bb 8 7) + w), .int (bb 8 8)])), (a1, .inr (6, [.ref a2, .ref a3, .ref a4, .int (nI nh)])), (a2, .inl (aT 0, 6, .inl (bb 0))), (a3, .inl (aT 0, 6, .inl (bb 1))), (a4, .inl (aT 0, 6, .inl (bb 2))), (a5, .inr (8, [.ref a6, .ref a7, .ref a8, .ref a9, .int (nI nm), .int (bb 8 0)])), (a6, .inl (aT 0, 12, .inl (bb 3))), (a7, .inl (aT 0, 12, .inl (bb 4))), (a8, .inl (aT 0, 12, .inl (bb 5))), (a9, .inl (aT 0, 12, .inl (bb 6))), (a10, .inl (aT 0, 4, .inl (bb 7)))])) (fun _ _ => False) := by
  refine CxG.of RX7 (by decide +kernel) rfl (Nat.le_of_ble_eq_true rfl) ?_
  intro p e s m below meth c A ls C hml hl hA hr hlocks hex hnm hZ hW
  have hl : lv_has ls 4 [(0, .ref a0), (1, .int (nI 118)), (2, .int w), (3, .int (oi po))] := hl
  have hx := C.1
  have hb := C.2.1
  refine lv_iload_n hx hb dX7_bookOutcome_0 rfl (lv_at hl 1 rfl) ?_
  refine lv_bipush (v := nI 118) hx hb dX7_bookOutcome_1 (by decide) ?_
  refine lv_icmp_ne hx hb (x := (nI 118)) (y := (nI 118)) (tgt := 17) dX7_bookOutcome_3 (by decide) (fun c_3 => ?_) (fun c_3 => ?_)
  · exact absurd rfl c_3
  · refine lv_aload_n hx hb dX7_bookOutcome_6 rfl (lv_at hl 0 rfl) ?_
    refine lv_dup hx hb dX7_bookOutcome_7 rfl ?_
    refine cx_get C hW 0 9 rfl rfl (by decide) inX7 gw_194 rfl rfl dX7_bookOutcome_8 ?_
    refine lv_iload_n hx hb dX7_bookOutcome_11 rfl (lv_at hl 2 rfl) ?_
    refine lv_iadd hx hb dX7_bookOutcome_12 ?_
    refine cx_put C hW 0 9 (W1 := [(a0, .inr (10, [.ref a1, .ref a5, .ref a10, .int (bb 8 1), .int (bb 8 2), .int (bb 8 3), .int (bb 8 4), .int (bb 8 5), .int (bb 8 6), .int ((bb 8 7) + w), .int (bb 8 8)])), (a1, .inr (6, [.ref a2, .ref a3, .ref a4, .int (nI nh)])), (a2, .inl (aT 0, 6, .inl (bb 0))), (a3, .inl (aT 0, 6, .inl (bb 1))), (a4, .inl (aT 0, 6, .inl (bb 2))), (a5, .inr (8, [.ref a6, .ref a7, .ref a8, .ref a9, .int (nI nm), .int (bb 8 0)])), (a6, .inl (aT 0, 12, .inl (bb 3))), (a7, .inl (aT 0, 12, .inl (bb 4))), (a8, .inl (aT 0, 12, .inl (bb 5))), (a9, .inl (aT 0, 12, .inl (bb 6))), (a10, .inl (aT 0, 4, .inl (bb 7)))]) rfl rfl (by decide) inX7 tyX7 tyX7_ok nmX7 gw_194 rfl rfl rfl rfl rfl (Nat.le_of_ble_eq_true rfl) rfl dX7_bookOutcome_13 (fun H locs hW => ?_)
    exact cx_vret C hr hlocks hW ⟨Nat.le_of_ble_eq_true rfl, Nat.le_of_ble_eq_true rfl⟩ (rfl) dX7_bookOutcome_16
set_option maxHeartbeats 2000000 in
set_option maxRecDepth 20000 in
theorem k_X7_book_r (l : Launch) (hfl : l.stackTraces = false) (D : va_G) (aT : Nat → ClassId) (a0 : Nat) (a1 : Nat) (a2 : Nat) (a3 : Nat) (a4 : Nat) (a5 : Nat) (a6 : Nat) (a7 : Nat) (a8 : Nat) (a9 : Nat) (a10 : Nat) (bb : Nat → Nat → Int32) (nh : Nat) (nm : Nat) (w : Int32) (po : Option Nat) : CxG l yX7_bookOutcome cX7_bookOutcome 4 none 0 0 0 0 D aT [.ref a0, .int (nI 114), .int w, .int (oi po)] [(a0, .inr (10, [.ref a1, .ref a5, .ref a10, .int (bb 8 1), .int (bb 8 2), .int (bb 8 3), .int (bb 8 4), .int (bb 8 5), .int (bb 8 6), .int (bb 8 7), .int (bb 8 8)])), (a1, .inr (6, [.ref a2, .ref a3, .ref a4, .int (nI nh)])), (a2, .inl (aT 0, 6, .inl (bb 0))), (a3, .inl (aT 0, 6, .inl (bb 1))), (a4, .inl (aT 0, 6, .inl (bb 2))), (a5, .inr (8, [.ref a6, .ref a7, .ref a8, .ref a9, .int (nI nm), .int (bb 8 0)])), (a6, .inl (aT 0, 12, .inl (bb 3))), (a7, .inl (aT 0, 12, .inl (bb 4))), (a8, .inl (aT 0, 12, .inl (bb 5))), (a9, .inl (aT 0, 12, .inl (bb 6))), (a10, .inl (aT 0, 4, .inl (bb 7)))] (qV D aT (fun W1 => W1 = [(a0, .inr (10, [.ref a1, .ref a5, .ref a10, .int (bb 8 1), .int (bb 8 2), .int (bb 8 3), .int (bb 8 4), .int (bb 8 5), .int ((bb 8 6) + w), .int (bb 8 7), .int (bb 8 8)])), (a1, .inr (6, [.ref a2, .ref a3, .ref a4, .int (nI nh)])), (a2, .inl (aT 0, 6, .inl (bb 0))), (a3, .inl (aT 0, 6, .inl (bb 1))), (a4, .inl (aT 0, 6, .inl (bb 2))), (a5, .inr (8, [.ref a6, .ref a7, .ref a8, .ref a9, .int (nI nm), .int (bb 8 0)])), (a6, .inl (aT 0, 12, .inl (bb 3))), (a7, .inl (aT 0, 12, .inl (bb 4))), (a8, .inl (aT 0, 12, .inl (bb 5))), (a9, .inl (aT 0, 12, .inl (bb 6))), (a10, .inl (aT 0, 4, .inl (bb 7)))])) (fun _ _ => False) := by
  refine CxG.of RX7 (by decide +kernel) rfl (Nat.le_of_ble_eq_true rfl) ?_
  intro p e s m below meth c A ls C hml hl hA hr hlocks hex hnm hZ hW
  have hl : lv_has ls 4 [(0, .ref a0), (1, .int (nI 114)), (2, .int w), (3, .int (oi po))] := hl
  have hx := C.1
  have hb := C.2.1
  refine lv_iload_n hx hb dX7_bookOutcome_0 rfl (lv_at hl 1 rfl) ?_
  refine lv_bipush (v := nI 118) hx hb dX7_bookOutcome_1 (by decide) ?_
  refine lv_icmp_ne hx hb (x := (nI 114)) (y := (nI 118)) (tgt := 17) dX7_bookOutcome_3 (by decide) (fun c_3 => ?_) (fun c_3 => ?_)
  · refine lv_iload_n hx hb dX7_bookOutcome_17 rfl (lv_at hl 1 rfl) ?_
    refine lv_bipush (v := nI 114) hx hb dX7_bookOutcome_18 (by decide) ?_
    refine lv_icmp_ne hx hb (x := (nI 114)) (y := (nI 114)) (tgt := 34) dX7_bookOutcome_20 (by decide) (fun c_20 => ?_) (fun c_20 => ?_)
    · exact absurd rfl c_20
    · refine lv_aload_n hx hb dX7_bookOutcome_23 rfl (lv_at hl 0 rfl) ?_
      refine lv_dup hx hb dX7_bookOutcome_24 rfl ?_
      refine cx_get C hW 0 8 rfl rfl (by decide) inX7 gw_193 rfl rfl dX7_bookOutcome_25 ?_
      refine lv_iload_n hx hb dX7_bookOutcome_28 rfl (lv_at hl 2 rfl) ?_
      refine lv_iadd hx hb dX7_bookOutcome_29 ?_
      refine cx_put C hW 0 8 (W1 := [(a0, .inr (10, [.ref a1, .ref a5, .ref a10, .int (bb 8 1), .int (bb 8 2), .int (bb 8 3), .int (bb 8 4), .int (bb 8 5), .int ((bb 8 6) + w), .int (bb 8 7), .int (bb 8 8)])), (a1, .inr (6, [.ref a2, .ref a3, .ref a4, .int (nI nh)])), (a2, .inl (aT 0, 6, .inl (bb 0))), (a3, .inl (aT 0, 6, .inl (bb 1))), (a4, .inl (aT 0, 6, .inl (bb 2))), (a5, .inr (8, [.ref a6, .ref a7, .ref a8, .ref a9, .int (nI nm), .int (bb 8 0)])), (a6, .inl (aT 0, 12, .inl (bb 3))), (a7, .inl (aT 0, 12, .inl (bb 4))), (a8, .inl (aT 0, 12, .inl (bb 5))), (a9, .inl (aT 0, 12, .inl (bb 6))), (a10, .inl (aT 0, 4, .inl (bb 7)))]) rfl rfl (by decide) inX7 tyX7 tyX7_ok nmX7 gw_193 rfl rfl rfl rfl rfl (Nat.le_of_ble_eq_true rfl) rfl dX7_bookOutcome_30 (fun H locs hW => ?_)
      exact cx_vret C hr hlocks hW ⟨Nat.le_of_ble_eq_true rfl, Nat.le_of_ble_eq_true rfl⟩ (rfl) dX7_bookOutcome_33
  · exact absurd c_3 (by decide)
set_option maxHeartbeats 2000000 in
set_option maxRecDepth 20000 in
theorem k_X7_book_c (l : Launch) (hfl : l.stackTraces = false) (D : va_G) (aT : Nat → ClassId) (a0 : Nat) (a1 : Nat) (a2 : Nat) (a3 : Nat) (a4 : Nat) (a5 : Nat) (a6 : Nat) (a7 : Nat) (a8 : Nat) (a9 : Nat) (a10 : Nat) (bb : Nat → Nat → Int32) (nh : Nat) (nm : Nat) (w : Int32) (po : Option Nat) (s0 : Nat) (hs0 : bb 8 1 = nI s0) (hs4 : s0 < 4) (hpo : ∀ j, po = some j → j < 12) : CxG l yX7_bookOutcome cX7_bookOutcome 4 none 0 0 0 0 D aT [.ref a0, .int (nI 99), .int w, .int (oi po)] [(a0, .inr (10, [.ref a1, .ref a5, .ref a10, .int (bb 8 1), .int (bb 8 2), .int (bb 8 3), .int (bb 8 4), .int (bb 8 5), .int (bb 8 6), .int (bb 8 7), .int (bb 8 8)])), (a1, .inr (6, [.ref a2, .ref a3, .ref a4, .int (nI nh)])), (a2, .inl (aT 0, 6, .inl (bb 0))), (a3, .inl (aT 0, 6, .inl (bb 1))), (a4, .inl (aT 0, 6, .inl (bb 2))), (a5, .inr (8, [.ref a6, .ref a7, .ref a8, .ref a9, .int (nI nm), .int (bb 8 0)])), (a6, .inl (aT 0, 12, .inl (bb 3))), (a7, .inl (aT 0, 12, .inl (bb 4))), (a8, .inl (aT 0, 12, .inl (bb 5))), (a9, .inl (aT 0, 12, .inl (bb 6))), (a10, .inl (aT 0, 4, .inl (bb 7)))] (qV D aT (fun W1 => (po = none ∧ W1 = ([(a0, .inr (10, [.ref a1, .ref a5, .ref a10, .int (bb 8 1), .int (bb 8 2), .int (bb 8 3 + nI 1), .int (bb 8 4), .int (bb 8 5), .int (bb 8 6), .int (bb 8 7), .int (bb 8 8 + w)])), (a1, .inr (6, [.ref a2, .ref a3, .ref a4, .int (nI nh)])), (a2, .inl (aT 0, 6, .inl (bb 0))), (a3, .inl (aT 0, 6, .inl (bb 1))), (a4, .inl (aT 0, 6, .inl (bb 2))), (a5, .inr (8, [.ref a6, .ref a7, .ref a8, .ref a9, .int (nI nm), .int (bb 8 0)])), (a6, .inl (aT 0, 12, .inl (bb 3))), (a7, .inl (aT 0, 12, .inl (bb 4))), (a8, .inl (aT 0, 12, .inl (bb 5))), (a9, .inl (aT 0, 12, .inl (bb 6))), (a10, .inl (aT 0, 4, .inl (upd (bb 7) s0 ((bb 7) s0 + nI 1))))] : va_W)) ∨ (∃ p, po = some p ∧ W1 = ([(a0, .inr (10, [.ref a1, .ref a5, .ref a10, .int (bb 8 1), .int (bb 8 2), .int (bb 8 3 + nI 1), .int (bb 8 4), .int (bb 8 5), .int (bb 8 6), .int (bb 8 7), .int (bb 8 8)])), (a1, .inr (6, [.ref a2, .ref a3, .ref a4, .int (nI nh)])), (a2, .inl (aT 0, 6, .inl (bb 0))), (a3, .inl (aT 0, 6, .inl (bb 1))), (a4, .inl (aT 0, 6, .inl (bb 2))), (a5, .inr (8, [.ref a6, .ref a7, .ref a8, .ref a9, .int (nI nm), .int (bb 8 0)])), (a6, .inl (aT 0, 12, .inl (bb 3))), (a7, .inl (aT 0, 12, .inl (bb 4))), (a8, .inl (aT 0, 12, .inl (upd (bb 5) p ((bb 5) p + w)))), (a9, .inl (aT 0, 12, .inl (bb 6))), (a10, .inl (aT 0, 4, .inl (bb 7)))] : va_W)))) (fun _ _ => False) := by
  refine CxG.of RX7 (by decide +kernel) rfl (Nat.le_of_ble_eq_true rfl) ?_
  intro p e s m below meth c A ls C hml hl hA hr hlocks hex hnm hZ hW
  have hl : lv_has ls 4 [(0, .ref a0), (1, .int (nI 99)), (2, .int w), (3, .int (oi po))] := hl
  have hx := C.1
  have hb := C.2.1
  refine lv_iload_n hx hb dX7_bookOutcome_0 rfl (lv_at hl 1 rfl) ?_
  refine lv_bipush (v := nI 118) hx hb dX7_bookOutcome_1 (by decide) ?_
  refine lv_icmp_ne hx hb (x := (nI 99)) (y := (nI 118)) (tgt := 17) dX7_bookOutcome_3 (by decide) (fun c_3 => ?_) (fun c_3 => ?_)
  · refine lv_iload_n hx hb dX7_bookOutcome_17 rfl (lv_at hl 1 rfl) ?_
    refine lv_bipush (v := nI 114) hx hb dX7_bookOutcome_18 (by decide) ?_
    refine lv_icmp_ne hx hb (x := (nI 99)) (y := (nI 114)) (tgt := 34) dX7_bookOutcome_20 (by decide) (fun c_20 => ?_) (fun c_20 => ?_)
    · refine lv_aload_n hx hb dX7_bookOutcome_34 rfl (lv_at hl 0 rfl) ?_
      refine lv_dup hx hb dX7_bookOutcome_35 rfl ?_
      refine cx_get C hW 0 5 rfl rfl (by decide) inX7 gw_189 rfl rfl dX7_bookOutcome_36 ?_
      refine lv_iconst (v := nI 1) hx hb dX7_bookOutcome_39 (by decide) ?_
      refine lv_iadd hx hb dX7_bookOutcome_40 ?_
      refine cx_put C hW 0 5 (W1 := [(a0, .inr (10, [.ref a1, .ref a5, .ref a10, .int (bb 8 1), .int (bb 8 2), .int ((bb 8 3) + (nI 1)), .int (bb 8 4), .int (bb 8 5), .int (bb 8 6), .int (bb 8 7), .int (bb 8 8)])), (a1, .inr (6, [.ref a2, .ref a3, .ref a4, .int (nI nh)])), (a2, .inl (aT 0, 6, .inl (bb 0))), (a3, .inl (aT 0, 6, .inl (bb 1))), (a4, .inl (aT 0, 6, .inl (bb 2))), (a5, .inr (8, [.ref a6, .ref a7, .ref a8, .ref a9, .int (nI nm), .int (bb 8 0)])), (a6, .inl (aT 0, 12, .inl (bb 3))), (a7, .inl (aT 0, 12, .inl (bb 4))), (a8, .inl (aT 0, 12, .inl (bb 5))), (a9, .inl (aT 0, 12, .inl (bb 6))), (a10, .inl (aT 0, 4, .inl (bb 7)))]) rfl rfl (by decide) inX7 tyX7 tyX7_ok nmX7 gw_189 rfl rfl rfl rfl rfl (Nat.le_of_ble_eq_true rfl) rfl dX7_bookOutcome_41 (fun H locs hW => ?_)
      refine lv_iload_n hx hb dX7_bookOutcome_44 rfl (lv_at hl 3 rfl) ?_
      refine r_oi_lt0 hx hb (o := po) (fun j hj => by have := hpo j hj; omega) (tgt := 64) dX7_bookOutcome_45 (by decide) (fun c_45 => ?_) (fun j_45 c_45 => ?_)
      · subst c_45
        have hl : lv_has ls 4 [(0, .ref a0), (1, .int (nI 99)), (2, .int w), (3, .int (-1))] := hl
        refine lv_aload_n hx hb dX7_bookOutcome_64 rfl (lv_at hl 0 rfl) ?_
        refine cx_get C hW 0 2 rfl rfl (by decide) inX7 gw_183 rfl rfl dX7_bookOutcome_65 ?_
        refine lv_aload_n hx hb dX7_bookOutcome_68 rfl (lv_at hl 0 rfl) ?_
        refine cx_get C hW 0 3 rfl rfl (by decide) inX7 gw_185 rfl rfl dX7_bookOutcome_69 ?_
        refine r_eq (y := (nI s0)) (hs0) ?_
        refine lv_dup2_11 hx hb dX7_bookOutcome_72 rfl rfl ?_
        refine cx_ald C hW 10 0 (j := s0) rfl rfl rfl (by first | omega | exact hpo _ rfl) (by decide) dX7_bookOutcome_73 ?_
        refine lv_iconst (v := nI 1) hx hb dX7_bookOutcome_74 (by decide) ?_
        refine lv_iadd hx hb dX7_bookOutcome_75 ?_
        refine cx_ast C hW 10 0 (j := s0) (W1 := [(a0, .inr (10, [.ref a1, .ref a5, .ref a10, .int (bb 8 1), .int (bb 8 2), .int ((bb 8 3) + (nI 1)), .int (bb 8 4), .int (bb 8 5), .int (bb 8 6), .int (bb 8 7), .int (bb 8 8)])), (a1, .inr (6, [.ref a2, .ref a3, .ref a4, .int (nI nh)])), (a2, .inl (aT 0, 6, .inl (bb 0))), (a3, .inl (aT 0, 6, .inl (bb 1))), (a4, .inl (aT 0, 6, .inl (bb 2))), (a5, .inr (8, [.ref a6, .ref a7, .ref a8, .ref a9, .int (nI nm), .int (bb 8 0)])), (a6, .inl (aT 0, 12, .inl (bb 3))), (a7, .inl (aT 0, 12, .inl (bb 4))), (a8, .inl (aT 0, 12, .inl (bb 5))), (a9, .inl (aT 0, 12, .inl (bb 6))), (a10, .inl (aT 0, 4, .inl (upd (bb 7) s0 ((((bb 7) s0) + (nI 1))))))]) rfl rfl rfl (by first | omega | exact hpo _ rfl) (by decide) rfl dX7_bookOutcome_76 (fun H locs hW => ?_)
        refine lv_aload_n hx hb dX7_bookOutcome_77 rfl (lv_at hl 0 rfl) ?_
        refine lv_dup hx hb dX7_bookOutcome_78 rfl ?_
        refine cx_get C hW 0 10 rfl rfl (by decide) inX7 gw_195 rfl rfl dX7_bookOutcome_79 ?_
        refine lv_iload_n hx hb dX7_bookOutcome_82 rfl (lv_at hl 2 rfl) ?_
        refine lv_iadd hx hb dX7_bookOutcome_83 ?_
        refine cx_put C hW 0 10 (W1 := [(a0, .inr (10, [.ref a1, .ref a5, .ref a10, .int (bb 8 1), .int (bb 8 2), .int ((bb 8 3) + (nI 1)), .int (bb 8 4), .int (bb 8 5), .int (bb 8 6), .int (bb 8 7), .int ((bb 8 8) + w)])), (a1, .inr (6, [.ref a2, .ref a3, .ref a4, .int (nI nh)])), (a2, .inl (aT 0, 6, .inl (bb 0))), (a3, .inl (aT 0, 6, .inl (bb 1))), (a4, .inl (aT 0, 6, .inl (bb 2))), (a5, .inr (8, [.ref a6, .ref a7, .ref a8, .ref a9, .int (nI nm), .int (bb 8 0)])), (a6, .inl (aT 0, 12, .inl (bb 3))), (a7, .inl (aT 0, 12, .inl (bb 4))), (a8, .inl (aT 0, 12, .inl (bb 5))), (a9, .inl (aT 0, 12, .inl (bb 6))), (a10, .inl (aT 0, 4, .inl (upd (bb 7) s0 ((((bb 7) s0) + (nI 1))))))]) rfl rfl (by decide) inX7 tyX7 tyX7_ok nmX7 gw_195 rfl rfl rfl rfl rfl (Nat.le_of_ble_eq_true rfl) rfl dX7_bookOutcome_84 (fun H locs hW => ?_)
        exact cx_vret C hr hlocks hW ⟨Nat.le_of_ble_eq_true rfl, Nat.le_of_ble_eq_true rfl⟩ (Or.inl ⟨rfl, rfl⟩) dX7_bookOutcome_87
      · subst c_45
        have hl : lv_has ls 4 [(0, .ref a0), (1, .int (nI 99)), (2, .int w), (3, .int (nI j_45))] := hl
        refine lv_aload_n hx hb dX7_bookOutcome_48 rfl (lv_at hl 0 rfl) ?_
        refine cx_get C hW 0 1 rfl rfl (by decide) inX7 gw_181 rfl rfl dX7_bookOutcome_49 ?_
        refine cx_getN C hZ hW 5 2 rfl rfl (by decide) inX5 nw_154 rfl rfl dX7_bookOutcome_52 ?_
        refine lv_iload_n hx hb dX7_bookOutcome_55 rfl (lv_at hl 3 rfl) ?_
        refine lv_dup2_11 hx hb dX7_bookOutcome_56 rfl rfl ?_
        refine cx_ald C hW 8 0 (j := j_45) rfl rfl rfl (by first | omega | exact hpo _ rfl) (by decide) dX7_bookOutcome_57 ?_
        refine lv_iload_n hx hb dX7_bookOutcome_58 rfl (lv_at hl 2 rfl) ?_
        refine lv_iadd hx hb dX7_bookOutcome_59 ?_
        refine cx_ast C hW 8 0 (j := j_45) (W1 := [(a0, .inr (10, [.ref a1, .ref a5, .ref a10, .int (bb 8 1), .int (bb 8 2), .int ((bb 8 3) + (nI 1)), .int (bb 8 4), .int (bb 8 5), .int (bb 8 6), .int (bb 8 7), .int (bb 8 8)])), (a1, .inr (6, [.ref a2, .ref a3, .ref a4, .int (nI nh)])), (a2, .inl (aT 0, 6, .inl (bb 0))), (a3, .inl (aT 0, 6, .inl (bb 1))), (a4, .inl (aT 0, 6, .inl (bb 2))), (a5, .inr (8, [.ref a6, .ref a7, .ref a8, .ref a9, .int (nI nm), .int (bb 8 0)])), (a6, .inl (aT 0, 12, .inl (bb 3))), (a7, .inl (aT 0, 12, .inl (bb 4))), (a8, .inl (aT 0, 12, .inl (upd (bb 5) j_45 ((((bb 5) j_45) + w))))), (a9, .inl (aT 0, 12, .inl (bb 6))), (a10, .inl (aT 0, 4, .inl (bb 7)))]) rfl rfl rfl (by first | omega | exact hpo _ rfl) (by decide) rfl dX7_bookOutcome_60 (fun H locs hW => ?_)
        refine lv_goto (tgt := 87) hx hb dX7_bookOutcome_61 (by decide) ?_
        exact cx_vret C hr hlocks hW ⟨Nat.le_of_ble_eq_true rfl, Nat.le_of_ble_eq_true rfl⟩ (Or.inr ⟨_, rfl, rfl⟩) dX7_bookOutcome_87
    · exact absurd c_20 (by decide)
  · exact absurd c_3 (by decide)
theorem dX7_holdVote_0 : decode cX7_holdVote 0 = .ok (.aload_n 0, 1) := by decide +kernel
theorem dX7_holdVote_1 : decode cX7_holdVote 1 = .ok (.getfield 21, 3) := by decide +kernel
theorem dX7_holdVote_4 : decode cX7_holdVote 4 = .ok (.iload_n 1, 1) := by decide +kernel
theorem dX7_holdVote_5 : decode cX7_holdVote 5 = .ok (.invokevirtual 101, 3) := by decide +kernel
theorem dX7_holdVote_8 : decode cX7_holdVote 8 = .ok (.istore_n 2, 1) := by decide +kernel
theorem dX7_holdVote_9 : decode cX7_holdVote 9 = .ok (.aload_n 0, 1) := by decide +kernel
theorem dX7_holdVote_10 : decode cX7_holdVote 10 = .ok (.getfield 12, 3) := by decide +kernel
theorem dX7_holdVote_13 : decode cX7_holdVote 13 = .ok (.getfield 136, 3) := by decide +kernel
theorem dX7_holdVote_16 : decode cX7_holdVote 16 = .ok (.ifCond .ne 13, 3) := by decide +kernel
theorem dX7_holdVote_19 : decode cX7_holdVote 19 = .ok (.new 82, 3) := by decide +kernel
theorem dX7_holdVote_22 : decode cX7_holdVote 22 = .ok (.dup, 1) := by decide +kernel
theorem dX7_holdVote_23 : decode cX7_holdVote 23 = .ok (.ldc 137, 2) := by decide +kernel
theorem dX7_holdVote_25 : decode cX7_holdVote 25 = .ok (.invokespecial 86, 3) := by decide +kernel
theorem dX7_holdVote_28 : decode cX7_holdVote 28 = .ok (.athrow, 1) := by decide +kernel
theorem dX7_holdVote_29 : decode cX7_holdVote 29 = .ok (.aload_n 0, 1) := by decide +kernel
theorem dX7_holdVote_30 : decode cX7_holdVote 30 = .ok (.getfield 21, 3) := by decide +kernel
theorem dX7_holdVote_33 : decode cX7_holdVote 33 = .ok (.iload_n 2, 1) := by decide +kernel
theorem dX7_holdVote_34 : decode cX7_holdVote 34 = .ok (.invokevirtual 139, 3) := by decide +kernel
theorem dX7_holdVote_37 : decode cX7_holdVote 37 = .ok (.ifCond .eq 13, 3) := by decide +kernel
theorem dX7_holdVote_40 : decode cX7_holdVote 40 = .ok (.new 82, 3) := by decide +kernel
theorem dX7_holdVote_43 : decode cX7_holdVote 43 = .ok (.dup, 1) := by decide +kernel
theorem dX7_holdVote_44 : decode cX7_holdVote 44 = .ok (.ldc 142, 2) := by decide +kernel
theorem dX7_holdVote_46 : decode cX7_holdVote 46 = .ok (.invokespecial 86, 3) := by decide +kernel
theorem dX7_holdVote_49 : decode cX7_holdVote 49 = .ok (.athrow, 1) := by decide +kernel
theorem dX7_holdVote_50 : decode cX7_holdVote 50 = .ok (.aload_n 0, 1) := by decide +kernel
theorem dX7_holdVote_51 : decode cX7_holdVote 51 = .ok (.getfield 12, 3) := by decide +kernel
theorem dX7_holdVote_54 : decode cX7_holdVote 54 = .ok (.aload_n 0, 1) := by decide +kernel
theorem dX7_holdVote_55 : decode cX7_holdVote 55 = .ok (.getfield 21, 3) := by decide +kernel
theorem dX7_holdVote_58 : decode cX7_holdVote 58 = .ok (.getfield 108, 3) := by decide +kernel
theorem dX7_holdVote_61 : decode cX7_holdVote 61 = .ok (.iload_n 2, 1) := by decide +kernel
theorem dX7_holdVote_62 : decode cX7_holdVote 62 = .ok (.iaload, 1) := by decide +kernel
theorem dX7_holdVote_63 : decode cX7_holdVote 63 = .ok (.invokevirtual 144, 3) := by decide +kernel
theorem dX7_holdVote_66 : decode cX7_holdVote 66 = .ok (.istore_n 3, 1) := by decide +kernel
theorem dX7_holdVote_67 : decode cX7_holdVote 67 = .ok (.aload_n 0, 1) := by decide +kernel
theorem dX7_holdVote_68 : decode cX7_holdVote 68 = .ok (.dup, 1) := by decide +kernel
theorem dX7_holdVote_69 : decode cX7_holdVote 69 = .ok (.getfield 46, 3) := by decide +kernel
theorem dX7_holdVote_72 : decode cX7_holdVote 72 = .ok (.iconst 1, 1) := by decide +kernel
theorem dX7_holdVote_73 : decode cX7_holdVote 73 = .ok (.iadd, 1) := by decide +kernel
theorem dX7_holdVote_74 : decode cX7_holdVote 74 = .ok (.putfield 46, 3) := by decide +kernel
theorem dX7_holdVote_77 : decode cX7_holdVote 77 = .ok (.aload_n 0, 1) := by decide +kernel
theorem dX7_holdVote_78 : decode cX7_holdVote 78 = .ok (.iload_n 3, 1) := by decide +kernel
theorem dX7_holdVote_79 : decode cX7_holdVote 79 = .ok (.aload_n 0, 1) := by decide +kernel
theorem dX7_holdVote_80 : decode cX7_holdVote 80 = .ok (.getfield 21, 3) := by decide +kernel
theorem dX7_holdVote_83 : decode cX7_holdVote 83 = .ok (.getfield 111, 3) := by decide +kernel
theorem dX7_holdVote_86 : decode cX7_holdVote 86 = .ok (.iload_n 2, 1) := by decide +kernel
theorem dX7_holdVote_87 : decode cX7_holdVote 87 = .ok (.iaload, 1) := by decide +kernel
theorem dX7_holdVote_88 : decode cX7_holdVote 88 = .ok (.aload_n 0, 1) := by decide +kernel
theorem dX7_holdVote_89 : decode cX7_holdVote 89 = .ok (.getfield 21, 3) := by decide +kernel
theorem dX7_holdVote_92 : decode cX7_holdVote 92 = .ok (.getfield 148, 3) := by decide +kernel
theorem dX7_holdVote_95 : decode cX7_holdVote 95 = .ok (.iload_n 2, 1) := by decide +kernel
theorem dX7_holdVote_96 : decode cX7_holdVote 96 = .ok (.iaload, 1) := by decide +kernel
theorem dX7_holdVote_97 : decode cX7_holdVote 97 = .ok (.invokevirtual 151, 3) := by decide +kernel
theorem dX7_holdVote_100 : decode cX7_holdVote 100 = .ok (.aload_n 0, 1) := by decide +kernel
theorem dX7_holdVote_101 : decode cX7_holdVote 101 = .ok (.getfield 21, 3) := by decide +kernel
theorem dX7_holdVote_104 : decode cX7_holdVote 104 = .ok (.iload_n 2, 1) := by decide +kernel
theorem dX7_holdVote_105 : decode cX7_holdVote 105 = .ok (.invokevirtual 132, 3) := by decide +kernel
theorem dX7_holdVote_108 : decode cX7_holdVote 108 = .ok (.iload_n 3, 1) := by decide +kernel
theorem dX7_holdVote_109 : decode cX7_holdVote 109 = .ok (.ireturn, 1) := by decide +kernel
theorem gV_X7_X5_hasAmendments_139 : GoodIn gw (wsV RX7 139 RX5 yX5_hasAmendments (Cond.code yX5_hasAmendments cX5_hasAmendments 3 (some .boolean) :: gw)) := gdV gw_770 gw_754 gw_755 gw_70 gw_756
theorem gV_X7_X2_decideOn_144 : GoodIn gw (wsV RX7 144 RX2 yX2_decideOn (Cond.code yX2_decideOn cX2_decideOn 4 (some .char) :: gw)) := gdV gw_772 gw_773 gw_774 gw_69 gw_775
theorem hV_X2_decideOn : yX2_decideOn.cls = RX2 ∧ yX2_decideOn.cls ≠ "java/lang/invoke/MethodHandle" ∧ yX2_decideOn.cls ≠ "java/lang/invoke/VarHandle" ∧ (parseMethodDescriptor yX2_decideOn.desc).map (fun d => d.parameters.length) = some 1 := ⟨rfl, by decide +kernel, by decide +kernel, by decide +kernel⟩
theorem gV_X7_X7_bookOutcome_151 : GoodIn gw (wsV RX7 151 RX7 yX7_bookOutcome (Cond.code yX7_bookOutcome cX7_bookOutcome 4 (none) :: gw)) := gdV gw_792 gw_794 gw_5 gw_68 gw_795
theorem hV_X7_bookOutcome : yX7_bookOutcome.cls = RX7 ∧ yX7_bookOutcome.cls ≠ "java/lang/invoke/MethodHandle" ∧ yX7_bookOutcome.cls ≠ "java/lang/invoke/VarHandle" ∧ (parseMethodDescriptor yX7_bookOutcome.desc).map (fun d => d.parameters.length) = some 3 := ⟨rfl, by decide +kernel, by decide +kernel, by decide +kernel⟩
set_option maxHeartbeats 2000000 in
set_option maxRecDepth 20000 in
theorem k_X7_holdVote (l : Launch) (hfl : l.stackTraces = false) (D : va_G) (aT : Nat → ClassId) (a0 : Nat) (a1 : Nat) (a2 : Nat) (a3 : Nat) (a4 : Nat) (a5 : Nat) (a6 : Nat) (a7 : Nat) (a8 : Nat) (a9 : Nat) (a10 : Nat) (bb : Nat → Nat → Int32) (nh : Nat) (nm : Nat) (M : Nat → Int32) (Bd : Nat) (hBd : Bd < 1048000) (hC : CoW M Bd) (hB : BlC bb nh nm M) (x : Int32) (s0 : Nat) (hs0 : bb 8 1 = nI s0) (hs4 : s0 < 4) : CxG l yX7_holdVote cX7_holdVote 4 (some (.char)) 7 2 12 112 D aT [.ref a0, .int x] [(a0, .inr (10, [.ref a1, .ref a5, .ref a10, .int (bb 8 1), .int (bb 8 2), .int (bb 8 3), .int (bb 8 4), .int (bb 8 5), .int (bb 8 6), .int (bb 8 7), .int (bb 8 8)])), (a1, .inr (6, [.ref a2, .ref a3, .ref a4, .int (nI nh)])), (a2, .inl (aT 0, 6, .inl (bb 0))), (a3, .inl (aT 0, 6, .inl (bb 1))), (a4, .inl (aT 0, 6, .inl (bb 2))), (a5, .inr (8, [.ref a6, .ref a7, .ref a8, .ref a9, .int (nI nm), .int (bb 8 0)])), (a6, .inl (aT 0, 12, .inl (bb 3))), (a7, .inl (aT 0, 12, .inl (bb 4))), (a8, .inl (aT 0, 12, .inl (bb 5))), (a9, .inl (aT 0, 12, .inl (bb 6))), (a10, .inl (aT 0, 4, .inl (bb 7)))] (qI D aT (fun r W1 => ∃ (q : Nat) (b2 : Nat → Nat → Int32), (fnd (fun k => M (29 + 4 * k)) x nm = some q ∧ 0 < nh ∧ tipB (prM M) q nm = true ∧ r = nI (votC M q)) ∧ BlC b2 nh (nm - 1) (votF M q) ∧ W1 = ([(a0, .inr (10, [.ref a1, .ref a5, .ref a10, .int (b2 8 1), .int (b2 8 2), .int (b2 8 3), .int (b2 8 4), .int (b2 8 5), .int (b2 8 6), .int (b2 8 7), .int (b2 8 8)])), (a1, .inr (6, [.ref a2, .ref a3, .ref a4, .int (nI nh)])), (a2, .inl (aT 0, 6, .inl (b2 0))), (a3, .inl (aT 0, 6, .inl (b2 1))), (a4, .inl (aT 0, 6, .inl (b2 2))), (a5, .inr (8, [.ref a6, .ref a7, .ref a8, .ref a9, .int (nI (nm - 1)), .int (b2 8 0)])), (a6, .inl (aT 0, 12, .inl (b2 3))), (a7, .inl (aT 0, 12, .inl (b2 4))), (a8, .inl (aT 0, 12, .inl (b2 5))), (a9, .inl (aT 0, 12, .inl (b2 6))), (a10, .inl (aT 0, 4, .inl (b2 7)))] : va_W))) (fun E W1 => ((E = "java/util/NoSuchElementException" ∧ fnd (fun k => M (29 + 4 * k)) x nm = none) ∨ (∃ q, fnd (fun k => M (29 + 4 * k)) x nm = some q ∧ E = "java/lang/IllegalStateException" ∧ (nh = 0 ∨ tipB (prM M) q nm = false))) ∧ W1 = ([(a0, .inr (10, [.ref a1, .ref a5, .ref a10, .int (bb 8 1), .int (bb 8 2), .int (bb 8 3), .int (bb 8 4), .int (bb 8 5), .int (bb 8 6), .int (bb 8 7), .int (bb 8 8)])), (a1, .inr (6, [.ref a2, .ref a3, .ref a4, .int (nI nh)])), (a2, .inl (aT 0, 6, .inl (bb 0))), (a3, .inl (aT 0, 6, .inl (bb 1))), (a4, .inl (aT 0, 6, .inl (bb 2))), (a5, .inr (8, [.ref a6, .ref a7, .ref a8, .ref a9, .int (nI nm), .int (bb 8 0)])), (a6, .inl (aT 0, 12, .inl (bb 3))), (a7, .inl (aT 0, 12, .inl (bb 4))), (a8, .inl (aT 0, 12, .inl (bb 5))), (a9, .inl (aT 0, 12, .inl (bb 6))), (a10, .inl (aT 0, 4, .inl (bb 7)))] : va_W)) := by
  have hH := hB.he hC
  have hO := hB.mo hC
  refine CxG.of RX7 (by decide +kernel) rfl (Nat.le_of_ble_eq_true rfl) ?_
  intro p e s m below meth c A ls C hml hl hA hr hlocks hex hnm hZ hW
  have hl : lv_has ls 4 [(0, .ref a0), (1, .int x)] := hl
  have hx := C.1
  have hb := C.2.1
  refine lv_aload_n hx hb dX7_holdVote_0 rfl (lv_at hl 0 rfl) ?_
  refine cx_get C hW 0 1 rfl rfl (by decide) inX7 gw_181 rfl rfl dX7_holdVote_1 ?_
  refine lv_iload_n hx hb dX7_holdVote_4 rfl (lv_at hl 1 rfl) ?_
  refine cx_calli (Wr := [(a0, .inr (10, [.ref a1, .ref a5, .ref a10, .int (bb 8 1), .int (bb 8 2), .int (bb 8 3), .int (bb 8 4), .int (bb 8 5), .int (bb 8 6), .int (bb 8 7), .int (bb 8 8)])), (a1, .inr (6, [.ref a2, .ref a3, .ref a4, .int (nI nh)])), (a2, .inl (aT 0, 6, .inl (bb 0))), (a3, .inl (aT 0, 6, .inl (bb 1))), (a4, .inl (aT 0, 6, .inl (bb 2))), (a10, .inl (aT 0, 4, .inl (bb 7)))]) (cx_runV C hml hl.1 hZ hW hA (As := [.int x]) (rest := []) (k_X5_require l hfl D aT a5 a6 a7 a8 a9 (bb 3) (bb 4) (bb 5) (bb 6) nm (bb 8 0) hO.1 x) gV_X7_X5_require_101 hV_X5_require rfl ⟨Nat.le_of_ble_eq_true rfl, Nat.le_of_ble_eq_true rfl⟩ ⟨Nat.le_of_ble_eq_true rfl, Nat.le_of_ble_eq_true rfl⟩ [5, 6, 7, 8, 9] rfl (by decide) 5 8 rfl rfl rfl rfl (Nat.le_of_ble_eq_true rfl) dX7_holdVote_5) hW hA [5, 6, 7, 8, 9] [0, 1, 2, 3, 4, 10] rfl rfl (by decide) (by decide) (fun E ce q9 W9 H9 locs9 hE hW9 h7 h8 h9 => by
      obtain ⟨hE1, hE2, rfl⟩ := hE
      exact cx_out C hex hlocks (Wd := [(a0, .inr (10, [.ref a1, .ref a5, .ref a10, .int (bb 8 1), .int (bb 8 2), .int (bb 8 3), .int (bb 8 4), .int (bb 8 5), .int (bb 8 6), .int (bb 8 7), .int (bb 8 8)])), (a1, .inr (6, [.ref a2, .ref a3, .ref a4, .int (nI nh)])), (a2, .inl (aT 0, 6, .inl (bb 0))), (a3, .inl (aT 0, 6, .inl (bb 1))), (a4, .inl (aT 0, 6, .inl (bb 2))), (a5, .inr (8, [.ref a6, .ref a7, .ref a8, .ref a9, .int (nI nm), .int (bb 8 0)])), (a6, .inl (aT 0, 12, .inl (bb 3))), (a7, .inl (aT 0, 12, .inl (bb 4))), (a8, .inl (aT 0, 12, .inl (bb 5))), (a9, .inl (aT 0, 12, .inl (bb 6))), (a10, .inl (aT 0, 4, .inl (bb 7)))]) (cx_drop hW9 [0, 1, 2, 3, 4, 6, 7, 8, 9, 10, 5] rfl (by decide)) h7 h8 h9 ⟨Nat.le_of_ble_eq_true rfl, Nat.le_of_ble_eq_true rfl⟩ (⟨Or.inl ⟨hE1, (by rw [← hB.fnd_eq]; exact hE2)⟩, rfl⟩)) (fun r_5 W_5 H locs hq hW => ?_)
  obtain ⟨⟨q_5, hq_5, hqn_5, rfl⟩, rfl⟩ := hq
  refine lv_istore_n (lv' := [(2, .int (nI q_5)), (0, .ref a0), (1, .int x)]) hx hb dX7_holdVote_8 rfl hl (by decide) rfl (fun ls hl => ?_)
  refine lv_aload_n hx hb dX7_holdVote_9 rfl (lv_at hl 1 rfl) ?_
  refine cx_get C hW 0 0 rfl rfl (by decide) inX7 gw_179 rfl rfl dX7_holdVote_10 ?_
  refine cx_getN C hZ hW 1 3 rfl rfl (by decide) inX2 nw_131 rfl rfl dX7_holdVote_13 ?_
  refine r_ifneN hx hb (a := nh) (by have := hH.1; omega) (tgt := 29) dX7_holdVote_16 (by decide) (fun c_16 => ?_) (fun c_16 => ?_)
  · refine lv_aload_n hx hb dX7_holdVote_29 rfl (lv_at hl 1 rfl) ?_
    refine cx_get C hW 0 1 rfl rfl (by decide) inX7 gw_181 rfl rfl dX7_holdVote_30 ?_
    refine lv_iload_n hx hb dX7_holdVote_33 rfl (lv_at hl 0 rfl) ?_
    refine cx_calli (Wr := [(a0, .inr (10, [.ref a1, .ref a5, .ref a10, .int (bb 8 1), .int (bb 8 2), .int (bb 8 3), .int (bb 8 4), .int (bb 8 5), .int (bb 8 6), .int (bb 8 7), .int (bb 8 8)])), (a1, .inr (6, [.ref a2, .ref a3, .ref a4, .int (nI nh)])), (a2, .inl (aT 0, 6, .inl (bb 0))), (a3, .inl (aT 0, 6, .inl (bb 1))), (a4, .inl (aT 0, 6, .inl (bb 2))), (a10, .inl (aT 0, 4, .inl (bb 7)))]) (cx_runV C hml hl.1 hZ hW hA (As := [.int (nI q_5)]) (rest := []) (k_X5_hasAmendments l hfl D aT a5 a6 a7 a8 a9 (bb 3) (bb 4) (bb 5) (bb 6) nm (bb 8 0) (idM M) (prM M) (tnM M) hO q_5 hqn_5) gV_X7_X5_hasAmendments_139 hV_X5_hasAmendments rfl ⟨Nat.le_of_ble_eq_true rfl, Nat.le_of_ble_eq_true rfl⟩ ⟨Nat.le_of_ble_eq_true rfl, Nat.le_of_ble_eq_true rfl⟩ [6, 7, 8, 9, 10] rfl (by decide) 6 8 rfl rfl rfl rfl (Nat.le_of_ble_eq_true rfl) dX7_holdVote_34) hW hA [6, 7, 8, 9, 10] [0, 1, 2, 3, 4, 5] rfl rfl (by decide) (by decide) (fun _ _ _ _ _ _ h9 => h9.elim) (fun r_34 W_34 H locs hq hW => ?_)
    obtain ⟨rfl, rfl⟩ := hq
    refine r_bI_eq hx hb (b := (!tipB (prM M) q_5 nm)) (tgt := 50) dX7_holdVote_37 (by decide) (fun c_37 => ?_) (fun c_37 => ?_)
    · refine lv_aload_n hx hb dX7_holdVote_50 rfl (lv_at hl 1 rfl) ?_
      refine cx_get C hW 0 0 rfl rfl (by decide) inX7 gw_179 rfl rfl dX7_holdVote_51 ?_
      refine lv_aload_n hx hb dX7_holdVote_54 rfl (lv_at hl 1 rfl) ?_
      refine cx_get C hW 0 1 rfl rfl (by decide) inX7 gw_181 rfl rfl dX7_holdVote_55 ?_
      refine cx_getN C hZ hW 6 1 rfl rfl (by decide) inX5 nw_151 rfl rfl dX7_holdVote_58 ?_
      refine lv_iload_n hx hb dX7_holdVote_61 rfl (lv_at hl 0 rfl) ?_
      refine cx_ald C hW 8 0 (j := q_5) rfl rfl rfl (by have := hO.1; omega) (by decide) dX7_holdVote_62 ?_
      refine r_eq (y := (nI (tnM M q_5))) ((hO.2.2.2.2.2 q_5 (by first | assumption | omega)).1) ?_
      refine cx_calli (Wr := [(a0, .inr (10, [.ref a1, .ref a5, .ref a10, .int (bb 8 1), .int (bb 8 2), .int (bb 8 3), .int (bb 8 4), .int (bb 8 5), .int (bb 8 6), .int (bb 8 7), .int (bb 8 8)])), (a10, .inl (aT 0, 4, .inl (bb 7))), (a5, .inr (8, [.ref a6, .ref a7, .ref a8, .ref a9, .int (nI nm), .int (bb 8 0)])), (a6, .inl (aT 0, 12, .inl (bb 3))), (a7, .inl (aT 0, 12, .inl (bb 4))), (a8, .inl (aT 0, 12, .inl (bb 5))), (a9, .inl (aT 0, 12, .inl (bb 6)))]) (cx_runV C hml hl.1 hZ hW hA (As := [.int (nI (tnM M q_5))]) (rest := []) (k_X2_decideOn l hfl D aT a1 a2 a3 a4 (bb 0) (bb 1) (bb 2) nh (lvM M) (thM M) (taM M) hH (tnM M q_5) (by have := (hO.2.2.2.2.2 q_5 hqn_5).2; omega)) gV_X7_X2_decideOn_144 hV_X2_decideOn rfl ⟨Nat.le_of_ble_eq_true rfl, Nat.le_of_ble_eq_true rfl⟩ ⟨Nat.le_of_ble_eq_true rfl, Nat.le_of_ble_eq_true rfl⟩ [1, 2, 3, 4] rfl (by decide) 1 6 rfl rfl rfl rfl (Nat.le_of_ble_eq_true rfl) dX7_holdVote_63) hW hA [1, 2, 3, 4] [0, 5, 6, 7, 8, 9, 10] rfl rfl (by decide) (by decide) (fun _ _ _ _ _ _ h9 => h9.elim) (fun r_63 W_63 H locs hq hW => ?_)
      obtain ⟨fT_63, hv_63, hq, rfl⟩ := hq
      rcases hq with ⟨ga_63, rfl⟩ | ⟨ga_63, gc_63, rfl⟩ | ⟨ga_63, gc_63, rfl⟩
      · refine lv_istore_n (lv' := [(3, .int (nI 118)), (2, .int (nI q_5)), (0, .ref a0), (1, .int x)]) hx hb dX7_holdVote_66 rfl hl (by decide) rfl (fun ls hl => ?_)
        refine lv_aload_n hx hb dX7_holdVote_67 rfl (lv_at hl 2 rfl) ?_
        refine lv_dup hx hb dX7_holdVote_68 rfl ?_
        refine cx_get C hW 0 4 rfl rfl (by decide) inX7 gw_187 rfl rfl dX7_holdVote_69 ?_
        refine lv_iconst (v := nI 1) hx hb dX7_holdVote_72 (by decide) ?_
        refine lv_iadd hx hb dX7_holdVote_73 ?_
        refine cx_put C hW 0 4 (W1 := [(a0, .inr (10, [.ref a1, .ref a5, .ref a10, .int (bb 8 1), .int ((bb 8 2) + (nI 1)), .int (bb 8 3), .int (bb 8 4), .int (bb 8 5), .int (bb 8 6), .int (bb 8 7), .int (bb 8 8)])), (a10, .inl (aT 0, 4, .inl (bb 7))), (a5, .inr (8, [.ref a6, .ref a7, .ref a8, .ref a9, .int (nI nm), .int (bb 8 0)])), (a6, .inl (aT 0, 12, .inl (bb 3))), (a7, .inl (aT 0, 12, .inl (bb 4))), (a8, .inl (aT 0, 12, .inl (bb 5))), (a9, .inl (aT 0, 12, .inl (bb 6))), (a1, .inr (6, [.ref a2, .ref a3, .ref a4, .int (nI nh)])), (a2, .inl (aT 0, 6, .inl (bb 0))), (a3, .inl (aT 0, 6, .inl fT_63)), (a4, .inl (aT 0, 6, .inl (bb 2)))]) rfl rfl (by decide) inX7 tyX7 tyX7_ok nmX7 gw_187 rfl rfl rfl rfl rfl (Nat.le_of_ble_eq_true rfl) rfl dX7_holdVote_74 (fun H locs hW => ?_)
        refine lv_aload_n hx hb dX7_holdVote_77 rfl (lv_at hl 2 rfl) ?_
        refine lv_iload_n hx hb dX7_holdVote_78 rfl (lv_at hl 0 rfl) ?_
        refine lv_aload_n hx hb dX7_holdVote_79 rfl (lv_at hl 2 rfl) ?_
        refine cx_get C hW 0 1 rfl rfl (by decide) inX7 gw_181 rfl rfl dX7_holdVote_80 ?_
        refine cx_getN C hZ hW 2 2 rfl rfl (by decide) inX5 nw_154 rfl rfl dX7_holdVote_83 ?_
        refine lv_iload_n hx hb dX7_holdVote_86 rfl (lv_at hl 1 rfl) ?_
        refine cx_ald C hW 5 0 (j := q_5) rfl rfl rfl (by have := hO.1; omega) (by decide) dX7_holdVote_87 ?_
        refine lv_aload_n hx hb dX7_holdVote_88 rfl (lv_at hl 2 rfl) ?_
        refine cx_get C hW 0 1 rfl rfl (by decide) inX7 gw_181 rfl rfl dX7_holdVote_89 ?_
        refine cx_getN C hZ hW 2 3 rfl rfl (by decide) inX5 nw_159 rfl rfl dX7_holdVote_92 ?_
        refine lv_iload_n hx hb dX7_holdVote_95 rfl (lv_at hl 1 rfl) ?_
        refine cx_ald C hW 6 0 (j := q_5) rfl rfl rfl (by have := hO.1; omega) (by decide) dX7_holdVote_96 ?_
        refine r_eq (y := (oi (prM M q_5))) (hO.2.2.1 q_5 (by first | assumption | omega)) ?_
        refine cx_callv (Wr := []) (cx_runV C hml hl.1 hZ hW hA (As := [.int (nI 118), .int ((bb 5) q_5), .int (oi (prM M q_5))]) (rest := []) (k_X7_book_v l hfl D aT a0 a1 a2 a3 a4 a5 a6 a7 a8 a9 a10 (bkO (bb 0) fT_63 (bb 2) (bb 3) (bb 4) (bb 5) (bb 6) (bb 7) (bb 8 0) (bb 8 1) ((bb 8 2) + (nI 1)) (bb 8 3) (bb 8 4) (bb 8 5) (bb 8 6) (bb 8 7) (bb 8 8)) nh nm ((bb 5) q_5) (prM M q_5)) gV_X7_X7_bookOutcome_151 hV_X7_bookOutcome rfl ⟨Nat.le_of_ble_eq_true rfl, Nat.le_of_ble_eq_true rfl⟩ ⟨Nat.le_of_ble_eq_true rfl, Nat.le_of_ble_eq_true rfl⟩ [0, 7, 8, 9, 10, 2, 3, 4, 5, 6, 1] rfl (by decide) 0 10 rfl rfl rfl rfl (Nat.le_of_ble_eq_true rfl) dX7_holdVote_97) hW hA [0, 7, 8, 9, 10, 2, 3, 4, 5, 6, 1] [] rfl rfl (by decide) (by decide) (fun _ _ _ _ _ _ h9 => h9.elim) (fun W_97 H locs hq hW => ?_)
        subst hq
        refine lv_aload_n hx hb dX7_holdVote_100 rfl (lv_at hl 2 rfl) ?_
        refine cx_get C hW 0 1 rfl rfl (by decide) inX7 gw_181 rfl rfl dX7_holdVote_101 ?_
        refine lv_iload_n hx hb dX7_holdVote_104 rfl (lv_at hl 1 rfl) ?_
        refine cx_callv (Wr := [(a0, .inr (10, [.ref a1, .ref a5, .ref a10, .int (bb 8 1), .int ((bb 8 2) + (nI 1)), .int (bb 8 3), .int (bb 8 4), .int (bb 8 5), .int (bb 8 6), .int ((bb 8 7) + ((bb 5) q_5)), .int (bb 8 8)])), (a1, .inr (6, [.ref a2, .ref a3, .ref a4, .int (nI nh)])), (a2, .inl (aT 0, 6, .inl (bb 0))), (a3, .inl (aT 0, 6, .inl fT_63)), (a4, .inl (aT 0, 6, .inl (bb 2))), (a10, .inl (aT 0, 4, .inl (bb 7)))]) (cx_runV C hml hl.1 hZ hW hA (As := [.int (nI q_5)]) (rest := []) (k_X5_removeTip l hfl D aT a5 a6 a7 a8 a9 (bb 3) (bb 4) (bb 5) (bb 6) nm (bb 8 0) q_5 hqn_5 hO.1) gV_X7_X5_removeTip_132 hV_X5_removeTip rfl ⟨Nat.le_of_ble_eq_true rfl, Nat.le_of_ble_eq_true rfl⟩ ⟨Nat.le_of_ble_eq_true rfl, Nat.le_of_ble_eq_true rfl⟩ [5, 6, 7, 8, 9] rfl (by decide) 5 8 rfl rfl rfl rfl (Nat.le_of_ble_eq_true rfl) dX7_holdVote_105) hW hA [5, 6, 7, 8, 9] [0, 1, 2, 3, 4, 10] rfl rfl (by decide) (by decide) (fun _ _ _ _ _ _ h9 => h9.elim) (fun W_105 H locs hq hW => ?_)
        obtain rfl := hq
        refine lv_iload_n hx hb dX7_holdVote_108 rfl (lv_at hl 0 rfl) ?_
        have hW : CxB D [(a0, .inr (10, [.ref a1, .ref a5, .ref a10, .int (bb 8 1), .int ((bb 8 2) + (nI 1)), .int (bb 8 3), .int (bb 8 4), .int (bb 8 5), .int (bb 8 6), .int ((bb 8 7) + ((bb 5) q_5)), .int (bb 8 8)])), (a1, .inr (6, [.ref a2, .ref a3, .ref a4, .int (nI nh)])), (a2, .inl (aT 0, 6, .inl (bb 0))), (a3, .inl (aT 0, 6, .inl fT_63)), (a4, .inl (aT 0, 6, .inl (bb 2))), (a5, .inr (8, [.ref a6, .ref a7, .ref a8, .ref a9, .int (nI (nm - 1)), .int (bb 8 0)])), (a6, .inl (aT 0, 12, .inl (rmF (bb 3) q_5 nm))), (a7, .inl (aT 0, 12, .inl (rmF (bb 4) q_5 nm))), (a8, .inl (aT 0, 12, .inl (rmF (bb 5) q_5 nm))), (a9, .inl (aT 0, 12, .inl (rmP (bb 6) q_5 nm))), (a10, .inl (aT 0, 4, .inl (bb 7)))] A s.heap H _ := cx_drop hW [0, 1, 2, 3, 4, 6, 7, 8, 9, 10, 5] rfl (by decide)
        exact cx_iret C hr hlocks (by decide) hW ⟨Nat.le_of_ble_eq_true rfl, Nat.le_of_ble_eq_true rfl⟩ (by
            obtain ⟨z1, z2⟩ := (hB.vote (s := s0) (f := fT_63) hC hqn_5 (by simpa using c_37) (fun i hi => (hv_63.2.2.1 i hi).1)).1 ga_63
            exact ⟨q_5, _, ⟨(by rw [← hB.fnd_eq]; exact hq_5), (by omega), (by simpa using c_37), by rw [z1]⟩, z2, rfl⟩) dX7_holdVote_109
      · refine lv_istore_n (lv' := [(3, .int (nI 99)), (2, .int (nI q_5)), (0, .ref a0), (1, .int x)]) hx hb dX7_holdVote_66 rfl hl (by decide) rfl (fun ls hl => ?_)
        refine lv_aload_n hx hb dX7_holdVote_67 rfl (lv_at hl 2 rfl) ?_
        refine lv_dup hx hb dX7_holdVote_68 rfl ?_
        refine cx_get C hW 0 4 rfl rfl (by decide) inX7 gw_187 rfl rfl dX7_holdVote_69 ?_
        refine lv_iconst (v := nI 1) hx hb dX7_holdVote_72 (by decide) ?_
        refine lv_iadd hx hb dX7_holdVote_73 ?_
        refine cx_put C hW 0 4 (W1 := [(a0, .inr (10, [.ref a1, .ref a5, .ref a10, .int (bb 8 1), .int ((bb 8 2) + (nI 1)), .int (bb 8 3), .int (bb 8 4), .int (bb 8 5), .int (bb 8 6), .int (bb 8 7), .int (bb 8 8)])), (a10, .inl (aT 0, 4, .inl (bb 7))), (a5, .inr (8, [.ref a6, .ref a7, .ref a8, .ref a9, .int (nI nm), .int (bb 8 0)])), (a6, .inl (aT 0, 12, .inl (bb 3))), (a7, .inl (aT 0, 12, .inl (bb 4))), (a8, .inl (aT 0, 12, .inl (bb 5))), (a9, .inl (aT 0, 12, .inl (bb 6))), (a1, .inr (6, [.ref a2, .ref a3, .ref a4, .int (nI nh)])), (a2, .inl (aT 0, 6, .inl (bb 0))), (a3, .inl (aT 0, 6, .inl fT_63)), (a4, .inl (aT 0, 6, .inl (bb 2)))]) rfl rfl (by decide) inX7 tyX7 tyX7_ok nmX7 gw_187 rfl rfl rfl rfl rfl (Nat.le_of_ble_eq_true rfl) rfl dX7_holdVote_74 (fun H locs hW => ?_)
        refine lv_aload_n hx hb dX7_holdVote_77 rfl (lv_at hl 2 rfl) ?_
        refine lv_iload_n hx hb dX7_holdVote_78 rfl (lv_at hl 0 rfl) ?_
        refine lv_aload_n hx hb dX7_holdVote_79 rfl (lv_at hl 2 rfl) ?_
        refine cx_get C hW 0 1 rfl rfl (by decide) inX7 gw_181 rfl rfl dX7_holdVote_80 ?_
        refine cx_getN C hZ hW 2 2 rfl rfl (by decide) inX5 nw_154 rfl rfl dX7_holdVote_83 ?_
        refine lv_iload_n hx hb dX7_holdVote_86 rfl (lv_at hl 1 rfl) ?_
        refine cx_ald C hW 5 0 (j := q_5) rfl rfl rfl (by have := hO.1; omega) (by decide) dX7_holdVote_87 ?_
        refine lv_aload_n hx hb dX7_holdVote_88 rfl (lv_at hl 2 rfl) ?_
        refine cx_get C hW 0 1 rfl rfl (by decide) inX7 gw_181 rfl rfl dX7_holdVote_89 ?_
        refine cx_getN C hZ hW 2 3 rfl rfl (by decide) inX5 nw_159 rfl rfl dX7_holdVote_92 ?_
        refine lv_iload_n hx hb dX7_holdVote_95 rfl (lv_at hl 1 rfl) ?_
        refine cx_ald C hW 6 0 (j := q_5) rfl rfl rfl (by have := hO.1; omega) (by decide) dX7_holdVote_96 ?_
        refine r_eq (y := (oi (prM M q_5))) (hO.2.2.1 q_5 (by first | assumption | omega)) ?_
        refine cx_callv (Wr := []) (cx_runV C hml hl.1 hZ hW hA (As := [.int (nI 99), .int ((bb 5) q_5), .int (oi (prM M q_5))]) (rest := []) (k_X7_book_c l hfl D aT a0 a1 a2 a3 a4 a5 a6 a7 a8 a9 a10 (bkO (bb 0) fT_63 (bb 2) (bb 3) (bb 4) (bb 5) (bb 6) (bb 7) (bb 8 0) (bb 8 1) ((bb 8 2) + (nI 1)) (bb 8 3) (bb 8 4) (bb 8 5) (bb 8 6) (bb 8 7) (bb 8 8)) nh nm ((bb 5) q_5) (prM M q_5) s0 hs0 hs4 (fun j hj => by have h5 := hO.2.2.2.1 q_5 j hqn_5 hj; have h6 := hO.1; omega)) gV_X7_X7_bookOutcome_151 hV_X7_bookOutcome rfl ⟨Nat.le_of_ble_eq_true rfl, Nat.le_of_ble_eq_true rfl⟩ ⟨Nat.le_of_ble_eq_true rfl, Nat.le_of_ble_eq_true rfl⟩ [0, 7, 8, 9, 10, 2, 3, 4, 5, 6, 1] rfl (by decide) 0 10 rfl rfl rfl rfl (Nat.le_of_ble_eq_true rfl) dX7_holdVote_97) hW hA [0, 7, 8, 9, 10, 2, 3, 4, 5, 6, 1] [] rfl rfl (by decide) (by decide) (fun _ _ _ _ _ _ h9 => h9.elim) (fun W_97 H locs hq hW => ?_)
        rcases hq with ⟨hp_97, rfl⟩ | ⟨p_97, hp_97, rfl⟩
        · refine lv_aload_n hx hb dX7_holdVote_100 rfl (lv_at hl 2 rfl) ?_
          refine cx_get C hW 0 1 rfl rfl (by decide) inX7 gw_181 rfl rfl dX7_holdVote_101 ?_
          refine lv_iload_n hx hb dX7_holdVote_104 rfl (lv_at hl 1 rfl) ?_
          refine cx_callv (Wr := [(a0, .inr (10, [.ref a1, .ref a5, .ref a10, .int (bb 8 1), .int ((bb 8 2) + (nI 1)), .int ((bb 8 3) + nI 1), .int (bb 8 4), .int (bb 8 5), .int (bb 8 6), .int (bb 8 7), .int ((bb 8 8) + ((bb 5) q_5))])), (a1, .inr (6, [.ref a2, .ref a3, .ref a4, .int (nI nh)])), (a2, .inl (aT 0, 6, .inl (bb 0))), (a3, .inl (aT 0, 6, .inl fT_63)), (a4, .inl (aT 0, 6, .inl (bb 2))), (a10, .inl (aT 0, 4, .inl (upd (bb 7) s0 ((bb 7) s0 + nI 1))))]) (cx_runV C hml hl.1 hZ hW hA (As := [.int (nI q_5)]) (rest := []) (k_X5_removeTip l hfl D aT a5 a6 a7 a8 a9 (bb 3) (bb 4) (bb 5) (bb 6) nm (bb 8 0) q_5 hqn_5 hO.1) gV_X7_X5_removeTip_132 hV_X5_removeTip rfl ⟨Nat.le_of_ble_eq_true rfl, Nat.le_of_ble_eq_true rfl⟩ ⟨Nat.le_of_ble_eq_true rfl, Nat.le_of_ble_eq_true rfl⟩ [5, 6, 7, 8, 9] rfl (by decide) 5 8 rfl rfl rfl rfl (Nat.le_of_ble_eq_true rfl) dX7_holdVote_105) hW hA [5, 6, 7, 8, 9] [0, 1, 2, 3, 4, 10] rfl rfl (by decide) (by decide) (fun _ _ _ _ _ _ h9 => h9.elim) (fun W_105 H locs hq hW => ?_)
          obtain rfl := hq
          refine lv_iload_n hx hb dX7_holdVote_108 rfl (lv_at hl 0 rfl) ?_
          have hW : CxB D [(a0, .inr (10, [.ref a1, .ref a5, .ref a10, .int (bb 8 1), .int ((bb 8 2) + (nI 1)), .int ((bb 8 3) + nI 1), .int (bb 8 4), .int (bb 8 5), .int (bb 8 6), .int (bb 8 7), .int ((bb 8 8) + ((bb 5) q_5))])), (a1, .inr (6, [.ref a2, .ref a3, .ref a4, .int (nI nh)])), (a2, .inl (aT 0, 6, .inl (bb 0))), (a3, .inl (aT 0, 6, .inl fT_63)), (a4, .inl (aT 0, 6, .inl (bb 2))), (a5, .inr (8, [.ref a6, .ref a7, .ref a8, .ref a9, .int (nI (nm - 1)), .int (bb 8 0)])), (a6, .inl (aT 0, 12, .inl (rmF (bb 3) q_5 nm))), (a7, .inl (aT 0, 12, .inl (rmF (bb 4) q_5 nm))), (a8, .inl (aT 0, 12, .inl (rmF (bb 5) q_5 nm))), (a9, .inl (aT 0, 12, .inl (rmP (bb 6) q_5 nm))), (a10, .inl (aT 0, 4, .inl (upd (bb 7) s0 ((bb 7) s0 + nI 1))))] A s.heap H _ := cx_drop hW [0, 1, 2, 3, 4, 6, 7, 8, 9, 10, 5] rfl (by decide)
          exact cx_iret C hr hlocks (by decide) hW ⟨Nat.le_of_ble_eq_true rfl, Nat.le_of_ble_eq_true rfl⟩ (by
              obtain ⟨z1, z2⟩ := (hB.vote (s := s0) (f := fT_63) hC hqn_5 (by simpa using c_37) (fun i hi => (hv_63.2.2.1 i hi).1)).2.2.1 ga_63 gc_63 hp_97 (by rw [← hB.2.2.2.2.2.1.2.1]; exact hs0) hs4
              exact ⟨q_5, _, ⟨(by rw [← hB.fnd_eq]; exact hq_5), (by omega), (by simpa using c_37), by rw [z1]⟩, z2, rfl⟩) dX7_holdVote_109
        · refine lv_aload_n hx hb dX7_holdVote_100 rfl (lv_at hl 2 rfl) ?_
          refine cx_get C hW 0 1 rfl rfl (by decide) inX7 gw_181 rfl rfl dX7_holdVote_101 ?_
          refine lv_iload_n hx hb dX7_holdVote_104 rfl (lv_at hl 1 rfl) ?_
          refine cx_callv (Wr := [(a0, .inr (10, [.ref a1, .ref a5, .ref a10, .int (bb 8 1), .int ((bb 8 2) + (nI 1)), .int ((bb 8 3) + nI 1), .int (bb 8 4), .int (bb 8 5), .int (bb 8 6), .int (bb 8 7), .int (bb 8 8)])), (a1, .inr (6, [.ref a2, .ref a3, .ref a4, .int (nI nh)])), (a2, .inl (aT 0, 6, .inl (bb 0))), (a3, .inl (aT 0, 6, .inl fT_63)), (a4, .inl (aT 0, 6, .inl (bb 2))), (a10, .inl (aT 0, 4, .inl (bb 7)))]) (cx_runV C hml hl.1 hZ hW hA (As := [.int (nI q_5)]) (rest := []) (k_X5_removeTip l hfl D aT a5 a6 a7 a8 a9 (bb 3) (bb 4) (upd (bb 5) p_97 ((bb 5) p_97 + ((bb 5) q_5))) (bb 6) nm (bb 8 0) q_5 hqn_5 hO.1) gV_X7_X5_removeTip_132 hV_X5_removeTip rfl ⟨Nat.le_of_ble_eq_true rfl, Nat.le_of_ble_eq_true rfl⟩ ⟨Nat.le_of_ble_eq_true rfl, Nat.le_of_ble_eq_true rfl⟩ [5, 6, 7, 8, 9] rfl (by decide) 5 8 rfl rfl rfl rfl (Nat.le_of_ble_eq_true rfl) dX7_holdVote_105) hW hA [5, 6, 7, 8, 9] [0, 1, 2, 3, 4, 10] rfl rfl (by decide) (by decide) (fun _ _ _ _ _ _ h9 => h9.elim) (fun W_105 H locs hq hW => ?_)
          obtain rfl := hq
          refine lv_iload_n hx hb dX7_holdVote_108 rfl (lv_at hl 0 rfl) ?_
          have hW : CxB D [(a0, .inr (10, [.ref a1, .ref a5, .ref a10, .int (bb 8 1), .int ((bb 8 2) + (nI 1)), .int ((bb 8 3) + nI 1), .int (bb 8 4), .int (bb 8 5), .int (bb 8 6), .int (bb 8 7), .int (bb 8 8)])), (a1, .inr (6, [.ref a2, .ref a3, .ref a4, .int (nI nh)])), (a2, .inl (aT 0, 6, .inl (bb 0))), (a3, .inl (aT 0, 6, .inl fT_63)), (a4, .inl (aT 0, 6, .inl (bb 2))), (a5, .inr (8, [.ref a6, .ref a7, .ref a8, .ref a9, .int (nI (nm - 1)), .int (bb 8 0)])), (a6, .inl (aT 0, 12, .inl (rmF (bb 3) q_5 nm))), (a7, .inl (aT 0, 12, .inl (rmF (bb 4) q_5 nm))), (a8, .inl (aT 0, 12, .inl (rmF (upd (bb 5) p_97 ((bb 5) p_97 + ((bb 5) q_5))) q_5 nm))), (a9, .inl (aT 0, 12, .inl (rmP (bb 6) q_5 nm))), (a10, .inl (aT 0, 4, .inl (bb 7)))] A s.heap H _ := cx_drop hW [0, 1, 2, 3, 4, 6, 7, 8, 9, 10, 5] rfl (by decide)
          exact cx_iret C hr hlocks (by decide) hW ⟨Nat.le_of_ble_eq_true rfl, Nat.le_of_ble_eq_true rfl⟩ (by
              obtain ⟨z1, z2⟩ := (hB.vote (s := s0) (f := fT_63) hC hqn_5 (by simpa using c_37) (fun i hi => (hv_63.2.2.1 i hi).1)).2.2.2 p_97 ga_63 gc_63 hp_97 (by rw [← hB.2.2.2.2.2.1.2.1]; exact hs0) hs4
              exact ⟨q_5, _, ⟨(by rw [← hB.fnd_eq]; exact hq_5), (by omega), (by simpa using c_37), by rw [z1]⟩, z2, rfl⟩) dX7_holdVote_109
      · refine lv_istore_n (lv' := [(3, .int (nI 114)), (2, .int (nI q_5)), (0, .ref a0), (1, .int x)]) hx hb dX7_holdVote_66 rfl hl (by decide) rfl (fun ls hl => ?_)
        refine lv_aload_n hx hb dX7_holdVote_67 rfl (lv_at hl 2 rfl) ?_
        refine lv_dup hx hb dX7_holdVote_68 rfl ?_
        refine cx_get C hW 0 4 rfl rfl (by decide) inX7 gw_187 rfl rfl dX7_holdVote_69 ?_
        refine lv_iconst (v := nI 1) hx hb dX7_holdVote_72 (by decide) ?_
        refine lv_iadd hx hb dX7_holdVote_73 ?_
        refine cx_put C hW 0 4 (W1 := [(a0, .inr (10, [.ref a1, .ref a5, .ref a10, .int (bb 8 1), .int ((bb 8 2) + (nI 1)), .int (bb 8 3), .int (bb 8 4), .int (bb 8 5), .int (bb 8 6), .int (bb 8 7), .int (bb 8 8)])), (a10, .inl (aT 0, 4, .inl (bb 7))), (a5, .inr (8, [.ref a6, .ref a7, .ref a8, .ref a9, .int (nI nm), .int (bb 8 0)])), (a6, .inl (aT 0, 12, .inl (bb 3))), (a7, .inl (aT 0, 12, .inl (bb 4))), (a8, .inl (aT 0, 12, .inl (bb 5))), (a9, .inl (aT 0, 12, .inl (bb 6))), (a1, .inr (6, [.ref a2, .ref a3, .ref a4, .int (nI nh)])), (a2, .inl (aT 0, 6, .inl (bb 0))), (a3, .inl (aT 0, 6, .inl fT_63)), (a4, .inl (aT 0, 6, .inl (bb 2)))]) rfl rfl (by decide) inX7 tyX7 tyX7_ok nmX7 gw_187 rfl rfl rfl rfl rfl (Nat.le_of_ble_eq_true rfl) rfl dX7_holdVote_74 (fun H locs hW => ?_)
        refine lv_aload_n hx hb dX7_holdVote_77 rfl (lv_at hl 2 rfl) ?_
        refine lv_iload_n hx hb dX7_holdVote_78 rfl (lv_at hl 0 rfl) ?_
        refine lv_aload_n hx hb dX7_holdVote_79 rfl (lv_at hl 2 rfl) ?_
        refine cx_get C hW 0 1 rfl rfl (by decide) inX7 gw_181 rfl rfl dX7_holdVote_80 ?_
        refine cx_getN C hZ hW 2 2 rfl rfl (by decide) inX5 nw_154 rfl rfl dX7_holdVote_83 ?_
        refine lv_iload_n hx hb dX7_holdVote_86 rfl (lv_at hl 1 rfl) ?_
        refine cx_ald C hW 5 0 (j := q_5) rfl rfl rfl (by have := hO.1; omega) (by decide) dX7_holdVote_87 ?_
        refine lv_aload_n hx hb dX7_holdVote_88 rfl (lv_at hl 2 rfl) ?_
        refine cx_get C hW 0 1 rfl rfl (by decide) inX7 gw_181 rfl rfl dX7_holdVote_89 ?_
        refine cx_getN C hZ hW 2 3 rfl rfl (by decide) inX5 nw_159 rfl rfl dX7_holdVote_92 ?_
        refine lv_iload_n hx hb dX7_holdVote_95 rfl (lv_at hl 1 rfl) ?_
        refine cx_ald C hW 6 0 (j := q_5) rfl rfl rfl (by have := hO.1; omega) (by decide) dX7_holdVote_96 ?_
        refine r_eq (y := (oi (prM M q_5))) (hO.2.2.1 q_5 (by first | assumption | omega)) ?_
        refine cx_callv (Wr := []) (cx_runV C hml hl.1 hZ hW hA (As := [.int (nI 114), .int ((bb 5) q_5), .int (oi (prM M q_5))]) (rest := []) (k_X7_book_r l hfl D aT a0 a1 a2 a3 a4 a5 a6 a7 a8 a9 a10 (bkO (bb 0) fT_63 (bb 2) (bb 3) (bb 4) (bb 5) (bb 6) (bb 7) (bb 8 0) (bb 8 1) ((bb 8 2) + (nI 1)) (bb 8 3) (bb 8 4) (bb 8 5) (bb 8 6) (bb 8 7) (bb 8 8)) nh nm ((bb 5) q_5) (prM M q_5)) gV_X7_X7_bookOutcome_151 hV_X7_bookOutcome rfl ⟨Nat.le_of_ble_eq_true rfl, Nat.le_of_ble_eq_true rfl⟩ ⟨Nat.le_of_ble_eq_true rfl, Nat.le_of_ble_eq_true rfl⟩ [0, 7, 8, 9, 10, 2, 3, 4, 5, 6, 1] rfl (by decide) 0 10 rfl rfl rfl rfl (Nat.le_of_ble_eq_true rfl) dX7_holdVote_97) hW hA [0, 7, 8, 9, 10, 2, 3, 4, 5, 6, 1] [] rfl rfl (by decide) (by decide) (fun _ _ _ _ _ _ h9 => h9.elim) (fun W_97 H locs hq hW => ?_)
        subst hq
        refine lv_aload_n hx hb dX7_holdVote_100 rfl (lv_at hl 2 rfl) ?_
        refine cx_get C hW 0 1 rfl rfl (by decide) inX7 gw_181 rfl rfl dX7_holdVote_101 ?_
        refine lv_iload_n hx hb dX7_holdVote_104 rfl (lv_at hl 1 rfl) ?_
        refine cx_callv (Wr := [(a0, .inr (10, [.ref a1, .ref a5, .ref a10, .int (bb 8 1), .int ((bb 8 2) + (nI 1)), .int (bb 8 3), .int (bb 8 4), .int (bb 8 5), .int ((bb 8 6) + ((bb 5) q_5)), .int (bb 8 7), .int (bb 8 8)])), (a1, .inr (6, [.ref a2, .ref a3, .ref a4, .int (nI nh)])), (a2, .inl (aT 0, 6, .inl (bb 0))), (a3, .inl (aT 0, 6, .inl fT_63)), (a4, .inl (aT 0, 6, .inl (bb 2))), (a10, .inl (aT 0, 4, .inl (bb 7)))]) (cx_runV C hml hl.1 hZ hW hA (As := [.int (nI q_5)]) (rest := []) (k_X5_removeTip l hfl D aT a5 a6 a7 a8 a9 (bb 3) (bb 4) (bb 5) (bb 6) nm (bb 8 0) q_5 hqn_5 hO.1) gV_X7_X5_removeTip_132 hV_X5_removeTip rfl ⟨Nat.le_of_ble_eq_true rfl, Nat.le_of_ble_eq_true rfl⟩ ⟨Nat.le_of_ble_eq_true rfl, Nat.le_of_ble_eq_true rfl⟩ [5, 6, 7, 8, 9] rfl (by decide) 5 8 rfl rfl rfl rfl (Nat.le_of_ble_eq_true rfl) dX7_holdVote_105) hW hA [5, 6, 7, 8, 9] [0, 1, 2, 3, 4, 10] rfl rfl (by decide) (by decide) (fun _ _ _ _ _ _ h9 => h9.elim) (fun W_105 H locs hq hW => ?_)
        obtain rfl := hq
        refine lv_iload_n hx hb dX7_holdVote_108 rfl (lv_at hl 0 rfl) ?_
        have hW : CxB D [(a0, .inr (10, [.ref a1, .ref a5, .ref a10, .int (bb 8 1), .int ((bb 8 2) + (nI 1)), .int (bb 8 3), .int (bb 8 4), .int (bb 8 5), .int ((bb 8 6) + ((bb 5) q_5)), .int (bb 8 7), .int (bb 8 8)])), (a1, .inr (6, [.ref a2, .ref a3, .ref a4, .int (nI nh)])), (a2, .inl (aT 0, 6, .inl (bb 0))), (a3, .inl (aT 0, 6, .inl fT_63)), (a4, .inl (aT 0, 6, .inl (bb 2))), (a5, .inr (8, [.ref a6, .ref a7, .ref a8, .ref a9, .int (nI (nm - 1)), .int (bb 8 0)])), (a6, .inl (aT 0, 12, .inl (rmF (bb 3) q_5 nm))), (a7, .inl (aT 0, 12, .inl (rmF (bb 4) q_5 nm))), (a8, .inl (aT 0, 12, .inl (rmF (bb 5) q_5 nm))), (a9, .inl (aT 0, 12, .inl (rmP (bb 6) q_5 nm))), (a10, .inl (aT 0, 4, .inl (bb 7)))] A s.heap H _ := cx_drop hW [0, 1, 2, 3, 4, 6, 7, 8, 9, 10, 5] rfl (by decide)
        exact cx_iret C hr hlocks (by decide) hW ⟨Nat.le_of_ble_eq_true rfl, Nat.le_of_ble_eq_true rfl⟩ (by
            obtain ⟨z1, z2⟩ := (hB.vote (s := s0) (f := fT_63) hC hqn_5 (by simpa using c_37) (fun i hi => (hv_63.2.2.1 i hi).1)).2.1 ga_63 gc_63
            exact ⟨q_5, _, ⟨(by rw [← hB.fnd_eq]; exact hq_5), (by omega), (by simpa using c_37), by rw [z1]⟩, z2, rfl⟩) dX7_holdVote_109
    · have hW : CxB D [(a0, .inr (10, [.ref a1, .ref a5, .ref a10, .int (bb 8 1), .int (bb 8 2), .int (bb 8 3), .int (bb 8 4), .int (bb 8 5), .int (bb 8 6), .int (bb 8 7), .int (bb 8 8)])), (a1, .inr (6, [.ref a2, .ref a3, .ref a4, .int (nI nh)])), (a2, .inl (aT 0, 6, .inl (bb 0))), (a3, .inl (aT 0, 6, .inl (bb 1))), (a4, .inl (aT 0, 6, .inl (bb 2))), (a5, .inr (8, [.ref a6, .ref a7, .ref a8, .ref a9, .int (nI nm), .int (bb 8 0)])), (a6, .inl (aT 0, 12, .inl (bb 3))), (a7, .inl (aT 0, 12, .inl (bb 4))), (a8, .inl (aT 0, 12, .inl (bb 5))), (a9, .inl (aT 0, 12, .inl (bb 6))), (a10, .inl (aT 0, 4, .inl (bb 7)))] A s.heap H _ := cx_drop hW [0, 1, 2, 3, 4, 6, 7, 8, 9, 10, 5] rfl (by decide)
      exact cx_throw C hfl hex hml hl.1 hlocks hZ hW at_X7_IllegalStateException (List.mem_of_getElem? (i := 7) rfl) gw_635 gw_87 (by decide +kernel) dX7_holdVote_40 dX7_holdVote_43 dX7_holdVote_44 dX7_holdVote_46 dX7_holdVote_49 ⟨Nat.le_of_ble_eq_true rfl, Nat.le_of_ble_eq_true rfl, Nat.le_of_ble_eq_true rfl, Nat.le_of_ble_eq_true rfl⟩ ⟨Nat.le_of_ble_eq_true rfl, Nat.le_of_ble_eq_true rfl⟩ (⟨Or.inr ⟨q_5, (by rw [← hB.fnd_eq]; exact hq_5), rfl, Or.inr (by simpa using c_37)⟩, rfl⟩)
  · have hW : CxB D [(a0, .inr (10, [.ref a1, .ref a5, .ref a10, .int (bb 8 1), .int (bb 8 2), .int (bb 8 3), .int (bb 8 4), .int (bb 8 5), .int (bb 8 6), .int (bb 8 7), .int (bb 8 8)])), (a1, .inr (6, [.ref a2, .ref a3, .ref a4, .int (nI nh)])), (a2, .inl (aT 0, 6, .inl (bb 0))), (a3, .inl (aT 0, 6, .inl (bb 1))), (a4, .inl (aT 0, 6, .inl (bb 2))), (a5, .inr (8, [.ref a6, .ref a7, .ref a8, .ref a9, .int (nI nm), .int (bb 8 0)])), (a6, .inl (aT 0, 12, .inl (bb 3))), (a7, .inl (aT 0, 12, .inl (bb 4))), (a8, .inl (aT 0, 12, .inl (bb 5))), (a9, .inl (aT 0, 12, .inl (bb 6))), (a10, .inl (aT 0, 4, .inl (bb 7)))] A s.heap H _ := cx_drop hW [0, 1, 2, 3, 4, 6, 7, 8, 9, 10, 5] rfl (by decide)
    exact cx_throw C hfl hex hml hl.1 hlocks hZ hW at_X7_IllegalStateException (List.mem_of_getElem? (i := 6) rfl) gw_635 gw_87 (by decide +kernel) dX7_holdVote_19 dX7_holdVote_22 dX7_holdVote_23 dX7_holdVote_25 dX7_holdVote_28 ⟨Nat.le_of_ble_eq_true rfl, Nat.le_of_ble_eq_true rfl, Nat.le_of_ble_eq_true rfl, Nat.le_of_ble_eq_true rfl⟩ ⟨Nat.le_of_ble_eq_true rfl, Nat.le_of_ble_eq_true rfl⟩ (⟨Or.inr ⟨q_5, (by rw [← hB.fnd_eq]; exact hq_5), rfl, Or.inl (by omega)⟩, rfl⟩)
theorem dX7_beginNextSeason_0 : decode cX7_beginNextSeason 0 = .ok (.aload_n 0, 1) := by decide +kernel
theorem dX7_beginNextSeason_1 : decode cX7_beginNextSeason 1 = .ok (.aload_n 0, 1) := by decide +kernel
theorem dX7_beginNextSeason_2 : decode cX7_beginNextSeason 2 = .ok (.getfield 29, 3) := by decide +kernel
theorem dX7_beginNextSeason_5 : decode cX7_beginNextSeason 5 = .ok (.iconst 1, 1) := by decide +kernel
theorem dX7_beginNextSeason_6 : decode cX7_beginNextSeason 6 = .ok (.iadd, 1) := by decide +kernel
theorem dX7_beginNextSeason_7 : decode cX7_beginNextSeason 7 = .ok (.iconst 4, 1) := by decide +kernel
theorem dX7_beginNextSeason_8 : decode cX7_beginNextSeason 8 = .ok (.if_icmp .ge 12, 3) := by decide +kernel
theorem dX7_beginNextSeason_11 : decode cX7_beginNextSeason 11 = .ok (.aload_n 0, 1) := by decide +kernel
theorem dX7_beginNextSeason_12 : decode cX7_beginNextSeason 12 = .ok (.getfield 29, 3) := by decide +kernel
theorem dX7_beginNextSeason_15 : decode cX7_beginNextSeason 15 = .ok (.iconst 1, 1) := by decide +kernel
theorem dX7_beginNextSeason_16 : decode cX7_beginNextSeason 16 = .ok (.iadd, 1) := by decide +kernel
theorem dX7_beginNextSeason_17 : decode cX7_beginNextSeason 17 = .ok (.goto 4, 3) := by decide +kernel
theorem dX7_beginNextSeason_20 : decode cX7_beginNextSeason 20 = .ok (.iconst 0, 1) := by decide +kernel
theorem dX7_beginNextSeason_21 : decode cX7_beginNextSeason 21 = .ok (.putfield 29, 3) := by decide +kernel
theorem dX7_beginNextSeason_24 : decode cX7_beginNextSeason 24 = .ok (.aload_n 0, 1) := by decide +kernel
theorem dX7_beginNextSeason_25 : decode cX7_beginNextSeason 25 = .ok (.getfield 12, 3) := by decide +kernel
theorem dX7_beginNextSeason_28 : decode cX7_beginNextSeason 28 = .ok (.aload_n 0, 1) := by decide +kernel
theorem dX7_beginNextSeason_29 : decode cX7_beginNextSeason 29 = .ok (.getfield 29, 3) := by decide +kernel
theorem dX7_beginNextSeason_32 : decode cX7_beginNextSeason 32 = .ok (.invokevirtual 155, 3) := by decide +kernel
theorem dX7_beginNextSeason_35 : decode cX7_beginNextSeason 35 = .ok (.return_, 1) := by decide +kernel
theorem gV_X7_X2_meet_155 : GoodIn gw (wsV RX7 155 RX2 yX2_meet (Cond.code yX2_meet cX2_meet 4 (none) :: gw)) := gdV gw_403 gw_404 gw_405 gw_69 gw_406
theorem hV_X2_meet : yX2_meet.cls = RX2 ∧ yX2_meet.cls ≠ "java/lang/invoke/MethodHandle" ∧ yX2_meet.cls ≠ "java/lang/invoke/VarHandle" ∧ (parseMethodDescriptor yX2_meet.desc).map (fun d => d.parameters.length) = some 1 := ⟨rfl, by decide +kernel, by decide +kernel, by decide +kernel⟩
set_option maxHeartbeats 2000000 in
set_option maxRecDepth 20000 in
theorem k_X7_beginNextSeason (l : Launch) (hfl : l.stackTraces = false) (D : va_G) (aT : Nat → ClassId) (a0 : Nat) (a1 : Nat) (a2 : Nat) (a3 : Nat) (a4 : Nat) (a5 : Nat) (a6 : Nat) (a7 : Nat) (a8 : Nat) (a9 : Nat) (a10 : Nat) (bb : Nat → Nat → Int32) (nh : Nat) (nm : Nat) (M : Nat → Int32) (Bd : Nat) (hBd : Bd < 1048000) (hC : CoW M Bd) (hB : BlC bb nh nm M) (s0 : Nat) (hs0 : bb 8 1 = nI s0) (hs4 : s0 < 4) : CxG l yX7_beginNextSeason cX7_beginNextSeason 1 none 2 0 0 63 D aT [.ref a0] [(a0, .inr (10, [.ref a1, .ref a5, .ref a10, .int (bb 8 1), .int (bb 8 2), .int (bb 8 3), .int (bb 8 4), .int (bb 8 5), .int (bb 8 6), .int (bb 8 7), .int (bb 8 8)])), (a1, .inr (6, [.ref a2, .ref a3, .ref a4, .int (nI nh)])), (a2, .inl (aT 0, 6, .inl (bb 0))), (a3, .inl (aT 0, 6, .inl (bb 1))), (a4, .inl (aT 0, 6, .inl (bb 2))), (a5, .inr (8, [.ref a6, .ref a7, .ref a8, .ref a9, .int (nI nm), .int (bb 8 0)])), (a6, .inl (aT 0, 12, .inl (bb 3))), (a7, .inl (aT 0, 12, .inl (bb 4))), (a8, .inl (aT 0, 12, .inl (bb 5))), (a9, .inl (aT 0, 12, .inl (bb 6))), (a10, .inl (aT 0, 4, .inl (bb 7)))] (qV D aT (fun W1 => ∃ b2 : Nat → Nat → Int32, BlC b2 nh nm (seaF ((s0 + 1) % 4) (upd M 3 (nI ((s0 + 1) % 4))) (hM M)) ∧ W1 = ([(a0, .inr (10, [.ref a1, .ref a5, .ref a10, .int (b2 8 1), .int (b2 8 2), .int (b2 8 3), .int (b2 8 4), .int (b2 8 5), .int (b2 8 6), .int (b2 8 7), .int (b2 8 8)])), (a1, .inr (6, [.ref a2, .ref a3, .ref a4, .int (nI nh)])), (a2, .inl (aT 0, 6, .inl (b2 0))), (a3, .inl (aT 0, 6, .inl (b2 1))), (a4, .inl (aT 0, 6, .inl (b2 2))), (a5, .inr (8, [.ref a6, .ref a7, .ref a8, .ref a9, .int (nI nm), .int (b2 8 0)])), (a6, .inl (aT 0, 12, .inl (b2 3))), (a7, .inl (aT 0, 12, .inl (b2 4))), (a8, .inl (aT 0, 12, .inl (b2 5))), (a9, .inl (aT 0, 12, .inl (b2 6))), (a10, .inl (aT 0, 4, .inl (b2 7)))] : va_W))) (fun _ _ => False) := by
  have hH := hB.he hC
  have hO := hB.mo hC
  refine CxG.of RX7 (by decide +kernel) rfl (Nat.le_of_ble_eq_true rfl) ?_
  intro p e s m below meth c A ls C hml hl hA hr hlocks hex hnm hZ hW
  have hl : lv_has ls 1 [(0, .ref a0)] := hl
  have hx := C.1
  have hb := C.2.1
  refine lv_aload_n hx hb dX7_beginNextSeason_0 rfl (lv_at hl 0 rfl) ?_
  refine lv_aload_n hx hb dX7_beginNextSeason_1 rfl (lv_at hl 0 rfl) ?_
  refine cx_get C hW 0 3 rfl rfl (by decide) inX7 gw_185 rfl rfl dX7_beginNextSeason_2 ?_
  refine r_eq (y := (nI s0)) (hs0) ?_
  refine lv_iconst (v := nI 1) hx hb dX7_beginNextSeason_5 (by decide) ?_
  refine r_iaddN hx hb (a := s0) (b := 1) dX7_beginNextSeason_6 ?_
  refine lv_iconst (v := nI 4) hx hb dX7_beginNextSeason_7 (by decide) ?_
  refine r_geN hx hb (a := s0 + 1) (b := 4) (by omega) (by omega) (tgt := 20) dX7_beginNextSeason_8 (by decide) (fun c_8 => ?_) (fun c_8 => ?_)
  · refine lv_iconst (v := nI 0) hx hb dX7_beginNextSeason_20 (by decide) ?_
    refine cx_put C hW 0 3 (W1 := [(a0, .inr (10, [.ref a1, .ref a5, .ref a10, .int (nI 0), .int (bb 8 2), .int (bb 8 3), .int (bb 8 4), .int (bb 8 5), .int (bb 8 6), .int (bb 8 7), .int (bb 8 8)])), (a1, .inr (6, [.ref a2, .ref a3, .ref a4, .int (nI nh)])), (a2, .inl (aT 0, 6, .inl (bb 0))), (a3, .inl (aT 0, 6, .inl (bb 1))), (a4, .inl (aT 0, 6, .inl (bb 2))), (a5, .inr (8, [.ref a6, .ref a7, .ref a8, .ref a9, .int (nI nm), .int (bb 8 0)])), (a6, .inl (aT 0, 12, .inl (bb 3))), (a7, .inl (aT 0, 12, .inl (bb 4))), (a8, .inl (aT 0, 12, .inl (bb 5))), (a9, .inl (aT 0, 12, .inl (bb 6))), (a10, .inl (aT 0, 4, .inl (bb 7)))]) rfl rfl (by decide) inX7 tyX7 tyX7_ok nmX7 gw_185 rfl rfl rfl rfl rfl (Nat.le_of_ble_eq_true rfl) rfl dX7_beginNextSeason_21 (fun H locs hW => ?_)
    refine lv_aload_n hx hb dX7_beginNextSeason_24 rfl (lv_at hl 0 rfl) ?_
    refine cx_get C hW 0 0 rfl rfl (by decide) inX7 gw_179 rfl rfl dX7_beginNextSeason_25 ?_
    refine lv_aload_n hx hb dX7_beginNextSeason_28 rfl (lv_at hl 0 rfl) ?_
    refine cx_get C hW 0 3 rfl rfl (by decide) inX7 gw_185 rfl rfl dX7_beginNextSeason_29 ?_
    refine cx_callv (Wr := [(a0, .inr (10, [.ref a1, .ref a5, .ref a10, .int (nI 0), .int (bb 8 2), .int (bb 8 3), .int (bb 8 4), .int (bb 8 5), .int (bb 8 6), .int (bb 8 7), .int (bb 8 8)])), (a5, .inr (8, [.ref a6, .ref a7, .ref a8, .ref a9, .int (nI nm), .int (bb 8 0)])), (a6, .inl (aT 0, 12, .inl (bb 3))), (a7, .inl (aT 0, 12, .inl (bb 4))), (a8, .inl (aT 0, 12, .inl (bb 5))), (a9, .inl (aT 0, 12, .inl (bb 6))), (a10, .inl (aT 0, 4, .inl (bb 7)))]) (cx_runV C hml hl.1 hZ hW hA (As := [.int (nI 0)]) (rest := []) (k_X2_meet l hfl D aT a1 a2 a3 a4 (bb 0) (bb 1) (bb 2) nh (lvM M) (thM M) (taM M) hH 0 (by omega)) gV_X7_X2_meet_155 hV_X2_meet rfl ⟨Nat.le_of_ble_eq_true rfl, Nat.le_of_ble_eq_true rfl⟩ ⟨Nat.le_of_ble_eq_true rfl, Nat.le_of_ble_eq_true rfl⟩ [1, 2, 3, 4] rfl (by decide) 1 6 rfl rfl rfl rfl (Nat.le_of_ble_eq_true rfl) dX7_beginNextSeason_32) hW hA [1, 2, 3, 4] [0, 5, 6, 7, 8, 9, 10] rfl rfl (by decide) (by decide) (fun _ _ _ _ _ _ h9 => h9.elim) (fun W_32 H locs hq hW => ?_)
    obtain ⟨fL_32, fT_32, hm_32, rfl⟩ := hq
    have hW : CxB D [(a0, .inr (10, [.ref a1, .ref a5, .ref a10, .int (nI 0), .int (bb 8 2), .int (bb 8 3), .int (bb 8 4), .int (bb 8 5), .int (bb 8 6), .int (bb 8 7), .int (bb 8 8)])), (a1, .inr (6, [.ref a2, .ref a3, .ref a4, .int (nI nh)])), (a2, .inl (aT 0, 6, .inl fL_32)), (a3, .inl (aT 0, 6, .inl fT_32)), (a4, .inl (aT 0, 6, .inl (bb 2))), (a5, .inr (8, [.ref a6, .ref a7, .ref a8, .ref a9, .int (nI nm), .int (bb 8 0)])), (a6, .inl (aT 0, 12, .inl (bb 3))), (a7, .inl (aT 0, 12, .inl (bb 4))), (a8, .inl (aT 0, 12, .inl (bb 5))), (a9, .inl (aT 0, 12, .inl (bb 6))), (a10, .inl (aT 0, 4, .inl (bb 7)))] A s.heap H _ := cx_drop hW [0, 7, 8, 9, 10, 1, 2, 3, 4, 5, 6] rfl (by decide)
    exact cx_vret C hr hlocks hW ⟨Nat.le_of_ble_eq_true rfl, Nat.le_of_ble_eq_true rfl⟩ (by
        rw [show (s0 + 1) % 4 = 0 by omega]
        exact ⟨_, hB.sea hC (fun i hi => (hm_32.2.1 i hi).1) (fun i hi => (hm_32.2.2.1 i hi).1), rfl⟩) dX7_beginNextSeason_35
  · refine lv_aload_n hx hb dX7_beginNextSeason_11 rfl (lv_at hl 0 rfl) ?_
    refine cx_get C hW 0 3 rfl rfl (by decide) inX7 gw_185 rfl rfl dX7_beginNextSeason_12 ?_
    refine r_eq (y := (nI s0)) (hs0) ?_
    refine lv_iconst (v := nI 1) hx hb dX7_beginNextSeason_15 (by decide) ?_
    refine r_iaddN hx hb (a := s0) (b := 1) dX7_beginNextSeason_16 ?_
    refine lv_goto (tgt := 21) hx hb dX7_beginNextSeason_17 (by decide) ?_
    refine cx_put C hW 0 3 (W1 := [(a0, .inr (10, [.ref a1, .ref a5, .ref a10, .int (nI (s0 + 1)), .int (bb 8 2), .int (bb 8 3), .int (bb 8 4), .int (bb 8 5), .int (bb 8 6), .int (bb 8 7), .int (bb 8 8)])), (a1, .inr (6, [.ref a2, .ref a3, .ref a4, .int (nI nh)])), (a2, .inl (aT 0, 6, .inl (bb 0))), (a3, .inl (aT 0, 6, .inl (bb 1))), (a4, .inl (aT 0, 6, .inl (bb 2))), (a5, .inr (8, [.ref a6, .ref a7, .ref a8, .ref a9, .int (nI nm), .int (bb 8 0)])), (a6, .inl (aT 0, 12, .inl (bb 3))), (a7, .inl (aT 0, 12, .inl (bb 4))), (a8, .inl (aT 0, 12, .inl (bb 5))), (a9, .inl (aT 0, 12, .inl (bb 6))), (a10, .inl (aT 0, 4, .inl (bb 7)))]) rfl rfl (by decide) inX7 tyX7 tyX7_ok nmX7 gw_185 rfl rfl rfl rfl rfl (Nat.le_of_ble_eq_true rfl) rfl dX7_beginNextSeason_21 (fun H locs hW => ?_)
    refine lv_aload_n hx hb dX7_beginNextSeason_24 rfl (lv_at hl 0 rfl) ?_
    refine cx_get C hW 0 0 rfl rfl (by decide) inX7 gw_179 rfl rfl dX7_beginNextSeason_25 ?_
    refine lv_aload_n hx hb dX7_beginNextSeason_28 rfl (lv_at hl 0 rfl) ?_
    refine cx_get C hW 0 3 rfl rfl (by decide) inX7 gw_185 rfl rfl dX7_beginNextSeason_29 ?_
    refine cx_callv (Wr := [(a0, .inr (10, [.ref a1, .ref a5, .ref a10, .int (nI (s0 + 1)), .int (bb 8 2), .int (bb 8 3), .int (bb 8 4), .int (bb 8 5), .int (bb 8 6), .int (bb 8 7), .int (bb 8 8)])), (a5, .inr (8, [.ref a6, .ref a7, .ref a8, .ref a9, .int (nI nm), .int (bb 8 0)])), (a6, .inl (aT 0, 12, .inl (bb 3))), (a7, .inl (aT 0, 12, .inl (bb 4))), (a8, .inl (aT 0, 12, .inl (bb 5))), (a9, .inl (aT 0, 12, .inl (bb 6))), (a10, .inl (aT 0, 4, .inl (bb 7)))]) (cx_runV C hml hl.1 hZ hW hA (As := [.int (nI (s0 + 1))]) (rest := []) (k_X2_meet l hfl D aT a1 a2 a3 a4 (bb 0) (bb 1) (bb 2) nh (lvM M) (thM M) (taM M) hH (s0 + 1) (by omega)) gV_X7_X2_meet_155 hV_X2_meet rfl ⟨Nat.le_of_ble_eq_true rfl, Nat.le_of_ble_eq_true rfl⟩ ⟨Nat.le_of_ble_eq_true rfl, Nat.le_of_ble_eq_true rfl⟩ [1, 2, 3, 4] rfl (by decide) 1 6 rfl rfl rfl rfl (Nat.le_of_ble_eq_true rfl) dX7_beginNextSeason_32) hW hA [1, 2, 3, 4] [0, 5, 6, 7, 8, 9, 10] rfl rfl (by decide) (by decide) (fun _ _ _ _ _ _ h9 => h9.elim) (fun W_32 H locs hq hW => ?_)
    obtain ⟨fL_32, fT_32, hm_32, rfl⟩ := hq
    have hW : CxB D [(a0, .inr (10, [.ref a1, .ref a5, .ref a10, .int (nI (s0 + 1)), .int (bb 8 2), .int (bb 8 3), .int (bb 8 4), .int (bb 8 5), .int (bb 8 6), .int (bb 8 7), .int (bb 8 8)])), (a1, .inr (6, [.ref a2, .ref a3, .ref a4, .int (nI nh)])), (a2, .inl (aT 0, 6, .inl fL_32)), (a3, .inl (aT 0, 6, .inl fT_32)), (a4, .inl (aT 0, 6, .inl (bb 2))), (a5, .inr (8, [.ref a6, .ref a7, .ref a8, .ref a9, .int (nI nm), .int (bb 8 0)])), (a6, .inl (aT 0, 12, .inl (bb 3))), (a7, .inl (aT 0, 12, .inl (bb 4))), (a8, .inl (aT 0, 12, .inl (bb 5))), (a9, .inl (aT 0, 12, .inl (bb 6))), (a10, .inl (aT 0, 4, .inl (bb 7)))] A s.heap H _ := cx_drop hW [0, 7, 8, 9, 10, 1, 2, 3, 4, 5, 6] rfl (by decide)
    exact cx_vret C hr hlocks hW ⟨Nat.le_of_ble_eq_true rfl, Nat.le_of_ble_eq_true rfl⟩ (by
        rw [show (s0 + 1) % 4 = s0 + 1 by omega]
        exact ⟨_, hB.sea hC (fun i hi => (hm_32.2.1 i hi).1) (fun i hi => (hm_32.2.2.1 i hi).1), rfl⟩) dX7_beginNextSeason_35
theorem dX7_accountedWeight_0 : decode cX7_accountedWeight 0 = .ok (.aload_n 0, 1) := by decide +kernel
theorem dX7_accountedWeight_1 : decode cX7_accountedWeight 1 = .ok (.getfield 52, 3) := by decide +kernel
theorem dX7_accountedWeight_4 : decode cX7_accountedWeight 4 = .ok (.aload_n 0, 1) := by decide +kernel
theorem dX7_accountedWeight_5 : decode cX7_accountedWeight 5 = .ok (.getfield 55, 3) := by decide +kernel
theorem dX7_accountedWeight_8 : decode cX7_accountedWeight 8 = .ok (.isub, 1) := by decide +kernel
theorem dX7_accountedWeight_9 : decode cX7_accountedWeight 9 = .ok (.aload_n 0, 1) := by decide +kernel
theorem dX7_accountedWeight_10 : decode cX7_accountedWeight 10 = .ok (.getfield 58, 3) := by decide +kernel
theorem dX7_accountedWeight_13 : decode cX7_accountedWeight 13 = .ok (.isub, 1) := by decide +kernel
theorem dX7_accountedWeight_14 : decode cX7_accountedWeight 14 = .ok (.aload_n 0, 1) := by decide +kernel
theorem dX7_accountedWeight_15 : decode cX7_accountedWeight 15 = .ok (.getfield 61, 3) := by decide +kernel
theorem dX7_accountedWeight_18 : decode cX7_accountedWeight 18 = .ok (.isub, 1) := by decide +kernel
theorem dX7_accountedWeight_19 : decode cX7_accountedWeight 19 = .ok (.aload_n 0, 1) := by decide +kernel
theorem dX7_accountedWeight_20 : decode cX7_accountedWeight 20 = .ok (.getfield 64, 3) := by decide +kernel
theorem dX7_accountedWeight_23 : decode cX7_accountedWeight 23 = .ok (.isub, 1) := by decide +kernel
theorem dX7_accountedWeight_24 : decode cX7_accountedWeight 24 = .ok (.ireturn, 1) := by decide +kernel
set_option maxHeartbeats 2000000 in
set_option maxRecDepth 20000 in
theorem k_X7_accountedWeight (l : Launch) (hfl : l.stackTraces = false) (D : va_G) (aT : Nat → ClassId) (a0 : Nat) (a1 : Nat) (a2 : Nat) (a3 : Nat) (a4 : Nat) (a5 : Nat) (a6 : Nat) (a7 : Nat) (a8 : Nat) (a9 : Nat) (a10 : Nat) (bb : Nat → Nat → Int32) (nh : Nat) (nm : Nat) : CxG l yX7_accountedWeight cX7_accountedWeight 1 (some (.int)) 0 0 0 0 D aT [.ref a0] [(a0, .inr (10, [.ref a1, .ref a5, .ref a10, .int (bb 8 1), .int (bb 8 2), .int (bb 8 3), .int (bb 8 4), .int (bb 8 5), .int (bb 8 6), .int (bb 8 7), .int (bb 8 8)])), (a1, .inr (6, [.ref a2, .ref a3, .ref a4, .int (nI nh)])), (a2, .inl (aT 0, 6, .inl (bb 0))), (a3, .inl (aT 0, 6, .inl (bb 1))), (a4, .inl (aT 0, 6, .inl (bb 2))), (a5, .inr (8, [.ref a6, .ref a7, .ref a8, .ref a9, .int (nI nm), .int (bb 8 0)])), (a6, .inl (aT 0, 12, .inl (bb 3))), (a7, .inl (aT 0, 12, .inl (bb 4))), (a8, .inl (aT 0, 12, .inl (bb 5))), (a9, .inl (aT 0, 12, .inl (bb 6))), (a10, .inl (aT 0, 4, .inl (bb 7)))] (qI D aT (fun r W1 => r = (((((bb 8 4) - (bb 8 5)) - (bb 8 6)) - (bb 8 7)) - (bb 8 8)) ∧ W1 = ([(a0, .inr (10, [.ref a1, .ref a5, .ref a10, .int (bb 8 1), .int (bb 8 2), .int (bb 8 3), .int (bb 8 4), .int (bb 8 5), .int (bb 8 6), .int (bb 8 7), .int (bb 8 8)])), (a1, .inr (6, [.ref a2, .ref a3, .ref a4, .int (nI nh)])), (a2, .inl (aT 0, 6, .inl (bb 0))), (a3, .inl (aT 0, 6, .inl (bb 1))), (a4, .inl (aT 0, 6, .inl (bb 2))), (a5, .inr (8, [.ref a6, .ref a7, .ref a8, .ref a9, .int (nI nm), .int (bb 8 0)])), (a6, .inl (aT 0, 12, .inl (bb 3))), (a7, .inl (aT 0, 12, .inl (bb 4))), (a8, .inl (aT 0, 12, .inl (bb 5))), (a9, .inl (aT 0, 12, .inl (bb 6))), (a10, .inl (aT 0, 4, .inl (bb 7)))] : va_W))) (fun _ _ => False) := by
  refine CxG.of RX7 (by decide +kernel) rfl (Nat.le_of_ble_eq_true rfl) ?_
  intro p e s m below meth c A ls C hml hl hA hr hlocks hex hnm hZ hW
  have hl : lv_has ls 1 [(0, .ref a0)] := hl
  have hx := C.1
  have hb := C.2.1
  refine lv_aload_n hx hb dX7_accountedWeight_0 rfl (lv_at hl 0 rfl) ?_
  refine cx_get C hW 0 6 rfl rfl (by decide) inX7 gw_191 rfl rfl dX7_accountedWeight_1 ?_
  refine lv_aload_n hx hb dX7_accountedWeight_4 rfl (lv_at hl 0 rfl) ?_
  refine cx_get C hW 0 7 rfl rfl (by decide) inX7 gw_192 rfl rfl dX7_accountedWeight_5 ?_
  refine lv_isub hx hb dX7_accountedWeight_8 ?_
  refine lv_aload_n hx hb dX7_accountedWeight_9 rfl (lv_at hl 0 rfl) ?_
  refine cx_get C hW 0 8 rfl rfl (by decide) inX7 gw_193 rfl rfl dX7_accountedWeight_10 ?_
  refine lv_isub hx hb dX7_accountedWeight_13 ?_
  refine lv_aload_n hx hb dX7_accountedWeight_14 rfl (lv_at hl 0 rfl) ?_
  refine cx_get C hW 0 9 rfl rfl (by decide) inX7 gw_194 rfl rfl dX7_accountedWeight_15 ?_
  refine lv_isub hx hb dX7_accountedWeight_18 ?_
  refine lv_aload_n hx hb dX7_accountedWeight_19 rfl (lv_at hl 0 rfl) ?_
  refine cx_get C hW 0 10 rfl rfl (by decide) inX7 gw_195 rfl rfl dX7_accountedWeight_20 ?_
  refine lv_isub hx hb dX7_accountedWeight_23 ?_
  exact cx_iret C hr hlocks rfl hW ⟨Nat.le_of_ble_eq_true rfl, Nat.le_of_ble_eq_true rfl⟩ (⟨rfl, rfl⟩) dX7_accountedWeight_24
end
