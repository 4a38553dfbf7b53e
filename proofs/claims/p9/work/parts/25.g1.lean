theorem cx_drop {D : va_G} {Wd W1 : va_W} {A : Nat → Prop} {H0 H : Heap} {locs : List Loc} (h : CxB D Wd A H0 H locs) (is : List Nat) (his : is.map (fun i => Wd[i]?) = W1.map some) (hn : va_nd is = true) : CxB D W1 A H0 H locs := ⟨h.1.sub is (cx_fm his), h.2.1.sub is hn his, h.2.2⟩
section G1
variable {p : Program} {l : Launch} {e : Env} {R : Room} {s : State} {m : MethodId} {args : Array Value} {below : List Frame} {meth : Method} {c : Code} {H : Heap} {locs : List Loc} {cells slots : Nat} {Q : State → Prop} {cc : ByteArray} {pc : Nat} {ls : Array Slot} {rest : List Value} {D : va_G} {aT : Nat → ClassId} {own : String} {nL : Nat}
theorem oi_lt0 {o : Option Nat} (ho : ∀ j, o = some j → j < 2 ^ 31) : oi o < 0 ↔ o = none := by
  cases o with
  | none => exact ⟨fun _ => rfl, fun _ => by decide⟩
  | some j => exact ⟨fun h => absurd h (nI_pos (ho j rfl)), fun h => by cases h⟩
theorem r_oi_lt0 (hx : p.tables.exec = Jvm.exec) (hb : c.code = cc) {o : Option Nat} (ho : ∀ j, o = some j → j < 2 ^ 31) {off : Int} {tgt : Nat} (hdg : decode cc pc = .ok (.ifCond .lt off, 3)) (ht : (pc : Int) + off = (tgt : Int)) (kt : o = none → W p l e R s m args below meth c H locs cells slots Q (F0 m tgt ls rest)) (kf : ∀ j, o = some j → W p l e R s m args below meth c H locs cells slots Q (F0 m (pc + 3) ls rest)) : W p l e R s m args below meth c H locs cells slots Q (F0 m pc ls (.int (oi o) :: rest)) := by
  refine lv_if_lt hx hb hdg ht (fun h => kt ((oi_lt0 ho).mp h)) (fun h => ?_)
  cases o with
  | none => exact absurd ((oi_lt0 ho).mpr rfl) h
  | some j => exact kf j rfl
theorem r_oi_ge0 (hx : p.tables.exec = Jvm.exec) (hb : c.code = cc) {o : Option Nat} (ho : ∀ j, o = some j → j < 2 ^ 31) {off : Int} {tgt : Nat} (hdg : decode cc pc = .ok (.ifCond .ge off, 3)) (ht : (pc : Int) + off = (tgt : Int)) (kt : ∀ j, o = some j → W p l e R s m args below meth c H locs cells slots Q (F0 m tgt ls rest)) (kf : o = none → W p l e R s m args below meth c H locs cells slots Q (F0 m (pc + 3) ls rest)) : W p l e R s m args below meth c H locs cells slots Q (F0 m pc ls (.int (oi o) :: rest)) := by
  refine lv_if_ge hx hb hdg ht (fun h => ?_) (fun h => kf ((oi_lt0 ho).mp (Int32.not_le.mp h)))
  cases o with
  | none => exact absurd h (by decide)
  | some j => exact kt j rfl
theorem cx_max (C : CxX p c cc s args m D aT own) (hml : c.maxLocals = nL) (hls : ls.size = nL) {index : Nat} (hk : Cond.methodLink own index Lib.Math.max.name ∈ gw) (hR : 1 ≤ R.frames ∧ 21 ≤ R.locals ∧ (rest.map fun v => v.category).sum ≤ 8) (hcs : cells ≤ R.cells ∧ slots ≤ R.slots) {x y : Int32} (hdg : decode cc pc = .ok (.invokestatic index, 3))
    (kk : W p l e R s m args below meth c H locs cells slots Q (F0 m (pc + 3) ls (.int (if x < y then y else x) :: rest))) : W p l e R s m args below meth c H locs cells slots Q (F0 m pc ls (.int y :: .int x :: rest)) :=
  va_mmax C.1 C.2.1 (by rw [hml, hls]) C.2.2.2.1 (C.2.2.1 _ hk) (C.2.2.1 _ gm_max.1) (C.2.2.1 _ gw_89) (C.2.2.1 _ gm_max.2) hR.1 (by omega) hcs.1 hcs.2 hdg kk
theorem cx_min (C : CxX p c cc s args m D aT own) (hml : c.maxLocals = nL) (hls : ls.size = nL) {index : Nat} (hk : Cond.methodLink own index Lib.Math.min.name ∈ gw) (hR : 1 ≤ R.frames ∧ 21 ≤ R.locals ∧ (rest.map fun v => v.category).sum ≤ 8) (hcs : cells ≤ R.cells ∧ slots ≤ R.slots) {x y : Int32} (hdg : decode cc pc = .ok (.invokestatic index, 3))
    (kk : W p l e R s m args below meth c H locs cells slots Q (F0 m (pc + 3) ls (.int (if y < x then y else x) :: rest))) : W p l e R s m args below meth c H locs cells slots Q (F0 m pc ls (.int y :: .int x :: rest)) :=
  va_mmin C.1 C.2.1 (by rw [hml, hls]) C.2.2.2.1 (C.2.2.1 _ hk) (C.2.2.1 _ gm_min.1) (C.2.2.1 _ gw_89) (C.2.2.1 _ gm_min.2) hR.1 (by omega) hcs.1 hcs.2 hdg kk
end G1
/-- the hedges that the class's rows hold -/
def HeC (fL fT fX : Nat → Int32) (nh : Nat) (lv th ta : Nat → Nat) : Prop :=
  nh ≤ 6 ∧ (∀ i, i < nh → fL i = nI (lv i) ∧ 1 ≤ lv i ∧ lv i ≤ 99) ∧ (∀ i, i < nh → fT i = nI (th i) ∧ th i ≤ 9) ∧ ∀ i, i < nh → fX i = nI (ta i) ∧ ta i ≤ 9
/-- the motions that the class's rows hold -/
def MoC (fI fN fP : Nat → Int32) (nm : Nat) (idn : Nat → Nat) (pr : Nat → Option Nat) (tn : Nat → Nat) : Prop :=
  nm ≤ 12 ∧ (∀ k, k < nm → fI k = nI (idn k) ∧ idn k < 1048576) ∧ (∀ k, k < nm → fP k = oi (pr k)) ∧ ParOk pr nm ∧ (∀ j k, j < k → k < nm → idn j < idn k) ∧ ∀ k, k < nm → fN k = nI (tn k) ∧ tn k ≤ 9
theorem isHB_lo {n : Nat} {x : Int32} (h : x < 0) : nI 0 = bI (isHB n x) := by
  have h1 : x.toInt < (0 : Int32).toInt := Int32.lt_iff_toInt_lt.mp h
  have h2 : (0 : Int32).toInt = 0 := by decide
  unfold isHB; rw [decide_eq_false (by omega)]; rfl
theorem isHB_hi {n : Nat} {x : Int32} (hn : n < 1024) (h : nI n ≤ x) : nI 0 = bI (isHB n x) := by
  have h1 : (nI n).toInt ≤ x.toInt := Int32.le_iff_toInt_le.mp h
  rw [nI_toInt (by omega)] at h1
  unfold isHB; rw [decide_eq_false (by omega)]; rfl
theorem isHB_in {n : Nat} {x : Int32} (hn : n < 1024) (h0 : ¬ x < 0) (h : ¬ nI n ≤ x) : nI 1 = bI (isHB n x) := by
  have h1 : x.toInt < (nI n).toInt := Int32.lt_iff_toInt_lt.mp (Int32.not_le.mp h)
  have h3 : (0 : Int32).toInt ≤ x.toInt := Int32.le_iff_toInt_le.mp (Int32.not_lt.mp h0)
  have h2 : (0 : Int32).toInt = 0 := by decide
  rw [nI_toInt (by omega)] at h1
  unfold isHB; rw [decide_eq_true (by omega)]; rfl
/-- the thorns when the first i hedges have been asked -/
def thV (v : Nat → Bool) (th : Nat → Nat) (i j : Nat) : Nat := if j < i ∧ v j = true then th j - 1 else th j
def anV (v : Nat → Bool) : Nat → Bool
  | 0 => false
  | i + 1 => anV v i || v i
def vvF (th ta : Nat → Nat) (t j : Nat) : Bool := vetB (dif (ta j) t) (th j)
theorem thV_i {v : Nat → Bool} {th : Nat → Nat} {i : Nat} : thV v th i i = th i := by unfold thV; rw [if_neg (by omega)]
theorem thV_0 {v : Nat → Bool} {th : Nat → Nat} : thV v th 0 = th := by funext j; unfold thV; rw [if_neg (by omega)]
theorem HeC.vt1 {fL f fX : Nat → Int32} {nh i : Nat} {v : Nat → Bool} {lv th ta : Nat → Nat} (h : HeC fL f fX nh lv (thV v th i) ta) (hi : i < nh) (hv : v i = true) : HeC fL (upd f i (nI (th i - 1))) fX nh lv (thV v th (i + 1)) ta := by
  obtain ⟨h1, h2, h3, h4⟩ := h
  refine ⟨h1, h2, fun k hk => ?_, h4⟩
  have h9 := h3 k hk
  by_cases hki : k = i
  · subst hki
    rw [pk_us]
    rw [thV_i] at h9
    have e : thV v th (k + 1) k = th k - 1 := by unfold thV; rw [if_pos ⟨by omega, hv⟩]
    rw [e]; exact ⟨rfl, by omega⟩
  · rw [pk_un hki]
    have e : thV v th (i + 1) k = thV v th i k := by
      unfold thV
      by_cases q : k < i ∧ v k = true
      · rw [if_pos q, if_pos ⟨by omega, q.2⟩]
      · rw [if_neg q, if_neg (fun z => q ⟨by omega, z.2⟩)]
    rw [e]; exact h9
theorem HeC.vt0 {fL f fX : Nat → Int32} {nh i : Nat} {v : Nat → Bool} {lv th ta : Nat → Nat} (h : HeC fL f fX nh lv (thV v th i) ta) (hv : v i = false) : HeC fL f fX nh lv (thV v th (i + 1)) ta := by
  have e : thV v th (i + 1) = thV v th i := by
    funext k
    unfold thV
    by_cases q : k < i ∧ v k = true
    · rw [if_pos q, if_pos ⟨by omega, q.2⟩]
    · rw [if_neg q, if_neg (fun z => q ⟨by
        rcases Nat.lt_or_ge k i with w | w
        · exact w
        · have : k = i := by omega
          subst this; rw [hv] at z; exact absurd z.2 (by decide), z.2⟩)]
  rw [e]; exact h
theorem vv_at {th ta : Nat → Nat} {t i : Nat} : vetB (dif (ta i) t) (thV (vvF th ta t) th i i) = vvF th ta t i := by rw [thV_i]; rfl
theorem vv_pos {th ta : Nat → Nat} {t i : Nat} (h : vvF th ta t i = true) : 0 < th i := by
  unfold vvF vetB at h
  exact (of_decide_eq_true h).2
theorem anV_1 {v : Nat → Bool} {i : Nat} (h : v i = true) : true = anV v (i + 1) := by unfold anV; rw [h, Bool.or_true]
theorem anV_0 {v : Nat → Bool} {i : Nat} (h : v i = false) : anV v i = anV v (i + 1) := by
  show anV v i = (anV v i || v i)
  rw [h, Bool.or_false]
theorem lg_by : ∀ s, s < 4 → lgF s = byF s := by decide
/-- leaves and thorns when the first i hedges have met the season -/
def lvS (s : Nat) (lv : Nat → Nat) (i j : Nat) : Nat := if j < i then leafN s (lv j) else lv j
def thS (s : Nat) (th : Nat → Nat) (i j : Nat) : Nat := if j < i then th j + taddN s (th j) else th j
theorem lvS_i {s i : Nat} {lv : Nat → Nat} : lvS s lv i i = lv i := by unfold lvS; rw [if_neg (by omega)]
theorem thS_i {s i : Nat} {th : Nat → Nat} : thS s th i i = th i := by unfold thS; rw [if_neg (by omega)]
theorem lvS_0 {s : Nat} {lv : Nat → Nat} : lvS s lv 0 = lv := by funext j; unfold lvS; rw [if_neg (by omega)]
theorem thS_0 {s : Nat} {th : Nat → Nat} : thS s th 0 = th := by funext j; unfold thS; rw [if_neg (by omega)]
theorem HeC.mt {f g g1 fX : Nat → Int32} {nh i s : Nat} {lv th ta : Nat → Nat} (h : HeC f g fX nh (lvS s lv i) (thS s th i) ta) (hi : i < nh) (hg : ∀ k, k < nh → g1 k = if k = i then nI (th i + taddN s (th i)) else g k) : HeC (upd f i (nI (leafN s (lv i)))) g1 fX nh (lvS s lv (i + 1)) (thS s th (i + 1)) ta := by
  obtain ⟨h1, h2, h3, h4⟩ := h
  refine ⟨h1, fun k hk => ?_, fun k hk => ?_, h4⟩
  · have h9 := h2 k hk
    by_cases hki : k = i
    · subst hki
      rw [pk_us]
      rw [lvS_i] at h9
      have e : lvS s lv (k + 1) k = leafN s (lv k) := by unfold lvS; rw [if_pos (by omega)]
      rw [e]; exact ⟨rfl, leafN_in h9.2.1 h9.2.2⟩
    · rw [pk_un hki]
      have e : lvS s lv (i + 1) k = lvS s lv i k := by
        unfold lvS
        by_cases q : k < i
        · rw [if_pos q, if_pos (by omega)]
        · rw [if_neg q, if_neg (by omega)]
      rw [e]; exact h9
  · have h9 := h3 k hk
    rw [hg k hk]
    by_cases hki : k = i
    · subst hki
      rw [thS_i] at h9
      have e : thS s th (k + 1) k = th k + taddN s (th k) := by unfold thS; rw [if_pos (by omega)]
      rw [e, if_pos rfl]; exact ⟨rfl, taddN_in h9.2⟩
    · rw [if_neg hki]
      have e : thS s th (i + 1) k = thS s th i k := by
        unfold thS
        by_cases q : k < i
        · rw [if_pos q, if_pos (by omega)]
        · rw [if_neg q, if_neg (by omega)]
      rw [e]; exact h9
theorem HeC.thb {f g fX : Nat → Int32} {nh i : Nat} {lv th ta : Nat → Nat} (h : HeC f g fX nh lv th ta) (hi : i < nh) : th i ≤ 9 := (h.2.2.1 i hi).2
theorem tadd_1 {s a : Nat} (h : s = 0) (h9 : a < 9) : taddN s a = 1 := by unfold taddN; rw [if_pos ⟨h, h9⟩]
theorem tadd_0 {s a : Nat} (h : s ≠ 0 ∨ 9 ≤ a) : taddN s a = 0 := by unfold taddN; rw [if_neg (fun z => by omega)]
/-- the last of the first ones whose rank is r; 0 if there is none -/
def atR (ah : Nat → Nat → Bool) (n : Nat) (r : Int32) : Nat → Nat
  | 0 => 0
  | i + 1 => if nI (rkN ah i n) = r then i else atR ah n r i
theorem atR_lt {ah : Nat → Nat → Bool} {n : Nat} {r : Int32} : ∀ i, atR ah n r i ≤ i ∧ (0 < i → atR ah n r i < i) := by
  intro i
  induction i with
  | zero => exact ⟨Nat.le_refl _, fun h => absurd h (Nat.lt_irrefl _)⟩
  | succ i ih =>
    unfold atR
    split
    · omega
    · have := ih.1
      omega
theorem mt_same {f q fX : Nat → Int32} {nh i s k : Nat} {lv th ta : Nat → Nat} (h : HeC f q fX nh (lvS s lv i) (thS s th i) ta) (e : taddN s (th i) = 0) (hk : k < nh) : q k = if k = i then nI (th i + taddN s (th i)) else q k := by
  by_cases z : k = i
  · subst z
    rw [if_pos rfl, e, Nat.add_zero]
    have h5 := (h.2.2.1 k hk).1
    rw [thS_i] at h5
    exact h5
  · rw [if_neg z]
theorem lv_at2 {f q fX : Nat → Int32} {nh i s : Nat} {lv th ta : Nat → Nat} (h : HeC f q fX nh (lvS s lv i) (thS s th i) ta) (hi : i < nh) : 1 ≤ lv i ∧ lv i ≤ 99 := by
  have h5 := (h.2.1 i hi).2
  rw [lvS_i] at h5
  exact h5
theorem th_at2 {f q fX : Nat → Int32} {nh i s : Nat} {lv th ta : Nat → Nat} (h : HeC f q fX nh (lvS s lv i) (thS s th i) ta) (hi : i < nh) : th i ≤ 9 := by
  have h5 := (h.2.2.1 i hi).2
  rw [thS_i] at h5
  exact h5
theorem dX2_has_0 : decode cX2_has 0 = .ok (.iload_n 1, 1) := by decide +kernel
theorem dX2_has_1 : decode cX2_has 1 = .ok (.ifCond .lt 15, 3) := by decide +kernel
theorem dX2_has_4 : decode cX2_has 4 = .ok (.iload_n 1, 1) := by decide +kernel
theorem dX2_has_5 : decode cX2_has 5 = .ok (.aload_n 0, 1) := by decide +kernel
theorem dX2_has_6 : decode cX2_has 6 = .ok (.getfield 21, 3) := by decide +kernel
theorem dX2_has_9 : decode cX2_has 9 = .ok (.if_icmp .ge 7, 3) := by decide +kernel
theorem dX2_has_12 : decode cX2_has 12 = .ok (.iconst 1, 1) := by decide +kernel
theorem dX2_has_13 : decode cX2_has 13 = .ok (.goto 4, 3) := by decide +kernel
theorem dX2_has_16 : decode cX2_has 16 = .ok (.iconst 0, 1) := by decide +kernel
theorem dX2_has_17 : decode cX2_has 17 = .ok (.ireturn, 1) := by decide +kernel
set_option maxHeartbeats 2000000 in
set_option maxRecDepth 20000 in
theorem k_X2_has (l : Launch) (hfl : l.stackTraces = false) (D : va_G) (aT : Nat → ClassId) (a1 : Nat) (a2 : Nat) (a3 : Nat) (a4 : Nat) (fL : Nat → Int32) (fT : Nat → Int32) (fX : Nat → Int32) (nh : Nat) (lv : Nat → Nat) (th : Nat → Nat) (ta : Nat → Nat) (hH : HeC fL fT fX nh lv th ta) (x : Int32) : CxG l yX2_has cX2_has 2 (some (.boolean)) 0 0 0 0 D aT [.ref a1, .int x] [(a1, .inr (6, [.ref a2, .ref a3, .ref a4, .int (nI nh)])), (a2, .inl (aT 0, 6, .inl fL)), (a3, .inl (aT 0, 6, .inl fT)), (a4, .inl (aT 0, 6, .inl fX))] (qI D aT (fun r W1 => r = bI (isHB nh x) ∧ W1 = [(a1, .inr (6, [.ref a2, .ref a3, .ref a4, .int (nI nh)])), (a2, .inl (aT 0, 6, .inl fL)), (a3, .inl (aT 0, 6, .inl fT)), (a4, .inl (aT 0, 6, .inl fX))])) (fun _ _ => False) := by
  refine CxG.of RX2 (by decide +kernel) rfl (Nat.le_of_ble_eq_true rfl) ?_
  intro p e s m below meth c A ls C hml hl hA hr hlocks hex hnm hZ hW
  have hl : lv_has ls 2 [(0, .ref a1), (1, .int x)] := hl
  have hx := C.1
  have hb := C.2.1
  refine lv_iload_n hx hb dX2_has_0 rfl (lv_at hl 1 rfl) ?_
  refine lv_if_lt hx hb (x := x) (tgt := 16) dX2_has_1 (by decide) (fun c_1 => ?_) (fun c_1 => ?_)
  · refine lv_iconst (v := nI 0) hx hb dX2_has_16 (by decide) ?_
    exact cx_iret C hr hlocks (by decide) hW ⟨Nat.le_of_ble_eq_true rfl, Nat.le_of_ble_eq_true rfl⟩ (⟨isHB_lo c_1, rfl⟩) dX2_has_17
  · refine lv_iload_n hx hb dX2_has_4 rfl (lv_at hl 1 rfl) ?_
    refine lv_aload_n hx hb dX2_has_5 rfl (lv_at hl 0 rfl) ?_
    refine cx_get C hW 0 3 rfl rfl (by decide) inX2 gw_129 rfl rfl dX2_has_6 ?_
    refine lv_icmp_ge hx hb (x := x) (y := (nI nh)) (tgt := 16) dX2_has_9 (by decide) (fun c_9 => ?_) (fun c_9 => ?_)
    · refine lv_iconst (v := nI 0) hx hb dX2_has_16 (by decide) ?_
      exact cx_iret C hr hlocks (by decide) hW ⟨Nat.le_of_ble_eq_true rfl, Nat.le_of_ble_eq_true rfl⟩ (⟨isHB_hi (by have := hH.1; omega) c_9, rfl⟩) dX2_has_17
    · refine lv_iconst (v := nI 1) hx hb dX2_has_12 (by decide) ?_
      refine lv_goto (tgt := 17) hx hb dX2_has_13 (by decide) ?_
      exact cx_iret C hr hlocks (by decide) hW ⟨Nat.le_of_ble_eq_true rfl, Nat.le_of_ble_eq_true rfl⟩ (⟨isHB_in (by have := hH.1; omega) c_1 c_9, rfl⟩) dX2_has_17
theorem dX2_isFull_0 : decode cX2_isFull 0 = .ok (.aload_n 0, 1) := by decide +kernel
theorem dX2_isFull_1 : decode cX2_isFull 1 = .ok (.getfield 21, 3) := by decide +kernel
theorem dX2_isFull_4 : decode cX2_isFull 4 = .ok (.bipush 6, 2) := by decide +kernel
theorem dX2_isFull_6 : decode cX2_isFull 6 = .ok (.if_icmp .lt 7, 3) := by decide +kernel
theorem dX2_isFull_9 : decode cX2_isFull 9 = .ok (.iconst 1, 1) := by decide +kernel
theorem dX2_isFull_10 : decode cX2_isFull 10 = .ok (.goto 4, 3) := by decide +kernel
theorem dX2_isFull_13 : decode cX2_isFull 13 = .ok (.iconst 0, 1) := by decide +kernel
theorem dX2_isFull_14 : decode cX2_isFull 14 = .ok (.ireturn, 1) := by decide +kernel
set_option maxHeartbeats 2000000 in
set_option maxRecDepth 20000 in
theorem k_X2_isFull (l : Launch) (hfl : l.stackTraces = false) (D : va_G) (aT : Nat → ClassId) (a1 : Nat) (a2 : Nat) (a3 : Nat) (a4 : Nat) (fL : Nat → Int32) (fT : Nat → Int32) (fX : Nat → Int32) (nh : Nat) (lv : Nat → Nat) (th : Nat → Nat) (ta : Nat → Nat) (hH : HeC fL fT fX nh lv th ta) : CxG l yX2_isFull cX2_isFull 1 (some (.boolean)) 0 0 0 0 D aT [.ref a1] [(a1, .inr (6, [.ref a2, .ref a3, .ref a4, .int (nI nh)])), (a2, .inl (aT 0, 6, .inl fL)), (a3, .inl (aT 0, 6, .inl fT)), (a4, .inl (aT 0, 6, .inl fX))] (qI D aT (fun r W1 => r = bI (decide (6 ≤ nh)) ∧ W1 = [(a1, .inr (6, [.ref a2, .ref a3, .ref a4, .int (nI nh)])), (a2, .inl (aT 0, 6, .inl fL)), (a3, .inl (aT 0, 6, .inl fT)), (a4, .inl (aT 0, 6, .inl fX))])) (fun _ _ => False) := by
  refine CxG.of RX2 (by decide +kernel) rfl (Nat.le_of_ble_eq_true rfl) ?_
  intro p e s m below meth c A ls C hml hl hA hr hlocks hex hnm hZ hW
  have hl : lv_has ls 1 [(0, .ref a1)] := hl
  have hx := C.1
  have hb := C.2.1
  refine lv_aload_n hx hb dX2_isFull_0 rfl (lv_at hl 0 rfl) ?_
  refine cx_get C hW 0 3 rfl rfl (by decide) inX2 gw_129 rfl rfl dX2_isFull_1 ?_
  refine lv_bipush (v := nI 6) hx hb dX2_isFull_4 (by decide) ?_
  refine r_ltN hx hb (a := nh) (b := 6) (by have := hH.1; omega) (by have := hH.1; omega) (tgt := 13) dX2_isFull_6 (by decide) (fun c_6 => ?_) (fun c_6 => ?_)
  · refine lv_iconst (v := nI 0) hx hb dX2_isFull_13 (by decide) ?_
    exact cx_iret C hr hlocks (by decide) hW ⟨Nat.le_of_ble_eq_true rfl, Nat.le_of_ble_eq_true rfl⟩ (⟨by rw [decide_eq_false (by omega)]; rfl, rfl⟩) dX2_isFull_14
  · refine lv_iconst (v := nI 1) hx hb dX2_isFull_9 (by decide) ?_
    refine lv_goto (tgt := 14) hx hb dX2_isFull_10 (by decide) ?_
    exact cx_iret C hr hlocks (by decide) hW ⟨Nat.le_of_ble_eq_true rfl, Nat.le_of_ble_eq_true rfl⟩ (⟨by rw [decide_eq_true (by omega)]; rfl, rfl⟩) dX2_isFull_14
theorem dX2_difference_0 : decode cX2_difference 0 = .ok (.aload_n 0, 1) := by decide +kernel
theorem dX2_difference_1 : decode cX2_difference 1 = .ok (.getfield 18, 3) := by decide +kernel
theorem dX2_difference_4 : decode cX2_difference 4 = .ok (.iload_n 1, 1) := by decide +kernel
theorem dX2_difference_5 : decode cX2_difference 5 = .ok (.iaload, 1) := by decide +kernel
theorem dX2_difference_6 : decode cX2_difference 6 = .ok (.iload_n 2, 1) := by decide +kernel
theorem dX2_difference_7 : decode cX2_difference 7 = .ok (.isub, 1) := by decide +kernel
theorem dX2_difference_8 : decode cX2_difference 8 = .ok (.istore_n 3, 1) := by decide +kernel
theorem dX2_difference_9 : decode cX2_difference 9 = .ok (.iload_n 3, 1) := by decide +kernel
theorem dX2_difference_10 : decode cX2_difference 10 = .ok (.ifCond .ge 8, 3) := by decide +kernel
theorem dX2_difference_13 : decode cX2_difference 13 = .ok (.iload_n 3, 1) := by decide +kernel
theorem dX2_difference_14 : decode cX2_difference 14 = .ok (.ineg, 1) := by decide +kernel
theorem dX2_difference_15 : decode cX2_difference 15 = .ok (.goto 4, 3) := by decide +kernel
theorem dX2_difference_18 : decode cX2_difference 18 = .ok (.iload_n 3, 1) := by decide +kernel
theorem dX2_difference_19 : decode cX2_difference 19 = .ok (.ireturn, 1) := by decide +kernel
set_option maxHeartbeats 2000000 in
set_option maxRecDepth 20000 in
theorem k_X2_difference (l : Launch) (hfl : l.stackTraces = false) (D : va_G) (aT : Nat → ClassId) (a1 : Nat) (a2 : Nat) (a3 : Nat) (a4 : Nat) (fL : Nat → Int32) (fT : Nat → Int32) (fX : Nat → Int32) (nh : Nat) (lv : Nat → Nat) (th : Nat → Nat) (ta : Nat → Nat) (hH : HeC fL fT fX nh lv th ta) (i : Nat) (hi : i < nh) (t : Nat) (ht : t ≤ 9) : CxG l yX2_difference cX2_difference 4 (some (.int)) 0 0 0 0 D aT [.ref a1, .int (nI i), .int (nI t)] [(a1, .inr (6, [.ref a2, .ref a3, .ref a4, .int (nI nh)])), (a2, .inl (aT 0, 6, .inl fL)), (a3, .inl (aT 0, 6, .inl fT)), (a4, .inl (aT 0, 6, .inl fX))] (qI D aT (fun r W1 => r = nI (dif (ta i) t) ∧ W1 = [(a1, .inr (6, [.ref a2, .ref a3, .ref a4, .int (nI nh)])), (a2, .inl (aT 0, 6, .inl fL)), (a3, .inl (aT 0, 6, .inl fT)), (a4, .inl (aT 0, 6, .inl fX))])) (fun _ _ => False) := by
  refine CxG.of RX2 (by decide +kernel) rfl (Nat.le_of_ble_eq_true rfl) ?_
  intro p e s m below meth c A ls C hml hl hA hr hlocks hex hnm hZ hW
  have hl : lv_has ls 4 [(0, .ref a1), (1, .int (nI i)), (2, .int (nI t))] := hl
  have hx := C.1
  have hb := C.2.1
  refine lv_aload_n hx hb dX2_difference_0 rfl (lv_at hl 0 rfl) ?_
  refine cx_get C hW 0 2 rfl rfl (by decide) inX2 gw_128 rfl rfl dX2_difference_1 ?_
  refine lv_iload_n hx hb dX2_difference_4 rfl (lv_at hl 1 rfl) ?_
  refine cx_ald C hW 3 0 (j := i) rfl rfl rfl (by have := hH.1; omega) (by decide) dX2_difference_5 ?_
  refine r_eq (y := (nI (ta i))) ((hH.2.2.2 i (by first | assumption | omega)).1) ?_
  refine lv_iload_n hx hb dX2_difference_6 rfl (lv_at hl 2 rfl) ?_
  refine lv_isub hx hb dX2_difference_7 ?_
  refine lv_istore_n (lv' := [(3, .int ((nI (ta i)) - (nI t))), (0, .ref a1), (1, .int (nI i)), (2, .int (nI t))]) hx hb dX2_difference_8 rfl hl (by decide) rfl (fun ls hl => ?_)
  refine lv_iload_n hx hb dX2_difference_9 rfl (lv_at hl 0 rfl) ?_
  refine lv_if_ge hx hb (x := ((nI (ta i)) - (nI t))) (tgt := 18) dX2_difference_10 (by decide) (fun c_10 => ?_) (fun c_10 => ?_)
  · refine lv_iload_n hx hb dX2_difference_18 rfl (lv_at hl 0 rfl) ?_
    exact cx_iret C hr hlocks rfl hW ⟨Nat.le_of_ble_eq_true rfl, Nat.le_of_ble_eq_true rfl⟩ (⟨by have h5 := (dif_abs (a := ta i) (b := t) (by have := (hH.2.2.2 i hi).2; omega) (by omega)); rw [if_pos c_10] at h5; exact h5, rfl⟩) dX2_difference_19
  · refine lv_iload_n hx hb dX2_difference_13 rfl (lv_at hl 0 rfl) ?_
    refine lv_ineg hx hb dX2_difference_14 ?_
    refine lv_goto (tgt := 19) hx hb dX2_difference_15 (by decide) ?_
    exact cx_iret C hr hlocks rfl hW ⟨Nat.le_of_ble_eq_true rfl, Nat.le_of_ble_eq_true rfl⟩ (⟨by have h5 := (dif_abs (a := ta i) (b := t) (by have := (hH.2.2.2 i hi).2; omega) (by omega)); rw [if_neg c_10] at h5; rw [Int32.zero_sub] at h5; exact h5, rfl⟩) dX2_difference_19
theorem dX2_vetoes_0 : decode cX2_vetoes 0 = .ok (.aload_n 0, 1) := by decide +kernel
theorem dX2_vetoes_1 : decode cX2_vetoes 1 = .ok (.iload_n 1, 1) := by decide +kernel
theorem dX2_vetoes_2 : decode cX2_vetoes 2 = .ok (.iload_n 2, 1) := by decide +kernel
theorem dX2_vetoes_3 : decode cX2_vetoes 3 = .ok (.invokevirtual 31, 3) := by decide +kernel
theorem dX2_vetoes_6 : decode cX2_vetoes 6 = .ok (.bipush 7, 2) := by decide +kernel
theorem dX2_vetoes_8 : decode cX2_vetoes 8 = .ok (.if_icmp .lt 17, 3) := by decide +kernel
theorem dX2_vetoes_11 : decode cX2_vetoes 11 = .ok (.aload_n 0, 1) := by decide +kernel
theorem dX2_vetoes_12 : decode cX2_vetoes 12 = .ok (.getfield 15, 3) := by decide +kernel
theorem dX2_vetoes_15 : decode cX2_vetoes 15 = .ok (.iload_n 1, 1) := by decide +kernel
theorem dX2_vetoes_16 : decode cX2_vetoes 16 = .ok (.iaload, 1) := by decide +kernel
theorem dX2_vetoes_17 : decode cX2_vetoes 17 = .ok (.iconst 1, 1) := by decide +kernel
theorem dX2_vetoes_18 : decode cX2_vetoes 18 = .ok (.if_icmp .lt 7, 3) := by decide +kernel
theorem dX2_vetoes_21 : decode cX2_vetoes 21 = .ok (.iconst 1, 1) := by decide +kernel
theorem dX2_vetoes_22 : decode cX2_vetoes 22 = .ok (.goto 4, 3) := by decide +kernel
theorem dX2_vetoes_25 : decode cX2_vetoes 25 = .ok (.iconst 0, 1) := by decide +kernel
theorem dX2_vetoes_26 : decode cX2_vetoes 26 = .ok (.ireturn, 1) := by decide +kernel
theorem gV_X2_X2_difference_31 : GoodIn gw (wsV RX2 31 RX2 yX2_difference (Cond.code yX2_difference cX2_difference 4 (some .int) :: gw)) := gdV gw_780 gw_781 gw_782 gw_69 gw_783
theorem hV_X2_difference : yX2_difference.cls = RX2 ∧ yX2_difference.cls ≠ "java/lang/invoke/MethodHandle" ∧ yX2_difference.cls ≠ "java/lang/invoke/VarHandle" ∧ (parseMethodDescriptor yX2_difference.desc).map (fun d => d.parameters.length) = some 2 := ⟨rfl, by decide +kernel, by decide +kernel, by decide +kernel⟩
set_option maxHeartbeats 2000000 in
set_option maxRecDepth 20000 in
theorem k_X2_vetoes (l : Launch) (hfl : l.stackTraces = false) (D : va_G) (aT : Nat → ClassId) (a1 : Nat) (a2 : Nat) (a3 : Nat) (a4 : Nat) (fL : Nat → Int32) (fT : Nat → Int32) (fX : Nat → Int32) (nh : Nat) (lv : Nat → Nat) (th : Nat → Nat) (ta : Nat → Nat) (hH : HeC fL fT fX nh lv th ta) (i : Nat) (hi : i < nh) (t : Nat) (ht : t ≤ 9) : CxG l yX2_vetoes cX2_vetoes 3 (some (.boolean)) 1 0 0 23 D aT [.ref a1, .int (nI i), .int (nI t)] [(a1, .inr (6, [.ref a2, .ref a3, .ref a4, .int (nI nh)])), (a2, .inl (aT 0, 6, .inl fL)), (a3, .inl (aT 0, 6, .inl fT)), (a4, .inl (aT 0, 6, .inl fX))] (qI D aT (fun r W1 => r = bI (vetB (dif (ta i) t) (th i)) ∧ W1 = [(a1, .inr (6, [.ref a2, .ref a3, .ref a4, .int (nI nh)])), (a2, .inl (aT 0, 6, .inl fL)), (a3, .inl (aT 0, 6, .inl fT)), (a4, .inl (aT 0, 6, .inl fX))])) (fun _ _ => False) := by
  refine CxG.of RX2 (by decide +kernel) rfl (Nat.le_of_ble_eq_true rfl) ?_
  intro p e s m below meth c A ls C hml hl hA hr hlocks hex hnm hZ hW
  have hl : lv_has ls 3 [(0, .ref a1), (1, .int (nI i)), (2, .int (nI t))] := hl
  have hx := C.1
  have hb := C.2.1
  refine lv_aload_n hx hb dX2_vetoes_0 rfl (lv_at hl 0 rfl) ?_
  refine lv_iload_n hx hb dX2_vetoes_1 rfl (lv_at hl 1 rfl) ?_
  refine lv_iload_n hx hb dX2_vetoes_2 rfl (lv_at hl 2 rfl) ?_
  refine cx_calli (Wr := []) (cx_runV C hml hl.1 hZ hW hA (As := [.int (nI i), .int (nI t)]) (rest := []) (k_X2_difference l hfl D aT a1 a2 a3 a4 fL fT fX nh lv th ta hH i hi t ht) gV_X2_X2_difference_31 hV_X2_difference rfl ⟨Nat.le_of_ble_eq_true rfl, Nat.le_of_ble_eq_true rfl⟩ ⟨Nat.le_of_ble_eq_true rfl, Nat.le_of_ble_eq_true rfl⟩ [0, 1, 2, 3] rfl (by decide) 0 6 rfl rfl rfl rfl (Nat.le_of_ble_eq_true rfl) dX2_vetoes_3) hW hA [0, 1, 2, 3] [] rfl rfl (by decide) (by decide) (fun _ _ _ _ _ _ h9 => h9.elim) (fun r_3 W_3 H locs hq hW => ?_)
  obtain ⟨rfl, rfl⟩ := hq
  have hW : CxB D [(a1, .inr (6, [.ref a2, .ref a3, .ref a4, .int (nI nh)])), (a2, .inl (aT 0, 6, .inl fL)), (a3, .inl (aT 0, 6, .inl fT)), (a4, .inl (aT 0, 6, .inl fX))] A s.heap H _ := hW
  refine lv_bipush (v := nI 7) hx hb dX2_vetoes_6 (by decide) ?_
  refine r_ltN hx hb (a := dif (ta i) t) (b := 7) (by have := (hH.2.2.2 i hi).2; first | omega | (unfold dif; omega)) (by have := (hH.2.2.2 i hi).2; first | omega | (unfold dif; omega)) (tgt := 25) dX2_vetoes_8 (by decide) (fun c_8 => ?_) (fun c_8 => ?_)
  · refine lv_iconst (v := nI 0) hx hb dX2_vetoes_25 (by decide) ?_
    exact cx_iret C hr hlocks (by decide) hW ⟨Nat.le_of_ble_eq_true rfl, Nat.le_of_ble_eq_true rfl⟩ (⟨by unfold vetB; rw [decide_eq_false (by omega)]; rfl, rfl⟩) dX2_vetoes_26
  · refine lv_aload_n hx hb dX2_vetoes_11 rfl (lv_at hl 0 rfl) ?_
    refine cx_get C hW 0 1 rfl rfl (by decide) inX2 gw_126 rfl rfl dX2_vetoes_12 ?_
    refine lv_iload_n hx hb dX2_vetoes_15 rfl (lv_at hl 1 rfl) ?_
    refine cx_ald C hW 2 0 (j := i) rfl rfl rfl (by have := hH.1; omega) (by decide) dX2_vetoes_16 ?_
    refine r_eq (y := (nI (th i))) ((hH.2.2.1 i (by first | assumption | omega)).1) ?_
    refine lv_iconst (v := nI 1) hx hb dX2_vetoes_17 (by decide) ?_
    refine r_ltN hx hb (a := th i) (b := 1) (by have := (hH.2.2.1 i hi).2; omega) (by have := (hH.2.2.1 i hi).2; omega) (tgt := 25) dX2_vetoes_18 (by decide) (fun c_18 => ?_) (fun c_18 => ?_)
    · refine lv_iconst (v := nI 0) hx hb dX2_vetoes_25 (by decide) ?_
      exact cx_iret C hr hlocks (by decide) hW ⟨Nat.le_of_ble_eq_true rfl, Nat.le_of_ble_eq_true rfl⟩ (⟨by unfold vetB; rw [decide_eq_false (by omega)]; rfl, rfl⟩) dX2_vetoes_26
    · refine lv_iconst (v := nI 1) hx hb dX2_vetoes_21 (by decide) ?_
      refine lv_goto (tgt := 26) hx hb dX2_vetoes_22 (by decide) ?_
      exact cx_iret C hr hlocks (by decide) hW ⟨Nat.le_of_ble_eq_true rfl, Nat.le_of_ble_eq_true rfl⟩ (⟨by unfold vetB; rw [decide_eq_true (by omega)]; rfl, rfl⟩) dX2_vetoes_26
theorem dX2_leavesFor_0 : decode cX2_leavesFor 0 = .ok (.iconst 0, 1) := by decide +kernel
theorem dX2_leavesFor_1 : decode cX2_leavesFor 1 = .ok (.istore_n 2, 1) := by decide +kernel
theorem dX2_leavesFor_2 : decode cX2_leavesFor 2 = .ok (.iconst 0, 1) := by decide +kernel
theorem dX2_leavesFor_3 : decode cX2_leavesFor 3 = .ok (.istore_n 3, 1) := by decide +kernel
theorem dX2_leavesFor_4 : decode cX2_leavesFor 4 = .ok (.iload_n 3, 1) := by decide +kernel
theorem dX2_leavesFor_5 : decode cX2_leavesFor 5 = .ok (.aload_n 0, 1) := by decide +kernel
theorem dX2_leavesFor_6 : decode cX2_leavesFor 6 = .ok (.getfield 21, 3) := by decide +kernel
theorem dX2_leavesFor_9 : decode cX2_leavesFor 9 = .ok (.if_icmp .ge 28, 3) := by decide +kernel
theorem dX2_leavesFor_12 : decode cX2_leavesFor 12 = .ok (.aload_n 0, 1) := by decide +kernel
theorem dX2_leavesFor_13 : decode cX2_leavesFor 13 = .ok (.iload_n 3, 1) := by decide +kernel
theorem dX2_leavesFor_14 : decode cX2_leavesFor 14 = .ok (.iload_n 1, 1) := by decide +kernel
theorem dX2_leavesFor_15 : decode cX2_leavesFor 15 = .ok (.invokevirtual 31, 3) := by decide +kernel
theorem dX2_leavesFor_18 : decode cX2_leavesFor 18 = .ok (.iconst 3, 1) := by decide +kernel
theorem dX2_leavesFor_19 : decode cX2_leavesFor 19 = .ok (.if_icmp .gt 12, 3) := by decide +kernel
theorem dX2_leavesFor_22 : decode cX2_leavesFor 22 = .ok (.iload_n 2, 1) := by decide +kernel
theorem dX2_leavesFor_23 : decode cX2_leavesFor 23 = .ok (.aload_n 0, 1) := by decide +kernel
theorem dX2_leavesFor_24 : decode cX2_leavesFor 24 = .ok (.getfield 9, 3) := by decide +kernel
theorem dX2_leavesFor_27 : decode cX2_leavesFor 27 = .ok (.iload_n 3, 1) := by decide +kernel
theorem dX2_leavesFor_28 : decode cX2_leavesFor 28 = .ok (.iaload, 1) := by decide +kernel
theorem dX2_leavesFor_29 : decode cX2_leavesFor 29 = .ok (.iadd, 1) := by decide +kernel
theorem dX2_leavesFor_30 : decode cX2_leavesFor 30 = .ok (.istore_n 2, 1) := by decide +kernel
theorem dX2_leavesFor_31 : decode cX2_leavesFor 31 = .ok (.iinc 3 1, 3) := by decide +kernel
theorem dX2_leavesFor_34 : decode cX2_leavesFor 34 = .ok (.goto (-30), 3) := by decide +kernel
theorem dX2_leavesFor_37 : decode cX2_leavesFor 37 = .ok (.iload_n 2, 1) := by decide +kernel
theorem dX2_leavesFor_38 : decode cX2_leavesFor 38 = .ok (.ireturn, 1) := by decide +kernel
set_option maxHeartbeats 2000000 in
set_option maxRecDepth 20000 in
theorem k_X2_leavesFor (l : Launch) (hfl : l.stackTraces = false) (D : va_G) (aT : Nat → ClassId) (a1 : Nat) (a2 : Nat) (a3 : Nat) (a4 : Nat) (fL : Nat → Int32) (fT : Nat → Int32) (fX : Nat → Int32) (nh : Nat) (lv : Nat → Nat) (th : Nat → Nat) (ta : Nat → Nat) (hH : HeC fL fT fX nh lv th ta) (t : Nat) (ht : t ≤ 9) : CxG l yX2_leavesFor cX2_leavesFor 4 (some (.int)) 1 0 0 23 D aT [.ref a1, .int (nI t)] [(a1, .inr (6, [.ref a2, .ref a3, .ref a4, .int (nI nh)])), (a2, .inl (aT 0, 6, .inl fL)), (a3, .inl (aT 0, 6, .inl fT)), (a4, .inl (aT 0, 6, .inl fX))] (qI D aT (fun r W1 => r = nI (fav lv ta t nh) ∧ W1 = [(a1, .inr (6, [.ref a2, .ref a3, .ref a4, .int (nI nh)])), (a2, .inl (aT 0, 6, .inl fL)), (a3, .inl (aT 0, 6, .inl fT)), (a4, .inl (aT 0, 6, .inl fX))])) (fun _ _ => False) := by
  refine CxG.of RX2 (by decide +kernel) rfl (Nat.le_of_ble_eq_true rfl) ?_
  intro p e s m below meth c A ls C hml hl hA hr hlocks hex hnm hZ hW
  have hl : lv_has ls 4 [(0, .ref a1), (1, .int (nI t))] := hl
  have hx := C.1
  have hb := C.2.1
  refine lv_iconst (v := nI 0) hx hb dX2_leavesFor_0 (by decide) ?_
  refine lv_istore_n (lv' := [(2, .int (nI 0)), (0, .ref a1), (1, .int (nI t))]) hx hb dX2_leavesFor_1 rfl hl (by decide) rfl (fun ls hl => ?_)
  refine lv_iconst (v := nI 0) hx hb dX2_leavesFor_2 (by decide) ?_
  refine lv_istore_n (lv' := [(3, .int (nI 0)), (2, .int (nI 0)), (0, .ref a1), (1, .int (nI t))]) hx hb dX2_leavesFor_3 rfl hl (by decide) rfl (fun ls hl => ?_)
  refine W_loopH (σ := Nat) (fun z_ => nh - z_) (fun z_ H locs g => ∃ ls, g = F0 m 4 ls [] ∧ lv_has ls 4 [(3, .int (nI z_)), (2, .int (nI (fav lv ta t z_))), (1, .int (nI t)), (0, .ref a1)] ∧ CxB D [(a1, .inr (6, [.ref a2, .ref a3, .ref a4, .int (nI nh)])), (a2, .inl (aT 0, 6, .inl fL)), (a3, .inl (aT 0, 6, .inl fT)), (a4, .inl (aT 0, 6, .inl fX))] A s.heap H locs ∧ z_ ≤ nh) ?_ 0 _ ⟨_, rfl, lv_sub hl [0, 1, 3, 2] rfl, hW, Nat.zero_le _⟩
  clear hW hl
  rintro i H locs g ⟨ls, rfl, hl, hW, hi⟩ ih_4
  refine lv_iload_n hx hb dX2_leavesFor_4 rfl (lv_at hl 0 rfl) ?_
  refine lv_aload_n hx hb dX2_leavesFor_5 rfl (lv_at hl 3 rfl) ?_
  refine cx_get C hW 0 3 rfl rfl (by decide) inX2 gw_129 rfl rfl dX2_leavesFor_6 ?_
  refine r_geN hx hb (a := i) (b := nh) (by have := hH.1; omega) (by have := hH.1; omega) (tgt := 37) dX2_leavesFor_9 (by decide) (fun c_9 => ?_) (fun c_9 => ?_)
  · refine lv_iload_n hx hb dX2_leavesFor_37 rfl (lv_at hl 1 rfl) ?_
    exact cx_iret C hr hlocks rfl hW ⟨Nat.le_of_ble_eq_true rfl, Nat.le_of_ble_eq_true rfl⟩ (⟨by rw [show i = nh by omega], rfl⟩) dX2_leavesFor_38
  · refine lv_aload_n hx hb dX2_leavesFor_12 rfl (lv_at hl 3 rfl) ?_
    refine lv_iload_n hx hb dX2_leavesFor_13 rfl (lv_at hl 0 rfl) ?_
    refine lv_iload_n hx hb dX2_leavesFor_14 rfl (lv_at hl 2 rfl) ?_
    refine cx_calli (Wr := []) (cx_runV C hml hl.1 hZ hW hA (As := [.int (nI i), .int (nI t)]) (rest := []) (k_X2_difference l hfl D aT a1 a2 a3 a4 fL fT fX nh lv th ta hH i (show i < nh by omega) t ht) gV_X2_X2_difference_31 hV_X2_difference rfl ⟨Nat.le_of_ble_eq_true rfl, Nat.le_of_ble_eq_true rfl⟩ ⟨Nat.le_of_ble_eq_true rfl, Nat.le_of_ble_eq_true rfl⟩ [0, 1, 2, 3] rfl (by decide) 0 6 rfl rfl rfl rfl (Nat.le_of_ble_eq_true rfl) dX2_leavesFor_15) hW hA [0, 1, 2, 3] [] rfl rfl (by decide) (by decide) (fun _ _ _ _ _ _ h9 => h9.elim) (fun r_15 W_15 H locs hq hW => ?_)
    obtain ⟨rfl, rfl⟩ := hq
    have hW : CxB D [(a1, .inr (6, [.ref a2, .ref a3, .ref a4, .int (nI nh)])), (a2, .inl (aT 0, 6, .inl fL)), (a3, .inl (aT 0, 6, .inl fT)), (a4, .inl (aT 0, 6, .inl fX))] A s.heap H _ := hW
    refine lv_iconst (v := nI 3) hx hb dX2_leavesFor_18 (by decide) ?_
    refine r_gtN hx hb (a := dif (ta i) t) (b := 3) (by have := (hH.2.2.2 i (by omega)).2; first | omega | (unfold dif; omega)) (by have := (hH.2.2.2 i (by omega)).2; first | omega | (unfold dif; omega)) (tgt := 31) dX2_leavesFor_19 (by decide) (fun c_19 => ?_) (fun c_19 => ?_)
    · have hl : lv_has ls 4 [(3, .int (nI i)), (2, .int (nI (fav lv ta t (i + 1)))), (1, .int (nI t)), (0, .ref a1)] := by
        rw [show nI (fav lv ta t (i + 1)) = nI (fav lv ta t i) from congrArg nI (by rw [fav, if_neg (by omega), Nat.add_zero])]
        exact hl
      refine lv_iinc (v := (nI (i + 1))) (lv' := [(3, .int (nI (i + 1))), (2, .int (nI (fav lv ta t (i + 1)))), (1, .int (nI t)), (0, .ref a1)]) hx hb dX2_leavesFor_31 hl (k := 0) rfl (nI_1 _) (by decide) rfl (fun ls hl => ?_)
      refine lv_goto (tgt := 4) hx hb dX2_leavesFor_34 (by decide) ?_
      exact ih_4 (i + 1) _ _ _ (by first | omega | (dsimp only; omega)) ⟨_, rfl, lv_sub hl [0, 1, 2, 3] rfl, hW, (by omega)⟩
    · refine lv_iload_n hx hb dX2_leavesFor_22 rfl (lv_at hl 1 rfl) ?_
      refine lv_aload_n hx hb dX2_leavesFor_23 rfl (lv_at hl 3 rfl) ?_
      refine cx_get C hW 0 0 rfl rfl (by decide) inX2 gw_124 rfl rfl dX2_leavesFor_24 ?_
      refine lv_iload_n hx hb dX2_leavesFor_27 rfl (lv_at hl 0 rfl) ?_
      refine cx_ald C hW 1 0 (j := i) rfl rfl rfl (by have := hH.1; omega) (by decide) dX2_leavesFor_28 ?_
      refine r_eq (y := (nI (lv i))) ((hH.2.1 i (by first | assumption | omega)).1) ?_
      refine r_iaddN hx hb (a := fav lv ta t i) (b := lv i) dX2_leavesFor_29 ?_
      refine r_eq (y := (nI (fav lv ta t (i + 1)))) (by rw [fav, if_pos (by omega)]) ?_
      refine lv_istore_n (lv' := [(2, .int (nI (fav lv ta t (i + 1)))), (3, .int (nI i)), (1, .int (nI t)), (0, .ref a1)]) hx hb dX2_leavesFor_30 rfl hl (by decide) rfl (fun ls hl => ?_)
      refine lv_iinc (v := (nI (i + 1))) (lv' := [(3, .int (nI (i + 1))), (2, .int (nI (fav lv ta t (i + 1)))), (1, .int (nI t)), (0, .ref a1)]) hx hb dX2_leavesFor_31 hl (k := 1) rfl (nI_1 _) (by decide) rfl (fun ls hl => ?_)
      refine lv_goto (tgt := 4) hx hb dX2_leavesFor_34 (by decide) ?_
      exact ih_4 (i + 1) _ _ _ (by first | omega | (dsimp only; omega)) ⟨_, rfl, lv_sub hl [0, 1, 2, 3] rfl, hW, (by omega)⟩
theorem dX2_totalLeaves_0 : decode cX2_totalLeaves 0 = .ok (.iconst 0, 1) := by decide +kernel
theorem dX2_totalLeaves_1 : decode cX2_totalLeaves 1 = .ok (.istore_n 1, 1) := by decide +kernel
theorem dX2_totalLeaves_2 : decode cX2_totalLeaves 2 = .ok (.iconst 0, 1) := by decide +kernel
theorem dX2_totalLeaves_3 : decode cX2_totalLeaves 3 = .ok (.istore_n 2, 1) := by decide +kernel
theorem dX2_totalLeaves_4 : decode cX2_totalLeaves 4 = .ok (.iload_n 2, 1) := by decide +kernel
theorem dX2_totalLeaves_5 : decode cX2_totalLeaves 5 = .ok (.aload_n 0, 1) := by decide +kernel
theorem dX2_totalLeaves_6 : decode cX2_totalLeaves 6 = .ok (.getfield 21, 3) := by decide +kernel
theorem dX2_totalLeaves_9 : decode cX2_totalLeaves 9 = .ok (.if_icmp .ge 18, 3) := by decide +kernel
theorem dX2_totalLeaves_12 : decode cX2_totalLeaves 12 = .ok (.iload_n 1, 1) := by decide +kernel
theorem dX2_totalLeaves_13 : decode cX2_totalLeaves 13 = .ok (.aload_n 0, 1) := by decide +kernel
theorem dX2_totalLeaves_14 : decode cX2_totalLeaves 14 = .ok (.getfield 9, 3) := by decide +kernel
theorem dX2_totalLeaves_17 : decode cX2_totalLeaves 17 = .ok (.iload_n 2, 1) := by decide +kernel
theorem dX2_totalLeaves_18 : decode cX2_totalLeaves 18 = .ok (.iaload, 1) := by decide +kernel
theorem dX2_totalLeaves_19 : decode cX2_totalLeaves 19 = .ok (.iadd, 1) := by decide +kernel
theorem dX2_totalLeaves_20 : decode cX2_totalLeaves 20 = .ok (.istore_n 1, 1) := by decide +kernel
theorem dX2_totalLeaves_21 : decode cX2_totalLeaves 21 = .ok (.iinc 2 1, 3) := by decide +kernel
theorem dX2_totalLeaves_24 : decode cX2_totalLeaves 24 = .ok (.goto (-20), 3) := by decide +kernel
theorem dX2_totalLeaves_27 : decode cX2_totalLeaves 27 = .ok (.iload_n 1, 1) := by decide +kernel
theorem dX2_totalLeaves_28 : decode cX2_totalLeaves 28 = .ok (.ireturn, 1) := by decide +kernel
set_option maxHeartbeats 2000000 in
set_option maxRecDepth 20000 in
theorem k_X2_totalLeaves (l : Launch) (hfl : l.stackTraces = false) (D : va_G) (aT : Nat → ClassId) (a1 : Nat) (a2 : Nat) (a3 : Nat) (a4 : Nat) (fL : Nat → Int32) (fT : Nat → Int32) (fX : Nat → Int32) (nh : Nat) (lv : Nat → Nat) (th : Nat → Nat) (ta : Nat → Nat) (hH : HeC fL fT fX nh lv th ta) : CxG l yX2_totalLeaves cX2_totalLeaves 3 (some (.int)) 0 0 0 0 D aT [.ref a1] [(a1, .inr (6, [.ref a2, .ref a3, .ref a4, .int (nI nh)])), (a2, .inl (aT 0, 6, .inl fL)), (a3, .inl (aT 0, 6, .inl fT)), (a4, .inl (aT 0, 6, .inl fX))] (qI D aT (fun r W1 => r = nI (sml lv nh) ∧ W1 = [(a1, .inr (6, [.ref a2, .ref a3, .ref a4, .int (nI nh)])), (a2, .inl (aT 0, 6, .inl fL)), (a3, .inl (aT 0, 6, .inl fT)), (a4, .inl (aT 0, 6, .inl fX))])) (fun _ _ => False) := by
  refine CxG.of RX2 (by decide +kernel) rfl (Nat.le_of_ble_eq_true rfl) ?_
  intro p e s m below meth c A ls C hml hl hA hr hlocks hex hnm hZ hW
  have hl : lv_has ls 3 [(0, .ref a1)] := hl
  have hx := C.1
  have hb := C.2.1
  refine lv_iconst (v := nI 0) hx hb dX2_totalLeaves_0 (by decide) ?_
  refine lv_istore_n (lv' := [(1, .int (nI 0)), (0, .ref a1)]) hx hb dX2_totalLeaves_1 rfl hl (by decide) rfl (fun ls hl => ?_)
  refine lv_iconst (v := nI 0) hx hb dX2_totalLeaves_2 (by decide) ?_
  refine lv_istore_n (lv' := [(2, .int (nI 0)), (1, .int (nI 0)), (0, .ref a1)]) hx hb dX2_totalLeaves_3 rfl hl (by decide) rfl (fun ls hl => ?_)
  refine W_loopH (σ := Nat) (fun z_ => nh - z_) (fun z_ H locs g => ∃ ls, g = F0 m 4 ls [] ∧ lv_has ls 3 [(2, .int (nI z_)), (1, .int (nI (sml lv z_))), (0, .ref a1)] ∧ CxB D [(a1, .inr (6, [.ref a2, .ref a3, .ref a4, .int (nI nh)])), (a2, .inl (aT 0, 6, .inl fL)), (a3, .inl (aT 0, 6, .inl fT)), (a4, .inl (aT 0, 6, .inl fX))] A s.heap H locs ∧ z_ ≤ nh) ?_ 0 _ ⟨_, rfl, lv_sub hl [0, 1, 2] rfl, hW, Nat.zero_le _⟩
  clear hW hl
  rintro i H locs g ⟨ls, rfl, hl, hW, hi⟩ ih_4
  refine lv_iload_n hx hb dX2_totalLeaves_4 rfl (lv_at hl 0 rfl) ?_
  refine lv_aload_n hx hb dX2_totalLeaves_5 rfl (lv_at hl 2 rfl) ?_
  refine cx_get C hW 0 3 rfl rfl (by decide) inX2 gw_129 rfl rfl dX2_totalLeaves_6 ?_
  refine r_geN hx hb (a := i) (b := nh) (by have := hH.1; omega) (by have := hH.1; omega) (tgt := 27) dX2_totalLeaves_9 (by decide) (fun c_9 => ?_) (fun c_9 => ?_)
  · refine lv_iload_n hx hb dX2_totalLeaves_27 rfl (lv_at hl 1 rfl) ?_
    exact cx_iret C hr hlocks rfl hW ⟨Nat.le_of_ble_eq_true rfl, Nat.le_of_ble_eq_true rfl⟩ (⟨by rw [show i = nh by omega], rfl⟩) dX2_totalLeaves_28
  · refine lv_iload_n hx hb dX2_totalLeaves_12 rfl (lv_at hl 1 rfl) ?_
    refine lv_aload_n hx hb dX2_totalLeaves_13 rfl (lv_at hl 2 rfl) ?_
    refine cx_get C hW 0 0 rfl rfl (by decide) inX2 gw_124 rfl rfl dX2_totalLeaves_14 ?_
    refine lv_iload_n hx hb dX2_totalLeaves_17 rfl (lv_at hl 0 rfl) ?_
    refine cx_ald C hW 1 0 (j := i) rfl rfl rfl (by have := hH.1; omega) (by decide) dX2_totalLeaves_18 ?_
    refine r_eq (y := (nI (lv i))) ((hH.2.1 i (by first | assumption | omega)).1) ?_
    refine r_iaddN hx hb (a := sml lv i) (b := lv i) dX2_totalLeaves_19 ?_
    refine r_eq (y := (nI (sml lv (i + 1)))) (rfl) ?_
    refine lv_istore_n (lv' := [(1, .int (nI (sml lv (i + 1)))), (2, .int (nI i)), (0, .ref a1)]) hx hb dX2_totalLeaves_20 rfl hl (by decide) rfl (fun ls hl => ?_)
    refine lv_iinc (v := (nI (i + 1))) (lv' := [(2, .int (nI (i + 1))), (1, .int (nI (sml lv (i + 1)))), (0, .ref a1)]) hx hb dX2_totalLeaves_21 hl (k := 1) rfl (nI_1 _) (by decide) rfl (fun ls hl => ?_)
    refine lv_goto (tgt := 4) hx hb dX2_totalLeaves_24 (by decide) ?_
    exact ih_4 (i + 1) _ _ _ (by first | omega | (dsimp only; omega)) ⟨_, rfl, lv_sub hl [0, 1, 2] rfl, hW, (by omega)⟩
theorem dX2_add_0 : decode cX2_add 0 = .ok (.aload_n 0, 1) := by decide +kernel
theorem dX2_add_1 : decode cX2_add 1 = .ok (.getfield 21, 3) := by decide +kernel
theorem dX2_add_4 : decode cX2_add 4 = .ok (.istore 4, 2) := by decide +kernel
theorem dX2_add_6 : decode cX2_add 6 = .ok (.aload_n 0, 1) := by decide +kernel
theorem dX2_add_7 : decode cX2_add 7 = .ok (.getfield 9, 3) := by decide +kernel
theorem dX2_add_10 : decode cX2_add 10 = .ok (.iload 4, 2) := by decide +kernel
theorem dX2_add_12 : decode cX2_add 12 = .ok (.iload_n 1, 1) := by decide +kernel
theorem dX2_add_13 : decode cX2_add 13 = .ok (.iastore, 1) := by decide +kernel
theorem dX2_add_14 : decode cX2_add 14 = .ok (.aload_n 0, 1) := by decide +kernel
theorem dX2_add_15 : decode cX2_add 15 = .ok (.getfield 15, 3) := by decide +kernel
theorem dX2_add_18 : decode cX2_add 18 = .ok (.iload 4, 2) := by decide +kernel
theorem dX2_add_20 : decode cX2_add 20 = .ok (.iload_n 2, 1) := by decide +kernel
theorem dX2_add_21 : decode cX2_add 21 = .ok (.iastore, 1) := by decide +kernel
theorem dX2_add_22 : decode cX2_add 22 = .ok (.aload_n 0, 1) := by decide +kernel
theorem dX2_add_23 : decode cX2_add 23 = .ok (.getfield 18, 3) := by decide +kernel
theorem dX2_add_26 : decode cX2_add 26 = .ok (.iload 4, 2) := by decide +kernel
theorem dX2_add_28 : decode cX2_add 28 = .ok (.iload_n 3, 1) := by decide +kernel
theorem dX2_add_29 : decode cX2_add 29 = .ok (.iastore, 1) := by decide +kernel
theorem dX2_add_30 : decode cX2_add 30 = .ok (.aload_n 0, 1) := by decide +kernel
theorem dX2_add_31 : decode cX2_add 31 = .ok (.iload 4, 2) := by decide +kernel
theorem dX2_add_33 : decode cX2_add 33 = .ok (.iconst 1, 1) := by decide +kernel
theorem dX2_add_34 : decode cX2_add 34 = .ok (.iadd, 1) := by decide +kernel
theorem dX2_add_35 : decode cX2_add 35 = .ok (.putfield 21, 3) := by decide +kernel
theorem dX2_add_38 : decode cX2_add 38 = .ok (.iload 4, 2) := by decide +kernel
theorem dX2_add_40 : decode cX2_add 40 = .ok (.ireturn, 1) := by decide +kernel
set_option maxHeartbeats 2000000 in
set_option maxRecDepth 20000 in
theorem k_X2_add (l : Launch) (hfl : l.stackTraces = false) (D : va_G) (aT : Nat → ClassId) (a1 : Nat) (a2 : Nat) (a3 : Nat) (a4 : Nat) (fL : Nat → Int32) (fT : Nat → Int32) (fX : Nat → Int32) (nh : Nat) (lv : Nat → Nat) (th : Nat → Nat) (ta : Nat → Nat) (hH : HeC fL fT fX nh lv th ta) (x : Int32) (y : Int32) (z : Int32) (h6 : nh < 6) : CxG l yX2_add cX2_add 5 (some (.int)) 0 0 0 0 D aT [.ref a1, .int x, .int y, .int z] [(a1, .inr (6, [.ref a2, .ref a3, .ref a4, .int (nI nh)])), (a2, .inl (aT 0, 6, .inl fL)), (a3, .inl (aT 0, 6, .inl fT)), (a4, .inl (aT 0, 6, .inl fX))] (qI D aT (fun r W1 => r = (nI nh) ∧ W1 = [(a1, .inr (6, [.ref a2, .ref a3, .ref a4, .int (nI (nh + 1))])), (a2, .inl (aT 0, 6, .inl (upd fL nh (x)))), (a3, .inl (aT 0, 6, .inl (upd fT nh (y)))), (a4, .inl (aT 0, 6, .inl (upd fX nh (z))))])) (fun _ _ => False) := by
  refine CxG.of RX2 (by decide +kernel) rfl (Nat.le_of_ble_eq_true rfl) ?_
  intro p e s m below meth c A ls C hml hl hA hr hlocks hex hnm hZ hW
  have hl : lv_has ls 5 [(0, .ref a1), (1, .int x), (2, .int y), (3, .int z)] := hl
  have hx := C.1
  have hb := C.2.1
  refine lv_aload_n hx hb dX2_add_0 rfl (lv_at hl 0 rfl) ?_
  refine cx_get C hW 0 3 rfl rfl (by decide) inX2 gw_129 rfl rfl dX2_add_1 ?_
  refine lv_istore (lv' := [(4, .int (nI nh)), (0, .ref a1), (1, .int x), (2, .int y), (3, .int z)]) hx hb dX2_add_4 hl (by decide) rfl (fun ls hl => ?_)
  refine lv_aload_n hx hb dX2_add_6 rfl (lv_at hl 1 rfl) ?_
  refine cx_get C hW 0 0 rfl rfl (by decide) inX2 gw_124 rfl rfl dX2_add_7 ?_
  refine lv_iload hx hb dX2_add_10 (lv_at hl 0 rfl) ?_
  refine lv_iload_n hx hb dX2_add_12 rfl (lv_at hl 2 rfl) ?_
  refine cx_ast C hW 1 0 (j := nh) (W1 := [(a1, .inr (6, [.ref a2, .ref a3, .ref a4, .int (nI nh)])), (a2, .inl (aT 0, 6, .inl (upd fL nh (x)))), (a3, .inl (aT 0, 6, .inl fT)), (a4, .inl (aT 0, 6, .inl fX))]) rfl rfl rfl (by omega) (by decide) rfl dX2_add_13 (fun H locs hW => ?_)
  refine lv_aload_n hx hb dX2_add_14 rfl (lv_at hl 1 rfl) ?_
  refine cx_get C hW 0 1 rfl rfl (by decide) inX2 gw_126 rfl rfl dX2_add_15 ?_
  refine lv_iload hx hb dX2_add_18 (lv_at hl 0 rfl) ?_
  refine lv_iload_n hx hb dX2_add_20 rfl (lv_at hl 3 rfl) ?_
  refine cx_ast C hW 2 0 (j := nh) (W1 := [(a1, .inr (6, [.ref a2, .ref a3, .ref a4, .int (nI nh)])), (a2, .inl (aT 0, 6, .inl (upd fL nh (x)))), (a3, .inl (aT 0, 6, .inl (upd fT nh (y)))), (a4, .inl (aT 0, 6, .inl fX))]) rfl rfl rfl (by omega) (by decide) rfl dX2_add_21 (fun H locs hW => ?_)
  refine lv_aload_n hx hb dX2_add_22 rfl (lv_at hl 1 rfl) ?_
  refine cx_get C hW 0 2 rfl rfl (by decide) inX2 gw_128 rfl rfl dX2_add_23 ?_
  refine lv_iload hx hb dX2_add_26 (lv_at hl 0 rfl) ?_
  refine lv_iload_n hx hb dX2_add_28 rfl (lv_at hl 4 rfl) ?_
  refine cx_ast C hW 3 0 (j := nh) (W1 := [(a1, .inr (6, [.ref a2, .ref a3, .ref a4, .int (nI nh)])), (a2, .inl (aT 0, 6, .inl (upd fL nh (x)))), (a3, .inl (aT 0, 6, .inl (upd fT nh (y)))), (a4, .inl (aT 0, 6, .inl (upd fX nh (z))))]) rfl rfl rfl (by omega) (by decide) rfl dX2_add_29 (fun H locs hW => ?_)
  refine lv_aload_n hx hb dX2_add_30 rfl (lv_at hl 1 rfl) ?_
  refine lv_iload hx hb dX2_add_31 (lv_at hl 0 rfl) ?_
  refine lv_iconst (v := nI 1) hx hb dX2_add_33 (by decide) ?_
  refine r_iaddN hx hb (a := nh) (b := 1) dX2_add_34 ?_
  refine cx_put C hW 0 3 (W1 := [(a1, .inr (6, [.ref a2, .ref a3, .ref a4, .int (nI (nh + 1))])), (a2, .inl (aT 0, 6, .inl (upd fL nh (x)))), (a3, .inl (aT 0, 6, .inl (upd fT nh (y)))), (a4, .inl (aT 0, 6, .inl (upd fX nh (z))))]) rfl rfl (by decide) inX2 tyX2 tyX2_ok nmX2 gw_129 rfl rfl rfl rfl rfl (Nat.le_of_ble_eq_true rfl) rfl dX2_add_35 (fun H locs hW => ?_)
  refine lv_iload hx hb dX2_add_38 (lv_at hl 0 rfl) ?_
  exact cx_iret C hr hlocks rfl hW ⟨Nat.le_of_ble_eq_true rfl, Nat.le_of_ble_eq_true rfl⟩ (⟨rfl, rfl⟩) dX2_add_40
theorem dX2_decideOn_0 : decode cX2_decideOn 0 = .ok (.iconst 0, 1) := by decide +kernel
theorem dX2_decideOn_1 : decode cX2_decideOn 1 = .ok (.istore_n 2, 1) := by decide +kernel
theorem dX2_decideOn_2 : decode cX2_decideOn 2 = .ok (.iconst 0, 1) := by decide +kernel
theorem dX2_decideOn_3 : decode cX2_decideOn 3 = .ok (.istore_n 3, 1) := by decide +kernel
theorem dX2_decideOn_4 : decode cX2_decideOn 4 = .ok (.iload_n 3, 1) := by decide +kernel
theorem dX2_decideOn_5 : decode cX2_decideOn 5 = .ok (.aload_n 0, 1) := by decide +kernel
theorem dX2_decideOn_6 : decode cX2_decideOn 6 = .ok (.getfield 21, 3) := by decide +kernel
theorem dX2_decideOn_9 : decode cX2_decideOn 9 = .ok (.if_icmp .ge 30, 3) := by decide +kernel
theorem dX2_decideOn_12 : decode cX2_decideOn 12 = .ok (.aload_n 0, 1) := by decide +kernel
theorem dX2_decideOn_13 : decode cX2_decideOn 13 = .ok (.iload_n 3, 1) := by decide +kernel
theorem dX2_decideOn_14 : decode cX2_decideOn 14 = .ok (.iload_n 1, 1) := by decide +kernel
theorem dX2_decideOn_15 : decode cX2_decideOn 15 = .ok (.invokevirtual 35, 3) := by decide +kernel
theorem dX2_decideOn_18 : decode cX2_decideOn 18 = .ok (.ifCond .eq 15, 3) := by decide +kernel
theorem dX2_decideOn_21 : decode cX2_decideOn 21 = .ok (.aload_n 0, 1) := by decide +kernel
theorem dX2_decideOn_22 : decode cX2_decideOn 22 = .ok (.getfield 15, 3) := by decide +kernel
theorem dX2_decideOn_25 : decode cX2_decideOn 25 = .ok (.iload_n 3, 1) := by decide +kernel
theorem dX2_decideOn_26 : decode cX2_decideOn 26 = .ok (.dup2, 1) := by decide +kernel
theorem dX2_decideOn_27 : decode cX2_decideOn 27 = .ok (.iaload, 1) := by decide +kernel
theorem dX2_decideOn_28 : decode cX2_decideOn 28 = .ok (.iconst 1, 1) := by decide +kernel
theorem dX2_decideOn_29 : decode cX2_decideOn 29 = .ok (.isub, 1) := by decide +kernel
theorem dX2_decideOn_30 : decode cX2_decideOn 30 = .ok (.iastore, 1) := by decide +kernel
theorem dX2_decideOn_31 : decode cX2_decideOn 31 = .ok (.iconst 1, 1) := by decide +kernel
theorem dX2_decideOn_32 : decode cX2_decideOn 32 = .ok (.istore_n 2, 1) := by decide +kernel
theorem dX2_decideOn_33 : decode cX2_decideOn 33 = .ok (.iinc 3 1, 3) := by decide +kernel
theorem dX2_decideOn_36 : decode cX2_decideOn 36 = .ok (.goto (-32), 3) := by decide +kernel
theorem dX2_decideOn_39 : decode cX2_decideOn 39 = .ok (.iload_n 2, 1) := by decide +kernel
theorem dX2_decideOn_40 : decode cX2_decideOn 40 = .ok (.ifCond .eq 6, 3) := by decide +kernel
theorem dX2_decideOn_43 : decode cX2_decideOn 43 = .ok (.bipush 118, 2) := by decide +kernel
theorem dX2_decideOn_45 : decode cX2_decideOn 45 = .ok (.ireturn, 1) := by decide +kernel
theorem dX2_decideOn_46 : decode cX2_decideOn 46 = .ok (.iconst 2, 1) := by decide +kernel
theorem dX2_decideOn_47 : decode cX2_decideOn 47 = .ok (.aload_n 0, 1) := by decide +kernel
theorem dX2_decideOn_48 : decode cX2_decideOn 48 = .ok (.iload_n 1, 1) := by decide +kernel
theorem dX2_decideOn_49 : decode cX2_decideOn 49 = .ok (.invokevirtual 39, 3) := by decide +kernel
theorem dX2_decideOn_52 : decode cX2_decideOn 52 = .ok (.imul, 1) := by decide +kernel
theorem dX2_decideOn_53 : decode cX2_decideOn 53 = .ok (.aload_n 0, 1) := by decide +kernel
theorem dX2_decideOn_54 : decode cX2_decideOn 54 = .ok (.invokevirtual 43, 3) := by decide +kernel
theorem dX2_decideOn_57 : decode cX2_decideOn 57 = .ok (.if_icmp .le 8, 3) := by decide +kernel
theorem dX2_decideOn_60 : decode cX2_decideOn 60 = .ok (.bipush 99, 2) := by decide +kernel
theorem dX2_decideOn_62 : decode cX2_decideOn 62 = .ok (.goto 5, 3) := by decide +kernel
theorem dX2_decideOn_65 : decode cX2_decideOn 65 = .ok (.bipush 114, 2) := by decide +kernel
theorem dX2_decideOn_67 : decode cX2_decideOn 67 = .ok (.ireturn, 1) := by decide +kernel
theorem gV_X2_X2_leavesFor_39 : GoodIn gw (wsV RX2 39 RX2 yX2_leavesFor (Cond.code yX2_leavesFor cX2_leavesFor 4 (some .int) :: gw)) := gdV gw_784 gw_785 gw_786 gw_69 gw_787
theorem hV_X2_leavesFor : yX2_leavesFor.cls = RX2 ∧ yX2_leavesFor.cls ≠ "java/lang/invoke/MethodHandle" ∧ yX2_leavesFor.cls ≠ "java/lang/invoke/VarHandle" ∧ (parseMethodDescriptor yX2_leavesFor.desc).map (fun d => d.parameters.length) = some 1 := ⟨rfl, by decide +kernel, by decide +kernel, by decide +kernel⟩
theorem gV_X2_X2_totalLeaves_43 : GoodIn gw (wsV RX2 43 RX2 yX2_totalLeaves (Cond.code yX2_totalLeaves cX2_totalLeaves 3 (some .int) :: gw)) := gdV gw_788 gw_789 gw_790 gw_69 gw_791
theorem hV_X2_totalLeaves : yX2_totalLeaves.cls = RX2 ∧ yX2_totalLeaves.cls ≠ "java/lang/invoke/MethodHandle" ∧ yX2_totalLeaves.cls ≠ "java/lang/invoke/VarHandle" ∧ (parseMethodDescriptor yX2_totalLeaves.desc).map (fun d => d.parameters.length) = some 0 := ⟨rfl, by decide +kernel, by decide +kernel, by decide +kernel⟩
theorem gV_X2_X2_vetoes_35 : GoodIn gw (wsV RX2 35 RX2 yX2_vetoes (Cond.code yX2_vetoes cX2_vetoes 3 (some .boolean) :: gw)) := gdV gw_776 gw_777 gw_778 gw_69 gw_779
theorem hV_X2_vetoes : yX2_vetoes.cls = RX2 ∧ yX2_vetoes.cls ≠ "java/lang/invoke/MethodHandle" ∧ yX2_vetoes.cls ≠ "java/lang/invoke/VarHandle" ∧ (parseMethodDescriptor yX2_vetoes.desc).map (fun d => d.parameters.length) = some 2 := ⟨rfl, by decide +kernel, by decide +kernel, by decide +kernel⟩
set_option maxHeartbeats 2000000 in
set_option maxRecDepth 20000 in
theorem k_X2_decideOn (l : Launch) (hfl : l.stackTraces = false) (D : va_G) (aT : Nat → ClassId) (a1 : Nat) (a2 : Nat) (a3 : Nat) (a4 : Nat) (fL : Nat → Int32) (fT : Nat → Int32) (fX : Nat → Int32) (nh : Nat) (lv : Nat → Nat) (th : Nat → Nat) (ta : Nat → Nat) (hH : HeC fL fT fX nh lv th ta) (t : Nat) (ht : t ≤ 9) : CxG l yX2_decideOn cX2_decideOn 4 (some (.char)) 2 0 0 46 D aT [.ref a1, .int (nI t)] [(a1, .inr (6, [.ref a2, .ref a3, .ref a4, .int (nI nh)])), (a2, .inl (aT 0, 6, .inl fL)), (a3, .inl (aT 0, 6, .inl fT)), (a4, .inl (aT 0, 6, .inl fX))] (qI D aT (fun r W1 => ∃ f : Nat → Int32, HeC fL f fX nh lv (thV (vvF th ta t) th nh) ta ∧ ((anV (vvF th ta t) nh = true ∧ r = nI 118) ∨ (anV (vvF th ta t) nh = false ∧ sml lv nh < 2 * fav lv ta t nh ∧ r = nI 99) ∨ (anV (vvF th ta t) nh = false ∧ ¬ sml lv nh < 2 * fav lv ta t nh ∧ r = nI 114)) ∧ W1 = [(a1, .inr (6, [.ref a2, .ref a3, .ref a4, .int (nI nh)])), (a2, .inl (aT 0, 6, .inl fL)), (a3, .inl (aT 0, 6, .inl f)), (a4, .inl (aT 0, 6, .inl fX))])) (fun _ _ => False) := by
  refine CxG.of RX2 (by decide +kernel) rfl (Nat.le_of_ble_eq_true rfl) ?_
  intro p e s m below meth c A ls C hml hl hA hr hlocks hex hnm hZ hW
  have hl : lv_has ls 4 [(0, .ref a1), (1, .int (nI t))] := hl
  have hx := C.1
  have hb := C.2.1
  refine lv_iconst (v := nI 0) hx hb dX2_decideOn_0 (by decide) ?_
  refine lv_istore_n (lv' := [(2, .int (nI 0)), (0, .ref a1), (1, .int (nI t))]) hx hb dX2_decideOn_1 rfl hl (by decide) rfl (fun ls hl => ?_)
  refine lv_iconst (v := nI 0) hx hb dX2_decideOn_2 (by decide) ?_
  refine lv_istore_n (lv' := [(3, .int (nI 0)), (2, .int (nI 0)), (0, .ref a1), (1, .int (nI t))]) hx hb dX2_decideOn_3 rfl hl (by decide) rfl (fun ls hl => ?_)
  have hl : lv_has ls 4 [(3, .int (nI 0)), (2, .int (bI false)), (0, .ref a1), (1, .int (nI t))] := hl
  refine W_loopH (σ := Nat × (Nat → Int32) × Bool) (fun z_ => nh - z_.1) (fun z_ H locs g => ∃ ls, g = F0 m 4 ls [] ∧ lv_has ls 4 [(3, .int (nI z_.1)), (2, .int (bI z_.2.2)), (1, .int (nI t)), (0, .ref a1)] ∧ CxB D [(a1, .inr (6, [.ref a2, .ref a3, .ref a4, .int (nI nh)])), (a2, .inl (aT 0, 6, .inl fL)), (a3, .inl (aT 0, 6, .inl z_.2.1)), (a4, .inl (aT 0, 6, .inl fX))] A s.heap H locs ∧ z_.1 ≤ nh ∧ HeC fL z_.2.1 fX nh lv (thV (vvF th ta t) th z_.1) ta ∧ z_.2.2 = anV (vvF th ta t) z_.1) ?_ (0, fT, false) _ ⟨_, rfl, lv_sub hl [0, 1, 3, 2] rfl, hW, ⟨Nat.zero_le _, by rw [thV_0]; exact hH, rfl⟩⟩
  clear hW hl
  rintro ⟨i, f, b⟩ H locs g ⟨ls, rfl, hl, hW, ⟨hi, hv0, hbv⟩⟩ ih_4
  dsimp only at hl hW hi hv0 hbv ⊢
  refine lv_iload_n hx hb dX2_decideOn_4 rfl (lv_at hl 0 rfl) ?_
  refine lv_aload_n hx hb dX2_decideOn_5 rfl (lv_at hl 3 rfl) ?_
  refine cx_get C hW 0 3 rfl rfl (by decide) inX2 gw_129 rfl rfl dX2_decideOn_6 ?_
  refine r_geN hx hb (a := i) (b := nh) (by have := hH.1; omega) (by have := hH.1; omega) (tgt := 39) dX2_decideOn_9 (by decide) (fun c_9 => ?_) (fun c_9 => ?_)
  · refine lv_iload_n hx hb dX2_decideOn_39 rfl (lv_at hl 1 rfl) ?_
    refine r_bI_eq hx hb (b := b) (tgt := 46) dX2_decideOn_40 (by decide) (fun c_40 => ?_) (fun c_40 => ?_)
    · refine lv_iconst (v := nI 2) hx hb dX2_decideOn_46 (by decide) ?_
      refine lv_aload_n hx hb dX2_decideOn_47 rfl (lv_at hl 3 rfl) ?_
      refine lv_iload_n hx hb dX2_decideOn_48 rfl (lv_at hl 2 rfl) ?_
      refine cx_calli (Wr := []) (cx_runV C hml hl.1 hZ hW hA (As := [.int (nI t)]) (rest := [.int (nI 2)]) (k_X2_leavesFor l hfl D aT a1 a2 a3 a4 fL f fX nh lv (thV (vvF th ta t) th i) ta hv0 t ht) gV_X2_X2_leavesFor_39 hV_X2_leavesFor rfl ⟨Nat.le_of_ble_eq_true rfl, Nat.le_of_ble_eq_true rfl⟩ ⟨Nat.le_of_ble_eq_true rfl, Nat.le_of_ble_eq_true rfl⟩ [0, 1, 2, 3] rfl (by decide) 0 6 rfl rfl rfl rfl (Nat.le_of_ble_eq_true rfl) dX2_decideOn_49) hW hA [0, 1, 2, 3] [] rfl rfl (by decide) (by decide) (fun _ _ _ _ _ _ h9 => h9.elim) (fun r_49 W_49 H locs hq hW => ?_)
      obtain ⟨rfl, rfl⟩ := hq
      have hW : CxB D [(a1, .inr (6, [.ref a2, .ref a3, .ref a4, .int (nI nh)])), (a2, .inl (aT 0, 6, .inl fL)), (a3, .inl (aT 0, 6, .inl f)), (a4, .inl (aT 0, 6, .inl fX))] A s.heap H _ := hW
      refine r_imulN hx hb (a := 2) (b := fav lv ta t nh) dX2_decideOn_52 ?_
      refine lv_aload_n hx hb dX2_decideOn_53 rfl (lv_at hl 3 rfl) ?_
      refine cx_calli (Wr := []) (cx_runV C hml hl.1 hZ hW hA (As := []) (rest := [.int (nI (2 * (fav lv ta t nh)))]) (k_X2_totalLeaves l hfl D aT a1 a2 a3 a4 fL f fX nh lv (thV (vvF th ta t) th i) ta hv0) gV_X2_X2_totalLeaves_43 hV_X2_totalLeaves rfl ⟨Nat.le_of_ble_eq_true rfl, Nat.le_of_ble_eq_true rfl⟩ ⟨Nat.le_of_ble_eq_true rfl, Nat.le_of_ble_eq_true rfl⟩ [0, 1, 2, 3] rfl (by decide) 0 6 rfl rfl rfl rfl (Nat.le_of_ble_eq_true rfl) dX2_decideOn_54) hW hA [0, 1, 2, 3] [] rfl rfl (by decide) (by decide) (fun _ _ _ _ _ _ h9 => h9.elim) (fun r_54 W_54 H locs hq hW => ?_)
      obtain ⟨rfl, rfl⟩ := hq
      have hW : CxB D [(a1, .inr (6, [.ref a2, .ref a3, .ref a4, .int (nI nh)])), (a2, .inl (aT 0, 6, .inl fL)), (a3, .inl (aT 0, 6, .inl f)), (a4, .inl (aT 0, 6, .inl fX))] A s.heap H _ := hW
      refine r_leN hx hb (a := 2 * (fav lv ta t nh)) (b := sml lv nh) (by have h5 := sml_le (lv := lv) (i := nh) (fun k hk => (hH.2.1 k hk).2.2); have h6 := fav_le (lv := lv) (ta := ta) (t := t) (i := nh) (fun k hk => (hH.2.1 k hk).2.2); have := hH.1; omega) (by have h5 := sml_le (lv := lv) (i := nh) (fun k hk => (hH.2.1 k hk).2.2); have h6 := fav_le (lv := lv) (ta := ta) (t := t) (i := nh) (fun k hk => (hH.2.1 k hk).2.2); have := hH.1; omega) (tgt := 65) dX2_decideOn_57 (by decide) (fun c_57 => ?_) (fun c_57 => ?_)
      · refine lv_bipush (v := nI 114) hx hb dX2_decideOn_65 (by decide) ?_
        exact cx_iret C hr hlocks (by decide) hW ⟨Nat.le_of_ble_eq_true rfl, Nat.le_of_ble_eq_true rfl⟩ (⟨f, (by have e9 : i = nh := (by omega); rw [e9] at hv0; exact hv0), Or.inr (Or.inr ⟨(by rw [← show i = nh by omega, ← hbv]; exact c_40), by omega, rfl⟩), rfl⟩) dX2_decideOn_67
      · refine lv_bipush (v := nI 99) hx hb dX2_decideOn_60 (by decide) ?_
        refine lv_goto (tgt := 67) hx hb dX2_decideOn_62 (by decide) ?_
        exact cx_iret C hr hlocks (by decide) hW ⟨Nat.le_of_ble_eq_true rfl, Nat.le_of_ble_eq_true rfl⟩ (⟨f, (by have e9 : i = nh := (by omega); rw [e9] at hv0; exact hv0), Or.inr (Or.inl ⟨(by rw [← show i = nh by omega, ← hbv]; exact c_40), by omega, rfl⟩), rfl⟩) dX2_decideOn_67
    · refine lv_bipush (v := nI 118) hx hb dX2_decideOn_43 (by decide) ?_
      exact cx_iret C hr hlocks (by decide) hW ⟨Nat.le_of_ble_eq_true rfl, Nat.le_of_ble_eq_true rfl⟩ (⟨f, (by have e9 : i = nh := (by omega); rw [e9] at hv0; exact hv0), Or.inl ⟨(by rw [← show i = nh by omega, ← hbv]; exact c_40), rfl⟩, rfl⟩) dX2_decideOn_45
  · refine lv_aload_n hx hb dX2_decideOn_12 rfl (lv_at hl 3 rfl) ?_
    refine lv_iload_n hx hb dX2_decideOn_13 rfl (lv_at hl 0 rfl) ?_
    refine lv_iload_n hx hb dX2_decideOn_14 rfl (lv_at hl 2 rfl) ?_
    refine cx_calli (Wr := []) (cx_runV C hml hl.1 hZ hW hA (As := [.int (nI i), .int (nI t)]) (rest := []) (k_X2_vetoes l hfl D aT a1 a2 a3 a4 fL f fX nh lv (thV (vvF th ta t) th i) ta hv0 i (show i < nh by omega) t ht) gV_X2_X2_vetoes_35 hV_X2_vetoes rfl ⟨Nat.le_of_ble_eq_true rfl, Nat.le_of_ble_eq_true rfl⟩ ⟨Nat.le_of_ble_eq_true rfl, Nat.le_of_ble_eq_true rfl⟩ [0, 1, 2, 3] rfl (by decide) 0 6 rfl rfl rfl rfl (Nat.le_of_ble_eq_true rfl) dX2_decideOn_15) hW hA [0, 1, 2, 3] [] rfl rfl (by decide) (by decide) (fun _ _ _ _ _ _ h9 => h9.elim) (fun r_15 W_15 H locs hq hW => ?_)
    obtain ⟨rfl, rfl⟩ := hq
    have hW : CxB D [(a1, .inr (6, [.ref a2, .ref a3, .ref a4, .int (nI nh)])), (a2, .inl (aT 0, 6, .inl fL)), (a3, .inl (aT 0, 6, .inl f)), (a4, .inl (aT 0, 6, .inl fX))] A s.heap H _ := hW
    refine r_bI_eq hx hb (b := (vetB (dif (ta i) t) ((thV (vvF th ta t) th i) i))) (tgt := 33) dX2_decideOn_18 (by decide) (fun c_18 => ?_) (fun c_18 => ?_)
    · refine lv_iinc (v := (nI (i + 1))) (lv' := [(3, .int (nI (i + 1))), (2, .int (bI b)), (1, .int (nI t)), (0, .ref a1)]) hx hb dX2_decideOn_33 hl (k := 0) rfl (nI_1 _) (by decide) rfl (fun ls hl => ?_)
      refine lv_goto (tgt := 4) hx hb dX2_decideOn_36 (by decide) ?_
      exact ih_4 ((i + 1), f, b) _ _ _ (by first | omega | (dsimp only; omega)) ⟨_, rfl, lv_sub hl [0, 1, 2, 3] rfl, hW, ⟨(by omega), hv0.vt0 (by rw [← vv_at (th := th) (ta := ta)]; exact c_18), (by rw [hbv]; exact anV_0 (by rw [← vv_at (th := th) (ta := ta)]; exact c_18))⟩⟩
    · refine lv_aload_n hx hb dX2_decideOn_21 rfl (lv_at hl 3 rfl) ?_
      refine cx_get C hW 0 1 rfl rfl (by decide) inX2 gw_126 rfl rfl dX2_decideOn_22 ?_
      refine lv_iload_n hx hb dX2_decideOn_25 rfl (lv_at hl 0 rfl) ?_
      refine lv_dup2_11 hx hb dX2_decideOn_26 rfl rfl ?_
      refine cx_ald C hW 2 0 (j := i) rfl rfl rfl (by have := hH.1; omega) (by decide) dX2_decideOn_27 ?_
      refine r_eq (y := (nI (th i))) (by have h5 := (hv0.2.2.1 i (by omega)).1; rw [thV_i] at h5; exact h5) ?_
      refine lv_iconst (v := nI 1) hx hb dX2_decideOn_28 (by decide) ?_
      refine r_isubN hx hb (a := th i) (b := 1) (by have := vv_pos (th := th) (ta := ta) (t := t) (i := i) (by rw [← vv_at (th := th) (ta := ta)]; exact c_18); omega) dX2_decideOn_29 ?_
      refine cx_ast C hW 2 0 (j := i) (W1 := [(a1, .inr (6, [.ref a2, .ref a3, .ref a4, .int (nI nh)])), (a2, .inl (aT 0, 6, .inl fL)), (a3, .inl (aT 0, 6, .inl (upd f i ((nI ((th i) - 1)))))), (a4, .inl (aT 0, 6, .inl fX))]) rfl rfl rfl (by have := hH.1; omega) (by decide) rfl dX2_decideOn_30 (fun H locs hW => ?_)
      refine lv_iconst (v := nI 1) hx hb dX2_decideOn_31 (by decide) ?_
      refine lv_istore_n (lv' := [(2, .int (nI 1)), (3, .int (nI i)), (1, .int (nI t)), (0, .ref a1)]) hx hb dX2_decideOn_32 rfl hl (by decide) rfl (fun ls hl => ?_)
      refine lv_iinc (v := (nI (i + 1))) (lv' := [(3, .int (nI (i + 1))), (2, .int (nI 1)), (1, .int (nI t)), (0, .ref a1)]) hx hb dX2_decideOn_33 hl (k := 1) rfl (nI_1 _) (by decide) rfl (fun ls hl => ?_)
      refine lv_goto (tgt := 4) hx hb dX2_decideOn_36 (by decide) ?_
      exact ih_4 ((i + 1), (upd f i ((nI ((th i) - 1)))), true) _ _ _ (by first | omega | (dsimp only; omega)) ⟨_, rfl, lv_sub hl [0, 1, 2, 3] rfl, hW, ⟨(by omega), hv0.vt1 (by omega) (by rw [← vv_at (th := th) (ta := ta)]; exact c_18), anV_1 (by rw [← vv_at (th := th) (ta := ta)]; exact c_18)⟩⟩
theorem dX2_meet_0 : decode cX2_meet 0 = .ok (.iconst 0, 1) := by decide +kernel
theorem dX2_meet_1 : decode cX2_meet 1 = .ok (.istore_n 2, 1) := by decide +kernel
theorem dX2_meet_2 : decode cX2_meet 2 = .ok (.iload_n 2, 1) := by decide +kernel
theorem dX2_meet_3 : decode cX2_meet 3 = .ok (.aload_n 0, 1) := by decide +kernel
theorem dX2_meet_4 : decode cX2_meet 4 = .ok (.getfield 21, 3) := by decide +kernel
theorem dX2_meet_7 : decode cX2_meet 7 = .ok (.if_icmp .ge 63, 3) := by decide +kernel
theorem dX2_meet_10 : decode cX2_meet 10 = .ok (.aload_n 0, 1) := by decide +kernel
theorem dX2_meet_11 : decode cX2_meet 11 = .ok (.getfield 9, 3) := by decide +kernel
theorem dX2_meet_14 : decode cX2_meet 14 = .ok (.iload_n 2, 1) := by decide +kernel
theorem dX2_meet_15 : decode cX2_meet 15 = .ok (.iaload, 1) := by decide +kernel
theorem dX2_meet_16 : decode cX2_meet 16 = .ok (.getstatic 47, 3) := by decide +kernel
theorem dX2_meet_19 : decode cX2_meet 19 = .ok (.iload_n 1, 1) := by decide +kernel
theorem dX2_meet_20 : decode cX2_meet 20 = .ok (.iaload, 1) := by decide +kernel
theorem dX2_meet_21 : decode cX2_meet 21 = .ok (.iadd, 1) := by decide +kernel
theorem dX2_meet_22 : decode cX2_meet 22 = .ok (.istore_n 3, 1) := by decide +kernel
theorem dX2_meet_23 : decode cX2_meet 23 = .ok (.aload_n 0, 1) := by decide +kernel
theorem dX2_meet_24 : decode cX2_meet 24 = .ok (.getfield 9, 3) := by decide +kernel
theorem dX2_meet_27 : decode cX2_meet 27 = .ok (.iload_n 2, 1) := by decide +kernel
theorem dX2_meet_28 : decode cX2_meet 28 = .ok (.iconst 1, 1) := by decide +kernel
theorem dX2_meet_29 : decode cX2_meet 29 = .ok (.bipush 99, 2) := by decide +kernel
theorem dX2_meet_31 : decode cX2_meet 31 = .ok (.iload_n 3, 1) := by decide +kernel
theorem dX2_meet_32 : decode cX2_meet 32 = .ok (.invokestatic 50, 3) := by decide +kernel
theorem dX2_meet_35 : decode cX2_meet 35 = .ok (.invokestatic 55, 3) := by decide +kernel
theorem dX2_meet_38 : decode cX2_meet 38 = .ok (.iastore, 1) := by decide +kernel
theorem dX2_meet_39 : decode cX2_meet 39 = .ok (.iload_n 1, 1) := by decide +kernel
theorem dX2_meet_40 : decode cX2_meet 40 = .ok (.ifCond .ne 24, 3) := by decide +kernel
theorem dX2_meet_43 : decode cX2_meet 43 = .ok (.aload_n 0, 1) := by decide +kernel
theorem dX2_meet_44 : decode cX2_meet 44 = .ok (.getfield 15, 3) := by decide +kernel
theorem dX2_meet_47 : decode cX2_meet 47 = .ok (.iload_n 2, 1) := by decide +kernel
theorem dX2_meet_48 : decode cX2_meet 48 = .ok (.iaload, 1) := by decide +kernel
theorem dX2_meet_49 : decode cX2_meet 49 = .ok (.bipush 9, 2) := by decide +kernel
theorem dX2_meet_51 : decode cX2_meet 51 = .ok (.if_icmp .ge 13, 3) := by decide +kernel
theorem dX2_meet_54 : decode cX2_meet 54 = .ok (.aload_n 0, 1) := by decide +kernel
theorem dX2_meet_55 : decode cX2_meet 55 = .ok (.getfield 15, 3) := by decide +kernel
theorem dX2_meet_58 : decode cX2_meet 58 = .ok (.iload_n 2, 1) := by decide +kernel
theorem dX2_meet_59 : decode cX2_meet 59 = .ok (.dup2, 1) := by decide +kernel
theorem dX2_meet_60 : decode cX2_meet 60 = .ok (.iaload, 1) := by decide +kernel
theorem dX2_meet_61 : decode cX2_meet 61 = .ok (.iconst 1, 1) := by decide +kernel
theorem dX2_meet_62 : decode cX2_meet 62 = .ok (.iadd, 1) := by decide +kernel
theorem dX2_meet_63 : decode cX2_meet 63 = .ok (.iastore, 1) := by decide +kernel
theorem dX2_meet_64 : decode cX2_meet 64 = .ok (.iinc 2 1, 3) := by decide +kernel
theorem dX2_meet_67 : decode cX2_meet 67 = .ok (.goto (-65), 3) := by decide +kernel
theorem dX2_meet_70 : decode cX2_meet 70 = .ok (.return_, 1) := by decide +kernel
set_option maxHeartbeats 2000000 in
set_option maxRecDepth 20000 in
theorem k_X2_meet (l : Launch) (hfl : l.stackTraces = false) (D : va_G) (aT : Nat → ClassId) (a1 : Nat) (a2 : Nat) (a3 : Nat) (a4 : Nat) (fL : Nat → Int32) (fT : Nat → Int32) (fX : Nat → Int32) (nh : Nat) (lv : Nat → Nat) (th : Nat → Nat) (ta : Nat → Nat) (hH : HeC fL fT fX nh lv th ta) (s9 : Nat) (hs : s9 < 4) : CxG l yX2_meet cX2_meet 4 none 1 0 0 40 D aT [.ref a1, .int (nI s9)] [(a1, .inr (6, [.ref a2, .ref a3, .ref a4, .int (nI nh)])), (a2, .inl (aT 0, 6, .inl fL)), (a3, .inl (aT 0, 6, .inl fT)), (a4, .inl (aT 0, 6, .inl fX))] (qV D aT (fun W1 => ∃ f q : Nat → Int32, HeC f q fX nh (lvS s9 lv nh) (thS s9 th nh) ta ∧ W1 = [(a1, .inr (6, [.ref a2, .ref a3, .ref a4, .int (nI nh)])), (a2, .inl (aT 0, 6, .inl f)), (a3, .inl (aT 0, 6, .inl q)), (a4, .inl (aT 0, 6, .inl fX))])) (fun _ _ => False) := by
  refine CxG.of RX2 (by decide +kernel) rfl (Nat.le_of_ble_eq_true rfl) ?_
  intro p e s m below meth c A ls C hml hl hA hr hlocks hex hnm hZ hW
  have hl : lv_has ls 4 [(0, .ref a1), (1, .int (nI s9))] := hl
  have hx := C.1
  have hb := C.2.1
  refine lv_iconst (v := nI 0) hx hb dX2_meet_0 (by decide) ?_
  refine lv_istore_n (lv' := [(2, .int (nI 0)), (0, .ref a1), (1, .int (nI s9))]) hx hb dX2_meet_1 rfl hl (by decide) rfl (fun ls hl => ?_)
  refine W_loopH (σ := Nat × (Nat → Int32) × (Nat → Int32)) (fun z_ => nh - z_.1) (fun z_ H locs g => ∃ ls, g = F0 m 2 ls [] ∧ lv_has ls 4 [(2, .int (nI z_.1)), (1, .int (nI s9)), (0, .ref a1)] ∧ CxB D [(a1, .inr (6, [.ref a2, .ref a3, .ref a4, .int (nI nh)])), (a2, .inl (aT 0, 6, .inl z_.2.1)), (a3, .inl (aT 0, 6, .inl z_.2.2)), (a4, .inl (aT 0, 6, .inl fX))] A s.heap H locs ∧ z_.1 ≤ nh ∧ HeC z_.2.1 z_.2.2 fX nh (lvS s9 lv z_.1) (thS s9 th z_.1) ta) ?_ (0, fL, fT) _ ⟨_, rfl, lv_sub hl [0, 2, 1] rfl, hW, ⟨Nat.zero_le _, by rw [lvS_0, thS_0]; exact hH⟩⟩
  clear hW hl
  rintro ⟨i, f, q⟩ H locs g ⟨ls, rfl, hl, hW, ⟨hi, hm0⟩⟩ ih_2
  dsimp only at hl hW hi hm0 ⊢
  refine lv_iload_n hx hb dX2_meet_2 rfl (lv_at hl 0 rfl) ?_
  refine lv_aload_n hx hb dX2_meet_3 rfl (lv_at hl 2 rfl) ?_
  refine cx_get C hW 0 3 rfl rfl (by decide) inX2 gw_129 rfl rfl dX2_meet_4 ?_
  refine r_geN hx hb (a := i) (b := nh) (by have := hH.1; omega) (by have := hH.1; omega) (tgt := 70) dX2_meet_7 (by decide) (fun c_7 => ?_) (fun c_7 => ?_)
  · exact cx_vret C hr hlocks hW ⟨Nat.le_of_ble_eq_true rfl, Nat.le_of_ble_eq_true rfl⟩ (⟨f, q, (by have e9 : i = nh := (by omega); rw [e9] at hm0; exact hm0), rfl⟩) dX2_meet_70
  · refine lv_aload_n hx hb dX2_meet_10 rfl (lv_at hl 2 rfl) ?_
    refine cx_get C hW 0 0 rfl rfl (by decide) inX2 gw_124 rfl rfl dX2_meet_11 ?_
    refine lv_iload_n hx hb dX2_meet_14 rfl (lv_at hl 0 rfl) ?_
    refine cx_ald C hW 1 0 (j := i) rfl rfl rfl (by have := hH.1; omega) (by decide) dX2_meet_15 ?_
    refine r_eq (y := (nI (lv i))) (by have h5 := (hm0.2.1 i (by omega)).1; rw [lvS_i] at h5; exact h5) ?_
    refine va_getsN hx hb hZ.2.2.2.2.2.2.2.2.1 hW.2.2 C.2.2.2.1 (va_Nw.use (nw_tab nw_407) (hZ.1 _ nw_407)) (fun _ h9 => h9) dX2_meet_16 ?_
    refine lv_iload_n hx hb dX2_meet_19 rfl (lv_at hl 1 rfl) ?_
    refine va_ti hx hb hZ.2.2.2.2.2.2.2.2.2.1 hW.2.2 (i := nI s9) (vp_in_nI (hs) (by decide)) (v := .int (lgF s9)) (by rw [nI_clamp (by omega)]) dX2_meet_20 ?_
    refine lv_iadd hx hb dX2_meet_21 ?_
    refine lv_istore_n (lv' := [(3, .int ((nI (lv i)) + (lgF s9))), (2, .int (nI i)), (1, .int (nI s9)), (0, .ref a1)]) hx hb dX2_meet_22 rfl hl (by decide) rfl (fun ls hl => ?_)
    refine lv_aload_n hx hb dX2_meet_23 rfl (lv_at hl 3 rfl) ?_
    refine cx_get C hW 0 0 rfl rfl (by decide) inX2 gw_124 rfl rfl dX2_meet_24 ?_
    refine lv_iload_n hx hb dX2_meet_27 rfl (lv_at hl 1 rfl) ?_
    refine lv_iconst (v := nI 1) hx hb dX2_meet_28 (by decide) ?_
    refine lv_bipush (v := nI 99) hx hb dX2_meet_29 (by decide) ?_
    refine lv_iload_n hx hb dX2_meet_31 rfl (lv_at hl 0 rfl) ?_
    refine cx_min C hml hl.1 gw_409 ⟨Nat.le_of_ble_eq_true rfl, Nat.le_of_ble_eq_true rfl, Nat.le_of_ble_eq_true rfl⟩ ⟨Nat.le_of_ble_eq_true rfl, Nat.le_of_ble_eq_true rfl⟩ dX2_meet_32 ?_
    refine cx_max C hml hl.1 gw_412 ⟨Nat.le_of_ble_eq_true rfl, Nat.le_of_ble_eq_true rfl, Nat.le_of_ble_eq_true rfl⟩ ⟨Nat.le_of_ble_eq_true rfl, Nat.le_of_ble_eq_true rfl⟩ dX2_meet_35 ?_
    refine r_eq (y := (nI (leafN s9 (lv i)))) (by rw [lg_by s9 hs]; exact clp_eq s9 hs (lv i) (by have := lv_at2 hm0 (show i < nh by omega); omega) (lv_at2 hm0 (show i < nh by omega)).1) ?_
    refine cx_ast C hW 1 0 (j := i) (W1 := [(a1, .inr (6, [.ref a2, .ref a3, .ref a4, .int (nI nh)])), (a2, .inl (aT 0, 6, .inl (upd f i ((nI (leafN s9 (lv i))))))), (a3, .inl (aT 0, 6, .inl q)), (a4, .inl (aT 0, 6, .inl fX))]) rfl rfl rfl (by have := hH.1; omega) (by decide) rfl dX2_meet_38 (fun H locs hW => ?_)
    refine lv_iload_n hx hb dX2_meet_39 rfl (lv_at hl 2 rfl) ?_
    refine r_ifneN hx hb (a := s9) (by omega) (tgt := 64) dX2_meet_40 (by decide) (fun c_40 => ?_) (fun c_40 => ?_)
    · refine lv_iinc (v := (nI (i + 1))) (lv' := [(2, .int (nI (i + 1))), (3, .int ((nI (lv i)) + (lgF s9))), (1, .int (nI s9)), (0, .ref a1)]) hx hb dX2_meet_64 hl (k := 1) rfl (nI_1 _) (by decide) rfl (fun ls hl => ?_)
      refine lv_goto (tgt := 2) hx hb dX2_meet_67 (by decide) ?_
      exact ih_2 ((i + 1), (upd f i ((nI (leafN s9 (lv i))))), q) _ _ _ (by first | omega | (dsimp only; omega)) ⟨_, rfl, lv_sub hl [0, 2, 3] rfl, hW, ⟨(by omega), hm0.mt (by omega) (fun k hk => mt_same hm0 (tadd_0 (Or.inl c_40)) hk)⟩⟩
    · refine lv_aload_n hx hb dX2_meet_43 rfl (lv_at hl 3 rfl) ?_
      refine cx_get C hW 0 1 rfl rfl (by decide) inX2 gw_126 rfl rfl dX2_meet_44 ?_
      refine lv_iload_n hx hb dX2_meet_47 rfl (lv_at hl 1 rfl) ?_
      refine cx_ald C hW 2 0 (j := i) rfl rfl rfl (by have := hH.1; omega) (by decide) dX2_meet_48 ?_
      refine r_eq (y := (nI (th i))) (by have h5 := (hm0.2.2.1 i (by omega)).1; rw [thS_i] at h5; exact h5) ?_
      refine lv_bipush (v := nI 9) hx hb dX2_meet_49 (by decide) ?_
      refine r_geN hx hb (a := th i) (b := 9) (by have := th_at2 hm0 (show i < nh by omega); omega) (by have := th_at2 hm0 (show i < nh by omega); omega) (tgt := 64) dX2_meet_51 (by decide) (fun c_51 => ?_) (fun c_51 => ?_)
      · refine lv_iinc (v := (nI (i + 1))) (lv' := [(2, .int (nI (i + 1))), (3, .int ((nI (lv i)) + (lgF s9))), (1, .int (nI s9)), (0, .ref a1)]) hx hb dX2_meet_64 hl (k := 1) rfl (nI_1 _) (by decide) rfl (fun ls hl => ?_)
        refine lv_goto (tgt := 2) hx hb dX2_meet_67 (by decide) ?_
        exact ih_2 ((i + 1), (upd f i ((nI (leafN s9 (lv i))))), q) _ _ _ (by first | omega | (dsimp only; omega)) ⟨_, rfl, lv_sub hl [0, 2, 3] rfl, hW, ⟨(by omega), hm0.mt (by omega) (fun k hk => mt_same hm0 (tadd_0 (Or.inr c_51)) hk)⟩⟩
      · refine lv_aload_n hx hb dX2_meet_54 rfl (lv_at hl 3 rfl) ?_
        refine cx_get C hW 0 1 rfl rfl (by decide) inX2 gw_126 rfl rfl dX2_meet_55 ?_
        refine lv_iload_n hx hb dX2_meet_58 rfl (lv_at hl 1 rfl) ?_
        refine lv_dup2_11 hx hb dX2_meet_59 rfl rfl ?_
        refine cx_ald C hW 2 0 (j := i) rfl rfl rfl (by have := hH.1; omega) (by decide) dX2_meet_60 ?_
        refine r_eq (y := (nI (th i))) (by have h5 := (hm0.2.2.1 i (by omega)).1; rw [thS_i] at h5; exact h5) ?_
        refine lv_iconst (v := nI 1) hx hb dX2_meet_61 (by decide) ?_
        refine r_iaddN hx hb (a := th i) (b := 1) dX2_meet_62 ?_
        refine cx_ast C hW 2 0 (j := i) (W1 := [(a1, .inr (6, [.ref a2, .ref a3, .ref a4, .int (nI nh)])), (a2, .inl (aT 0, 6, .inl (upd f i ((nI (leafN s9 (lv i))))))), (a3, .inl (aT 0, 6, .inl (upd q i ((nI (th i + 1)))))), (a4, .inl (aT 0, 6, .inl fX))]) rfl rfl rfl (by have := hH.1; omega) (by decide) rfl dX2_meet_63 (fun H locs hW => ?_)
        refine lv_iinc (v := (nI (i + 1))) (lv' := [(2, .int (nI (i + 1))), (3, .int ((nI (lv i)) + (lgF s9))), (1, .int (nI s9)), (0, .ref a1)]) hx hb dX2_meet_64 hl (k := 1) rfl (nI_1 _) (by decide) rfl (fun ls hl => ?_)
        refine lv_goto (tgt := 2) hx hb dX2_meet_67 (by decide) ?_
        exact ih_2 ((i + 1), (upd f i ((nI (leafN s9 (lv i))))), (upd q i ((nI (th i + 1))))) _ _ _ (by first | omega | (dsimp only; omega)) ⟨_, rfl, lv_sub hl [0, 2, 3] rfl, hW, ⟨(by omega), hm0.mt (by omega) (fun k hk => by rw [tadd_1 c_40 c_51]; rfl)⟩⟩
theorem dX2_ranksBefore_0 : decode cX2_ranksBefore 0 = .ok (.aload_n 0, 1) := by decide +kernel
theorem dX2_ranksBefore_1 : decode cX2_ranksBefore 1 = .ok (.getfield 9, 3) := by decide +kernel
theorem dX2_ranksBefore_4 : decode cX2_ranksBefore 4 = .ok (.iload_n 1, 1) := by decide +kernel
theorem dX2_ranksBefore_5 : decode cX2_ranksBefore 5 = .ok (.iaload, 1) := by decide +kernel
theorem dX2_ranksBefore_6 : decode cX2_ranksBefore 6 = .ok (.aload_n 0, 1) := by decide +kernel
theorem dX2_ranksBefore_7 : decode cX2_ranksBefore 7 = .ok (.getfield 9, 3) := by decide +kernel
theorem dX2_ranksBefore_10 : decode cX2_ranksBefore 10 = .ok (.iload_n 2, 1) := by decide +kernel
theorem dX2_ranksBefore_11 : decode cX2_ranksBefore 11 = .ok (.iaload, 1) := by decide +kernel
theorem dX2_ranksBefore_12 : decode cX2_ranksBefore 12 = .ok (.if_icmp .eq 24, 3) := by decide +kernel
theorem dX2_ranksBefore_15 : decode cX2_ranksBefore 15 = .ok (.aload_n 0, 1) := by decide +kernel
theorem dX2_ranksBefore_16 : decode cX2_ranksBefore 16 = .ok (.getfield 9, 3) := by decide +kernel
theorem dX2_ranksBefore_19 : decode cX2_ranksBefore 19 = .ok (.iload_n 1, 1) := by decide +kernel
theorem dX2_ranksBefore_20 : decode cX2_ranksBefore 20 = .ok (.iaload, 1) := by decide +kernel
theorem dX2_ranksBefore_21 : decode cX2_ranksBefore 21 = .ok (.aload_n 0, 1) := by decide +kernel
theorem dX2_ranksBefore_22 : decode cX2_ranksBefore 22 = .ok (.getfield 9, 3) := by decide +kernel
theorem dX2_ranksBefore_25 : decode cX2_ranksBefore 25 = .ok (.iload_n 2, 1) := by decide +kernel
theorem dX2_ranksBefore_26 : decode cX2_ranksBefore 26 = .ok (.iaload, 1) := by decide +kernel
theorem dX2_ranksBefore_27 : decode cX2_ranksBefore 27 = .ok (.if_icmp .le 7, 3) := by decide +kernel
theorem dX2_ranksBefore_30 : decode cX2_ranksBefore 30 = .ok (.iconst 1, 1) := by decide +kernel
theorem dX2_ranksBefore_31 : decode cX2_ranksBefore 31 = .ok (.goto 4, 3) := by decide +kernel
theorem dX2_ranksBefore_34 : decode cX2_ranksBefore 34 = .ok (.iconst 0, 1) := by decide +kernel
theorem dX2_ranksBefore_35 : decode cX2_ranksBefore 35 = .ok (.ireturn, 1) := by decide +kernel
theorem dX2_ranksBefore_36 : decode cX2_ranksBefore 36 = .ok (.aload_n 0, 1) := by decide +kernel
theorem dX2_ranksBefore_37 : decode cX2_ranksBefore 37 = .ok (.getfield 15, 3) := by decide +kernel
theorem dX2_ranksBefore_40 : decode cX2_ranksBefore 40 = .ok (.iload_n 1, 1) := by decide +kernel
theorem dX2_ranksBefore_41 : decode cX2_ranksBefore 41 = .ok (.iaload, 1) := by decide +kernel
theorem dX2_ranksBefore_42 : decode cX2_ranksBefore 42 = .ok (.aload_n 0, 1) := by decide +kernel
theorem dX2_ranksBefore_43 : decode cX2_ranksBefore 43 = .ok (.getfield 15, 3) := by decide +kernel
theorem dX2_ranksBefore_46 : decode cX2_ranksBefore 46 = .ok (.iload_n 2, 1) := by decide +kernel
theorem dX2_ranksBefore_47 : decode cX2_ranksBefore 47 = .ok (.iaload, 1) := by decide +kernel
theorem dX2_ranksBefore_48 : decode cX2_ranksBefore 48 = .ok (.if_icmp .eq 24, 3) := by decide +kernel
theorem dX2_ranksBefore_51 : decode cX2_ranksBefore 51 = .ok (.aload_n 0, 1) := by decide +kernel
theorem dX2_ranksBefore_52 : decode cX2_ranksBefore 52 = .ok (.getfield 15, 3) := by decide +kernel
theorem dX2_ranksBefore_55 : decode cX2_ranksBefore 55 = .ok (.iload_n 1, 1) := by decide +kernel
theorem dX2_ranksBefore_56 : decode cX2_ranksBefore 56 = .ok (.iaload, 1) := by decide +kernel
theorem dX2_ranksBefore_57 : decode cX2_ranksBefore 57 = .ok (.aload_n 0, 1) := by decide +kernel
theorem dX2_ranksBefore_58 : decode cX2_ranksBefore 58 = .ok (.getfield 15, 3) := by decide +kernel
theorem dX2_ranksBefore_61 : decode cX2_ranksBefore 61 = .ok (.iload_n 2, 1) := by decide +kernel
theorem dX2_ranksBefore_62 : decode cX2_ranksBefore 62 = .ok (.iaload, 1) := by decide +kernel
theorem dX2_ranksBefore_63 : decode cX2_ranksBefore 63 = .ok (.if_icmp .le 7, 3) := by decide +kernel
theorem dX2_ranksBefore_66 : decode cX2_ranksBefore 66 = .ok (.iconst 1, 1) := by decide +kernel
theorem dX2_ranksBefore_67 : decode cX2_ranksBefore 67 = .ok (.goto 4, 3) := by decide +kernel
theorem dX2_ranksBefore_70 : decode cX2_ranksBefore 70 = .ok (.iconst 0, 1) := by decide +kernel
theorem dX2_ranksBefore_71 : decode cX2_ranksBefore 71 = .ok (.ireturn, 1) := by decide +kernel
theorem dX2_ranksBefore_72 : decode cX2_ranksBefore 72 = .ok (.iload_n 1, 1) := by decide +kernel
theorem dX2_ranksBefore_73 : decode cX2_ranksBefore 73 = .ok (.iload_n 2, 1) := by decide +kernel
theorem dX2_ranksBefore_74 : decode cX2_ranksBefore 74 = .ok (.if_icmp .ge 7, 3) := by decide +kernel
theorem dX2_ranksBefore_77 : decode cX2_ranksBefore 77 = .ok (.iconst 1, 1) := by decide +kernel
theorem dX2_ranksBefore_78 : decode cX2_ranksBefore 78 = .ok (.goto 4, 3) := by decide +kernel
theorem dX2_ranksBefore_81 : decode cX2_ranksBefore 81 = .ok (.iconst 0, 1) := by decide +kernel
theorem dX2_ranksBefore_82 : decode cX2_ranksBefore 82 = .ok (.ireturn, 1) := by decide +kernel
set_option maxHeartbeats 2000000 in
set_option maxRecDepth 20000 in
theorem k_X2_ranksBefore (l : Launch) (hfl : l.stackTraces = false) (D : va_G) (aT : Nat → ClassId) (a1 : Nat) (a2 : Nat) (a3 : Nat) (a4 : Nat) (fL : Nat → Int32) (fT : Nat → Int32) (fX : Nat → Int32) (nh : Nat) (lv : Nat → Nat) (th : Nat → Nat) (ta : Nat → Nat) (hH : HeC fL fT fX nh lv th ta) (a : Nat) (b : Nat) (ha : a < nh) (hb9 : b < nh) : CxG l yX2_ranksBefore cX2_ranksBefore 3 (some (.boolean)) 0 0 0 0 D aT [.ref a1, .int (nI a), .int (nI b)] [(a1, .inr (6, [.ref a2, .ref a3, .ref a4, .int (nI nh)])), (a2, .inl (aT 0, 6, .inl fL)), (a3, .inl (aT 0, 6, .inl fT)), (a4, .inl (aT 0, 6, .inl fX))] (qI D aT (fun r W1 => r = bI (hAh lv th a b) ∧ W1 = [(a1, .inr (6, [.ref a2, .ref a3, .ref a4, .int (nI nh)])), (a2, .inl (aT 0, 6, .inl fL)), (a3, .inl (aT 0, 6, .inl fT)), (a4, .inl (aT 0, 6, .inl fX))])) (fun _ _ => False) := by
  refine CxG.of RX2 (by decide +kernel) rfl (Nat.le_of_ble_eq_true rfl) ?_
  intro p e s m below meth c A ls C hml hl hA hr hlocks hex hnm hZ hW
  have hl : lv_has ls 3 [(0, .ref a1), (1, .int (nI a)), (2, .int (nI b))] := hl
  have hx := C.1
  have hb := C.2.1
  refine lv_aload_n hx hb dX2_ranksBefore_0 rfl (lv_at hl 0 rfl) ?_
  refine cx_get C hW 0 0 rfl rfl (by decide) inX2 gw_124 rfl rfl dX2_ranksBefore_1 ?_
  refine lv_iload_n hx hb dX2_ranksBefore_4 rfl (lv_at hl 1 rfl) ?_
  refine cx_ald C hW 1 0 (j := a) rfl rfl rfl (by have := (hH.2.1 a ha).2.2; have := (hH.2.1 b hb9).2.2; have := (hH.2.2.1 a ha).2; have := (hH.2.2.1 b hb9).2; have := hH.1; omega) (by decide) dX2_ranksBefore_5 ?_
  refine r_eq (y := (nI (lv a))) ((hH.2.1 a (by first | assumption | omega)).1) ?_
  refine lv_aload_n hx hb dX2_ranksBefore_6 rfl (lv_at hl 0 rfl) ?_
  refine cx_get C hW 0 0 rfl rfl (by decide) inX2 gw_124 rfl rfl dX2_ranksBefore_7 ?_
  refine lv_iload_n hx hb dX2_ranksBefore_10 rfl (lv_at hl 2 rfl) ?_
  refine cx_ald C hW 1 0 (j := b) rfl rfl rfl (by have := (hH.2.1 a ha).2.2; have := (hH.2.1 b hb9).2.2; have := (hH.2.2.1 a ha).2; have := (hH.2.2.1 b hb9).2; have := hH.1; omega) (by decide) dX2_ranksBefore_11 ?_
  refine r_eq (y := (nI (lv b))) ((hH.2.1 b (by first | assumption | omega)).1) ?_
  refine r_eqN hx hb (a := lv a) (b := lv b) (by have := (hH.2.1 a ha).2.2; have := (hH.2.1 b hb9).2.2; have := (hH.2.2.1 a ha).2; have := (hH.2.2.1 b hb9).2; have := hH.1; omega) (by have := (hH.2.1 a ha).2.2; have := (hH.2.1 b hb9).2.2; have := (hH.2.2.1 a ha).2; have := (hH.2.2.1 b hb9).2; have := hH.1; omega) (tgt := 36) dX2_ranksBefore_12 (by decide) (fun c_12 => ?_) (fun c_12 => ?_)
  · refine lv_aload_n hx hb dX2_ranksBefore_36 rfl (lv_at hl 0 rfl) ?_
    refine cx_get C hW 0 1 rfl rfl (by decide) inX2 gw_126 rfl rfl dX2_ranksBefore_37 ?_
    refine lv_iload_n hx hb dX2_ranksBefore_40 rfl (lv_at hl 1 rfl) ?_
    refine cx_ald C hW 2 0 (j := a) rfl rfl rfl (by have := (hH.2.1 a ha).2.2; have := (hH.2.1 b hb9).2.2; have := (hH.2.2.1 a ha).2; have := (hH.2.2.1 b hb9).2; have := hH.1; omega) (by decide) dX2_ranksBefore_41 ?_
    refine r_eq (y := (nI (th a))) ((hH.2.2.1 a (by first | assumption | omega)).1) ?_
    refine lv_aload_n hx hb dX2_ranksBefore_42 rfl (lv_at hl 0 rfl) ?_
    refine cx_get C hW 0 1 rfl rfl (by decide) inX2 gw_126 rfl rfl dX2_ranksBefore_43 ?_
    refine lv_iload_n hx hb dX2_ranksBefore_46 rfl (lv_at hl 2 rfl) ?_
    refine cx_ald C hW 2 0 (j := b) rfl rfl rfl (by have := (hH.2.1 a ha).2.2; have := (hH.2.1 b hb9).2.2; have := (hH.2.2.1 a ha).2; have := (hH.2.2.1 b hb9).2; have := hH.1; omega) (by decide) dX2_ranksBefore_47 ?_
    refine r_eq (y := (nI (th b))) ((hH.2.2.1 b (by first | assumption | omega)).1) ?_
    refine r_eqN hx hb (a := th a) (b := th b) (by have := (hH.2.1 a ha).2.2; have := (hH.2.1 b hb9).2.2; have := (hH.2.2.1 a ha).2; have := (hH.2.2.1 b hb9).2; have := hH.1; omega) (by have := (hH.2.1 a ha).2.2; have := (hH.2.1 b hb9).2.2; have := (hH.2.2.1 a ha).2; have := (hH.2.2.1 b hb9).2; have := hH.1; omega) (tgt := 72) dX2_ranksBefore_48 (by decide) (fun c_48 => ?_) (fun c_48 => ?_)
    · refine lv_iload_n hx hb dX2_ranksBefore_72 rfl (lv_at hl 1 rfl) ?_
      refine lv_iload_n hx hb dX2_ranksBefore_73 rfl (lv_at hl 2 rfl) ?_
      refine r_geN hx hb (a := a) (b := b) (by have := (hH.2.1 a ha).2.2; have := (hH.2.1 b hb9).2.2; have := (hH.2.2.1 a ha).2; have := (hH.2.2.1 b hb9).2; have := hH.1; omega) (by have := (hH.2.1 a ha).2.2; have := (hH.2.1 b hb9).2.2; have := (hH.2.2.1 a ha).2; have := (hH.2.2.1 b hb9).2; have := hH.1; omega) (tgt := 81) dX2_ranksBefore_74 (by decide) (fun c_74 => ?_) (fun c_74 => ?_)
      · refine lv_iconst (v := nI 0) hx hb dX2_ranksBefore_81 (by decide) ?_
        exact cx_iret C hr hlocks (by decide) hW ⟨Nat.le_of_ble_eq_true rfl, Nat.le_of_ble_eq_true rfl⟩ (⟨by unfold hAh; rw [decide_eq_false (by omega)]; rfl, rfl⟩) dX2_ranksBefore_82
      · refine lv_iconst (v := nI 1) hx hb dX2_ranksBefore_77 (by decide) ?_
        refine lv_goto (tgt := 82) hx hb dX2_ranksBefore_78 (by decide) ?_
        exact cx_iret C hr hlocks (by decide) hW ⟨Nat.le_of_ble_eq_true rfl, Nat.le_of_ble_eq_true rfl⟩ (⟨by unfold hAh; rw [decide_eq_true (by omega)]; rfl, rfl⟩) dX2_ranksBefore_82
    · refine lv_aload_n hx hb dX2_ranksBefore_51 rfl (lv_at hl 0 rfl) ?_
      refine cx_get C hW 0 1 rfl rfl (by decide) inX2 gw_126 rfl rfl dX2_ranksBefore_52 ?_
      refine lv_iload_n hx hb dX2_ranksBefore_55 rfl (lv_at hl 1 rfl) ?_
      refine cx_ald C hW 2 0 (j := a) rfl rfl rfl (by have := (hH.2.1 a ha).2.2; have := (hH.2.1 b hb9).2.2; have := (hH.2.2.1 a ha).2; have := (hH.2.2.1 b hb9).2; have := hH.1; omega) (by decide) dX2_ranksBefore_56 ?_
      refine r_eq (y := (nI (th a))) ((hH.2.2.1 a (by first | assumption | omega)).1) ?_
      refine lv_aload_n hx hb dX2_ranksBefore_57 rfl (lv_at hl 0 rfl) ?_
      refine cx_get C hW 0 1 rfl rfl (by decide) inX2 gw_126 rfl rfl dX2_ranksBefore_58 ?_
      refine lv_iload_n hx hb dX2_ranksBefore_61 rfl (lv_at hl 2 rfl) ?_
      refine cx_ald C hW 2 0 (j := b) rfl rfl rfl (by have := (hH.2.1 a ha).2.2; have := (hH.2.1 b hb9).2.2; have := (hH.2.2.1 a ha).2; have := (hH.2.2.1 b hb9).2; have := hH.1; omega) (by decide) dX2_ranksBefore_62 ?_
      refine r_eq (y := (nI (th b))) ((hH.2.2.1 b (by first | assumption | omega)).1) ?_
      refine r_leN hx hb (a := th a) (b := th b) (by have := (hH.2.1 a ha).2.2; have := (hH.2.1 b hb9).2.2; have := (hH.2.2.1 a ha).2; have := (hH.2.2.1 b hb9).2; have := hH.1; omega) (by have := (hH.2.1 a ha).2.2; have := (hH.2.1 b hb9).2.2; have := (hH.2.2.1 a ha).2; have := (hH.2.2.1 b hb9).2; have := hH.1; omega) (tgt := 70) dX2_ranksBefore_63 (by decide) (fun c_63 => ?_) (fun c_63 => ?_)
      · refine lv_iconst (v := nI 0) hx hb dX2_ranksBefore_70 (by decide) ?_
        exact cx_iret C hr hlocks (by decide) hW ⟨Nat.le_of_ble_eq_true rfl, Nat.le_of_ble_eq_true rfl⟩ (⟨by unfold hAh; rw [decide_eq_false (by omega)]; rfl, rfl⟩) dX2_ranksBefore_71
      · refine lv_iconst (v := nI 1) hx hb dX2_ranksBefore_66 (by decide) ?_
        refine lv_goto (tgt := 71) hx hb dX2_ranksBefore_67 (by decide) ?_
        exact cx_iret C hr hlocks (by decide) hW ⟨Nat.le_of_ble_eq_true rfl, Nat.le_of_ble_eq_true rfl⟩ (⟨by unfold hAh; rw [decide_eq_true (by omega)]; rfl, rfl⟩) dX2_ranksBefore_71
  · refine lv_aload_n hx hb dX2_ranksBefore_15 rfl (lv_at hl 0 rfl) ?_
    refine cx_get C hW 0 0 rfl rfl (by decide) inX2 gw_124 rfl rfl dX2_ranksBefore_16 ?_
    refine lv_iload_n hx hb dX2_ranksBefore_19 rfl (lv_at hl 1 rfl) ?_
    refine cx_ald C hW 1 0 (j := a) rfl rfl rfl (by have := (hH.2.1 a ha).2.2; have := (hH.2.1 b hb9).2.2; have := (hH.2.2.1 a ha).2; have := (hH.2.2.1 b hb9).2; have := hH.1; omega) (by decide) dX2_ranksBefore_20 ?_
    refine r_eq (y := (nI (lv a))) ((hH.2.1 a (by first | assumption | omega)).1) ?_
    refine lv_aload_n hx hb dX2_ranksBefore_21 rfl (lv_at hl 0 rfl) ?_
    refine cx_get C hW 0 0 rfl rfl (by decide) inX2 gw_124 rfl rfl dX2_ranksBefore_22 ?_
    refine lv_iload_n hx hb dX2_ranksBefore_25 rfl (lv_at hl 2 rfl) ?_
    refine cx_ald C hW 1 0 (j := b) rfl rfl rfl (by have := (hH.2.1 a ha).2.2; have := (hH.2.1 b hb9).2.2; have := (hH.2.2.1 a ha).2; have := (hH.2.2.1 b hb9).2; have := hH.1; omega) (by decide) dX2_ranksBefore_26 ?_
    refine r_eq (y := (nI (lv b))) ((hH.2.1 b (by first | assumption | omega)).1) ?_
    refine r_leN hx hb (a := lv a) (b := lv b) (by have := (hH.2.1 a ha).2.2; have := (hH.2.1 b hb9).2.2; have := (hH.2.2.1 a ha).2; have := (hH.2.2.1 b hb9).2; have := hH.1; omega) (by have := (hH.2.1 a ha).2.2; have := (hH.2.1 b hb9).2.2; have := (hH.2.2.1 a ha).2; have := (hH.2.2.1 b hb9).2; have := hH.1; omega) (tgt := 34) dX2_ranksBefore_27 (by decide) (fun c_27 => ?_) (fun c_27 => ?_)
    · refine lv_iconst (v := nI 0) hx hb dX2_ranksBefore_34 (by decide) ?_
      exact cx_iret C hr hlocks (by decide) hW ⟨Nat.le_of_ble_eq_true rfl, Nat.le_of_ble_eq_true rfl⟩ (⟨by unfold hAh; rw [decide_eq_false (by omega)]; rfl, rfl⟩) dX2_ranksBefore_35
    · refine lv_iconst (v := nI 1) hx hb dX2_ranksBefore_30 (by decide) ?_
      refine lv_goto (tgt := 35) hx hb dX2_ranksBefore_31 (by decide) ?_
      exact cx_iret C hr hlocks (by decide) hW ⟨Nat.le_of_ble_eq_true rfl, Nat.le_of_ble_eq_true rfl⟩ (⟨by unfold hAh; rw [decide_eq_true (by omega)]; rfl, rfl⟩) dX2_ranksBefore_35
theorem dX2_rankOf_0 : decode cX2_rankOf 0 = .ok (.iconst 0, 1) := by decide +kernel
theorem dX2_rankOf_1 : decode cX2_rankOf 1 = .ok (.istore_n 2, 1) := by decide +kernel
theorem dX2_rankOf_2 : decode cX2_rankOf 2 = .ok (.iconst 0, 1) := by decide +kernel
theorem dX2_rankOf_3 : decode cX2_rankOf 3 = .ok (.istore_n 3, 1) := by decide +kernel
theorem dX2_rankOf_4 : decode cX2_rankOf 4 = .ok (.iload_n 3, 1) := by decide +kernel
theorem dX2_rankOf_5 : decode cX2_rankOf 5 = .ok (.aload_n 0, 1) := by decide +kernel
theorem dX2_rankOf_6 : decode cX2_rankOf 6 = .ok (.getfield 21, 3) := by decide +kernel
theorem dX2_rankOf_9 : decode cX2_rankOf 9 = .ok (.if_icmp .ge 21, 3) := by decide +kernel
theorem dX2_rankOf_12 : decode cX2_rankOf 12 = .ok (.aload_n 0, 1) := by decide +kernel
theorem dX2_rankOf_13 : decode cX2_rankOf 13 = .ok (.iload_n 3, 1) := by decide +kernel
theorem dX2_rankOf_14 : decode cX2_rankOf 14 = .ok (.iload_n 1, 1) := by decide +kernel
theorem dX2_rankOf_15 : decode cX2_rankOf 15 = .ok (.invokevirtual 61, 3) := by decide +kernel
theorem dX2_rankOf_18 : decode cX2_rankOf 18 = .ok (.ifCond .eq 6, 3) := by decide +kernel
theorem dX2_rankOf_21 : decode cX2_rankOf 21 = .ok (.iinc 2 1, 3) := by decide +kernel
theorem dX2_rankOf_24 : decode cX2_rankOf 24 = .ok (.iinc 3 1, 3) := by decide +kernel
theorem dX2_rankOf_27 : decode cX2_rankOf 27 = .ok (.goto (-23), 3) := by decide +kernel
theorem dX2_rankOf_30 : decode cX2_rankOf 30 = .ok (.iload_n 2, 1) := by decide +kernel
theorem dX2_rankOf_31 : decode cX2_rankOf 31 = .ok (.ireturn, 1) := by decide +kernel
theorem gV_X2_X2_ranksBefore_61 : GoodIn gw (wsV RX2 61 RX2 yX2_ranksBefore (Cond.code yX2_ranksBefore cX2_ranksBefore 3 (some .boolean) :: gw)) := gdV gw_873 gw_874 gw_875 gw_69 gw_876
theorem hV_X2_ranksBefore : yX2_ranksBefore.cls = RX2 ∧ yX2_ranksBefore.cls ≠ "java/lang/invoke/MethodHandle" ∧ yX2_ranksBefore.cls ≠ "java/lang/invoke/VarHandle" ∧ (parseMethodDescriptor yX2_ranksBefore.desc).map (fun d => d.parameters.length) = some 2 := ⟨rfl, by decide +kernel, by decide +kernel, by decide +kernel⟩
set_option maxHeartbeats 2000000 in
set_option maxRecDepth 20000 in
theorem k_X2_rankOf (l : Launch) (hfl : l.stackTraces = false) (D : va_G) (aT : Nat → ClassId) (a1 : Nat) (a2 : Nat) (a3 : Nat) (a4 : Nat) (fL : Nat → Int32) (fT : Nat → Int32) (fX : Nat → Int32) (nh : Nat) (lv : Nat → Nat) (th : Nat → Nat) (ta : Nat → Nat) (hH : HeC fL fT fX nh lv th ta) (k : Nat) (hk : k < nh) : CxG l yX2_rankOf cX2_rankOf 4 (some (.int)) 1 0 0 22 D aT [.ref a1, .int (nI k)] [(a1, .inr (6, [.ref a2, .ref a3, .ref a4, .int (nI nh)])), (a2, .inl (aT 0, 6, .inl fL)), (a3, .inl (aT 0, 6, .inl fT)), (a4, .inl (aT 0, 6, .inl fX))] (qI D aT (fun r W1 => r = nI (rkN (hAh lv th) k nh) ∧ W1 = [(a1, .inr (6, [.ref a2, .ref a3, .ref a4, .int (nI nh)])), (a2, .inl (aT 0, 6, .inl fL)), (a3, .inl (aT 0, 6, .inl fT)), (a4, .inl (aT 0, 6, .inl fX))])) (fun _ _ => False) := by
  refine CxG.of RX2 (by decide +kernel) rfl (Nat.le_of_ble_eq_true rfl) ?_
  intro p e s m below meth c A ls C hml hl hA hr hlocks hex hnm hZ hW
  have hl : lv_has ls 4 [(0, .ref a1), (1, .int (nI k))] := hl
  have hx := C.1
  have hb := C.2.1
  refine lv_iconst (v := nI 0) hx hb dX2_rankOf_0 (by decide) ?_
  refine lv_istore_n (lv' := [(2, .int (nI 0)), (0, .ref a1), (1, .int (nI k))]) hx hb dX2_rankOf_1 rfl hl (by decide) rfl (fun ls hl => ?_)
  refine lv_iconst (v := nI 0) hx hb dX2_rankOf_2 (by decide) ?_
  refine lv_istore_n (lv' := [(3, .int (nI 0)), (2, .int (nI 0)), (0, .ref a1), (1, .int (nI k))]) hx hb dX2_rankOf_3 rfl hl (by decide) rfl (fun ls hl => ?_)
  refine W_loopH (σ := Nat) (fun z_ => nh - z_) (fun z_ H locs g => ∃ ls, g = F0 m 4 ls [] ∧ lv_has ls 4 [(3, .int (nI z_)), (2, .int (nI (rkN (hAh lv th) k z_))), (1, .int (nI k)), (0, .ref a1)] ∧ CxB D [(a1, .inr (6, [.ref a2, .ref a3, .ref a4, .int (nI nh)])), (a2, .inl (aT 0, 6, .inl fL)), (a3, .inl (aT 0, 6, .inl fT)), (a4, .inl (aT 0, 6, .inl fX))] A s.heap H locs ∧ z_ ≤ nh) ?_ 0 _ ⟨_, rfl, lv_sub hl [0, 1, 3, 2] rfl, hW, Nat.zero_le _⟩
  clear hW hl
  rintro i H locs g ⟨ls, rfl, hl, hW, hi⟩ ih_4
  refine lv_iload_n hx hb dX2_rankOf_4 rfl (lv_at hl 0 rfl) ?_
  refine lv_aload_n hx hb dX2_rankOf_5 rfl (lv_at hl 3 rfl) ?_
  refine cx_get C hW 0 3 rfl rfl (by decide) inX2 gw_129 rfl rfl dX2_rankOf_6 ?_
  refine r_geN hx hb (a := i) (b := nh) (by have := hH.1; omega) (by have := hH.1; omega) (tgt := 30) dX2_rankOf_9 (by decide) (fun c_9 => ?_) (fun c_9 => ?_)
  · refine lv_iload_n hx hb dX2_rankOf_30 rfl (lv_at hl 1 rfl) ?_
    exact cx_iret C hr hlocks rfl hW ⟨Nat.le_of_ble_eq_true rfl, Nat.le_of_ble_eq_true rfl⟩ (⟨by rw [show i = nh by omega], rfl⟩) dX2_rankOf_31
  · refine lv_aload_n hx hb dX2_rankOf_12 rfl (lv_at hl 3 rfl) ?_
    refine lv_iload_n hx hb dX2_rankOf_13 rfl (lv_at hl 0 rfl) ?_
    refine lv_iload_n hx hb dX2_rankOf_14 rfl (lv_at hl 2 rfl) ?_
    refine cx_calli (Wr := []) (cx_runV C hml hl.1 hZ hW hA (As := [.int (nI i), .int (nI k)]) (rest := []) (k_X2_ranksBefore l hfl D aT a1 a2 a3 a4 fL fT fX nh lv th ta hH i k (show i < nh by omega) hk) gV_X2_X2_ranksBefore_61 hV_X2_ranksBefore rfl ⟨Nat.le_of_ble_eq_true rfl, Nat.le_of_ble_eq_true rfl⟩ ⟨Nat.le_of_ble_eq_true rfl, Nat.le_of_ble_eq_true rfl⟩ [0, 1, 2, 3] rfl (by decide) 0 6 rfl rfl rfl rfl (Nat.le_of_ble_eq_true rfl) dX2_rankOf_15) hW hA [0, 1, 2, 3] [] rfl rfl (by decide) (by decide) (fun _ _ _ _ _ _ h9 => h9.elim) (fun r_15 W_15 H locs hq hW => ?_)
    obtain ⟨rfl, rfl⟩ := hq
    have hW : CxB D [(a1, .inr (6, [.ref a2, .ref a3, .ref a4, .int (nI nh)])), (a2, .inl (aT 0, 6, .inl fL)), (a3, .inl (aT 0, 6, .inl fT)), (a4, .inl (aT 0, 6, .inl fX))] A s.heap H _ := hW
    refine r_bI_eq hx hb (b := (hAh lv th i k)) (tgt := 24) dX2_rankOf_18 (by decide) (fun c_18 => ?_) (fun c_18 => ?_)
    · have hl : lv_has ls 4 [(3, .int (nI i)), (2, .int (nI (rkN (hAh lv th) k (i + 1)))), (1, .int (nI k)), (0, .ref a1)] := by
        rw [show nI (rkN (hAh lv th) k (i + 1)) = nI (rkN (hAh lv th) k i) from congrArg nI (by rw [rkN, if_neg (by rw [c_18]; decide), Nat.add_zero])]
        exact hl
      refine lv_iinc (v := (nI (i + 1))) (lv' := [(3, .int (nI (i + 1))), (2, .int (nI (rkN (hAh lv th) k (i + 1)))), (1, .int (nI k)), (0, .ref a1)]) hx hb dX2_rankOf_24 hl (k := 0) rfl (nI_1 _) (by decide) rfl (fun ls hl => ?_)
      refine lv_goto (tgt := 4) hx hb dX2_rankOf_27 (by decide) ?_
      exact ih_4 (i + 1) _ _ _ (by first | omega | (dsimp only; omega)) ⟨_, rfl, lv_sub hl [0, 1, 2, 3] rfl, hW, (by omega)⟩
    · refine lv_iinc (v := (nI ((rkN (hAh lv th) k i) + 1))) (lv' := [(2, .int (nI ((rkN (hAh lv th) k i) + 1))), (3, .int (nI i)), (1, .int (nI k)), (0, .ref a1)]) hx hb dX2_rankOf_21 hl (k := 1) rfl (nI_1 _) (by decide) rfl (fun ls hl => ?_)
      have hl : lv_has ls 4 [(2, .int (nI (rkN (hAh lv th) k (i + 1)))), (3, .int (nI i)), (1, .int (nI k)), (0, .ref a1)] := by
        rw [show nI (rkN (hAh lv th) k (i + 1)) = nI ((rkN (hAh lv th) k i) + 1) from congrArg nI (by rw [rkN, if_pos c_18])]
        exact hl
      refine lv_iinc (v := (nI (i + 1))) (lv' := [(3, .int (nI (i + 1))), (2, .int (nI (rkN (hAh lv th) k (i + 1)))), (1, .int (nI k)), (0, .ref a1)]) hx hb dX2_rankOf_24 hl (k := 1) rfl (nI_1 _) (by decide) rfl (fun ls hl => ?_)
      refine lv_goto (tgt := 4) hx hb dX2_rankOf_27 (by decide) ?_
      exact ih_4 (i + 1) _ _ _ (by first | omega | (dsimp only; omega)) ⟨_, rfl, lv_sub hl [0, 1, 2, 3] rfl, hW, (by omega)⟩
theorem dX2_atRank_0 : decode cX2_atRank 0 = .ok (.iconst 0, 1) := by decide +kernel
theorem dX2_atRank_1 : decode cX2_atRank 1 = .ok (.istore_n 2, 1) := by decide +kernel
theorem dX2_atRank_2 : decode cX2_atRank 2 = .ok (.iconst 0, 1) := by decide +kernel
theorem dX2_atRank_3 : decode cX2_atRank 3 = .ok (.istore_n 3, 1) := by decide +kernel
theorem dX2_atRank_4 : decode cX2_atRank 4 = .ok (.iload_n 3, 1) := by decide +kernel
theorem dX2_atRank_5 : decode cX2_atRank 5 = .ok (.aload_n 0, 1) := by decide +kernel
theorem dX2_atRank_6 : decode cX2_atRank 6 = .ok (.getfield 21, 3) := by decide +kernel
theorem dX2_atRank_9 : decode cX2_atRank 9 = .ok (.if_icmp .ge 20, 3) := by decide +kernel
theorem dX2_atRank_12 : decode cX2_atRank 12 = .ok (.aload_n 0, 1) := by decide +kernel
theorem dX2_atRank_13 : decode cX2_atRank 13 = .ok (.iload_n 3, 1) := by decide +kernel
theorem dX2_atRank_14 : decode cX2_atRank 14 = .ok (.invokevirtual 58, 3) := by decide +kernel
theorem dX2_atRank_17 : decode cX2_atRank 17 = .ok (.iload_n 1, 1) := by decide +kernel
theorem dX2_atRank_18 : decode cX2_atRank 18 = .ok (.if_icmp .ne 5, 3) := by decide +kernel
theorem dX2_atRank_21 : decode cX2_atRank 21 = .ok (.iload_n 3, 1) := by decide +kernel
theorem dX2_atRank_22 : decode cX2_atRank 22 = .ok (.istore_n 2, 1) := by decide +kernel
theorem dX2_atRank_23 : decode cX2_atRank 23 = .ok (.iinc 3 1, 3) := by decide +kernel
theorem dX2_atRank_26 : decode cX2_atRank 26 = .ok (.goto (-22), 3) := by decide +kernel
theorem dX2_atRank_29 : decode cX2_atRank 29 = .ok (.iload_n 2, 1) := by decide +kernel
theorem dX2_atRank_30 : decode cX2_atRank 30 = .ok (.ireturn, 1) := by decide +kernel
theorem gV_X2_X2_rankOf_58 : GoodIn gw (wsV RX2 58 RX2 yX2_rankOf (Cond.code yX2_rankOf cX2_rankOf 4 (some .int) :: gw)) := gdV gw_869 gw_871 gw_7 gw_69 gw_872
theorem hV_X2_rankOf : yX2_rankOf.cls = RX2 ∧ yX2_rankOf.cls ≠ "java/lang/invoke/MethodHandle" ∧ yX2_rankOf.cls ≠ "java/lang/invoke/VarHandle" ∧ (parseMethodDescriptor yX2_rankOf.desc).map (fun d => d.parameters.length) = some 1 := ⟨rfl, by decide +kernel, by decide +kernel, by decide +kernel⟩
set_option maxHeartbeats 2000000 in
set_option maxRecDepth 20000 in
theorem k_X2_atRank (l : Launch) (hfl : l.stackTraces = false) (D : va_G) (aT : Nat → ClassId) (a1 : Nat) (a2 : Nat) (a3 : Nat) (a4 : Nat) (fL : Nat → Int32) (fT : Nat → Int32) (fX : Nat → Int32) (nh : Nat) (lv : Nat → Nat) (th : Nat → Nat) (ta : Nat → Nat) (hH : HeC fL fT fX nh lv th ta) (x : Int32) : CxG l yX2_atRank cX2_atRank 4 (some (.int)) 2 0 0 45 D aT [.ref a1, .int x] [(a1, .inr (6, [.ref a2, .ref a3, .ref a4, .int (nI nh)])), (a2, .inl (aT 0, 6, .inl fL)), (a3, .inl (aT 0, 6, .inl fT)), (a4, .inl (aT 0, 6, .inl fX))] (qI D aT (fun r W1 => r = nI (atR (hAh lv th) nh x nh) ∧ W1 = [(a1, .inr (6, [.ref a2, .ref a3, .ref a4, .int (nI nh)])), (a2, .inl (aT 0, 6, .inl fL)), (a3, .inl (aT 0, 6, .inl fT)), (a4, .inl (aT 0, 6, .inl fX))])) (fun _ _ => False) := by
  refine CxG.of RX2 (by decide +kernel) rfl (Nat.le_of_ble_eq_true rfl) ?_
  intro p e s m below meth c A ls C hml hl hA hr hlocks hex hnm hZ hW
  have hl : lv_has ls 4 [(0, .ref a1), (1, .int x)] := hl
  have hx := C.1
  have hb := C.2.1
  refine lv_iconst (v := nI 0) hx hb dX2_atRank_0 (by decide) ?_
  refine lv_istore_n (lv' := [(2, .int (nI 0)), (0, .ref a1), (1, .int x)]) hx hb dX2_atRank_1 rfl hl (by decide) rfl (fun ls hl => ?_)
  refine lv_iconst (v := nI 0) hx hb dX2_atRank_2 (by decide) ?_
  refine lv_istore_n (lv' := [(3, .int (nI 0)), (2, .int (nI 0)), (0, .ref a1), (1, .int x)]) hx hb dX2_atRank_3 rfl hl (by decide) rfl (fun ls hl => ?_)
  refine W_loopH (σ := Nat) (fun z_ => nh - z_) (fun z_ H locs g => ∃ ls, g = F0 m 4 ls [] ∧ lv_has ls 4 [(3, .int (nI z_)), (2, .int (nI (atR (hAh lv th) nh x z_))), (1, .int x), (0, .ref a1)] ∧ CxB D [(a1, .inr (6, [.ref a2, .ref a3, .ref a4, .int (nI nh)])), (a2, .inl (aT 0, 6, .inl fL)), (a3, .inl (aT 0, 6, .inl fT)), (a4, .inl (aT 0, 6, .inl fX))] A s.heap H locs ∧ z_ ≤ nh) ?_ 0 _ ⟨_, rfl, lv_sub hl [0, 1, 3, 2] rfl, hW, Nat.zero_le _⟩
  clear hW hl
  rintro i H locs g ⟨ls, rfl, hl, hW, hi⟩ ih_4
  refine lv_iload_n hx hb dX2_atRank_4 rfl (lv_at hl 0 rfl) ?_
  refine lv_aload_n hx hb dX2_atRank_5 rfl (lv_at hl 3 rfl) ?_
  refine cx_get C hW 0 3 rfl rfl (by decide) inX2 gw_129 rfl rfl dX2_atRank_6 ?_
  refine r_geN hx hb (a := i) (b := nh) (by have := hH.1; omega) (by have := hH.1; omega) (tgt := 29) dX2_atRank_9 (by decide) (fun c_9 => ?_) (fun c_9 => ?_)
  · refine lv_iload_n hx hb dX2_atRank_29 rfl (lv_at hl 1 rfl) ?_
    exact cx_iret C hr hlocks rfl hW ⟨Nat.le_of_ble_eq_true rfl, Nat.le_of_ble_eq_true rfl⟩ (⟨by rw [show i = nh by omega], rfl⟩) dX2_atRank_30
  · refine lv_aload_n hx hb dX2_atRank_12 rfl (lv_at hl 3 rfl) ?_
    refine lv_iload_n hx hb dX2_atRank_13 rfl (lv_at hl 0 rfl) ?_
    refine cx_calli (Wr := []) (cx_runV C hml hl.1 hZ hW hA (As := [.int (nI i)]) (rest := []) (k_X2_rankOf l hfl D aT a1 a2 a3 a4 fL fT fX nh lv th ta hH i (show i < nh by omega)) gV_X2_X2_rankOf_58 hV_X2_rankOf rfl ⟨Nat.le_of_ble_eq_true rfl, Nat.le_of_ble_eq_true rfl⟩ ⟨Nat.le_of_ble_eq_true rfl, Nat.le_of_ble_eq_true rfl⟩ [0, 1, 2, 3] rfl (by decide) 0 6 rfl rfl rfl rfl (Nat.le_of_ble_eq_true rfl) dX2_atRank_14) hW hA [0, 1, 2, 3] [] rfl rfl (by decide) (by decide) (fun _ _ _ _ _ _ h9 => h9.elim) (fun r_14 W_14 H locs hq hW => ?_)
    obtain ⟨rfl, rfl⟩ := hq
    have hW : CxB D [(a1, .inr (6, [.ref a2, .ref a3, .ref a4, .int (nI nh)])), (a2, .inl (aT 0, 6, .inl fL)), (a3, .inl (aT 0, 6, .inl fT)), (a4, .inl (aT 0, 6, .inl fX))] A s.heap H _ := hW
    refine lv_iload_n hx hb dX2_atRank_17 rfl (lv_at hl 2 rfl) ?_
    refine lv_icmp_ne hx hb (x := (nI (rkN (hAh lv th) i nh))) (y := x) (tgt := 23) dX2_atRank_18 (by decide) (fun c_18 => ?_) (fun c_18 => ?_)
    · have hl : lv_has ls 4 [(3, .int (nI i)), (2, .int (nI (atR (hAh lv th) nh x (i + 1)))), (1, .int x), (0, .ref a1)] := by
        rw [show nI (atR (hAh lv th) nh x (i + 1)) = nI (atR (hAh lv th) nh x i) from congrArg nI (by rw [atR, if_neg c_18])]
        exact hl
      refine lv_iinc (v := (nI (i + 1))) (lv' := [(3, .int (nI (i + 1))), (2, .int (nI (atR (hAh lv th) nh x (i + 1)))), (1, .int x), (0, .ref a1)]) hx hb dX2_atRank_23 hl (k := 0) rfl (nI_1 _) (by decide) rfl (fun ls hl => ?_)
      refine lv_goto (tgt := 4) hx hb dX2_atRank_26 (by decide) ?_
      exact ih_4 (i + 1) _ _ _ (by first | omega | (dsimp only; omega)) ⟨_, rfl, lv_sub hl [0, 1, 2, 3] rfl, hW, (by omega)⟩
    · refine lv_iload_n hx hb dX2_atRank_21 rfl (lv_at hl 0 rfl) ?_
      refine lv_istore_n (lv' := [(2, .int (nI i)), (3, .int (nI i)), (1, .int x), (0, .ref a1)]) hx hb dX2_atRank_22 rfl hl (by decide) rfl (fun ls hl => ?_)
      have hl : lv_has ls 4 [(2, .int (nI (atR (hAh lv th) nh x (i + 1)))), (3, .int (nI i)), (1, .int x), (0, .ref a1)] := by
        rw [show nI (atR (hAh lv th) nh x (i + 1)) = nI (i) from congrArg nI (by rw [atR, if_pos c_18])]
        exact hl
      refine lv_iinc (v := (nI (i + 1))) (lv' := [(3, .int (nI (i + 1))), (2, .int (nI (atR (hAh lv th) nh x (i + 1)))), (1, .int x), (0, .ref a1)]) hx hb dX2_atRank_23 hl (k := 1) rfl (nI_1 _) (by decide) rfl (fun ls hl => ?_)
      refine lv_goto (tgt := 4) hx hb dX2_atRank_26 (by decide) ?_
      exact ih_4 (i + 1) _ _ _ (by first | omega | (dsimp only; omega)) ⟨_, rfl, lv_sub hl [0, 1, 2, 3] rfl, hW, (by omega)⟩
