section CXO
variable {p : Program} {l : Launch} {e : Env} {R : Room} {s : State} {m : MethodId} {args : Array Value} {below : List Frame} {meth : Method} {c : Code} {Q : State → Prop}
/-- a loop that makes cells -/
theorem W_loopC {σ : Type} (μ : σ → Nat) (fc fs : σ → Nat) (G : σ → Heap → List Loc → JFrame → Prop) (body : ∀ x H locs g, G x H locs g → (∀ y H' locs' g', μ y < μ x → G y H' locs' g' → W p l e R s m args below meth c H' locs' (fc y) (fs y) Q g') → W p l e R s m args below meth c H locs (fc x) (fs x) Q g) (x : σ) {H : Heap} {locs : List Loc} (g : JFrame) (h : G x H locs g) : W p l e R s m args below meth c H locs (fc x) (fs x) Q g := by
  have key : ∀ n x H locs g, μ x < n → G x H locs g → W p l e R s m args below meth c H locs (fc x) (fs x) Q g := by
    intro n
    induction n with
    | zero => intro x H locs g hx; exact absurd hx (Nat.not_lt_zero _)
    | succ n ih => intro x H locs g hx hg; exact body x H locs g hg (fun y H' locs' g' hy hg' => ih y H' locs' g' (by omega) hg')
  exact key _ x H locs g (Nat.lt_succ_self _) h
end CXO
theorem cx_left {D : va_G} {Wd W1 : va_W} {A : Nat → Prop} {H0 H : Heap} {locs : List Loc} (h : CxB D (Wd ++ W1) A H0 H locs) : CxB D Wd A H0 H locs := by
  have e : ∀ (k : Nat) (q : Nat × va_E), Wd[k]? = some q → (Wd ++ W1)[k]? = some q := fun k q hq => by
    rw [List.getElem?_append_left (List.getElem?_eq_some_iff.mp hq).1]; exact hq
  exact ⟨fun k q hq => h.1 k q (e k q hq), ⟨fun i j x y hi hj => h.2.1.1 i j x y (e i x hi) (e j y hj), fun k q hq => h.2.1.2 k q (e k q hq)⟩, h.2.2⟩
/-- the cells of the commands read -/
abbrev Cd : Type := Nat × Int32 × Int32 × Int32
def cdC (D : va_G) (q : Nat) (z : Cd) : Nat × va_E := (q, .inr (5, [.ref (zs D (10 + z.1)), .int z.2.1, .int z.2.2.1, .int z.2.2.2]))
def clL (D : va_G) (qd : Nat → Nat) (cd : Nat → Cd) (i : Nat) : va_W := (List.range i).map (fun j => cdC D (qd j) (cd j))
theorem clL_s {D : va_G} {qd : Nat → Nat} {cd : Nat → Cd} {i q : Nat} {z : Cd} : clL D (upB qd i q) (upB cd i z) (i + 1) = clL D qd cd i ++ [cdC D q z] := by
  unfold clL
  rw [List.range_succ, List.map_append]
  refine congr (congrArg _ (List.map_congr_left (fun j hj => ?_))) ?_
  · have := List.mem_range.mp hj
    rw [upB_n (by omega), upB_n (by omega)]
  · show [cdC D (upB qd i q i) (upB cd i z i)] = _
    rw [upB_s, upB_s]
theorem clL_app {D : va_G} {qd : Nat → Nat} {cd : Nat → Cd} {i q : Nat} {z : Cd} {X : va_W} {A : Nat → Prop} {H0 H : Heap} {locs : List Loc} (h : CxB D ((X ++ [cdC D q z]) ++ clL D qd cd i) A H0 H locs) : CxB D (X ++ clL D (upB qd i q) (upB cd i z) (i + 1)) A H0 H locs := by
  rw [clL_s, ← List.append_assoc]
  exact h.swap
theorem clL_get {D : va_G} {qd : Nat → Nat} {cd : Nat → Cd} {i j : Nat} (h : j < i) : (clL D qd cd i)[j]? = some (cdC D (qd j) (cd j)) := by
  unfold clL
  rw [List.getElem?_map, List.getElem?_range h]; rfl
/-! the text as a program -/
def CmE (cd : Nat → Cd) (cm : Nat → Int32) (j : Nat) : Prop := (cd j).1 < 7 ∧ cm (4 * j) = nI (cd j).1 ∧ ∀ m, doF m (cd j).1 (cd j).2.1 (cd j).2.2.1 (cd j).2.2.2 = doF m (cd j).1 (cm (4 * j + 1)) (cm (4 * j + 2)) (cm (4 * j + 3))
def PrC (f : Nat → Int32) (ln i u : Nat) (cd : Nat → Cd) : Prop := ∀ cm0, ∃ cm, prsR f ln cm0 = prsF f ln (ln + 1 - i) u i cm ∧ ∀ j, j < i → CmE cd cm j
/-- not a program: where that shows -/
def PrE (f : Nat → Int32) (ln u : Nat) : Prop := ∀ cm0, ∃ k cm, prsR f ln cm0 = ((u, true), k, cm)
/-- a program of k commands -/
def PrK (f : Nat → Int32) (ln k : Nat) (cd : Nat → Cd) : Prop := ∃ u, ∀ cm0, ∃ cm, prsR f ln cm0 = ((u, false), k, cm) ∧ ∀ j, j < k → CmE cd cm j
theorem PrC.nil {f : Nat → Int32} {ln : Nat} {cd : Nat → Cd} : PrC f ln 0 0 cd := fun cm0 => ⟨cm0, rfl, fun j hj => absurd hj (Nat.not_lt_zero j)⟩
theorem CmE.up {cd : Nat → Cd} {cm cm' : Nat → Int32} {i j : Nat} {z : Cd} (h : CmE cd cm j) (hj : j < i) (hk : ∀ n, n < 4 * i → cm' n = cm n) : CmE (upB cd i z) cm' j := by
  unfold CmE
  rw [upB_n (by omega), hk _ (by omega), hk _ (by omega), hk _ (by omega), hk _ (by omega)]
  exact h
theorem CmE.nw {f : Nat → Int32} {ln i u u2 w : Nat} {a b c : Int32} {cd : Nat → Cd} {cm : Nat → Int32} (hy : CmY f ln u u2 w a b c) (h : ∀ j, j < i → CmE cd cm j) : ∀ j, j < i + 1 → CmE (upB cd i (w, a, b, c)) (cmdP f ln i cm u).2.2 j := by
  intro j hj
  obtain ⟨h7, -, -, hy⟩ := hy
  obtain ⟨-, -, h1, h2, h3⟩ := hy i cm
  by_cases e : j = i
  · subst e
    unfold CmE
    rw [upB_s]
    exact ⟨h7, h1, h3⟩
  · exact (h j (by omega)).up (by omega) h2
theorem PrC.bad {f : Nat → Int32} {ln i u u2 : Nat} {cd : Nat → Cd} (h : PrC f ln i u cd) (hi : i ≤ ln) (hx : CmX f ln u u2) : PrE f ln u2 := fun cm0 => by
  obtain ⟨cm, h1, -⟩ := h cm0
  refine ⟨(cmdP f ln i cm u).2.1, (cmdP f ln i cm u).2.2, ?_⟩
  rw [h1, show ln + 1 - i = (ln - i) + 1 by omega, prsF_1 (Or.inl (by rw [hx i cm])), hx i cm]
theorem PrC.end {f : Nat → Int32} {ln i u u2 w : Nat} {a b c : Int32} {cd : Nat → Cd} (h : PrC f ln i u cd) (hi : i ≤ ln) (hy : CmY f ln u u2 w a b c) (he : ln ≤ u2) : PrK f ln (i + 1) (upB cd i (w, a, b, c)) := ⟨u2, fun cm0 => by
  obtain ⟨cm, h1, h2⟩ := h cm0
  refine ⟨(cmdP f ln i cm u).2.2, ?_, CmE.nw hy h2⟩
  obtain ⟨y1, y2, -⟩ := hy.2.2.2 i cm
  rw [h1, show ln + 1 - i = (ln - i) + 1 by omega, prsF_1 (Or.inr (by rw [y1]; exact he))]
  exact Prod.ext y1 (Prod.ext y2 rfl)⟩
theorem PrC.sem {f : Nat → Int32} {ln i u u2 w : Nat} {a b c : Int32} {cd : Nat → Cd} (h : PrC f ln i u cd) (hi : i ≤ ln) (hy : CmY f ln u u2 w a b c) (hl : u2 < ln) (hs : ¬ (u2 < ln ∧ f u2 = nI 59)) : PrE f ln u2 := fun cm0 => by
  obtain ⟨cm, h1, -⟩ := h cm0
  obtain ⟨y1, y2, -⟩ := hy.2.2.2 i cm
  refine ⟨(cmdP f ln i cm u).2.1, (cmdP f ln i cm u).2.2, ?_⟩
  have e : expP f ln (nI 59) (cmdP f ln i cm u).1 = (u2, true) := by rw [y1]; exact ex_n (by decide) hs
  rw [h1, show ln + 1 - i = (ln - i) + 1 by omega, prsF_2 (by rw [y1]) (by rw [y1]; exact hl) (by rw [e]), e]
theorem PrC.step {f : Nat → Int32} {ln i u u2 w : Nat} {a b c : Int32} {cd : Nat → Cd} (h : PrC f ln i u cd) (hi : i ≤ ln) (hy : CmY f ln u u2 w a b c) (hl : u2 < ln) (hs : f u2 = nI 59) : PrC f ln (i + 1) (u2 + 1) (upB cd i (w, a, b, c)) := fun cm0 => by
  obtain ⟨cm, h1, h2⟩ := h cm0
  obtain ⟨y1, y2, -⟩ := hy.2.2.2 i cm
  have e : expP f ln (nI 59) (cmdP f ln i cm u).1 = (u2 + 1, false) := by rw [y1]; exact ex_y hl hs
  refine ⟨(cmdP f ln i cm u).2.2, ?_, CmE.nw hy h2⟩
  rw [h1, show ln + 1 - i = (ln + 1 - (i + 1)) + 1 by omega, prsF_3 (by rw [y1]) (by rw [y1]; exact hl) (by rw [e]), e, y2]
/-- the list of commands, used or not yet -/
def ListF (D : va_G) (aT : Nat → ClassId) (p3 : Nat) (L : va_W) : Prop := (∃ m : Int32, L = [(p3, .inr (4, [.int m, .ref (zs D 3), .int (nI 0)]))]) ∨ ∃ (k : Nat) (row : Nat → Option Nat) (m : Int32) (e : Nat), k ≤ 10 ∧ L = [(p3, .inr (4, [.int m, .ref e, .int (nI k)])), (e, .inl (aT 6, 10, .inr (.inr (.inr (.inr row)))))]
theorem row_0 {q : Nat} {r0 : Nat → Option Nat} : ∀ j, j < 0 + 1 → va_up r0 0 (some q) j = some (upB (fun _ => 0) 0 q j) := by
  intro j hj
  obtain rfl : j = 0 := by omega
  rfl
theorem row_s {row : Nat → Option Nat} {qd : Nat → Nat} {i q : Nat} (h : ∀ j, j < i → row j = some (qd j)) : ∀ j, j < i + 1 → va_up row i (some q) j = some (upB qd i q j) := by
  intro j hj
  by_cases e : j = i
  · subst e; rw [upB_s]; unfold va_up; rw [if_pos rfl]
  · rw [upB_n e]; unfold va_up; rw [if_neg e]; exact h j (by omega)
theorem dX6_parse_0 : decode cX6_parse 0 = .ok (.aload_n 0, 1) := by decide +kernel
theorem dX6_parse_1 : decode cX6_parse 1 = .ok (.getfield 22, 3) := by decide +kernel
theorem dX6_parse_4 : decode cX6_parse 4 = .ok (.invokevirtual 33, 3) := by decide +kernel
theorem dX6_parse_7 : decode cX6_parse 7 = .ok (.aload_n 0, 1) := by decide +kernel
theorem dX6_parse_8 : decode cX6_parse 8 = .ok (.iconst 0, 1) := by decide +kernel
theorem dX6_parse_9 : decode cX6_parse 9 = .ok (.putfield 30, 3) := by decide +kernel
theorem dX6_parse_12 : decode cX6_parse 12 = .ok (.iconst 0, 1) := by decide +kernel
theorem dX6_parse_13 : decode cX6_parse 13 = .ok (.istore_n 1, 1) := by decide +kernel
theorem dX6_parse_14 : decode cX6_parse 14 = .ok (.iload_n 1, 1) := by decide +kernel
theorem dX6_parse_15 : decode cX6_parse 15 = .ok (.bipush 60, 2) := by decide +kernel
theorem dX6_parse_17 : decode cX6_parse 17 = .ok (.if_icmp .ge 48, 3) := by decide +kernel
theorem dX6_parse_20 : decode cX6_parse 20 = .ok (.aload_n 0, 1) := by decide +kernel
theorem dX6_parse_21 : decode cX6_parse 21 = .ok (.invokevirtual 36, 3) := by decide +kernel
theorem dX6_parse_24 : decode cX6_parse 24 = .ok (.ifCond .ne 8, 3) := by decide +kernel
theorem dX6_parse_27 : decode cX6_parse 27 = .ok (.aload_n 0, 1) := by decide +kernel
theorem dX6_parse_28 : decode cX6_parse 28 = .ok (.getfield 30, 3) := by decide +kernel
theorem dX6_parse_31 : decode cX6_parse 31 = .ok (.ireturn, 1) := by decide +kernel
theorem dX6_parse_32 : decode cX6_parse 32 = .ok (.aload_n 0, 1) := by decide +kernel
theorem dX6_parse_33 : decode cX6_parse 33 = .ok (.getfield 30, 3) := by decide +kernel
theorem dX6_parse_36 : decode cX6_parse 36 = .ok (.aload_n 0, 1) := by decide +kernel
theorem dX6_parse_37 : decode cX6_parse 37 = .ok (.getfield 26, 3) := by decide +kernel
theorem dX6_parse_40 : decode cX6_parse 40 = .ok (.if_icmp .lt 5, 3) := by decide +kernel
theorem dX6_parse_43 : decode cX6_parse 43 = .ok (.iconst (-1), 1) := by decide +kernel
theorem dX6_parse_44 : decode cX6_parse 44 = .ok (.ireturn, 1) := by decide +kernel
theorem dX6_parse_45 : decode cX6_parse 45 = .ok (.aload_n 0, 1) := by decide +kernel
theorem dX6_parse_46 : decode cX6_parse 46 = .ok (.bipush 59, 2) := by decide +kernel
theorem dX6_parse_48 : decode cX6_parse 48 = .ok (.invokevirtual 40, 3) := by decide +kernel
theorem dX6_parse_51 : decode cX6_parse 51 = .ok (.ifCond .ne 8, 3) := by decide +kernel
theorem dX6_parse_54 : decode cX6_parse 54 = .ok (.aload_n 0, 1) := by decide +kernel
theorem dX6_parse_55 : decode cX6_parse 55 = .ok (.getfield 30, 3) := by decide +kernel
theorem dX6_parse_58 : decode cX6_parse 58 = .ok (.ireturn, 1) := by decide +kernel
theorem dX6_parse_59 : decode cX6_parse 59 = .ok (.iinc 1 1, 3) := by decide +kernel
theorem dX6_parse_62 : decode cX6_parse 62 = .ok (.goto (-48), 3) := by decide +kernel
theorem dX6_parse_65 : decode cX6_parse 65 = .ok (.aload_n 0, 1) := by decide +kernel
theorem dX6_parse_66 : decode cX6_parse 66 = .ok (.getfield 30, 3) := by decide +kernel
theorem dX6_parse_69 : decode cX6_parse 69 = .ok (.ireturn, 1) := by decide +kernel
theorem gV_X6_Jx4a65c_clear_da8c8_33 : GoodIn gw (wsV RX6 33 RJx4a65c yJx4a65c_clear_da8c8 (Cond.code yJx4a65c_clear_da8c8 cJx4a65c_clear_da8c8 4 (none) :: gw)) := gdV gw_1116 gw_1117 gw_1118 gw_76 gw_1119
theorem hV_Jx4a65c_clear_da8c8 : yJx4a65c_clear_da8c8.cls = RJx4a65c ∧ yJx4a65c_clear_da8c8.cls ≠ "java/lang/invoke/MethodHandle" ∧ yJx4a65c_clear_da8c8.cls ≠ "java/lang/invoke/VarHandle" ∧ (parseMethodDescriptor yJx4a65c_clear_da8c8.desc).map (fun d => d.parameters.length) = some 0 := ⟨rfl, by decide +kernel, by decide +kernel, by decide +kernel⟩
theorem gV_X6_X6_readCommand_36 : GoodIn gw (wsV RX6 36 RX6 yX6_readCommand (Cond.code yX6_readCommand cX6_readCommand 5 (some .boolean) :: gw)) := gdV gw_1120 gw_1122 gw_11 gw_73 gw_1123
theorem hV_X6_readCommand : yX6_readCommand.cls = RX6 ∧ yX6_readCommand.cls ≠ "java/lang/invoke/MethodHandle" ∧ yX6_readCommand.cls ≠ "java/lang/invoke/VarHandle" ∧ (parseMethodDescriptor yX6_readCommand.desc).map (fun d => d.parameters.length) = some 0 := ⟨rfl, by decide +kernel, by decide +kernel, by decide +kernel⟩
set_option maxHeartbeats 2000000 in
set_option maxRecDepth 20000 in
theorem k_parse_A (l : Launch) (hfl : l.stackTraces = false) (D : va_G) (aT : Nat → ClassId) (p0 : Nat) (p1 : Nat) (p2 : Nat) (ln : Nat) (at_ : Nat) (fX : Nat → Int32) (fA : Nat → Int32) (h60 : ln ≤ 60) (p3 : Nat) (mo : Int32) : CxG l yX6_parse cX6_parse 2 (some (.int)) 6 24 160 151 D aT [.ref p0] [(p0, .inr (9, [.ref p1, .ref p2, .ref p3, .int (nI ln), .int (nI at_)])), (p1, .inl (aT 1, 60, .inl fX)), (p2, .inl (aT 0, 3, .inl fA)), (p3, .inr (4, [.int mo, .ref (zs D 3), .int (nI 0)]))] (qI D aT (fun r W1 => ∃ (u : Nat) (fB : Nat → Int32), (r = nI u ∧ u ≤ ln ∧ PrE fX ln u ∧ ∃ LL, ListF D aT p3 LL ∧ W1 = [(p0, .inr (9, [.ref p1, .ref p2, .ref p3, .int (nI ln), .int (nI u)])), (p1, .inl (aT 1, 60, .inl fX)), (p2, .inl (aT 0, 3, .inl fB))] ++ LL) ∨ (r = -1 ∧ ∃ (k : Nat) (qd : Nat → Nat) (cd : Nat → Cd) (row : Nat → Option Nat) (m2 : Int32) (e : Nat), k ≤ 10 ∧ PrK fX ln k cd ∧ (∀ j, j < k → row j = some (qd j)) ∧ W1 = [(p0, .inr (9, [.ref p1, .ref p2, .ref p3, .int (nI ln), .int (nI u)])), (p1, .inl (aT 1, 60, .inl fX)), (p2, .inl (aT 0, 3, .inl fB))] ++ ([(p3, .inr (4, [.int m2, .ref e, .int (nI k)])), (e, .inl (aT 6, 10, .inr (.inr (.inr (.inr row)))))] ++ clL D qd cd k)))) (fun _ _ => False) := by
  refine CxG.of RX6 (by decide +kernel) rfl (Nat.le_of_ble_eq_true rfl) ?_
  intro p e s m below meth c A ls C hml hl hA hr hlocks hex hnm hZ hW
  have hl : lv_has ls 2 [(0, .ref p0)] := hl
  have hx := C.1
  have hb := C.2.1
  refine lv_aload_n hx hb dX6_parse_0 rfl (lv_at hl 0 rfl) ?_
  refine cx_get C hW 0 2 rfl rfl (by decide) inX6 gw_298 rfl rfl dX6_parse_1 ?_
  refine cx_callv (Wr := [(p0, .inr (9, [.ref p1, .ref p2, .ref p3, .int (nI ln), .int (nI at_)])), (p1, .inl (aT 1, 60, .inl fX)), (p2, .inl (aT 0, 3, .inl fA))]) (cx_runV C hml hl.1 hZ hW hA (As := []) (rest := []) (k_clear_A l hfl D aT p3 mo) gV_X6_Jx4a65c_clear_da8c8_33 hV_Jx4a65c_clear_da8c8 rfl ⟨Nat.le_of_ble_eq_true rfl, Nat.le_of_ble_eq_true rfl⟩ ⟨Nat.le_of_ble_eq_true rfl, Nat.le_of_ble_eq_true rfl⟩ [3] rfl (by decide) 3 4 rfl rfl rfl rfl (Nat.le_of_ble_eq_true rfl) dX6_parse_4) hW hA [3] [0, 1, 2] rfl rfl (by decide) (by decide) (fun _ _ _ _ _ _ h9 => h9.elim) (fun W_4 H locs hq hW => ?_)
  obtain ⟨m2_4, rfl⟩ := hq
  have hW : CxB D [(p0, .inr (9, [.ref p1, .ref p2, .ref p3, .int (nI ln), .int (nI at_)])), (p1, .inl (aT 1, 60, .inl fX)), (p2, .inl (aT 0, 3, .inl fA)), (p3, .inr (4, [.int m2_4, .ref (zs D 3), .int (nI 0)]))] A s.heap H _ := hW
  refine lv_aload_n hx hb dX6_parse_7 rfl (lv_at hl 0 rfl) ?_
  refine lv_iconst (v := nI 0) hx hb dX6_parse_8 (by decide) ?_
  refine cx_put C hW 0 4 (W1 := [(p0, .inr (9, [.ref p1, .ref p2, .ref p3, .int (nI ln), .int (nI 0)])), (p1, .inl (aT 1, 60, .inl fX)), (p2, .inl (aT 0, 3, .inl fA)), (p3, .inr (4, [.int m2_4, .ref (zs D 3), .int (nI 0)]))]) rfl rfl (by decide) inX6 tyX6 tyX6_ok nmX6 gw_301 rfl rfl rfl rfl rfl (Nat.le_of_ble_eq_true rfl) rfl dX6_parse_9 (fun H locs hW => ?_)
  refine lv_iconst (v := nI 0) hx hb dX6_parse_12 (by decide) ?_
  refine lv_istore_n (lv' := [(1, .int (nI 0)), (0, .ref p0)]) hx hb dX6_parse_13 rfl hl (by decide) rfl (fun ls hl => ?_)
  refine lv_iload_n hx hb dX6_parse_14 rfl (lv_at hl 0 rfl) ?_
  refine lv_bipush (v := nI 60) hx hb dX6_parse_15 (by decide) ?_
  refine lv_icmp_ge hx hb (x := (nI 0)) (y := (nI 60)) (tgt := 65) dX6_parse_17 (by decide) (fun c_17 => ?_) (fun c_17 => ?_)
  · exact absurd c_17 (by decide)
  · refine lv_aload_n hx hb dX6_parse_20 rfl (lv_at hl 1 rfl) ?_
    refine cx_calli (Wr := []) (cx_runV C hml hl.1 hZ hW hA (As := []) (rest := []) (k_readCommand_A l hfl D aT p0 p1 p2 ln 0 fX fA h60 (by omega) p3 m2_4) gV_X6_X6_readCommand_36 hV_X6_readCommand rfl ⟨Nat.le_of_ble_eq_true rfl, Nat.le_of_ble_eq_true rfl⟩ ⟨Nat.le_of_ble_eq_true rfl, Nat.le_of_ble_eq_true rfl⟩ [0, 1, 2, 3] rfl (by decide) 0 9 rfl rfl rfl rfl (Nat.le_of_ble_eq_true rfl) dX6_parse_21) hW hA [0, 1, 2, 3] [] rfl rfl (by decide) (by decide) (fun _ _ _ _ _ _ h9 => h9.elim) (fun r_21 W_21 H locs hq hW => ?_)
    rcases hq with ⟨rfl, u_21, fB_21, hx_21, hle_21, rfl⟩ | ⟨rfl, u_21, w_21, a_21, b_21, c_21, fB_21, q_21, e_21, m_21, hy_21, rfl⟩
    · have hW : CxB D [(p0, .inr (9, [.ref p1, .ref p2, .ref p3, .int (nI ln), .int (nI u_21)])), (p1, .inl (aT 1, 60, .inl fX)), (p2, .inl (aT 0, 3, .inl fB_21)), (p3, .inr (4, [.int m2_4, .ref (zs D 3), .int (nI 0)]))] A s.heap H _ := hW
      refine lv_if_ne hx hb (x := (nI 0)) (tgt := 32) dX6_parse_24 (by decide) (fun c_24 => ?_) (fun c_24 => ?_)
      · exact absurd rfl c_24
      · refine lv_aload_n hx hb dX6_parse_27 rfl (lv_at hl 1 rfl) ?_
        refine cx_get C hW 0 4 rfl rfl (by decide) inX6 gw_301 rfl rfl dX6_parse_28 ?_
        exact cx_iret C hr hlocks rfl hW ⟨Nat.le_of_ble_eq_true rfl, Nat.le_of_ble_eq_true rfl⟩ (⟨_, _, Or.inl ⟨rfl, by omega, ((PrC.nil (cd := fun _ => (0, 0, 0, 0))).bad (Nat.zero_le _) hx_21), [(p3, .inr (4, [.int m2_4, .ref (zs D 3), .int (nI 0)]))], Or.inl ⟨_, rfl⟩, rfl⟩⟩) dX6_parse_31
    · have hW : CxB D [(p0, .inr (9, [.ref p1, .ref p2, .ref p3, .int (nI ln), .int (nI u_21)])), (p1, .inl (aT 1, 60, .inl fX)), (p2, .inl (aT 0, 3, .inl fB_21)), (p3, .inr (4, [.int m_21, .ref e_21, .int (nI 1)])), (e_21, .inl (aT 6, 10, .inr (.inr (.inr (.inr (va_up (fun _ => none) 0 (some q_21))))))), (q_21, .inr (5, [.ref (zs D (10 + w_21)), .int a_21, .int b_21, .int c_21]))] A s.heap H _ := hW
      refine lv_if_ne hx hb (x := (nI 1)) (tgt := 32) dX6_parse_24 (by decide) (fun c_24 => ?_) (fun c_24 => ?_)
      · have hW : CxB D ([(p0, .inr (9, [.ref p1, .ref p2, .ref p3, .int (nI ln), .int (nI u_21)])), (p1, .inl (aT 1, 60, .inl fX)), (p2, .inl (aT 0, 3, .inl fB_21)), (p3, .inr (4, [.int m_21, .ref e_21, .int (nI 1)])), (e_21, .inl (aT 6, 10, .inr (.inr (.inr (.inr (va_up (fun _ => none) 0 (some q_21)))))))] ++ (clL D (upB (fun _ => 0) 0 q_21) (upB (fun _ => (0, 0, 0, 0)) 0 (w_21, a_21, b_21, c_21)) (0 + 1))) A s.heap H _ := clL_app (qd := fun _ => 0) (cd := fun _ => (0, 0, 0, 0)) (i := 0) (q := q_21) (z := (w_21, a_21, b_21, c_21)) (X := [(p0, .inr (9, [.ref p1, .ref p2, .ref p3, .int (nI ln), .int (nI u_21)])), (p1, .inl (aT 1, 60, .inl fX)), (p2, .inl (aT 0, 3, .inl fB_21)), (p3, .inr (4, [.int m_21, .ref e_21, .int (nI 1)])), (e_21, .inl (aT 6, 10, .inr (.inr (.inr (.inr (va_up (fun _ => none) 0 (some q_21)))))))]) hW
        have hP1 : PrC fX ln 0 0 (fun _ => (0, 0, 0, 0)) := PrC.nil
        have hle1 := hy_21.2.2.1
        have hge1 := hy_21.2.1
        refine lv_aload_n hx hb dX6_parse_32 rfl (lv_at hl 1 rfl) ?_
        refine cx_get C hW 0 4 rfl rfl (by decide) inX6 gw_301 rfl rfl dX6_parse_33 ?_
        refine lv_aload_n hx hb dX6_parse_36 rfl (lv_at hl 1 rfl) ?_
        refine cx_get C hW 0 3 rfl rfl (by decide) inX6 gw_300 rfl rfl dX6_parse_37 ?_
        refine r_ltN hx hb (a := u_21) (b := ln) (by omega) (by omega) (tgt := 45) dX6_parse_40 (by decide) (fun c_40 => ?_) (fun c_40 => ?_)
        · refine lv_aload_n hx hb dX6_parse_45 rfl (lv_at hl 1 rfl) ?_
          refine lv_bipush (v := nI 59) hx hb dX6_parse_46 (by decide) ?_
          refine cx_calli (Wr := ([(p3, .inr (4, [.int m_21, .ref e_21, .int (nI 1)])), (e_21, .inl (aT 6, 10, .inr (.inr (.inr (.inr (va_up (fun _ => none) 0 (some q_21)))))))] ++ (clL D (upB (fun _ => 0) 0 q_21) (upB (fun _ => (0, 0, 0, 0)) 0 (w_21, a_21, b_21, c_21)) (0 + 1)))) (cx_runV C hml hl.1 hZ hW hA (As := [.int (nI 59)]) (rest := []) (k_X6_readSign l hfl D aT p0 p1 p2 p3 ln u_21 fX fB_21 h60 (by omega) (nI 59)) gV_X6_X6_readSign_40 hV_X6_readSign rfl ⟨Nat.le_of_ble_eq_true rfl, Nat.le_of_ble_eq_true rfl⟩ ⟨Nat.le_of_ble_eq_true rfl, Nat.le_of_ble_eq_true rfl⟩ [0, 1, 2] (by exact tl_c rfl) (by decide) 0 9 rfl rfl rfl rfl (Nat.le_of_ble_eq_true rfl) dX6_parse_48) hW hA [0, 1, 2] ([3, 4] ++ tlR 5 (clL D (upB (fun _ => 0) 0 q_21) (upB (fun _ => (0, 0, 0, 0)) 0 (w_21, a_21, b_21, c_21)) (0 + 1))) (by exact tl_c rfl) (by exact tl_R rfl) (tl_nd (n := 5) (by decide) (by decide)) (tl_dis (n := 5) (by decide) (by decide)) (fun _ _ _ _ _ _ h9 => h9.elim) (fun r_48 W_48 H locs hq hW => ?_)
          rcases hq with ⟨hs_48, he_48, rfl, rfl⟩ | ⟨hs_48, rfl, rfl⟩
          · have hW := CxB.swap hW
            have hW : CxB D ([(p3, .inr (4, [.int m_21, .ref e_21, .int (nI 1)])), (e_21, .inl (aT 6, 10, .inr (.inr (.inr (.inr (va_up (fun _ => none) 0 (some q_21))))))), (p0, .inr (9, [.ref p1, .ref p2, .ref p3, .int (nI ln), .int (nI (u_21 + 1))])), (p1, .inl (aT 1, 60, .inl fX)), (p2, .inl (aT 0, 3, .inl fB_21))] ++ (clL D (upB (fun _ => 0) 0 q_21) (upB (fun _ => (0, 0, 0, 0)) 0 (w_21, a_21, b_21, c_21)) (0 + 1))) A s.heap H _ := hW
            refine lv_if_ne hx hb (x := (nI 1)) (tgt := 59) dX6_parse_51 (by decide) (fun c_51 => ?_) (fun c_51 => ?_)
            · refine lv_iinc (v := (nI 1)) (lv' := [(1, .int (nI 1)), (0, .ref p0)]) hx hb dX6_parse_59 hl (k := 0) rfl rfl (by decide) rfl (fun ls hl => ?_)
              refine lv_goto (tgt := 14) hx hb dX6_parse_62 (by decide) ?_
              refine W_loopC (σ := Nat × Nat × (Nat → Int32) × Int32 × (Nat → Option Nat) × (Nat → Nat) × (Nat → Cd) × Nat) (fun z_ => 60 - z_.1) (fun z_ => 2 * z_.1) (fun z_ => 14 * z_.1) (fun z_ H locs g => ∃ ls, g = F0 m 14 ls [] ∧ lv_has ls 2 [(1, .int (nI z_.1)), (0, .ref p0)] ∧ CxB D ([(p3, .inr (4, [.int z_.2.2.2.1, .ref z_.2.2.2.2.2.2.2, .int (nI z_.1)])), (z_.2.2.2.2.2.2.2, .inl (aT 6, 10, .inr (.inr (.inr (.inr z_.2.2.2.2.1))))), (p0, .inr (9, [.ref p1, .ref p2, .ref p3, .int (nI ln), .int (nI z_.2.1)])), (p1, .inl (aT 1, 60, .inl fX)), (p2, .inl (aT 0, 3, .inl z_.2.2.1))] ++ (clL D z_.2.2.2.2.2.1 z_.2.2.2.2.2.2.1 z_.1)) A s.heap H locs ∧ (1 ≤ z_.1 ∧ 7 * z_.1 ≤ z_.2.1 ∧ z_.2.1 ≤ ln) ∧ PrC fX ln z_.1 z_.2.1 z_.2.2.2.2.2.2.1 ∧ ∀ j, j < z_.1 → z_.2.2.2.2.1 j = some (z_.2.2.2.2.2.1 j)) ?_ (1, u_21 + 1, fB_21, m_21, ((va_up (fun _ => none) 0 (some q_21))), (upB (fun _ => 0) 0 q_21), (upB (fun _ => (0, 0, 0, 0)) 0 (w_21, a_21, b_21, c_21)), e_21) _ ⟨_, rfl, lv_sub hl [0, 1] rfl, hW, ⟨⟨by dsimp only; omega, by dsimp only; omega, by dsimp only; omega⟩, hP1.step (Nat.zero_le _) hy_21 hs_48 he_48, row_0⟩⟩
              clear hW hl
              rintro ⟨i, u, fB, mo, row, qd, cd, e0⟩ H locs g ⟨ls, rfl, hl, hW, ⟨hiu, hP, hR⟩⟩ ih_14
              dsimp only at hl hW hiu hP hR ⊢
              refine lv_iload_n hx hb dX6_parse_14 rfl (lv_at hl 0 rfl) ?_
              refine lv_bipush (v := nI 60) hx hb dX6_parse_15 (by decide) ?_
              refine r_geN hx hb (a := i) (b := 60) (by omega) (by omega) (tgt := 65) dX6_parse_17 (by decide) (fun c_17 => ?_) (fun c_17 => ?_)
              · exact absurd c_17 (by omega)
              · refine lv_aload_n hx hb dX6_parse_20 rfl (lv_at hl 1 rfl) ?_
                refine cx_calli (Wr := ([] ++ (clL D qd cd i))) (cx_runV C hml hl.1 hZ hW hA (As := []) (rest := []) (k_readCommand_B l hfl D aT p0 p1 p2 ln u fX fB h60 (by omega) p3 mo e0 i row (by omega)) gV_X6_X6_readCommand_36 hV_X6_readCommand rfl ⟨Nat.le_of_ble_eq_true rfl, Nat.le_of_ble_eq_true rfl⟩ ⟨by first | omega | (dsimp only [cxR]; omega), by first | omega | (dsimp only [cxR]; omega)⟩ [2, 3, 4, 0, 1] (by exact tl_c rfl) (by decide) 2 9 rfl rfl rfl rfl (Nat.le_of_ble_eq_true rfl) dX6_parse_21) hW hA [2, 3, 4, 0, 1] ([] ++ tlR 5 (clL D qd cd i)) (by exact tl_c rfl) (by exact tl_R rfl) (tl_nd (n := 5) (by decide) (by decide)) (tl_dis (n := 5) (by decide) (by decide)) (fun _ _ _ _ _ _ h9 => h9.elim) (fun r_21 W_21 H locs hq hW => ?_)
                rcases hq with ⟨rfl, u_21, fB_21, hx_21, hle_21, rfl⟩ | ⟨rfl, u_21, w_21, a_21, b_21, c_21, fB_21, q_21, m_21, hy_21, rfl⟩
                · have hW := CxB.swap hW
                  have hW : CxB D ([(p0, .inr (9, [.ref p1, .ref p2, .ref p3, .int (nI ln), .int (nI u_21)])), (p1, .inl (aT 1, 60, .inl fX)), (p2, .inl (aT 0, 3, .inl fB_21)), (p3, .inr (4, [.int mo, .ref e0, .int (nI i)])), (e0, .inl (aT 6, 10, .inr (.inr (.inr (.inr row)))))] ++ (clL D qd cd i)) A s.heap H _ := hW
                  refine lv_if_ne hx hb (x := (nI 0)) (tgt := 32) dX6_parse_24 (by decide) (fun c_24 => ?_) (fun c_24 => ?_)
                  · exact absurd rfl c_24
                  · refine lv_aload_n hx hb dX6_parse_27 rfl (lv_at hl 1 rfl) ?_
                    refine cx_get C hW 0 4 rfl rfl (by decide) inX6 gw_301 rfl rfl dX6_parse_28 ?_
                    have hW : CxB D [(p0, .inr (9, [.ref p1, .ref p2, .ref p3, .int (nI ln), .int (nI u_21)])), (p1, .inl (aT 1, 60, .inl fX)), (p2, .inl (aT 0, 3, .inl fB_21)), (p3, .inr (4, [.int mo, .ref e0, .int (nI i)])), (e0, .inl (aT 6, 10, .inr (.inr (.inr (.inr row)))))] A s.heap H _ := cx_left hW
                    exact cx_iret C hr hlocks rfl hW ⟨by first | omega | (dsimp only [cxR]; omega), by first | omega | (dsimp only [cxR]; omega)⟩ (⟨_, _, Or.inl ⟨rfl, by omega, (hP.bad (by omega) hx_21), [(p3, .inr (4, [.int mo, .ref e0, .int (nI i)])), (e0, .inl (aT 6, 10, .inr (.inr (.inr (.inr row)))))], Or.inr ⟨_, _, _, _, by omega, rfl⟩, rfl⟩⟩) dX6_parse_31
                · have hW := CxB.swap hW
                  have hW : CxB D ([(p0, .inr (9, [.ref p1, .ref p2, .ref p3, .int (nI ln), .int (nI u_21)])), (p1, .inl (aT 1, 60, .inl fX)), (p2, .inl (aT 0, 3, .inl fB_21)), (p3, .inr (4, [.int m_21, .ref e0, .int (nI (i + 1))])), (e0, .inl (aT 6, 10, .inr (.inr (.inr (.inr (va_up row i (some q_21))))))), (q_21, .inr (5, [.ref (zs D (10 + w_21)), .int a_21, .int b_21, .int c_21]))] ++ (clL D qd cd i)) A s.heap H _ := hW
                  refine lv_if_ne hx hb (x := (nI 1)) (tgt := 32) dX6_parse_24 (by decide) (fun c_24 => ?_) (fun c_24 => ?_)
                  · have hW : CxB D ([(p0, .inr (9, [.ref p1, .ref p2, .ref p3, .int (nI ln), .int (nI u_21)])), (p1, .inl (aT 1, 60, .inl fX)), (p2, .inl (aT 0, 3, .inl fB_21)), (p3, .inr (4, [.int m_21, .ref e0, .int (nI (i + 1))])), (e0, .inl (aT 6, 10, .inr (.inr (.inr (.inr (va_up row i (some q_21)))))))] ++ (clL D (upB qd i q_21) (upB cd i (w_21, a_21, b_21, c_21)) (i + 1))) A s.heap H _ := clL_app (qd := qd) (cd := cd) (i := i) (q := q_21) (z := (w_21, a_21, b_21, c_21)) (X := [(p0, .inr (9, [.ref p1, .ref p2, .ref p3, .int (nI ln), .int (nI u_21)])), (p1, .inl (aT 1, 60, .inl fX)), (p2, .inl (aT 0, 3, .inl fB_21)), (p3, .inr (4, [.int m_21, .ref e0, .int (nI (i + 1))])), (e0, .inl (aT 6, 10, .inr (.inr (.inr (.inr (va_up row i (some q_21)))))))]) hW
                    have hle1 := hy_21.2.2.1
                    have hge1 := hy_21.2.1
                    refine lv_aload_n hx hb dX6_parse_32 rfl (lv_at hl 1 rfl) ?_
                    refine cx_get C hW 0 4 rfl rfl (by decide) inX6 gw_301 rfl rfl dX6_parse_33 ?_
                    refine lv_aload_n hx hb dX6_parse_36 rfl (lv_at hl 1 rfl) ?_
                    refine cx_get C hW 0 3 rfl rfl (by decide) inX6 gw_300 rfl rfl dX6_parse_37 ?_
                    refine r_ltN hx hb (a := u_21) (b := ln) (by omega) (by omega) (tgt := 45) dX6_parse_40 (by decide) (fun c_40 => ?_) (fun c_40 => ?_)
                    · refine lv_aload_n hx hb dX6_parse_45 rfl (lv_at hl 1 rfl) ?_
                      refine lv_bipush (v := nI 59) hx hb dX6_parse_46 (by decide) ?_
                      refine cx_calli (Wr := ([(p3, .inr (4, [.int m_21, .ref e0, .int (nI (i + 1))])), (e0, .inl (aT 6, 10, .inr (.inr (.inr (.inr (va_up row i (some q_21)))))))] ++ (clL D (upB qd i q_21) (upB cd i (w_21, a_21, b_21, c_21)) (i + 1)))) (cx_runV C hml hl.1 hZ hW hA (As := [.int (nI 59)]) (rest := []) (k_X6_readSign l hfl D aT p0 p1 p2 p3 ln u_21 fX fB_21 h60 (by omega) (nI 59)) gV_X6_X6_readSign_40 hV_X6_readSign rfl ⟨Nat.le_of_ble_eq_true rfl, Nat.le_of_ble_eq_true rfl⟩ ⟨by first | omega | (dsimp only [cxR]; omega), by first | omega | (dsimp only [cxR]; omega)⟩ [0, 1, 2] (by exact tl_c rfl) (by decide) 0 9 rfl rfl rfl rfl (Nat.le_of_ble_eq_true rfl) dX6_parse_48) hW hA [0, 1, 2] ([3, 4] ++ tlR 5 (clL D (upB qd i q_21) (upB cd i (w_21, a_21, b_21, c_21)) (i + 1))) (by exact tl_c rfl) (by exact tl_R rfl) (tl_nd (n := 5) (by decide) (by decide)) (tl_dis (n := 5) (by decide) (by decide)) (fun _ _ _ _ _ _ h9 => h9.elim) (fun r_48 W_48 H locs hq hW => ?_)
                      rcases hq with ⟨hs_48, he_48, rfl, rfl⟩ | ⟨hs_48, rfl, rfl⟩
                      · have hW := CxB.swap hW
                        have hW : CxB D ([(p3, .inr (4, [.int m_21, .ref e0, .int (nI (i + 1))])), (e0, .inl (aT 6, 10, .inr (.inr (.inr (.inr (va_up row i (some q_21))))))), (p0, .inr (9, [.ref p1, .ref p2, .ref p3, .int (nI ln), .int (nI (u_21 + 1))])), (p1, .inl (aT 1, 60, .inl fX)), (p2, .inl (aT 0, 3, .inl fB_21))] ++ (clL D (upB qd i q_21) (upB cd i (w_21, a_21, b_21, c_21)) (i + 1))) A s.heap H _ := hW
                        refine lv_if_ne hx hb (x := (nI 1)) (tgt := 59) dX6_parse_51 (by decide) (fun c_51 => ?_) (fun c_51 => ?_)
                        · refine lv_iinc (v := (nI (i + 1))) (lv' := [(1, .int (nI (i + 1))), (0, .ref p0)]) hx hb dX6_parse_59 hl (k := 0) rfl (nI_1 _) (by decide) rfl (fun ls hl => ?_)
                          refine lv_goto (tgt := 14) hx hb dX6_parse_62 (by decide) ?_
                          exact ih_14 ((i + 1), u_21 + 1, fB_21, m_21, (va_up row i (some q_21)), (upB qd i q_21), (upB cd i (w_21, a_21, b_21, c_21)), e0) _ _ _ (by first | omega | (dsimp only; omega)) ⟨_, rfl, lv_sub hl [0, 1] rfl, hW, ⟨⟨by dsimp only; omega, by dsimp only; omega, by dsimp only; omega⟩, hP.step (by omega) hy_21 hs_48 he_48, row_s hR⟩⟩
                        · exact absurd c_51 (by decide)
                      · have hW := CxB.swap hW
                        have hW : CxB D ([(p3, .inr (4, [.int m_21, .ref e0, .int (nI (i + 1))])), (e0, .inl (aT 6, 10, .inr (.inr (.inr (.inr (va_up row i (some q_21))))))), (p0, .inr (9, [.ref p1, .ref p2, .ref p3, .int (nI ln), .int (nI u_21)])), (p1, .inl (aT 1, 60, .inl fX)), (p2, .inl (aT 0, 3, .inl fB_21))] ++ (clL D (upB qd i q_21) (upB cd i (w_21, a_21, b_21, c_21)) (i + 1))) A s.heap H _ := hW
                        refine lv_if_ne hx hb (x := (nI 0)) (tgt := 59) dX6_parse_51 (by decide) (fun c_51 => ?_) (fun c_51 => ?_)
                        · exact absurd rfl c_51
                        · refine lv_aload_n hx hb dX6_parse_54 rfl (lv_at hl 1 rfl) ?_
                          refine cx_get C hW 2 4 rfl rfl (by decide) inX6 gw_301 rfl rfl dX6_parse_55 ?_
                          have hW : CxB D ([(p0, .inr (9, [.ref p1, .ref p2, .ref p3, .int (nI ln), .int (nI u_21)])), (p1, .inl (aT 1, 60, .inl fX)), (p2, .inl (aT 0, 3, .inl fB_21)), (p3, .inr (4, [.int m_21, .ref e0, .int (nI (i + 1))])), (e0, .inl (aT 6, 10, .inr (.inr (.inr (.inr (va_up row i (some q_21)))))))] ++ (clL D (upB qd i q_21) (upB cd i (w_21, a_21, b_21, c_21)) (i + 1))) A s.heap H _ := cx_dropT (X := [(p3, .inr (4, [.int m_21, .ref e0, .int (nI (i + 1))])), (e0, .inl (aT 6, 10, .inr (.inr (.inr (.inr (va_up row i (some q_21))))))), (p0, .inr (9, [.ref p1, .ref p2, .ref p3, .int (nI ln), .int (nI u_21)])), (p1, .inl (aT 1, 60, .inl fX)), (p2, .inl (aT 0, 3, .inl fB_21))]) hW [2, 3, 4, 0, 1] rfl (by decide)
                          have hW : CxB D [(p0, .inr (9, [.ref p1, .ref p2, .ref p3, .int (nI ln), .int (nI u_21)])), (p1, .inl (aT 1, 60, .inl fX)), (p2, .inl (aT 0, 3, .inl fB_21)), (p3, .inr (4, [.int m_21, .ref e0, .int (nI (i + 1))])), (e0, .inl (aT 6, 10, .inr (.inr (.inr (.inr (va_up row i (some q_21)))))))] A s.heap H _ := cx_left hW
                          exact cx_iret C hr hlocks rfl hW ⟨by first | omega | (dsimp only [cxR]; omega), by first | omega | (dsimp only [cxR]; omega)⟩ (⟨_, _, Or.inl ⟨rfl, by omega, (hP.sem (by omega) hy_21 (by omega) hs_48), [(p3, .inr (4, [.int m_21, .ref e0, .int (nI (i + 1))])), (e0, .inl (aT 6, 10, .inr (.inr (.inr (.inr (va_up row i (some q_21)))))))], Or.inr ⟨_, _, _, _, by omega, rfl⟩, rfl⟩⟩) dX6_parse_58
                    · refine lv_iconst (v := (-1)) hx hb dX6_parse_43 (by decide) ?_
                      exact cx_iret C hr hlocks rfl hW ⟨by first | omega | (dsimp only [cxR]; omega), by first | omega | (dsimp only [cxR]; omega)⟩ (⟨_, _, Or.inr ⟨rfl, i + 1, _, _, _, _, _, by omega, hP.end (by omega) hy_21 (by omega), row_s hR, rfl⟩⟩) dX6_parse_44
                  · exact absurd c_24 (by decide)
            · exact absurd c_51 (by decide)
          · have hW := CxB.swap hW
            have hW : CxB D ([(p3, .inr (4, [.int m_21, .ref e_21, .int (nI 1)])), (e_21, .inl (aT 6, 10, .inr (.inr (.inr (.inr (va_up (fun _ => none) 0 (some q_21))))))), (p0, .inr (9, [.ref p1, .ref p2, .ref p3, .int (nI ln), .int (nI u_21)])), (p1, .inl (aT 1, 60, .inl fX)), (p2, .inl (aT 0, 3, .inl fB_21))] ++ (clL D (upB (fun _ => 0) 0 q_21) (upB (fun _ => (0, 0, 0, 0)) 0 (w_21, a_21, b_21, c_21)) (0 + 1))) A s.heap H _ := hW
            refine lv_if_ne hx hb (x := (nI 0)) (tgt := 59) dX6_parse_51 (by decide) (fun c_51 => ?_) (fun c_51 => ?_)
            · exact absurd rfl c_51
            · refine lv_aload_n hx hb dX6_parse_54 rfl (lv_at hl 1 rfl) ?_
              refine cx_get C hW 2 4 rfl rfl (by decide) inX6 gw_301 rfl rfl dX6_parse_55 ?_
              have hW : CxB D ([(p0, .inr (9, [.ref p1, .ref p2, .ref p3, .int (nI ln), .int (nI u_21)])), (p1, .inl (aT 1, 60, .inl fX)), (p2, .inl (aT 0, 3, .inl fB_21)), (p3, .inr (4, [.int m_21, .ref e_21, .int (nI 1)])), (e_21, .inl (aT 6, 10, .inr (.inr (.inr (.inr (va_up (fun _ => none) 0 (some q_21)))))))] ++ (clL D (upB (fun _ => 0) 0 q_21) (upB (fun _ => (0, 0, 0, 0)) 0 (w_21, a_21, b_21, c_21)) (0 + 1))) A s.heap H _ := cx_dropT (X := [(p3, .inr (4, [.int m_21, .ref e_21, .int (nI 1)])), (e_21, .inl (aT 6, 10, .inr (.inr (.inr (.inr (va_up (fun _ => none) 0 (some q_21))))))), (p0, .inr (9, [.ref p1, .ref p2, .ref p3, .int (nI ln), .int (nI u_21)])), (p1, .inl (aT 1, 60, .inl fX)), (p2, .inl (aT 0, 3, .inl fB_21))]) hW [2, 3, 4, 0, 1] rfl (by decide)
              have hW : CxB D [(p0, .inr (9, [.ref p1, .ref p2, .ref p3, .int (nI ln), .int (nI u_21)])), (p1, .inl (aT 1, 60, .inl fX)), (p2, .inl (aT 0, 3, .inl fB_21)), (p3, .inr (4, [.int m_21, .ref e_21, .int (nI 1)])), (e_21, .inl (aT 6, 10, .inr (.inr (.inr (.inr (va_up (fun _ => none) 0 (some q_21)))))))] A s.heap H _ := cx_left hW
              exact cx_iret C hr hlocks rfl hW ⟨Nat.le_of_ble_eq_true rfl, Nat.le_of_ble_eq_true rfl⟩ (⟨_, _, Or.inl ⟨rfl, by omega, (hP1.sem (Nat.zero_le _) hy_21 (by omega) hs_48), [(p3, .inr (4, [.int m_21, .ref e_21, .int (nI 1)])), (e_21, .inl (aT 6, 10, .inr (.inr (.inr (.inr (va_up (fun _ => none) 0 (some q_21)))))))], Or.inr ⟨_, _, _, _, by omega, rfl⟩, rfl⟩⟩) dX6_parse_58
        · refine lv_iconst (v := (-1)) hx hb dX6_parse_43 (by decide) ?_
          exact cx_iret C hr hlocks rfl hW ⟨Nat.le_of_ble_eq_true rfl, Nat.le_of_ble_eq_true rfl⟩ (⟨_, _, Or.inr ⟨rfl, 0 + 1, _, _, _, _, _, by omega, hP1.end (Nat.zero_le _) hy_21 (by omega), row_0, rfl⟩⟩) dX6_parse_44
      · exact absurd c_24 (by decide)
set_option maxHeartbeats 2000000 in
set_option maxRecDepth 20000 in
theorem k_parse_B (l : Launch) (hfl : l.stackTraces = false) (D : va_G) (aT : Nat → ClassId) (p0 : Nat) (p1 : Nat) (p2 : Nat) (ln : Nat) (at_ : Nat) (fX : Nat → Int32) (fA : Nat → Int32) (h60 : ln ≤ 60) (p3 : Nat) (mo : Int32) (e0 : Nat) (k : Nat) (row : Nat → Option Nat) (hk : k ≤ 10) : CxG l yX6_parse cX6_parse 2 (some (.int)) 6 24 160 151 D aT [.ref p0] [(p0, .inr (9, [.ref p1, .ref p2, .ref p3, .int (nI ln), .int (nI at_)])), (p1, .inl (aT 1, 60, .inl fX)), (p2, .inl (aT 0, 3, .inl fA)), (p3, .inr (4, [.int mo, .ref e0, .int (nI k)])), (e0, .inl (aT 6, 10, .inr (.inr (.inr (.inr row)))))] (qI D aT (fun r W1 => ∃ (u : Nat) (fB : Nat → Int32), (r = nI u ∧ u ≤ ln ∧ PrE fX ln u ∧ ∃ LL, ListF D aT p3 LL ∧ W1 = [(p0, .inr (9, [.ref p1, .ref p2, .ref p3, .int (nI ln), .int (nI u)])), (p1, .inl (aT 1, 60, .inl fX)), (p2, .inl (aT 0, 3, .inl fB))] ++ LL) ∨ (r = -1 ∧ ∃ (k : Nat) (qd : Nat → Nat) (cd : Nat → Cd) (row : Nat → Option Nat) (m2 : Int32) (e : Nat), k ≤ 10 ∧ PrK fX ln k cd ∧ (∀ j, j < k → row j = some (qd j)) ∧ W1 = [(p0, .inr (9, [.ref p1, .ref p2, .ref p3, .int (nI ln), .int (nI u)])), (p1, .inl (aT 1, 60, .inl fX)), (p2, .inl (aT 0, 3, .inl fB))] ++ ([(p3, .inr (4, [.int m2, .ref e, .int (nI k)])), (e, .inl (aT 6, 10, .inr (.inr (.inr (.inr row)))))] ++ clL D qd cd k)))) (fun _ _ => False) := by
  refine CxG.of RX6 (by decide +kernel) rfl (Nat.le_of_ble_eq_true rfl) ?_
  intro p e s m below meth c A ls C hml hl hA hr hlocks hex hnm hZ hW
  have hl : lv_has ls 2 [(0, .ref p0)] := hl
  have hx := C.1
  have hb := C.2.1
  refine lv_aload_n hx hb dX6_parse_0 rfl (lv_at hl 0 rfl) ?_
  refine cx_get C hW 0 2 rfl rfl (by decide) inX6 gw_298 rfl rfl dX6_parse_1 ?_
  refine cx_callv (Wr := [(p0, .inr (9, [.ref p1, .ref p2, .ref p3, .int (nI ln), .int (nI at_)])), (p1, .inl (aT 1, 60, .inl fX)), (p2, .inl (aT 0, 3, .inl fA))]) (cx_runV C hml hl.1 hZ hW hA (As := []) (rest := []) (k_clear_B l hfl D aT p3 mo e0 k row (by omega)) gV_X6_Jx4a65c_clear_da8c8_33 hV_Jx4a65c_clear_da8c8 rfl ⟨Nat.le_of_ble_eq_true rfl, Nat.le_of_ble_eq_true rfl⟩ ⟨Nat.le_of_ble_eq_true rfl, Nat.le_of_ble_eq_true rfl⟩ [3, 4] rfl (by decide) 3 4 rfl rfl rfl rfl (Nat.le_of_ble_eq_true rfl) dX6_parse_4) hW hA [3, 4] [0, 1, 2] rfl rfl (by decide) (by decide) (fun _ _ _ _ _ _ h9 => h9.elim) (fun W_4 H locs hq hW => ?_)
  obtain ⟨m2_4, f2_4, rfl⟩ := hq
  have hW : CxB D [(p0, .inr (9, [.ref p1, .ref p2, .ref p3, .int (nI ln), .int (nI at_)])), (p1, .inl (aT 1, 60, .inl fX)), (p2, .inl (aT 0, 3, .inl fA)), (p3, .inr (4, [.int m2_4, .ref e0, .int (nI 0)])), (e0, .inl (aT 6, 10, .inr (.inr (.inr (.inr f2_4)))))] A s.heap H _ := hW
  refine lv_aload_n hx hb dX6_parse_7 rfl (lv_at hl 0 rfl) ?_
  refine lv_iconst (v := nI 0) hx hb dX6_parse_8 (by decide) ?_
  refine cx_put C hW 0 4 (W1 := [(p0, .inr (9, [.ref p1, .ref p2, .ref p3, .int (nI ln), .int (nI 0)])), (p1, .inl (aT 1, 60, .inl fX)), (p2, .inl (aT 0, 3, .inl fA)), (p3, .inr (4, [.int m2_4, .ref e0, .int (nI 0)])), (e0, .inl (aT 6, 10, .inr (.inr (.inr (.inr f2_4)))))]) rfl rfl (by decide) inX6 tyX6 tyX6_ok nmX6 gw_301 rfl rfl rfl rfl rfl (Nat.le_of_ble_eq_true rfl) rfl dX6_parse_9 (fun H locs hW => ?_)
  refine lv_iconst (v := nI 0) hx hb dX6_parse_12 (by decide) ?_
  refine lv_istore_n (lv' := [(1, .int (nI 0)), (0, .ref p0)]) hx hb dX6_parse_13 rfl hl (by decide) rfl (fun ls hl => ?_)
  refine lv_iload_n hx hb dX6_parse_14 rfl (lv_at hl 0 rfl) ?_
  refine lv_bipush (v := nI 60) hx hb dX6_parse_15 (by decide) ?_
  refine lv_icmp_ge hx hb (x := (nI 0)) (y := (nI 60)) (tgt := 65) dX6_parse_17 (by decide) (fun c_17 => ?_) (fun c_17 => ?_)
  · exact absurd c_17 (by decide)
  · refine lv_aload_n hx hb dX6_parse_20 rfl (lv_at hl 1 rfl) ?_
    refine cx_calli (Wr := []) (cx_runV C hml hl.1 hZ hW hA (As := []) (rest := []) (k_readCommand_B l hfl D aT p0 p1 p2 ln 0 fX fA h60 (by omega) p3 m2_4 e0 0 f2_4 (by omega)) gV_X6_X6_readCommand_36 hV_X6_readCommand rfl ⟨Nat.le_of_ble_eq_true rfl, Nat.le_of_ble_eq_true rfl⟩ ⟨Nat.le_of_ble_eq_true rfl, Nat.le_of_ble_eq_true rfl⟩ [0, 1, 2, 3, 4] rfl (by decide) 0 9 rfl rfl rfl rfl (Nat.le_of_ble_eq_true rfl) dX6_parse_21) hW hA [0, 1, 2, 3, 4] [] rfl rfl (by decide) (by decide) (fun _ _ _ _ _ _ h9 => h9.elim) (fun r_21 W_21 H locs hq hW => ?_)
    rcases hq with ⟨rfl, u_21, fB_21, hx_21, hle_21, rfl⟩ | ⟨rfl, u_21, w_21, a_21, b_21, c_21, fB_21, q_21, m_21, hy_21, rfl⟩
    · have hW : CxB D [(p0, .inr (9, [.ref p1, .ref p2, .ref p3, .int (nI ln), .int (nI u_21)])), (p1, .inl (aT 1, 60, .inl fX)), (p2, .inl (aT 0, 3, .inl fB_21)), (p3, .inr (4, [.int m2_4, .ref e0, .int (nI 0)])), (e0, .inl (aT 6, 10, .inr (.inr (.inr (.inr f2_4)))))] A s.heap H _ := hW
      refine lv_if_ne hx hb (x := (nI 0)) (tgt := 32) dX6_parse_24 (by decide) (fun c_24 => ?_) (fun c_24 => ?_)
      · exact absurd rfl c_24
      · refine lv_aload_n hx hb dX6_parse_27 rfl (lv_at hl 1 rfl) ?_
        refine cx_get C hW 0 4 rfl rfl (by decide) inX6 gw_301 rfl rfl dX6_parse_28 ?_
        exact cx_iret C hr hlocks rfl hW ⟨Nat.le_of_ble_eq_true rfl, Nat.le_of_ble_eq_true rfl⟩ (⟨_, _, Or.inl ⟨rfl, by omega, ((PrC.nil (cd := fun _ => (0, 0, 0, 0))).bad (Nat.zero_le _) hx_21), [(p3, .inr (4, [.int m2_4, .ref e0, .int (nI 0)])), (e0, .inl (aT 6, 10, .inr (.inr (.inr (.inr f2_4)))))], Or.inr ⟨_, _, _, _, by omega, rfl⟩, rfl⟩⟩) dX6_parse_31
    · have hW : CxB D [(p0, .inr (9, [.ref p1, .ref p2, .ref p3, .int (nI ln), .int (nI u_21)])), (p1, .inl (aT 1, 60, .inl fX)), (p2, .inl (aT 0, 3, .inl fB_21)), (p3, .inr (4, [.int m_21, .ref e0, .int (nI (0 + 1))])), (e0, .inl (aT 6, 10, .inr (.inr (.inr (.inr (va_up f2_4 0 (some q_21))))))), (q_21, .inr (5, [.ref (zs D (10 + w_21)), .int a_21, .int b_21, .int c_21]))] A s.heap H _ := hW
      refine lv_if_ne hx hb (x := (nI 1)) (tgt := 32) dX6_parse_24 (by decide) (fun c_24 => ?_) (fun c_24 => ?_)
      · have hW : CxB D ([(p0, .inr (9, [.ref p1, .ref p2, .ref p3, .int (nI ln), .int (nI u_21)])), (p1, .inl (aT 1, 60, .inl fX)), (p2, .inl (aT 0, 3, .inl fB_21)), (p3, .inr (4, [.int m_21, .ref e0, .int (nI (0 + 1))])), (e0, .inl (aT 6, 10, .inr (.inr (.inr (.inr (va_up f2_4 0 (some q_21)))))))] ++ (clL D (upB (fun _ => 0) 0 q_21) (upB (fun _ => (0, 0, 0, 0)) 0 (w_21, a_21, b_21, c_21)) (0 + 1))) A s.heap H _ := clL_app (qd := fun _ => 0) (cd := fun _ => (0, 0, 0, 0)) (i := 0) (q := q_21) (z := (w_21, a_21, b_21, c_21)) (X := [(p0, .inr (9, [.ref p1, .ref p2, .ref p3, .int (nI ln), .int (nI u_21)])), (p1, .inl (aT 1, 60, .inl fX)), (p2, .inl (aT 0, 3, .inl fB_21)), (p3, .inr (4, [.int m_21, .ref e0, .int (nI (0 + 1))])), (e0, .inl (aT 6, 10, .inr (.inr (.inr (.inr (va_up f2_4 0 (some q_21)))))))]) hW
        have hP1 : PrC fX ln 0 0 (fun _ => (0, 0, 0, 0)) := PrC.nil
        have hle1 := hy_21.2.2.1
        have hge1 := hy_21.2.1
        refine lv_aload_n hx hb dX6_parse_32 rfl (lv_at hl 1 rfl) ?_
        refine cx_get C hW 0 4 rfl rfl (by decide) inX6 gw_301 rfl rfl dX6_parse_33 ?_
        refine lv_aload_n hx hb dX6_parse_36 rfl (lv_at hl 1 rfl) ?_
        refine cx_get C hW 0 3 rfl rfl (by decide) inX6 gw_300 rfl rfl dX6_parse_37 ?_
        refine r_ltN hx hb (a := u_21) (b := ln) (by omega) (by omega) (tgt := 45) dX6_parse_40 (by decide) (fun c_40 => ?_) (fun c_40 => ?_)
        · refine lv_aload_n hx hb dX6_parse_45 rfl (lv_at hl 1 rfl) ?_
          refine lv_bipush (v := nI 59) hx hb dX6_parse_46 (by decide) ?_
          refine cx_calli (Wr := ([(p3, .inr (4, [.int m_21, .ref e0, .int (nI (0 + 1))])), (e0, .inl (aT 6, 10, .inr (.inr (.inr (.inr (va_up f2_4 0 (some q_21)))))))] ++ (clL D (upB (fun _ => 0) 0 q_21) (upB (fun _ => (0, 0, 0, 0)) 0 (w_21, a_21, b_21, c_21)) (0 + 1)))) (cx_runV C hml hl.1 hZ hW hA (As := [.int (nI 59)]) (rest := []) (k_X6_readSign l hfl D aT p0 p1 p2 p3 ln u_21 fX fB_21 h60 (by omega) (nI 59)) gV_X6_X6_readSign_40 hV_X6_readSign rfl ⟨Nat.le_of_ble_eq_true rfl, Nat.le_of_ble_eq_true rfl⟩ ⟨Nat.le_of_ble_eq_true rfl, Nat.le_of_ble_eq_true rfl⟩ [0, 1, 2] (by exact tl_c rfl) (by decide) 0 9 rfl rfl rfl rfl (Nat.le_of_ble_eq_true rfl) dX6_parse_48) hW hA [0, 1, 2] ([3, 4] ++ tlR 5 (clL D (upB (fun _ => 0) 0 q_21) (upB (fun _ => (0, 0, 0, 0)) 0 (w_21, a_21, b_21, c_21)) (0 + 1))) (by exact tl_c rfl) (by exact tl_R rfl) (tl_nd (n := 5) (by decide) (by decide)) (tl_dis (n := 5) (by decide) (by decide)) (fun _ _ _ _ _ _ h9 => h9.elim) (fun r_48 W_48 H locs hq hW => ?_)
          rcases hq with ⟨hs_48, he_48, rfl, rfl⟩ | ⟨hs_48, rfl, rfl⟩
          · have hW := CxB.swap hW
            have hW : CxB D ([(p3, .inr (4, [.int m_21, .ref e0, .int (nI (0 + 1))])), (e0, .inl (aT 6, 10, .inr (.inr (.inr (.inr (va_up f2_4 0 (some q_21))))))), (p0, .inr (9, [.ref p1, .ref p2, .ref p3, .int (nI ln), .int (nI (u_21 + 1))])), (p1, .inl (aT 1, 60, .inl fX)), (p2, .inl (aT 0, 3, .inl fB_21))] ++ (clL D (upB (fun _ => 0) 0 q_21) (upB (fun _ => (0, 0, 0, 0)) 0 (w_21, a_21, b_21, c_21)) (0 + 1))) A s.heap H _ := hW
            refine lv_if_ne hx hb (x := (nI 1)) (tgt := 59) dX6_parse_51 (by decide) (fun c_51 => ?_) (fun c_51 => ?_)
            · refine lv_iinc (v := (nI 1)) (lv' := [(1, .int (nI 1)), (0, .ref p0)]) hx hb dX6_parse_59 hl (k := 0) rfl rfl (by decide) rfl (fun ls hl => ?_)
              refine lv_goto (tgt := 14) hx hb dX6_parse_62 (by decide) ?_
              refine W_loopC (σ := Nat × Nat × (Nat → Int32) × Int32 × (Nat → Option Nat) × (Nat → Nat) × (Nat → Cd) × Nat) (fun z_ => 60 - z_.1) (fun z_ => 2 * z_.1) (fun z_ => 14 * z_.1) (fun z_ H locs g => ∃ ls, g = F0 m 14 ls [] ∧ lv_has ls 2 [(1, .int (nI z_.1)), (0, .ref p0)] ∧ CxB D ([(p3, .inr (4, [.int z_.2.2.2.1, .ref z_.2.2.2.2.2.2.2, .int (nI z_.1)])), (z_.2.2.2.2.2.2.2, .inl (aT 6, 10, .inr (.inr (.inr (.inr z_.2.2.2.2.1))))), (p0, .inr (9, [.ref p1, .ref p2, .ref p3, .int (nI ln), .int (nI z_.2.1)])), (p1, .inl (aT 1, 60, .inl fX)), (p2, .inl (aT 0, 3, .inl z_.2.2.1))] ++ (clL D z_.2.2.2.2.2.1 z_.2.2.2.2.2.2.1 z_.1)) A s.heap H locs ∧ (1 ≤ z_.1 ∧ 7 * z_.1 ≤ z_.2.1 ∧ z_.2.1 ≤ ln) ∧ PrC fX ln z_.1 z_.2.1 z_.2.2.2.2.2.2.1 ∧ ∀ j, j < z_.1 → z_.2.2.2.2.1 j = some (z_.2.2.2.2.2.1 j)) ?_ (1, u_21 + 1, fB_21, m_21, ((va_up f2_4 0 (some q_21))), (upB (fun _ => 0) 0 q_21), (upB (fun _ => (0, 0, 0, 0)) 0 (w_21, a_21, b_21, c_21)), e0) _ ⟨_, rfl, lv_sub hl [0, 1] rfl, hW, ⟨⟨by dsimp only; omega, by dsimp only; omega, by dsimp only; omega⟩, hP1.step (Nat.zero_le _) hy_21 hs_48 he_48, row_0⟩⟩
              clear hW hl
              rintro ⟨i, u, fB, mo, row, qd, cd, e0⟩ H locs g ⟨ls, rfl, hl, hW, ⟨hiu, hP, hR⟩⟩ ih_14
              dsimp only at hl hW hiu hP hR ⊢
              refine lv_iload_n hx hb dX6_parse_14 rfl (lv_at hl 0 rfl) ?_
              refine lv_bipush (v := nI 60) hx hb dX6_parse_15 (by decide) ?_
              refine r_geN hx hb (a := i) (b := 60) (by omega) (by omega) (tgt := 65) dX6_parse_17 (by decide) (fun c_17 => ?_) (fun c_17 => ?_)
              · exact absurd c_17 (by omega)
              · refine lv_aload_n hx hb dX6_parse_20 rfl (lv_at hl 1 rfl) ?_
                refine cx_calli (Wr := ([] ++ (clL D qd cd i))) (cx_runV C hml hl.1 hZ hW hA (As := []) (rest := []) (k_readCommand_B l hfl D aT p0 p1 p2 ln u fX fB h60 (by omega) p3 mo e0 i row (by omega)) gV_X6_X6_readCommand_36 hV_X6_readCommand rfl ⟨Nat.le_of_ble_eq_true rfl, Nat.le_of_ble_eq_true rfl⟩ ⟨by first | omega | (dsimp only [cxR]; omega), by first | omega | (dsimp only [cxR]; omega)⟩ [2, 3, 4, 0, 1] (by exact tl_c rfl) (by decide) 2 9 rfl rfl rfl rfl (Nat.le_of_ble_eq_true rfl) dX6_parse_21) hW hA [2, 3, 4, 0, 1] ([] ++ tlR 5 (clL D qd cd i)) (by exact tl_c rfl) (by exact tl_R rfl) (tl_nd (n := 5) (by decide) (by decide)) (tl_dis (n := 5) (by decide) (by decide)) (fun _ _ _ _ _ _ h9 => h9.elim) (fun r_21 W_21 H locs hq hW => ?_)
                rcases hq with ⟨rfl, u_21, fB_21, hx_21, hle_21, rfl⟩ | ⟨rfl, u_21, w_21, a_21, b_21, c_21, fB_21, q_21, m_21, hy_21, rfl⟩
                · have hW := CxB.swap hW
                  have hW : CxB D ([(p0, .inr (9, [.ref p1, .ref p2, .ref p3, .int (nI ln), .int (nI u_21)])), (p1, .inl (aT 1, 60, .inl fX)), (p2, .inl (aT 0, 3, .inl fB_21)), (p3, .inr (4, [.int mo, .ref e0, .int (nI i)])), (e0, .inl (aT 6, 10, .inr (.inr (.inr (.inr row)))))] ++ (clL D qd cd i)) A s.heap H _ := hW
                  refine lv_if_ne hx hb (x := (nI 0)) (tgt := 32) dX6_parse_24 (by decide) (fun c_24 => ?_) (fun c_24 => ?_)
                  · exact absurd rfl c_24
                  · refine lv_aload_n hx hb dX6_parse_27 rfl (lv_at hl 1 rfl) ?_
                    refine cx_get C hW 0 4 rfl rfl (by decide) inX6 gw_301 rfl rfl dX6_parse_28 ?_
                    have hW : CxB D [(p0, .inr (9, [.ref p1, .ref p2, .ref p3, .int (nI ln), .int (nI u_21)])), (p1, .inl (aT 1, 60, .inl fX)), (p2, .inl (aT 0, 3, .inl fB_21)), (p3, .inr (4, [.int mo, .ref e0, .int (nI i)])), (e0, .inl (aT 6, 10, .inr (.inr (.inr (.inr row)))))] A s.heap H _ := cx_left hW
                    exact cx_iret C hr hlocks rfl hW ⟨by first | omega | (dsimp only [cxR]; omega), by first | omega | (dsimp only [cxR]; omega)⟩ (⟨_, _, Or.inl ⟨rfl, by omega, (hP.bad (by omega) hx_21), [(p3, .inr (4, [.int mo, .ref e0, .int (nI i)])), (e0, .inl (aT 6, 10, .inr (.inr (.inr (.inr row)))))], Or.inr ⟨_, _, _, _, by omega, rfl⟩, rfl⟩⟩) dX6_parse_31
                · have hW := CxB.swap hW
                  have hW : CxB D ([(p0, .inr (9, [.ref p1, .ref p2, .ref p3, .int (nI ln), .int (nI u_21)])), (p1, .inl (aT 1, 60, .inl fX)), (p2, .inl (aT 0, 3, .inl fB_21)), (p3, .inr (4, [.int m_21, .ref e0, .int (nI (i + 1))])), (e0, .inl (aT 6, 10, .inr (.inr (.inr (.inr (va_up row i (some q_21))))))), (q_21, .inr (5, [.ref (zs D (10 + w_21)), .int a_21, .int b_21, .int c_21]))] ++ (clL D qd cd i)) A s.heap H _ := hW
                  refine lv_if_ne hx hb (x := (nI 1)) (tgt := 32) dX6_parse_24 (by decide) (fun c_24 => ?_) (fun c_24 => ?_)
                  · have hW : CxB D ([(p0, .inr (9, [.ref p1, .ref p2, .ref p3, .int (nI ln), .int (nI u_21)])), (p1, .inl (aT 1, 60, .inl fX)), (p2, .inl (aT 0, 3, .inl fB_21)), (p3, .inr (4, [.int m_21, .ref e0, .int (nI (i + 1))])), (e0, .inl (aT 6, 10, .inr (.inr (.inr (.inr (va_up row i (some q_21)))))))] ++ (clL D (upB qd i q_21) (upB cd i (w_21, a_21, b_21, c_21)) (i + 1))) A s.heap H _ := clL_app (qd := qd) (cd := cd) (i := i) (q := q_21) (z := (w_21, a_21, b_21, c_21)) (X := [(p0, .inr (9, [.ref p1, .ref p2, .ref p3, .int (nI ln), .int (nI u_21)])), (p1, .inl (aT 1, 60, .inl fX)), (p2, .inl (aT 0, 3, .inl fB_21)), (p3, .inr (4, [.int m_21, .ref e0, .int (nI (i + 1))])), (e0, .inl (aT 6, 10, .inr (.inr (.inr (.inr (va_up row i (some q_21)))))))]) hW
                    have hle1 := hy_21.2.2.1
                    have hge1 := hy_21.2.1
                    refine lv_aload_n hx hb dX6_parse_32 rfl (lv_at hl 1 rfl) ?_
                    refine cx_get C hW 0 4 rfl rfl (by decide) inX6 gw_301 rfl rfl dX6_parse_33 ?_
                    refine lv_aload_n hx hb dX6_parse_36 rfl (lv_at hl 1 rfl) ?_
                    refine cx_get C hW 0 3 rfl rfl (by decide) inX6 gw_300 rfl rfl dX6_parse_37 ?_
                    refine r_ltN hx hb (a := u_21) (b := ln) (by omega) (by omega) (tgt := 45) dX6_parse_40 (by decide) (fun c_40 => ?_) (fun c_40 => ?_)
                    · refine lv_aload_n hx hb dX6_parse_45 rfl (lv_at hl 1 rfl) ?_
                      refine lv_bipush (v := nI 59) hx hb dX6_parse_46 (by decide) ?_
                      refine cx_calli (Wr := ([(p3, .inr (4, [.int m_21, .ref e0, .int (nI (i + 1))])), (e0, .inl (aT 6, 10, .inr (.inr (.inr (.inr (va_up row i (some q_21)))))))] ++ (clL D (upB qd i q_21) (upB cd i (w_21, a_21, b_21, c_21)) (i + 1)))) (cx_runV C hml hl.1 hZ hW hA (As := [.int (nI 59)]) (rest := []) (k_X6_readSign l hfl D aT p0 p1 p2 p3 ln u_21 fX fB_21 h60 (by omega) (nI 59)) gV_X6_X6_readSign_40 hV_X6_readSign rfl ⟨Nat.le_of_ble_eq_true rfl, Nat.le_of_ble_eq_true rfl⟩ ⟨by first | omega | (dsimp only [cxR]; omega), by first | omega | (dsimp only [cxR]; omega)⟩ [0, 1, 2] (by exact tl_c rfl) (by decide) 0 9 rfl rfl rfl rfl (Nat.le_of_ble_eq_true rfl) dX6_parse_48) hW hA [0, 1, 2] ([3, 4] ++ tlR 5 (clL D (upB qd i q_21) (upB cd i (w_21, a_21, b_21, c_21)) (i + 1))) (by exact tl_c rfl) (by exact tl_R rfl) (tl_nd (n := 5) (by decide) (by decide)) (tl_dis (n := 5) (by decide) (by decide)) (fun _ _ _ _ _ _ h9 => h9.elim) (fun r_48 W_48 H locs hq hW => ?_)
                      rcases hq with ⟨hs_48, he_48, rfl, rfl⟩ | ⟨hs_48, rfl, rfl⟩
                      · have hW := CxB.swap hW
                        have hW : CxB D ([(p3, .inr (4, [.int m_21, .ref e0, .int (nI (i + 1))])), (e0, .inl (aT 6, 10, .inr (.inr (.inr (.inr (va_up row i (some q_21))))))), (p0, .inr (9, [.ref p1, .ref p2, .ref p3, .int (nI ln), .int (nI (u_21 + 1))])), (p1, .inl (aT 1, 60, .inl fX)), (p2, .inl (aT 0, 3, .inl fB_21))] ++ (clL D (upB qd i q_21) (upB cd i (w_21, a_21, b_21, c_21)) (i + 1))) A s.heap H _ := hW
                        refine lv_if_ne hx hb (x := (nI 1)) (tgt := 59) dX6_parse_51 (by decide) (fun c_51 => ?_) (fun c_51 => ?_)
                        · refine lv_iinc (v := (nI (i + 1))) (lv' := [(1, .int (nI (i + 1))), (0, .ref p0)]) hx hb dX6_parse_59 hl (k := 0) rfl (nI_1 _) (by decide) rfl (fun ls hl => ?_)
                          refine lv_goto (tgt := 14) hx hb dX6_parse_62 (by decide) ?_
                          exact ih_14 ((i + 1), u_21 + 1, fB_21, m_21, (va_up row i (some q_21)), (upB qd i q_21), (upB cd i (w_21, a_21, b_21, c_21)), e0) _ _ _ (by first | omega | (dsimp only; omega)) ⟨_, rfl, lv_sub hl [0, 1] rfl, hW, ⟨⟨by dsimp only; omega, by dsimp only; omega, by dsimp only; omega⟩, hP.step (by omega) hy_21 hs_48 he_48, row_s hR⟩⟩
                        · exact absurd c_51 (by decide)
                      · have hW := CxB.swap hW
                        have hW : CxB D ([(p3, .inr (4, [.int m_21, .ref e0, .int (nI (i + 1))])), (e0, .inl (aT 6, 10, .inr (.inr (.inr (.inr (va_up row i (some q_21))))))), (p0, .inr (9, [.ref p1, .ref p2, .ref p3, .int (nI ln), .int (nI u_21)])), (p1, .inl (aT 1, 60, .inl fX)), (p2, .inl (aT 0, 3, .inl fB_21))] ++ (clL D (upB qd i q_21) (upB cd i (w_21, a_21, b_21, c_21)) (i + 1))) A s.heap H _ := hW
                        refine lv_if_ne hx hb (x := (nI 0)) (tgt := 59) dX6_parse_51 (by decide) (fun c_51 => ?_) (fun c_51 => ?_)
                        · exact absurd rfl c_51
                        · refine lv_aload_n hx hb dX6_parse_54 rfl (lv_at hl 1 rfl) ?_
                          refine cx_get C hW 2 4 rfl rfl (by decide) inX6 gw_301 rfl rfl dX6_parse_55 ?_
                          have hW : CxB D ([(p0, .inr (9, [.ref p1, .ref p2, .ref p3, .int (nI ln), .int (nI u_21)])), (p1, .inl (aT 1, 60, .inl fX)), (p2, .inl (aT 0, 3, .inl fB_21)), (p3, .inr (4, [.int m_21, .ref e0, .int (nI (i + 1))])), (e0, .inl (aT 6, 10, .inr (.inr (.inr (.inr (va_up row i (some q_21)))))))] ++ (clL D (upB qd i q_21) (upB cd i (w_21, a_21, b_21, c_21)) (i + 1))) A s.heap H _ := cx_dropT (X := [(p3, .inr (4, [.int m_21, .ref e0, .int (nI (i + 1))])), (e0, .inl (aT 6, 10, .inr (.inr (.inr (.inr (va_up row i (some q_21))))))), (p0, .inr (9, [.ref p1, .ref p2, .ref p3, .int (nI ln), .int (nI u_21)])), (p1, .inl (aT 1, 60, .inl fX)), (p2, .inl (aT 0, 3, .inl fB_21))]) hW [2, 3, 4, 0, 1] rfl (by decide)
                          have hW : CxB D [(p0, .inr (9, [.ref p1, .ref p2, .ref p3, .int (nI ln), .int (nI u_21)])), (p1, .inl (aT 1, 60, .inl fX)), (p2, .inl (aT 0, 3, .inl fB_21)), (p3, .inr (4, [.int m_21, .ref e0, .int (nI (i + 1))])), (e0, .inl (aT 6, 10, .inr (.inr (.inr (.inr (va_up row i (some q_21)))))))] A s.heap H _ := cx_left hW
                          exact cx_iret C hr hlocks rfl hW ⟨by first | omega | (dsimp only [cxR]; omega), by first | omega | (dsimp only [cxR]; omega)⟩ (⟨_, _, Or.inl ⟨rfl, by omega, (hP.sem (by omega) hy_21 (by omega) hs_48), [(p3, .inr (4, [.int m_21, .ref e0, .int (nI (i + 1))])), (e0, .inl (aT 6, 10, .inr (.inr (.inr (.inr (va_up row i (some q_21)))))))], Or.inr ⟨_, _, _, _, by omega, rfl⟩, rfl⟩⟩) dX6_parse_58
                    · refine lv_iconst (v := (-1)) hx hb dX6_parse_43 (by decide) ?_
                      exact cx_iret C hr hlocks rfl hW ⟨by first | omega | (dsimp only [cxR]; omega), by first | omega | (dsimp only [cxR]; omega)⟩ (⟨_, _, Or.inr ⟨rfl, i + 1, _, _, _, _, _, by omega, hP.end (by omega) hy_21 (by omega), row_s hR, rfl⟩⟩) dX6_parse_44
                  · exact absurd c_24 (by decide)
            · exact absurd c_51 (by decide)
          · have hW := CxB.swap hW
            have hW : CxB D ([(p3, .inr (4, [.int m_21, .ref e0, .int (nI (0 + 1))])), (e0, .inl (aT 6, 10, .inr (.inr (.inr (.inr (va_up f2_4 0 (some q_21))))))), (p0, .inr (9, [.ref p1, .ref p2, .ref p3, .int (nI ln), .int (nI u_21)])), (p1, .inl (aT 1, 60, .inl fX)), (p2, .inl (aT 0, 3, .inl fB_21))] ++ (clL D (upB (fun _ => 0) 0 q_21) (upB (fun _ => (0, 0, 0, 0)) 0 (w_21, a_21, b_21, c_21)) (0 + 1))) A s.heap H _ := hW
            refine lv_if_ne hx hb (x := (nI 0)) (tgt := 59) dX6_parse_51 (by decide) (fun c_51 => ?_) (fun c_51 => ?_)
            · exact absurd rfl c_51
            · refine lv_aload_n hx hb dX6_parse_54 rfl (lv_at hl 1 rfl) ?_
              refine cx_get C hW 2 4 rfl rfl (by decide) inX6 gw_301 rfl rfl dX6_parse_55 ?_
              have hW : CxB D ([(p0, .inr (9, [.ref p1, .ref p2, .ref p3, .int (nI ln), .int (nI u_21)])), (p1, .inl (aT 1, 60, .inl fX)), (p2, .inl (aT 0, 3, .inl fB_21)), (p3, .inr (4, [.int m_21, .ref e0, .int (nI (0 + 1))])), (e0, .inl (aT 6, 10, .inr (.inr (.inr (.inr (va_up f2_4 0 (some q_21)))))))] ++ (clL D (upB (fun _ => 0) 0 q_21) (upB (fun _ => (0, 0, 0, 0)) 0 (w_21, a_21, b_21, c_21)) (0 + 1))) A s.heap H _ := cx_dropT (X := [(p3, .inr (4, [.int m_21, .ref e0, .int (nI (0 + 1))])), (e0, .inl (aT 6, 10, .inr (.inr (.inr (.inr (va_up f2_4 0 (some q_21))))))), (p0, .inr (9, [.ref p1, .ref p2, .ref p3, .int (nI ln), .int (nI u_21)])), (p1, .inl (aT 1, 60, .inl fX)), (p2, .inl (aT 0, 3, .inl fB_21))]) hW [2, 3, 4, 0, 1] rfl (by decide)
              have hW : CxB D [(p0, .inr (9, [.ref p1, .ref p2, .ref p3, .int (nI ln), .int (nI u_21)])), (p1, .inl (aT 1, 60, .inl fX)), (p2, .inl (aT 0, 3, .inl fB_21)), (p3, .inr (4, [.int m_21, .ref e0, .int (nI (0 + 1))])), (e0, .inl (aT 6, 10, .inr (.inr (.inr (.inr (va_up f2_4 0 (some q_21)))))))] A s.heap H _ := cx_left hW
              exact cx_iret C hr hlocks rfl hW ⟨Nat.le_of_ble_eq_true rfl, Nat.le_of_ble_eq_true rfl⟩ (⟨_, _, Or.inl ⟨rfl, by omega, (hP1.sem (Nat.zero_le _) hy_21 (by omega) hs_48), [(p3, .inr (4, [.int m_21, .ref e0, .int (nI (0 + 1))])), (e0, .inl (aT 6, 10, .inr (.inr (.inr (.inr (va_up f2_4 0 (some q_21)))))))], Or.inr ⟨_, _, _, _, by omega, rfl⟩, rfl⟩⟩) dX6_parse_58
        · refine lv_iconst (v := (-1)) hx hb dX6_parse_43 (by decide) ?_
          exact cx_iret C hr hlocks rfl hW ⟨Nat.le_of_ble_eq_true rfl, Nat.le_of_ble_eq_true rfl⟩ (⟨_, _, Or.inr ⟨rfl, 0 + 1, _, _, _, _, _, by omega, hP1.end (Nat.zero_le _) hy_21 (by omega), row_0, rfl⟩⟩) dX6_parse_44
      · exact absurd c_24 (by decide)
