def kN : List String := ["HEDGE", "MAIN", "AMEND", "PRUNE", "REGROW", "VOTE", "SEASON"]
def kS : List Nat := [49, 55, 58, 61, 64, 67, 70]
def kI : List Nat := [250, 253, 257, 262, 268, 275, 283]
def sI : List Nat := [1186, 1201, 1213, 1228, 1241, 1253, 1263]
set_option maxRecDepth 100000 in
theorem fa_0 : ((flatC (Jvm.Cond.and given_1 narrow_1))[432]? = some (Cond.exactly (.string "HedgeCommittee$State" 73) "java/lang/String")) ∧ ((flatC (Jvm.Cond.and given_1 narrow_1))[472]? = some (Cond.exactly (.string "HedgeCommittee$State" 84) "java/lang/String")) ∧ ((flatC (Jvm.Cond.and given_1 narrow_1))[501]? = some (Cond.exactly (.string "HedgeCommittee$State" 162) "java/lang/String")) ∧ ((flatC (Jvm.Cond.and given_1 narrow_1))[532]? = some (Cond.exactly (.string "HedgeCommittee$State" 160) "java/lang/String")) ∧ ((flatC (Jvm.Cond.and given_1 narrow_1))[562]? = some (Cond.exactly (.string "HedgeCommittee$Motions" 39) "java/lang/String")) ∧ ((flatC (Jvm.Cond.and given_1 narrow_1))[580]? = some (Cond.exactly (.string "HedgeCommittee$State" 120) "java/lang/String")) ∧ ((flatC (Jvm.Cond.and given_1 narrow_1))[603]? = some (Cond.exactly (.string "HedgeCommittee$State" 137) "java/lang/String")) ∧ ((flatC (Jvm.Cond.and given_1 narrow_1))[616]? = some (Cond.exactly (.string "HedgeCommittee$State" 142) "java/lang/String")) ∧ ((flatC (Jvm.Cond.and given_1 narrow_1))[643]? = some (Cond.exactly (.string "HedgeCommittee" 320) "java/lang/String")) ∧ ((flatC (Jvm.Cond.and given_1 narrow_1))[660]? = some (Cond.exactly (.string "HedgeCommittee" 119) "java/lang/String")) ∧ ((flatC (Jvm.Cond.and given_1 narrow_1))[685]? = some (Cond.exactly (.string "HedgeCommittee" 322) "java/lang/String")) ∧ ((flatC (Jvm.Cond.and given_1 narrow_1))[712]? = some (Cond.exactly (.string "HedgeCommittee" 159) "java/lang/String")) ∧ ((flatC (Jvm.Cond.and given_1 narrow_1))[743]? = some (Cond.exactly (.string "HedgeCommittee" 324) "java/lang/String")) ∧ ((flatC (Jvm.Cond.and given_1 narrow_1))[778]? = some (Cond.exactly (.string "HedgeCommittee" 186) "java/lang/String")) ∧ ((flatC (Jvm.Cond.and given_1 narrow_1))[824]? = some (Cond.exactly (.string "HedgeCommittee" 209) "java/lang/String")) ∧ ((flatC (Jvm.Cond.and given_1 narrow_1))[842]? = some (Cond.exactly (.string "HedgeCommittee" 227) "java/lang/String")) ∧ ((flatC (Jvm.Cond.and given_1 narrow_1))[856]? = some (Cond.exactly (.string "HedgeCommittee" 236) "java/lang/String")) ∧ ((flatC (Jvm.Cond.and given_1 narrow_1))[876]? = some (Cond.exactly (.string "HedgeCommittee" 254) "java/lang/String")) ∧ ((flatC (Jvm.Cond.and given_1 narrow_1))[903]? = some (Cond.exactly (.string "HedgeCommittee" 267) "java/lang/String")) ∧ ((flatC (Jvm.Cond.and given_1 narrow_1))[932]? = some (Cond.exactly (.string "HedgeCommittee" 275) "java/lang/String")) := by decide +kernel
set_option maxRecDepth 100000 in
theorem fa_1 : ((flatC (Jvm.Cond.and given_1 narrow_1))[951]? = some (Cond.exactly (.string "HedgeCommittee" 286) "java/lang/String")) ∧ ((flatC (Jvm.Cond.and given_1 narrow_1))[983]? = some (Cond.exactly (.string "HedgeCommittee" 288) "java/lang/String")) ∧ ((flatC (Jvm.Cond.and given_1 narrow_1))[1118]? = some (Cond.exactly (.string "HedgeCommittee" 302) "java/lang/String")) ∧ ((flatC (Jvm.Cond.and given_1 narrow_1))[1139]? = some (Cond.exactly (.string "HedgeCommittee" 309) "java/lang/String")) ∧ ((flatC (Jvm.Cond.and given_1 narrow_1))[1164]? = some (Cond.exactly (.string "HedgeCommittee" 318) "java/lang/String")) ∧ ((flatC (Jvm.Cond.and given_1 narrow_1))[1186]? = some (Cond.exactly (.string "HedgeCommittee$Kind" 49) "java/lang/String")) ∧ ((flatC (Jvm.Cond.and given_1 narrow_1))[1201]? = some (Cond.exactly (.string "HedgeCommittee$Kind" 55) "java/lang/String")) ∧ ((flatC (Jvm.Cond.and given_1 narrow_1))[1213]? = some (Cond.exactly (.string "HedgeCommittee$Kind" 58) "java/lang/String")) ∧ ((flatC (Jvm.Cond.and given_1 narrow_1))[1228]? = some (Cond.exactly (.string "HedgeCommittee$Kind" 61) "java/lang/String")) ∧ ((flatC (Jvm.Cond.and given_1 narrow_1))[1241]? = some (Cond.exactly (.string "HedgeCommittee$Kind" 64) "java/lang/String")) ∧ ((flatC (Jvm.Cond.and given_1 narrow_1))[1253]? = some (Cond.exactly (.string "HedgeCommittee$Kind" 67) "java/lang/String")) ∧ ((flatC (Jvm.Cond.and given_1 narrow_1))[1263]? = some (Cond.exactly (.string "HedgeCommittee$Kind" 70) "java/lang/String")) ∧ ((flatC (Jvm.Cond.and given_1 narrow_1))[16]? = some (Cond.isRef (.static Bundle.tN "UNASSIGNED_STACK" Bundle.steD))) ∧ ((flatC (Jvm.Cond.and given_1 narrow_1))[17]? = some (Cond.isRef (.static Bundle.tN "SUPPRESSED_SENTINEL" Bundle.listD))) ∧ ((flatC (Jvm.Cond.and given_1 narrow_1))[4]? = some (Cond.isRef (.static "java/util/ArrayList" "DEFAULTCAPACITY_EMPTY_ELEMENTDATA" "[Ljava/lang/Object;"))) ∧ ((flatC (Jvm.Cond.and given_1 narrow_1))[8]? = some (Cond.eq (.static "java/lang/String" "COMPACT_STRINGS" "Z") (.int 1))) ∧ ((flatC (Jvm.Cond.and given_1 narrow_1))[30]? = some (Cond.isRef (.static "jdk/internal/util/Preconditions" "SIOOBE_FORMATTER" "Ljava/util/function/BiFunction;"))) ∧ ((flatC (Jvm.Cond.and given_1 narrow_1))[10]? = some (Cond.arrayOf (.static "HedgeCommittee" "LEAVES_GAINED" "[I") .int)) ∧ ((flatC (Jvm.Cond.and given_1 narrow_1))[11]? = some (Cond.eq (.length (.static "HedgeCommittee" "LEAVES_GAINED" "[I")) (.int (Int32.ofNat 4)))) ∧ (∀ j, j < 4 → (flatC (Jvm.Cond.and given_1 narrow_1))[12 + j]? = some (Cond.eq (.elem (.static "HedgeCommittee" "LEAVES_GAINED" "[I") (.int (Int32.ofNat j))) (.int (lgF j)))) := by decide +kernel
set_option maxRecDepth 100000 in
theorem fa_2 : ((flatC (Jvm.Cond.and given_1 narrow_1))[35]? = some (Cond.arrayOf (.static "HedgeCommittee$1" "$SwitchMap$HedgeCommittee$Kind" "[I") .int)) ∧ ((flatC (Jvm.Cond.and given_1 narrow_1))[36]? = some (Cond.eq (.length (.static "HedgeCommittee$1" "$SwitchMap$HedgeCommittee$Kind" "[I")) (.int (Int32.ofNat 7)))) ∧ (∀ j, j < 7 → (flatC (Jvm.Cond.and given_1 narrow_1))[37 + j]? = some (Cond.eq (.elem (.static "HedgeCommittee$1" "$SwitchMap$HedgeCommittee$Kind" "[I") (.int (Int32.ofNat j))) (.int (nI (j + 1))))) ∧ ((flatC (Jvm.Cond.and given_1 narrow_1))[45]? = some (Cond.arrayOf (.static "java/lang/Integer" "DigitOnes" "[B") .byte)) ∧ ((flatC (Jvm.Cond.and given_1 narrow_1))[46]? = some (Cond.eq (.length (.static "java/lang/Integer" "DigitOnes" "[B")) (.int (Int32.ofNat 100)))) ∧ (∀ j, j < 100 → (flatC (Jvm.Cond.and given_1 narrow_1))[47 + j]? = some (Cond.eq (.elem (.static "java/lang/Integer" "DigitOnes" "[B") (.int (Int32.ofNat j))) (.int (nI (48 + j % 10))))) ∧ ((flatC (Jvm.Cond.and given_1 narrow_1))[148]? = some (Cond.arrayOf (.static "java/lang/Integer" "DigitTens" "[B") .byte)) ∧ ((flatC (Jvm.Cond.and given_1 narrow_1))[149]? = some (Cond.eq (.length (.static "java/lang/Integer" "DigitTens" "[B")) (.int (Int32.ofNat 100)))) ∧ (∀ j, j < 100 → (flatC (Jvm.Cond.and given_1 narrow_1))[150 + j]? = some (Cond.eq (.elem (.static "java/lang/Integer" "DigitTens" "[B") (.int (Int32.ofNat j))) (.int (nI (48 + j / 10))))) ∧ ((flatC (Jvm.Cond.and given_1 narrow_1))[20]? = some (Cond.arrayOf (.static "HedgeCommittee$Program" "KINDS" "[LHedgeCommittee$Kind;") (.object "HedgeCommittee$Kind"))) ∧ ((flatC (Jvm.Cond.and given_1 narrow_1))[21]? = some (Cond.eq (.length (.static "HedgeCommittee$Program" "KINDS" "[LHedgeCommittee$Kind;")) (.int (Int32.ofNat 7)))) ∧ (∀ j, j < 7 → (flatC (Jvm.Cond.and given_1 narrow_1))[23 + j]? = some (Cond.eq (.elem (.static "HedgeCommittee$Program" "KINDS" "[LHedgeCommittee$Kind;") (.int (Int32.ofNat j))) (.static "HedgeCommittee$Kind" (kN.getD j "") "LHedgeCommittee$Kind;"))) ∧ ((flatC (Jvm.Cond.and given_1 narrow_1))[5]? = some (Cond.arrayOf (.static "java/util/ArrayList" "DEFAULTCAPACITY_EMPTY_ELEMENTDATA" "[Ljava/lang/Object;") (.object "java/lang/Object"))) ∧ ((flatC (Jvm.Cond.and given_1 narrow_1))[7]? = some (Cond.eq (.length (.static "java/util/ArrayList" "DEFAULTCAPACITY_EMPTY_ELEMENTDATA" "[Ljava/lang/Object;")) (.int (Int32.ofNat 0)))) ∧ (∀ j, j < 7 → (flatC (Jvm.Cond.and given_1 narrow_1))[kI.getD j 0]? = some (Cond.exactly (.static "HedgeCommittee$Kind" (kN.getD j "") "LHedgeCommittee$Kind;") "HedgeCommittee$Kind")) ∧ (∀ j, j < 7 → (flatC (Jvm.Cond.and given_1 narrow_1))[kI.getD j 0 + 1]? = some (Cond.eq (.field (.static "HedgeCommittee$Kind" (kN.getD j "") "LHedgeCommittee$Kind;") "java/lang/Enum" "ordinal" "I") (.int (nI j)))) ∧ (∀ j, j < 7 → (flatC (Jvm.Cond.and given_1 narrow_1))[kI.getD j 0 + 2]? = some (Cond.eq (.field (.static "HedgeCommittee$Kind" (kN.getD j "") "LHedgeCommittee$Kind;") "HedgeCommittee$Kind" "pattern" "Ljava/lang/String;") (.string "HedgeCommittee$Kind" (kS.getD j 0)))) ∧ (∀ j, j < 7 → (flatC (Jvm.Cond.and given_1 narrow_1))[sI.getD j 0]? = some (Cond.exactly (.string "HedgeCommittee$Kind" (kS.getD j 0)) "java/lang/String")) ∧ (∀ j, j < 7 → (flatC (Jvm.Cond.and given_1 narrow_1))[sI.getD j 0 + 1]? = some (Cond.eq (.field (.string "HedgeCommittee$Kind" (kS.getD j 0)) "java/lang/String" "coder" "B") (.int 0))) ∧ (∀ j, j < 7 → (flatC (Jvm.Cond.and given_1 narrow_1))[sI.getD j 0 + 2]? = some (Cond.arrayOf (.field (.string "HedgeCommittee$Kind" (kS.getD j 0)) "java/lang/String" "value" "[B") .byte)) := by decide +kernel
set_option maxRecDepth 100000 in
theorem fa_3 : (∀ j, j < 7 → (flatC (Jvm.Cond.and given_1 narrow_1))[sI.getD j 0 + 3]? = some (Cond.eq (.length (.field (.string "HedgeCommittee$Kind" (kS.getD j 0)) "java/lang/String" "value" "[B")) (.int (Int32.ofNat (kL.getD j 0))))) ∧ (∀ j, j < 7 → ∀ i, i < kL.getD j 0 → (flatC (Jvm.Cond.and given_1 narrow_1))[sI.getD j 0 + 4 + i]? = some (Cond.eq (.elem (.field (.string "HedgeCommittee$Kind" (kS.getD j 0)) "java/lang/String" "value" "[B") (.int (Int32.ofNat i))) (.int ((kB.getD j []).getD i 0)))) ∧ ((flatC (Jvm.Cond.and given_1 narrow_1))[342]? = some (Cond.not (.castable "java/lang/IllegalArgumentException" "java/util/NoSuchElementException"))) ∧ ((flatC (Jvm.Cond.and given_1 narrow_1))[343]? = some (Cond.not (.castable "java/lang/IllegalStateException" "java/util/NoSuchElementException"))) ∧ ((flatC (Jvm.Cond.and given_1 narrow_1))[303]? = some (Cond.not (.castable "java/util/NoSuchElementException" "java/lang/IllegalArgumentException"))) ∧ ((flatC (Jvm.Cond.and given_1 narrow_1))[302]? = some (Cond.not (.castable "java/lang/IllegalStateException" "java/lang/IllegalArgumentException"))) ∧ ((flatC (Jvm.Cond.and given_1 narrow_1))[323]? = some (Cond.not (.castable "java/util/NoSuchElementException" "java/lang/IllegalStateException"))) ∧ ((flatC (Jvm.Cond.and given_1 narrow_1))[322]? = some (Cond.not (.castable "java/lang/IllegalArgumentException" "java/lang/IllegalStateException"))) ∧ ((flatC (Jvm.Cond.and given_1 narrow_1))[364]? = some (Cond.not (.castable "java/util/NoSuchElementException" "java/lang/IndexOutOfBoundsException"))) ∧ ((flatC (Jvm.Cond.and given_1 narrow_1))[382]? = some (Cond.not (.castable "java/util/NoSuchElementException" "java/lang/UnsupportedOperationException"))) ∧ ((flatC (Jvm.Cond.and given_1 narrow_1))[346]? = some (Cond.not (.castable "java/lang/UnsupportedOperationException" "java/util/NoSuchElementException"))) ∧ ((flatC (Jvm.Cond.and given_1 narrow_1))[306]? = some (Cond.not (.castable "java/lang/UnsupportedOperationException" "java/lang/IllegalArgumentException"))) := by decide +kernel
/-! what stands at the entry -/
theorem sr_0 : Cond.stringRef "HedgeCommittee$State" 73 "leaves, thorns or taste out of range" ∈ tables_1 ∧ Cond.exactly (.string "HedgeCommittee$State" 73) "java/lang/String" ∈ flatC (Jvm.Cond.and given_1 narrow_1) := ⟨tb_3 (List.mem_of_getElem? (i := 59) rfl), List.mem_of_getElem? (i := 432) fa_0.1⟩
theorem sr_1 : Cond.stringRef "HedgeCommittee$State" 84 "no room for another hedge" ∈ tables_1 ∧ Cond.exactly (.string "HedgeCommittee$State" 84) "java/lang/String" ∈ flatC (Jvm.Cond.and given_1 narrow_1) := ⟨tb_3 (List.mem_of_getElem? (i := 98) rfl), List.mem_of_getElem? (i := 472) fa_0.2.1⟩
theorem sr_2 : Cond.stringRef "HedgeCommittee$State" 162 "tone or weight out of range" ∈ tables_1 ∧ Cond.exactly (.string "HedgeCommittee$State" 162) "java/lang/String" ∈ flatC (Jvm.Cond.and given_1 narrow_1) := ⟨tb_3 (List.mem_of_getElem? (i := 123) rfl), List.mem_of_getElem? (i := 501) fa_0.2.2.1⟩
theorem sr_3 : Cond.stringRef "HedgeCommittee$State" 160 "no room for another motion" ∈ tables_1 ∧ Cond.exactly (.string "HedgeCommittee$State" 160) "java/lang/String" ∈ flatC (Jvm.Cond.and given_1 narrow_1) := ⟨tb_3 (List.mem_of_getElem? (i := 132) rfl), List.mem_of_getElem? (i := 532) fa_0.2.2.2.1⟩
theorem sr_4 : Cond.stringRef "HedgeCommittee$Motions" 39 "no such motion" ∈ tables_1 ∧ Cond.exactly (.string "HedgeCommittee$Motions" 39) "java/lang/String" ∈ flatC (Jvm.Cond.and given_1 narrow_1) := ⟨tb_3 (List.mem_of_getElem? (i := 166) rfl), List.mem_of_getElem? (i := 562) fa_0.2.2.2.2.1⟩
theorem sr_5 : Cond.stringRef "HedgeCommittee$State" 120 "levels out of range" ∈ tables_1 ∧ Cond.exactly (.string "HedgeCommittee$State" 120) "java/lang/String" ∈ flatC (Jvm.Cond.and given_1 narrow_1) := ⟨tb_3 (List.mem_of_getElem? (i := 184) rfl), List.mem_of_getElem? (i := 580) fa_0.2.2.2.2.2.1⟩
theorem sr_6 : Cond.stringRef "HedgeCommittee$State" 137 "no hedges" ∈ tables_1 ∧ Cond.exactly (.string "HedgeCommittee$State" 137) "java/lang/String" ∈ flatC (Jvm.Cond.and given_1 narrow_1) := ⟨tb_3 (List.mem_of_getElem? (i := 223) rfl), List.mem_of_getElem? (i := 603) fa_0.2.2.2.2.2.2.1⟩
theorem sr_7 : Cond.stringRef "HedgeCommittee$State" 142 "the motion is not a tip" ∈ tables_1 ∧ Cond.exactly (.string "HedgeCommittee$State" 142) "java/lang/String" ∈ flatC (Jvm.Cond.and given_1 narrow_1) := ⟨tb_3 (List.mem_of_getElem? (i := 225) rfl), List.mem_of_getElem? (i := 616) fa_0.2.2.2.2.2.2.2.1⟩
theorem sr_8 : Cond.stringRef "HedgeCommittee" 320 "no such hedge" ∈ tables_1 ∧ Cond.exactly (.string "HedgeCommittee" 320) "java/lang/String" ∈ flatC (Jvm.Cond.and given_1 narrow_1) := ⟨tb_4 (List.mem_of_getElem? (i := 58) rfl), List.mem_of_getElem? (i := 643) fa_0.2.2.2.2.2.2.2.2.1⟩
theorem sr_9 : Cond.stringRef "HedgeCommittee" 119 "no hedge at this rank" ∈ tables_1 ∧ Cond.exactly (.string "HedgeCommittee" 119) "java/lang/String" ∈ flatC (Jvm.Cond.and given_1 narrow_1) := ⟨tb_4 (List.mem_of_getElem? (i := 77) rfl), List.mem_of_getElem? (i := 660) fa_0.2.2.2.2.2.2.2.2.2.1⟩
theorem sr_10 : Cond.stringRef "HedgeCommittee" 322 "no motion at this place" ∈ tables_1 ∧ Cond.exactly (.string "HedgeCommittee" 322) "java/lang/String" ∈ flatC (Jvm.Cond.and given_1 narrow_1) := ⟨tb_4 (List.mem_of_getElem? (i := 119) rfl), List.mem_of_getElem? (i := 685) fa_0.2.2.2.2.2.2.2.2.2.2.1⟩
theorem sr_11 : Cond.stringRef "HedgeCommittee" 159 "a main motion has no parent" ∈ tables_1 ∧ Cond.exactly (.string "HedgeCommittee" 159) "java/lang/String" ∈ flatC (Jvm.Cond.and given_1 narrow_1) := ⟨tb_4 (List.mem_of_getElem? (i := 141) rfl), List.mem_of_getElem? (i := 712) fa_0.2.2.2.2.2.2.2.2.2.2.2.1⟩
theorem sr_12 : Cond.stringRef "HedgeCommittee" 324 "no branch contains both motions" ∈ tables_1 ∧ Cond.exactly (.string "HedgeCommittee" 324) "java/lang/String" ∈ flatC (Jvm.Cond.and given_1 narrow_1) := ⟨tb_4 (List.mem_of_getElem? (i := 219) rfl), List.mem_of_getElem? (i := 743) fa_0.2.2.2.2.2.2.2.2.2.2.2.2.1⟩
theorem sr_13 : Cond.stringRef "HedgeCommittee" 186 "no path leads from one motion to the other" ∈ tables_1 ∧ Cond.exactly (.string "HedgeCommittee" 186) "java/lang/String" ∈ flatC (Jvm.Cond.and given_1 narrow_1) := ⟨tb_5 (List.mem_of_getElem? (i := 1) rfl), List.mem_of_getElem? (i := 778) fa_0.2.2.2.2.2.2.2.2.2.2.2.2.2.1⟩
theorem sr_14 : Cond.stringRef "HedgeCommittee" 209 "no such season" ∈ tables_1 ∧ Cond.exactly (.string "HedgeCommittee" 209) "java/lang/String" ∈ flatC (Jvm.Cond.and given_1 narrow_1) := ⟨tb_5 (List.mem_of_getElem? (i := 26) rfl), List.mem_of_getElem? (i := 824) fa_0.2.2.2.2.2.2.2.2.2.2.2.2.2.2.1⟩
theorem sr_15 : Cond.stringRef "HedgeCommittee" 227 "no hedges" ∈ tables_1 ∧ Cond.exactly (.string "HedgeCommittee" 227) "java/lang/String" ∈ flatC (Jvm.Cond.and given_1 narrow_1) := ⟨tb_5 (List.mem_of_getElem? (i := 50) rfl), List.mem_of_getElem? (i := 842) fa_0.2.2.2.2.2.2.2.2.2.2.2.2.2.2.2.1⟩
theorem sr_16 : Cond.stringRef "HedgeCommittee" 236 "no vote was held" ∈ tables_1 ∧ Cond.exactly (.string "HedgeCommittee" 236) "java/lang/String" ∈ flatC (Jvm.Cond.and given_1 narrow_1) := ⟨tb_5 (List.mem_of_getElem? (i := 60) rfl), List.mem_of_getElem? (i := 856) fa_0.2.2.2.2.2.2.2.2.2.2.2.2.2.2.2.2.1⟩
theorem sr_17 : Cond.stringRef "HedgeCommittee" 254 "the text buffer is full" ∈ tables_1 ∧ Cond.exactly (.string "HedgeCommittee" 254) "java/lang/String" ∈ flatC (Jvm.Cond.and given_1 narrow_1) := ⟨tb_5 (List.mem_of_getElem? (i := 73) rfl), List.mem_of_getElem? (i := 876) fa_0.2.2.2.2.2.2.2.2.2.2.2.2.2.2.2.2.2.1⟩
theorem sr_18 : Cond.stringRef "HedgeCommittee" 267 "the text is not a program" ∈ tables_1 ∧ Cond.exactly (.string "HedgeCommittee" 267) "java/lang/String" ∈ flatC (Jvm.Cond.and given_1 narrow_1) := ⟨tb_6 (List.mem_of_getElem? (i := 13) rfl), List.mem_of_getElem? (i := 903) fa_0.2.2.2.2.2.2.2.2.2.2.2.2.2.2.2.2.2.2.1⟩
theorem sr_19 : Cond.stringRef "HedgeCommittee" 275 "a command fails" ∈ tables_1 ∧ Cond.exactly (.string "HedgeCommittee" 275) "java/lang/String" ∈ flatC (Jvm.Cond.and given_1 narrow_1) := ⟨tb_6 (List.mem_of_getElem? (i := 51) rfl), List.mem_of_getElem? (i := 932) fa_0.2.2.2.2.2.2.2.2.2.2.2.2.2.2.2.2.2.2.2⟩
theorem sr_20 : Cond.stringRef "HedgeCommittee" 286 "no error position was stored" ∈ tables_1 ∧ Cond.exactly (.string "HedgeCommittee" 286) "java/lang/String" ∈ flatC (Jvm.Cond.and given_1 narrow_1) := ⟨tb_6 (List.mem_of_getElem? (i := 59) rfl), List.mem_of_getElem? (i := 951) fa_1.1⟩
theorem sr_21 : Cond.stringRef "HedgeCommittee" 288 "no failed command was stored" ∈ tables_1 ∧ Cond.exactly (.string "HedgeCommittee" 288) "java/lang/String" ∈ flatC (Jvm.Cond.and given_1 narrow_1) := ⟨tb_6 (List.mem_of_getElem? (i := 67) rfl), List.mem_of_getElem? (i := 983) fa_1.2.1⟩
theorem sr_22 : Cond.stringRef "HedgeCommittee" 302 "no such character" ∈ tables_1 ∧ Cond.exactly (.string "HedgeCommittee" 302) "java/lang/String" ∈ flatC (Jvm.Cond.and given_1 narrow_1) := ⟨tb_7 (List.mem_of_getElem? (i := 80) rfl), List.mem_of_getElem? (i := 1118) fa_1.2.2.1⟩
theorem sr_23 : Cond.stringRef "HedgeCommittee" 309 "no call can be undone" ∈ tables_1 ∧ Cond.exactly (.string "HedgeCommittee" 309) "java/lang/String" ∈ flatC (Jvm.Cond.and given_1 narrow_1) := ⟨tb_7 (List.mem_of_getElem? (i := 98) rfl), List.mem_of_getElem? (i := 1139) fa_1.2.2.2.1⟩
theorem sr_24 : Cond.stringRef "HedgeCommittee" 318 "no state was saved" ∈ tables_1 ∧ Cond.exactly (.string "HedgeCommittee" 318) "java/lang/String" ∈ flatC (Jvm.Cond.and given_1 narrow_1) := ⟨tb_7 (List.mem_of_getElem? (i := 110) rfl), List.mem_of_getElem? (i := 1164) fa_1.2.2.2.2.1⟩
theorem sr_25 : Cond.stringRef "HedgeCommittee$Kind" 49 "hedge # ? ?" ∈ tables_1 ∧ Cond.exactly (.string "HedgeCommittee$Kind" 49) "java/lang/String" ∈ flatC (Jvm.Cond.and given_1 narrow_1) := ⟨tb_9 (List.mem_of_getElem? (i := 167) rfl), List.mem_of_getElem? (i := 1186) fa_1.2.2.2.2.2.1⟩
theorem sr_26 : Cond.stringRef "HedgeCommittee$Kind" 55 "main ? #" ∈ tables_1 ∧ Cond.exactly (.string "HedgeCommittee$Kind" 55) "java/lang/String" ∈ flatC (Jvm.Cond.and given_1 narrow_1) := ⟨tb_9 (List.mem_of_getElem? (i := 168) rfl), List.mem_of_getElem? (i := 1201) fa_1.2.2.2.2.2.2.1⟩
theorem sr_27 : Cond.stringRef "HedgeCommittee$Kind" 58 "amend # ? #" ∈ tables_1 ∧ Cond.exactly (.string "HedgeCommittee$Kind" 58) "java/lang/String" ∈ flatC (Jvm.Cond.and given_1 narrow_1) := ⟨tb_9 (List.mem_of_getElem? (i := 169) rfl), List.mem_of_getElem? (i := 1213) fa_1.2.2.2.2.2.2.2.1⟩
theorem sr_28 : Cond.stringRef "HedgeCommittee$Kind" 61 "prune # ?" ∈ tables_1 ∧ Cond.exactly (.string "HedgeCommittee$Kind" 61) "java/lang/String" ∈ flatC (Jvm.Cond.and given_1 narrow_1) := ⟨tb_9 (List.mem_of_getElem? (i := 170) rfl), List.mem_of_getElem? (i := 1228) fa_1.2.2.2.2.2.2.2.2.1⟩
theorem sr_29 : Cond.stringRef "HedgeCommittee$Kind" 64 "regrow #" ∈ tables_1 ∧ Cond.exactly (.string "HedgeCommittee$Kind" 64) "java/lang/String" ∈ flatC (Jvm.Cond.and given_1 narrow_1) := ⟨tb_9 (List.mem_of_getElem? (i := 171) rfl), List.mem_of_getElem? (i := 1241) fa_1.2.2.2.2.2.2.2.2.2.1⟩
theorem sr_30 : Cond.stringRef "HedgeCommittee$Kind" 67 "vote #" ∈ tables_1 ∧ Cond.exactly (.string "HedgeCommittee$Kind" 67) "java/lang/String" ∈ flatC (Jvm.Cond.and given_1 narrow_1) := ⟨tb_9 (List.mem_of_getElem? (i := 172) rfl), List.mem_of_getElem? (i := 1253) fa_1.2.2.2.2.2.2.2.2.2.2.1⟩
theorem sr_31 : Cond.stringRef "HedgeCommittee$Kind" 70 "season" ∈ tables_1 ∧ Cond.exactly (.string "HedgeCommittee$Kind" 70) "java/lang/String" ∈ flatC (Jvm.Cond.and given_1 narrow_1) := ⟨tb_9 (List.mem_of_getElem? (i := 173) rfl), List.mem_of_getElem? (i := 1263) fa_1.2.2.2.2.2.2.2.2.2.2.2.1⟩
theorem strs_ok : ∀ q ∈ strs, Cond.stringRef q.1 q.2.1 q.2.2 ∈ tables_1 ∧ Cond.exactly (.string q.1 q.2.1) "java/lang/String" ∈ flatC (Jvm.Cond.and given_1 narrow_1) := List.forall_mem_cons.mpr ⟨sr_0, List.forall_mem_cons.mpr ⟨sr_1, List.forall_mem_cons.mpr ⟨sr_2, List.forall_mem_cons.mpr ⟨sr_3, List.forall_mem_cons.mpr ⟨sr_4, List.forall_mem_cons.mpr ⟨sr_5, List.forall_mem_cons.mpr ⟨sr_6, List.forall_mem_cons.mpr ⟨sr_7, List.forall_mem_cons.mpr ⟨sr_8, List.forall_mem_cons.mpr ⟨sr_9, List.forall_mem_cons.mpr ⟨sr_10, List.forall_mem_cons.mpr ⟨sr_11, List.forall_mem_cons.mpr ⟨sr_12, List.forall_mem_cons.mpr ⟨sr_13, List.forall_mem_cons.mpr ⟨sr_14, List.forall_mem_cons.mpr ⟨sr_15, List.forall_mem_cons.mpr ⟨sr_16, List.forall_mem_cons.mpr ⟨sr_17, List.forall_mem_cons.mpr ⟨sr_18, List.forall_mem_cons.mpr ⟨sr_19, List.forall_mem_cons.mpr ⟨sr_20, List.forall_mem_cons.mpr ⟨sr_21, List.forall_mem_cons.mpr ⟨sr_22, List.forall_mem_cons.mpr ⟨sr_23, List.forall_mem_cons.mpr ⟨sr_24, List.forall_mem_cons.mpr ⟨sr_25, List.forall_mem_cons.mpr ⟨sr_26, List.forall_mem_cons.mpr ⟨sr_27, List.forall_mem_cons.mpr ⟨sr_28, List.forall_mem_cons.mpr ⟨sr_29, List.forall_mem_cons.mpr ⟨sr_30, List.forall_mem_cons.mpr ⟨sr_31, fun _ h => absurd h List.not_mem_nil⟩⟩⟩⟩⟩⟩⟩⟩⟩⟩⟩⟩⟩⟩⟩⟩⟩⟩⟩⟩⟩⟩⟩⟩⟩⟩⟩⟩⟩⟩⟩⟩
theorem fl_U : Cond.isRef (.static Bundle.tN "UNASSIGNED_STACK" Bundle.steD) ∈ flatC (Jvm.Cond.and given_1 narrow_1) := List.mem_of_getElem? (i := 16) fa_1.2.2.2.2.2.2.2.2.2.2.2.2.1
theorem fl_N : Cond.isRef (.static Bundle.tN "SUPPRESSED_SENTINEL" Bundle.listD) ∈ flatC (Jvm.Cond.and given_1 narrow_1) := List.mem_of_getElem? (i := 17) fa_1.2.2.2.2.2.2.2.2.2.2.2.2.2.1
theorem fl_E : Cond.isRef (.static "java/util/ArrayList" "DEFAULTCAPACITY_EMPTY_ELEMENTDATA" "[Ljava/lang/Object;") ∈ flatC (Jvm.Cond.and given_1 narrow_1) := List.mem_of_getElem? (i := 4) fa_1.2.2.2.2.2.2.2.2.2.2.2.2.2.2.1
theorem fl_C : Cond.eq (.static "java/lang/String" "COMPACT_STRINGS" "Z") (.int 1) ∈ flatC (Jvm.Cond.and given_1 narrow_1) := List.mem_of_getElem? (i := 8) fa_1.2.2.2.2.2.2.2.2.2.2.2.2.2.2.2.1
theorem fl_S : Cond.isRef (.static "jdk/internal/util/Preconditions" "SIOOBE_FORMATTER" "Ljava/util/function/BiFunction;") ∈ flatC (Jvm.Cond.and given_1 narrow_1) := List.mem_of_getElem? (i := 30) fa_1.2.2.2.2.2.2.2.2.2.2.2.2.2.2.2.2.1
theorem fl_nw {w : Cond} {i : Nat} (h : (flatC (Jvm.Cond.and given_1 narrow_1))[i]? = some w) : w ∈ flatC (Jvm.Cond.and given_1 narrow_1) := List.mem_of_getElem? h
theorem fz_lga : (flatC (Jvm.Cond.and given_1 narrow_1))[10]? = some (Cond.arrayOf (.static "HedgeCommittee" "LEAVES_GAINED" "[I") .int) := fa_1.2.2.2.2.2.2.2.2.2.2.2.2.2.2.2.2.2.1
theorem fz_lgl : (flatC (Jvm.Cond.and given_1 narrow_1))[11]? = some (Cond.eq (.length (.static "HedgeCommittee" "LEAVES_GAINED" "[I")) (.int (Int32.ofNat 4))) := fa_1.2.2.2.2.2.2.2.2.2.2.2.2.2.2.2.2.2.2.1
theorem fz_lg : ∀ j, j < 4 → (flatC (Jvm.Cond.and given_1 narrow_1))[12 + j]? = some (Cond.eq (.elem (.static "HedgeCommittee" "LEAVES_GAINED" "[I") (.int (Int32.ofNat j))) (.int (lgF j))) := fa_1.2.2.2.2.2.2.2.2.2.2.2.2.2.2.2.2.2.2.2
theorem fz_swa : (flatC (Jvm.Cond.and given_1 narrow_1))[35]? = some (Cond.arrayOf (.static "HedgeCommittee$1" "$SwitchMap$HedgeCommittee$Kind" "[I") .int) := fa_2.1
theorem fz_swl : (flatC (Jvm.Cond.and given_1 narrow_1))[36]? = some (Cond.eq (.length (.static "HedgeCommittee$1" "$SwitchMap$HedgeCommittee$Kind" "[I")) (.int (Int32.ofNat 7))) := fa_2.2.1
theorem fz_sw : ∀ j, j < 7 → (flatC (Jvm.Cond.and given_1 narrow_1))[37 + j]? = some (Cond.eq (.elem (.static "HedgeCommittee$1" "$SwitchMap$HedgeCommittee$Kind" "[I") (.int (Int32.ofNat j))) (.int (nI (j + 1)))) := fa_2.2.2.1
theorem fz_doa : (flatC (Jvm.Cond.and given_1 narrow_1))[45]? = some (Cond.arrayOf (.static "java/lang/Integer" "DigitOnes" "[B") .byte) := fa_2.2.2.2.1
theorem fz_dol : (flatC (Jvm.Cond.and given_1 narrow_1))[46]? = some (Cond.eq (.length (.static "java/lang/Integer" "DigitOnes" "[B")) (.int (Int32.ofNat 100))) := fa_2.2.2.2.2.1
theorem fz_do : ∀ j, j < 100 → (flatC (Jvm.Cond.and given_1 narrow_1))[47 + j]? = some (Cond.eq (.elem (.static "java/lang/Integer" "DigitOnes" "[B") (.int (Int32.ofNat j))) (.int (nI (48 + j % 10)))) := fa_2.2.2.2.2.2.1
theorem fz_dta : (flatC (Jvm.Cond.and given_1 narrow_1))[148]? = some (Cond.arrayOf (.static "java/lang/Integer" "DigitTens" "[B") .byte) := fa_2.2.2.2.2.2.2.1
theorem fz_dtl : (flatC (Jvm.Cond.and given_1 narrow_1))[149]? = some (Cond.eq (.length (.static "java/lang/Integer" "DigitTens" "[B")) (.int (Int32.ofNat 100))) := fa_2.2.2.2.2.2.2.2.1
theorem fz_dt : ∀ j, j < 100 → (flatC (Jvm.Cond.and given_1 narrow_1))[150 + j]? = some (Cond.eq (.elem (.static "java/lang/Integer" "DigitTens" "[B") (.int (Int32.ofNat j))) (.int (nI (48 + j / 10)))) := fa_2.2.2.2.2.2.2.2.2.1
theorem fz_ksa : (flatC (Jvm.Cond.and given_1 narrow_1))[20]? = some (Cond.arrayOf (.static "HedgeCommittee$Program" "KINDS" "[LHedgeCommittee$Kind;") (.object "HedgeCommittee$Kind")) := fa_2.2.2.2.2.2.2.2.2.2.1
theorem fz_ksl : (flatC (Jvm.Cond.and given_1 narrow_1))[21]? = some (Cond.eq (.length (.static "HedgeCommittee$Program" "KINDS" "[LHedgeCommittee$Kind;")) (.int (Int32.ofNat 7))) := fa_2.2.2.2.2.2.2.2.2.2.2.1
theorem fz_ks : ∀ j, j < 7 → (flatC (Jvm.Cond.and given_1 narrow_1))[23 + j]? = some (Cond.eq (.elem (.static "HedgeCommittee$Program" "KINDS" "[LHedgeCommittee$Kind;") (.int (Int32.ofNat j))) (.static "HedgeCommittee$Kind" (kN.getD j "") "LHedgeCommittee$Kind;")) := fa_2.2.2.2.2.2.2.2.2.2.2.2.1
theorem fz_ema : (flatC (Jvm.Cond.and given_1 narrow_1))[5]? = some (Cond.arrayOf (.static "java/util/ArrayList" "DEFAULTCAPACITY_EMPTY_ELEMENTDATA" "[Ljava/lang/Object;") (.object "java/lang/Object")) := fa_2.2.2.2.2.2.2.2.2.2.2.2.2.1
theorem fz_eml : (flatC (Jvm.Cond.and given_1 narrow_1))[7]? = some (Cond.eq (.length (.static "java/util/ArrayList" "DEFAULTCAPACITY_EMPTY_ELEMENTDATA" "[Ljava/lang/Object;")) (.int (Int32.ofNat 0))) := fa_2.2.2.2.2.2.2.2.2.2.2.2.2.2.1
theorem fz_ke : ∀ j, j < 7 → (flatC (Jvm.Cond.and given_1 narrow_1))[kI.getD j 0]? = some (Cond.exactly (.static "HedgeCommittee$Kind" (kN.getD j "") "LHedgeCommittee$Kind;") "HedgeCommittee$Kind") := fa_2.2.2.2.2.2.2.2.2.2.2.2.2.2.2.1
theorem fz_ko : ∀ j, j < 7 → (flatC (Jvm.Cond.and given_1 narrow_1))[kI.getD j 0 + 1]? = some (Cond.eq (.field (.static "HedgeCommittee$Kind" (kN.getD j "") "LHedgeCommittee$Kind;") "java/lang/Enum" "ordinal" "I") (.int (nI j))) := fa_2.2.2.2.2.2.2.2.2.2.2.2.2.2.2.2.1
theorem fz_kp : ∀ j, j < 7 → (flatC (Jvm.Cond.and given_1 narrow_1))[kI.getD j 0 + 2]? = some (Cond.eq (.field (.static "HedgeCommittee$Kind" (kN.getD j "") "LHedgeCommittee$Kind;") "HedgeCommittee$Kind" "pattern" "Ljava/lang/String;") (.string "HedgeCommittee$Kind" (kS.getD j 0))) := fa_2.2.2.2.2.2.2.2.2.2.2.2.2.2.2.2.2.1
theorem fs_ex : ∀ j, j < 7 → (flatC (Jvm.Cond.and given_1 narrow_1))[sI.getD j 0]? = some (Cond.exactly (.string "HedgeCommittee$Kind" (kS.getD j 0)) "java/lang/String") := fa_2.2.2.2.2.2.2.2.2.2.2.2.2.2.2.2.2.2.1
theorem fs_co : ∀ j, j < 7 → (flatC (Jvm.Cond.and given_1 narrow_1))[sI.getD j 0 + 1]? = some (Cond.eq (.field (.string "HedgeCommittee$Kind" (kS.getD j 0)) "java/lang/String" "coder" "B") (.int 0)) := fa_2.2.2.2.2.2.2.2.2.2.2.2.2.2.2.2.2.2.2.1
theorem fs_ar : ∀ j, j < 7 → (flatC (Jvm.Cond.and given_1 narrow_1))[sI.getD j 0 + 2]? = some (Cond.arrayOf (.field (.string "HedgeCommittee$Kind" (kS.getD j 0)) "java/lang/String" "value" "[B") .byte) := fa_2.2.2.2.2.2.2.2.2.2.2.2.2.2.2.2.2.2.2.2
theorem fs_le : ∀ j, j < 7 → (flatC (Jvm.Cond.and given_1 narrow_1))[sI.getD j 0 + 3]? = some (Cond.eq (.length (.field (.string "HedgeCommittee$Kind" (kS.getD j 0)) "java/lang/String" "value" "[B")) (.int (Int32.ofNat (kL.getD j 0)))) := fa_3.1
theorem fs_el : ∀ j, j < 7 → ∀ i, i < kL.getD j 0 → (flatC (Jvm.Cond.and given_1 narrow_1))[sI.getD j 0 + 4 + i]? = some (Cond.eq (.elem (.field (.string "HedgeCommittee$Kind" (kS.getD j 0)) "java/lang/String" "value" "[B") (.int (Int32.ofNat i))) (.int ((kB.getD j []).getD i 0))) := fa_3.2.1
theorem fn_0 : (flatC (Jvm.Cond.and given_1 narrow_1))[342]? = some (Cond.not (.castable "java/lang/IllegalArgumentException" "java/util/NoSuchElementException")) := fa_3.2.2.1
theorem fn_1 : (flatC (Jvm.Cond.and given_1 narrow_1))[343]? = some (Cond.not (.castable "java/lang/IllegalStateException" "java/util/NoSuchElementException")) := fa_3.2.2.2.1
theorem fn_2 : (flatC (Jvm.Cond.and given_1 narrow_1))[303]? = some (Cond.not (.castable "java/util/NoSuchElementException" "java/lang/IllegalArgumentException")) := fa_3.2.2.2.2.1
theorem fn_3 : (flatC (Jvm.Cond.and given_1 narrow_1))[302]? = some (Cond.not (.castable "java/lang/IllegalStateException" "java/lang/IllegalArgumentException")) := fa_3.2.2.2.2.2.1
theorem fn_4 : (flatC (Jvm.Cond.and given_1 narrow_1))[323]? = some (Cond.not (.castable "java/util/NoSuchElementException" "java/lang/IllegalStateException")) := fa_3.2.2.2.2.2.2.1
theorem fn_5 : (flatC (Jvm.Cond.and given_1 narrow_1))[322]? = some (Cond.not (.castable "java/lang/IllegalArgumentException" "java/lang/IllegalStateException")) := fa_3.2.2.2.2.2.2.2.1
theorem fn_6 : (flatC (Jvm.Cond.and given_1 narrow_1))[364]? = some (Cond.not (.castable "java/util/NoSuchElementException" "java/lang/IndexOutOfBoundsException")) := fa_3.2.2.2.2.2.2.2.2.1
theorem fn_7 : (flatC (Jvm.Cond.and given_1 narrow_1))[382]? = some (Cond.not (.castable "java/util/NoSuchElementException" "java/lang/UnsupportedOperationException")) := fa_3.2.2.2.2.2.2.2.2.2.1
theorem fn_8 : (flatC (Jvm.Cond.and given_1 narrow_1))[346]? = some (Cond.not (.castable "java/lang/UnsupportedOperationException" "java/util/NoSuchElementException")) := fa_3.2.2.2.2.2.2.2.2.2.2.1
theorem fn_9 : (flatC (Jvm.Cond.and given_1 narrow_1))[306]? = some (Cond.not (.castable "java/lang/UnsupportedOperationException" "java/lang/IllegalArgumentException")) := fa_3.2.2.2.2.2.2.2.2.2.2.2
theorem ncs_len : ncs.length = 10 := rfl
theorem zt_T {ty : FieldType} {t N : Nat} {f g : Nat → Value} {A : Nat → Prop} {U : State} {H : Heap} (h : va_T ty t N f A U H) (e : ∀ j, j < N → f j = g j) : va_T ty t N g A U H := by
  obtain ⟨cell, a1, a2, a3, a4, a5, a6, a7⟩ := h
  exact ⟨cell, a1, a2, a3, a4, a5, fun j hj => by rw [← e j hj]; exact a6 j hj, a7⟩
theorem zt_E {N : Nat} {c n d : String} {v w : Nat → Value} {ad bd : Nat → Nat} {A : Nat → Prop} {U : State} {H : Heap} (h : va_Ef N c n d v ad A U H) (e : ∀ j, j < N → ad j = bd j) (e2 : ∀ j, j < N → v j = w j) : va_Ef N c n d w bd A U H := fun i hi => by
  rw [← e i hi, ← e2 i hi]
  exact h i hi
theorem zt_S {N : Nat} {len : List Nat} {byt : List (List Int32)} {a1 v1 a2 v2 : Nat → Nat} {A : Nat → Prop} {U : State} {H : Heap} (h : vk_S N len byt a1 v1 A U H) (e : ∀ j, j < N → a1 j = a2 j) (e2 : ∀ j, j < N → v1 j = v2 j) : vk_S N len byt a2 v2 A U H :=
  ⟨fun i hi => by rw [← e i hi, ← e2 i hi]; exact h.1 i hi, fun i j hi hj h9 => h.2 i j hi hj (by rw [e i hi, e j hj]; exact h9)⟩
theorem el_cong {args : Array Value} {s : State} {t1 t2 k : Term} {c n d : String} (h : t1.eval args s none [] s = t2.eval args s none [] s) : (Term.elem (.field t1 c n d) k).eval args s none [] s = (Term.elem (.field t2 c n d) k).eval args s none [] s := by
  simp only [Term.eval, h]
theorem kB_ne : ∀ i, i < 7 → ∀ j, j < 7 → i ≠ j → (kB.getD i []).getD 0 0 ≠ (kB.getD j []).getD 0 0 := by decide +kernel
theorem kL_pos : ∀ i, i < 7 → 0 < kL.getD i 0 ∧ kL.getD i 0 < 2 ^ 31 := by decide +kernel
def zF (t ad ak av : Nat → Nat) (k : Nat) : Nat := if k < 10 then t k else if k < 20 then ad (k - 10) else if k < 30 then ak (k - 20) else av (k - 30)
theorem zF_a {t ad ak av : Nat → Nat} {j : Nat} (h : j < 7) : zF t ad ak av (10 + j) = ad j := by
  unfold zF
  rw [if_neg (by omega), if_pos (by omega), Nat.add_sub_cancel_left]
theorem zF_k {t ad ak av : Nat → Nat} {j : Nat} (h : j < 7) : zF t ad ak av (20 + j) = ak j := by
  unfold zF
  rw [if_neg (by omega), if_neg (by omega), if_pos (by omega), Nat.add_sub_cancel_left]
theorem zF_v {t ad ak av : Nat → Nat} {j : Nat} (h : j < 7) : zF t ad ak av (30 + j) = av j := by
  unfold zF
  rw [if_neg (by omega), if_neg (by omega), if_neg (by omega), Nat.add_sub_cancel_left]
set_option maxRecDepth 20000 in
theorem law_S {s : State} {b : Nat} (hts : ∀ w ∈ lw_tbl, w.before #[Value.ref b] s = true) (hgv : (Jvm.Cond.and given_1 narrow_1).before #[Value.ref b] s = true) : ∃ Z : Nat → Nat, ∀ D : va_G, (∀ k, zs D k = Z k) → cS D (fun q => s.heap.size ≤ q) s s.heap := by
  have htb : ∀ w ∈ tables_1, w.before #[Value.ref b] s = true := fun w h => hts w (List.mem_append_right _ (List.mem_append_right _ h))
  have hfl := flat_of_before _ hgv
  have fl : ∀ {i : Nat} {w : Cond}, (flatC (Jvm.Cond.and given_1 narrow_1))[i]? = some w → w.before #[Value.ref b] s = true := fun h => hfl _ (fl_nw h)
  have hA : ∀ a : Nat, a < s.heap.size → ¬ (fun q : Nat => s.heap.size ≤ q) a := fun a h q => absurd q (Nat.not_le.mpr h)
  have k0 : ∀ i : Nat, ∃ t : Nat, i < 7 → (Term.static "HedgeCommittee$Kind" (kN.getD i "") "LHedgeCommittee$Kind;").eval #[Value.ref b] s none [] s = some (.ref t) := by
    intro i
    by_cases hi : i < 7
    · obtain ⟨a, c, cA, kA, q1, -⟩ := Cond.exactly_spec (args := #[Value.ref b]) (first := s) (o := none) (s := s) (idx := []) (fl (fz_ke i hi))
      exact ⟨a, fun _ => q1⟩
    · exact ⟨0, fun h => absurd h hi⟩
  obtain ⟨ad, had⟩ := Classical.axiomOfChoice k0
  have s0 : ∀ i : Nat, ∃ q : Nat × Nat, i < 7 → (Term.string "HedgeCommittee$Kind" (kS.getD i 0)).eval #[Value.ref b] s none [] s = some (.ref q.1) ∧ va_O "java/lang/String" q.1 (fun q => s.heap.size ≤ q) s s.heap ∧ va_OF "java/lang/String" "coder" "B" (.int 0) q.1 (fun q => s.heap.size ≤ q) s s.heap ∧ va_OF "java/lang/String" "value" "[B" (.ref q.2) q.1 (fun q => s.heap.size ≤ q) s s.heap ∧ va_T .byte q.2 (kL.getD i 0) (fun j => .int ((kB.getD i []).getD j 0)) (fun q => s.heap.size ≤ q) s s.heap := by
    intro i
    by_cases hi : i < 7
    · obtain ⟨a, c, cA, kA, q1, -⟩ := Cond.exactly_spec (args := #[Value.ref b]) (first := s) (o := none) (s := s) (idx := []) (fl (fs_ex i hi))
      obtain ⟨t, ht, hT⟩ := va_Tof (f := fun j => .int ((kB.getD i []).getD j 0)) (A := fun q => s.heap.size ≤ q) (kL_pos i hi).2 (fl (fs_ar i hi)) (va_eqt (fl (fs_le i hi))) (fun j hj => va_eqt (fl (fs_el i hi j hj))) hA
      exact ⟨(a, t), fun _ => ⟨q1, va_Oof (fl (fs_ex i hi)) q1 hA, vk_OFof q1 (va_eqt (fl (fs_co i hi))) hA, vk_OFof q1 ht hA, hT⟩⟩
    · exact ⟨(0, 0), fun h => absurd h hi⟩
  obtain ⟨sd, hsd⟩ := Classical.axiomOfChoice s0
  have hS : vk_S 7 kL kB (fun i => (sd i).1) (fun i => (sd i).2) (fun q => s.heap.size ≤ q) s s.heap := by
    refine ⟨fun i hi => (hsd i hi).2, fun i j hi hj e => ?_⟩
    by_cases hij : i = j
    · exact hij
    · exfalso
      have e1 : (Term.string "HedgeCommittee$Kind" (kS.getD i 0)).eval #[Value.ref b] s none [] s = (Term.string "HedgeCommittee$Kind" (kS.getD j 0)).eval #[Value.ref b] s none [] s := by
        rw [(hsd i hi).1, (hsd j hj).1]
        exact congrArg (fun q => some (Value.ref q)) e
      have e2 := va_eqt (fl (fs_el i hi 0 (kL_pos i hi).1))
      have e3 := va_eqt (fl (fs_el j hj 0 (kL_pos j hj).1))
      rw [el_cong e1] at e2
      have e4 := e2.symm.trans e3
      injection e4 with e5
      injection e5 with e6
      exact kB_ne i hi j hj hij e6
  obtain ⟨t_lg, e_lg, T_lg⟩ := va_Tof (args := #[Value.ref b]) (s := s) (tm := .static "HedgeCommittee" "LEAVES_GAINED" "[I") (ty := .int) (N := 4) (f := fun j => .int (lgF j)) (A := fun q => s.heap.size ≤ q) (by decide) (fl fz_lga) (va_eqt (fl fz_lgl)) (fun j hj => va_eqt (fl (fz_lg j hj))) hA
  obtain ⟨t_sw, e_sw, T_sw⟩ := va_Tof (args := #[Value.ref b]) (s := s) (tm := .static "HedgeCommittee$1" "$SwitchMap$HedgeCommittee$Kind" "[I") (ty := .int) (N := 7) (f := fun j => .int (nI (j + 1))) (A := fun q => s.heap.size ≤ q) (by decide) (fl fz_swa) (va_eqt (fl fz_swl)) (fun j hj => va_eqt (fl (fz_sw j hj))) hA
  obtain ⟨t_do, e_do, T_do⟩ := va_Tof (args := #[Value.ref b]) (s := s) (tm := .static "java/lang/Integer" "DigitOnes" "[B") (ty := .byte) (N := 100) (f := dgO) (A := fun q => s.heap.size ≤ q) (by decide) (fl fz_doa) (va_eqt (fl fz_dol)) (fun j hj => va_eqt (fl (fz_do j hj))) hA
  obtain ⟨t_dt, e_dt, T_dt⟩ := va_Tof (args := #[Value.ref b]) (s := s) (tm := .static "java/lang/Integer" "DigitTens" "[B") (ty := .byte) (N := 100) (f := dgT) (A := fun q => s.heap.size ≤ q) (by decide) (fl fz_dta) (va_eqt (fl fz_dtl)) (fun j hj => va_eqt (fl (fz_dt j hj))) hA
  obtain ⟨t_ks, e_ks, T_ks⟩ := va_Tof (args := #[Value.ref b]) (s := s) (tm := .static "HedgeCommittee$Program" "KINDS" "[LHedgeCommittee$Kind;") (ty := (.object "HedgeCommittee$Kind")) (N := 7) (f := fun j => .ref (ad j)) (A := fun q => s.heap.size ≤ q) (by decide) (fl fz_ksa) (va_eqt (fl fz_ksl)) (fun j hj => va_eqv (fl (fz_ks j hj)) (had j hj)) hA
  obtain ⟨t_em, e_em, T_em⟩ := va_Tof (args := #[Value.ref b]) (s := s) (tm := .static "java/util/ArrayList" "DEFAULTCAPACITY_EMPTY_ELEMENTDATA" "[Ljava/lang/Object;") (ty := (.object "java/lang/Object")) (N := 0) (f := fun _ => .null) (A := fun q => s.heap.size ≤ q) (by decide) (fl fz_ema) (va_eqt (fl fz_eml)) (fun j hj => absurd hj (Nat.not_lt_zero j)) hA
  refine ⟨zF (fun k => ([t_lg, t_ks, t_sw, t_em, t_do, t_dt] : List Nat).getD k 0) ad (fun i => (sd i).1) (fun i => (sd i).2), fun D hD => ?_⟩
  have z0 : zs D 0 = t_lg := hD 0
  have z1 : zs D 1 = t_ks := hD 1
  have z2 : zs D 2 = t_sw := hD 2
  have z3 : zs D 3 = t_em := hD 3
  have z4 : zs D 4 = t_do := hD 4
  have z5 : zs D 5 = t_dt := hD 5
  have za : ∀ j, j < 7 → ad j = zs D (10 + j) := fun j hj => ((hD (10 + j)).trans (zF_a hj)).symm
  have zk : ∀ j, j < 7 → (sd j).1 = zs D (20 + j) := fun j hj => ((hD (20 + j)).trans (zF_k hj)).symm
  have zv : ∀ j, j < 7 → (sd j).2 = zs D (30 + j) := fun j hj => ((hD (30 + j)).trans (zF_v hj)).symm
  refine ⟨fun q hq => ?_, ?_, ?_, ⟨?_, ?_, ?_, ?_, fun i hi => ?_, ?_, ?_, ?_⟩, ⟨?_, ?_, ?_, ?_, ?_, ?_, ?_, ?_⟩⟩
  · unfold ncs at hq
    simp only [List.mem_cons, List.not_mem_nil, or_false] at hq
    rcases hq with rfl | rfl | rfl | rfl | rfl | rfl | rfl | rfl | rfl | rfl
    · exact va_Nc.of (fl fn_0)
    · exact va_Nc.of (fl fn_1)
    · exact va_Nc.of (fl fn_2)
    · exact va_Nc.of (fl fn_3)
    · exact va_Nc.of (fl fn_4)
    · exact va_Nc.of (fl fn_5)
    · exact va_Nc.of (fl fn_6)
    · exact va_Nc.of (fl fn_7)
    · exact va_Nc.of (fl fn_8)
    · exact va_Nc.of (fl fn_9)
  · rw [z0]; exact va_Zof (htb _ (tb_2 (List.mem_of_getElem? (i := 102) rfl))) (htb _ (tb_1 (List.mem_of_getElem? (i := 1) rfl))) e_lg hA
  · rw [z0]; exact T_lg
  · rw [z1]; exact va_Zof (htb _ (tb_5 (List.mem_of_getElem? (i := 103) rfl))) (htb _ (tb_1 (List.mem_of_getElem? (i := 7) rfl))) e_ks hA
  · rw [z1]; exact zt_T T_ks (fun j hj => by rw [za j hj])
  · exact zt_E (va_Efof (E := "HedgeCommittee$Kind") (d0 := "LHedgeCommittee$Kind;") (nm := kN) (v := fun j => .int (nI j)) (tm := fun j => .int (nI j)) had (fun i hi => fl (fz_ko i hi)) (fun i hi => rfl) hA) za (fun _ _ => rfl)
  · exact zt_E (va_Efof (E := "HedgeCommittee$Kind") (d0 := "LHedgeCommittee$Kind;") (nm := kN) (v := fun j => .ref (sd j).1) (tm := fun j => .string "HedgeCommittee$Kind" (kS.getD j 0)) had (fun i hi => fl (fz_kp i hi)) (fun i hi => (hsd i hi).1) hA) za (fun j hj => by rw [zk j hj])
  · rw [← za i hi]; exact va_Oof (fl (fz_ke i hi)) (had i hi) hA
  · exact zt_S hS zk zv
  · rw [z2]; exact va_Zof (htb _ (tb_6 (List.mem_of_getElem? (i := 40) rfl))) (htb _ (tb_1 (List.mem_of_getElem? (i := 34) rfl))) e_sw hA
  · rw [z2]; exact T_sw
  · rw [z3]; exact va_Zof (htb _ (tb_1 (List.mem_of_getElem? (i := 216) rfl))) (htb _ (tb_1 (List.mem_of_getElem? (i := 10) rfl))) e_em hA
  · rw [z3]; exact T_em
  · exact va_Zqof (htb _ (tb_5 (List.mem_of_getElem? (i := 120) rfl))) (htb _ (tb_1 (List.mem_of_getElem? (i := 30) rfl))) (hfl _ fl_S) hA
  · rw [z4]; exact va_Zof (htb _ (tb_6 (List.mem_of_getElem? (i := 190) rfl))) (htb _ (tb_1 (List.mem_of_getElem? (i := 37) rfl))) e_do hA
  · rw [z4]; exact T_do
  · rw [z5]; exact va_Zof (htb _ (tb_6 (List.mem_of_getElem? (i := 192) rfl))) (htb _ (tb_1 (List.mem_of_getElem? (i := 37) rfl))) e_dt hA
  · rw [z5]; exact T_dt
  · exact va_AO.of (htb _ (tb_6 (List.mem_of_getElem? (i := 3) rfl)))
theorem law_Z {s : State} {b : Nat} {D : va_G} (hts : ∀ w ∈ lw_tbl, w.before #[Value.ref b] s = true) (hgv : (Jvm.Cond.and given_1 narrow_1).before #[Value.ref b] s = true) (hS : cS D (fun q => s.heap.size ≤ q) s s.heap) : cZ D (fun q => s.heap.size ≤ q) s s.heap := by
  have htb : ∀ w ∈ tables_1, w.before #[Value.ref b] s = true := fun w h => hts w (List.mem_append_right _ (List.mem_append_right _ h))
  have hfl := flat_of_before _ hgv
  have hA : ∀ a : Nat, a < s.heap.size → ¬ (fun q : Nat => s.heap.size ≤ q) a := fun a h q => absurd q (Nat.not_le.mpr h)
  refine ⟨fun w hw => va_Nw.of (nw_tab hw) (htb w (List.mem_filter.mp hw).1), fun q hq => ?_, vx_Zqof (htb _ (tb_3 (List.mem_of_getElem? (i := 40) rfl))) (htb _ (tb_1 (List.mem_of_getElem? (i := 17) rfl))) (hfl _ fl_U) hA, vx_Zqof (htb _ (tb_3 (List.mem_of_getElem? (i := 42) rfl))) (htb _ (tb_1 (List.mem_of_getElem? (i := 17) rfl))) (hfl _ fl_N) hA, va_AO.of (htb _ (tb_1 (List.mem_of_getElem? (i := 161) rfl))), va_Zqof (htb _ (tb_1 (List.mem_of_getElem? (i := 216) rfl))) (htb _ (tb_1 (List.mem_of_getElem? (i := 10) rfl))) (hfl _ fl_E) hA, ?_, hS⟩
  · obtain ⟨h1, h2⟩ := strs_ok q hq
    obtain ⟨a, c, cA, kA, q1, -⟩ := Cond.exactly_spec (args := #[Value.ref b]) (first := s) (o := none) (s := s) (idx := []) (hfl _ h2)
    exact ⟨a, vk_R.of (htb _ h1) q1⟩
  · obtain ⟨y, e1, e2⟩ := Cond.eq_one (args := #[Value.ref b]) (first := s) (o := none) (s := s) (idx := []) (hfl _ fl_C)
    have e3 : y = .int 1 := by
      have h3 : (Term.int 1).eval #[Value.ref b] s none [] s = some (.int 1) := rfl
      exact Option.some.inj (e2.symm.trans h3)
    rw [e3] at e1
    exact va_Zof (htb _ (tb_2 (List.mem_of_getElem? (i := 17) rfl))) (htb _ (tb_1 (List.mem_of_getElem? (i := 13) rfl))) e1 hA
set_option maxRecDepth 20000 in
theorem law_K {s : State} {b : Nat} (Z : Nat → Nat) (hg : ∀ w ∈ gw, w.before #[Value.ref b] s = true) (htb : ∀ w ∈ tables_1, w.before #[Value.ref b] s = true) : ∃ (D : va_G) (aT : Nat → ClassId), va_K D vwCl (tyG aT) s ∧ ∀ k, zs D k = Z k := by
  obtain ⟨c0, i0, hk0⟩ := u_known (C := RJ0) (T := TJ0) (N := 4) (n := 4) hg inJ0 (hg _ gw_818)
  obtain ⟨c1, i1, hk1⟩ := u_known (C := RJ4) (T := TJ4) (N := 4) (n := 4) hg inJ4 (hg _ gw_314)
  obtain ⟨c2, i2, hk2⟩ := u_known (C := RJx00060) (T := TJx00060) (N := 6) (n := 6) hg inJx00060 (hg _ gw_800)
  obtain ⟨c3, i3, hk3⟩ := u_known (C := RJx7c733) (T := TJx7c733) (N := 6) (n := 6) hg inJx7c733 (hg _ gw_1349)
  obtain ⟨c4, i4, hk4⟩ := u_known (C := RJx4a65c) (T := TJx4a65c) (N := 3) (n := 3) hg inJx4a65c (hg _ gw_270)
  obtain ⟨c5, i5, hk5⟩ := u_known (C := RX1) (T := TX1) (N := 4) (n := 4) hg inX1 (hg _ gw_1191)
  obtain ⟨c6, i6, hk6⟩ := u_known (C := RX2) (T := TX2) (N := 4) (n := 4) hg inX2 (hg _ gw_119)
  obtain ⟨c7, i7, hk7⟩ := u_known (C := RX3) (T := TX3) (N := 2) (n := 2) hg inX3 (hg _ gw_221)
  obtain ⟨c8, i8, hk8⟩ := u_known (C := RX5) (T := TX5) (N := 6) (n := 6) hg inX5 (hg _ gw_143)
  obtain ⟨c9, i9, hk9⟩ := u_known (C := RX6) (T := TX6) (N := 5) (n := 5) hg inX6 (hg _ gw_264)
  obtain ⟨c10, i10, hk10⟩ := u_known (C := RX7) (T := TX7) (N := 11) (n := 11) hg inX7 (hg _ gw_113)
  obtain ⟨c11, i11, hk11⟩ := u_known (C := RX8) (T := TX8) (N := 6) (n := 6) hg inX8 (hg _ gw_238)
  obtain ⟨c12, i12, hk12⟩ := u_known (C := RX9) (T := TX9) (N := 9) (n := 9) hg inX9 (hg _ gw_105)
  obtain ⟨c13, i13, hk13⟩ := u_known (C := RX10) (T := TX10) (N := 26) (n := 26) hg inX10 (hg _ gw_1618)
  obtain ⟨t0, k0, p0, a01, a02, a03⟩ := Cond.arrayClass_spec (args := #[Value.ref b]) (first := s) (o := none) (s := s) (idx := []) (hg _ gw_141)
  obtain ⟨t1, k1, p1, a11, a12, a13⟩ := Cond.arrayClass_spec (args := #[Value.ref b]) (first := s) (o := none) (s := s) (idx := []) (hg _ gw_295)
  obtain ⟨t2, k2, p2, a21, a22, a23⟩ := Cond.arrayClass_spec (args := #[Value.ref b]) (first := s) (o := none) (s := s) (idx := []) (hg _ gw_262)
  obtain ⟨t3, k3, p3, a31, a32, a33⟩ := Cond.arrayClass_spec (args := #[Value.ref b]) (first := s) (o := none) (s := s) (idx := []) (hg _ gw_2095)
  obtain ⟨t4, k4, p4, a41, a42, a43⟩ := Cond.arrayClass_spec (args := #[Value.ref b]) (first := s) (o := none) (s := s) (idx := []) (hg _ gw_345)
  obtain ⟨p5, t5, k5, a50, -, a52, a53, a51⟩ := Cond.arrayOver_spec (args := #[Value.ref b]) (first := s) (o := none) (s := s) (idx := []) (htb _ (tb_1 (List.mem_of_getElem? (i := 161) rfl)))
  obtain ⟨p6, t6, k6, a60, -, a62, a63, a61⟩ := Cond.arrayOver_spec (args := #[Value.ref b]) (first := s) (o := none) (s := s) (idx := []) (htb _ (tb_6 (List.mem_of_getElem? (i := 3) rfl)))
  refine ⟨(fun k => ([c0, c1, c2, c3, c4, c5, c6, c7, c8, c9, c10, c11, c12, c13] : List ClassId).getD k 0, fun k => if k = 99 then Z else ([i0, i1, i2, i3, i4, i5, i6, i7, i8, i9, i10, i11, i12, i13] : List (Nat → Nat)).getD k i0), fun k => ([t0, t1, t2, t3, t4, t5, t6] : List ClassId).getD k 0, ⟨fun k q hq => ?_, fun k q hq => ?_⟩, fun k => rfl⟩
  · match k, hq with
    | 0, hq => cases hq; exact hk0
    | 1, hq => cases hq; exact hk1
    | 2, hq => cases hq; exact hk2
    | 3, hq => cases hq; exact hk3
    | 4, hq => cases hq; exact hk4
    | 5, hq => cases hq; exact hk5
    | 6, hq => cases hq; exact hk6
    | 7, hq => cases hq; exact hk7
    | 8, hq => cases hq; exact hk8
    | 9, hq => cases hq; exact hk9
    | 10, hq => cases hq; exact hk10
    | 11, hq => cases hq; exact hk11
    | 12, hq => cases hq; exact hk12
    | 13, hq => cases hq; exact hk13
    | k + 14, hq => simp [vwCl] at hq
  · match k, hq with
    | 0, hq => cases hq; exact ⟨fun n z => ⟨fun k h => (by cases h), k0, a02, p0, a03⟩, a01⟩
    | 1, hq => cases hq; exact ⟨fun n z => ⟨fun k h => (by cases h), k1, a12, p1, a13⟩, a11⟩
    | 2, hq => cases hq; exact ⟨fun n z => ⟨fun k h => (by cases h), k2, a22, p2, a23⟩, a21⟩
    | 3, hq => cases hq; exact ⟨fun n z => ⟨fun k h => (by cases h), k3, a32, p3, a33⟩, a31⟩
    | 4, hq => cases hq; exact ⟨fun n z => ⟨fun k h => (by cases h), k4, a42, p4, a43⟩, a41⟩
    | 5, hq => cases hq; exact ⟨fun n z => ⟨fun k h => (by cases h), k5, a52, p5, a53⟩, k5, p5, a52, a53, a50, a51⟩
    | 6, hq => cases hq; exact ⟨fun n z => ⟨fun k h => (by cases h), k6, a62, p6, a63⟩, k6, p6, a62, a63, a60, a61⟩
    | k + 7, hq => simp [tyG] at hq
