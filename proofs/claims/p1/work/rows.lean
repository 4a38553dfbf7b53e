section
theorem tb_1 {w : Cond} (h : w ∈ tables_1_1) : w ∈ tables_1 := by unfold tables_1; exact List.mem_append_left _ h
theorem tb_2 {w : Cond} (h : w ∈ tables_1_2) : w ∈ tables_1 := by unfold tables_1; exact List.mem_append_right _ (List.mem_append_left _ h)
theorem tb_3 {w : Cond} (h : w ∈ tables_1_3) : w ∈ tables_1 := by unfold tables_1; exact List.mem_append_right _ (List.mem_append_right _ (List.mem_append_left _ h))
theorem tb_4 {w : Cond} (h : w ∈ tables_1_4) : w ∈ tables_1 := by unfold tables_1; exact List.mem_append_right _ (List.mem_append_right _ (List.mem_append_right _ (List.mem_append_left _ h)))
theorem tb_5 {w : Cond} (h : w ∈ tables_1_5) : w ∈ tables_1 := by unfold tables_1; exact List.mem_append_right _ (List.mem_append_right _ (List.mem_append_right _ (List.mem_append_right _ (List.mem_append_left _ h))))
theorem tb_6 {w : Cond} (h : w ∈ tables_1_6) : w ∈ tables_1 := by unfold tables_1; exact List.mem_append_right _ (List.mem_append_right _ (List.mem_append_right _ (List.mem_append_right _ (List.mem_append_right _ (List.mem_append_left _ h)))))
theorem tb_7 {w : Cond} (h : w ∈ tables_1_7) : w ∈ tables_1 := by unfold tables_1; exact List.mem_append_right _ (List.mem_append_right _ (List.mem_append_right _ (List.mem_append_right _ (List.mem_append_right _ (List.mem_append_right _ (List.mem_append_left _ h))))))
theorem tb_8 {w : Cond} (h : w ∈ tables_1_8) : w ∈ tables_1 := by unfold tables_1; exact List.mem_append_right _ (List.mem_append_right _ (List.mem_append_right _ (List.mem_append_right _ (List.mem_append_right _ (List.mem_append_right _ (List.mem_append_right _ (List.mem_append_left _ h)))))))
theorem tb_9 {w : Cond} (h : w ∈ tables_1_9) : w ∈ tables_1 := by unfold tables_1; exact List.mem_append_right _ (List.mem_append_right _ (List.mem_append_right _ (List.mem_append_right _ (List.mem_append_right _ (List.mem_append_right _ (List.mem_append_right _ (List.mem_append_right _ (h))))))))
/-- a private method of a class that the tables say can be made, by its rows of tables_1 -/
def lw_okq (q : MethodName × Nat) : Prop := (q.1.cls ≠ "java/lang/invoke/MethodHandle" ∧ q.1.cls ≠ "java/lang/invoke/VarHandle") ∧ Cond.instantiable q.1.cls q.2 ∈ tables_1 ∧ Cond.privateMethod q.1 ∈ tables_1 ∧ Cond.instanceMethod q.1 ∈ tables_1
theorem lw_i0 : Cond.instantiable "HedgeCommittee$History" 2 ∈ tables_1 := tb_1 (List.mem_of_getElem? (i := 155) rfl)
theorem lw_i1 : Cond.instantiable "HedgeCommittee$Trees" 6 ∈ tables_1 := tb_1 (List.mem_of_getElem? (i := 172) rfl)
theorem lw_i2 : Cond.instantiable "java/lang/Throwable" 6 ∈ tables_1 := tb_3 (List.mem_of_getElem? (i := 57) rfl)
theorem lw_i3 : Cond.instantiable "HedgeCommittee$State" 11 ∈ tables_1 := tb_1 (List.mem_of_getElem? (i := 47) rfl)
theorem lw_i4 : Cond.instantiable "HedgeCommittee" 9 ∈ tables_1 := tb_1 (List.mem_of_getElem? (i := 39) rfl)
theorem lw_i5 : Cond.instantiable "HedgeCommittee$Hedges" 4 ∈ tables_1 := tb_1 (List.mem_of_getElem? (i := 53) rfl)
theorem lw_i6 : Cond.instantiable "HedgeCommittee$Motions" 6 ∈ tables_1 := tb_1 (List.mem_of_getElem? (i := 77) rfl)
theorem lw_i7 : Cond.instantiable "HedgeCommittee$Program" 5 ∈ tables_1 := tb_1 (List.mem_of_getElem? (i := 198) rfl)
theorem lw_i8 : Cond.instantiable "java/util/ArrayList" 3 ∈ tables_1 := tb_1 (List.mem_of_getElem? (i := 204) rfl)
theorem lw_i9 : Cond.instantiable "HedgeCommitteeModel" 26 ∈ tables_1 := tb_7 (List.mem_of_getElem? (i := 112) rfl)
theorem lw_p0 : lw_okq (⟨"HedgeCommittee$History", "forgetOldest", "()V"⟩, 2) := ⟨⟨by decide +kernel, by decide +kernel⟩, lw_i0, tb_2 (List.mem_of_getElem? (i := 114) rfl), tb_2 (List.mem_of_getElem? (i := 115) rfl)⟩
theorem lw_p1 : lw_okq (⟨"HedgeCommittee$Trees", "farthestFrom", "(LHedgeCommittee$Motions;II)I"⟩, 6) := ⟨⟨by decide +kernel, by decide +kernel⟩, lw_i1, tb_2 (List.mem_of_getElem? (i := 210) rfl), tb_2 (List.mem_of_getElem? (i := 211) rfl)⟩
theorem lw_p2 : lw_okq (⟨"java/lang/Throwable", "fillInStackTrace", "(I)Ljava/lang/Throwable;"⟩, 6) := ⟨⟨by decide +kernel, by decide +kernel⟩, lw_i2, tb_3 (List.mem_of_getElem? (i := 55) rfl), tb_3 (List.mem_of_getElem? (i := 56) rfl)⟩
theorem lw_p3 : lw_okq (⟨"HedgeCommittee$State", "requireRoom", "()V"⟩, 11) := ⟨⟨by decide +kernel, by decide +kernel⟩, lw_i3, tb_3 (List.mem_of_getElem? (i := 125) rfl), tb_3 (List.mem_of_getElem? (i := 126) rfl)⟩
theorem lw_p4 : lw_okq (⟨"HedgeCommittee$State", "begin", "(III)I"⟩, 11) := ⟨⟨by decide +kernel, by decide +kernel⟩, lw_i3, tb_3 (List.mem_of_getElem? (i := 134) rfl), tb_3 (List.mem_of_getElem? (i := 135) rfl)⟩
theorem lw_p5 : lw_okq (⟨"HedgeCommittee$State", "bookOutcome", "(CII)V"⟩, 11) := ⟨⟨by decide +kernel, by decide +kernel⟩, lw_i3, tb_4 (List.mem_of_getElem? (i := 7) rfl), tb_4 (List.mem_of_getElem? (i := 8) rfl)⟩
theorem lw_p6 : lw_okq (⟨"HedgeCommittee", "requireHedge", "(I)V"⟩, 9) := ⟨⟨by decide +kernel, by decide +kernel⟩, lw_i4, tb_4 (List.mem_of_getElem? (i := 42) rfl), tb_4 (List.mem_of_getElem? (i := 43) rfl)⟩
theorem lw_p7 : lw_okq (⟨"HedgeCommittee$Hedges", "rankOf", "(I)I"⟩, 4) := ⟨⟨by decide +kernel, by decide +kernel⟩, lw_i5, tb_4 (List.mem_of_getElem? (i := 84) rfl), tb_4 (List.mem_of_getElem? (i := 85) rfl)⟩
theorem lw_p8 : lw_okq (⟨"HedgeCommittee", "requirePosition", "(I)V"⟩, 9) := ⟨⟨by decide +kernel, by decide +kernel⟩, lw_i4, tb_4 (List.mem_of_getElem? (i := 116) rfl), tb_4 (List.mem_of_getElem? (i := 117) rfl)⟩
theorem lw_p9 : lw_okq (⟨"HedgeCommittee$Motions", "rankOf", "(I)I"⟩, 6) := ⟨⟨by decide +kernel, by decide +kernel⟩, lw_i6, tb_4 (List.mem_of_getElem? (i := 189) rfl), tb_4 (List.mem_of_getElem? (i := 190) rfl)⟩
theorem lw_p10 : lw_okq (⟨"HedgeCommittee", "idOfCommon", "(I)I"⟩, 9) := ⟨⟨by decide +kernel, by decide +kernel⟩, lw_i4, tb_4 (List.mem_of_getElem? (i := 207) rfl), tb_4 (List.mem_of_getElem? (i := 208) rfl)⟩
theorem lw_p11 : lw_okq (⟨"HedgeCommittee$Program", "readCommand", "()Z"⟩, 5) := ⟨⟨by decide +kernel, by decide +kernel⟩, lw_i7, tb_5 (List.mem_of_getElem? (i := 95) rfl), tb_5 (List.mem_of_getElem? (i := 96) rfl)⟩
theorem lw_p12 : lw_okq (⟨"HedgeCommittee$Program", "kindAhead", "()LHedgeCommittee$Kind;"⟩, 5) := ⟨⟨by decide +kernel, by decide +kernel⟩, lw_i7, tb_5 (List.mem_of_getElem? (i := 99) rfl), tb_5 (List.mem_of_getElem? (i := 100) rfl)⟩
theorem lw_p13 : lw_okq (⟨"HedgeCommittee$Program", "digitAhead", "()Z"⟩, 5) := ⟨⟨by decide +kernel, by decide +kernel⟩, lw_i7, tb_5 (List.mem_of_getElem? (i := 153) rfl), tb_5 (List.mem_of_getElem? (i := 154) rfl)⟩
theorem lw_p14 : lw_okq (⟨"HedgeCommittee$Program", "readDigits", "(Z)I"⟩, 5) := ⟨⟨by decide +kernel, by decide +kernel⟩, lw_i7, tb_5 (List.mem_of_getElem? (i := 157) rfl), tb_5 (List.mem_of_getElem? (i := 158) rfl)⟩
theorem lw_p15 : lw_okq (⟨"HedgeCommittee$Program", "readSign", "(C)Z"⟩, 5) := ⟨⟨by decide +kernel, by decide +kernel⟩, lw_i7, tb_5 (List.mem_of_getElem? (i := 161) rfl), tb_5 (List.mem_of_getElem? (i := 162) rfl)⟩
theorem lw_p16 : lw_okq (⟨"java/util/ArrayList", "add", "(Ljava/lang/Object;[Ljava/lang/Object;I)V"⟩, 3) := ⟨⟨by decide +kernel, by decide +kernel⟩, lw_i8, tb_5 (List.mem_of_getElem? (i := 192) rfl), tb_5 (List.mem_of_getElem? (i := 193) rfl)⟩
theorem lw_p17 : lw_okq (⟨"java/util/ArrayList", "grow", "()[Ljava/lang/Object;"⟩, 3) := ⟨⟨by decide +kernel, by decide +kernel⟩, lw_i8, tb_5 (List.mem_of_getElem? (i := 196) rfl), tb_5 (List.mem_of_getElem? (i := 197) rfl)⟩
theorem lw_p18 : lw_okq (⟨"java/util/ArrayList", "grow", "(I)[Ljava/lang/Object;"⟩, 3) := ⟨⟨by decide +kernel, by decide +kernel⟩, lw_i8, tb_5 (List.mem_of_getElem? (i := 200) rfl), tb_5 (List.mem_of_getElem? (i := 201) rfl)⟩
theorem lw_p19 : lw_okq (⟨"HedgeCommittee", "firstFailure", "()I"⟩, 9) := ⟨⟨by decide +kernel, by decide +kernel⟩, lw_i4, tb_6 (List.mem_of_getElem? (i := 15) rfl), tb_6 (List.mem_of_getElem? (i := 16) rfl)⟩
theorem lw_p20 : lw_okq (⟨"HedgeCommittee", "succeeds", "(LHedgeCommittee$Command;)Z"⟩, 9) := ⟨⟨by decide +kernel, by decide +kernel⟩, lw_i4, tb_6 (List.mem_of_getElem? (i := 36) rfl), tb_6 (List.mem_of_getElem? (i := 37) rfl)⟩
theorem lw_p21 : lw_okq (⟨"HedgeCommitteeModel", "starts", "()V"⟩, 26) := ⟨⟨by decide +kernel, by decide +kernel⟩, lw_i9, tb_7 (List.mem_of_getElem? (i := 205) rfl), tb_7 (List.mem_of_getElem? (i := 206) rfl)⟩
theorem lw_p22 : lw_okq (⟨"HedgeCommitteeModel", "hedgeIt", "(III)I"⟩, 26) := ⟨⟨by decide +kernel, by decide +kernel⟩, lw_i9, tb_7 (List.mem_of_getElem? (i := 209) rfl), tb_7 (List.mem_of_getElem? (i := 210) rfl)⟩
theorem lw_p23 : lw_okq (⟨"HedgeCommitteeModel", "throwing", "(I)I"⟩, 26) := ⟨⟨by decide +kernel, by decide +kernel⟩, lw_i9, tb_7 (List.mem_of_getElem? (i := 218) rfl), tb_7 (List.mem_of_getElem? (i := 219) rfl)⟩
theorem lw_p24 : lw_okq (⟨"HedgeCommitteeModel", "changed", "(I)I"⟩, 26) := ⟨⟨by decide +kernel, by decide +kernel⟩, lw_i9, tb_7 (List.mem_of_getElem? (i := 225) rfl), tb_7 (List.mem_of_getElem? (i := 226) rfl)⟩
theorem lw_p25 : lw_okq (⟨"HedgeCommitteeModel", "mainIt", "(II)I"⟩, 26) := ⟨⟨by decide +kernel, by decide +kernel⟩, lw_i9, tb_7 (List.mem_of_getElem? (i := 233) rfl), tb_7 (List.mem_of_getElem? (i := 234) rfl)⟩
theorem lw_p26 : lw_okq (⟨"HedgeCommitteeModel", "adds", "(III)I"⟩, 26) := ⟨⟨by decide +kernel, by decide +kernel⟩, lw_i9, tb_7 (List.mem_of_getElem? (i := 238) rfl), tb_7 (List.mem_of_getElem? (i := 239) rfl)⟩
theorem lw_p27 : lw_okq (⟨"HedgeCommitteeModel", "amendIt", "(III)I"⟩, 26) := ⟨⟨by decide +kernel, by decide +kernel⟩, lw_i9, tb_8 (List.mem_of_getElem? (i := 6) rfl), tb_8 (List.mem_of_getElem? (i := 7) rfl)⟩
theorem lw_p28 : lw_okq (⟨"HedgeCommitteeModel", "find", "(I)I"⟩, 26) := ⟨⟨by decide +kernel, by decide +kernel⟩, lw_i9, tb_8 (List.mem_of_getElem? (i := 10) rfl), tb_8 (List.mem_of_getElem? (i := 11) rfl)⟩
theorem lw_p29 : lw_okq (⟨"HedgeCommitteeModel", "of", "(II)I"⟩, 26) := ⟨⟨by decide +kernel, by decide +kernel⟩, lw_i9, tb_8 (List.mem_of_getElem? (i := 14) rfl), tb_8 (List.mem_of_getElem? (i := 15) rfl)⟩
theorem lw_p30 : lw_okq (⟨"HedgeCommitteeModel", "pruneIt", "(II)I"⟩, 26) := ⟨⟨by decide +kernel, by decide +kernel⟩, lw_i9, tb_8 (List.mem_of_getElem? (i := 22) rfl), tb_8 (List.mem_of_getElem? (i := 23) rfl)⟩
theorem lw_p31 : lw_okq (⟨"HedgeCommitteeModel", "deep", "(I)I"⟩, 26) := ⟨⟨by decide +kernel, by decide +kernel⟩, lw_i9, tb_8 (List.mem_of_getElem? (i := 26) rfl), tb_8 (List.mem_of_getElem? (i := 27) rfl)⟩
theorem lw_p32 : lw_okq (⟨"HedgeCommitteeModel", "above", "(I)I"⟩, 26) := ⟨⟨by decide +kernel, by decide +kernel⟩, lw_i9, tb_8 (List.mem_of_getElem? (i := 30) rfl), tb_8 (List.mem_of_getElem? (i := 31) rfl)⟩
theorem lw_p33 : lw_okq (⟨"HedgeCommitteeModel", "isIn", "(II)Z"⟩, 26) := ⟨⟨by decide +kernel, by decide +kernel⟩, lw_i9, tb_8 (List.mem_of_getElem? (i := 34) rfl), tb_8 (List.mem_of_getElem? (i := 35) rfl)⟩
theorem lw_p34 : lw_okq (⟨"HedgeCommitteeModel", "drops", "(I)V"⟩, 26) := ⟨⟨by decide +kernel, by decide +kernel⟩, lw_i9, tb_8 (List.mem_of_getElem? (i := 38) rfl), tb_8 (List.mem_of_getElem? (i := 39) rfl)⟩
theorem lw_p35 : lw_okq (⟨"HedgeCommitteeModel", "regrowIt", "(I)I"⟩, 26) := ⟨⟨by decide +kernel, by decide +kernel⟩, lw_i9, tb_8 (List.mem_of_getElem? (i := 46) rfl), tb_8 (List.mem_of_getElem? (i := 47) rfl)⟩
theorem lw_p36 : lw_okq (⟨"HedgeCommitteeModel", "lastTipAt", "(I)I"⟩, 26) := ⟨⟨by decide +kernel, by decide +kernel⟩, lw_i9, tb_8 (List.mem_of_getElem? (i := 50) rfl), tb_8 (List.mem_of_getElem? (i := 51) rfl)⟩
theorem lw_p37 : lw_okq (⟨"HedgeCommitteeModel", "isTipAt", "(I)Z"⟩, 26) := ⟨⟨by decide +kernel, by decide +kernel⟩, lw_i9, tb_8 (List.mem_of_getElem? (i := 54) rfl), tb_8 (List.mem_of_getElem? (i := 55) rfl)⟩
theorem lw_p38 : lw_okq (⟨"HedgeCommitteeModel", "voteIt", "(I)I"⟩, 26) := ⟨⟨by decide +kernel, by decide +kernel⟩, lw_i9, tb_8 (List.mem_of_getElem? (i := 63) rfl), tb_8 (List.mem_of_getElem? (i := 64) rfl)⟩
theorem lw_p39 : lw_okq (⟨"HedgeCommitteeModel", "vetoes", "(II)Z"⟩, 26) := ⟨⟨by decide +kernel, by decide +kernel⟩, lw_i9, tb_8 (List.mem_of_getElem? (i := 67) rfl), tb_8 (List.mem_of_getElem? (i := 68) rfl)⟩
theorem lw_p40 : lw_okq (⟨"HedgeCommitteeModel", "far", "(II)I"⟩, 26) := ⟨⟨by decide +kernel, by decide +kernel⟩, lw_i9, tb_8 (List.mem_of_getElem? (i := 71) rfl), tb_8 (List.mem_of_getElem? (i := 72) rfl)⟩
theorem lw_p41 : lw_okq (⟨"HedgeCommitteeModel", "favour", "(I)I"⟩, 26) := ⟨⟨by decide +kernel, by decide +kernel⟩, lw_i9, tb_8 (List.mem_of_getElem? (i := 78) rfl), tb_8 (List.mem_of_getElem? (i := 79) rfl)⟩
theorem lw_p42 : lw_okq (⟨"HedgeCommitteeModel", "leavesAll", "()I"⟩, 26) := ⟨⟨by decide +kernel, by decide +kernel⟩, lw_i9, tb_8 (List.mem_of_getElem? (i := 82) rfl), tb_8 (List.mem_of_getElem? (i := 83) rfl)⟩
theorem lw_p43 : lw_okq (⟨"HedgeCommitteeModel", "carries", "(I)V"⟩, 26) := ⟨⟨by decide +kernel, by decide +kernel⟩, lw_i9, tb_8 (List.mem_of_getElem? (i := 86) rfl), tb_8 (List.mem_of_getElem? (i := 87) rfl)⟩
theorem lw_p44 : lw_okq (⟨"HedgeCommitteeModel", "seasonIt", "()I"⟩, 26) := ⟨⟨by decide +kernel, by decide +kernel⟩, lw_i9, tb_8 (List.mem_of_getElem? (i := 94) rfl), tb_8 (List.mem_of_getElem? (i := 95) rfl)⟩
theorem lw_p45 : lw_okq (⟨"HedgeCommitteeModel", "isHedge", "(I)Z"⟩, 26) := ⟨⟨by decide +kernel, by decide +kernel⟩, lw_i9, tb_8 (List.mem_of_getElem? (i := 107) rfl), tb_8 (List.mem_of_getElem? (i := 108) rfl)⟩
theorem lw_p46 : lw_okq (⟨"HedgeCommitteeModel", "isHedgeAhead", "(II)Z"⟩, 26) := ⟨⟨by decide +kernel, by decide +kernel⟩, lw_i9, tb_8 (List.mem_of_getElem? (i := 119) rfl), tb_8 (List.mem_of_getElem? (i := 120) rfl)⟩
theorem lw_p47 : lw_okq (⟨"HedgeCommitteeModel", "ofMotion", "(II)I"⟩, 26) := ⟨⟨by decide +kernel, by decide +kernel⟩, lw_i9, tb_8 (List.mem_of_getElem? (i := 143) rfl), tb_8 (List.mem_of_getElem? (i := 144) rfl)⟩
theorem lw_p48 : lw_okq (⟨"HedgeCommitteeModel", "isMotionAhead", "(II)Z"⟩, 26) := ⟨⟨by decide +kernel, by decide +kernel⟩, lw_i9, tb_8 (List.mem_of_getElem? (i := 175) rfl), tb_8 (List.mem_of_getElem? (i := 176) rfl)⟩
theorem lw_p49 : lw_okq (⟨"HedgeCommitteeModel", "common", "(II)I"⟩, 26) := ⟨⟨by decide +kernel, by decide +kernel⟩, lw_i9, tb_8 (List.mem_of_getElem? (i := 183) rfl), tb_8 (List.mem_of_getElem? (i := 184) rfl)⟩
theorem lw_p50 : lw_okq (⟨"HedgeCommitteeModel", "steps", "(II)I"⟩, 26) := ⟨⟨by decide +kernel, by decide +kernel⟩, lw_i9, tb_8 (List.mem_of_getElem? (i := 196) rfl), tb_8 (List.mem_of_getElem? (i := 197) rfl)⟩
theorem lw_p51 : lw_okq (⟨"HedgeCommitteeModel", "measures", "()V"⟩, 26) := ⟨⟨by decide +kernel, by decide +kernel⟩, lw_i9, tb_8 (List.mem_of_getElem? (i := 213) rfl), tb_8 (List.mem_of_getElem? (i := 214) rfl)⟩
theorem lw_p52 : lw_okq (⟨"HedgeCommitteeModel", "readCommand", "()V"⟩, 26) := ⟨⟨by decide +kernel, by decide +kernel⟩, lw_i9, tb_9 (List.mem_of_getElem? (i := 28) rfl), tb_9 (List.mem_of_getElem? (i := 29) rfl)⟩
theorem lw_p53 : lw_okq (⟨"HedgeCommitteeModel", "likeness", "(I)I"⟩, 26) := ⟨⟨by decide +kernel, by decide +kernel⟩, lw_i9, tb_9 (List.mem_of_getElem? (i := 32) rfl), tb_9 (List.mem_of_getElem? (i := 33) rfl)⟩
theorem lw_p54 : lw_okq (⟨"HedgeCommitteeModel", "readArguments", "(II)V"⟩, 26) := ⟨⟨by decide +kernel, by decide +kernel⟩, lw_i9, tb_9 (List.mem_of_getElem? (i := 36) rfl), tb_9 (List.mem_of_getElem? (i := 37) rfl)⟩
theorem lw_p55 : lw_okq (⟨"HedgeCommitteeModel", "digit", "()I"⟩, 26) := ⟨⟨by decide +kernel, by decide +kernel⟩, lw_i9, tb_9 (List.mem_of_getElem? (i := 40) rfl), tb_9 (List.mem_of_getElem? (i := 41) rfl)⟩
theorem lw_p56 : lw_okq (⟨"HedgeCommitteeModel", "here", "()I"⟩, 26) := ⟨⟨by decide +kernel, by decide +kernel⟩, lw_i9, tb_9 (List.mem_of_getElem? (i := 44) rfl), tb_9 (List.mem_of_getElem? (i := 45) rfl)⟩
theorem lw_p57 : lw_okq (⟨"HedgeCommitteeModel", "number", "()I"⟩, 26) := ⟨⟨by decide +kernel, by decide +kernel⟩, lw_i9, tb_9 (List.mem_of_getElem? (i := 50) rfl), tb_9 (List.mem_of_getElem? (i := 51) rfl)⟩
theorem lw_p58 : lw_okq (⟨"HedgeCommitteeModel", "digitBehind", "()I"⟩, 26) := ⟨⟨by decide +kernel, by decide +kernel⟩, lw_i9, tb_9 (List.mem_of_getElem? (i := 54) rfl), tb_9 (List.mem_of_getElem? (i := 55) rfl)⟩
theorem lw_p59 : lw_okq (⟨"HedgeCommitteeModel", "expects", "(I)V"⟩, 26) := ⟨⟨by decide +kernel, by decide +kernel⟩, lw_i9, tb_9 (List.mem_of_getElem? (i := 58) rfl), tb_9 (List.mem_of_getElem? (i := 59) rfl)⟩
theorem lw_p60 : lw_okq (⟨"HedgeCommitteeModel", "numberBehind", "()I"⟩, 26) := ⟨⟨by decide +kernel, by decide +kernel⟩, lw_i9, tb_9 (List.mem_of_getElem? (i := 62) rfl), tb_9 (List.mem_of_getElem? (i := 63) rfl)⟩
theorem lw_p61 : lw_okq (⟨"HedgeCommitteeModel", "does", "(I)V"⟩, 26) := ⟨⟨by decide +kernel, by decide +kernel⟩, lw_i9, tb_9 (List.mem_of_getElem? (i := 66) rfl), tb_9 (List.mem_of_getElem? (i := 67) rfl)⟩
theorem lw_p62 : lw_okq (⟨"HedgeCommitteeModel", "writesWhole", "(I)V"⟩, 26) := ⟨⟨by decide +kernel, by decide +kernel⟩, lw_i9, tb_9 (List.mem_of_getElem? (i := 82) rfl), tb_9 (List.mem_of_getElem? (i := 83) rfl)⟩
theorem lw_p63 : lw_okq (⟨"HedgeCommitteeModel", "sign", "(I)V"⟩, 26) := ⟨⟨by decide +kernel, by decide +kernel⟩, lw_i9, tb_9 (List.mem_of_getElem? (i := 86) rfl), tb_9 (List.mem_of_getElem? (i := 87) rfl)⟩
theorem lw_p64 : lw_okq (⟨"HedgeCommitteeModel", "childFrom", "(II)I"⟩, 26) := ⟨⟨by decide +kernel, by decide +kernel⟩, lw_i9, tb_9 (List.mem_of_getElem? (i := 90) rfl), tb_9 (List.mem_of_getElem? (i := 91) rfl)⟩
theorem lw_p65 : lw_okq (⟨"HedgeCommitteeModel", "next", "(II)I"⟩, 26) := ⟨⟨by decide +kernel, by decide +kernel⟩, lw_i9, tb_9 (List.mem_of_getElem? (i := 94) rfl), tb_9 (List.mem_of_getElem? (i := 95) rfl)⟩
def lw_privs_0 : List (MethodName × Nat) := [(⟨"HedgeCommittee$History", "forgetOldest", "()V"⟩, 2), (⟨"HedgeCommittee$Trees", "farthestFrom", "(LHedgeCommittee$Motions;II)I"⟩, 6), (⟨"java/lang/Throwable", "fillInStackTrace", "(I)Ljava/lang/Throwable;"⟩, 6), (⟨"HedgeCommittee$State", "requireRoom", "()V"⟩, 11), (⟨"HedgeCommittee$State", "begin", "(III)I"⟩, 11), (⟨"HedgeCommittee$State", "bookOutcome", "(CII)V"⟩, 11), (⟨"HedgeCommittee", "requireHedge", "(I)V"⟩, 9), (⟨"HedgeCommittee$Hedges", "rankOf", "(I)I"⟩, 4), (⟨"HedgeCommittee", "requirePosition", "(I)V"⟩, 9), (⟨"HedgeCommittee$Motions", "rankOf", "(I)I"⟩, 6), (⟨"HedgeCommittee", "idOfCommon", "(I)I"⟩, 9)]
theorem lw_r0 : ∀ q ∈ lw_privs_0, lw_okq q := List.forall_mem_cons.mpr ⟨lw_p0, List.forall_mem_cons.mpr ⟨lw_p1, List.forall_mem_cons.mpr ⟨lw_p2, List.forall_mem_cons.mpr ⟨lw_p3, List.forall_mem_cons.mpr ⟨lw_p4, List.forall_mem_cons.mpr ⟨lw_p5, List.forall_mem_cons.mpr ⟨lw_p6, List.forall_mem_cons.mpr ⟨lw_p7, List.forall_mem_cons.mpr ⟨lw_p8, List.forall_mem_cons.mpr ⟨lw_p9, List.forall_mem_cons.mpr ⟨lw_p10, fun _ h => absurd h List.not_mem_nil⟩⟩⟩⟩⟩⟩⟩⟩⟩⟩⟩
def lw_privs_1 : List (MethodName × Nat) := [(⟨"HedgeCommittee$Program", "readCommand", "()Z"⟩, 5), (⟨"HedgeCommittee$Program", "kindAhead", "()LHedgeCommittee$Kind;"⟩, 5), (⟨"HedgeCommittee$Program", "digitAhead", "()Z"⟩, 5), (⟨"HedgeCommittee$Program", "readDigits", "(Z)I"⟩, 5), (⟨"HedgeCommittee$Program", "readSign", "(C)Z"⟩, 5), (⟨"java/util/ArrayList", "add", "(Ljava/lang/Object;[Ljava/lang/Object;I)V"⟩, 3), (⟨"java/util/ArrayList", "grow", "()[Ljava/lang/Object;"⟩, 3), (⟨"java/util/ArrayList", "grow", "(I)[Ljava/lang/Object;"⟩, 3), (⟨"HedgeCommittee", "firstFailure", "()I"⟩, 9), (⟨"HedgeCommittee", "succeeds", "(LHedgeCommittee$Command;)Z"⟩, 9), (⟨"HedgeCommitteeModel", "starts", "()V"⟩, 26)]
theorem lw_r1 : ∀ q ∈ lw_privs_1, lw_okq q := List.forall_mem_cons.mpr ⟨lw_p11, List.forall_mem_cons.mpr ⟨lw_p12, List.forall_mem_cons.mpr ⟨lw_p13, List.forall_mem_cons.mpr ⟨lw_p14, List.forall_mem_cons.mpr ⟨lw_p15, List.forall_mem_cons.mpr ⟨lw_p16, List.forall_mem_cons.mpr ⟨lw_p17, List.forall_mem_cons.mpr ⟨lw_p18, List.forall_mem_cons.mpr ⟨lw_p19, List.forall_mem_cons.mpr ⟨lw_p20, List.forall_mem_cons.mpr ⟨lw_p21, fun _ h => absurd h List.not_mem_nil⟩⟩⟩⟩⟩⟩⟩⟩⟩⟩⟩
def lw_privs_2 : List (MethodName × Nat) := [(⟨"HedgeCommitteeModel", "hedgeIt", "(III)I"⟩, 26), (⟨"HedgeCommitteeModel", "throwing", "(I)I"⟩, 26), (⟨"HedgeCommitteeModel", "changed", "(I)I"⟩, 26), (⟨"HedgeCommitteeModel", "mainIt", "(II)I"⟩, 26), (⟨"HedgeCommitteeModel", "adds", "(III)I"⟩, 26), (⟨"HedgeCommitteeModel", "amendIt", "(III)I"⟩, 26), (⟨"HedgeCommitteeModel", "find", "(I)I"⟩, 26), (⟨"HedgeCommitteeModel", "of", "(II)I"⟩, 26), (⟨"HedgeCommitteeModel", "pruneIt", "(II)I"⟩, 26), (⟨"HedgeCommitteeModel", "deep", "(I)I"⟩, 26), (⟨"HedgeCommitteeModel", "above", "(I)I"⟩, 26)]
theorem lw_r2 : ∀ q ∈ lw_privs_2, lw_okq q := List.forall_mem_cons.mpr ⟨lw_p22, List.forall_mem_cons.mpr ⟨lw_p23, List.forall_mem_cons.mpr ⟨lw_p24, List.forall_mem_cons.mpr ⟨lw_p25, List.forall_mem_cons.mpr ⟨lw_p26, List.forall_mem_cons.mpr ⟨lw_p27, List.forall_mem_cons.mpr ⟨lw_p28, List.forall_mem_cons.mpr ⟨lw_p29, List.forall_mem_cons.mpr ⟨lw_p30, List.forall_mem_cons.mpr ⟨lw_p31, List.forall_mem_cons.mpr ⟨lw_p32, fun _ h => absurd h List.not_mem_nil⟩⟩⟩⟩⟩⟩⟩⟩⟩⟩⟩
def lw_privs_3 : List (MethodName × Nat) := [(⟨"HedgeCommitteeModel", "isIn", "(II)Z"⟩, 26), (⟨"HedgeCommitteeModel", "drops", "(I)V"⟩, 26), (⟨"HedgeCommitteeModel", "regrowIt", "(I)I"⟩, 26), (⟨"HedgeCommitteeModel", "lastTipAt", "(I)I"⟩, 26), (⟨"HedgeCommitteeModel", "isTipAt", "(I)Z"⟩, 26), (⟨"HedgeCommitteeModel", "voteIt", "(I)I"⟩, 26), (⟨"HedgeCommitteeModel", "vetoes", "(II)Z"⟩, 26), (⟨"HedgeCommitteeModel", "far", "(II)I"⟩, 26), (⟨"HedgeCommitteeModel", "favour", "(I)I"⟩, 26), (⟨"HedgeCommitteeModel", "leavesAll", "()I"⟩, 26), (⟨"HedgeCommitteeModel", "carries", "(I)V"⟩, 26)]
theorem lw_r3 : ∀ q ∈ lw_privs_3, lw_okq q := List.forall_mem_cons.mpr ⟨lw_p33, List.forall_mem_cons.mpr ⟨lw_p34, List.forall_mem_cons.mpr ⟨lw_p35, List.forall_mem_cons.mpr ⟨lw_p36, List.forall_mem_cons.mpr ⟨lw_p37, List.forall_mem_cons.mpr ⟨lw_p38, List.forall_mem_cons.mpr ⟨lw_p39, List.forall_mem_cons.mpr ⟨lw_p40, List.forall_mem_cons.mpr ⟨lw_p41, List.forall_mem_cons.mpr ⟨lw_p42, List.forall_mem_cons.mpr ⟨lw_p43, fun _ h => absurd h List.not_mem_nil⟩⟩⟩⟩⟩⟩⟩⟩⟩⟩⟩
def lw_privs_4 : List (MethodName × Nat) := [(⟨"HedgeCommitteeModel", "seasonIt", "()I"⟩, 26), (⟨"HedgeCommitteeModel", "isHedge", "(I)Z"⟩, 26), (⟨"HedgeCommitteeModel", "isHedgeAhead", "(II)Z"⟩, 26), (⟨"HedgeCommitteeModel", "ofMotion", "(II)I"⟩, 26), (⟨"HedgeCommitteeModel", "isMotionAhead", "(II)Z"⟩, 26), (⟨"HedgeCommitteeModel", "common", "(II)I"⟩, 26), (⟨"HedgeCommitteeModel", "steps", "(II)I"⟩, 26), (⟨"HedgeCommitteeModel", "measures", "()V"⟩, 26), (⟨"HedgeCommitteeModel", "readCommand", "()V"⟩, 26), (⟨"HedgeCommitteeModel", "likeness", "(I)I"⟩, 26), (⟨"HedgeCommitteeModel", "readArguments", "(II)V"⟩, 26)]
theorem lw_r4 : ∀ q ∈ lw_privs_4, lw_okq q := List.forall_mem_cons.mpr ⟨lw_p44, List.forall_mem_cons.mpr ⟨lw_p45, List.forall_mem_cons.mpr ⟨lw_p46, List.forall_mem_cons.mpr ⟨lw_p47, List.forall_mem_cons.mpr ⟨lw_p48, List.forall_mem_cons.mpr ⟨lw_p49, List.forall_mem_cons.mpr ⟨lw_p50, List.forall_mem_cons.mpr ⟨lw_p51, List.forall_mem_cons.mpr ⟨lw_p52, List.forall_mem_cons.mpr ⟨lw_p53, List.forall_mem_cons.mpr ⟨lw_p54, fun _ h => absurd h List.not_mem_nil⟩⟩⟩⟩⟩⟩⟩⟩⟩⟩⟩
def lw_privs_5 : List (MethodName × Nat) := [(⟨"HedgeCommitteeModel", "digit", "()I"⟩, 26), (⟨"HedgeCommitteeModel", "here", "()I"⟩, 26), (⟨"HedgeCommitteeModel", "number", "()I"⟩, 26), (⟨"HedgeCommitteeModel", "digitBehind", "()I"⟩, 26), (⟨"HedgeCommitteeModel", "expects", "(I)V"⟩, 26), (⟨"HedgeCommitteeModel", "numberBehind", "()I"⟩, 26), (⟨"HedgeCommitteeModel", "does", "(I)V"⟩, 26), (⟨"HedgeCommitteeModel", "writesWhole", "(I)V"⟩, 26), (⟨"HedgeCommitteeModel", "sign", "(I)V"⟩, 26), (⟨"HedgeCommitteeModel", "childFrom", "(II)I"⟩, 26), (⟨"HedgeCommitteeModel", "next", "(II)I"⟩, 26)]
theorem lw_r5 : ∀ q ∈ lw_privs_5, lw_okq q := List.forall_mem_cons.mpr ⟨lw_p55, List.forall_mem_cons.mpr ⟨lw_p56, List.forall_mem_cons.mpr ⟨lw_p57, List.forall_mem_cons.mpr ⟨lw_p58, List.forall_mem_cons.mpr ⟨lw_p59, List.forall_mem_cons.mpr ⟨lw_p60, List.forall_mem_cons.mpr ⟨lw_p61, List.forall_mem_cons.mpr ⟨lw_p62, List.forall_mem_cons.mpr ⟨lw_p63, List.forall_mem_cons.mpr ⟨lw_p64, List.forall_mem_cons.mpr ⟨lw_p65, fun _ h => absurd h List.not_mem_nil⟩⟩⟩⟩⟩⟩⟩⟩⟩⟩⟩
def lw_privs : List (MethodName × Nat) := lw_privs_0 ++ lw_privs_1 ++ lw_privs_2 ++ lw_privs_3 ++ lw_privs_4 ++ lw_privs_5
theorem lw_privs_ok : ∀ q ∈ lw_privs, lw_okq q := by
  unfold lw_privs
  intro q h
  simp only [List.mem_append] at h
  rcases h with ((((h | h) | h) | h) | h) | h
  · exact lw_r0 q h
  · exact lw_r1 q h
  · exact lw_r2 q h
  · exact lw_r3 q h
  · exact lw_r4 q h
  · exact lw_r5 q h
def lw_tbl : List Cond := k2_sels lw_privs ++ tables_1
def RX0 : String := "HedgeCommittee$1"
def TX0 : u_T := fun k => match k with
  | _ => ("", "", "", false)
def tyX0 : Nat → FieldType := fun k => match k with
  | _ => .int
abbrev wsX00 : List Cond := u_ws RX0 TX0 0
theorem nmX0 : ∀ a, a < 0 → ∀ b, b < 0 → a ≠ b → (TX0 a).2.1 ≠ (TX0 b).2.1 := by decide +kernel
theorem tyX0_ok : ∀ k, k < 0 → parseFieldDescriptor (TX0 k).2.2.1 = some (tyX0 k) := by decide +kernel
def RX1 : String := "HedgeCommittee$Command"
def TX1 : u_T := fun k => match k with
  | 0 => ("HedgeCommittee$Command", "kind", "LHedgeCommittee$Kind;", true)
  | 1 => ("HedgeCommittee$Command", "first", "I", true)
  | 2 => ("HedgeCommittee$Command", "second", "I", true)
  | _ => ("HedgeCommittee$Command", "third", "I", true)
def tyX1 : Nat → FieldType := fun k => match k with
  | 0 => .object "HedgeCommittee$Kind"
  | 1 => .int
  | 2 => .int
  | _ => .int
abbrev wsX10 : List Cond := u_ws RX1 TX1 4
theorem nmX1 : ∀ a, a < 4 → ∀ b, b < 4 → a ≠ b → (TX1 a).2.1 ≠ (TX1 b).2.1 := by decide +kernel
theorem tyX1_ok : ∀ k, k < 4 → parseFieldDescriptor (TX1 k).2.2.1 = some (tyX1 k) := by decide +kernel
abbrev cX1_init : ByteArray := prog_3_method_1_code
def yX1_init : MethodName := ⟨RX1, "<init>", "(LHedgeCommittee$Kind;III)V"⟩
def RX2 : String := "HedgeCommittee$Hedges"
def TX2 : u_T := fun k => match k with
  | 0 => ("HedgeCommittee$Hedges", "leaves", "[I", true)
  | 1 => ("HedgeCommittee$Hedges", "thorns", "[I", true)
  | 2 => ("HedgeCommittee$Hedges", "tastes", "[I", true)
  | _ => ("HedgeCommittee$Hedges", "count", "I", false)
def tyX2 : Nat → FieldType := fun k => match k with
  | 0 => .array .int
  | 1 => .array .int
  | 2 => .array .int
  | _ => .int
abbrev wsX20 : List Cond := u_ws RX2 TX2 4
theorem nmX2 : ∀ a, a < 4 → ∀ b, b < 4 → a ≠ b → (TX2 a).2.1 ≠ (TX2 b).2.1 := by decide +kernel
theorem tyX2_ok : ∀ k, k < 4 → parseFieldDescriptor (TX2 k).2.2.1 = some (tyX2 k) := by decide +kernel
abbrev cX2_init : ByteArray := prog_4_method_1_code
def yX2_init : MethodName := ⟨RX2, "<init>", "()V"⟩
abbrev cX2_copyFrom : ByteArray := prog_4_method_2_code
def yX2_copyFrom : MethodName := ⟨RX2, "copyFrom", "(LHedgeCommittee$Hedges;)V"⟩
abbrev cX2_has : ByteArray := prog_4_method_3_code
def yX2_has : MethodName := ⟨RX2, "has", "(I)Z"⟩
abbrev cX2_isFull : ByteArray := prog_4_method_4_code
def yX2_isFull : MethodName := ⟨RX2, "isFull", "()Z"⟩
abbrev cX2_add : ByteArray := prog_4_method_5_code
def yX2_add : MethodName := ⟨RX2, "add", "(III)I"⟩
abbrev cX2_difference : ByteArray := prog_4_method_6_code
def yX2_difference : MethodName := ⟨RX2, "difference", "(II)I"⟩
abbrev cX2_vetoes : ByteArray := prog_4_method_7_code
def yX2_vetoes : MethodName := ⟨RX2, "vetoes", "(II)Z"⟩
abbrev cX2_leavesFor : ByteArray := prog_4_method_8_code
def yX2_leavesFor : MethodName := ⟨RX2, "leavesFor", "(I)I"⟩
abbrev cX2_totalLeaves : ByteArray := prog_4_method_9_code
def yX2_totalLeaves : MethodName := ⟨RX2, "totalLeaves", "()I"⟩
abbrev cX2_decideOn : ByteArray := prog_4_method_10_code
def yX2_decideOn : MethodName := ⟨RX2, "decideOn", "(I)C"⟩
abbrev cX2_meet : ByteArray := prog_4_method_11_code
def yX2_meet : MethodName := ⟨RX2, "meet", "(I)V"⟩
abbrev cX2_ranksBefore : ByteArray := prog_4_method_12_code
def yX2_ranksBefore : MethodName := ⟨RX2, "ranksBefore", "(II)Z"⟩
abbrev cX2_atRank : ByteArray := prog_4_method_13_code
def yX2_atRank : MethodName := ⟨RX2, "atRank", "(I)I"⟩
abbrev cX2_rankOf : ByteArray := prog_4_method_14_code
def yX2_rankOf : MethodName := ⟨RX2, "rankOf", "(I)I"⟩
def RX3 : String := "HedgeCommittee$History"
def TX3 : u_T := fun k => match k with
  | 0 => ("HedgeCommittee$History", "states", "[LHedgeCommittee$State;", true)
  | _ => ("HedgeCommittee$History", "count", "I", false)
def tyX3 : Nat → FieldType := fun k => match k with
  | 0 => .array (.object "HedgeCommittee$State")
  | _ => .int
abbrev wsX30 : List Cond := u_ws RX3 TX3 2
theorem nmX3 : ∀ a, a < 2 → ∀ b, b < 2 → a ≠ b → (TX3 a).2.1 ≠ (TX3 b).2.1 := by decide +kernel
theorem tyX3_ok : ∀ k, k < 2 → parseFieldDescriptor (TX3 k).2.2.1 = some (tyX3 k) := by decide +kernel
abbrev cX3_init : ByteArray := prog_5_method_1_code
def yX3_init : MethodName := ⟨RX3, "<init>", "()V"⟩
abbrev cX3_note : ByteArray := prog_5_method_2_code
def yX3_note : MethodName := ⟨RX3, "note", "(LHedgeCommittee$State;)V"⟩
abbrev cX3_bringBackNoted : ByteArray := prog_5_method_3_code
def yX3_bringBackNoted : MethodName := ⟨RX3, "bringBackNoted", "(LHedgeCommittee$State;)V"⟩
abbrev cX3_keepNoted : ByteArray := prog_5_method_4_code
def yX3_keepNoted : MethodName := ⟨RX3, "keepNoted", "()V"⟩
abbrev cX3_forgetOldest : ByteArray := prog_5_method_5_code
def yX3_forgetOldest : MethodName := ⟨RX3, "forgetOldest", "()V"⟩
abbrev cX3_takeBack : ByteArray := prog_5_method_6_code
def yX3_takeBack : MethodName := ⟨RX3, "takeBack", "(LHedgeCommittee$State;)I"⟩
def RX4 : String := "HedgeCommittee$Kind"
def TX4 : u_T := fun k => match k with
  | _ => ("", "", "", false)
def tyX4 : Nat → FieldType := fun k => match k with
  | _ => .int
abbrev wsX40 : List Cond := u_ws RX4 TX4 0
theorem nmX4 : ∀ a, a < 0 → ∀ b, b < 0 → a ≠ b → (TX4 a).2.1 ≠ (TX4 b).2.1 := by decide +kernel
theorem tyX4_ok : ∀ k, k < 0 → parseFieldDescriptor (TX4 k).2.2.1 = some (tyX4 k) := by decide +kernel
def RX5 : String := "HedgeCommittee$Motions"
def TX5 : u_T := fun k => match k with
  | 0 => ("HedgeCommittee$Motions", "ids", "[I", true)
  | 1 => ("HedgeCommittee$Motions", "tones", "[I", true)
  | 2 => ("HedgeCommittee$Motions", "weights", "[I", true)
  | 3 => ("HedgeCommittee$Motions", "parents", "[I", true)
  | 4 => ("HedgeCommittee$Motions", "count", "I", false)
  | _ => ("HedgeCommittee$Motions", "nextId", "I", false)
def tyX5 : Nat → FieldType := fun k => match k with
  | 0 => .array .int
  | 1 => .array .int
  | 2 => .array .int
  | 3 => .array .int
  | 4 => .int
  | _ => .int
abbrev wsX50 : List Cond := u_ws RX5 TX5 6
theorem nmX5 : ∀ a, a < 6 → ∀ b, b < 6 → a ≠ b → (TX5 a).2.1 ≠ (TX5 b).2.1 := by decide +kernel
theorem tyX5_ok : ∀ k, k < 6 → parseFieldDescriptor (TX5 k).2.2.1 = some (tyX5 k) := by decide +kernel
abbrev cX5_init : ByteArray := prog_7_method_1_code
def yX5_init : MethodName := ⟨RX5, "<init>", "()V"⟩
abbrev cX5_copyFrom : ByteArray := prog_7_method_2_code
def yX5_copyFrom : MethodName := ⟨RX5, "copyFrom", "(LHedgeCommittee$Motions;)V"⟩
abbrev cX5_isFull : ByteArray := prog_7_method_3_code
def yX5_isFull : MethodName := ⟨RX5, "isFull", "()Z"⟩
abbrev cX5_require : ByteArray := prog_7_method_4_code
def yX5_require : MethodName := ⟨RX5, "require", "(I)I"⟩
abbrev cX5_add : ByteArray := prog_7_method_5_code
def yX5_add : MethodName := ⟨RX5, "add", "(III)I"⟩
abbrev cX5_removeTip : ByteArray := prog_7_method_6_code
def yX5_removeTip : MethodName := ⟨RX5, "removeTip", "(I)V"⟩
abbrev cX5_hasAmendments : ByteArray := prog_7_method_7_code
def yX5_hasAmendments : MethodName := ⟨RX5, "hasAmendments", "(I)Z"⟩
abbrev cX5_depthOf : ByteArray := prog_7_method_8_code
def yX5_depthOf : MethodName := ⟨RX5, "depthOf", "(I)I"⟩
abbrev cX5_isInBranch : ByteArray := prog_7_method_9_code
def yX5_isInBranch : MethodName := ⟨RX5, "isInBranch", "(II)Z"⟩
abbrev cX5_sizeOfBranch : ByteArray := prog_7_method_10_code
def yX5_sizeOfBranch : MethodName := ⟨RX5, "sizeOfBranch", "(I)I"⟩
abbrev cX5_lastTipOf : ByteArray := prog_7_method_11_code
def yX5_lastTipOf : MethodName := ⟨RX5, "lastTipOf", "(I)I"⟩
abbrev cX5_totalWeight : ByteArray := prog_7_method_12_code
def yX5_totalWeight : MethodName := ⟨RX5, "totalWeight", "()I"⟩
abbrev cX5_ranksBefore : ByteArray := prog_7_method_13_code
def yX5_ranksBefore : MethodName := ⟨RX5, "ranksBefore", "(II)Z"⟩
abbrev cX5_atRank : ByteArray := prog_7_method_14_code
def yX5_atRank : MethodName := ⟨RX5, "atRank", "(I)I"⟩
abbrev cX5_rankOf : ByteArray := prog_7_method_15_code
def yX5_rankOf : MethodName := ⟨RX5, "rankOf", "(I)I"⟩
def RX6 : String := "HedgeCommittee$Program"
def TX6 : u_T := fun k => match k with
  | 0 => ("HedgeCommittee$Program", "text", "[C", true)
  | 1 => ("HedgeCommittee$Program", "arguments", "[I", true)
  | 2 => ("HedgeCommittee$Program", "commands", "Ljava/util/ArrayList;", true)
  | 3 => ("HedgeCommittee$Program", "length", "I", false)
  | _ => ("HedgeCommittee$Program", "at", "I", false)
def tyX6 : Nat → FieldType := fun k => match k with
  | 0 => .array .char
  | 1 => .array .int
  | 2 => .object "java/util/ArrayList"
  | 3 => .int
  | _ => .int
abbrev wsX60 : List Cond := u_ws RX6 TX6 5
theorem nmX6 : ∀ a, a < 5 → ∀ b, b < 5 → a ≠ b → (TX6 a).2.1 ≠ (TX6 b).2.1 := by decide +kernel
theorem tyX6_ok : ∀ k, k < 5 → parseFieldDescriptor (TX6 k).2.2.1 = some (tyX6 k) := by decide +kernel
abbrev cX6_init : ByteArray := prog_8_method_1_code
def yX6_init : MethodName := ⟨RX6, "<init>", "()V"⟩
abbrev cX6_isFull : ByteArray := prog_8_method_2_code
def yX6_isFull : MethodName := ⟨RX6, "isFull", "()Z"⟩
abbrev cX6_put : ByteArray := prog_8_method_3_code
def yX6_put : MethodName := ⟨RX6, "put", "(C)I"⟩
abbrev cX6_empty : ByteArray := prog_8_method_4_code
def yX6_empty : MethodName := ⟨RX6, "empty", "()V"⟩
abbrev cX6_parse : ByteArray := prog_8_method_5_code
def yX6_parse : MethodName := ⟨RX6, "parse", "()I"⟩
abbrev cX6_readCommand : ByteArray := prog_8_method_6_code
def yX6_readCommand : MethodName := ⟨RX6, "readCommand", "()Z"⟩
abbrev cX6_kindAhead : ByteArray := prog_8_method_7_code
def yX6_kindAhead : MethodName := ⟨RX6, "kindAhead", "()LHedgeCommittee$Kind;"⟩
abbrev cX6_readSign : ByteArray := prog_8_method_8_code
def yX6_readSign : MethodName := ⟨RX6, "readSign", "(C)Z"⟩
abbrev cX6_digitAhead : ByteArray := prog_8_method_9_code
def yX6_digitAhead : MethodName := ⟨RX6, "digitAhead", "()Z"⟩
abbrev cX6_readDigits : ByteArray := prog_8_method_10_code
def yX6_readDigits : MethodName := ⟨RX6, "readDigits", "(Z)I"⟩
def RX7 : String := "HedgeCommittee$State"
def TX7 : u_T := fun k => match k with
  | 0 => ("HedgeCommittee$State", "hedges", "LHedgeCommittee$Hedges;", true)
  | 1 => ("HedgeCommittee$State", "motions", "LHedgeCommittee$Motions;", true)
  | 2 => ("HedgeCommittee$State", "minutes", "[I", true)
  | 3 => ("HedgeCommittee$State", "season", "I", false)
  | 4 => ("HedgeCommittee$State", "votes", "I", false)
  | 5 => ("HedgeCommittee$State", "carriedVotes", "I", false)
  | 6 => ("HedgeCommittee$State", "begun", "I", false)
  | 7 => ("HedgeCommittee$State", "pruned", "I", false)
  | 8 => ("HedgeCommittee$State", "rejected", "I", false)
  | 9 => ("HedgeCommittee$State", "vetoed", "I", false)
  | _ => ("HedgeCommittee$State", "adopted", "I", false)
def tyX7 : Nat → FieldType := fun k => match k with
  | 0 => .object "HedgeCommittee$Hedges"
  | 1 => .object "HedgeCommittee$Motions"
  | 2 => .array .int
  | 3 => .int
  | 4 => .int
  | 5 => .int
  | 6 => .int
  | 7 => .int
  | 8 => .int
  | 9 => .int
  | _ => .int
abbrev wsX70 : List Cond := u_ws RX7 TX7 11
theorem nmX7 : ∀ a, a < 11 → ∀ b, b < 11 → a ≠ b → (TX7 a).2.1 ≠ (TX7 b).2.1 := by decide +kernel
theorem tyX7_ok : ∀ k, k < 11 → parseFieldDescriptor (TX7 k).2.2.1 = some (tyX7 k) := by decide +kernel
abbrev cX7_init : ByteArray := prog_9_method_1_code
def yX7_init : MethodName := ⟨RX7, "<init>", "()V"⟩
abbrev cX7_copyFrom : ByteArray := prog_9_method_2_code
def yX7_copyFrom : MethodName := ⟨RX7, "copyFrom", "(LHedgeCommittee$State;)V"⟩
abbrev cX7_accountedWeight : ByteArray := prog_9_method_3_code
def yX7_accountedWeight : MethodName := ⟨RX7, "accountedWeight", "()I"⟩
abbrev cX7_newHedge : ByteArray := prog_9_method_4_code
def yX7_newHedge : MethodName := ⟨RX7, "newHedge", "(III)I"⟩
abbrev cX7_newMain : ByteArray := prog_9_method_5_code
def yX7_newMain : MethodName := ⟨RX7, "newMain", "(II)I"⟩
abbrev cX7_newAmendment : ByteArray := prog_9_method_6_code
def yX7_newAmendment : MethodName := ⟨RX7, "newAmendment", "(III)I"⟩
abbrev cX7_growTip : ByteArray := prog_9_method_7_code
def yX7_growTip : MethodName := ⟨RX7, "growTip", "(I)I"⟩
abbrev cX7_cutBack : ByteArray := prog_9_method_8_code
def yX7_cutBack : MethodName := ⟨RX7, "cutBack", "(II)I"⟩
abbrev cX7_holdVote : ByteArray := prog_9_method_9_code
def yX7_holdVote : MethodName := ⟨RX7, "holdVote", "(I)C"⟩
abbrev cX7_bookOutcome : ByteArray := prog_9_method_10_code
def yX7_bookOutcome : MethodName := ⟨RX7, "bookOutcome", "(CII)V"⟩
abbrev cX7_beginNextSeason : ByteArray := prog_9_method_11_code
def yX7_beginNextSeason : MethodName := ⟨RX7, "beginNextSeason", "()V"⟩
abbrev cX7_begin : ByteArray := prog_9_method_12_code
def yX7_begin : MethodName := ⟨RX7, "begin", "(III)I"⟩
abbrev cX7_requireRoom : ByteArray := prog_9_method_13_code
def yX7_requireRoom : MethodName := ⟨RX7, "requireRoom", "()V"⟩
abbrev cX7_requireToneAndWeight : ByteArray := prog_9_method_14_code
def yX7_requireToneAndWeight : MethodName := ⟨RX7, "requireToneAndWeight", "(II)V"⟩
abbrev cX7_isDigit : ByteArray := prog_9_method_15_code
def yX7_isDigit : MethodName := ⟨RX7, "isDigit", "(I)Z"⟩
def RX8 : String := "HedgeCommittee$Trees"
def TX8 : u_T := fun k => match k with
  | 0 => ("HedgeCommittee$Trees", "rowOfOne", "[I", true)
  | 1 => ("HedgeCommittee$Trees", "rowOfOther", "[I", true)
  | 2 => ("HedgeCommittee$Trees", "heights", "[I", true)
  | 3 => ("HedgeCommittee$Trees", "distances", "[I", true)
  | 4 => ("HedgeCommittee$Trees", "with", "[J", true)
  | _ => ("HedgeCommittee$Trees", "without", "[J", true)
def tyX8 : Nat → FieldType := fun k => match k with
  | 0 => .array .int
  | 1 => .array .int
  | 2 => .array .int
  | 3 => .array .int
  | 4 => .array .long
  | _ => .array .long
abbrev wsX80 : List Cond := u_ws RX8 TX8 6
theorem nmX8 : ∀ a, a < 6 → ∀ b, b < 6 → a ≠ b → (TX8 a).2.1 ≠ (TX8 b).2.1 := by decide +kernel
theorem tyX8_ok : ∀ k, k < 6 → parseFieldDescriptor (TX8 k).2.2.1 = some (tyX8 k) := by decide +kernel
abbrev cX8_init : ByteArray := prog_10_method_1_code
def yX8_init : MethodName := ⟨RX8, "<init>", "()V"⟩
abbrev cX8_commonByClimbing : ByteArray := prog_10_method_2_code
def yX8_commonByClimbing : MethodName := ⟨RX8, "commonByClimbing", "(LHedgeCommittee$Motions;II)I"⟩
abbrev cX8_commonByRows : ByteArray := prog_10_method_3_code
def yX8_commonByRows : MethodName := ⟨RX8, "commonByRows", "(LHedgeCommittee$Motions;II)I"⟩
abbrev cX8_fillRow : ByteArray := prog_10_method_4_code
def yX8_fillRow : MethodName := ⟨RX8, "fillRow", "(LHedgeCommittee$Motions;I[I)I"⟩
abbrev cX8_longestByHeights : ByteArray := prog_10_method_5_code
def yX8_longestByHeights : MethodName := ⟨RX8, "longestByHeights", "(LHedgeCommittee$Motions;I)I"⟩
abbrev cX8_longestBySweeps : ByteArray := prog_10_method_6_code
def yX8_longestBySweeps : MethodName := ⟨RX8, "longestBySweeps", "(LHedgeCommittee$Motions;I)I"⟩
abbrev cX8_farthestFrom : ByteArray := prog_10_method_7_code
def yX8_farthestFrom : MethodName := ⟨RX8, "farthestFrom", "(LHedgeCommittee$Motions;II)I"⟩
abbrev cX8_bestByBranches : ByteArray := prog_10_method_8_code
def yX8_bestByBranches : MethodName := ⟨RX8, "bestByBranches", "(LHedgeCommittee$Motions;)J"⟩
abbrev cX8_bestBySets : ByteArray := prog_10_method_9_code
def yX8_bestBySets : MethodName := ⟨RX8, "bestBySets", "(LHedgeCommittee$Motions;)J"⟩
abbrev cX8_isGood : ByteArray := prog_10_method_10_code
def yX8_isGood : MethodName := ⟨RX8, "isGood", "(LHedgeCommittee$Motions;I)Z"⟩
abbrev cX8_worthOf : ByteArray := prog_10_method_11_code
def yX8_worthOf : MethodName := ⟨RX8, "worthOf", "(LHedgeCommittee$Motions;I)J"⟩
abbrev cX8_countGoodSets : ByteArray := prog_10_method_12_code
def yX8_countGoodSets : MethodName := ⟨RX8, "countGoodSets", "(LHedgeCommittee$Motions;)I"⟩
abbrev cX8_agreeOnPaths : ByteArray := prog_10_method_13_code
def yX8_agreeOnPaths : MethodName := ⟨RX8, "agreeOnPaths", "(LHedgeCommittee$Motions;)Z"⟩
abbrev cX8_agreeOnCommonMotions : ByteArray := prog_10_method_14_code
def yX8_agreeOnCommonMotions : MethodName := ⟨RX8, "agreeOnCommonMotions", "(LHedgeCommittee$Motions;)Z"⟩
def RX9 : String := "HedgeCommittee"
def TX9 : u_T := fun k => match k with
  | 0 => ("HedgeCommittee", "state", "LHedgeCommittee$State;", true)
  | 1 => ("HedgeCommittee", "saved", "LHedgeCommittee$State;", true)
  | 2 => ("HedgeCommittee", "history", "LHedgeCommittee$History;", true)
  | 3 => ("HedgeCommittee", "trees", "LHedgeCommittee$Trees;", true)
  | 4 => ("HedgeCommittee", "program", "LHedgeCommittee$Program;", true)
  | 5 => ("HedgeCommittee", "output", "Ljava/lang/StringBuilder;", true)
  | 6 => ("HedgeCommittee", "hasSaved", "Z", false)
  | 7 => ("HedgeCommittee", "lastErrorPosition", "I", false)
  | _ => ("HedgeCommittee", "lastFailedCommand", "I", false)
def tyX9 : Nat → FieldType := fun k => match k with
  | 0 => .object "HedgeCommittee$State"
  | 1 => .object "HedgeCommittee$State"
  | 2 => .object "HedgeCommittee$History"
  | 3 => .object "HedgeCommittee$Trees"
  | 4 => .object "HedgeCommittee$Program"
  | 5 => .object "java/lang/StringBuilder"
  | 6 => .boolean
  | 7 => .int
  | _ => .int
abbrev wsX90 : List Cond := u_ws RX9 TX9 9
theorem nmX9 : ∀ a, a < 9 → ∀ b, b < 9 → a ≠ b → (TX9 a).2.1 ≠ (TX9 b).2.1 := by decide +kernel
theorem tyX9_ok : ∀ k, k < 9 → parseFieldDescriptor (TX9 k).2.2.1 = some (tyX9 k) := by decide +kernel
abbrev cX9_init : ByteArray := prog_1_method_1_code
def yX9_init : MethodName := ⟨RX9, "<init>", "()V"⟩
abbrev cX9_addHedge : ByteArray := prog_1_method_2_code
def yX9_addHedge : MethodName := ⟨RX9, "addHedge", "(III)I"⟩
abbrev cX9_propose : ByteArray := prog_1_method_3_code
def yX9_propose : MethodName := ⟨RX9, "propose", "(II)I"⟩
abbrev cX9_amend : ByteArray := prog_1_method_4_code
def yX9_amend : MethodName := ⟨RX9, "amend", "(III)I"⟩
abbrev cX9_prune : ByteArray := prog_1_method_5_code
def yX9_prune : MethodName := ⟨RX9, "prune", "(II)I"⟩
abbrev cX9_regrow : ByteArray := prog_1_method_6_code
def yX9_regrow : MethodName := ⟨RX9, "regrow", "(I)I"⟩
abbrev cX9_vote : ByteArray := prog_1_method_7_code
def yX9_vote : MethodName := ⟨RX9, "vote", "(I)C"⟩
abbrev cX9_passSeason : ByteArray := prog_1_method_8_code
def yX9_passSeason : MethodName := ⟨RX9, "passSeason", "()I"⟩
abbrev cX9_hedgeCount : ByteArray := prog_1_method_9_code
def yX9_hedgeCount : MethodName := ⟨RX9, "hedgeCount", "()I"⟩
abbrev cX9_leaves : ByteArray := prog_1_method_10_code
def yX9_leaves : MethodName := ⟨RX9, "leaves", "(I)I"⟩
abbrev cX9_thorns : ByteArray := prog_1_method_11_code
def yX9_thorns : MethodName := ⟨RX9, "thorns", "(I)I"⟩
abbrev cX9_hedgeAtRank : ByteArray := prog_1_method_12_code
def yX9_hedgeAtRank : MethodName := ⟨RX9, "hedgeAtRank", "(I)I"⟩
abbrev cX9_leavesInFavour : ByteArray := prog_1_method_13_code
def yX9_leavesInFavour : MethodName := ⟨RX9, "leavesInFavour", "(I)I"⟩
abbrev cX9_wouldVeto : ByteArray := prog_1_method_14_code
def yX9_wouldVeto : MethodName := ⟨RX9, "wouldVeto", "(II)Z"⟩
abbrev cX9_motionCount : ByteArray := prog_1_method_15_code
def yX9_motionCount : MethodName := ⟨RX9, "motionCount", "()I"⟩
abbrev cX9_motionAt : ByteArray := prog_1_method_16_code
def yX9_motionAt : MethodName := ⟨RX9, "motionAt", "(I)I"⟩
abbrev cX9_tone : ByteArray := prog_1_method_17_code
def yX9_tone : MethodName := ⟨RX9, "tone", "(I)I"⟩
abbrev cX9_weight : ByteArray := prog_1_method_18_code
def yX9_weight : MethodName := ⟨RX9, "weight", "(I)I"⟩
abbrev cX9_parent : ByteArray := prog_1_method_19_code
def yX9_parent : MethodName := ⟨RX9, "parent", "(I)I"⟩
abbrev cX9_depth : ByteArray := prog_1_method_20_code
def yX9_depth : MethodName := ⟨RX9, "depth", "(I)I"⟩
abbrev cX9_isTip : ByteArray := prog_1_method_21_code
def yX9_isTip : MethodName := ⟨RX9, "isTip", "(I)Z"⟩
abbrev cX9_branchSize : ByteArray := prog_1_method_22_code
def yX9_branchSize : MethodName := ⟨RX9, "branchSize", "(I)I"⟩
abbrev cX9_lastTip : ByteArray := prog_1_method_23_code
def yX9_lastTip : MethodName := ⟨RX9, "lastTip", "(I)I"⟩
abbrev cX9_motionAtRank : ByteArray := prog_1_method_24_code
def yX9_motionAtRank : MethodName := ⟨RX9, "motionAtRank", "(I)I"⟩
abbrev cX9_commonMotion : ByteArray := prog_1_method_25_code
def yX9_commonMotion : MethodName := ⟨RX9, "commonMotion", "(II)I"⟩
abbrev cX9_commonMotionByRows : ByteArray := prog_1_method_26_code
def yX9_commonMotionByRows : MethodName := ⟨RX9, "commonMotionByRows", "(II)I"⟩
abbrev cX9_pathSize : ByteArray := prog_1_method_27_code
def yX9_pathSize : MethodName := ⟨RX9, "pathSize", "(II)I"⟩
abbrev cX9_longestPath : ByteArray := prog_1_method_28_code
def yX9_longestPath : MethodName := ⟨RX9, "longestPath", "(I)I"⟩
abbrev cX9_longestPathBySweeps : ByteArray := prog_1_method_29_code
def yX9_longestPathBySweeps : MethodName := ⟨RX9, "longestPathBySweeps", "(I)I"⟩
abbrev cX9_bestWorth : ByteArray := prog_1_method_30_code
def yX9_bestWorth : MethodName := ⟨RX9, "bestWorth", "()I"⟩
abbrev cX9_bestWorthBySets : ByteArray := prog_1_method_31_code
def yX9_bestWorthBySets : MethodName := ⟨RX9, "bestWorthBySets", "()I"⟩
abbrev cX9_goodSets : ByteArray := prog_1_method_32_code
def yX9_goodSets : MethodName := ⟨RX9, "goodSets", "()I"⟩
abbrev cX9_season : ByteArray := prog_1_method_33_code
def yX9_season : MethodName := ⟨RX9, "season", "()I"⟩
abbrev cX9_minutesIn : ByteArray := prog_1_method_34_code
def yX9_minutesIn : MethodName := ⟨RX9, "minutesIn", "(I)I"⟩
abbrev cX9_adoptedWeight : ByteArray := prog_1_method_35_code
def yX9_adoptedWeight : MethodName := ⟨RX9, "adoptedWeight", "()I"⟩
abbrev cX9_weightTotal : ByteArray := prog_1_method_36_code
def yX9_weightTotal : MethodName := ⟨RX9, "weightTotal", "()I"⟩
abbrev cX9_weightByAccounts : ByteArray := prog_1_method_37_code
def yX9_weightByAccounts : MethodName := ⟨RX9, "weightByAccounts", "()I"⟩
abbrev cX9_meanLeaves : ByteArray := prog_1_method_38_code
def yX9_meanLeaves : MethodName := ⟨RX9, "meanLeaves", "()D"⟩
abbrev cX9_carriedShare : ByteArray := prog_1_method_39_code
def yX9_carriedShare : MethodName := ⟨RX9, "carriedShare", "()F"⟩
abbrev cX9_isConsistent : ByteArray := prog_1_method_40_code
def yX9_isConsistent : MethodName := ⟨RX9, "isConsistent", "()Z"⟩
abbrev cX9_append : ByteArray := prog_1_method_41_code
def yX9_append : MethodName := ⟨RX9, "append", "(C)I"⟩
abbrev cX9_run : ByteArray := prog_1_method_42_code
def yX9_run : MethodName := ⟨RX9, "run", "()I"⟩
abbrev cX9_errorPosition : ByteArray := prog_1_method_43_code
def yX9_errorPosition : MethodName := ⟨RX9, "errorPosition", "()I"⟩
abbrev cX9_failedCommand : ByteArray := prog_1_method_44_code
def yX9_failedCommand : MethodName := ⟨RX9, "failedCommand", "()I"⟩
abbrev cX9_writeBranch : ByteArray := prog_1_method_45_code
def yX9_writeBranch : MethodName := ⟨RX9, "writeBranch", "(I)I"⟩
abbrev cX9_outputAt : ByteArray := prog_1_method_46_code
def yX9_outputAt : MethodName := ⟨RX9, "outputAt", "(I)C"⟩
abbrev cX9_undo : ByteArray := prog_1_method_47_code
def yX9_undo : MethodName := ⟨RX9, "undo", "()I"⟩
abbrev cX9_save : ByteArray := prog_1_method_48_code
def yX9_save : MethodName := ⟨RX9, "save", "()V"⟩
abbrev cX9_restore : ByteArray := prog_1_method_49_code
def yX9_restore : MethodName := ⟨RX9, "restore", "()V"⟩
abbrev cX9_requireHedge : ByteArray := prog_1_method_50_code
def yX9_requireHedge : MethodName := ⟨RX9, "requireHedge", "(I)V"⟩
abbrev cX9_requirePosition : ByteArray := prog_1_method_51_code
def yX9_requirePosition : MethodName := ⟨RX9, "requirePosition", "(I)V"⟩
abbrev cX9_idOfCommon : ByteArray := prog_1_method_52_code
def yX9_idOfCommon : MethodName := ⟨RX9, "idOfCommon", "(I)I"⟩
abbrev cX9_firstFailure : ByteArray := prog_1_method_53_code
def yX9_firstFailure : MethodName := ⟨RX9, "firstFailure", "()I"⟩
abbrev cX9_succeeds : ByteArray := prog_1_method_54_code
def yX9_succeeds : MethodName := ⟨RX9, "succeeds", "(LHedgeCommittee$Command;)Z"⟩
abbrev cX9_writePart : ByteArray := prog_1_method_55_code
def yX9_writePart : MethodName := ⟨RX9, "writePart", "(LHedgeCommittee$Motions;IILjava/lang/StringBuilder;)V"⟩
def RX10 : String := "HedgeCommitteeModel"
def TX10 : u_T := fun k => match k with
  | 0 => ("HedgeCommitteeModel", "m", "[I", true)
  | 1 => ("HedgeCommitteeModel", "aside", "[I", true)
  | 2 => ("HedgeCommitteeModel", "saved", "[I", true)
  | 3 => ("HedgeCommitteeModel", "isSaved", "Z", false)
  | 4 => ("HedgeCommitteeModel", "past", "[I", true)
  | 5 => ("HedgeCommitteeModel", "changes", "I", false)
  | 6 => ("HedgeCommitteeModel", "errorAt", "I", false)
  | 7 => ("HedgeCommitteeModel", "failed", "I", false)
  | 8 => ("HedgeCommitteeModel", "thrown", "I", false)
  | 9 => ("HedgeCommitteeModel", "input", "[I", true)
  | 10 => ("HedgeCommitteeModel", "inputMany", "I", false)
  | 11 => ("HedgeCommitteeModel", "with", "[I", true)
  | 12 => ("HedgeCommitteeModel", "without", "[I", true)
  | 13 => ("HedgeCommitteeModel", "setsWith", "[I", true)
  | 14 => ("HedgeCommitteeModel", "setsWithout", "[I", true)
  | 15 => ("HedgeCommitteeModel", "worthAll", "I", false)
  | 16 => ("HedgeCommitteeModel", "setsAll", "I", false)
  | 17 => ("HedgeCommitteeModel", "letters", "[C", true)
  | 18 => ("HedgeCommitteeModel", "begins0", "[I", true)
  | 19 => ("HedgeCommitteeModel", "commands", "[I", true)
  | 20 => ("HedgeCommitteeModel", "commandMany", "I", false)
  | 21 => ("HedgeCommitteeModel", "place0", "I", false)
  | 22 => ("HedgeCommitteeModel", "size0", "I", false)
  | 23 => ("HedgeCommitteeModel", "isWrong", "Z", false)
  | 24 => ("HedgeCommitteeModel", "line", "[I", true)
  | _ => ("HedgeCommitteeModel", "lineMany", "I", false)
def tyX10 : Nat → FieldType := fun k => match k with
  | 0 => .array .int
  | 1 => .array .int
  | 2 => .array .int
  | 3 => .boolean
  | 4 => .array .int
  | 5 => .int
  | 6 => .int
  | 7 => .int
  | 8 => .int
  | 9 => .array .int
  | 10 => .int
  | 11 => .array .int
  | 12 => .array .int
  | 13 => .array .int
  | 14 => .array .int
  | 15 => .int
  | 16 => .int
  | 17 => .array .char
  | 18 => .array .int
  | 19 => .array .int
  | 20 => .int
  | 21 => .int
  | 22 => .int
  | 23 => .boolean
  | 24 => .array .int
  | _ => .int
abbrev wsX100 : List Cond := u_ws RX10 TX10 26
theorem nmX10 : ∀ a, a < 26 → ∀ b, b < 26 → a ≠ b → (TX10 a).2.1 ≠ (TX10 b).2.1 := by decide +kernel
theorem tyX10_ok : ∀ k, k < 26 → parseFieldDescriptor (TX10 k).2.2.1 = some (tyX10 k) := by decide +kernel
abbrev cX10_init : ByteArray := prog_12_method_1_code
def yX10_init : MethodName := ⟨RX10, "<init>", "()V"⟩
abbrev cX10_thrown : ByteArray := prog_12_method_2_code
def yX10_thrown : MethodName := ⟨RX10, "thrown", "()I"⟩
abbrev cX10_throwing : ByteArray := prog_12_method_3_code
def yX10_throwing : MethodName := ⟨RX10, "throwing", "(I)I"⟩
abbrev cX10_in : ByteArray := prog_12_method_4_code
def yX10_in : MethodName := ⟨RX10, "in", "(JJJ)Z"⟩
abbrev cX10_starts : ByteArray := prog_12_method_5_code
def yX10_starts : MethodName := ⟨RX10, "starts", "()V"⟩
abbrev cX10_changed : ByteArray := prog_12_method_6_code
def yX10_changed : MethodName := ⟨RX10, "changed", "(I)I"⟩
abbrev cX10_hedgeAt : ByteArray := prog_12_method_7_code
def yX10_hedgeAt : MethodName := ⟨RX10, "hedgeAt", "(I)I"⟩
abbrev cX10_isHedge : ByteArray := prog_12_method_8_code
def yX10_isHedge : MethodName := ⟨RX10, "isHedge", "(I)Z"⟩
abbrev cX10_of : ByteArray := prog_12_method_9_code
def yX10_of : MethodName := ⟨RX10, "of", "(II)I"⟩
abbrev cX10_find : ByteArray := prog_12_method_10_code
def yX10_find : MethodName := ⟨RX10, "find", "(I)I"⟩
abbrev cX10_above : ByteArray := prog_12_method_11_code
def yX10_above : MethodName := ⟨RX10, "above", "(I)I"⟩
abbrev cX10_deep : ByteArray := prog_12_method_12_code
def yX10_deep : MethodName := ⟨RX10, "deep", "(I)I"⟩
abbrev cX10_isTipAt : ByteArray := prog_12_method_13_code
def yX10_isTipAt : MethodName := ⟨RX10, "isTipAt", "(I)Z"⟩
abbrev cX10_isIn : ByteArray := prog_12_method_14_code
def yX10_isIn : MethodName := ⟨RX10, "isIn", "(II)Z"⟩
abbrev cX10_lastTipAt : ByteArray := prog_12_method_15_code
def yX10_lastTipAt : MethodName := ⟨RX10, "lastTipAt", "(I)I"⟩
abbrev cX10_far : ByteArray := prog_12_method_16_code
def yX10_far : MethodName := ⟨RX10, "far", "(II)I"⟩
abbrev cX10_vetoes : ByteArray := prog_12_method_17_code
def yX10_vetoes : MethodName := ⟨RX10, "vetoes", "(II)Z"⟩
abbrev cX10_favour : ByteArray := prog_12_method_18_code
def yX10_favour : MethodName := ⟨RX10, "favour", "(I)I"⟩
abbrev cX10_leavesAll : ByteArray := prog_12_method_19_code
def yX10_leavesAll : MethodName := ⟨RX10, "leavesAll", "()I"⟩
abbrev cX10_drops : ByteArray := prog_12_method_20_code
def yX10_drops : MethodName := ⟨RX10, "drops", "(I)V"⟩
abbrev cX10_adds : ByteArray := prog_12_method_21_code
def yX10_adds : MethodName := ⟨RX10, "adds", "(III)I"⟩
abbrev cX10_hedgeIt : ByteArray := prog_12_method_22_code
def yX10_hedgeIt : MethodName := ⟨RX10, "hedgeIt", "(III)I"⟩
abbrev cX10_addHedge : ByteArray := prog_12_method_23_code
def yX10_addHedge : MethodName := ⟨RX10, "addHedge", "(III)I"⟩
abbrev cX10_mainIt : ByteArray := prog_12_method_24_code
def yX10_mainIt : MethodName := ⟨RX10, "mainIt", "(II)I"⟩
abbrev cX10_propose : ByteArray := prog_12_method_25_code
def yX10_propose : MethodName := ⟨RX10, "propose", "(II)I"⟩
abbrev cX10_amendIt : ByteArray := prog_12_method_26_code
def yX10_amendIt : MethodName := ⟨RX10, "amendIt", "(III)I"⟩
abbrev cX10_amend : ByteArray := prog_12_method_27_code
def yX10_amend : MethodName := ⟨RX10, "amend", "(III)I"⟩
abbrev cX10_pruneIt : ByteArray := prog_12_method_28_code
def yX10_pruneIt : MethodName := ⟨RX10, "pruneIt", "(II)I"⟩
abbrev cX10_prune : ByteArray := prog_12_method_29_code
def yX10_prune : MethodName := ⟨RX10, "prune", "(II)I"⟩
abbrev cX10_regrowIt : ByteArray := prog_12_method_30_code
def yX10_regrowIt : MethodName := ⟨RX10, "regrowIt", "(I)I"⟩
abbrev cX10_regrow : ByteArray := prog_12_method_31_code
def yX10_regrow : MethodName := ⟨RX10, "regrow", "(I)I"⟩
abbrev cX10_carries : ByteArray := prog_12_method_32_code
def yX10_carries : MethodName := ⟨RX10, "carries", "(I)V"⟩
abbrev cX10_voteIt : ByteArray := prog_12_method_33_code
def yX10_voteIt : MethodName := ⟨RX10, "voteIt", "(I)I"⟩
abbrev cX10_vote : ByteArray := prog_12_method_34_code
def yX10_vote : MethodName := ⟨RX10, "vote", "(I)C"⟩
abbrev cX10_seasonIt : ByteArray := prog_12_method_35_code
def yX10_seasonIt : MethodName := ⟨RX10, "seasonIt", "()I"⟩
abbrev cX10_passSeason : ByteArray := prog_12_method_36_code
def yX10_passSeason : MethodName := ⟨RX10, "passSeason", "()I"⟩
abbrev cX10_hedgeCount : ByteArray := prog_12_method_37_code
def yX10_hedgeCount : MethodName := ⟨RX10, "hedgeCount", "()I"⟩
abbrev cX10_leaves : ByteArray := prog_12_method_38_code
def yX10_leaves : MethodName := ⟨RX10, "leaves", "(I)I"⟩
abbrev cX10_thorns : ByteArray := prog_12_method_39_code
def yX10_thorns : MethodName := ⟨RX10, "thorns", "(I)I"⟩
abbrev cX10_isHedgeAhead : ByteArray := prog_12_method_40_code
def yX10_isHedgeAhead : MethodName := ⟨RX10, "isHedgeAhead", "(II)Z"⟩
abbrev cX10_hedgeAtRank : ByteArray := prog_12_method_41_code
def yX10_hedgeAtRank : MethodName := ⟨RX10, "hedgeAtRank", "(I)I"⟩
abbrev cX10_leavesInFavour : ByteArray := prog_12_method_42_code
def yX10_leavesInFavour : MethodName := ⟨RX10, "leavesInFavour", "(I)I"⟩
abbrev cX10_wouldVeto : ByteArray := prog_12_method_43_code
def yX10_wouldVeto : MethodName := ⟨RX10, "wouldVeto", "(II)Z"⟩
abbrev cX10_motionCount : ByteArray := prog_12_method_44_code
def yX10_motionCount : MethodName := ⟨RX10, "motionCount", "()I"⟩
abbrev cX10_motionAt : ByteArray := prog_12_method_45_code
def yX10_motionAt : MethodName := ⟨RX10, "motionAt", "(I)I"⟩
abbrev cX10_ofMotion : ByteArray := prog_12_method_46_code
def yX10_ofMotion : MethodName := ⟨RX10, "ofMotion", "(II)I"⟩
abbrev cX10_tone : ByteArray := prog_12_method_47_code
def yX10_tone : MethodName := ⟨RX10, "tone", "(I)I"⟩
abbrev cX10_weight : ByteArray := prog_12_method_48_code
def yX10_weight : MethodName := ⟨RX10, "weight", "(I)I"⟩
abbrev cX10_parent : ByteArray := prog_12_method_49_code
def yX10_parent : MethodName := ⟨RX10, "parent", "(I)I"⟩
abbrev cX10_depth : ByteArray := prog_12_method_50_code
def yX10_depth : MethodName := ⟨RX10, "depth", "(I)I"⟩
abbrev cX10_isTip : ByteArray := prog_12_method_51_code
def yX10_isTip : MethodName := ⟨RX10, "isTip", "(I)Z"⟩
abbrev cX10_branchSize : ByteArray := prog_12_method_52_code
def yX10_branchSize : MethodName := ⟨RX10, "branchSize", "(I)I"⟩
abbrev cX10_lastTip : ByteArray := prog_12_method_53_code
def yX10_lastTip : MethodName := ⟨RX10, "lastTip", "(I)I"⟩
abbrev cX10_isMotionAhead : ByteArray := prog_12_method_54_code
def yX10_isMotionAhead : MethodName := ⟨RX10, "isMotionAhead", "(II)Z"⟩
abbrev cX10_motionAtRank : ByteArray := prog_12_method_55_code
def yX10_motionAtRank : MethodName := ⟨RX10, "motionAtRank", "(I)I"⟩
abbrev cX10_common : ByteArray := prog_12_method_56_code
def yX10_common : MethodName := ⟨RX10, "common", "(II)I"⟩
abbrev cX10_commonMotion : ByteArray := prog_12_method_57_code
def yX10_commonMotion : MethodName := ⟨RX10, "commonMotion", "(II)I"⟩
abbrev cX10_commonMotionByRows : ByteArray := prog_12_method_58_code
def yX10_commonMotionByRows : MethodName := ⟨RX10, "commonMotionByRows", "(II)I"⟩
abbrev cX10_steps : ByteArray := prog_12_method_59_code
def yX10_steps : MethodName := ⟨RX10, "steps", "(II)I"⟩
abbrev cX10_pathSize : ByteArray := prog_12_method_60_code
def yX10_pathSize : MethodName := ⟨RX10, "pathSize", "(II)I"⟩
abbrev cX10_longestPath : ByteArray := prog_12_method_61_code
def yX10_longestPath : MethodName := ⟨RX10, "longestPath", "(I)I"⟩
abbrev cX10_longestPathBySweeps : ByteArray := prog_12_method_62_code
def yX10_longestPathBySweeps : MethodName := ⟨RX10, "longestPathBySweeps", "(I)I"⟩
abbrev cX10_measures : ByteArray := prog_12_method_63_code
def yX10_measures : MethodName := ⟨RX10, "measures", "()V"⟩
abbrev cX10_bestWorth : ByteArray := prog_12_method_64_code
def yX10_bestWorth : MethodName := ⟨RX10, "bestWorth", "()I"⟩
abbrev cX10_bestWorthBySets : ByteArray := prog_12_method_65_code
def yX10_bestWorthBySets : MethodName := ⟨RX10, "bestWorthBySets", "()I"⟩
abbrev cX10_goodSets : ByteArray := prog_12_method_66_code
def yX10_goodSets : MethodName := ⟨RX10, "goodSets", "()I"⟩
abbrev cX10_season : ByteArray := prog_12_method_67_code
def yX10_season : MethodName := ⟨RX10, "season", "()I"⟩
abbrev cX10_minutesIn : ByteArray := prog_12_method_68_code
def yX10_minutesIn : MethodName := ⟨RX10, "minutesIn", "(I)I"⟩
abbrev cX10_adoptedWeight : ByteArray := prog_12_method_69_code
def yX10_adoptedWeight : MethodName := ⟨RX10, "adoptedWeight", "()I"⟩
abbrev cX10_weightTotal : ByteArray := prog_12_method_70_code
def yX10_weightTotal : MethodName := ⟨RX10, "weightTotal", "()I"⟩
abbrev cX10_weightByAccounts : ByteArray := prog_12_method_71_code
def yX10_weightByAccounts : MethodName := ⟨RX10, "weightByAccounts", "()I"⟩
abbrev cX10_meanLeaves : ByteArray := prog_12_method_72_code
def yX10_meanLeaves : MethodName := ⟨RX10, "meanLeaves", "()D"⟩
abbrev cX10_carriedShare : ByteArray := prog_12_method_73_code
def yX10_carriedShare : MethodName := ⟨RX10, "carriedShare", "()F"⟩
abbrev cX10_isConsistent : ByteArray := prog_12_method_74_code
def yX10_isConsistent : MethodName := ⟨RX10, "isConsistent", "()Z"⟩
abbrev cX10_append : ByteArray := prog_12_method_75_code
def yX10_append : MethodName := ⟨RX10, "append", "(C)I"⟩
abbrev cX10_here : ByteArray := prog_12_method_76_code
def yX10_here : MethodName := ⟨RX10, "here", "()I"⟩
abbrev cX10_expects : ByteArray := prog_12_method_77_code
def yX10_expects : MethodName := ⟨RX10, "expects", "(I)V"⟩
abbrev cX10_digit : ByteArray := prog_12_method_78_code
def yX10_digit : MethodName := ⟨RX10, "digit", "()I"⟩
abbrev cX10_number : ByteArray := prog_12_method_79_code
def yX10_number : MethodName := ⟨RX10, "number", "()I"⟩
abbrev cX10_digitBehind : ByteArray := prog_12_method_80_code
def yX10_digitBehind : MethodName := ⟨RX10, "digitBehind", "()I"⟩
abbrev cX10_numberBehind : ByteArray := prog_12_method_81_code
def yX10_numberBehind : MethodName := ⟨RX10, "numberBehind", "()I"⟩
abbrev cX10_likeness : ByteArray := prog_12_method_82_code
def yX10_likeness : MethodName := ⟨RX10, "likeness", "(I)I"⟩
abbrev cX10_readArguments : ByteArray := prog_12_method_83_code
def yX10_readArguments : MethodName := ⟨RX10, "readArguments", "(II)V"⟩
abbrev cX10_readCommand : ByteArray := prog_12_method_84_code
def yX10_readCommand : MethodName := ⟨RX10, "readCommand", "()V"⟩
abbrev cX10_does : ByteArray := prog_12_method_85_code
def yX10_does : MethodName := ⟨RX10, "does", "(I)V"⟩
abbrev cX10_run : ByteArray := prog_12_method_86_code
def yX10_run : MethodName := ⟨RX10, "run", "()I"⟩
abbrev cX10_errorPosition : ByteArray := prog_12_method_87_code
def yX10_errorPosition : MethodName := ⟨RX10, "errorPosition", "()I"⟩
abbrev cX10_failedCommand : ByteArray := prog_12_method_88_code
def yX10_failedCommand : MethodName := ⟨RX10, "failedCommand", "()I"⟩
abbrev cX10_sign : ByteArray := prog_12_method_89_code
def yX10_sign : MethodName := ⟨RX10, "sign", "(I)V"⟩
abbrev cX10_writesWhole : ByteArray := prog_12_method_90_code
def yX10_writesWhole : MethodName := ⟨RX10, "writesWhole", "(I)V"⟩
abbrev cX10_childFrom : ByteArray := prog_12_method_91_code
def yX10_childFrom : MethodName := ⟨RX10, "childFrom", "(II)I"⟩
abbrev cX10_writeBranch : ByteArray := prog_12_method_92_code
def yX10_writeBranch : MethodName := ⟨RX10, "writeBranch", "(I)I"⟩
abbrev cX10_next : ByteArray := prog_12_method_93_code
def yX10_next : MethodName := ⟨RX10, "next", "(II)I"⟩
abbrev cX10_outputAt : ByteArray := prog_12_method_94_code
def yX10_outputAt : MethodName := ⟨RX10, "outputAt", "(I)C"⟩
abbrev cX10_undo : ByteArray := prog_12_method_95_code
def yX10_undo : MethodName := ⟨RX10, "undo", "()I"⟩
abbrev cX10_save : ByteArray := prog_12_method_96_code
def yX10_save : MethodName := ⟨RX10, "save", "()V"⟩
abbrev cX10_restore : ByteArray := prog_12_method_97_code
def yX10_restore : MethodName := ⟨RX10, "restore", "()V"⟩
def RJx145de : String := "java/io/Serializable"
def TJx145de : u_T := fun k => match k with
  | _ => ("", "", "", false)
def tyJx145de : Nat → FieldType := fun k => match k with
  | _ => .int
abbrev wsJx145de0 : List Cond := u_ws RJx145de TJx145de 0
theorem nmJx145de : ∀ a, a < 0 → ∀ b, b < 0 → a ≠ b → (TJx145de a).2.1 ≠ (TJx145de b).2.1 := by decide +kernel
theorem tyJx145de_ok : ∀ k, k < 0 → parseFieldDescriptor (TJx145de k).2.2.1 = some (tyJx145de k) := by decide +kernel
def RJ5 : String := "java/lang/AbstractStringBuilder"
def TJ5 : u_T := fun k => match k with
  | _ => ("", "", "", false)
def tyJ5 : Nat → FieldType := fun k => match k with
  | _ => .int
abbrev wsJ50 : List Cond := u_ws RJ5 TJ5 0
theorem nmJ5 : ∀ a, a < 0 → ∀ b, b < 0 → a ≠ b → (TJ5 a).2.1 ≠ (TJ5 b).2.1 := by decide +kernel
theorem tyJ5_ok : ∀ k, k < 0 → parseFieldDescriptor (TJ5 k).2.2.1 = some (tyJ5 k) := by decide +kernel
abbrev cJ5_init_d00df : ByteArray := prog_14_method_2_code
def yJ5_init_d00df : MethodName := ⟨RJ5, "<init>", "(I)V"⟩
abbrev cJ5_length_8abf5 : ByteArray := prog_14_method_6_code
def yJ5_length_8abf5 : MethodName := ⟨RJ5, "length", "()I"⟩
abbrev cJ5_ensureCapacityInternal_d00df : ByteArray := prog_14_method_9_code
def yJ5_ensureCapacityInternal_d00df : MethodName := ⟨RJ5, "ensureCapacityInternal", "(I)V"⟩
abbrev cJ5_newCapacity_0f7a4 : ByteArray := prog_14_method_10_code
def yJ5_newCapacity_0f7a4 : MethodName := ⟨RJ5, "newCapacity", "(I)I"⟩
abbrev cJ5_inflate_da8c8 : ByteArray := prog_14_method_11_code
def yJ5_inflate_da8c8 : MethodName := ⟨RJ5, "inflate", "()V"⟩
abbrev cJ5_setLength_d00df : ByteArray := prog_14_method_13_code
def yJ5_setLength_d00df : MethodName := ⟨RJ5, "setLength", "(I)V"⟩
abbrev cJ5_charAt_5068e : ByteArray := prog_14_method_14_code
def yJ5_charAt_5068e : MethodName := ⟨RJ5, "charAt", "(I)C"⟩
abbrev cJ5_append_cf1ce : ByteArray := prog_14_method_22_code
def yJ5_append_cf1ce : MethodName := ⟨RJ5, "append", "(Ljava/lang/String;)Ljava/lang/AbstractStringBuilder;"⟩
abbrev cJ5_appendNull_278bc : ByteArray := prog_14_method_26_code
def yJ5_appendNull_278bc : MethodName := ⟨RJ5, "appendNull", "()Ljava/lang/AbstractStringBuilder;"⟩
abbrev cJ5_append_3fe6f : ByteArray := prog_14_method_31_code
def yJ5_append_3fe6f : MethodName := ⟨RJ5, "append", "(C)Ljava/lang/AbstractStringBuilder;"⟩
abbrev cJ5_append_c97b9 : ByteArray := prog_14_method_32_code
def yJ5_append_c97b9 : MethodName := ⟨RJ5, "append", "(I)Ljava/lang/AbstractStringBuilder;"⟩
abbrev cJ5_getValue_6d5f1 : ByteArray := prog_14_method_64_code
def yJ5_getValue_6d5f1 : MethodName := ⟨RJ5, "getValue", "()[B"⟩
abbrev cJ5_isLatin1_aae02 : ByteArray := prog_14_method_68_code
def yJ5_isLatin1_aae02 : MethodName := ⟨RJ5, "isLatin1", "()Z"⟩
abbrev cJ5_inflateIfNeededFor_a7421 : ByteArray := prog_14_method_71_code
def yJ5_inflateIfNeededFor_a7421 : MethodName := ⟨RJ5, "inflateIfNeededFor", "(Ljava/lang/String;)V"⟩
abbrev cJ5_putStringAt_47b60 : ByteArray := prog_14_method_73_code
def yJ5_putStringAt_47b60 : MethodName := ⟨RJ5, "putStringAt", "(ILjava/lang/String;)V"⟩
def RJx2cfe8 : String := "java/lang/Appendable"
def TJx2cfe8 : u_T := fun k => match k with
  | _ => ("", "", "", false)
def tyJx2cfe8 : Nat → FieldType := fun k => match k with
  | _ => .int
abbrev wsJx2cfe80 : List Cond := u_ws RJx2cfe8 TJx2cfe8 0
theorem nmJx2cfe8 : ∀ a, a < 0 → ∀ b, b < 0 → a ≠ b → (TJx2cfe8 a).2.1 ≠ (TJx2cfe8 b).2.1 := by decide +kernel
theorem tyJx2cfe8_ok : ∀ k, k < 0 → parseFieldDescriptor (TJx2cfe8 k).2.2.1 = some (tyJx2cfe8 k) := by decide +kernel
def RJx00060 : String := "java/lang/ArrayIndexOutOfBoundsException"
def TJx00060 : u_T := fun k => match k with
  | 0 => ("java/lang/Throwable", "backtrace", "Ljava/lang/Object;", false)
  | 1 => ("java/lang/Throwable", "detailMessage", "Ljava/lang/String;", false)
  | 2 => ("java/lang/Throwable", "cause", "Ljava/lang/Throwable;", false)
  | 3 => ("java/lang/Throwable", "stackTrace", "[Ljava/lang/StackTraceElement;", false)
  | 4 => ("java/lang/Throwable", "depth", "I", false)
  | _ => ("java/lang/Throwable", "suppressedExceptions", "Ljava/util/List;", false)
def tyJx00060 : Nat → FieldType := fun k => match k with
  | 0 => .object "java/lang/Object"
  | 1 => .object "java/lang/String"
  | 2 => .object "java/lang/Throwable"
  | 3 => .array (.object "java/lang/StackTraceElement")
  | 4 => .int
  | _ => .object "java/util/List"
abbrev wsJx000600 : List Cond := u_ws RJx00060 TJx00060 6
theorem nmJx00060 : ∀ a, a < 6 → ∀ b, b < 6 → a ≠ b → (TJx00060 a).2.1 ≠ (TJx00060 b).2.1 := by decide +kernel
theorem tyJx00060_ok : ∀ k, k < 6 → parseFieldDescriptor (TJx00060 k).2.2.1 = some (tyJx00060 k) := by decide +kernel
abbrev cJx00060_init_a7421 : ByteArray := prog_17_method_2_code
def yJx00060_init_a7421 : MethodName := ⟨RJx00060, "<init>", "(Ljava/lang/String;)V"⟩
abbrev cJx00060_init_d00df : ByteArray := prog_17_method_3_code
def yJx00060_init_d00df : MethodName := ⟨RJx00060, "<init>", "(I)V"⟩
def RJx9f9b0 : String := "java/lang/CharSequence"
def TJx9f9b0 : u_T := fun k => match k with
  | _ => ("", "", "", false)
def tyJx9f9b0 : Nat → FieldType := fun k => match k with
  | _ => .int
abbrev wsJx9f9b00 : List Cond := u_ws RJx9f9b0 TJx9f9b0 0
theorem nmJx9f9b0 : ∀ a, a < 0 → ∀ b, b < 0 → a ≠ b → (TJx9f9b0 a).2.1 ≠ (TJx9f9b0 b).2.1 := by decide +kernel
theorem tyJx9f9b0_ok : ∀ k, k < 0 → parseFieldDescriptor (TJx9f9b0 k).2.2.1 = some (tyJx9f9b0 k) := by decide +kernel
def RJx8e188 : String := "java/lang/Cloneable"
def TJx8e188 : u_T := fun k => match k with
  | _ => ("", "", "", false)
def tyJx8e188 : Nat → FieldType := fun k => match k with
  | _ => .int
abbrev wsJx8e1880 : List Cond := u_ws RJx8e188 TJx8e188 0
theorem nmJx8e188 : ∀ a, a < 0 → ∀ b, b < 0 → a ≠ b → (TJx8e188 a).2.1 ≠ (TJx8e188 b).2.1 := by decide +kernel
theorem tyJx8e188_ok : ∀ k, k < 0 → parseFieldDescriptor (TJx8e188 k).2.2.1 = some (tyJx8e188 k) := by decide +kernel
def RJxb160c : String := "java/lang/Comparable"
def TJxb160c : u_T := fun k => match k with
  | _ => ("", "", "", false)
def tyJxb160c : Nat → FieldType := fun k => match k with
  | _ => .int
abbrev wsJxb160c0 : List Cond := u_ws RJxb160c TJxb160c 0
theorem nmJxb160c : ∀ a, a < 0 → ∀ b, b < 0 → a ≠ b → (TJxb160c a).2.1 ≠ (TJxb160c b).2.1 := by decide +kernel
theorem tyJxb160c_ok : ∀ k, k < 0 → parseFieldDescriptor (TJxb160c k).2.2.1 = some (tyJxb160c k) := by decide +kernel
def RJx29ce0 : String := "java/lang/Enum"
def TJx29ce0 : u_T := fun k => match k with
  | _ => ("", "", "", false)
def tyJx29ce0 : Nat → FieldType := fun k => match k with
  | _ => .int
abbrev wsJx29ce00 : List Cond := u_ws RJx29ce0 TJx29ce0 0
theorem nmJx29ce0 : ∀ a, a < 0 → ∀ b, b < 0 → a ≠ b → (TJx29ce0 a).2.1 ≠ (TJx29ce0 b).2.1 := by decide +kernel
theorem tyJx29ce0_ok : ∀ k, k < 0 → parseFieldDescriptor (TJx29ce0 k).2.2.1 = some (tyJx29ce0 k) := by decide +kernel
abbrev cJx29ce0_ordinal_8abf5 : ByteArray := prog_21_method_2_code
def yJx29ce0_ordinal_8abf5 : MethodName := ⟨RJx29ce0, "ordinal", "()I"⟩
def RJ6 : String := "java/lang/Integer"
def TJ6 : u_T := fun k => match k with
  | _ => ("", "", "", false)
def tyJ6 : Nat → FieldType := fun k => match k with
  | _ => .int
abbrev wsJ60 : List Cond := u_ws RJ6 TJ6 0
theorem nmJ6 : ∀ a, a < 0 → ∀ b, b < 0 → a ≠ b → (TJ6 a).2.1 ≠ (TJ6 b).2.1 := by decide +kernel
theorem tyJ6_ok : ∀ k, k < 0 → parseFieldDescriptor (TJ6 k).2.2.1 = some (tyJ6 k) := by decide +kernel
abbrev cJ6_getChars_ba4f3 : ByteArray := prog_26_method_12_code
def yJ6_getChars_ba4f3 : MethodName := ⟨RJ6, "getChars", "(II[B)I"⟩
abbrev cJ6_stringSize_0f7a4 : ByteArray := prog_26_method_13_code
def yJ6_stringSize_0f7a4 : MethodName := ⟨RJ6, "stringSize", "(I)I"⟩
def RJxab1ab : String := "java/lang/Iterable"
def TJxab1ab : u_T := fun k => match k with
  | _ => ("", "", "", false)
def tyJxab1ab : Nat → FieldType := fun k => match k with
  | _ => .int
abbrev wsJxab1ab0 : List Cond := u_ws RJxab1ab TJxab1ab 0
theorem nmJxab1ab : ∀ a, a < 0 → ∀ b, b < 0 → a ≠ b → (TJxab1ab a).2.1 ≠ (TJxab1ab b).2.1 := by decide +kernel
theorem tyJxab1ab_ok : ∀ k, k < 0 → parseFieldDescriptor (TJxab1ab k).2.2.1 = some (tyJxab1ab k) := by decide +kernel
def RJ9 : String := "java/lang/Math"
def TJ9 : u_T := fun k => match k with
  | _ => ("", "", "", false)
def tyJ9 : Nat → FieldType := fun k => match k with
  | _ => .int
abbrev wsJ90 : List Cond := u_ws RJ9 TJ9 0
theorem nmJ9 : ∀ a, a < 0 → ∀ b, b < 0 → a ≠ b → (TJ9 a).2.1 ≠ (TJ9 b).2.1 := by decide +kernel
theorem tyJ9_ok : ∀ k, k < 0 → parseFieldDescriptor (TJ9 k).2.2.1 = some (tyJ9 k) := by decide +kernel
abbrev cJ9_abs_0f7a4 : ByteArray := prog_28_method_59_code
def yJ9_abs_0f7a4 : MethodName := ⟨RJ9, "abs", "(I)I"⟩
abbrev cJ9_max_7cf53 : ByteArray := prog_28_method_65_code
def yJ9_max_7cf53 : MethodName := ⟨RJ9, "max", "(II)I"⟩
abbrev cJ9_max_f86c9 : ByteArray := prog_28_method_66_code
def yJ9_max_f86c9 : MethodName := ⟨RJ9, "max", "(JJ)J"⟩
abbrev cJ9_min_7cf53 : ByteArray := prog_28_method_69_code
def yJ9_min_7cf53 : MethodName := ⟨RJ9, "min", "(II)I"⟩
def RJxd2413 : String := "java/lang/Number"
def TJxd2413 : u_T := fun k => match k with
  | _ => ("", "", "", false)
def tyJxd2413 : Nat → FieldType := fun k => match k with
  | _ => .int
abbrev wsJxd24130 : List Cond := u_ws RJxd2413 TJxd2413 0
theorem nmJxd2413 : ∀ a, a < 0 → ∀ b, b < 0 → a ≠ b → (TJxd2413 a).2.1 ≠ (TJxd2413 b).2.1 := by decide +kernel
theorem tyJxd2413_ok : ∀ k, k < 0 → parseFieldDescriptor (TJxd2413 k).2.2.1 = some (tyJxd2413 k) := by decide +kernel
def RJ0 : String := "java/lang/String"
def TJ0 : u_T := fun k => match k with
  | 0 => ("java/lang/String", "value", "[B", true)
  | 1 => ("java/lang/String", "coder", "B", true)
  | 2 => ("java/lang/String", "hash", "I", false)
  | _ => ("java/lang/String", "hashIsZero", "Z", false)
def tyJ0 : Nat → FieldType := fun k => match k with
  | 0 => .array .byte
  | 1 => .byte
  | 2 => .int
  | _ => .boolean
abbrev wsJ00 : List Cond := u_ws RJ0 TJ0 4
theorem nmJ0 : ∀ a, a < 4 → ∀ b, b < 4 → a ≠ b → (TJ0 a).2.1 ≠ (TJ0 b).2.1 := by decide +kernel
theorem tyJ0_ok : ∀ k, k < 4 → parseFieldDescriptor (TJ0 k).2.2.1 = some (tyJ0 k) := by decide +kernel
abbrev cJ0_init_81219 : ByteArray := prog_31_method_53_code
def yJ0_init_81219 : MethodName := ⟨RJ0, "<init>", "(Ljava/lang/StringBuilder;)V"⟩
abbrev cJ0_length_8abf5 : ByteArray := prog_31_method_54_code
def yJ0_length_8abf5 : MethodName := ⟨RJ0, "length", "()I"⟩
abbrev cJ0_charAt_5068e : ByteArray := prog_31_method_56_code
def yJ0_charAt_5068e : MethodName := ⟨RJ0, "charAt", "(I)C"⟩
abbrev cJ0_getBytes_840e7 : ByteArray := prog_31_method_147_code
def yJ0_getBytes_840e7 : MethodName := ⟨RJ0, "getBytes", "([BIB)V"⟩
abbrev cJ0_init_db425 : ByteArray := prog_31_method_150_code
def yJ0_init_db425 : MethodName := ⟨RJ0, "<init>", "(Ljava/lang/AbstractStringBuilder;Ljava/lang/Void;)V"⟩
abbrev cJ0_coder_7d493 : ByteArray := prog_31_method_152_code
def yJ0_coder_7d493 : MethodName := ⟨RJ0, "coder", "()B"⟩
abbrev cJ0_isLatin1_aae02 : ByteArray := prog_31_method_154_code
def yJ0_isLatin1_aae02 : MethodName := ⟨RJ0, "isLatin1", "()Z"⟩
abbrev cJ0_checkIndex_df160 : ByteArray := prog_31_method_155_code
def yJ0_checkIndex_df160 : MethodName := ⟨RJ0, "checkIndex", "(II)V"⟩
abbrev cJ0_checkBoundsOffCount_cabcc : ByteArray := prog_31_method_157_code
def yJ0_checkBoundsOffCount_cabcc : MethodName := ⟨RJ0, "checkBoundsOffCount", "(III)I"⟩
abbrev cJ0_checkBoundsBeginEnd_23922 : ByteArray := prog_31_method_158_code
def yJ0_checkBoundsBeginEnd_23922 : MethodName := ⟨RJ0, "checkBoundsBeginEnd", "(III)V"⟩
def RJ4 : String := "java/lang/StringBuilder"
def TJ4 : u_T := fun k => match k with
  | 0 => ("java/lang/AbstractStringBuilder", "value", "[B", false)
  | 1 => ("java/lang/AbstractStringBuilder", "coder", "B", false)
  | 2 => ("java/lang/AbstractStringBuilder", "maybeLatin1", "Z", false)
  | _ => ("java/lang/AbstractStringBuilder", "count", "I", false)
def tyJ4 : Nat → FieldType := fun k => match k with
  | 0 => .array .byte
  | 1 => .byte
  | 2 => .boolean
  | _ => .int
abbrev wsJ40 : List Cond := u_ws RJ4 TJ4 4
theorem nmJ4 : ∀ a, a < 4 → ∀ b, b < 4 → a ≠ b → (TJ4 a).2.1 ≠ (TJ4 b).2.1 := by decide +kernel
theorem tyJ4_ok : ∀ k, k < 4 → parseFieldDescriptor (TJ4 k).2.2.1 = some (tyJ4 k) := by decide +kernel
abbrev cJ4_init_da8c8 : ByteArray := prog_32_method_1_code
def yJ4_init_da8c8 : MethodName := ⟨RJ4, "<init>", "()V"⟩
abbrev cJ4_append_15ec4 : ByteArray := prog_32_method_7_code
def yJ4_append_15ec4 : MethodName := ⟨RJ4, "append", "(Ljava/lang/String;)Ljava/lang/StringBuilder;"⟩
abbrev cJ4_append_cf468 : ByteArray := prog_32_method_14_code
def yJ4_append_cf468 : MethodName := ⟨RJ4, "append", "(C)Ljava/lang/StringBuilder;"⟩
abbrev cJ4_append_bf812 : ByteArray := prog_32_method_15_code
def yJ4_append_bf812 : MethodName := ⟨RJ4, "append", "(I)Ljava/lang/StringBuilder;"⟩
abbrev cJ4_toString_0e30d : ByteArray := prog_32_method_42_code
def yJ4_toString_0e30d : MethodName := ⟨RJ4, "toString", "()Ljava/lang/String;"⟩
abbrev cJ4_charAt_5068e : ByteArray := prog_32_method_88_code
def yJ4_charAt_5068e : MethodName := ⟨RJ4, "charAt", "(I)C"⟩
abbrev cJ4_setLength_d00df : ByteArray := prog_32_method_89_code
def yJ4_setLength_d00df : MethodName := ⟨RJ4, "setLength", "(I)V"⟩
abbrev cJ4_length_8abf5 : ByteArray := prog_32_method_93_code
def yJ4_length_8abf5 : MethodName := ⟨RJ4, "length", "()I"⟩
def RJx7c733 : String := "java/lang/StringIndexOutOfBoundsException"
def TJx7c733 : u_T := fun k => match k with
  | 0 => ("java/lang/Throwable", "backtrace", "Ljava/lang/Object;", false)
  | 1 => ("java/lang/Throwable", "detailMessage", "Ljava/lang/String;", false)
  | 2 => ("java/lang/Throwable", "cause", "Ljava/lang/Throwable;", false)
  | 3 => ("java/lang/Throwable", "stackTrace", "[Ljava/lang/StackTraceElement;", false)
  | 4 => ("java/lang/Throwable", "depth", "I", false)
  | _ => ("java/lang/Throwable", "suppressedExceptions", "Ljava/util/List;", false)
def tyJx7c733 : Nat → FieldType := fun k => match k with
  | 0 => .object "java/lang/Object"
  | 1 => .object "java/lang/String"
  | 2 => .object "java/lang/Throwable"
  | 3 => .array (.object "java/lang/StackTraceElement")
  | 4 => .int
  | _ => .object "java/util/List"
abbrev wsJx7c7330 : List Cond := u_ws RJx7c733 TJx7c733 6
theorem nmJx7c733 : ∀ a, a < 6 → ∀ b, b < 6 → a ≠ b → (TJx7c733 a).2.1 ≠ (TJx7c733 b).2.1 := by decide +kernel
theorem tyJx7c733_ok : ∀ k, k < 6 → parseFieldDescriptor (TJx7c733 k).2.2.1 = some (tyJx7c733 k) := by decide +kernel
abbrev cJx7c733_init_d00df : ByteArray := prog_33_method_3_code
def yJx7c733_init_d00df : MethodName := ⟨RJx7c733, "<init>", "(I)V"⟩
def RJ1 : String := "java/lang/StringLatin1"
def TJ1 : u_T := fun k => match k with
  | _ => ("", "", "", false)
def tyJ1 : Nat → FieldType := fun k => match k with
  | _ => .int
abbrev wsJ10 : List Cond := u_ws RJ1 TJ1 0
theorem nmJ1 : ∀ a, a < 0 → ∀ b, b < 0 → a ≠ b → (TJ1 a).2.1 ≠ (TJ1 b).2.1 := by decide +kernel
theorem tyJ1_ok : ∀ k, k < 0 → parseFieldDescriptor (TJ1 k).2.2.1 = some (tyJ1 k) := by decide +kernel
abbrev cJ1_charAt_3b067 : ByteArray := prog_34_method_2_code
def yJ1_charAt_3b067 : MethodName := ⟨RJ1, "charAt", "([BI)C"⟩
abbrev cJ1_canEncode_fc78d : ByteArray := prog_34_method_3_code
def yJ1_canEncode_fc78d : MethodName := ⟨RJ1, "canEncode", "(C)Z"⟩
abbrev cJ1_fillNull_b72d1 : ByteArray := prog_34_method_48_code
def yJ1_fillNull_b72d1 : MethodName := ⟨RJ1, "fillNull", "([BII)V"⟩
abbrev cJ1_inflate_0e8fd : ByteArray := prog_34_method_50_code
def yJ1_inflate_0e8fd : MethodName := ⟨RJ1, "inflate", "([BI[BII)V"⟩
def RJ2 : String := "java/lang/StringUTF16"
def TJ2 : u_T := fun k => match k with
  | _ => ("", "", "", false)
def tyJ2 : Nat → FieldType := fun k => match k with
  | _ => .int
abbrev wsJ20 : List Cond := u_ws RJ2 TJ2 0
theorem nmJ2 : ∀ a, a < 0 → ∀ b, b < 0 → a ≠ b → (TJ2 a).2.1 ≠ (TJ2 b).2.1 := by decide +kernel
theorem tyJ2_ok : ∀ k, k < 0 → parseFieldDescriptor (TJ2 k).2.2.1 = some (tyJ2 k) := by decide +kernel
abbrev cJ2_newBytesFor_77867 : ByteArray := prog_35_method_2_code
def yJ2_newBytesFor_77867 : MethodName := ⟨RJ2, "newBytesFor", "(I)[B"⟩
abbrev cJ2_newBytesLength_0f7a4 : ByteArray := prog_35_method_3_code
def yJ2_newBytesLength_0f7a4 : MethodName := ⟨RJ2, "newBytesLength", "(I)I"⟩
abbrev cJ2_putChar_b72d1 : ByteArray := prog_35_method_4_code
def yJ2_putChar_b72d1 : MethodName := ⟨RJ2, "putChar", "([BII)V"⟩
abbrev cJ2_getChar_3b067 : ByteArray := prog_35_method_5_code
def yJ2_getChar_3b067 : MethodName := ⟨RJ2, "getChar", "([BI)C"⟩
abbrev cJ2_length_9d52b : ByteArray := prog_35_method_6_code
def yJ2_length_9d52b : MethodName := ⟨RJ2, "length", "([B)I"⟩
abbrev cJ2_coderFromArrayLen_85cad : ByteArray := prog_35_method_15_code
def yJ2_coderFromArrayLen_85cad : MethodName := ⟨RJ2, "coderFromArrayLen", "([BI)B"⟩
abbrev cJ2_compress_39247 : ByteArray := prog_35_method_17_code
def yJ2_compress_39247 : MethodName := ⟨RJ2, "compress", "([BII)[B"⟩
abbrev cJ2_compress_5af95 : ByteArray := prog_35_method_22_code
def yJ2_compress_5af95 : MethodName := ⟨RJ2, "compress", "([BI[BII)I"⟩
abbrev cJ2_fillNull_b72d1 : ByteArray := prog_35_method_70_code
def yJ2_fillNull_b72d1 : MethodName := ⟨RJ2, "fillNull", "([BII)V"⟩
abbrev cJ2_putCharSB_b72d1 : ByteArray := prog_35_method_71_code
def yJ2_putCharSB_b72d1 : MethodName := ⟨RJ2, "putCharSB", "([BII)V"⟩
abbrev cJ2_getChars_46870 : ByteArray := prog_35_method_77_code
def yJ2_getChars_46870 : MethodName := ⟨RJ2, "getChars", "(III[B)I"⟩
abbrev cJ2_putCharsAt_cd4e5 : ByteArray := prog_35_method_81_code
def yJ2_putCharsAt_cd4e5 : MethodName := ⟨RJ2, "putCharsAt", "([BICCCC)I"⟩
abbrev cJ2_charAt_3b067 : ByteArray := prog_35_method_83_code
def yJ2_charAt_3b067 : MethodName := ⟨RJ2, "charAt", "([BI)C"⟩
abbrev cJ2_inflate_0e8fd : ByteArray := prog_35_method_86_code
def yJ2_inflate_0e8fd : MethodName := ⟨RJ2, "inflate", "([BI[BII)V"⟩
abbrev cJ2_getChars_ba4f3 : ByteArray := prog_35_method_89_code
def yJ2_getChars_ba4f3 : MethodName := ⟨RJ2, "getChars", "(II[B)I"⟩
abbrev cJ2_checkIndex_2214a : ByteArray := prog_35_method_91_code
def yJ2_checkIndex_2214a : MethodName := ⟨RJ2, "checkIndex", "(I[B)V"⟩
abbrev cJ2_checkBoundsBeginEnd_d044e : ByteArray := prog_35_method_93_code
def yJ2_checkBoundsBeginEnd_d044e : MethodName := ⟨RJ2, "checkBoundsBeginEnd", "(II[B)V"⟩
abbrev cJ2_checkBoundsOffCount_d044e : ByteArray := prog_35_method_94_code
def yJ2_checkBoundsOffCount_d044e : MethodName := ⟨RJ2, "checkBoundsOffCount", "(II[B)V"⟩
def RJ10 : String := "java/lang/System"
def TJ10 : u_T := fun k => match k with
  | _ => ("", "", "", false)
def tyJ10 : Nat → FieldType := fun k => match k with
  | _ => .int
abbrev wsJ100 : List Cond := u_ws RJ10 TJ10 0
theorem nmJ10 : ∀ a, a < 0 → ∀ b, b < 0 → a ≠ b → (TJ10 a).2.1 ≠ (TJ10 b).2.1 := by decide +kernel
theorem tyJ10_ok : ∀ k, k < 0 → parseFieldDescriptor (TJ10 k).2.2.1 = some (tyJ10 k) := by decide +kernel
def RJxfd54e : String := "java/lang/constant/Constable"
def TJxfd54e : u_T := fun k => match k with
  | _ => ("", "", "", false)
def tyJxfd54e : Nat → FieldType := fun k => match k with
  | _ => .int
abbrev wsJxfd54e0 : List Cond := u_ws RJxfd54e TJxfd54e 0
theorem nmJxfd54e : ∀ a, a < 0 → ∀ b, b < 0 → a ≠ b → (TJxfd54e a).2.1 ≠ (TJxfd54e b).2.1 := by decide +kernel
theorem tyJxfd54e_ok : ∀ k, k < 0 → parseFieldDescriptor (TJxfd54e k).2.2.1 = some (tyJxfd54e k) := by decide +kernel
def RJx3cf43 : String := "java/lang/constant/ConstantDesc"
def TJx3cf43 : u_T := fun k => match k with
  | _ => ("", "", "", false)
def tyJx3cf43 : Nat → FieldType := fun k => match k with
  | _ => .int
abbrev wsJx3cf430 : List Cond := u_ws RJx3cf43 TJx3cf43 0
theorem nmJx3cf43 : ∀ a, a < 0 → ∀ b, b < 0 → a ≠ b → (TJx3cf43 a).2.1 ≠ (TJx3cf43 b).2.1 := by decide +kernel
theorem tyJx3cf43_ok : ∀ k, k < 0 → parseFieldDescriptor (TJx3cf43 k).2.2.1 = some (tyJx3cf43 k) := by decide +kernel
def RJxa1e45 : String := "java/util/AbstractCollection"
def TJxa1e45 : u_T := fun k => match k with
  | _ => ("", "", "", false)
def tyJxa1e45 : Nat → FieldType := fun k => match k with
  | _ => .int
abbrev wsJxa1e450 : List Cond := u_ws RJxa1e45 TJxa1e45 0
theorem nmJxa1e45 : ∀ a, a < 0 → ∀ b, b < 0 → a ≠ b → (TJxa1e45 a).2.1 ≠ (TJxa1e45 b).2.1 := by decide +kernel
theorem tyJxa1e45_ok : ∀ k, k < 0 → parseFieldDescriptor (TJxa1e45 k).2.2.1 = some (tyJxa1e45 k) := by decide +kernel
abbrev cJxa1e45_init_da8c8 : ByteArray := prog_41_method_1_code
def yJxa1e45_init_da8c8 : MethodName := ⟨RJxa1e45, "<init>", "()V"⟩
def RJxc12de : String := "java/util/AbstractList"
def TJxc12de : u_T := fun k => match k with
  | _ => ("", "", "", false)
def tyJxc12de : Nat → FieldType := fun k => match k with
  | _ => .int
abbrev wsJxc12de0 : List Cond := u_ws RJxc12de TJxc12de 0
theorem nmJxc12de : ∀ a, a < 0 → ∀ b, b < 0 → a ≠ b → (TJxc12de a).2.1 ≠ (TJxc12de b).2.1 := by decide +kernel
theorem tyJxc12de_ok : ∀ k, k < 0 → parseFieldDescriptor (TJxc12de k).2.2.1 = some (tyJxc12de k) := by decide +kernel
abbrev cJxc12de_init_da8c8 : ByteArray := prog_42_method_1_code
def yJxc12de_init_da8c8 : MethodName := ⟨RJxc12de, "<init>", "()V"⟩
def RJx4a65c : String := "java/util/ArrayList"
def TJx4a65c : u_T := fun k => match k with
  | 0 => ("java/util/AbstractList", "modCount", "I", false)
  | 1 => ("java/util/ArrayList", "elementData", "[Ljava/lang/Object;", false)
  | _ => ("java/util/ArrayList", "size", "I", false)
def tyJx4a65c : Nat → FieldType := fun k => match k with
  | 0 => .int
  | 1 => .array (.object "java/lang/Object")
  | _ => .int
abbrev wsJx4a65c0 : List Cond := u_ws RJx4a65c TJx4a65c 3
theorem nmJx4a65c : ∀ a, a < 3 → ∀ b, b < 3 → a ≠ b → (TJx4a65c a).2.1 ≠ (TJx4a65c b).2.1 := by decide +kernel
theorem tyJx4a65c_ok : ∀ k, k < 3 → parseFieldDescriptor (TJx4a65c k).2.2.1 = some (tyJx4a65c k) := by decide +kernel
abbrev cJx4a65c_init_da8c8 : ByteArray := prog_43_method_2_code
def yJx4a65c_init_da8c8 : MethodName := ⟨RJx4a65c, "<init>", "()V"⟩
abbrev cJx4a65c_grow_92f84 : ByteArray := prog_43_method_6_code
def yJx4a65c_grow_92f84 : MethodName := ⟨RJx4a65c, "grow", "(I)[Ljava/lang/Object;"⟩
abbrev cJx4a65c_grow_d5877 : ByteArray := prog_43_method_7_code
def yJx4a65c_grow_d5877 : MethodName := ⟨RJx4a65c, "grow", "()[Ljava/lang/Object;"⟩
abbrev cJx4a65c_size_8abf5 : ByteArray := prog_43_method_8_code
def yJx4a65c_size_8abf5 : MethodName := ⟨RJx4a65c, "size", "()I"⟩
abbrev cJx4a65c_elementData_915e3 : ByteArray := prog_43_method_18_code
def yJx4a65c_elementData_915e3 : MethodName := ⟨RJx4a65c, "elementData", "(I)Ljava/lang/Object;"⟩
abbrev cJx4a65c_get_915e3 : ByteArray := prog_43_method_20_code
def yJx4a65c_get_915e3 : MethodName := ⟨RJx4a65c, "get", "(I)Ljava/lang/Object;"⟩
abbrev cJx4a65c_add_72be8 : ByteArray := prog_43_method_24_code
def yJx4a65c_add_72be8 : MethodName := ⟨RJx4a65c, "add", "(Ljava/lang/Object;[Ljava/lang/Object;I)V"⟩
abbrev cJx4a65c_add_9ea2d : ByteArray := prog_43_method_25_code
def yJx4a65c_add_9ea2d : MethodName := ⟨RJx4a65c, "add", "(Ljava/lang/Object;)Z"⟩
abbrev cJx4a65c_clear_da8c8 : ByteArray := prog_43_method_40_code
def yJx4a65c_clear_da8c8 : MethodName := ⟨RJx4a65c, "clear", "()V"⟩
def RJ7 : String := "java/util/Arrays"
def TJ7 : u_T := fun k => match k with
  | _ => ("", "", "", false)
def tyJ7 : Nat → FieldType := fun k => match k with
  | _ => .int
abbrev wsJ70 : List Cond := u_ws RJ7 TJ7 0
theorem nmJ7 : ∀ a, a < 0 → ∀ b, b < 0 → a ≠ b → (TJ7 a).2.1 ≠ (TJ7 b).2.1 := by decide +kernel
theorem tyJ7_ok : ∀ k, k < 0 → parseFieldDescriptor (TJ7 k).2.2.1 = some (tyJ7 k) := by decide +kernel
abbrev cJ7_rangeCheck_23922 : ByteArray := prog_44_method_30_code
def yJ7_rangeCheck_23922 : MethodName := ⟨RJ7, "rangeCheck", "(III)V"⟩
abbrev cJ7_fill_d0a16 : ByteArray := prog_44_method_101_code
def yJ7_fill_d0a16 : MethodName := ⟨RJ7, "fill", "([JJ)V"⟩
abbrev cJ7_fill_53178 : ByteArray := prog_44_method_103_code
def yJ7_fill_53178 : MethodName := ⟨RJ7, "fill", "([II)V"⟩
abbrev cJ7_fill_eb02e : ByteArray := prog_44_method_110_code
def yJ7_fill_eb02e : MethodName := ⟨RJ7, "fill", "([BIIB)V"⟩
abbrev cJ7_copyOf_1904c : ByteArray := prog_44_method_119_code
def yJ7_copyOf_1904c : MethodName := ⟨RJ7, "copyOf", "([Ljava/lang/Object;I)[Ljava/lang/Object;"⟩
abbrev cJ7_copyOf_6403c : ByteArray := prog_44_method_120_code
def yJ7_copyOf_6403c : MethodName := ⟨RJ7, "copyOf", "([Ljava/lang/Object;ILjava/lang/Class;)[Ljava/lang/Object;"⟩
abbrev cJ7_copyOf_9075b : ByteArray := prog_44_method_121_code
def yJ7_copyOf_9075b : MethodName := ⟨RJ7, "copyOf", "([BI)[B"⟩
abbrev cJ7_checkLength_df160 : ByteArray := prog_44_method_131_code
def yJ7_checkLength_df160 : MethodName := ⟨RJ7, "checkLength", "(II)V"⟩
abbrev cJ7_copyOfRange_39247 : ByteArray := prog_44_method_132_code
def yJ7_copyOfRange_39247 : MethodName := ⟨RJ7, "copyOfRange", "([BII)[B"⟩
abbrev cJ7_copyOfRangeByte_39247 : ByteArray := prog_44_method_133_code
def yJ7_copyOfRangeByte_39247 : MethodName := ⟨RJ7, "copyOfRangeByte", "([BII)[B"⟩
def RJx5ef63 : String := "java/util/Collection"
def TJx5ef63 : u_T := fun k => match k with
  | _ => ("", "", "", false)
def tyJx5ef63 : Nat → FieldType := fun k => match k with
  | _ => .int
abbrev wsJx5ef630 : List Cond := u_ws RJx5ef63 TJx5ef63 0
theorem nmJx5ef63 : ∀ a, a < 0 → ∀ b, b < 0 → a ≠ b → (TJx5ef63 a).2.1 ≠ (TJx5ef63 b).2.1 := by decide +kernel
theorem tyJx5ef63_ok : ∀ k, k < 0 → parseFieldDescriptor (TJx5ef63 k).2.2.1 = some (tyJx5ef63 k) := by decide +kernel
def RJxbd725 : String := "java/util/List"
def TJxbd725 : u_T := fun k => match k with
  | _ => ("", "", "", false)
def tyJxbd725 : Nat → FieldType := fun k => match k with
  | _ => .int
abbrev wsJxbd7250 : List Cond := u_ws RJxbd725 TJxbd725 0
theorem nmJxbd725 : ∀ a, a < 0 → ∀ b, b < 0 → a ≠ b → (TJxbd725 a).2.1 ≠ (TJxbd725 b).2.1 := by decide +kernel
theorem tyJxbd725_ok : ∀ k, k < 0 → parseFieldDescriptor (TJxbd725 k).2.2.1 = some (tyJxbd725 k) := by decide +kernel
def RJ15 : String := "java/util/Objects"
def TJ15 : u_T := fun k => match k with
  | _ => ("", "", "", false)
def tyJ15 : Nat → FieldType := fun k => match k with
  | _ => .int
abbrev wsJ150 : List Cond := u_ws RJ15 TJ15 0
theorem nmJ15 : ∀ a, a < 0 → ∀ b, b < 0 → a ≠ b → (TJ15 a).2.1 ≠ (TJ15 b).2.1 := by decide +kernel
theorem tyJ15_ok : ∀ k, k < 0 → parseFieldDescriptor (TJ15 k).2.2.1 = some (tyJ15 k) := by decide +kernel
abbrev cJ15_checkIndex_7cf53 : ByteArray := prog_48_method_17_code
def yJ15_checkIndex_7cf53 : MethodName := ⟨RJ15, "checkIndex", "(II)I"⟩
def RJxf0a74 : String := "java/util/RandomAccess"
def TJxf0a74 : u_T := fun k => match k with
  | _ => ("", "", "", false)
def tyJxf0a74 : Nat → FieldType := fun k => match k with
  | _ => .int
abbrev wsJxf0a740 : List Cond := u_ws RJxf0a74 TJxf0a74 0
theorem nmJxf0a74 : ∀ a, a < 0 → ∀ b, b < 0 → a ≠ b → (TJxf0a74 a).2.1 ≠ (TJxf0a74 b).2.1 := by decide +kernel
theorem tyJxf0a74_ok : ∀ k, k < 0 → parseFieldDescriptor (TJxf0a74 k).2.2.1 = some (tyJxf0a74 k) := by decide +kernel
def RJxa66e6 : String := "java/util/SequencedCollection"
def TJxa66e6 : u_T := fun k => match k with
  | _ => ("", "", "", false)
def tyJxa66e6 : Nat → FieldType := fun k => match k with
  | _ => .int
abbrev wsJxa66e60 : List Cond := u_ws RJxa66e6 TJxa66e6 0
theorem nmJxa66e6 : ∀ a, a < 0 → ∀ b, b < 0 → a ≠ b → (TJxa66e6 a).2.1 ≠ (TJxa66e6 b).2.1 := by decide +kernel
theorem tyJxa66e6_ok : ∀ k, k < 0 → parseFieldDescriptor (TJxa66e6 k).2.2.1 = some (tyJxa66e6 k) := by decide +kernel
def RJ8 : String := "jdk/internal/util/ArraysSupport"
def TJ8 : u_T := fun k => match k with
  | _ => ("", "", "", false)
def tyJ8 : Nat → FieldType := fun k => match k with
  | _ => .int
abbrev wsJ80 : List Cond := u_ws RJ8 TJ8 0
theorem nmJ8 : ∀ a, a < 0 → ∀ b, b < 0 → a ≠ b → (TJ8 a).2.1 ≠ (TJ8 b).2.1 := by decide +kernel
theorem tyJ8_ok : ∀ k, k < 0 → parseFieldDescriptor (TJ8 k).2.2.1 = some (tyJ8 k) := by decide +kernel
abbrev cJ8_newLength_cabcc : ByteArray := prog_51_method_27_code
def yJ8_newLength_cabcc : MethodName := ⟨RJ8, "newLength", "(III)I"⟩
abbrev cJ8_hugeLength_7cf53 : ByteArray := prog_51_method_28_code
def yJ8_hugeLength_7cf53 : MethodName := ⟨RJ8, "hugeLength", "(II)I"⟩
def RJ3 : String := "jdk/internal/util/Preconditions"
def TJ3 : u_T := fun k => match k with
  | _ => ("", "", "", false)
def tyJ3 : Nat → FieldType := fun k => match k with
  | _ => .int
abbrev wsJ30 : List Cond := u_ws RJ3 TJ3 0
theorem nmJ3 : ∀ a, a < 0 → ∀ b, b < 0 → a ≠ b → (TJ3 a).2.1 ≠ (TJ3 b).2.1 := by decide +kernel
theorem tyJ3_ok : ∀ k, k < 0 → parseFieldDescriptor (TJ3 k).2.2.1 = some (tyJ3 k) := by decide +kernel
abbrev cJ3_checkIndex_8e157 : ByteArray := prog_52_method_11_code
def yJ3_checkIndex_8e157 : MethodName := ⟨RJ3, "checkIndex", "(IILjava/util/function/BiFunction;)I"⟩
abbrev cJ3_checkFromToIndex_8c36e : ByteArray := prog_52_method_12_code
def yJ3_checkFromToIndex_8c36e : MethodName := ⟨RJ3, "checkFromToIndex", "(IIILjava/util/function/BiFunction;)I"⟩
abbrev cJ3_checkFromIndexSize_8c36e : ByteArray := prog_52_method_13_code
def yJ3_checkFromIndexSize_8c36e : MethodName := ⟨RJ3, "checkFromIndexSize", "(IIILjava/util/function/BiFunction;)I"⟩
def RL : String := "HedgeCommitteeLaw"
abbrev cL_addHedge : ByteArray := method_3_code
def yL_addHedge : MethodName := ⟨RL, "addHedge", "(LHedgeCommittee;III[J)I"⟩
abbrev cL_propose : ByteArray := method_4_code
def yL_propose : MethodName := ⟨RL, "propose", "(LHedgeCommittee;II[J)I"⟩
abbrev cL_amend : ByteArray := method_5_code
def yL_amend : MethodName := ⟨RL, "amend", "(LHedgeCommittee;III[J)I"⟩
abbrev cL_prune : ByteArray := method_6_code
def yL_prune : MethodName := ⟨RL, "prune", "(LHedgeCommittee;II[J)I"⟩
abbrev cL_regrow : ByteArray := method_7_code
def yL_regrow : MethodName := ⟨RL, "regrow", "(LHedgeCommittee;I[J)I"⟩
abbrev cL_vote : ByteArray := method_8_code
def yL_vote : MethodName := ⟨RL, "vote", "(LHedgeCommittee;I[J)I"⟩
abbrev cL_leaves : ByteArray := method_9_code
def yL_leaves : MethodName := ⟨RL, "leaves", "(LHedgeCommittee;I[J)I"⟩
abbrev cL_thorns : ByteArray := method_10_code
def yL_thorns : MethodName := ⟨RL, "thorns", "(LHedgeCommittee;I[J)I"⟩
abbrev cL_hedgeAtRank : ByteArray := method_11_code
def yL_hedgeAtRank : MethodName := ⟨RL, "hedgeAtRank", "(LHedgeCommittee;I[J)I"⟩
abbrev cL_leavesInFavour : ByteArray := method_12_code
def yL_leavesInFavour : MethodName := ⟨RL, "leavesInFavour", "(LHedgeCommittee;I[J)I"⟩
abbrev cL_wouldVeto : ByteArray := method_13_code
def yL_wouldVeto : MethodName := ⟨RL, "wouldVeto", "(LHedgeCommittee;II[J)I"⟩
abbrev cL_motionAt : ByteArray := method_14_code
def yL_motionAt : MethodName := ⟨RL, "motionAt", "(LHedgeCommittee;I[J)I"⟩
abbrev cL_tone : ByteArray := method_15_code
def yL_tone : MethodName := ⟨RL, "tone", "(LHedgeCommittee;I[J)I"⟩
abbrev cL_weight : ByteArray := method_16_code
def yL_weight : MethodName := ⟨RL, "weight", "(LHedgeCommittee;I[J)I"⟩
abbrev cL_parent : ByteArray := method_17_code
def yL_parent : MethodName := ⟨RL, "parent", "(LHedgeCommittee;I[J)I"⟩
abbrev cL_depth : ByteArray := method_18_code
def yL_depth : MethodName := ⟨RL, "depth", "(LHedgeCommittee;I[J)I"⟩
abbrev cL_isTip : ByteArray := method_19_code
def yL_isTip : MethodName := ⟨RL, "isTip", "(LHedgeCommittee;I[J)I"⟩
abbrev cL_branchSize : ByteArray := method_20_code
def yL_branchSize : MethodName := ⟨RL, "branchSize", "(LHedgeCommittee;I[J)I"⟩
abbrev cL_lastTip : ByteArray := method_21_code
def yL_lastTip : MethodName := ⟨RL, "lastTip", "(LHedgeCommittee;I[J)I"⟩
abbrev cL_motionAtRank : ByteArray := method_22_code
def yL_motionAtRank : MethodName := ⟨RL, "motionAtRank", "(LHedgeCommittee;I[J)I"⟩
abbrev cL_commonMotion : ByteArray := method_23_code
def yL_commonMotion : MethodName := ⟨RL, "commonMotion", "(LHedgeCommittee;II[J)I"⟩
abbrev cL_commonMotionByRows : ByteArray := method_24_code
def yL_commonMotionByRows : MethodName := ⟨RL, "commonMotionByRows", "(LHedgeCommittee;II[J)I"⟩
abbrev cL_pathSize : ByteArray := method_25_code
def yL_pathSize : MethodName := ⟨RL, "pathSize", "(LHedgeCommittee;II[J)I"⟩
abbrev cL_longestPath : ByteArray := method_26_code
def yL_longestPath : MethodName := ⟨RL, "longestPath", "(LHedgeCommittee;I[J)I"⟩
abbrev cL_longestPathBySweeps : ByteArray := method_27_code
def yL_longestPathBySweeps : MethodName := ⟨RL, "longestPathBySweeps", "(LHedgeCommittee;I[J)I"⟩
abbrev cL_minutesIn : ByteArray := method_28_code
def yL_minutesIn : MethodName := ⟨RL, "minutesIn", "(LHedgeCommittee;I[J)I"⟩
abbrev cL_meanLeaves : ByteArray := method_29_code
def yL_meanLeaves : MethodName := ⟨RL, "meanLeaves", "(LHedgeCommittee;[D)I"⟩
abbrev cL_carriedShare : ByteArray := method_30_code
def yL_carriedShare : MethodName := ⟨RL, "carriedShare", "(LHedgeCommittee;[D)I"⟩
abbrev cL_append : ByteArray := method_31_code
def yL_append : MethodName := ⟨RL, "append", "(LHedgeCommittee;C[J)I"⟩
abbrev cL_run : ByteArray := method_32_code
def yL_run : MethodName := ⟨RL, "run", "(LHedgeCommittee;[J)I"⟩
abbrev cL_errorPosition : ByteArray := method_33_code
def yL_errorPosition : MethodName := ⟨RL, "errorPosition", "(LHedgeCommittee;[J)I"⟩
abbrev cL_failedCommand : ByteArray := method_34_code
def yL_failedCommand : MethodName := ⟨RL, "failedCommand", "(LHedgeCommittee;[J)I"⟩
abbrev cL_writeBranch : ByteArray := method_35_code
def yL_writeBranch : MethodName := ⟨RL, "writeBranch", "(LHedgeCommittee;I[J)I"⟩
abbrev cL_outputAt : ByteArray := method_36_code
def yL_outputAt : MethodName := ⟨RL, "outputAt", "(LHedgeCommittee;I[J)I"⟩
abbrev cL_undo : ByteArray := method_37_code
def yL_undo : MethodName := ⟨RL, "undo", "(LHedgeCommittee;[J)I"⟩
abbrev cL_restore : ByteArray := method_38_code
def yL_restore : MethodName := ⟨RL, "restore", "(LHedgeCommittee;)I"⟩
abbrev cL_law : ByteArray := code
def yL_law : MethodName := ⟨RL, "law", "([I)Z"⟩

abbrev vwCl : List vw_C := [(RJ0, TJ0, 4), (RJ4, TJ4, 4), (RJx00060, TJx00060, 6), (RJx7c733, TJx7c733, 6), (RJx4a65c, TJx4a65c, 3), (RX1, TX1, 4), (RX2, TX2, 4), (RX3, TX3, 2), (RX5, TX5, 6), (RX6, TX6, 5), (RX7, TX7, 11), (RX8, TX8, 6), (RX9, TX9, 9), (RX10, TX10, 26)]
/-- the good words of the tables -/
def gw : List Cond := lw_tbl.filter goodWord
theorem gw_t {w : Cond} (h : w ∈ tables_1) (g : goodWord w = true) : w ∈ gw := List.mem_filter.mpr ⟨List.mem_append_right _ h, g⟩
theorem gw_p {q : MethodName × Nat} (h : q ∈ lw_privs) (g : goodWord (.selects q.1.cls q.1 q.1) = true) : Cond.selects q.1.cls q.1 q.1 ∈ gw := List.mem_filter.mpr ⟨List.mem_append_left _ (List.mem_map.mpr ⟨q, h, rfl⟩), g⟩
theorem gw_good : ∀ w ∈ gw, (w.onTables && w.keeps) = true ∨ ∃ ty, w = .arrayClass ty := fun _ h => good_of_word (List.mem_filter.mp h).2
theorem gw_0 : Cond.selects "HedgeCommittee$History" ⟨"HedgeCommittee$History", "forgetOldest", "()V"⟩ ⟨"HedgeCommittee$History", "forgetOldest", "()V"⟩ ∈ gw := gw_p (q := (⟨"HedgeCommittee$History", "forgetOldest", "()V"⟩, 2)) (by unfold lw_privs; exact (List.mem_append_left _ (List.mem_append_left _ (List.mem_append_left _ (List.mem_append_left _ (List.mem_append_left _ (List.mem_of_getElem? (l := lw_privs_0) (i := 0) rfl))))))) rfl
theorem gw_1 : Cond.selects "HedgeCommittee$Trees" ⟨"HedgeCommittee$Trees", "farthestFrom", "(LHedgeCommittee$Motions;II)I"⟩ ⟨"HedgeCommittee$Trees", "farthestFrom", "(LHedgeCommittee$Motions;II)I"⟩ ∈ gw := gw_p (q := (⟨"HedgeCommittee$Trees", "farthestFrom", "(LHedgeCommittee$Motions;II)I"⟩, 6)) (by unfold lw_privs; exact (List.mem_append_left _ (List.mem_append_left _ (List.mem_append_left _ (List.mem_append_left _ (List.mem_append_left _ (List.mem_of_getElem? (l := lw_privs_0) (i := 1) rfl))))))) rfl
theorem gw_2 : Cond.selects "java/lang/Throwable" ⟨"java/lang/Throwable", "fillInStackTrace", "(I)Ljava/lang/Throwable;"⟩ ⟨"java/lang/Throwable", "fillInStackTrace", "(I)Ljava/lang/Throwable;"⟩ ∈ gw := gw_p (q := (⟨"java/lang/Throwable", "fillInStackTrace", "(I)Ljava/lang/Throwable;"⟩, 6)) (by unfold lw_privs; exact (List.mem_append_left _ (List.mem_append_left _ (List.mem_append_left _ (List.mem_append_left _ (List.mem_append_left _ (List.mem_of_getElem? (l := lw_privs_0) (i := 2) rfl))))))) rfl
theorem gw_3 : Cond.selects "HedgeCommittee$State" ⟨"HedgeCommittee$State", "requireRoom", "()V"⟩ ⟨"HedgeCommittee$State", "requireRoom", "()V"⟩ ∈ gw := gw_p (q := (⟨"HedgeCommittee$State", "requireRoom", "()V"⟩, 11)) (by unfold lw_privs; exact (List.mem_append_left _ (List.mem_append_left _ (List.mem_append_left _ (List.mem_append_left _ (List.mem_append_left _ (List.mem_of_getElem? (l := lw_privs_0) (i := 3) rfl))))))) rfl
theorem gw_4 : Cond.selects "HedgeCommittee$State" ⟨"HedgeCommittee$State", "begin", "(III)I"⟩ ⟨"HedgeCommittee$State", "begin", "(III)I"⟩ ∈ gw := gw_p (q := (⟨"HedgeCommittee$State", "begin", "(III)I"⟩, 11)) (by unfold lw_privs; exact (List.mem_append_left _ (List.mem_append_left _ (List.mem_append_left _ (List.mem_append_left _ (List.mem_append_left _ (List.mem_of_getElem? (l := lw_privs_0) (i := 4) rfl))))))) rfl
theorem gw_5 : Cond.selects "HedgeCommittee$State" ⟨"HedgeCommittee$State", "bookOutcome", "(CII)V"⟩ ⟨"HedgeCommittee$State", "bookOutcome", "(CII)V"⟩ ∈ gw := gw_p (q := (⟨"HedgeCommittee$State", "bookOutcome", "(CII)V"⟩, 11)) (by unfold lw_privs; exact (List.mem_append_left _ (List.mem_append_left _ (List.mem_append_left _ (List.mem_append_left _ (List.mem_append_left _ (List.mem_of_getElem? (l := lw_privs_0) (i := 5) rfl))))))) rfl
theorem gw_6 : Cond.selects "HedgeCommittee" ⟨"HedgeCommittee", "requireHedge", "(I)V"⟩ ⟨"HedgeCommittee", "requireHedge", "(I)V"⟩ ∈ gw := gw_p (q := (⟨"HedgeCommittee", "requireHedge", "(I)V"⟩, 9)) (by unfold lw_privs; exact (List.mem_append_left _ (List.mem_append_left _ (List.mem_append_left _ (List.mem_append_left _ (List.mem_append_left _ (List.mem_of_getElem? (l := lw_privs_0) (i := 6) rfl))))))) rfl
theorem gw_7 : Cond.selects "HedgeCommittee$Hedges" ⟨"HedgeCommittee$Hedges", "rankOf", "(I)I"⟩ ⟨"HedgeCommittee$Hedges", "rankOf", "(I)I"⟩ ∈ gw := gw_p (q := (⟨"HedgeCommittee$Hedges", "rankOf", "(I)I"⟩, 4)) (by unfold lw_privs; exact (List.mem_append_left _ (List.mem_append_left _ (List.mem_append_left _ (List.mem_append_left _ (List.mem_append_left _ (List.mem_of_getElem? (l := lw_privs_0) (i := 7) rfl))))))) rfl
theorem gw_8 : Cond.selects "HedgeCommittee" ⟨"HedgeCommittee", "requirePosition", "(I)V"⟩ ⟨"HedgeCommittee", "requirePosition", "(I)V"⟩ ∈ gw := gw_p (q := (⟨"HedgeCommittee", "requirePosition", "(I)V"⟩, 9)) (by unfold lw_privs; exact (List.mem_append_left _ (List.mem_append_left _ (List.mem_append_left _ (List.mem_append_left _ (List.mem_append_left _ (List.mem_of_getElem? (l := lw_privs_0) (i := 8) rfl))))))) rfl
theorem gw_9 : Cond.selects "HedgeCommittee$Motions" ⟨"HedgeCommittee$Motions", "rankOf", "(I)I"⟩ ⟨"HedgeCommittee$Motions", "rankOf", "(I)I"⟩ ∈ gw := gw_p (q := (⟨"HedgeCommittee$Motions", "rankOf", "(I)I"⟩, 6)) (by unfold lw_privs; exact (List.mem_append_left _ (List.mem_append_left _ (List.mem_append_left _ (List.mem_append_left _ (List.mem_append_left _ (List.mem_of_getElem? (l := lw_privs_0) (i := 9) rfl))))))) rfl
theorem gw_10 : Cond.selects "HedgeCommittee" ⟨"HedgeCommittee", "idOfCommon", "(I)I"⟩ ⟨"HedgeCommittee", "idOfCommon", "(I)I"⟩ ∈ gw := gw_p (q := (⟨"HedgeCommittee", "idOfCommon", "(I)I"⟩, 9)) (by unfold lw_privs; exact (List.mem_append_left _ (List.mem_append_left _ (List.mem_append_left _ (List.mem_append_left _ (List.mem_append_left _ (List.mem_of_getElem? (l := lw_privs_0) (i := 10) rfl))))))) rfl
theorem gw_11 : Cond.selects "HedgeCommittee$Program" ⟨"HedgeCommittee$Program", "readCommand", "()Z"⟩ ⟨"HedgeCommittee$Program", "readCommand", "()Z"⟩ ∈ gw := gw_p (q := (⟨"HedgeCommittee$Program", "readCommand", "()Z"⟩, 5)) (by unfold lw_privs; exact (List.mem_append_left _ (List.mem_append_left _ (List.mem_append_left _ (List.mem_append_left _ (List.mem_append_right _ (List.mem_of_getElem? (l := lw_privs_1) (i := 0) rfl))))))) rfl
theorem gw_12 : Cond.selects "HedgeCommittee$Program" ⟨"HedgeCommittee$Program", "kindAhead", "()LHedgeCommittee$Kind;"⟩ ⟨"HedgeCommittee$Program", "kindAhead", "()LHedgeCommittee$Kind;"⟩ ∈ gw := gw_p (q := (⟨"HedgeCommittee$Program", "kindAhead", "()LHedgeCommittee$Kind;"⟩, 5)) (by unfold lw_privs; exact (List.mem_append_left _ (List.mem_append_left _ (List.mem_append_left _ (List.mem_append_left _ (List.mem_append_right _ (List.mem_of_getElem? (l := lw_privs_1) (i := 1) rfl))))))) rfl
theorem gw_13 : Cond.selects "HedgeCommittee$Program" ⟨"HedgeCommittee$Program", "digitAhead", "()Z"⟩ ⟨"HedgeCommittee$Program", "digitAhead", "()Z"⟩ ∈ gw := gw_p (q := (⟨"HedgeCommittee$Program", "digitAhead", "()Z"⟩, 5)) (by unfold lw_privs; exact (List.mem_append_left _ (List.mem_append_left _ (List.mem_append_left _ (List.mem_append_left _ (List.mem_append_right _ (List.mem_of_getElem? (l := lw_privs_1) (i := 2) rfl))))))) rfl
theorem gw_14 : Cond.selects "HedgeCommittee$Program" ⟨"HedgeCommittee$Program", "readDigits", "(Z)I"⟩ ⟨"HedgeCommittee$Program", "readDigits", "(Z)I"⟩ ∈ gw := gw_p (q := (⟨"HedgeCommittee$Program", "readDigits", "(Z)I"⟩, 5)) (by unfold lw_privs; exact (List.mem_append_left _ (List.mem_append_left _ (List.mem_append_left _ (List.mem_append_left _ (List.mem_append_right _ (List.mem_of_getElem? (l := lw_privs_1) (i := 3) rfl))))))) rfl
theorem gw_15 : Cond.selects "HedgeCommittee$Program" ⟨"HedgeCommittee$Program", "readSign", "(C)Z"⟩ ⟨"HedgeCommittee$Program", "readSign", "(C)Z"⟩ ∈ gw := gw_p (q := (⟨"HedgeCommittee$Program", "readSign", "(C)Z"⟩, 5)) (by unfold lw_privs; exact (List.mem_append_left _ (List.mem_append_left _ (List.mem_append_left _ (List.mem_append_left _ (List.mem_append_right _ (List.mem_of_getElem? (l := lw_privs_1) (i := 4) rfl))))))) rfl
theorem gw_16 : Cond.selects "java/util/ArrayList" ⟨"java/util/ArrayList", "add", "(Ljava/lang/Object;[Ljava/lang/Object;I)V"⟩ ⟨"java/util/ArrayList", "add", "(Ljava/lang/Object;[Ljava/lang/Object;I)V"⟩ ∈ gw := gw_p (q := (⟨"java/util/ArrayList", "add", "(Ljava/lang/Object;[Ljava/lang/Object;I)V"⟩, 3)) (by unfold lw_privs; exact (List.mem_append_left _ (List.mem_append_left _ (List.mem_append_left _ (List.mem_append_left _ (List.mem_append_right _ (List.mem_of_getElem? (l := lw_privs_1) (i := 5) rfl))))))) rfl
theorem gw_17 : Cond.selects "java/util/ArrayList" ⟨"java/util/ArrayList", "grow", "()[Ljava/lang/Object;"⟩ ⟨"java/util/ArrayList", "grow", "()[Ljava/lang/Object;"⟩ ∈ gw := gw_p (q := (⟨"java/util/ArrayList", "grow", "()[Ljava/lang/Object;"⟩, 3)) (by unfold lw_privs; exact (List.mem_append_left _ (List.mem_append_left _ (List.mem_append_left _ (List.mem_append_left _ (List.mem_append_right _ (List.mem_of_getElem? (l := lw_privs_1) (i := 6) rfl))))))) rfl
theorem gw_18 : Cond.selects "java/util/ArrayList" ⟨"java/util/ArrayList", "grow", "(I)[Ljava/lang/Object;"⟩ ⟨"java/util/ArrayList", "grow", "(I)[Ljava/lang/Object;"⟩ ∈ gw := gw_p (q := (⟨"java/util/ArrayList", "grow", "(I)[Ljava/lang/Object;"⟩, 3)) (by unfold lw_privs; exact (List.mem_append_left _ (List.mem_append_left _ (List.mem_append_left _ (List.mem_append_left _ (List.mem_append_right _ (List.mem_of_getElem? (l := lw_privs_1) (i := 7) rfl))))))) rfl
theorem gw_19 : Cond.selects "HedgeCommittee" ⟨"HedgeCommittee", "firstFailure", "()I"⟩ ⟨"HedgeCommittee", "firstFailure", "()I"⟩ ∈ gw := gw_p (q := (⟨"HedgeCommittee", "firstFailure", "()I"⟩, 9)) (by unfold lw_privs; exact (List.mem_append_left _ (List.mem_append_left _ (List.mem_append_left _ (List.mem_append_left _ (List.mem_append_right _ (List.mem_of_getElem? (l := lw_privs_1) (i := 8) rfl))))))) rfl
theorem gw_20 : Cond.selects "HedgeCommittee" ⟨"HedgeCommittee", "succeeds", "(LHedgeCommittee$Command;)Z"⟩ ⟨"HedgeCommittee", "succeeds", "(LHedgeCommittee$Command;)Z"⟩ ∈ gw := gw_p (q := (⟨"HedgeCommittee", "succeeds", "(LHedgeCommittee$Command;)Z"⟩, 9)) (by unfold lw_privs; exact (List.mem_append_left _ (List.mem_append_left _ (List.mem_append_left _ (List.mem_append_left _ (List.mem_append_right _ (List.mem_of_getElem? (l := lw_privs_1) (i := 9) rfl))))))) rfl
theorem gw_21 : Cond.selects "HedgeCommitteeModel" ⟨"HedgeCommitteeModel", "starts", "()V"⟩ ⟨"HedgeCommitteeModel", "starts", "()V"⟩ ∈ gw := gw_p (q := (⟨"HedgeCommitteeModel", "starts", "()V"⟩, 26)) (by unfold lw_privs; exact (List.mem_append_left _ (List.mem_append_left _ (List.mem_append_left _ (List.mem_append_left _ (List.mem_append_right _ (List.mem_of_getElem? (l := lw_privs_1) (i := 10) rfl))))))) rfl
theorem gw_22 : Cond.selects "HedgeCommitteeModel" ⟨"HedgeCommitteeModel", "hedgeIt", "(III)I"⟩ ⟨"HedgeCommitteeModel", "hedgeIt", "(III)I"⟩ ∈ gw := gw_p (q := (⟨"HedgeCommitteeModel", "hedgeIt", "(III)I"⟩, 26)) (by unfold lw_privs; exact (List.mem_append_left _ (List.mem_append_left _ (List.mem_append_left _ (List.mem_append_right _ (List.mem_of_getElem? (l := lw_privs_2) (i := 0) rfl)))))) rfl
theorem gw_23 : Cond.selects "HedgeCommitteeModel" ⟨"HedgeCommitteeModel", "throwing", "(I)I"⟩ ⟨"HedgeCommitteeModel", "throwing", "(I)I"⟩ ∈ gw := gw_p (q := (⟨"HedgeCommitteeModel", "throwing", "(I)I"⟩, 26)) (by unfold lw_privs; exact (List.mem_append_left _ (List.mem_append_left _ (List.mem_append_left _ (List.mem_append_right _ (List.mem_of_getElem? (l := lw_privs_2) (i := 1) rfl)))))) rfl
theorem gw_24 : Cond.selects "HedgeCommitteeModel" ⟨"HedgeCommitteeModel", "changed", "(I)I"⟩ ⟨"HedgeCommitteeModel", "changed", "(I)I"⟩ ∈ gw := gw_p (q := (⟨"HedgeCommitteeModel", "changed", "(I)I"⟩, 26)) (by unfold lw_privs; exact (List.mem_append_left _ (List.mem_append_left _ (List.mem_append_left _ (List.mem_append_right _ (List.mem_of_getElem? (l := lw_privs_2) (i := 2) rfl)))))) rfl
theorem gw_25 : Cond.selects "HedgeCommitteeModel" ⟨"HedgeCommitteeModel", "mainIt", "(II)I"⟩ ⟨"HedgeCommitteeModel", "mainIt", "(II)I"⟩ ∈ gw := gw_p (q := (⟨"HedgeCommitteeModel", "mainIt", "(II)I"⟩, 26)) (by unfold lw_privs; exact (List.mem_append_left _ (List.mem_append_left _ (List.mem_append_left _ (List.mem_append_right _ (List.mem_of_getElem? (l := lw_privs_2) (i := 3) rfl)))))) rfl
theorem gw_26 : Cond.selects "HedgeCommitteeModel" ⟨"HedgeCommitteeModel", "adds", "(III)I"⟩ ⟨"HedgeCommitteeModel", "adds", "(III)I"⟩ ∈ gw := gw_p (q := (⟨"HedgeCommitteeModel", "adds", "(III)I"⟩, 26)) (by unfold lw_privs; exact (List.mem_append_left _ (List.mem_append_left _ (List.mem_append_left _ (List.mem_append_right _ (List.mem_of_getElem? (l := lw_privs_2) (i := 4) rfl)))))) rfl
theorem gw_27 : Cond.selects "HedgeCommitteeModel" ⟨"HedgeCommitteeModel", "amendIt", "(III)I"⟩ ⟨"HedgeCommitteeModel", "amendIt", "(III)I"⟩ ∈ gw := gw_p (q := (⟨"HedgeCommitteeModel", "amendIt", "(III)I"⟩, 26)) (by unfold lw_privs; exact (List.mem_append_left _ (List.mem_append_left _ (List.mem_append_left _ (List.mem_append_right _ (List.mem_of_getElem? (l := lw_privs_2) (i := 5) rfl)))))) rfl
theorem gw_28 : Cond.selects "HedgeCommitteeModel" ⟨"HedgeCommitteeModel", "find", "(I)I"⟩ ⟨"HedgeCommitteeModel", "find", "(I)I"⟩ ∈ gw := gw_p (q := (⟨"HedgeCommitteeModel", "find", "(I)I"⟩, 26)) (by unfold lw_privs; exact (List.mem_append_left _ (List.mem_append_left _ (List.mem_append_left _ (List.mem_append_right _ (List.mem_of_getElem? (l := lw_privs_2) (i := 6) rfl)))))) rfl
theorem gw_29 : Cond.selects "HedgeCommitteeModel" ⟨"HedgeCommitteeModel", "of", "(II)I"⟩ ⟨"HedgeCommitteeModel", "of", "(II)I"⟩ ∈ gw := gw_p (q := (⟨"HedgeCommitteeModel", "of", "(II)I"⟩, 26)) (by unfold lw_privs; exact (List.mem_append_left _ (List.mem_append_left _ (List.mem_append_left _ (List.mem_append_right _ (List.mem_of_getElem? (l := lw_privs_2) (i := 7) rfl)))))) rfl
theorem gw_30 : Cond.selects "HedgeCommitteeModel" ⟨"HedgeCommitteeModel", "pruneIt", "(II)I"⟩ ⟨"HedgeCommitteeModel", "pruneIt", "(II)I"⟩ ∈ gw := gw_p (q := (⟨"HedgeCommitteeModel", "pruneIt", "(II)I"⟩, 26)) (by unfold lw_privs; exact (List.mem_append_left _ (List.mem_append_left _ (List.mem_append_left _ (List.mem_append_right _ (List.mem_of_getElem? (l := lw_privs_2) (i := 8) rfl)))))) rfl
theorem gw_31 : Cond.selects "HedgeCommitteeModel" ⟨"HedgeCommitteeModel", "deep", "(I)I"⟩ ⟨"HedgeCommitteeModel", "deep", "(I)I"⟩ ∈ gw := gw_p (q := (⟨"HedgeCommitteeModel", "deep", "(I)I"⟩, 26)) (by unfold lw_privs; exact (List.mem_append_left _ (List.mem_append_left _ (List.mem_append_left _ (List.mem_append_right _ (List.mem_of_getElem? (l := lw_privs_2) (i := 9) rfl)))))) rfl
theorem gw_32 : Cond.selects "HedgeCommitteeModel" ⟨"HedgeCommitteeModel", "above", "(I)I"⟩ ⟨"HedgeCommitteeModel", "above", "(I)I"⟩ ∈ gw := gw_p (q := (⟨"HedgeCommitteeModel", "above", "(I)I"⟩, 26)) (by unfold lw_privs; exact (List.mem_append_left _ (List.mem_append_left _ (List.mem_append_left _ (List.mem_append_right _ (List.mem_of_getElem? (l := lw_privs_2) (i := 10) rfl)))))) rfl
theorem gw_33 : Cond.selects "HedgeCommitteeModel" ⟨"HedgeCommitteeModel", "isIn", "(II)Z"⟩ ⟨"HedgeCommitteeModel", "isIn", "(II)Z"⟩ ∈ gw := gw_p (q := (⟨"HedgeCommitteeModel", "isIn", "(II)Z"⟩, 26)) (by unfold lw_privs; exact (List.mem_append_left _ (List.mem_append_left _ (List.mem_append_right _ (List.mem_of_getElem? (l := lw_privs_3) (i := 0) rfl))))) rfl
theorem gw_34 : Cond.selects "HedgeCommitteeModel" ⟨"HedgeCommitteeModel", "drops", "(I)V"⟩ ⟨"HedgeCommitteeModel", "drops", "(I)V"⟩ ∈ gw := gw_p (q := (⟨"HedgeCommitteeModel", "drops", "(I)V"⟩, 26)) (by unfold lw_privs; exact (List.mem_append_left _ (List.mem_append_left _ (List.mem_append_right _ (List.mem_of_getElem? (l := lw_privs_3) (i := 1) rfl))))) rfl
theorem gw_35 : Cond.selects "HedgeCommitteeModel" ⟨"HedgeCommitteeModel", "regrowIt", "(I)I"⟩ ⟨"HedgeCommitteeModel", "regrowIt", "(I)I"⟩ ∈ gw := gw_p (q := (⟨"HedgeCommitteeModel", "regrowIt", "(I)I"⟩, 26)) (by unfold lw_privs; exact (List.mem_append_left _ (List.mem_append_left _ (List.mem_append_right _ (List.mem_of_getElem? (l := lw_privs_3) (i := 2) rfl))))) rfl
theorem gw_36 : Cond.selects "HedgeCommitteeModel" ⟨"HedgeCommitteeModel", "lastTipAt", "(I)I"⟩ ⟨"HedgeCommitteeModel", "lastTipAt", "(I)I"⟩ ∈ gw := gw_p (q := (⟨"HedgeCommitteeModel", "lastTipAt", "(I)I"⟩, 26)) (by unfold lw_privs; exact (List.mem_append_left _ (List.mem_append_left _ (List.mem_append_right _ (List.mem_of_getElem? (l := lw_privs_3) (i := 3) rfl))))) rfl
theorem gw_37 : Cond.selects "HedgeCommitteeModel" ⟨"HedgeCommitteeModel", "isTipAt", "(I)Z"⟩ ⟨"HedgeCommitteeModel", "isTipAt", "(I)Z"⟩ ∈ gw := gw_p (q := (⟨"HedgeCommitteeModel", "isTipAt", "(I)Z"⟩, 26)) (by unfold lw_privs; exact (List.mem_append_left _ (List.mem_append_left _ (List.mem_append_right _ (List.mem_of_getElem? (l := lw_privs_3) (i := 4) rfl))))) rfl
theorem gw_38 : Cond.selects "HedgeCommitteeModel" ⟨"HedgeCommitteeModel", "voteIt", "(I)I"⟩ ⟨"HedgeCommitteeModel", "voteIt", "(I)I"⟩ ∈ gw := gw_p (q := (⟨"HedgeCommitteeModel", "voteIt", "(I)I"⟩, 26)) (by unfold lw_privs; exact (List.mem_append_left _ (List.mem_append_left _ (List.mem_append_right _ (List.mem_of_getElem? (l := lw_privs_3) (i := 5) rfl))))) rfl
theorem gw_39 : Cond.selects "HedgeCommitteeModel" ⟨"HedgeCommitteeModel", "vetoes", "(II)Z"⟩ ⟨"HedgeCommitteeModel", "vetoes", "(II)Z"⟩ ∈ gw := gw_p (q := (⟨"HedgeCommitteeModel", "vetoes", "(II)Z"⟩, 26)) (by unfold lw_privs; exact (List.mem_append_left _ (List.mem_append_left _ (List.mem_append_right _ (List.mem_of_getElem? (l := lw_privs_3) (i := 6) rfl))))) rfl
theorem gw_40 : Cond.selects "HedgeCommitteeModel" ⟨"HedgeCommitteeModel", "far", "(II)I"⟩ ⟨"HedgeCommitteeModel", "far", "(II)I"⟩ ∈ gw := gw_p (q := (⟨"HedgeCommitteeModel", "far", "(II)I"⟩, 26)) (by unfold lw_privs; exact (List.mem_append_left _ (List.mem_append_left _ (List.mem_append_right _ (List.mem_of_getElem? (l := lw_privs_3) (i := 7) rfl))))) rfl
theorem gw_41 : Cond.selects "HedgeCommitteeModel" ⟨"HedgeCommitteeModel", "favour", "(I)I"⟩ ⟨"HedgeCommitteeModel", "favour", "(I)I"⟩ ∈ gw := gw_p (q := (⟨"HedgeCommitteeModel", "favour", "(I)I"⟩, 26)) (by unfold lw_privs; exact (List.mem_append_left _ (List.mem_append_left _ (List.mem_append_right _ (List.mem_of_getElem? (l := lw_privs_3) (i := 8) rfl))))) rfl
theorem gw_42 : Cond.selects "HedgeCommitteeModel" ⟨"HedgeCommitteeModel", "leavesAll", "()I"⟩ ⟨"HedgeCommitteeModel", "leavesAll", "()I"⟩ ∈ gw := gw_p (q := (⟨"HedgeCommitteeModel", "leavesAll", "()I"⟩, 26)) (by unfold lw_privs; exact (List.mem_append_left _ (List.mem_append_left _ (List.mem_append_right _ (List.mem_of_getElem? (l := lw_privs_3) (i := 9) rfl))))) rfl
theorem gw_43 : Cond.selects "HedgeCommitteeModel" ⟨"HedgeCommitteeModel", "carries", "(I)V"⟩ ⟨"HedgeCommitteeModel", "carries", "(I)V"⟩ ∈ gw := gw_p (q := (⟨"HedgeCommitteeModel", "carries", "(I)V"⟩, 26)) (by unfold lw_privs; exact (List.mem_append_left _ (List.mem_append_left _ (List.mem_append_right _ (List.mem_of_getElem? (l := lw_privs_3) (i := 10) rfl))))) rfl
theorem gw_44 : Cond.selects "HedgeCommitteeModel" ⟨"HedgeCommitteeModel", "seasonIt", "()I"⟩ ⟨"HedgeCommitteeModel", "seasonIt", "()I"⟩ ∈ gw := gw_p (q := (⟨"HedgeCommitteeModel", "seasonIt", "()I"⟩, 26)) (by unfold lw_privs; exact (List.mem_append_left _ (List.mem_append_right _ (List.mem_of_getElem? (l := lw_privs_4) (i := 0) rfl)))) rfl
theorem gw_45 : Cond.selects "HedgeCommitteeModel" ⟨"HedgeCommitteeModel", "isHedge", "(I)Z"⟩ ⟨"HedgeCommitteeModel", "isHedge", "(I)Z"⟩ ∈ gw := gw_p (q := (⟨"HedgeCommitteeModel", "isHedge", "(I)Z"⟩, 26)) (by unfold lw_privs; exact (List.mem_append_left _ (List.mem_append_right _ (List.mem_of_getElem? (l := lw_privs_4) (i := 1) rfl)))) rfl
theorem gw_46 : Cond.selects "HedgeCommitteeModel" ⟨"HedgeCommitteeModel", "isHedgeAhead", "(II)Z"⟩ ⟨"HedgeCommitteeModel", "isHedgeAhead", "(II)Z"⟩ ∈ gw := gw_p (q := (⟨"HedgeCommitteeModel", "isHedgeAhead", "(II)Z"⟩, 26)) (by unfold lw_privs; exact (List.mem_append_left _ (List.mem_append_right _ (List.mem_of_getElem? (l := lw_privs_4) (i := 2) rfl)))) rfl
theorem gw_47 : Cond.selects "HedgeCommitteeModel" ⟨"HedgeCommitteeModel", "ofMotion", "(II)I"⟩ ⟨"HedgeCommitteeModel", "ofMotion", "(II)I"⟩ ∈ gw := gw_p (q := (⟨"HedgeCommitteeModel", "ofMotion", "(II)I"⟩, 26)) (by unfold lw_privs; exact (List.mem_append_left _ (List.mem_append_right _ (List.mem_of_getElem? (l := lw_privs_4) (i := 3) rfl)))) rfl
theorem gw_48 : Cond.selects "HedgeCommitteeModel" ⟨"HedgeCommitteeModel", "isMotionAhead", "(II)Z"⟩ ⟨"HedgeCommitteeModel", "isMotionAhead", "(II)Z"⟩ ∈ gw := gw_p (q := (⟨"HedgeCommitteeModel", "isMotionAhead", "(II)Z"⟩, 26)) (by unfold lw_privs; exact (List.mem_append_left _ (List.mem_append_right _ (List.mem_of_getElem? (l := lw_privs_4) (i := 4) rfl)))) rfl
theorem gw_49 : Cond.selects "HedgeCommitteeModel" ⟨"HedgeCommitteeModel", "common", "(II)I"⟩ ⟨"HedgeCommitteeModel", "common", "(II)I"⟩ ∈ gw := gw_p (q := (⟨"HedgeCommitteeModel", "common", "(II)I"⟩, 26)) (by unfold lw_privs; exact (List.mem_append_left _ (List.mem_append_right _ (List.mem_of_getElem? (l := lw_privs_4) (i := 5) rfl)))) rfl
theorem gw_50 : Cond.selects "HedgeCommitteeModel" ⟨"HedgeCommitteeModel", "steps", "(II)I"⟩ ⟨"HedgeCommitteeModel", "steps", "(II)I"⟩ ∈ gw := gw_p (q := (⟨"HedgeCommitteeModel", "steps", "(II)I"⟩, 26)) (by unfold lw_privs; exact (List.mem_append_left _ (List.mem_append_right _ (List.mem_of_getElem? (l := lw_privs_4) (i := 6) rfl)))) rfl
theorem gw_51 : Cond.selects "HedgeCommitteeModel" ⟨"HedgeCommitteeModel", "measures", "()V"⟩ ⟨"HedgeCommitteeModel", "measures", "()V"⟩ ∈ gw := gw_p (q := (⟨"HedgeCommitteeModel", "measures", "()V"⟩, 26)) (by unfold lw_privs; exact (List.mem_append_left _ (List.mem_append_right _ (List.mem_of_getElem? (l := lw_privs_4) (i := 7) rfl)))) rfl
theorem gw_52 : Cond.selects "HedgeCommitteeModel" ⟨"HedgeCommitteeModel", "readCommand", "()V"⟩ ⟨"HedgeCommitteeModel", "readCommand", "()V"⟩ ∈ gw := gw_p (q := (⟨"HedgeCommitteeModel", "readCommand", "()V"⟩, 26)) (by unfold lw_privs; exact (List.mem_append_left _ (List.mem_append_right _ (List.mem_of_getElem? (l := lw_privs_4) (i := 8) rfl)))) rfl
theorem gw_53 : Cond.selects "HedgeCommitteeModel" ⟨"HedgeCommitteeModel", "likeness", "(I)I"⟩ ⟨"HedgeCommitteeModel", "likeness", "(I)I"⟩ ∈ gw := gw_p (q := (⟨"HedgeCommitteeModel", "likeness", "(I)I"⟩, 26)) (by unfold lw_privs; exact (List.mem_append_left _ (List.mem_append_right _ (List.mem_of_getElem? (l := lw_privs_4) (i := 9) rfl)))) rfl
theorem gw_54 : Cond.selects "HedgeCommitteeModel" ⟨"HedgeCommitteeModel", "readArguments", "(II)V"⟩ ⟨"HedgeCommitteeModel", "readArguments", "(II)V"⟩ ∈ gw := gw_p (q := (⟨"HedgeCommitteeModel", "readArguments", "(II)V"⟩, 26)) (by unfold lw_privs; exact (List.mem_append_left _ (List.mem_append_right _ (List.mem_of_getElem? (l := lw_privs_4) (i := 10) rfl)))) rfl
theorem gw_55 : Cond.selects "HedgeCommitteeModel" ⟨"HedgeCommitteeModel", "digit", "()I"⟩ ⟨"HedgeCommitteeModel", "digit", "()I"⟩ ∈ gw := gw_p (q := (⟨"HedgeCommitteeModel", "digit", "()I"⟩, 26)) (by unfold lw_privs; exact (List.mem_append_right _ (List.mem_of_getElem? (l := lw_privs_5) (i := 0) rfl))) rfl
theorem gw_56 : Cond.selects "HedgeCommitteeModel" ⟨"HedgeCommitteeModel", "here", "()I"⟩ ⟨"HedgeCommitteeModel", "here", "()I"⟩ ∈ gw := gw_p (q := (⟨"HedgeCommitteeModel", "here", "()I"⟩, 26)) (by unfold lw_privs; exact (List.mem_append_right _ (List.mem_of_getElem? (l := lw_privs_5) (i := 1) rfl))) rfl
theorem gw_57 : Cond.selects "HedgeCommitteeModel" ⟨"HedgeCommitteeModel", "number", "()I"⟩ ⟨"HedgeCommitteeModel", "number", "()I"⟩ ∈ gw := gw_p (q := (⟨"HedgeCommitteeModel", "number", "()I"⟩, 26)) (by unfold lw_privs; exact (List.mem_append_right _ (List.mem_of_getElem? (l := lw_privs_5) (i := 2) rfl))) rfl
theorem gw_58 : Cond.selects "HedgeCommitteeModel" ⟨"HedgeCommitteeModel", "digitBehind", "()I"⟩ ⟨"HedgeCommitteeModel", "digitBehind", "()I"⟩ ∈ gw := gw_p (q := (⟨"HedgeCommitteeModel", "digitBehind", "()I"⟩, 26)) (by unfold lw_privs; exact (List.mem_append_right _ (List.mem_of_getElem? (l := lw_privs_5) (i := 3) rfl))) rfl
theorem gw_59 : Cond.selects "HedgeCommitteeModel" ⟨"HedgeCommitteeModel", "expects", "(I)V"⟩ ⟨"HedgeCommitteeModel", "expects", "(I)V"⟩ ∈ gw := gw_p (q := (⟨"HedgeCommitteeModel", "expects", "(I)V"⟩, 26)) (by unfold lw_privs; exact (List.mem_append_right _ (List.mem_of_getElem? (l := lw_privs_5) (i := 4) rfl))) rfl
theorem gw_60 : Cond.selects "HedgeCommitteeModel" ⟨"HedgeCommitteeModel", "numberBehind", "()I"⟩ ⟨"HedgeCommitteeModel", "numberBehind", "()I"⟩ ∈ gw := gw_p (q := (⟨"HedgeCommitteeModel", "numberBehind", "()I"⟩, 26)) (by unfold lw_privs; exact (List.mem_append_right _ (List.mem_of_getElem? (l := lw_privs_5) (i := 5) rfl))) rfl
theorem gw_61 : Cond.selects "HedgeCommitteeModel" ⟨"HedgeCommitteeModel", "does", "(I)V"⟩ ⟨"HedgeCommitteeModel", "does", "(I)V"⟩ ∈ gw := gw_p (q := (⟨"HedgeCommitteeModel", "does", "(I)V"⟩, 26)) (by unfold lw_privs; exact (List.mem_append_right _ (List.mem_of_getElem? (l := lw_privs_5) (i := 6) rfl))) rfl
theorem gw_62 : Cond.selects "HedgeCommitteeModel" ⟨"HedgeCommitteeModel", "writesWhole", "(I)V"⟩ ⟨"HedgeCommitteeModel", "writesWhole", "(I)V"⟩ ∈ gw := gw_p (q := (⟨"HedgeCommitteeModel", "writesWhole", "(I)V"⟩, 26)) (by unfold lw_privs; exact (List.mem_append_right _ (List.mem_of_getElem? (l := lw_privs_5) (i := 7) rfl))) rfl
theorem gw_63 : Cond.selects "HedgeCommitteeModel" ⟨"HedgeCommitteeModel", "sign", "(I)V"⟩ ⟨"HedgeCommitteeModel", "sign", "(I)V"⟩ ∈ gw := gw_p (q := (⟨"HedgeCommitteeModel", "sign", "(I)V"⟩, 26)) (by unfold lw_privs; exact (List.mem_append_right _ (List.mem_of_getElem? (l := lw_privs_5) (i := 8) rfl))) rfl
theorem gw_64 : Cond.selects "HedgeCommitteeModel" ⟨"HedgeCommitteeModel", "childFrom", "(II)I"⟩ ⟨"HedgeCommitteeModel", "childFrom", "(II)I"⟩ ∈ gw := gw_p (q := (⟨"HedgeCommitteeModel", "childFrom", "(II)I"⟩, 26)) (by unfold lw_privs; exact (List.mem_append_right _ (List.mem_of_getElem? (l := lw_privs_5) (i := 9) rfl))) rfl
theorem gw_65 : Cond.selects "HedgeCommitteeModel" ⟨"HedgeCommitteeModel", "next", "(II)I"⟩ ⟨"HedgeCommitteeModel", "next", "(II)I"⟩ ∈ gw := gw_p (q := (⟨"HedgeCommitteeModel", "next", "(II)I"⟩, 26)) (by unfold lw_privs; exact (List.mem_append_right _ (List.mem_of_getElem? (l := lw_privs_5) (i := 10) rfl))) rfl
theorem gw_66 : Cond.initialized "HedgeCommitteeLaw" ∈ gw := gw_t (tb_1 (List.mem_of_getElem? (i := 0) rfl)) rfl
theorem gw_67 : Cond.initialized "HedgeCommittee" ∈ gw := gw_t (tb_1 (List.mem_of_getElem? (i := 1) rfl)) rfl
theorem gw_68 : Cond.initialized "HedgeCommittee$State" ∈ gw := gw_t (tb_1 (List.mem_of_getElem? (i := 2) rfl)) rfl
theorem gw_69 : Cond.initialized "HedgeCommittee$Hedges" ∈ gw := gw_t (tb_1 (List.mem_of_getElem? (i := 3) rfl)) rfl
theorem gw_70 : Cond.initialized "HedgeCommittee$Motions" ∈ gw := gw_t (tb_1 (List.mem_of_getElem? (i := 4) rfl)) rfl
theorem gw_71 : Cond.initialized "HedgeCommittee$History" ∈ gw := gw_t (tb_1 (List.mem_of_getElem? (i := 5) rfl)) rfl
theorem gw_72 : Cond.initialized "HedgeCommittee$Trees" ∈ gw := gw_t (tb_1 (List.mem_of_getElem? (i := 6) rfl)) rfl
theorem gw_73 : Cond.initialized "HedgeCommittee$Program" ∈ gw := gw_t (tb_1 (List.mem_of_getElem? (i := 7) rfl)) rfl
theorem gw_74 : Cond.initialized "java/util/AbstractCollection" ∈ gw := gw_t (tb_1 (List.mem_of_getElem? (i := 8) rfl)) rfl
theorem gw_75 : Cond.initialized "java/util/AbstractList" ∈ gw := gw_t (tb_1 (List.mem_of_getElem? (i := 9) rfl)) rfl
theorem gw_76 : Cond.initialized "java/util/ArrayList" ∈ gw := gw_t (tb_1 (List.mem_of_getElem? (i := 10) rfl)) rfl
theorem gw_77 : Cond.initialized "java/lang/AbstractStringBuilder" ∈ gw := gw_t (tb_1 (List.mem_of_getElem? (i := 11) rfl)) rfl
theorem gw_78 : Cond.initialized "java/lang/StringBuilder" ∈ gw := gw_t (tb_1 (List.mem_of_getElem? (i := 12) rfl)) rfl
theorem gw_79 : Cond.initialized "java/lang/String" ∈ gw := gw_t (tb_1 (List.mem_of_getElem? (i := 13) rfl)) rfl
theorem gw_80 : Cond.initialized "java/lang/StringUTF16" ∈ gw := gw_t (tb_1 (List.mem_of_getElem? (i := 14) rfl)) rfl
theorem gw_81 : Cond.initialized "HedgeCommitteeModel" ∈ gw := gw_t (tb_1 (List.mem_of_getElem? (i := 15) rfl)) rfl
theorem gw_82 : Cond.initialized "java/lang/System" ∈ gw := gw_t (tb_1 (List.mem_of_getElem? (i := 16) rfl)) rfl
theorem gw_83 : Cond.initialized "java/lang/Throwable" ∈ gw := gw_t (tb_1 (List.mem_of_getElem? (i := 17) rfl)) rfl
theorem gw_84 : Cond.initialized "java/lang/Exception" ∈ gw := gw_t (tb_1 (List.mem_of_getElem? (i := 18) rfl)) rfl
theorem gw_85 : Cond.initialized "java/lang/RuntimeException" ∈ gw := gw_t (tb_1 (List.mem_of_getElem? (i := 19) rfl)) rfl
theorem gw_86 : Cond.initialized "java/lang/IllegalArgumentException" ∈ gw := gw_t (tb_1 (List.mem_of_getElem? (i := 20) rfl)) rfl
theorem gw_87 : Cond.initialized "java/lang/IllegalStateException" ∈ gw := gw_t (tb_1 (List.mem_of_getElem? (i := 21) rfl)) rfl
theorem gw_88 : Cond.initialized "java/util/NoSuchElementException" ∈ gw := gw_t (tb_1 (List.mem_of_getElem? (i := 22) rfl)) rfl
theorem gw_89 : Cond.initialized "java/lang/Math" ∈ gw := gw_t (tb_1 (List.mem_of_getElem? (i := 23) rfl)) rfl
theorem gw_90 : Cond.initialized "java/lang/IndexOutOfBoundsException" ∈ gw := gw_t (tb_1 (List.mem_of_getElem? (i := 24) rfl)) rfl
theorem gw_91 : Cond.initialized "java/lang/ArrayIndexOutOfBoundsException" ∈ gw := gw_t (tb_1 (List.mem_of_getElem? (i := 25) rfl)) rfl
theorem gw_92 : Cond.initialized "java/lang/UnsupportedOperationException" ∈ gw := gw_t (tb_1 (List.mem_of_getElem? (i := 26) rfl)) rfl
theorem gw_93 : Cond.initialized "java/util/Arrays" ∈ gw := gw_t (tb_1 (List.mem_of_getElem? (i := 27) rfl)) rfl
theorem gw_94 : Cond.initialized "java/lang/ArithmeticException" ∈ gw := gw_t (tb_1 (List.mem_of_getElem? (i := 28) rfl)) rfl
theorem gw_95 : Cond.initialized "java/lang/StringLatin1" ∈ gw := gw_t (tb_1 (List.mem_of_getElem? (i := 29) rfl)) rfl
theorem gw_96 : Cond.initialized "jdk/internal/util/Preconditions" ∈ gw := gw_t (tb_1 (List.mem_of_getElem? (i := 30) rfl)) rfl
theorem gw_97 : Cond.initialized "HedgeCommittee$Command" ∈ gw := gw_t (tb_1 (List.mem_of_getElem? (i := 31) rfl)) rfl
theorem gw_98 : Cond.initialized "jdk/internal/util/ArraysSupport" ∈ gw := gw_t (tb_1 (List.mem_of_getElem? (i := 32) rfl)) rfl
theorem gw_99 : Cond.initialized "java/util/Objects" ∈ gw := gw_t (tb_1 (List.mem_of_getElem? (i := 33) rfl)) rfl
theorem gw_100 : Cond.initialized "HedgeCommittee$1" ∈ gw := gw_t (tb_1 (List.mem_of_getElem? (i := 34) rfl)) rfl
theorem gw_101 : Cond.initialized "java/lang/StringIndexOutOfBoundsException" ∈ gw := gw_t (tb_1 (List.mem_of_getElem? (i := 35) rfl)) rfl
theorem gw_102 : Cond.initialized "java/lang/Number" ∈ gw := gw_t (tb_1 (List.mem_of_getElem? (i := 36) rfl)) rfl
theorem gw_103 : Cond.initialized "java/lang/Integer" ∈ gw := gw_t (tb_1 (List.mem_of_getElem? (i := 37) rfl)) rfl
theorem gw_104 : Cond.classLink "HedgeCommitteeLaw" 8 "HedgeCommittee" ∈ gw := gw_t (tb_1 (List.mem_of_getElem? (i := 38) rfl)) rfl
theorem gw_105 : Cond.instantiable "HedgeCommittee" 9 ∈ gw := gw_t (tb_1 (List.mem_of_getElem? (i := 39) rfl)) rfl
theorem gw_106 : Cond.methodLink "HedgeCommitteeLaw" 139 ⟨"HedgeCommittee", "<init>", "()V"⟩ ∈ gw := gw_t (tb_1 (List.mem_of_getElem? (i := 40) rfl)) rfl
theorem gw_107 : Cond.instanceMethod ⟨"HedgeCommittee", "<init>", "()V"⟩ ∈ gw := gw_t (tb_1 (List.mem_of_getElem? (i := 41) rfl)) rfl
theorem gw_108 : Cond.code ⟨"HedgeCommittee", "<init>", "()V"⟩ prog_1_method_1_code 1 none ∈ gw := gw_t (tb_1 (List.mem_of_getElem? (i := 42) rfl)) rfl
theorem gw_109 : Cond.methodLink "HedgeCommittee" 1 ⟨"java/lang/Object", "<init>", "()V"⟩ ∈ gw := gw_t (tb_1 (List.mem_of_getElem? (i := 43) rfl)) rfl
theorem gw_110 : Cond.instanceMethod ⟨"java/lang/Object", "<init>", "()V"⟩ ∈ gw := gw_t (tb_1 (List.mem_of_getElem? (i := 44) rfl)) rfl
theorem gw_111 : Cond.code ⟨"java/lang/Object", "<init>", "()V"⟩ object_method_1_code 1 none ∈ gw := gw_t (tb_1 (List.mem_of_getElem? (i := 45) rfl)) rfl
theorem gw_112 : Cond.classLink "HedgeCommittee" 7 "HedgeCommittee$State" ∈ gw := gw_t (tb_1 (List.mem_of_getElem? (i := 46) rfl)) rfl
theorem gw_113 : Cond.instantiable "HedgeCommittee$State" 11 ∈ gw := gw_t (tb_1 (List.mem_of_getElem? (i := 47) rfl)) rfl
theorem gw_114 : Cond.methodLink "HedgeCommittee" 9 ⟨"HedgeCommittee$State", "<init>", "()V"⟩ ∈ gw := gw_t (tb_1 (List.mem_of_getElem? (i := 48) rfl)) rfl
theorem gw_115 : Cond.instanceMethod ⟨"HedgeCommittee$State", "<init>", "()V"⟩ ∈ gw := gw_t (tb_1 (List.mem_of_getElem? (i := 49) rfl)) rfl
theorem gw_116 : Cond.code ⟨"HedgeCommittee$State", "<init>", "()V"⟩ prog_9_method_1_code 1 none ∈ gw := gw_t (tb_1 (List.mem_of_getElem? (i := 50) rfl)) rfl
theorem gw_117 : Cond.methodLink "HedgeCommittee$State" 3 ⟨"java/lang/Object", "<init>", "()V"⟩ ∈ gw := gw_t (tb_1 (List.mem_of_getElem? (i := 51) rfl)) rfl
theorem gw_118 : Cond.classLink "HedgeCommittee$State" 9 "HedgeCommittee$Hedges" ∈ gw := gw_t (tb_1 (List.mem_of_getElem? (i := 52) rfl)) rfl
theorem gw_119 : Cond.instantiable "HedgeCommittee$Hedges" 4 ∈ gw := gw_t (tb_1 (List.mem_of_getElem? (i := 53) rfl)) rfl
theorem gw_120 : Cond.methodLink "HedgeCommittee$State" 11 ⟨"HedgeCommittee$Hedges", "<init>", "()V"⟩ ∈ gw := gw_t (tb_1 (List.mem_of_getElem? (i := 54) rfl)) rfl
theorem gw_121 : Cond.instanceMethod ⟨"HedgeCommittee$Hedges", "<init>", "()V"⟩ ∈ gw := gw_t (tb_1 (List.mem_of_getElem? (i := 55) rfl)) rfl
theorem gw_122 : Cond.code ⟨"HedgeCommittee$Hedges", "<init>", "()V"⟩ prog_4_method_1_code 1 none ∈ gw := gw_t (tb_1 (List.mem_of_getElem? (i := 56) rfl)) rfl
theorem gw_123 : Cond.methodLink "HedgeCommittee$Hedges" 3 ⟨"java/lang/Object", "<init>", "()V"⟩ ∈ gw := gw_t (tb_1 (List.mem_of_getElem? (i := 57) rfl)) rfl
theorem gw_124 : Cond.fieldLink "HedgeCommittee$Hedges" 9 "HedgeCommittee$Hedges" "leaves" "[I" ∈ gw := gw_t (tb_1 (List.mem_of_getElem? (i := 58) rfl)) rfl
theorem gw_126 : Cond.fieldLink "HedgeCommittee$Hedges" 15 "HedgeCommittee$Hedges" "thorns" "[I" ∈ gw := gw_t (tb_1 (List.mem_of_getElem? (i := 60) rfl)) rfl
theorem gw_128 : Cond.fieldLink "HedgeCommittee$Hedges" 18 "HedgeCommittee$Hedges" "tastes" "[I" ∈ gw := gw_t (tb_1 (List.mem_of_getElem? (i := 62) rfl)) rfl
theorem gw_129 : Cond.fieldLink "HedgeCommittee$Hedges" 21 "HedgeCommittee$Hedges" "count" "I" ∈ gw := gw_t (tb_1 (List.mem_of_getElem? (i := 63) rfl)) rfl
theorem gw_132 : Cond.laysFinal "HedgeCommittee$Hedges" "HedgeCommittee$Hedges" "leaves" "[I" ∈ gw := gw_t (tb_1 (List.mem_of_getElem? (i := 66) rfl)) rfl
theorem gw_134 : Cond.laysFinal "HedgeCommittee$Hedges" "HedgeCommittee$Hedges" "thorns" "[I" ∈ gw := gw_t (tb_1 (List.mem_of_getElem? (i := 68) rfl)) rfl
theorem gw_136 : Cond.laysFinal "HedgeCommittee$Hedges" "HedgeCommittee$Hedges" "tastes" "[I" ∈ gw := gw_t (tb_1 (List.mem_of_getElem? (i := 70) rfl)) rfl
theorem gw_138 : Cond.lays "HedgeCommittee$Hedges" "HedgeCommittee$Hedges" "count" "I" ∈ gw := gw_t (tb_1 (List.mem_of_getElem? (i := 72) rfl)) rfl
theorem gw_140 : Cond.superclass "HedgeCommittee$Hedges" "java/lang/Object" ∈ gw := gw_t (tb_1 (List.mem_of_getElem? (i := 74) rfl)) rfl
theorem gw_141 : Cond.arrayClass .int ∈ gw := gw_t (tb_1 (List.mem_of_getElem? (i := 75) rfl)) (by decide +kernel)
theorem gw_142 : Cond.classLink "HedgeCommittee$State" 18 "HedgeCommittee$Motions" ∈ gw := gw_t (tb_1 (List.mem_of_getElem? (i := 76) rfl)) rfl
theorem gw_143 : Cond.instantiable "HedgeCommittee$Motions" 6 ∈ gw := gw_t (tb_1 (List.mem_of_getElem? (i := 77) rfl)) rfl
theorem gw_144 : Cond.methodLink "HedgeCommittee$State" 20 ⟨"HedgeCommittee$Motions", "<init>", "()V"⟩ ∈ gw := gw_t (tb_1 (List.mem_of_getElem? (i := 78) rfl)) rfl
theorem gw_145 : Cond.instanceMethod ⟨"HedgeCommittee$Motions", "<init>", "()V"⟩ ∈ gw := gw_t (tb_1 (List.mem_of_getElem? (i := 79) rfl)) rfl
theorem gw_146 : Cond.code ⟨"HedgeCommittee$Motions", "<init>", "()V"⟩ prog_7_method_1_code 1 none ∈ gw := gw_t (tb_1 (List.mem_of_getElem? (i := 80) rfl)) rfl
theorem gw_147 : Cond.methodLink "HedgeCommittee$Motions" 3 ⟨"java/lang/Object", "<init>", "()V"⟩ ∈ gw := gw_t (tb_1 (List.mem_of_getElem? (i := 81) rfl)) rfl
theorem gw_148 : Cond.fieldLink "HedgeCommittee$Motions" 9 "HedgeCommittee$Motions" "ids" "[I" ∈ gw := gw_t (tb_1 (List.mem_of_getElem? (i := 82) rfl)) rfl
theorem gw_150 : Cond.fieldLink "HedgeCommittee$Motions" 15 "HedgeCommittee$Motions" "tones" "[I" ∈ gw := gw_t (tb_1 (List.mem_of_getElem? (i := 84) rfl)) rfl
theorem gw_153 : Cond.fieldLink "HedgeCommittee$Motions" 18 "HedgeCommittee$Motions" "weights" "[I" ∈ gw := gw_t (tb_1 (List.mem_of_getElem? (i := 87) rfl)) rfl
theorem gw_157 : Cond.fieldLink "HedgeCommittee$Motions" 21 "HedgeCommittee$Motions" "parents" "[I" ∈ gw := gw_t (tb_1 (List.mem_of_getElem? (i := 91) rfl)) rfl
theorem gw_161 : Cond.fieldLink "HedgeCommittee$Motions" 24 "HedgeCommittee$Motions" "count" "I" ∈ gw := gw_t (tb_1 (List.mem_of_getElem? (i := 95) rfl)) rfl
theorem gw_165 : Cond.fieldLink "HedgeCommittee$Motions" 28 "HedgeCommittee$Motions" "nextId" "I" ∈ gw := gw_t (tb_1 (List.mem_of_getElem? (i := 99) rfl)) rfl
theorem gw_166 : Cond.laysFinal "HedgeCommittee$Motions" "HedgeCommittee$Motions" "ids" "[I" ∈ gw := gw_t (tb_1 (List.mem_of_getElem? (i := 100) rfl)) rfl
theorem gw_168 : Cond.laysFinal "HedgeCommittee$Motions" "HedgeCommittee$Motions" "tones" "[I" ∈ gw := gw_t (tb_1 (List.mem_of_getElem? (i := 102) rfl)) rfl
theorem gw_170 : Cond.laysFinal "HedgeCommittee$Motions" "HedgeCommittee$Motions" "weights" "[I" ∈ gw := gw_t (tb_1 (List.mem_of_getElem? (i := 104) rfl)) rfl
theorem gw_172 : Cond.laysFinal "HedgeCommittee$Motions" "HedgeCommittee$Motions" "parents" "[I" ∈ gw := gw_t (tb_1 (List.mem_of_getElem? (i := 106) rfl)) rfl
theorem gw_174 : Cond.lays "HedgeCommittee$Motions" "HedgeCommittee$Motions" "count" "I" ∈ gw := gw_t (tb_1 (List.mem_of_getElem? (i := 108) rfl)) rfl
theorem gw_176 : Cond.lays "HedgeCommittee$Motions" "HedgeCommittee$Motions" "nextId" "I" ∈ gw := gw_t (tb_1 (List.mem_of_getElem? (i := 110) rfl)) rfl
theorem gw_178 : Cond.superclass "HedgeCommittee$Motions" "java/lang/Object" ∈ gw := gw_t (tb_1 (List.mem_of_getElem? (i := 112) rfl)) rfl
theorem gw_179 : Cond.fieldLink "HedgeCommittee$State" 12 "HedgeCommittee$State" "hedges" "LHedgeCommittee$Hedges;" ∈ gw := gw_t (tb_1 (List.mem_of_getElem? (i := 113) rfl)) rfl
theorem gw_181 : Cond.fieldLink "HedgeCommittee$State" 21 "HedgeCommittee$State" "motions" "LHedgeCommittee$Motions;" ∈ gw := gw_t (tb_1 (List.mem_of_getElem? (i := 115) rfl)) rfl
theorem gw_183 : Cond.fieldLink "HedgeCommittee$State" 25 "HedgeCommittee$State" "minutes" "[I" ∈ gw := gw_t (tb_1 (List.mem_of_getElem? (i := 117) rfl)) rfl
theorem gw_185 : Cond.fieldLink "HedgeCommittee$State" 29 "HedgeCommittee$State" "season" "I" ∈ gw := gw_t (tb_1 (List.mem_of_getElem? (i := 119) rfl)) rfl
theorem gw_187 : Cond.fieldLink "HedgeCommittee$State" 46 "HedgeCommittee$State" "votes" "I" ∈ gw := gw_t (tb_1 (List.mem_of_getElem? (i := 121) rfl)) rfl
theorem gw_189 : Cond.fieldLink "HedgeCommittee$State" 49 "HedgeCommittee$State" "carriedVotes" "I" ∈ gw := gw_t (tb_1 (List.mem_of_getElem? (i := 123) rfl)) rfl
theorem gw_191 : Cond.fieldLink "HedgeCommittee$State" 52 "HedgeCommittee$State" "begun" "I" ∈ gw := gw_t (tb_1 (List.mem_of_getElem? (i := 125) rfl)) rfl
theorem gw_192 : Cond.fieldLink "HedgeCommittee$State" 55 "HedgeCommittee$State" "pruned" "I" ∈ gw := gw_t (tb_1 (List.mem_of_getElem? (i := 126) rfl)) rfl
theorem gw_193 : Cond.fieldLink "HedgeCommittee$State" 58 "HedgeCommittee$State" "rejected" "I" ∈ gw := gw_t (tb_1 (List.mem_of_getElem? (i := 127) rfl)) rfl
theorem gw_194 : Cond.fieldLink "HedgeCommittee$State" 61 "HedgeCommittee$State" "vetoed" "I" ∈ gw := gw_t (tb_1 (List.mem_of_getElem? (i := 128) rfl)) rfl
theorem gw_195 : Cond.fieldLink "HedgeCommittee$State" 64 "HedgeCommittee$State" "adopted" "I" ∈ gw := gw_t (tb_1 (List.mem_of_getElem? (i := 129) rfl)) rfl
theorem gw_197 : Cond.laysFinal "HedgeCommittee$State" "HedgeCommittee$State" "hedges" "LHedgeCommittee$Hedges;" ∈ gw := gw_t (tb_1 (List.mem_of_getElem? (i := 131) rfl)) rfl
theorem gw_199 : Cond.laysFinal "HedgeCommittee$State" "HedgeCommittee$State" "motions" "LHedgeCommittee$Motions;" ∈ gw := gw_t (tb_1 (List.mem_of_getElem? (i := 133) rfl)) rfl
theorem gw_201 : Cond.laysFinal "HedgeCommittee$State" "HedgeCommittee$State" "minutes" "[I" ∈ gw := gw_t (tb_1 (List.mem_of_getElem? (i := 135) rfl)) rfl
theorem gw_203 : Cond.lays "HedgeCommittee$State" "HedgeCommittee$State" "season" "I" ∈ gw := gw_t (tb_1 (List.mem_of_getElem? (i := 137) rfl)) rfl
theorem gw_205 : Cond.lays "HedgeCommittee$State" "HedgeCommittee$State" "votes" "I" ∈ gw := gw_t (tb_1 (List.mem_of_getElem? (i := 139) rfl)) rfl
theorem gw_207 : Cond.lays "HedgeCommittee$State" "HedgeCommittee$State" "carriedVotes" "I" ∈ gw := gw_t (tb_1 (List.mem_of_getElem? (i := 141) rfl)) rfl
theorem gw_209 : Cond.lays "HedgeCommittee$State" "HedgeCommittee$State" "begun" "I" ∈ gw := gw_t (tb_1 (List.mem_of_getElem? (i := 143) rfl)) rfl
theorem gw_211 : Cond.lays "HedgeCommittee$State" "HedgeCommittee$State" "pruned" "I" ∈ gw := gw_t (tb_1 (List.mem_of_getElem? (i := 145) rfl)) rfl
theorem gw_213 : Cond.lays "HedgeCommittee$State" "HedgeCommittee$State" "rejected" "I" ∈ gw := gw_t (tb_1 (List.mem_of_getElem? (i := 147) rfl)) rfl
theorem gw_215 : Cond.lays "HedgeCommittee$State" "HedgeCommittee$State" "vetoed" "I" ∈ gw := gw_t (tb_1 (List.mem_of_getElem? (i := 149) rfl)) rfl
theorem gw_217 : Cond.lays "HedgeCommittee$State" "HedgeCommittee$State" "adopted" "I" ∈ gw := gw_t (tb_1 (List.mem_of_getElem? (i := 151) rfl)) rfl
theorem gw_219 : Cond.superclass "HedgeCommittee$State" "java/lang/Object" ∈ gw := gw_t (tb_1 (List.mem_of_getElem? (i := 153) rfl)) rfl
theorem gw_220 : Cond.classLink "HedgeCommittee" 19 "HedgeCommittee$History" ∈ gw := gw_t (tb_1 (List.mem_of_getElem? (i := 154) rfl)) rfl
theorem gw_221 : Cond.instantiable "HedgeCommittee$History" 2 ∈ gw := gw_t (tb_1 (List.mem_of_getElem? (i := 155) rfl)) rfl
theorem gw_222 : Cond.methodLink "HedgeCommittee" 21 ⟨"HedgeCommittee$History", "<init>", "()V"⟩ ∈ gw := gw_t (tb_1 (List.mem_of_getElem? (i := 156) rfl)) rfl
theorem gw_223 : Cond.instanceMethod ⟨"HedgeCommittee$History", "<init>", "()V"⟩ ∈ gw := gw_t (tb_1 (List.mem_of_getElem? (i := 157) rfl)) rfl
theorem gw_224 : Cond.code ⟨"HedgeCommittee$History", "<init>", "()V"⟩ prog_5_method_1_code 2 none ∈ gw := gw_t (tb_1 (List.mem_of_getElem? (i := 158) rfl)) rfl
theorem gw_225 : Cond.methodLink "HedgeCommittee$History" 3 ⟨"java/lang/Object", "<init>", "()V"⟩ ∈ gw := gw_t (tb_1 (List.mem_of_getElem? (i := 159) rfl)) rfl
theorem gw_226 : Cond.classLink "HedgeCommittee$History" 9 "HedgeCommittee$State" ∈ gw := gw_t (tb_1 (List.mem_of_getElem? (i := 160) rfl)) rfl
theorem gw_228 : Cond.methodLink "HedgeCommittee$History" 17 ⟨"HedgeCommittee$State", "<init>", "()V"⟩ ∈ gw := gw_t (tb_1 (List.mem_of_getElem? (i := 162) rfl)) rfl
theorem gw_229 : Cond.fieldLink "HedgeCommittee$History" 11 "HedgeCommittee$History" "states" "[LHedgeCommittee$State;" ∈ gw := gw_t (tb_1 (List.mem_of_getElem? (i := 163) rfl)) rfl
theorem gw_230 : Cond.fieldLink "HedgeCommittee$History" 18 "HedgeCommittee$History" "count" "I" ∈ gw := gw_t (tb_1 (List.mem_of_getElem? (i := 164) rfl)) rfl
theorem gw_232 : Cond.laysFinal "HedgeCommittee$History" "HedgeCommittee$History" "states" "[LHedgeCommittee$State;" ∈ gw := gw_t (tb_1 (List.mem_of_getElem? (i := 166) rfl)) rfl
theorem gw_234 : Cond.lays "HedgeCommittee$History" "HedgeCommittee$History" "count" "I" ∈ gw := gw_t (tb_1 (List.mem_of_getElem? (i := 168) rfl)) rfl
theorem gw_236 : Cond.superclass "HedgeCommittee$History" "java/lang/Object" ∈ gw := gw_t (tb_1 (List.mem_of_getElem? (i := 170) rfl)) rfl
theorem gw_237 : Cond.classLink "HedgeCommittee" 26 "HedgeCommittee$Trees" ∈ gw := gw_t (tb_1 (List.mem_of_getElem? (i := 171) rfl)) rfl
theorem gw_238 : Cond.instantiable "HedgeCommittee$Trees" 6 ∈ gw := gw_t (tb_1 (List.mem_of_getElem? (i := 172) rfl)) rfl
theorem gw_239 : Cond.methodLink "HedgeCommittee" 28 ⟨"HedgeCommittee$Trees", "<init>", "()V"⟩ ∈ gw := gw_t (tb_1 (List.mem_of_getElem? (i := 173) rfl)) rfl
theorem gw_240 : Cond.instanceMethod ⟨"HedgeCommittee$Trees", "<init>", "()V"⟩ ∈ gw := gw_t (tb_1 (List.mem_of_getElem? (i := 174) rfl)) rfl
theorem gw_241 : Cond.code ⟨"HedgeCommittee$Trees", "<init>", "()V"⟩ prog_10_method_1_code 1 none ∈ gw := gw_t (tb_1 (List.mem_of_getElem? (i := 175) rfl)) rfl
theorem gw_242 : Cond.methodLink "HedgeCommittee$Trees" 3 ⟨"java/lang/Object", "<init>", "()V"⟩ ∈ gw := gw_t (tb_1 (List.mem_of_getElem? (i := 176) rfl)) rfl
theorem gw_243 : Cond.fieldLink "HedgeCommittee$Trees" 9 "HedgeCommittee$Trees" "rowOfOne" "[I" ∈ gw := gw_t (tb_1 (List.mem_of_getElem? (i := 177) rfl)) rfl
theorem gw_244 : Cond.fieldLink "HedgeCommittee$Trees" 15 "HedgeCommittee$Trees" "rowOfOther" "[I" ∈ gw := gw_t (tb_1 (List.mem_of_getElem? (i := 178) rfl)) rfl
theorem gw_245 : Cond.fieldLink "HedgeCommittee$Trees" 18 "HedgeCommittee$Trees" "heights" "[I" ∈ gw := gw_t (tb_1 (List.mem_of_getElem? (i := 179) rfl)) rfl
theorem gw_246 : Cond.fieldLink "HedgeCommittee$Trees" 21 "HedgeCommittee$Trees" "distances" "[I" ∈ gw := gw_t (tb_1 (List.mem_of_getElem? (i := 180) rfl)) rfl
theorem gw_247 : Cond.fieldLink "HedgeCommittee$Trees" 24 "HedgeCommittee$Trees" "with" "[J" ∈ gw := gw_t (tb_1 (List.mem_of_getElem? (i := 181) rfl)) rfl
theorem gw_248 : Cond.fieldLink "HedgeCommittee$Trees" 28 "HedgeCommittee$Trees" "without" "[J" ∈ gw := gw_t (tb_1 (List.mem_of_getElem? (i := 182) rfl)) rfl
theorem gw_249 : Cond.laysFinal "HedgeCommittee$Trees" "HedgeCommittee$Trees" "rowOfOne" "[I" ∈ gw := gw_t (tb_1 (List.mem_of_getElem? (i := 183) rfl)) rfl
theorem gw_251 : Cond.laysFinal "HedgeCommittee$Trees" "HedgeCommittee$Trees" "rowOfOther" "[I" ∈ gw := gw_t (tb_1 (List.mem_of_getElem? (i := 185) rfl)) rfl
theorem gw_253 : Cond.laysFinal "HedgeCommittee$Trees" "HedgeCommittee$Trees" "heights" "[I" ∈ gw := gw_t (tb_1 (List.mem_of_getElem? (i := 187) rfl)) rfl
theorem gw_255 : Cond.laysFinal "HedgeCommittee$Trees" "HedgeCommittee$Trees" "distances" "[I" ∈ gw := gw_t (tb_1 (List.mem_of_getElem? (i := 189) rfl)) rfl
theorem gw_257 : Cond.laysFinal "HedgeCommittee$Trees" "HedgeCommittee$Trees" "with" "[J" ∈ gw := gw_t (tb_1 (List.mem_of_getElem? (i := 191) rfl)) rfl
theorem gw_259 : Cond.laysFinal "HedgeCommittee$Trees" "HedgeCommittee$Trees" "without" "[J" ∈ gw := gw_t (tb_1 (List.mem_of_getElem? (i := 193) rfl)) rfl
theorem gw_261 : Cond.superclass "HedgeCommittee$Trees" "java/lang/Object" ∈ gw := gw_t (tb_1 (List.mem_of_getElem? (i := 195) rfl)) rfl
theorem gw_262 : Cond.arrayClass .long ∈ gw := gw_t (tb_1 (List.mem_of_getElem? (i := 196) rfl)) (by decide +kernel)
theorem gw_263 : Cond.classLink "HedgeCommittee" 33 "HedgeCommittee$Program" ∈ gw := gw_t (tb_1 (List.mem_of_getElem? (i := 197) rfl)) rfl
theorem gw_264 : Cond.instantiable "HedgeCommittee$Program" 5 ∈ gw := gw_t (tb_1 (List.mem_of_getElem? (i := 198) rfl)) rfl
theorem gw_265 : Cond.methodLink "HedgeCommittee" 35 ⟨"HedgeCommittee$Program", "<init>", "()V"⟩ ∈ gw := gw_t (tb_1 (List.mem_of_getElem? (i := 199) rfl)) rfl
theorem gw_266 : Cond.instanceMethod ⟨"HedgeCommittee$Program", "<init>", "()V"⟩ ∈ gw := gw_t (tb_1 (List.mem_of_getElem? (i := 200) rfl)) rfl
theorem gw_267 : Cond.code ⟨"HedgeCommittee$Program", "<init>", "()V"⟩ prog_8_method_1_code 1 none ∈ gw := gw_t (tb_1 (List.mem_of_getElem? (i := 201) rfl)) rfl
theorem gw_268 : Cond.methodLink "HedgeCommittee$Program" 3 ⟨"java/lang/Object", "<init>", "()V"⟩ ∈ gw := gw_t (tb_1 (List.mem_of_getElem? (i := 202) rfl)) rfl
theorem gw_269 : Cond.classLink "HedgeCommittee$Program" 19 "java/util/ArrayList" ∈ gw := gw_t (tb_1 (List.mem_of_getElem? (i := 203) rfl)) rfl
theorem gw_270 : Cond.instantiable "java/util/ArrayList" 3 ∈ gw := gw_t (tb_1 (List.mem_of_getElem? (i := 204) rfl)) rfl
theorem gw_271 : Cond.methodLink "HedgeCommittee$Program" 21 ⟨"java/util/ArrayList", "<init>", "()V"⟩ ∈ gw := gw_t (tb_1 (List.mem_of_getElem? (i := 205) rfl)) rfl
theorem gw_272 : Cond.instanceMethod ⟨"java/util/ArrayList", "<init>", "()V"⟩ ∈ gw := gw_t (tb_1 (List.mem_of_getElem? (i := 206) rfl)) rfl
theorem gw_273 : Cond.code ⟨"java/util/ArrayList", "<init>", "()V"⟩ prog_43_method_2_code 1 none ∈ gw := gw_t (tb_1 (List.mem_of_getElem? (i := 207) rfl)) rfl
theorem gw_274 : Cond.methodLink "java/util/ArrayList" 1 ⟨"java/util/AbstractList", "<init>", "()V"⟩ ∈ gw := gw_t (tb_1 (List.mem_of_getElem? (i := 208) rfl)) rfl
theorem gw_275 : Cond.instanceMethod ⟨"java/util/AbstractList", "<init>", "()V"⟩ ∈ gw := gw_t (tb_1 (List.mem_of_getElem? (i := 209) rfl)) rfl
theorem gw_276 : Cond.code ⟨"java/util/AbstractList", "<init>", "()V"⟩ prog_42_method_1_code 1 none ∈ gw := gw_t (tb_1 (List.mem_of_getElem? (i := 210) rfl)) rfl
theorem gw_277 : Cond.methodLink "java/util/AbstractList" 1 ⟨"java/util/AbstractCollection", "<init>", "()V"⟩ ∈ gw := gw_t (tb_1 (List.mem_of_getElem? (i := 211) rfl)) rfl
theorem gw_278 : Cond.instanceMethod ⟨"java/util/AbstractCollection", "<init>", "()V"⟩ ∈ gw := gw_t (tb_1 (List.mem_of_getElem? (i := 212) rfl)) rfl
theorem gw_279 : Cond.code ⟨"java/util/AbstractCollection", "<init>", "()V"⟩ prog_41_method_1_code 1 none ∈ gw := gw_t (tb_1 (List.mem_of_getElem? (i := 213) rfl)) rfl
theorem gw_280 : Cond.methodLink "java/util/AbstractCollection" 1 ⟨"java/lang/Object", "<init>", "()V"⟩ ∈ gw := gw_t (tb_1 (List.mem_of_getElem? (i := 214) rfl)) rfl
theorem gw_281 : Cond.fieldLink "java/util/ArrayList" 39 "java/util/ArrayList" "DEFAULTCAPACITY_EMPTY_ELEMENTDATA" "[Ljava/lang/Object;" ∈ gw := gw_t (tb_1 (List.mem_of_getElem? (i := 215) rfl)) rfl
theorem gw_283 : Cond.fieldLink "java/util/ArrayList" 9 "java/util/ArrayList" "elementData" "[Ljava/lang/Object;" ∈ gw := gw_t (tb_1 (List.mem_of_getElem? (i := 217) rfl)) rfl
theorem gw_284 : Cond.fieldLink "java/util/ArrayList" 48 "java/util/ArrayList" "size" "I" ∈ gw := gw_t (tb_1 (List.mem_of_getElem? (i := 218) rfl)) rfl
theorem gw_285 : Cond.fieldLink "java/util/AbstractList" 7 "java/util/AbstractList" "modCount" "I" ∈ gw := gw_t (tb_1 (List.mem_of_getElem? (i := 219) rfl)) rfl
theorem gw_286 : Cond.fieldLink "java/util/ArrayList" 63 "java/util/ArrayList" "modCount" "I" ∈ gw := gw_t (tb_1 (List.mem_of_getElem? (i := 220) rfl)) rfl
theorem gw_288 : Cond.lays "java/util/ArrayList" "java/util/ArrayList" "elementData" "[Ljava/lang/Object;" ∈ gw := gw_t (tb_1 (List.mem_of_getElem? (i := 222) rfl)) rfl
theorem gw_290 : Cond.lays "java/util/ArrayList" "java/util/ArrayList" "size" "I" ∈ gw := gw_t (tb_1 (List.mem_of_getElem? (i := 224) rfl)) rfl
theorem gw_292 : Cond.lays "java/util/ArrayList" "java/util/AbstractList" "modCount" "I" ∈ gw := gw_t (tb_1 (List.mem_of_getElem? (i := 226) rfl)) rfl
theorem gw_294 : Cond.superclass "java/util/ArrayList" "java/util/AbstractList" ∈ gw := gw_t (tb_1 (List.mem_of_getElem? (i := 228) rfl)) rfl
theorem gw_295 : Cond.arrayClass .char ∈ gw := gw_t (tb_1 (List.mem_of_getElem? (i := 229) rfl)) (by decide +kernel)
theorem gw_296 : Cond.fieldLink "HedgeCommittee$Program" 9 "HedgeCommittee$Program" "text" "[C" ∈ gw := gw_t (tb_1 (List.mem_of_getElem? (i := 230) rfl)) rfl
theorem gw_297 : Cond.fieldLink "HedgeCommittee$Program" 15 "HedgeCommittee$Program" "arguments" "[I" ∈ gw := gw_t (tb_1 (List.mem_of_getElem? (i := 231) rfl)) rfl
theorem gw_298 : Cond.fieldLink "HedgeCommittee$Program" 22 "HedgeCommittee$Program" "commands" "Ljava/util/ArrayList;" ∈ gw := gw_t (tb_1 (List.mem_of_getElem? (i := 232) rfl)) rfl
theorem gw_300 : Cond.fieldLink "HedgeCommittee$Program" 26 "HedgeCommittee$Program" "length" "I" ∈ gw := gw_t (tb_1 (List.mem_of_getElem? (i := 234) rfl)) rfl
theorem gw_301 : Cond.fieldLink "HedgeCommittee$Program" 30 "HedgeCommittee$Program" "at" "I" ∈ gw := gw_t (tb_1 (List.mem_of_getElem? (i := 235) rfl)) rfl
theorem gw_302 : Cond.laysFinal "HedgeCommittee$Program" "HedgeCommittee$Program" "text" "[C" ∈ gw := gw_t (tb_1 (List.mem_of_getElem? (i := 236) rfl)) rfl
theorem gw_304 : Cond.laysFinal "HedgeCommittee$Program" "HedgeCommittee$Program" "arguments" "[I" ∈ gw := gw_t (tb_1 (List.mem_of_getElem? (i := 238) rfl)) rfl
theorem gw_306 : Cond.laysFinal "HedgeCommittee$Program" "HedgeCommittee$Program" "commands" "Ljava/util/ArrayList;" ∈ gw := gw_t (tb_2 (List.mem_of_getElem? (i := 0) rfl)) rfl
theorem gw_308 : Cond.lays "HedgeCommittee$Program" "HedgeCommittee$Program" "length" "I" ∈ gw := gw_t (tb_2 (List.mem_of_getElem? (i := 2) rfl)) rfl
theorem gw_310 : Cond.lays "HedgeCommittee$Program" "HedgeCommittee$Program" "at" "I" ∈ gw := gw_t (tb_2 (List.mem_of_getElem? (i := 4) rfl)) rfl
theorem gw_312 : Cond.superclass "HedgeCommittee$Program" "java/lang/Object" ∈ gw := gw_t (tb_2 (List.mem_of_getElem? (i := 6) rfl)) rfl
theorem gw_313 : Cond.classLink "HedgeCommittee" 40 "java/lang/StringBuilder" ∈ gw := gw_t (tb_2 (List.mem_of_getElem? (i := 7) rfl)) rfl
theorem gw_314 : Cond.instantiable "java/lang/StringBuilder" 4 ∈ gw := gw_t (tb_2 (List.mem_of_getElem? (i := 8) rfl)) rfl
theorem gw_315 : Cond.methodLink "HedgeCommittee" 42 ⟨"java/lang/StringBuilder", "<init>", "()V"⟩ ∈ gw := gw_t (tb_2 (List.mem_of_getElem? (i := 9) rfl)) rfl
theorem gw_316 : Cond.instanceMethod ⟨"java/lang/StringBuilder", "<init>", "()V"⟩ ∈ gw := gw_t (tb_2 (List.mem_of_getElem? (i := 10) rfl)) rfl
theorem gw_317 : Cond.code ⟨"java/lang/StringBuilder", "<init>", "()V"⟩ prog_32_method_1_code 1 none ∈ gw := gw_t (tb_2 (List.mem_of_getElem? (i := 11) rfl)) rfl
theorem gw_318 : Cond.methodLink "java/lang/StringBuilder" 1 ⟨"java/lang/AbstractStringBuilder", "<init>", "(I)V"⟩ ∈ gw := gw_t (tb_2 (List.mem_of_getElem? (i := 12) rfl)) rfl
theorem gw_319 : Cond.instanceMethod ⟨"java/lang/AbstractStringBuilder", "<init>", "(I)V"⟩ ∈ gw := gw_t (tb_2 (List.mem_of_getElem? (i := 13) rfl)) rfl
theorem gw_320 : Cond.code ⟨"java/lang/AbstractStringBuilder", "<init>", "(I)V"⟩ prog_14_method_2_code 2 none ∈ gw := gw_t (tb_2 (List.mem_of_getElem? (i := 14) rfl)) rfl
theorem gw_321 : Cond.methodLink "java/lang/AbstractStringBuilder" 3 ⟨"java/lang/Object", "<init>", "()V"⟩ ∈ gw := gw_t (tb_2 (List.mem_of_getElem? (i := 15) rfl)) rfl
theorem gw_322 : Cond.fieldLink "java/lang/AbstractStringBuilder" 18 "java/lang/String" "COMPACT_STRINGS" "Z" ∈ gw := gw_t (tb_2 (List.mem_of_getElem? (i := 16) rfl)) rfl
theorem gw_324 : Cond.methodLink "java/lang/AbstractStringBuilder" 26 ⟨"java/lang/StringUTF16", "newBytesFor", "(I)[B"⟩ ∈ gw := gw_t (tb_2 (List.mem_of_getElem? (i := 18) rfl)) rfl
theorem gw_325 : Cond.static ⟨"java/lang/StringUTF16", "newBytesFor", "(I)[B"⟩ ∈ gw := gw_t (tb_2 (List.mem_of_getElem? (i := 19) rfl)) rfl
theorem gw_326 : Cond.code ⟨"java/lang/StringUTF16", "newBytesFor", "(I)[B"⟩ prog_35_method_2_code 1 (some (.array .byte)) ∈ gw := gw_t (tb_2 (List.mem_of_getElem? (i := 20) rfl)) rfl
theorem gw_327 : Cond.methodLink "java/lang/StringUTF16" 11 ⟨"java/lang/StringUTF16", "newBytesLength", "(I)I"⟩ ∈ gw := gw_t (tb_2 (List.mem_of_getElem? (i := 21) rfl)) rfl
theorem gw_328 : Cond.static ⟨"java/lang/StringUTF16", "newBytesLength", "(I)I"⟩ ∈ gw := gw_t (tb_2 (List.mem_of_getElem? (i := 22) rfl)) rfl
theorem gw_329 : Cond.code ⟨"java/lang/StringUTF16", "newBytesLength", "(I)I"⟩ prog_35_method_3_code 1 (some .int) ∈ gw := gw_t (tb_2 (List.mem_of_getElem? (i := 23) rfl)) rfl
theorem gw_330 : Cond.constant "java/lang/StringUTF16" 20 (1073741823 : Int32) ∈ gw := gw_t (tb_2 (List.mem_of_getElem? (i := 24) rfl)) (by decide +kernel)
theorem gw_331 : Cond.fieldLink "java/lang/AbstractStringBuilder" 15 "java/lang/AbstractStringBuilder" "value" "[B" ∈ gw := gw_t (tb_2 (List.mem_of_getElem? (i := 25) rfl)) rfl
theorem gw_332 : Cond.fieldLink "java/lang/AbstractStringBuilder" 22 "java/lang/AbstractStringBuilder" "coder" "B" ∈ gw := gw_t (tb_2 (List.mem_of_getElem? (i := 26) rfl)) rfl
theorem gw_333 : Cond.fieldLink "java/lang/AbstractStringBuilder" 73 "java/lang/AbstractStringBuilder" "maybeLatin1" "Z" ∈ gw := gw_t (tb_2 (List.mem_of_getElem? (i := 27) rfl)) rfl
theorem gw_334 : Cond.fieldLink "java/lang/String" 1048 "java/lang/AbstractStringBuilder" "maybeLatin1" "Z" ∈ gw := gw_t (tb_2 (List.mem_of_getElem? (i := 28) rfl)) rfl
theorem gw_335 : Cond.fieldLink "java/lang/AbstractStringBuilder" 79 "java/lang/AbstractStringBuilder" "count" "I" ∈ gw := gw_t (tb_2 (List.mem_of_getElem? (i := 29) rfl)) rfl
theorem gw_336 : Cond.lays "java/lang/StringBuilder" "java/lang/AbstractStringBuilder" "value" "[B" ∈ gw := gw_t (tb_2 (List.mem_of_getElem? (i := 30) rfl)) rfl
theorem gw_338 : Cond.lays "java/lang/StringBuilder" "java/lang/AbstractStringBuilder" "coder" "B" ∈ gw := gw_t (tb_2 (List.mem_of_getElem? (i := 32) rfl)) rfl
theorem gw_340 : Cond.lays "java/lang/StringBuilder" "java/lang/AbstractStringBuilder" "maybeLatin1" "Z" ∈ gw := gw_t (tb_2 (List.mem_of_getElem? (i := 34) rfl)) rfl
theorem gw_342 : Cond.lays "java/lang/StringBuilder" "java/lang/AbstractStringBuilder" "count" "I" ∈ gw := gw_t (tb_2 (List.mem_of_getElem? (i := 36) rfl)) rfl
theorem gw_344 : Cond.superclass "java/lang/StringBuilder" "java/lang/AbstractStringBuilder" ∈ gw := gw_t (tb_2 (List.mem_of_getElem? (i := 38) rfl)) rfl
theorem gw_345 : Cond.arrayClass .byte ∈ gw := gw_t (tb_2 (List.mem_of_getElem? (i := 39) rfl)) (by decide +kernel)
theorem gw_346 : Cond.fieldLink "HedgeCommittee" 10 "HedgeCommittee" "state" "LHedgeCommittee$State;" ∈ gw := gw_t (tb_2 (List.mem_of_getElem? (i := 40) rfl)) rfl
theorem gw_347 : Cond.fieldLink "HedgeCommittee" 16 "HedgeCommittee" "saved" "LHedgeCommittee$State;" ∈ gw := gw_t (tb_2 (List.mem_of_getElem? (i := 41) rfl)) rfl
theorem gw_348 : Cond.fieldLink "HedgeCommittee" 22 "HedgeCommittee" "history" "LHedgeCommittee$History;" ∈ gw := gw_t (tb_2 (List.mem_of_getElem? (i := 42) rfl)) rfl
theorem gw_349 : Cond.fieldLink "HedgeCommittee" 29 "HedgeCommittee" "trees" "LHedgeCommittee$Trees;" ∈ gw := gw_t (tb_2 (List.mem_of_getElem? (i := 43) rfl)) rfl
theorem gw_350 : Cond.fieldLink "HedgeCommittee" 36 "HedgeCommittee" "program" "LHedgeCommittee$Program;" ∈ gw := gw_t (tb_2 (List.mem_of_getElem? (i := 44) rfl)) rfl
theorem gw_351 : Cond.fieldLink "HedgeCommittee" 43 "HedgeCommittee" "output" "Ljava/lang/StringBuilder;" ∈ gw := gw_t (tb_2 (List.mem_of_getElem? (i := 45) rfl)) rfl
theorem gw_352 : Cond.fieldLink "HedgeCommittee" 47 "HedgeCommittee" "hasSaved" "Z" ∈ gw := gw_t (tb_2 (List.mem_of_getElem? (i := 46) rfl)) rfl
theorem gw_353 : Cond.fieldLink "HedgeCommittee" 51 "HedgeCommittee" "lastErrorPosition" "I" ∈ gw := gw_t (tb_2 (List.mem_of_getElem? (i := 47) rfl)) rfl
theorem gw_354 : Cond.fieldLink "HedgeCommittee" 55 "HedgeCommittee" "lastFailedCommand" "I" ∈ gw := gw_t (tb_2 (List.mem_of_getElem? (i := 48) rfl)) rfl
theorem gw_355 : Cond.laysFinal "HedgeCommittee" "HedgeCommittee" "state" "LHedgeCommittee$State;" ∈ gw := gw_t (tb_2 (List.mem_of_getElem? (i := 49) rfl)) rfl
theorem gw_357 : Cond.laysFinal "HedgeCommittee" "HedgeCommittee" "saved" "LHedgeCommittee$State;" ∈ gw := gw_t (tb_2 (List.mem_of_getElem? (i := 51) rfl)) rfl
theorem gw_359 : Cond.laysFinal "HedgeCommittee" "HedgeCommittee" "history" "LHedgeCommittee$History;" ∈ gw := gw_t (tb_2 (List.mem_of_getElem? (i := 53) rfl)) rfl
theorem gw_361 : Cond.laysFinal "HedgeCommittee" "HedgeCommittee" "trees" "LHedgeCommittee$Trees;" ∈ gw := gw_t (tb_2 (List.mem_of_getElem? (i := 55) rfl)) rfl
theorem gw_363 : Cond.laysFinal "HedgeCommittee" "HedgeCommittee" "program" "LHedgeCommittee$Program;" ∈ gw := gw_t (tb_2 (List.mem_of_getElem? (i := 57) rfl)) rfl
theorem gw_365 : Cond.laysFinal "HedgeCommittee" "HedgeCommittee" "output" "Ljava/lang/StringBuilder;" ∈ gw := gw_t (tb_2 (List.mem_of_getElem? (i := 59) rfl)) rfl
theorem gw_367 : Cond.lays "HedgeCommittee" "HedgeCommittee" "hasSaved" "Z" ∈ gw := gw_t (tb_2 (List.mem_of_getElem? (i := 61) rfl)) rfl
theorem gw_369 : Cond.lays "HedgeCommittee" "HedgeCommittee" "lastErrorPosition" "I" ∈ gw := gw_t (tb_2 (List.mem_of_getElem? (i := 63) rfl)) rfl
theorem gw_371 : Cond.lays "HedgeCommittee" "HedgeCommittee" "lastFailedCommand" "I" ∈ gw := gw_t (tb_2 (List.mem_of_getElem? (i := 65) rfl)) rfl
theorem gw_373 : Cond.superclass "HedgeCommittee" "java/lang/Object" ∈ gw := gw_t (tb_2 (List.mem_of_getElem? (i := 67) rfl)) rfl
theorem gw_374 : Cond.methodLink "HedgeCommitteeLaw" 169 ⟨"HedgeCommittee", "passSeason", "()I"⟩ ∈ gw := gw_t (tb_2 (List.mem_of_getElem? (i := 68) rfl)) rfl
theorem gw_375 : Cond.instanceMethod ⟨"HedgeCommittee", "passSeason", "()I"⟩ ∈ gw := gw_t (tb_2 (List.mem_of_getElem? (i := 69) rfl)) rfl
theorem gw_376 : Cond.selects "HedgeCommittee" ⟨"HedgeCommittee", "passSeason", "()I"⟩ ⟨"HedgeCommittee", "passSeason", "()I"⟩ ∈ gw := gw_t (tb_2 (List.mem_of_getElem? (i := 70) rfl)) rfl
theorem gw_377 : Cond.code ⟨"HedgeCommittee", "passSeason", "()I"⟩ prog_1_method_8_code 1 (some .int) ∈ gw := gw_t (tb_2 (List.mem_of_getElem? (i := 71) rfl)) rfl
theorem gw_378 : Cond.methodLink "HedgeCommittee" 58 ⟨"HedgeCommittee$History", "note", "(LHedgeCommittee$State;)V"⟩ ∈ gw := gw_t (tb_2 (List.mem_of_getElem? (i := 72) rfl)) rfl
theorem gw_379 : Cond.instanceMethod ⟨"HedgeCommittee$History", "note", "(LHedgeCommittee$State;)V"⟩ ∈ gw := gw_t (tb_2 (List.mem_of_getElem? (i := 73) rfl)) rfl
theorem gw_380 : Cond.selects "HedgeCommittee$History" ⟨"HedgeCommittee$History", "note", "(LHedgeCommittee$State;)V"⟩ ⟨"HedgeCommittee$History", "note", "(LHedgeCommittee$State;)V"⟩ ∈ gw := gw_t (tb_2 (List.mem_of_getElem? (i := 74) rfl)) rfl
theorem gw_381 : Cond.code ⟨"HedgeCommittee$History", "note", "(LHedgeCommittee$State;)V"⟩ prog_5_method_2_code 2 none ∈ gw := gw_t (tb_2 (List.mem_of_getElem? (i := 75) rfl)) rfl
theorem gw_382 : Cond.methodLink "HedgeCommittee$History" 22 ⟨"HedgeCommittee$State", "copyFrom", "(LHedgeCommittee$State;)V"⟩ ∈ gw := gw_t (tb_2 (List.mem_of_getElem? (i := 76) rfl)) rfl
theorem gw_383 : Cond.instanceMethod ⟨"HedgeCommittee$State", "copyFrom", "(LHedgeCommittee$State;)V"⟩ ∈ gw := gw_t (tb_2 (List.mem_of_getElem? (i := 77) rfl)) rfl
theorem gw_384 : Cond.selects "HedgeCommittee$State" ⟨"HedgeCommittee$State", "copyFrom", "(LHedgeCommittee$State;)V"⟩ ⟨"HedgeCommittee$State", "copyFrom", "(LHedgeCommittee$State;)V"⟩ ∈ gw := gw_t (tb_2 (List.mem_of_getElem? (i := 78) rfl)) rfl
theorem gw_385 : Cond.code ⟨"HedgeCommittee$State", "copyFrom", "(LHedgeCommittee$State;)V"⟩ prog_9_method_2_code 2 none ∈ gw := gw_t (tb_2 (List.mem_of_getElem? (i := 79) rfl)) rfl
theorem gw_386 : Cond.methodLink "HedgeCommittee$State" 33 ⟨"HedgeCommittee$Hedges", "copyFrom", "(LHedgeCommittee$Hedges;)V"⟩ ∈ gw := gw_t (tb_2 (List.mem_of_getElem? (i := 80) rfl)) rfl
theorem gw_387 : Cond.instanceMethod ⟨"HedgeCommittee$Hedges", "copyFrom", "(LHedgeCommittee$Hedges;)V"⟩ ∈ gw := gw_t (tb_2 (List.mem_of_getElem? (i := 81) rfl)) rfl
theorem gw_388 : Cond.selects "HedgeCommittee$Hedges" ⟨"HedgeCommittee$Hedges", "copyFrom", "(LHedgeCommittee$Hedges;)V"⟩ ⟨"HedgeCommittee$Hedges", "copyFrom", "(LHedgeCommittee$Hedges;)V"⟩ ∈ gw := gw_t (tb_2 (List.mem_of_getElem? (i := 82) rfl)) rfl
theorem gw_389 : Cond.code ⟨"HedgeCommittee$Hedges", "copyFrom", "(LHedgeCommittee$Hedges;)V"⟩ prog_4_method_2_code 2 none ∈ gw := gw_t (tb_2 (List.mem_of_getElem? (i := 83) rfl)) rfl
theorem gw_390 : Cond.methodLink "HedgeCommittee$Hedges" 25 ⟨"java/lang/System", "arraycopy", "(Ljava/lang/Object;ILjava/lang/Object;II)V"⟩ ∈ gw := gw_t (tb_2 (List.mem_of_getElem? (i := 84) rfl)) rfl
theorem gw_391 : Cond.static ⟨"java/lang/System", "arraycopy", "(Ljava/lang/Object;ILjava/lang/Object;II)V"⟩ ∈ gw := gw_t (tb_2 (List.mem_of_getElem? (i := 85) rfl)) rfl
theorem gw_392 : Cond.native ⟨"java/lang/System", "arraycopy", "(Ljava/lang/Object;ILjava/lang/Object;II)V"⟩ ∈ gw := gw_t (tb_2 (List.mem_of_getElem? (i := 86) rfl)) (by decide +kernel)
theorem gw_393 : Cond.methodLink "HedgeCommittee$State" 37 ⟨"HedgeCommittee$Motions", "copyFrom", "(LHedgeCommittee$Motions;)V"⟩ ∈ gw := gw_t (tb_2 (List.mem_of_getElem? (i := 87) rfl)) rfl
theorem gw_394 : Cond.instanceMethod ⟨"HedgeCommittee$Motions", "copyFrom", "(LHedgeCommittee$Motions;)V"⟩ ∈ gw := gw_t (tb_2 (List.mem_of_getElem? (i := 88) rfl)) rfl
theorem gw_395 : Cond.selects "HedgeCommittee$Motions" ⟨"HedgeCommittee$Motions", "copyFrom", "(LHedgeCommittee$Motions;)V"⟩ ⟨"HedgeCommittee$Motions", "copyFrom", "(LHedgeCommittee$Motions;)V"⟩ ∈ gw := gw_t (tb_2 (List.mem_of_getElem? (i := 89) rfl)) rfl
theorem gw_396 : Cond.code ⟨"HedgeCommittee$Motions", "copyFrom", "(LHedgeCommittee$Motions;)V"⟩ prog_7_method_2_code 2 none ∈ gw := gw_t (tb_2 (List.mem_of_getElem? (i := 90) rfl)) rfl
theorem gw_397 : Cond.methodLink "HedgeCommittee$Motions" 31 ⟨"java/lang/System", "arraycopy", "(Ljava/lang/Object;ILjava/lang/Object;II)V"⟩ ∈ gw := gw_t (tb_2 (List.mem_of_getElem? (i := 91) rfl)) rfl
theorem gw_398 : Cond.methodLink "HedgeCommittee$State" 40 ⟨"java/lang/System", "arraycopy", "(Ljava/lang/Object;ILjava/lang/Object;II)V"⟩ ∈ gw := gw_t (tb_2 (List.mem_of_getElem? (i := 92) rfl)) rfl
theorem gw_399 : Cond.methodLink "HedgeCommittee" 87 ⟨"HedgeCommittee$State", "beginNextSeason", "()V"⟩ ∈ gw := gw_t (tb_2 (List.mem_of_getElem? (i := 93) rfl)) rfl
theorem gw_400 : Cond.instanceMethod ⟨"HedgeCommittee$State", "beginNextSeason", "()V"⟩ ∈ gw := gw_t (tb_2 (List.mem_of_getElem? (i := 94) rfl)) rfl
theorem gw_401 : Cond.selects "HedgeCommittee$State" ⟨"HedgeCommittee$State", "beginNextSeason", "()V"⟩ ⟨"HedgeCommittee$State", "beginNextSeason", "()V"⟩ ∈ gw := gw_t (tb_2 (List.mem_of_getElem? (i := 95) rfl)) rfl
theorem gw_402 : Cond.code ⟨"HedgeCommittee$State", "beginNextSeason", "()V"⟩ prog_9_method_11_code 1 none ∈ gw := gw_t (tb_2 (List.mem_of_getElem? (i := 96) rfl)) rfl
theorem gw_403 : Cond.methodLink "HedgeCommittee$State" 155 ⟨"HedgeCommittee$Hedges", "meet", "(I)V"⟩ ∈ gw := gw_t (tb_2 (List.mem_of_getElem? (i := 97) rfl)) rfl
theorem gw_404 : Cond.instanceMethod ⟨"HedgeCommittee$Hedges", "meet", "(I)V"⟩ ∈ gw := gw_t (tb_2 (List.mem_of_getElem? (i := 98) rfl)) rfl
theorem gw_405 : Cond.selects "HedgeCommittee$Hedges" ⟨"HedgeCommittee$Hedges", "meet", "(I)V"⟩ ⟨"HedgeCommittee$Hedges", "meet", "(I)V"⟩ ∈ gw := gw_t (tb_2 (List.mem_of_getElem? (i := 99) rfl)) rfl
theorem gw_406 : Cond.code ⟨"HedgeCommittee$Hedges", "meet", "(I)V"⟩ prog_4_method_11_code 4 none ∈ gw := gw_t (tb_2 (List.mem_of_getElem? (i := 100) rfl)) rfl
theorem gw_409 : Cond.methodLink "HedgeCommittee$Hedges" 50 ⟨"java/lang/Math", "min", "(II)I"⟩ ∈ gw := gw_t (tb_2 (List.mem_of_getElem? (i := 103) rfl)) rfl
theorem gw_410 : Cond.static ⟨"java/lang/Math", "min", "(II)I"⟩ ∈ gw := gw_t (tb_2 (List.mem_of_getElem? (i := 104) rfl)) rfl
theorem gw_411 : Cond.code ⟨"java/lang/Math", "min", "(II)I"⟩ prog_28_method_69_code 2 (some .int) ∈ gw := gw_t (tb_2 (List.mem_of_getElem? (i := 105) rfl)) rfl
theorem gw_412 : Cond.methodLink "HedgeCommittee$Hedges" 55 ⟨"java/lang/Math", "max", "(II)I"⟩ ∈ gw := gw_t (tb_2 (List.mem_of_getElem? (i := 106) rfl)) rfl
theorem gw_413 : Cond.static ⟨"java/lang/Math", "max", "(II)I"⟩ ∈ gw := gw_t (tb_2 (List.mem_of_getElem? (i := 107) rfl)) rfl
theorem gw_414 : Cond.code ⟨"java/lang/Math", "max", "(II)I"⟩ prog_28_method_65_code 2 (some .int) ∈ gw := gw_t (tb_2 (List.mem_of_getElem? (i := 108) rfl)) rfl
theorem gw_415 : Cond.methodLink "HedgeCommittee" 66 ⟨"HedgeCommittee$History", "keepNoted", "()V"⟩ ∈ gw := gw_t (tb_2 (List.mem_of_getElem? (i := 109) rfl)) rfl
theorem gw_416 : Cond.instanceMethod ⟨"HedgeCommittee$History", "keepNoted", "()V"⟩ ∈ gw := gw_t (tb_2 (List.mem_of_getElem? (i := 110) rfl)) rfl
theorem gw_417 : Cond.selects "HedgeCommittee$History" ⟨"HedgeCommittee$History", "keepNoted", "()V"⟩ ⟨"HedgeCommittee$History", "keepNoted", "()V"⟩ ∈ gw := gw_t (tb_2 (List.mem_of_getElem? (i := 111) rfl)) rfl
theorem gw_418 : Cond.code ⟨"HedgeCommittee$History", "keepNoted", "()V"⟩ prog_5_method_4_code 1 none ∈ gw := gw_t (tb_2 (List.mem_of_getElem? (i := 112) rfl)) rfl
theorem gw_419 : Cond.methodLink "HedgeCommittee$History" 26 ⟨"HedgeCommittee$History", "forgetOldest", "()V"⟩ ∈ gw := gw_t (tb_2 (List.mem_of_getElem? (i := 113) rfl)) rfl
theorem gw_421 : Cond.instanceMethod ⟨"HedgeCommittee$History", "forgetOldest", "()V"⟩ ∈ gw := gw_t (tb_2 (List.mem_of_getElem? (i := 115) rfl)) rfl
theorem gw_422 : Cond.code ⟨"HedgeCommittee$History", "forgetOldest", "()V"⟩ prog_5_method_5_code 3 none ∈ gw := gw_t (tb_2 (List.mem_of_getElem? (i := 116) rfl)) rfl
theorem gw_423 : Cond.methodLink "HedgeCommitteeLaw" 173 ⟨"HedgeCommittee", "hedgeCount", "()I"⟩ ∈ gw := gw_t (tb_2 (List.mem_of_getElem? (i := 117) rfl)) rfl
theorem gw_424 : Cond.instanceMethod ⟨"HedgeCommittee", "hedgeCount", "()I"⟩ ∈ gw := gw_t (tb_2 (List.mem_of_getElem? (i := 118) rfl)) rfl
theorem gw_425 : Cond.selects "HedgeCommittee" ⟨"HedgeCommittee", "hedgeCount", "()I"⟩ ⟨"HedgeCommittee", "hedgeCount", "()I"⟩ ∈ gw := gw_t (tb_2 (List.mem_of_getElem? (i := 119) rfl)) rfl
theorem gw_426 : Cond.code ⟨"HedgeCommittee", "hedgeCount", "()I"⟩ prog_1_method_9_code 1 (some .int) ∈ gw := gw_t (tb_2 (List.mem_of_getElem? (i := 120) rfl)) rfl
theorem gw_427 : Cond.methodLink "HedgeCommitteeLaw" 192 ⟨"HedgeCommittee", "motionCount", "()I"⟩ ∈ gw := gw_t (tb_2 (List.mem_of_getElem? (i := 121) rfl)) rfl
theorem gw_428 : Cond.instanceMethod ⟨"HedgeCommittee", "motionCount", "()I"⟩ ∈ gw := gw_t (tb_2 (List.mem_of_getElem? (i := 122) rfl)) rfl
theorem gw_429 : Cond.selects "HedgeCommittee" ⟨"HedgeCommittee", "motionCount", "()I"⟩ ⟨"HedgeCommittee", "motionCount", "()I"⟩ ∈ gw := gw_t (tb_2 (List.mem_of_getElem? (i := 123) rfl)) rfl
theorem gw_430 : Cond.code ⟨"HedgeCommittee", "motionCount", "()I"⟩ prog_1_method_15_code 1 (some .int) ∈ gw := gw_t (tb_2 (List.mem_of_getElem? (i := 124) rfl)) rfl
theorem gw_431 : Cond.methodLink "HedgeCommitteeLaw" 238 ⟨"HedgeCommittee", "bestWorth", "()I"⟩ ∈ gw := gw_t (tb_2 (List.mem_of_getElem? (i := 125) rfl)) rfl
theorem gw_432 : Cond.instanceMethod ⟨"HedgeCommittee", "bestWorth", "()I"⟩ ∈ gw := gw_t (tb_2 (List.mem_of_getElem? (i := 126) rfl)) rfl
theorem gw_433 : Cond.selects "HedgeCommittee" ⟨"HedgeCommittee", "bestWorth", "()I"⟩ ⟨"HedgeCommittee", "bestWorth", "()I"⟩ ∈ gw := gw_t (tb_2 (List.mem_of_getElem? (i := 127) rfl)) rfl
theorem gw_434 : Cond.code ⟨"HedgeCommittee", "bestWorth", "()I"⟩ prog_1_method_30_code 1 (some .int) ∈ gw := gw_t (tb_2 (List.mem_of_getElem? (i := 128) rfl)) rfl
theorem gw_435 : Cond.methodLink "HedgeCommittee" 196 ⟨"HedgeCommittee$Trees", "bestByBranches", "(LHedgeCommittee$Motions;)J"⟩ ∈ gw := gw_t (tb_2 (List.mem_of_getElem? (i := 129) rfl)) rfl
theorem gw_436 : Cond.instanceMethod ⟨"HedgeCommittee$Trees", "bestByBranches", "(LHedgeCommittee$Motions;)J"⟩ ∈ gw := gw_t (tb_2 (List.mem_of_getElem? (i := 130) rfl)) rfl
theorem gw_437 : Cond.selects "HedgeCommittee$Trees" ⟨"HedgeCommittee$Trees", "bestByBranches", "(LHedgeCommittee$Motions;)J"⟩ ⟨"HedgeCommittee$Trees", "bestByBranches", "(LHedgeCommittee$Motions;)J"⟩ ∈ gw := gw_t (tb_2 (List.mem_of_getElem? (i := 131) rfl)) rfl
theorem gw_438 : Cond.code ⟨"HedgeCommittee$Trees", "bestByBranches", "(LHedgeCommittee$Motions;)J"⟩ prog_10_method_8_code 8 (some .long) ∈ gw := gw_t (tb_2 (List.mem_of_getElem? (i := 132) rfl)) rfl
theorem gw_439 : Cond.methodLink "HedgeCommittee$Trees" 68 ⟨"java/util/Arrays", "fill", "([JJ)V"⟩ ∈ gw := gw_t (tb_2 (List.mem_of_getElem? (i := 133) rfl)) rfl
theorem gw_440 : Cond.static ⟨"java/util/Arrays", "fill", "([JJ)V"⟩ ∈ gw := gw_t (tb_2 (List.mem_of_getElem? (i := 134) rfl)) rfl
theorem gw_441 : Cond.code ⟨"java/util/Arrays", "fill", "([JJ)V"⟩ prog_44_method_101_code 5 none ∈ gw := gw_t (tb_2 (List.mem_of_getElem? (i := 135) rfl)) rfl
theorem gw_442 : Cond.methodLink "HedgeCommittee$Trees" 74 ⟨"java/lang/Math", "max", "(JJ)J"⟩ ∈ gw := gw_t (tb_2 (List.mem_of_getElem? (i := 136) rfl)) rfl
theorem gw_443 : Cond.static ⟨"java/lang/Math", "max", "(JJ)J"⟩ ∈ gw := gw_t (tb_2 (List.mem_of_getElem? (i := 137) rfl)) rfl
theorem gw_444 : Cond.code ⟨"java/lang/Math", "max", "(JJ)J"⟩ prog_28_method_66_code 4 (some .long) ∈ gw := gw_t (tb_2 (List.mem_of_getElem? (i := 138) rfl)) rfl
theorem gw_445 : Cond.methodLink "HedgeCommitteeLaw" 242 ⟨"HedgeCommittee", "bestWorthBySets", "()I"⟩ ∈ gw := gw_t (tb_2 (List.mem_of_getElem? (i := 139) rfl)) rfl
theorem gw_446 : Cond.instanceMethod ⟨"HedgeCommittee", "bestWorthBySets", "()I"⟩ ∈ gw := gw_t (tb_2 (List.mem_of_getElem? (i := 140) rfl)) rfl
theorem gw_447 : Cond.selects "HedgeCommittee" ⟨"HedgeCommittee", "bestWorthBySets", "()I"⟩ ⟨"HedgeCommittee", "bestWorthBySets", "()I"⟩ ∈ gw := gw_t (tb_2 (List.mem_of_getElem? (i := 141) rfl)) rfl
theorem gw_448 : Cond.code ⟨"HedgeCommittee", "bestWorthBySets", "()I"⟩ prog_1_method_31_code 1 (some .int) ∈ gw := gw_t (tb_2 (List.mem_of_getElem? (i := 142) rfl)) rfl
theorem gw_449 : Cond.methodLink "HedgeCommittee" 200 ⟨"HedgeCommittee$Trees", "bestBySets", "(LHedgeCommittee$Motions;)J"⟩ ∈ gw := gw_t (tb_2 (List.mem_of_getElem? (i := 143) rfl)) rfl
theorem gw_450 : Cond.instanceMethod ⟨"HedgeCommittee$Trees", "bestBySets", "(LHedgeCommittee$Motions;)J"⟩ ∈ gw := gw_t (tb_2 (List.mem_of_getElem? (i := 144) rfl)) rfl
theorem gw_451 : Cond.selects "HedgeCommittee$Trees" ⟨"HedgeCommittee$Trees", "bestBySets", "(LHedgeCommittee$Motions;)J"⟩ ⟨"HedgeCommittee$Trees", "bestBySets", "(LHedgeCommittee$Motions;)J"⟩ ∈ gw := gw_t (tb_2 (List.mem_of_getElem? (i := 145) rfl)) rfl
theorem gw_452 : Cond.code ⟨"HedgeCommittee$Trees", "bestBySets", "(LHedgeCommittee$Motions;)J"⟩ prog_10_method_9_code 6 (some .long) ∈ gw := gw_t (tb_2 (List.mem_of_getElem? (i := 146) rfl)) rfl
theorem gw_453 : Cond.methodLink "HedgeCommittee$Trees" 77 ⟨"HedgeCommittee$Trees", "isGood", "(LHedgeCommittee$Motions;I)Z"⟩ ∈ gw := gw_t (tb_2 (List.mem_of_getElem? (i := 147) rfl)) rfl
theorem gw_454 : Cond.static ⟨"HedgeCommittee$Trees", "isGood", "(LHedgeCommittee$Motions;I)Z"⟩ ∈ gw := gw_t (tb_2 (List.mem_of_getElem? (i := 148) rfl)) rfl
theorem gw_455 : Cond.code ⟨"HedgeCommittee$Trees", "isGood", "(LHedgeCommittee$Motions;I)Z"⟩ prog_10_method_10_code 4 (some .boolean) ∈ gw := gw_t (tb_2 (List.mem_of_getElem? (i := 149) rfl)) rfl
theorem gw_456 : Cond.methodLink "HedgeCommittee$Trees" 81 ⟨"HedgeCommittee$Trees", "worthOf", "(LHedgeCommittee$Motions;I)J"⟩ ∈ gw := gw_t (tb_2 (List.mem_of_getElem? (i := 150) rfl)) rfl
theorem gw_457 : Cond.static ⟨"HedgeCommittee$Trees", "worthOf", "(LHedgeCommittee$Motions;I)J"⟩ ∈ gw := gw_t (tb_2 (List.mem_of_getElem? (i := 151) rfl)) rfl
theorem gw_458 : Cond.code ⟨"HedgeCommittee$Trees", "worthOf", "(LHedgeCommittee$Motions;I)J"⟩ prog_10_method_11_code 5 (some .long) ∈ gw := gw_t (tb_2 (List.mem_of_getElem? (i := 152) rfl)) rfl
theorem gw_459 : Cond.methodLink "HedgeCommitteeLaw" 246 ⟨"HedgeCommittee", "goodSets", "()I"⟩ ∈ gw := gw_t (tb_2 (List.mem_of_getElem? (i := 153) rfl)) rfl
theorem gw_460 : Cond.instanceMethod ⟨"HedgeCommittee", "goodSets", "()I"⟩ ∈ gw := gw_t (tb_2 (List.mem_of_getElem? (i := 154) rfl)) rfl
theorem gw_461 : Cond.selects "HedgeCommittee" ⟨"HedgeCommittee", "goodSets", "()I"⟩ ⟨"HedgeCommittee", "goodSets", "()I"⟩ ∈ gw := gw_t (tb_2 (List.mem_of_getElem? (i := 155) rfl)) rfl
theorem gw_462 : Cond.code ⟨"HedgeCommittee", "goodSets", "()I"⟩ prog_1_method_32_code 1 (some .int) ∈ gw := gw_t (tb_2 (List.mem_of_getElem? (i := 156) rfl)) rfl
theorem gw_463 : Cond.methodLink "HedgeCommittee" 203 ⟨"HedgeCommittee$Trees", "countGoodSets", "(LHedgeCommittee$Motions;)I"⟩ ∈ gw := gw_t (tb_2 (List.mem_of_getElem? (i := 157) rfl)) rfl
theorem gw_464 : Cond.instanceMethod ⟨"HedgeCommittee$Trees", "countGoodSets", "(LHedgeCommittee$Motions;)I"⟩ ∈ gw := gw_t (tb_2 (List.mem_of_getElem? (i := 158) rfl)) rfl
theorem gw_465 : Cond.selects "HedgeCommittee$Trees" ⟨"HedgeCommittee$Trees", "countGoodSets", "(LHedgeCommittee$Motions;)I"⟩ ⟨"HedgeCommittee$Trees", "countGoodSets", "(LHedgeCommittee$Motions;)I"⟩ ∈ gw := gw_t (tb_2 (List.mem_of_getElem? (i := 159) rfl)) rfl
theorem gw_466 : Cond.code ⟨"HedgeCommittee$Trees", "countGoodSets", "(LHedgeCommittee$Motions;)I"⟩ prog_10_method_12_code 8 (some .int) ∈ gw := gw_t (tb_2 (List.mem_of_getElem? (i := 160) rfl)) rfl
theorem gw_467 : Cond.methodLink "HedgeCommitteeLaw" 250 ⟨"HedgeCommittee", "season", "()I"⟩ ∈ gw := gw_t (tb_2 (List.mem_of_getElem? (i := 161) rfl)) rfl
theorem gw_468 : Cond.instanceMethod ⟨"HedgeCommittee", "season", "()I"⟩ ∈ gw := gw_t (tb_2 (List.mem_of_getElem? (i := 162) rfl)) rfl
theorem gw_469 : Cond.selects "HedgeCommittee" ⟨"HedgeCommittee", "season", "()I"⟩ ⟨"HedgeCommittee", "season", "()I"⟩ ∈ gw := gw_t (tb_2 (List.mem_of_getElem? (i := 163) rfl)) rfl
theorem gw_470 : Cond.code ⟨"HedgeCommittee", "season", "()I"⟩ prog_1_method_33_code 1 (some .int) ∈ gw := gw_t (tb_2 (List.mem_of_getElem? (i := 164) rfl)) rfl
theorem gw_471 : Cond.methodLink "HedgeCommitteeLaw" 257 ⟨"HedgeCommittee", "adoptedWeight", "()I"⟩ ∈ gw := gw_t (tb_2 (List.mem_of_getElem? (i := 165) rfl)) rfl
theorem gw_472 : Cond.instanceMethod ⟨"HedgeCommittee", "adoptedWeight", "()I"⟩ ∈ gw := gw_t (tb_2 (List.mem_of_getElem? (i := 166) rfl)) rfl
theorem gw_473 : Cond.selects "HedgeCommittee" ⟨"HedgeCommittee", "adoptedWeight", "()I"⟩ ⟨"HedgeCommittee", "adoptedWeight", "()I"⟩ ∈ gw := gw_t (tb_2 (List.mem_of_getElem? (i := 167) rfl)) rfl
theorem gw_474 : Cond.code ⟨"HedgeCommittee", "adoptedWeight", "()I"⟩ prog_1_method_35_code 1 (some .int) ∈ gw := gw_t (tb_2 (List.mem_of_getElem? (i := 168) rfl)) rfl
theorem gw_475 : Cond.methodLink "HedgeCommitteeLaw" 261 ⟨"HedgeCommittee", "weightTotal", "()I"⟩ ∈ gw := gw_t (tb_2 (List.mem_of_getElem? (i := 169) rfl)) rfl
theorem gw_476 : Cond.instanceMethod ⟨"HedgeCommittee", "weightTotal", "()I"⟩ ∈ gw := gw_t (tb_2 (List.mem_of_getElem? (i := 170) rfl)) rfl
theorem gw_477 : Cond.selects "HedgeCommittee" ⟨"HedgeCommittee", "weightTotal", "()I"⟩ ⟨"HedgeCommittee", "weightTotal", "()I"⟩ ∈ gw := gw_t (tb_2 (List.mem_of_getElem? (i := 171) rfl)) rfl
theorem gw_478 : Cond.code ⟨"HedgeCommittee", "weightTotal", "()I"⟩ prog_1_method_36_code 1 (some .int) ∈ gw := gw_t (tb_2 (List.mem_of_getElem? (i := 172) rfl)) rfl
theorem gw_479 : Cond.methodLink "HedgeCommittee" 218 ⟨"HedgeCommittee$Motions", "totalWeight", "()I"⟩ ∈ gw := gw_t (tb_2 (List.mem_of_getElem? (i := 173) rfl)) rfl
theorem gw_480 : Cond.instanceMethod ⟨"HedgeCommittee$Motions", "totalWeight", "()I"⟩ ∈ gw := gw_t (tb_2 (List.mem_of_getElem? (i := 174) rfl)) rfl
theorem gw_481 : Cond.selects "HedgeCommittee$Motions" ⟨"HedgeCommittee$Motions", "totalWeight", "()I"⟩ ⟨"HedgeCommittee$Motions", "totalWeight", "()I"⟩ ∈ gw := gw_t (tb_2 (List.mem_of_getElem? (i := 175) rfl)) rfl
theorem gw_482 : Cond.code ⟨"HedgeCommittee$Motions", "totalWeight", "()I"⟩ prog_7_method_12_code 3 (some .int) ∈ gw := gw_t (tb_2 (List.mem_of_getElem? (i := 176) rfl)) rfl
theorem gw_483 : Cond.methodLink "HedgeCommitteeLaw" 265 ⟨"HedgeCommittee", "weightByAccounts", "()I"⟩ ∈ gw := gw_t (tb_2 (List.mem_of_getElem? (i := 177) rfl)) rfl
theorem gw_484 : Cond.instanceMethod ⟨"HedgeCommittee", "weightByAccounts", "()I"⟩ ∈ gw := gw_t (tb_2 (List.mem_of_getElem? (i := 178) rfl)) rfl
theorem gw_485 : Cond.selects "HedgeCommittee" ⟨"HedgeCommittee", "weightByAccounts", "()I"⟩ ⟨"HedgeCommittee", "weightByAccounts", "()I"⟩ ∈ gw := gw_t (tb_2 (List.mem_of_getElem? (i := 179) rfl)) rfl
theorem gw_486 : Cond.code ⟨"HedgeCommittee", "weightByAccounts", "()I"⟩ prog_1_method_37_code 1 (some .int) ∈ gw := gw_t (tb_2 (List.mem_of_getElem? (i := 180) rfl)) rfl
theorem gw_487 : Cond.methodLink "HedgeCommittee" 222 ⟨"HedgeCommittee$State", "accountedWeight", "()I"⟩ ∈ gw := gw_t (tb_2 (List.mem_of_getElem? (i := 181) rfl)) rfl
theorem gw_488 : Cond.instanceMethod ⟨"HedgeCommittee$State", "accountedWeight", "()I"⟩ ∈ gw := gw_t (tb_2 (List.mem_of_getElem? (i := 182) rfl)) rfl
theorem gw_489 : Cond.selects "HedgeCommittee$State" ⟨"HedgeCommittee$State", "accountedWeight", "()I"⟩ ⟨"HedgeCommittee$State", "accountedWeight", "()I"⟩ ∈ gw := gw_t (tb_2 (List.mem_of_getElem? (i := 183) rfl)) rfl
theorem gw_490 : Cond.code ⟨"HedgeCommittee$State", "accountedWeight", "()I"⟩ prog_9_method_3_code 1 (some .int) ∈ gw := gw_t (tb_2 (List.mem_of_getElem? (i := 184) rfl)) rfl
theorem gw_491 : Cond.methodLink "HedgeCommitteeLaw" 276 ⟨"HedgeCommittee", "isConsistent", "()Z"⟩ ∈ gw := gw_t (tb_2 (List.mem_of_getElem? (i := 185) rfl)) rfl
theorem gw_492 : Cond.instanceMethod ⟨"HedgeCommittee", "isConsistent", "()Z"⟩ ∈ gw := gw_t (tb_2 (List.mem_of_getElem? (i := 186) rfl)) rfl
theorem gw_493 : Cond.selects "HedgeCommittee" ⟨"HedgeCommittee", "isConsistent", "()Z"⟩ ⟨"HedgeCommittee", "isConsistent", "()Z"⟩ ∈ gw := gw_t (tb_2 (List.mem_of_getElem? (i := 187) rfl)) rfl
theorem gw_494 : Cond.code ⟨"HedgeCommittee", "isConsistent", "()Z"⟩ prog_1_method_40_code 2 (some .boolean) ∈ gw := gw_t (tb_2 (List.mem_of_getElem? (i := 188) rfl)) rfl
theorem gw_495 : Cond.methodLink "HedgeCommittee" 241 ⟨"HedgeCommittee$Trees", "agreeOnPaths", "(LHedgeCommittee$Motions;)Z"⟩ ∈ gw := gw_t (tb_2 (List.mem_of_getElem? (i := 189) rfl)) rfl
theorem gw_496 : Cond.instanceMethod ⟨"HedgeCommittee$Trees", "agreeOnPaths", "(LHedgeCommittee$Motions;)Z"⟩ ∈ gw := gw_t (tb_2 (List.mem_of_getElem? (i := 190) rfl)) rfl
theorem gw_497 : Cond.selects "HedgeCommittee$Trees" ⟨"HedgeCommittee$Trees", "agreeOnPaths", "(LHedgeCommittee$Motions;)Z"⟩ ⟨"HedgeCommittee$Trees", "agreeOnPaths", "(LHedgeCommittee$Motions;)Z"⟩ ∈ gw := gw_t (tb_2 (List.mem_of_getElem? (i := 191) rfl)) rfl
theorem gw_498 : Cond.code ⟨"HedgeCommittee$Trees", "agreeOnPaths", "(LHedgeCommittee$Motions;)Z"⟩ prog_10_method_13_code 3 (some .boolean) ∈ gw := gw_t (tb_2 (List.mem_of_getElem? (i := 192) rfl)) rfl
theorem gw_499 : Cond.methodLink "HedgeCommittee$Trees" 85 ⟨"HedgeCommittee$Trees", "longestByHeights", "(LHedgeCommittee$Motions;I)I"⟩ ∈ gw := gw_t (tb_2 (List.mem_of_getElem? (i := 193) rfl)) rfl
theorem gw_500 : Cond.instanceMethod ⟨"HedgeCommittee$Trees", "longestByHeights", "(LHedgeCommittee$Motions;I)I"⟩ ∈ gw := gw_t (tb_2 (List.mem_of_getElem? (i := 194) rfl)) rfl
theorem gw_501 : Cond.selects "HedgeCommittee$Trees" ⟨"HedgeCommittee$Trees", "longestByHeights", "(LHedgeCommittee$Motions;I)I"⟩ ⟨"HedgeCommittee$Trees", "longestByHeights", "(LHedgeCommittee$Motions;I)I"⟩ ∈ gw := gw_t (tb_2 (List.mem_of_getElem? (i := 195) rfl)) rfl
theorem gw_502 : Cond.code ⟨"HedgeCommittee$Trees", "longestByHeights", "(LHedgeCommittee$Motions;I)I"⟩ prog_10_method_5_code 7 (some .int) ∈ gw := gw_t (tb_2 (List.mem_of_getElem? (i := 196) rfl)) rfl
theorem gw_503 : Cond.methodLink "HedgeCommittee$Trees" 44 ⟨"java/util/Arrays", "fill", "([II)V"⟩ ∈ gw := gw_t (tb_2 (List.mem_of_getElem? (i := 197) rfl)) rfl
theorem gw_504 : Cond.static ⟨"java/util/Arrays", "fill", "([II)V"⟩ ∈ gw := gw_t (tb_2 (List.mem_of_getElem? (i := 198) rfl)) rfl
theorem gw_505 : Cond.code ⟨"java/util/Arrays", "fill", "([II)V"⟩ prog_44_method_103_code 4 none ∈ gw := gw_t (tb_2 (List.mem_of_getElem? (i := 199) rfl)) rfl
theorem gw_506 : Cond.methodLink "HedgeCommittee$Trees" 54 ⟨"HedgeCommittee$Motions", "isInBranch", "(II)Z"⟩ ∈ gw := gw_t (tb_2 (List.mem_of_getElem? (i := 200) rfl)) rfl
theorem gw_507 : Cond.instanceMethod ⟨"HedgeCommittee$Motions", "isInBranch", "(II)Z"⟩ ∈ gw := gw_t (tb_2 (List.mem_of_getElem? (i := 201) rfl)) rfl
theorem gw_508 : Cond.selects "HedgeCommittee$Motions" ⟨"HedgeCommittee$Motions", "isInBranch", "(II)Z"⟩ ⟨"HedgeCommittee$Motions", "isInBranch", "(II)Z"⟩ ∈ gw := gw_t (tb_2 (List.mem_of_getElem? (i := 202) rfl)) rfl
theorem gw_509 : Cond.code ⟨"HedgeCommittee$Motions", "isInBranch", "(II)Z"⟩ prog_7_method_9_code 5 (some .boolean) ∈ gw := gw_t (tb_2 (List.mem_of_getElem? (i := 203) rfl)) rfl
theorem gw_510 : Cond.methodLink "HedgeCommittee$Trees" 58 ⟨"java/lang/Math", "max", "(II)I"⟩ ∈ gw := gw_t (tb_2 (List.mem_of_getElem? (i := 204) rfl)) rfl
theorem gw_511 : Cond.methodLink "HedgeCommittee$Trees" 89 ⟨"HedgeCommittee$Trees", "longestBySweeps", "(LHedgeCommittee$Motions;I)I"⟩ ∈ gw := gw_t (tb_2 (List.mem_of_getElem? (i := 205) rfl)) rfl
theorem gw_512 : Cond.instanceMethod ⟨"HedgeCommittee$Trees", "longestBySweeps", "(LHedgeCommittee$Motions;I)I"⟩ ∈ gw := gw_t (tb_2 (List.mem_of_getElem? (i := 206) rfl)) rfl
theorem gw_513 : Cond.selects "HedgeCommittee$Trees" ⟨"HedgeCommittee$Trees", "longestBySweeps", "(LHedgeCommittee$Motions;I)I"⟩ ⟨"HedgeCommittee$Trees", "longestBySweeps", "(LHedgeCommittee$Motions;I)I"⟩ ∈ gw := gw_t (tb_2 (List.mem_of_getElem? (i := 207) rfl)) rfl
theorem gw_514 : Cond.code ⟨"HedgeCommittee$Trees", "longestBySweeps", "(LHedgeCommittee$Motions;I)I"⟩ prog_10_method_6_code 5 (some .int) ∈ gw := gw_t (tb_2 (List.mem_of_getElem? (i := 208) rfl)) rfl
theorem gw_515 : Cond.methodLink "HedgeCommittee$Trees" 64 ⟨"HedgeCommittee$Trees", "farthestFrom", "(LHedgeCommittee$Motions;II)I"⟩ ∈ gw := gw_t (tb_2 (List.mem_of_getElem? (i := 209) rfl)) rfl
theorem gw_517 : Cond.instanceMethod ⟨"HedgeCommittee$Trees", "farthestFrom", "(LHedgeCommittee$Motions;II)I"⟩ ∈ gw := gw_t (tb_2 (List.mem_of_getElem? (i := 211) rfl)) rfl
theorem gw_518 : Cond.code ⟨"HedgeCommittee$Trees", "farthestFrom", "(LHedgeCommittee$Motions;II)I"⟩ prog_10_method_7_code 8 (some .int) ∈ gw := gw_t (tb_2 (List.mem_of_getElem? (i := 212) rfl)) rfl
theorem gw_519 : Cond.methodLink "HedgeCommittee" 245 ⟨"HedgeCommittee$Trees", "agreeOnCommonMotions", "(LHedgeCommittee$Motions;)Z"⟩ ∈ gw := gw_t (tb_2 (List.mem_of_getElem? (i := 213) rfl)) rfl
theorem gw_520 : Cond.instanceMethod ⟨"HedgeCommittee$Trees", "agreeOnCommonMotions", "(LHedgeCommittee$Motions;)Z"⟩ ∈ gw := gw_t (tb_2 (List.mem_of_getElem? (i := 214) rfl)) rfl
theorem gw_521 : Cond.selects "HedgeCommittee$Trees" ⟨"HedgeCommittee$Trees", "agreeOnCommonMotions", "(LHedgeCommittee$Motions;)Z"⟩ ⟨"HedgeCommittee$Trees", "agreeOnCommonMotions", "(LHedgeCommittee$Motions;)Z"⟩ ∈ gw := gw_t (tb_2 (List.mem_of_getElem? (i := 215) rfl)) rfl
theorem gw_522 : Cond.code ⟨"HedgeCommittee$Trees", "agreeOnCommonMotions", "(LHedgeCommittee$Motions;)Z"⟩ prog_10_method_14_code 4 (some .boolean) ∈ gw := gw_t (tb_2 (List.mem_of_getElem? (i := 216) rfl)) rfl
theorem gw_523 : Cond.methodLink "HedgeCommittee$Trees" 92 ⟨"HedgeCommittee$Trees", "commonByClimbing", "(LHedgeCommittee$Motions;II)I"⟩ ∈ gw := gw_t (tb_2 (List.mem_of_getElem? (i := 217) rfl)) rfl
theorem gw_524 : Cond.instanceMethod ⟨"HedgeCommittee$Trees", "commonByClimbing", "(LHedgeCommittee$Motions;II)I"⟩ ∈ gw := gw_t (tb_2 (List.mem_of_getElem? (i := 218) rfl)) rfl
theorem gw_525 : Cond.selects "HedgeCommittee$Trees" ⟨"HedgeCommittee$Trees", "commonByClimbing", "(LHedgeCommittee$Motions;II)I"⟩ ⟨"HedgeCommittee$Trees", "commonByClimbing", "(LHedgeCommittee$Motions;II)I"⟩ ∈ gw := gw_t (tb_2 (List.mem_of_getElem? (i := 219) rfl)) rfl
theorem gw_526 : Cond.code ⟨"HedgeCommittee$Trees", "commonByClimbing", "(LHedgeCommittee$Motions;II)I"⟩ prog_10_method_2_code 9 (some .int) ∈ gw := gw_t (tb_2 (List.mem_of_getElem? (i := 220) rfl)) rfl
theorem gw_527 : Cond.methodLink "HedgeCommittee$Trees" 31 ⟨"HedgeCommittee$Motions", "depthOf", "(I)I"⟩ ∈ gw := gw_t (tb_2 (List.mem_of_getElem? (i := 221) rfl)) rfl
theorem gw_528 : Cond.instanceMethod ⟨"HedgeCommittee$Motions", "depthOf", "(I)I"⟩ ∈ gw := gw_t (tb_2 (List.mem_of_getElem? (i := 222) rfl)) rfl
theorem gw_529 : Cond.selects "HedgeCommittee$Motions" ⟨"HedgeCommittee$Motions", "depthOf", "(I)I"⟩ ⟨"HedgeCommittee$Motions", "depthOf", "(I)I"⟩ ∈ gw := gw_t (tb_2 (List.mem_of_getElem? (i := 223) rfl)) rfl
theorem gw_530 : Cond.code ⟨"HedgeCommittee$Motions", "depthOf", "(I)I"⟩ prog_7_method_8_code 4 (some .int) ∈ gw := gw_t (tb_2 (List.mem_of_getElem? (i := 224) rfl)) rfl
theorem gw_531 : Cond.methodLink "HedgeCommittee$Trees" 95 ⟨"HedgeCommittee$Trees", "commonByRows", "(LHedgeCommittee$Motions;II)I"⟩ ∈ gw := gw_t (tb_2 (List.mem_of_getElem? (i := 225) rfl)) rfl
theorem gw_532 : Cond.instanceMethod ⟨"HedgeCommittee$Trees", "commonByRows", "(LHedgeCommittee$Motions;II)I"⟩ ∈ gw := gw_t (tb_2 (List.mem_of_getElem? (i := 226) rfl)) rfl
theorem gw_533 : Cond.selects "HedgeCommittee$Trees" ⟨"HedgeCommittee$Trees", "commonByRows", "(LHedgeCommittee$Motions;II)I"⟩ ⟨"HedgeCommittee$Trees", "commonByRows", "(LHedgeCommittee$Motions;II)I"⟩ ∈ gw := gw_t (tb_2 (List.mem_of_getElem? (i := 227) rfl)) rfl
theorem gw_534 : Cond.code ⟨"HedgeCommittee$Trees", "commonByRows", "(LHedgeCommittee$Motions;II)I"⟩ prog_10_method_3_code 8 (some .int) ∈ gw := gw_t (tb_2 (List.mem_of_getElem? (i := 228) rfl)) rfl
theorem gw_535 : Cond.methodLink "HedgeCommittee$Trees" 40 ⟨"HedgeCommittee$Trees", "fillRow", "(LHedgeCommittee$Motions;I[I)I"⟩ ∈ gw := gw_t (tb_2 (List.mem_of_getElem? (i := 229) rfl)) rfl
theorem gw_536 : Cond.static ⟨"HedgeCommittee$Trees", "fillRow", "(LHedgeCommittee$Motions;I[I)I"⟩ ∈ gw := gw_t (tb_2 (List.mem_of_getElem? (i := 230) rfl)) rfl
theorem gw_537 : Cond.code ⟨"HedgeCommittee$Trees", "fillRow", "(LHedgeCommittee$Motions;I[I)I"⟩ prog_10_method_4_code 6 (some .int) ∈ gw := gw_t (tb_2 (List.mem_of_getElem? (i := 231) rfl)) rfl
theorem gw_538 : Cond.methodLink "HedgeCommitteeLaw" 304 ⟨"HedgeCommittee", "save", "()V"⟩ ∈ gw := gw_t (tb_2 (List.mem_of_getElem? (i := 232) rfl)) rfl
theorem gw_539 : Cond.instanceMethod ⟨"HedgeCommittee", "save", "()V"⟩ ∈ gw := gw_t (tb_2 (List.mem_of_getElem? (i := 233) rfl)) rfl
theorem gw_540 : Cond.selects "HedgeCommittee" ⟨"HedgeCommittee", "save", "()V"⟩ ⟨"HedgeCommittee", "save", "()V"⟩ ∈ gw := gw_t (tb_2 (List.mem_of_getElem? (i := 234) rfl)) rfl
theorem gw_541 : Cond.code ⟨"HedgeCommittee", "save", "()V"⟩ prog_1_method_48_code 1 none ∈ gw := gw_t (tb_2 (List.mem_of_getElem? (i := 235) rfl)) rfl
theorem gw_542 : Cond.methodLink "HedgeCommittee" 315 ⟨"HedgeCommittee$State", "copyFrom", "(LHedgeCommittee$State;)V"⟩ ∈ gw := gw_t (tb_2 (List.mem_of_getElem? (i := 236) rfl)) rfl
theorem gw_543 : Cond.methodLink "HedgeCommitteeLaw" 143 ⟨"HedgeCommitteeLaw", "addHedge", "(LHedgeCommittee;III[J)I"⟩ ∈ gw := gw_t (tb_2 (List.mem_of_getElem? (i := 237) rfl)) rfl
theorem gw_544 : Cond.static ⟨"HedgeCommitteeLaw", "addHedge", "(LHedgeCommittee;III[J)I"⟩ ∈ gw := gw_t (tb_2 (List.mem_of_getElem? (i := 238) rfl)) rfl
theorem gw_545 : Cond.codeWith ⟨"HedgeCommitteeLaw", "addHedge", "(LHedgeCommittee;III[J)I"⟩ method_3_code 6 (some .int) [(0, 12, 15, 13), (0, 12, 19, 15)] ∈ gw := gw_t (tb_2 (List.mem_of_getElem? (i := 239) rfl)) rfl
theorem gw_546 : Cond.classLink "HedgeCommitteeLaw" 13 "java/lang/IllegalArgumentException" ∈ gw := gw_t (tb_3 (List.mem_of_getElem? (i := 0) rfl)) rfl
theorem gw_547 : Cond.classLink "HedgeCommitteeLaw" 15 "java/lang/IllegalStateException" ∈ gw := gw_t (tb_3 (List.mem_of_getElem? (i := 1) rfl)) rfl
theorem gw_548 : Cond.methodLink "HedgeCommitteeLaw" 7 ⟨"HedgeCommittee", "addHedge", "(III)I"⟩ ∈ gw := gw_t (tb_3 (List.mem_of_getElem? (i := 2) rfl)) rfl
theorem gw_549 : Cond.instanceMethod ⟨"HedgeCommittee", "addHedge", "(III)I"⟩ ∈ gw := gw_t (tb_3 (List.mem_of_getElem? (i := 3) rfl)) rfl
theorem gw_550 : Cond.selects "HedgeCommittee" ⟨"HedgeCommittee", "addHedge", "(III)I"⟩ ⟨"HedgeCommittee", "addHedge", "(III)I"⟩ ∈ gw := gw_t (tb_3 (List.mem_of_getElem? (i := 4) rfl)) rfl
theorem gw_551 : Cond.code ⟨"HedgeCommittee", "addHedge", "(III)I"⟩ prog_1_method_2_code 5 (some .int) ∈ gw := gw_t (tb_3 (List.mem_of_getElem? (i := 5) rfl)) rfl
theorem gw_552 : Cond.methodLink "HedgeCommittee" 62 ⟨"HedgeCommittee$State", "newHedge", "(III)I"⟩ ∈ gw := gw_t (tb_3 (List.mem_of_getElem? (i := 6) rfl)) rfl
theorem gw_553 : Cond.instanceMethod ⟨"HedgeCommittee$State", "newHedge", "(III)I"⟩ ∈ gw := gw_t (tb_3 (List.mem_of_getElem? (i := 7) rfl)) rfl
theorem gw_554 : Cond.selects "HedgeCommittee$State" ⟨"HedgeCommittee$State", "newHedge", "(III)I"⟩ ⟨"HedgeCommittee$State", "newHedge", "(III)I"⟩ ∈ gw := gw_t (tb_3 (List.mem_of_getElem? (i := 8) rfl)) rfl
theorem gw_555 : Cond.code ⟨"HedgeCommittee$State", "newHedge", "(III)I"⟩ prog_9_method_4_code 4 (some .int) ∈ gw := gw_t (tb_3 (List.mem_of_getElem? (i := 9) rfl)) rfl
theorem gw_556 : Cond.methodLink "HedgeCommittee$State" 67 ⟨"HedgeCommittee$State", "isDigit", "(I)Z"⟩ ∈ gw := gw_t (tb_3 (List.mem_of_getElem? (i := 10) rfl)) rfl
theorem gw_557 : Cond.static ⟨"HedgeCommittee$State", "isDigit", "(I)Z"⟩ ∈ gw := gw_t (tb_3 (List.mem_of_getElem? (i := 11) rfl)) rfl
theorem gw_558 : Cond.code ⟨"HedgeCommittee$State", "isDigit", "(I)Z"⟩ prog_9_method_15_code 1 (some .boolean) ∈ gw := gw_t (tb_3 (List.mem_of_getElem? (i := 12) rfl)) rfl
theorem gw_559 : Cond.classLink "HedgeCommittee$State" 71 "java/lang/IllegalArgumentException" ∈ gw := gw_t (tb_3 (List.mem_of_getElem? (i := 13) rfl)) rfl
theorem gw_560 : Cond.instantiable "java/lang/IllegalArgumentException" 6 ∈ gw := gw_t (tb_3 (List.mem_of_getElem? (i := 14) rfl)) rfl
theorem gw_568 : Cond.selects "java/lang/IllegalArgumentException" ⟨"java/lang/Throwable", "fillInStackTrace", "(I)Ljava/lang/Throwable;"⟩ ⟨"java/lang/Throwable", "fillInStackTrace", "(I)Ljava/lang/Throwable;"⟩ ∈ gw := gw_t (tb_3 (List.mem_of_getElem? (i := 22) rfl)) rfl
theorem gw_569 : Cond.selects "java/lang/IllegalArgumentException" ⟨"java/lang/Throwable", "fillInStackTrace", "()Ljava/lang/Throwable;"⟩ ⟨"java/lang/Throwable", "fillInStackTrace", "()Ljava/lang/Throwable;"⟩ ∈ gw := gw_t (tb_3 (List.mem_of_getElem? (i := 23) rfl)) rfl
theorem gw_570 : Cond.lays "java/lang/IllegalArgumentException" "java/lang/Throwable" "cause" "Ljava/lang/Throwable;" ∈ gw := gw_t (tb_3 (List.mem_of_getElem? (i := 24) rfl)) rfl
theorem gw_571 : Cond.lays "java/lang/Throwable" "java/lang/Throwable" "cause" "Ljava/lang/Throwable;" ∈ gw := gw_t (tb_3 (List.mem_of_getElem? (i := 25) rfl)) rfl
theorem gw_572 : Cond.lays "java/lang/IllegalArgumentException" "java/lang/Throwable" "stackTrace" "[Ljava/lang/StackTraceElement;" ∈ gw := gw_t (tb_3 (List.mem_of_getElem? (i := 26) rfl)) rfl
theorem gw_573 : Cond.lays "java/lang/Throwable" "java/lang/Throwable" "stackTrace" "[Ljava/lang/StackTraceElement;" ∈ gw := gw_t (tb_3 (List.mem_of_getElem? (i := 27) rfl)) rfl
theorem gw_574 : Cond.lays "java/lang/IllegalArgumentException" "java/lang/Throwable" "suppressedExceptions" "Ljava/util/List;" ∈ gw := gw_t (tb_3 (List.mem_of_getElem? (i := 28) rfl)) rfl
theorem gw_575 : Cond.lays "java/lang/Throwable" "java/lang/Throwable" "suppressedExceptions" "Ljava/util/List;" ∈ gw := gw_t (tb_3 (List.mem_of_getElem? (i := 29) rfl)) rfl
theorem gw_576 : Cond.lays "java/lang/IllegalArgumentException" "java/lang/Throwable" "detailMessage" "Ljava/lang/String;" ∈ gw := gw_t (tb_3 (List.mem_of_getElem? (i := 30) rfl)) rfl
theorem gw_577 : Cond.lays "java/lang/Throwable" "java/lang/Throwable" "detailMessage" "Ljava/lang/String;" ∈ gw := gw_t (tb_3 (List.mem_of_getElem? (i := 31) rfl)) rfl
theorem gw_578 : Cond.lays "java/lang/IllegalArgumentException" "java/lang/Throwable" "backtrace" "Ljava/lang/Object;" ∈ gw := gw_t (tb_3 (List.mem_of_getElem? (i := 32) rfl)) rfl
theorem gw_579 : Cond.lays "java/lang/Throwable" "java/lang/Throwable" "backtrace" "Ljava/lang/Object;" ∈ gw := gw_t (tb_3 (List.mem_of_getElem? (i := 33) rfl)) rfl
theorem gw_580 : Cond.fieldLink "java/lang/Throwable" 198 "java/lang/Throwable" "backtrace" "Ljava/lang/Object;" ∈ gw := gw_t (tb_3 (List.mem_of_getElem? (i := 34) rfl)) rfl
theorem gw_581 : Cond.superclass "java/lang/Throwable" "java/lang/Object" ∈ gw := gw_t (tb_3 (List.mem_of_getElem? (i := 35) rfl)) rfl
theorem gw_582 : Cond.instanceMethod ⟨"java/lang/Throwable", "<init>", "()V"⟩ ∈ gw := gw_t (tb_3 (List.mem_of_getElem? (i := 36) rfl)) rfl
theorem gw_583 : Cond.code ⟨"java/lang/Throwable", "<init>", "()V"⟩ prog_37_method_1_code 1 none ∈ gw := gw_t (tb_3 (List.mem_of_getElem? (i := 37) rfl)) rfl
theorem gw_584 : Cond.methodLink "java/lang/Throwable" 1 ⟨"java/lang/Object", "<init>", "()V"⟩ ∈ gw := gw_t (tb_3 (List.mem_of_getElem? (i := 38) rfl)) rfl
theorem gw_585 : Cond.fieldLink "java/lang/Throwable" 13 "java/lang/Throwable" "UNASSIGNED_STACK" "[Ljava/lang/StackTraceElement;" ∈ gw := gw_t (tb_3 (List.mem_of_getElem? (i := 39) rfl)) rfl
theorem gw_587 : Cond.fieldLink "java/lang/Throwable" 20 "java/lang/Throwable" "SUPPRESSED_SENTINEL" "Ljava/util/List;" ∈ gw := gw_t (tb_3 (List.mem_of_getElem? (i := 41) rfl)) rfl
theorem gw_589 : Cond.methodLink "java/lang/Throwable" 27 ⟨"java/lang/Throwable", "fillInStackTrace", "()Ljava/lang/Throwable;"⟩ ∈ gw := gw_t (tb_3 (List.mem_of_getElem? (i := 43) rfl)) rfl
theorem gw_590 : Cond.instanceMethod ⟨"java/lang/Throwable", "fillInStackTrace", "()Ljava/lang/Throwable;"⟩ ∈ gw := gw_t (tb_3 (List.mem_of_getElem? (i := 44) rfl)) rfl
theorem gw_591 : Cond.sameMethod "java/lang/Throwable" "java/lang/Throwable" "fillInStackTrace" "()Ljava/lang/Throwable;" ∈ gw := gw_t (tb_3 (List.mem_of_getElem? (i := 45) rfl)) rfl
theorem gw_592 : Cond.selects "java/lang/ArithmeticException" ⟨"java/lang/Throwable", "fillInStackTrace", "()Ljava/lang/Throwable;"⟩ ⟨"java/lang/Throwable", "fillInStackTrace", "()Ljava/lang/Throwable;"⟩ ∈ gw := gw_t (tb_3 (List.mem_of_getElem? (i := 46) rfl)) rfl
theorem gw_593 : Cond.selects "java/lang/ArrayIndexOutOfBoundsException" ⟨"java/lang/Throwable", "fillInStackTrace", "()Ljava/lang/Throwable;"⟩ ⟨"java/lang/Throwable", "fillInStackTrace", "()Ljava/lang/Throwable;"⟩ ∈ gw := gw_t (tb_3 (List.mem_of_getElem? (i := 47) rfl)) rfl
theorem gw_594 : Cond.selects "java/lang/IllegalStateException" ⟨"java/lang/Throwable", "fillInStackTrace", "()Ljava/lang/Throwable;"⟩ ⟨"java/lang/Throwable", "fillInStackTrace", "()Ljava/lang/Throwable;"⟩ ∈ gw := gw_t (tb_3 (List.mem_of_getElem? (i := 48) rfl)) rfl
theorem gw_595 : Cond.selects "java/lang/IndexOutOfBoundsException" ⟨"java/lang/Throwable", "fillInStackTrace", "()Ljava/lang/Throwable;"⟩ ⟨"java/lang/Throwable", "fillInStackTrace", "()Ljava/lang/Throwable;"⟩ ∈ gw := gw_t (tb_3 (List.mem_of_getElem? (i := 49) rfl)) rfl
theorem gw_596 : Cond.selects "java/lang/StringIndexOutOfBoundsException" ⟨"java/lang/Throwable", "fillInStackTrace", "()Ljava/lang/Throwable;"⟩ ⟨"java/lang/Throwable", "fillInStackTrace", "()Ljava/lang/Throwable;"⟩ ∈ gw := gw_t (tb_3 (List.mem_of_getElem? (i := 50) rfl)) rfl
theorem gw_597 : Cond.selects "java/lang/UnsupportedOperationException" ⟨"java/lang/Throwable", "fillInStackTrace", "()Ljava/lang/Throwable;"⟩ ⟨"java/lang/Throwable", "fillInStackTrace", "()Ljava/lang/Throwable;"⟩ ∈ gw := gw_t (tb_3 (List.mem_of_getElem? (i := 51) rfl)) rfl
theorem gw_598 : Cond.selects "java/util/NoSuchElementException" ⟨"java/lang/Throwable", "fillInStackTrace", "()Ljava/lang/Throwable;"⟩ ⟨"java/lang/Throwable", "fillInStackTrace", "()Ljava/lang/Throwable;"⟩ ∈ gw := gw_t (tb_3 (List.mem_of_getElem? (i := 52) rfl)) rfl
theorem gw_599 : Cond.codeSync ⟨"java/lang/Throwable", "fillInStackTrace", "()Ljava/lang/Throwable;"⟩ prog_37_method_18_code 1 (some (.object "java/lang/Throwable")) ∈ gw := gw_t (tb_3 (List.mem_of_getElem? (i := 53) rfl)) rfl
theorem gw_600 : Cond.methodLink "java/lang/Throwable" 202 ⟨"java/lang/Throwable", "fillInStackTrace", "(I)Ljava/lang/Throwable;"⟩ ∈ gw := gw_t (tb_3 (List.mem_of_getElem? (i := 54) rfl)) rfl
theorem gw_602 : Cond.instanceMethod ⟨"java/lang/Throwable", "fillInStackTrace", "(I)Ljava/lang/Throwable;"⟩ ∈ gw := gw_t (tb_3 (List.mem_of_getElem? (i := 56) rfl)) rfl
theorem gw_603 : Cond.instantiable "java/lang/Throwable" 6 ∈ gw := gw_t (tb_3 (List.mem_of_getElem? (i := 57) rfl)) rfl
theorem gw_604 : Cond.native ⟨"java/lang/Throwable", "fillInStackTrace", "(I)Ljava/lang/Throwable;"⟩ ∈ gw := gw_t (tb_3 (List.mem_of_getElem? (i := 58) rfl)) (by decide +kernel)
theorem gw_606 : Cond.methodLink "HedgeCommittee$State" 75 ⟨"java/lang/IllegalArgumentException", "<init>", "(Ljava/lang/String;)V"⟩ ∈ gw := gw_t (tb_3 (List.mem_of_getElem? (i := 60) rfl)) rfl
theorem gw_607 : Cond.instanceMethod ⟨"java/lang/IllegalArgumentException", "<init>", "(Ljava/lang/String;)V"⟩ ∈ gw := gw_t (tb_3 (List.mem_of_getElem? (i := 61) rfl)) rfl
theorem gw_608 : Cond.code ⟨"java/lang/IllegalArgumentException", "<init>", "(Ljava/lang/String;)V"⟩ prog_23_method_2_code 2 none ∈ gw := gw_t (tb_3 (List.mem_of_getElem? (i := 62) rfl)) rfl
theorem gw_609 : Cond.methodLink "java/lang/IllegalArgumentException" 7 ⟨"java/lang/RuntimeException", "<init>", "(Ljava/lang/String;)V"⟩ ∈ gw := gw_t (tb_3 (List.mem_of_getElem? (i := 63) rfl)) rfl
theorem gw_610 : Cond.instanceMethod ⟨"java/lang/RuntimeException", "<init>", "(Ljava/lang/String;)V"⟩ ∈ gw := gw_t (tb_3 (List.mem_of_getElem? (i := 64) rfl)) rfl
theorem gw_611 : Cond.code ⟨"java/lang/RuntimeException", "<init>", "(Ljava/lang/String;)V"⟩ prog_30_method_2_code 2 none ∈ gw := gw_t (tb_3 (List.mem_of_getElem? (i := 65) rfl)) rfl
theorem gw_612 : Cond.methodLink "java/lang/RuntimeException" 7 ⟨"java/lang/Exception", "<init>", "(Ljava/lang/String;)V"⟩ ∈ gw := gw_t (tb_3 (List.mem_of_getElem? (i := 66) rfl)) rfl
theorem gw_613 : Cond.instanceMethod ⟨"java/lang/Exception", "<init>", "(Ljava/lang/String;)V"⟩ ∈ gw := gw_t (tb_3 (List.mem_of_getElem? (i := 67) rfl)) rfl
theorem gw_614 : Cond.code ⟨"java/lang/Exception", "<init>", "(Ljava/lang/String;)V"⟩ prog_22_method_2_code 2 none ∈ gw := gw_t (tb_3 (List.mem_of_getElem? (i := 68) rfl)) rfl
theorem gw_615 : Cond.methodLink "java/lang/Exception" 7 ⟨"java/lang/Throwable", "<init>", "(Ljava/lang/String;)V"⟩ ∈ gw := gw_t (tb_3 (List.mem_of_getElem? (i := 69) rfl)) rfl
theorem gw_616 : Cond.instanceMethod ⟨"java/lang/Throwable", "<init>", "(Ljava/lang/String;)V"⟩ ∈ gw := gw_t (tb_3 (List.mem_of_getElem? (i := 70) rfl)) rfl
theorem gw_617 : Cond.code ⟨"java/lang/Throwable", "<init>", "(Ljava/lang/String;)V"⟩ prog_37_method_2_code 2 none ∈ gw := gw_t (tb_3 (List.mem_of_getElem? (i := 71) rfl)) rfl
theorem gw_619 : Cond.fieldLink "java/lang/Throwable" 31 "java/lang/Throwable" "detailMessage" "Ljava/lang/String;" ∈ gw := gw_t (tb_3 (List.mem_of_getElem? (i := 73) rfl)) rfl
theorem gw_620 : Cond.fieldLink "java/lang/Throwable" 7 "java/lang/Throwable" "cause" "Ljava/lang/Throwable;" ∈ gw := gw_t (tb_3 (List.mem_of_getElem? (i := 74) rfl)) rfl
theorem gw_621 : Cond.fieldLink "java/lang/Throwable" 17 "java/lang/Throwable" "stackTrace" "[Ljava/lang/StackTraceElement;" ∈ gw := gw_t (tb_3 (List.mem_of_getElem? (i := 75) rfl)) rfl
theorem gw_622 : Cond.fieldLink "java/lang/Throwable" 24 "java/lang/Throwable" "suppressedExceptions" "Ljava/util/List;" ∈ gw := gw_t (tb_3 (List.mem_of_getElem? (i := 76) rfl)) rfl
theorem gw_627 : Cond.lays "java/lang/IllegalArgumentException" "java/lang/Throwable" "depth" "I" ∈ gw := gw_t (tb_3 (List.mem_of_getElem? (i := 81) rfl)) rfl
theorem gw_630 : Cond.superclass "java/lang/IllegalArgumentException" "java/lang/RuntimeException" ∈ gw := gw_t (tb_3 (List.mem_of_getElem? (i := 84) rfl)) rfl
theorem gw_631 : Cond.methodLink "HedgeCommittee$State" 78 ⟨"HedgeCommittee$Hedges", "isFull", "()Z"⟩ ∈ gw := gw_t (tb_3 (List.mem_of_getElem? (i := 85) rfl)) rfl
theorem gw_632 : Cond.instanceMethod ⟨"HedgeCommittee$Hedges", "isFull", "()Z"⟩ ∈ gw := gw_t (tb_3 (List.mem_of_getElem? (i := 86) rfl)) rfl
theorem gw_633 : Cond.selects "HedgeCommittee$Hedges" ⟨"HedgeCommittee$Hedges", "isFull", "()Z"⟩ ⟨"HedgeCommittee$Hedges", "isFull", "()Z"⟩ ∈ gw := gw_t (tb_3 (List.mem_of_getElem? (i := 87) rfl)) rfl
theorem gw_634 : Cond.code ⟨"HedgeCommittee$Hedges", "isFull", "()Z"⟩ prog_4_method_4_code 1 (some .boolean) ∈ gw := gw_t (tb_3 (List.mem_of_getElem? (i := 88) rfl)) rfl
theorem gw_635 : Cond.classLink "HedgeCommittee$State" 82 "java/lang/IllegalStateException" ∈ gw := gw_t (tb_3 (List.mem_of_getElem? (i := 89) rfl)) rfl
theorem gw_636 : Cond.instantiable "java/lang/IllegalStateException" 6 ∈ gw := gw_t (tb_3 (List.mem_of_getElem? (i := 90) rfl)) rfl
theorem gw_638 : Cond.selects "java/lang/IllegalStateException" ⟨"java/lang/Throwable", "fillInStackTrace", "(I)Ljava/lang/Throwable;"⟩ ⟨"java/lang/Throwable", "fillInStackTrace", "(I)Ljava/lang/Throwable;"⟩ ∈ gw := gw_t (tb_3 (List.mem_of_getElem? (i := 92) rfl)) rfl
theorem gw_639 : Cond.lays "java/lang/IllegalStateException" "java/lang/Throwable" "cause" "Ljava/lang/Throwable;" ∈ gw := gw_t (tb_3 (List.mem_of_getElem? (i := 93) rfl)) rfl
theorem gw_640 : Cond.lays "java/lang/IllegalStateException" "java/lang/Throwable" "stackTrace" "[Ljava/lang/StackTraceElement;" ∈ gw := gw_t (tb_3 (List.mem_of_getElem? (i := 94) rfl)) rfl
theorem gw_641 : Cond.lays "java/lang/IllegalStateException" "java/lang/Throwable" "suppressedExceptions" "Ljava/util/List;" ∈ gw := gw_t (tb_3 (List.mem_of_getElem? (i := 95) rfl)) rfl
theorem gw_642 : Cond.lays "java/lang/IllegalStateException" "java/lang/Throwable" "detailMessage" "Ljava/lang/String;" ∈ gw := gw_t (tb_3 (List.mem_of_getElem? (i := 96) rfl)) rfl
theorem gw_643 : Cond.lays "java/lang/IllegalStateException" "java/lang/Throwable" "backtrace" "Ljava/lang/Object;" ∈ gw := gw_t (tb_3 (List.mem_of_getElem? (i := 97) rfl)) rfl
theorem gw_645 : Cond.methodLink "HedgeCommittee$State" 86 ⟨"java/lang/IllegalStateException", "<init>", "(Ljava/lang/String;)V"⟩ ∈ gw := gw_t (tb_3 (List.mem_of_getElem? (i := 99) rfl)) rfl
theorem gw_646 : Cond.instanceMethod ⟨"java/lang/IllegalStateException", "<init>", "(Ljava/lang/String;)V"⟩ ∈ gw := gw_t (tb_3 (List.mem_of_getElem? (i := 100) rfl)) rfl
theorem gw_647 : Cond.code ⟨"java/lang/IllegalStateException", "<init>", "(Ljava/lang/String;)V"⟩ prog_24_method_2_code 2 none ∈ gw := gw_t (tb_3 (List.mem_of_getElem? (i := 101) rfl)) rfl
theorem gw_648 : Cond.methodLink "java/lang/IllegalStateException" 7 ⟨"java/lang/RuntimeException", "<init>", "(Ljava/lang/String;)V"⟩ ∈ gw := gw_t (tb_3 (List.mem_of_getElem? (i := 102) rfl)) rfl
theorem gw_649 : Cond.lays "java/lang/IllegalStateException" "java/lang/Throwable" "depth" "I" ∈ gw := gw_t (tb_3 (List.mem_of_getElem? (i := 103) rfl)) rfl
theorem gw_650 : Cond.superclass "java/lang/IllegalStateException" "java/lang/RuntimeException" ∈ gw := gw_t (tb_3 (List.mem_of_getElem? (i := 104) rfl)) rfl
theorem gw_651 : Cond.methodLink "HedgeCommittee$State" 87 ⟨"HedgeCommittee$Hedges", "add", "(III)I"⟩ ∈ gw := gw_t (tb_3 (List.mem_of_getElem? (i := 105) rfl)) rfl
theorem gw_652 : Cond.instanceMethod ⟨"HedgeCommittee$Hedges", "add", "(III)I"⟩ ∈ gw := gw_t (tb_3 (List.mem_of_getElem? (i := 106) rfl)) rfl
theorem gw_653 : Cond.selects "HedgeCommittee$Hedges" ⟨"HedgeCommittee$Hedges", "add", "(III)I"⟩ ⟨"HedgeCommittee$Hedges", "add", "(III)I"⟩ ∈ gw := gw_t (tb_3 (List.mem_of_getElem? (i := 107) rfl)) rfl
theorem gw_654 : Cond.code ⟨"HedgeCommittee$Hedges", "add", "(III)I"⟩ prog_4_method_5_code 5 (some .int) ∈ gw := gw_t (tb_3 (List.mem_of_getElem? (i := 108) rfl)) rfl
theorem gw_655 : Cond.methodLink "HedgeCommitteeLaw" 152 ⟨"HedgeCommitteeLaw", "propose", "(LHedgeCommittee;II[J)I"⟩ ∈ gw := gw_t (tb_3 (List.mem_of_getElem? (i := 109) rfl)) rfl
theorem gw_656 : Cond.static ⟨"HedgeCommitteeLaw", "propose", "(LHedgeCommittee;II[J)I"⟩ ∈ gw := gw_t (tb_3 (List.mem_of_getElem? (i := 110) rfl)) rfl
theorem gw_657 : Cond.codeWith ⟨"HedgeCommitteeLaw", "propose", "(LHedgeCommittee;II[J)I"⟩ method_4_code 5 (some .int) [(0, 10, 13, 13), (0, 10, 17, 15)] ∈ gw := gw_t (tb_3 (List.mem_of_getElem? (i := 111) rfl)) rfl
theorem gw_658 : Cond.methodLink "HedgeCommitteeLaw" 17 ⟨"HedgeCommittee", "propose", "(II)I"⟩ ∈ gw := gw_t (tb_3 (List.mem_of_getElem? (i := 112) rfl)) rfl
theorem gw_659 : Cond.instanceMethod ⟨"HedgeCommittee", "propose", "(II)I"⟩ ∈ gw := gw_t (tb_3 (List.mem_of_getElem? (i := 113) rfl)) rfl
theorem gw_660 : Cond.selects "HedgeCommittee" ⟨"HedgeCommittee", "propose", "(II)I"⟩ ⟨"HedgeCommittee", "propose", "(II)I"⟩ ∈ gw := gw_t (tb_3 (List.mem_of_getElem? (i := 114) rfl)) rfl
theorem gw_661 : Cond.code ⟨"HedgeCommittee", "propose", "(II)I"⟩ prog_1_method_3_code 4 (some .int) ∈ gw := gw_t (tb_3 (List.mem_of_getElem? (i := 115) rfl)) rfl
theorem gw_662 : Cond.methodLink "HedgeCommittee" 69 ⟨"HedgeCommittee$State", "newMain", "(II)I"⟩ ∈ gw := gw_t (tb_3 (List.mem_of_getElem? (i := 116) rfl)) rfl
theorem gw_663 : Cond.instanceMethod ⟨"HedgeCommittee$State", "newMain", "(II)I"⟩ ∈ gw := gw_t (tb_3 (List.mem_of_getElem? (i := 117) rfl)) rfl
theorem gw_664 : Cond.selects "HedgeCommittee$State" ⟨"HedgeCommittee$State", "newMain", "(II)I"⟩ ⟨"HedgeCommittee$State", "newMain", "(II)I"⟩ ∈ gw := gw_t (tb_3 (List.mem_of_getElem? (i := 118) rfl)) rfl
theorem gw_665 : Cond.code ⟨"HedgeCommittee$State", "newMain", "(II)I"⟩ prog_9_method_5_code 3 (some .int) ∈ gw := gw_t (tb_3 (List.mem_of_getElem? (i := 119) rfl)) rfl
theorem gw_666 : Cond.methodLink "HedgeCommittee$State" 91 ⟨"HedgeCommittee$State", "requireToneAndWeight", "(II)V"⟩ ∈ gw := gw_t (tb_3 (List.mem_of_getElem? (i := 120) rfl)) rfl
theorem gw_667 : Cond.static ⟨"HedgeCommittee$State", "requireToneAndWeight", "(II)V"⟩ ∈ gw := gw_t (tb_3 (List.mem_of_getElem? (i := 121) rfl)) rfl
theorem gw_668 : Cond.code ⟨"HedgeCommittee$State", "requireToneAndWeight", "(II)V"⟩ prog_9_method_14_code 2 none ∈ gw := gw_t (tb_3 (List.mem_of_getElem? (i := 122) rfl)) rfl
theorem gw_670 : Cond.methodLink "HedgeCommittee$State" 95 ⟨"HedgeCommittee$State", "requireRoom", "()V"⟩ ∈ gw := gw_t (tb_3 (List.mem_of_getElem? (i := 124) rfl)) rfl
theorem gw_672 : Cond.instanceMethod ⟨"HedgeCommittee$State", "requireRoom", "()V"⟩ ∈ gw := gw_t (tb_3 (List.mem_of_getElem? (i := 126) rfl)) rfl
theorem gw_673 : Cond.code ⟨"HedgeCommittee$State", "requireRoom", "()V"⟩ prog_9_method_13_code 1 none ∈ gw := gw_t (tb_3 (List.mem_of_getElem? (i := 127) rfl)) rfl
theorem gw_674 : Cond.methodLink "HedgeCommittee$State" 159 ⟨"HedgeCommittee$Motions", "isFull", "()Z"⟩ ∈ gw := gw_t (tb_3 (List.mem_of_getElem? (i := 128) rfl)) rfl
theorem gw_675 : Cond.instanceMethod ⟨"HedgeCommittee$Motions", "isFull", "()Z"⟩ ∈ gw := gw_t (tb_3 (List.mem_of_getElem? (i := 129) rfl)) rfl
theorem gw_676 : Cond.selects "HedgeCommittee$Motions" ⟨"HedgeCommittee$Motions", "isFull", "()Z"⟩ ⟨"HedgeCommittee$Motions", "isFull", "()Z"⟩ ∈ gw := gw_t (tb_3 (List.mem_of_getElem? (i := 130) rfl)) rfl
theorem gw_677 : Cond.code ⟨"HedgeCommittee$Motions", "isFull", "()Z"⟩ prog_7_method_3_code 1 (some .boolean) ∈ gw := gw_t (tb_3 (List.mem_of_getElem? (i := 131) rfl)) rfl
theorem gw_679 : Cond.methodLink "HedgeCommittee$State" 98 ⟨"HedgeCommittee$State", "begin", "(III)I"⟩ ∈ gw := gw_t (tb_3 (List.mem_of_getElem? (i := 133) rfl)) rfl
theorem gw_681 : Cond.instanceMethod ⟨"HedgeCommittee$State", "begin", "(III)I"⟩ ∈ gw := gw_t (tb_3 (List.mem_of_getElem? (i := 135) rfl)) rfl
theorem gw_682 : Cond.code ⟨"HedgeCommittee$State", "begin", "(III)I"⟩ prog_9_method_12_code 4 (some .int) ∈ gw := gw_t (tb_3 (List.mem_of_getElem? (i := 136) rfl)) rfl
theorem gw_683 : Cond.methodLink "HedgeCommittee$State" 158 ⟨"HedgeCommittee$Motions", "add", "(III)I"⟩ ∈ gw := gw_t (tb_3 (List.mem_of_getElem? (i := 137) rfl)) rfl
theorem gw_684 : Cond.instanceMethod ⟨"HedgeCommittee$Motions", "add", "(III)I"⟩ ∈ gw := gw_t (tb_3 (List.mem_of_getElem? (i := 138) rfl)) rfl
theorem gw_685 : Cond.selects "HedgeCommittee$Motions" ⟨"HedgeCommittee$Motions", "add", "(III)I"⟩ ⟨"HedgeCommittee$Motions", "add", "(III)I"⟩ ∈ gw := gw_t (tb_3 (List.mem_of_getElem? (i := 139) rfl)) rfl
theorem gw_686 : Cond.code ⟨"HedgeCommittee$Motions", "add", "(III)I"⟩ prog_7_method_5_code 5 (some .int) ∈ gw := gw_t (tb_3 (List.mem_of_getElem? (i := 140) rfl)) rfl
theorem gw_687 : Cond.methodLink "HedgeCommitteeLaw" 156 ⟨"HedgeCommitteeLaw", "amend", "(LHedgeCommittee;III[J)I"⟩ ∈ gw := gw_t (tb_3 (List.mem_of_getElem? (i := 141) rfl)) rfl
theorem gw_688 : Cond.static ⟨"HedgeCommitteeLaw", "amend", "(LHedgeCommittee;III[J)I"⟩ ∈ gw := gw_t (tb_3 (List.mem_of_getElem? (i := 142) rfl)) rfl
theorem gw_689 : Cond.codeWith ⟨"HedgeCommitteeLaw", "amend", "(LHedgeCommittee;III[J)I"⟩ method_5_code 6 (some .int) [(0, 12, 15, 24), (0, 12, 19, 13), (0, 12, 23, 15)] ∈ gw := gw_t (tb_3 (List.mem_of_getElem? (i := 143) rfl)) rfl
theorem gw_690 : Cond.classLink "HedgeCommitteeLaw" 24 "java/util/NoSuchElementException" ∈ gw := gw_t (tb_3 (List.mem_of_getElem? (i := 144) rfl)) rfl
theorem gw_691 : Cond.methodLink "HedgeCommitteeLaw" 21 ⟨"HedgeCommittee", "amend", "(III)I"⟩ ∈ gw := gw_t (tb_3 (List.mem_of_getElem? (i := 145) rfl)) rfl
theorem gw_692 : Cond.instanceMethod ⟨"HedgeCommittee", "amend", "(III)I"⟩ ∈ gw := gw_t (tb_3 (List.mem_of_getElem? (i := 146) rfl)) rfl
theorem gw_693 : Cond.selects "HedgeCommittee" ⟨"HedgeCommittee", "amend", "(III)I"⟩ ⟨"HedgeCommittee", "amend", "(III)I"⟩ ∈ gw := gw_t (tb_3 (List.mem_of_getElem? (i := 147) rfl)) rfl
theorem gw_694 : Cond.code ⟨"HedgeCommittee", "amend", "(III)I"⟩ prog_1_method_4_code 5 (some .int) ∈ gw := gw_t (tb_3 (List.mem_of_getElem? (i := 148) rfl)) rfl
theorem gw_695 : Cond.methodLink "HedgeCommittee" 73 ⟨"HedgeCommittee$State", "newAmendment", "(III)I"⟩ ∈ gw := gw_t (tb_3 (List.mem_of_getElem? (i := 149) rfl)) rfl
theorem gw_696 : Cond.instanceMethod ⟨"HedgeCommittee$State", "newAmendment", "(III)I"⟩ ∈ gw := gw_t (tb_3 (List.mem_of_getElem? (i := 150) rfl)) rfl
theorem gw_697 : Cond.selects "HedgeCommittee$State" ⟨"HedgeCommittee$State", "newAmendment", "(III)I"⟩ ⟨"HedgeCommittee$State", "newAmendment", "(III)I"⟩ ∈ gw := gw_t (tb_3 (List.mem_of_getElem? (i := 151) rfl)) rfl
theorem gw_698 : Cond.code ⟨"HedgeCommittee$State", "newAmendment", "(III)I"⟩ prog_9_method_6_code 5 (some .int) ∈ gw := gw_t (tb_3 (List.mem_of_getElem? (i := 152) rfl)) rfl
theorem gw_699 : Cond.methodLink "HedgeCommittee$State" 101 ⟨"HedgeCommittee$Motions", "require", "(I)I"⟩ ∈ gw := gw_t (tb_3 (List.mem_of_getElem? (i := 153) rfl)) rfl
theorem gw_700 : Cond.instanceMethod ⟨"HedgeCommittee$Motions", "require", "(I)I"⟩ ∈ gw := gw_t (tb_3 (List.mem_of_getElem? (i := 154) rfl)) rfl
theorem gw_701 : Cond.selects "HedgeCommittee$Motions" ⟨"HedgeCommittee$Motions", "require", "(I)I"⟩ ⟨"HedgeCommittee$Motions", "require", "(I)I"⟩ ∈ gw := gw_t (tb_3 (List.mem_of_getElem? (i := 155) rfl)) rfl
theorem gw_702 : Cond.code ⟨"HedgeCommittee$Motions", "require", "(I)I"⟩ prog_7_method_4_code 3 (some .int) ∈ gw := gw_t (tb_3 (List.mem_of_getElem? (i := 156) rfl)) rfl
theorem gw_703 : Cond.classLink "HedgeCommittee$Motions" 37 "java/util/NoSuchElementException" ∈ gw := gw_t (tb_3 (List.mem_of_getElem? (i := 157) rfl)) rfl
theorem gw_704 : Cond.instantiable "java/util/NoSuchElementException" 6 ∈ gw := gw_t (tb_3 (List.mem_of_getElem? (i := 158) rfl)) rfl
theorem gw_706 : Cond.selects "java/util/NoSuchElementException" ⟨"java/lang/Throwable", "fillInStackTrace", "(I)Ljava/lang/Throwable;"⟩ ⟨"java/lang/Throwable", "fillInStackTrace", "(I)Ljava/lang/Throwable;"⟩ ∈ gw := gw_t (tb_3 (List.mem_of_getElem? (i := 160) rfl)) rfl
theorem gw_707 : Cond.lays "java/util/NoSuchElementException" "java/lang/Throwable" "cause" "Ljava/lang/Throwable;" ∈ gw := gw_t (tb_3 (List.mem_of_getElem? (i := 161) rfl)) rfl
theorem gw_708 : Cond.lays "java/util/NoSuchElementException" "java/lang/Throwable" "stackTrace" "[Ljava/lang/StackTraceElement;" ∈ gw := gw_t (tb_3 (List.mem_of_getElem? (i := 162) rfl)) rfl
theorem gw_709 : Cond.lays "java/util/NoSuchElementException" "java/lang/Throwable" "suppressedExceptions" "Ljava/util/List;" ∈ gw := gw_t (tb_3 (List.mem_of_getElem? (i := 163) rfl)) rfl
theorem gw_710 : Cond.lays "java/util/NoSuchElementException" "java/lang/Throwable" "detailMessage" "Ljava/lang/String;" ∈ gw := gw_t (tb_3 (List.mem_of_getElem? (i := 164) rfl)) rfl
theorem gw_711 : Cond.lays "java/util/NoSuchElementException" "java/lang/Throwable" "backtrace" "Ljava/lang/Object;" ∈ gw := gw_t (tb_3 (List.mem_of_getElem? (i := 165) rfl)) rfl
theorem gw_713 : Cond.methodLink "HedgeCommittee$Motions" 41 ⟨"java/util/NoSuchElementException", "<init>", "(Ljava/lang/String;)V"⟩ ∈ gw := gw_t (tb_3 (List.mem_of_getElem? (i := 167) rfl)) rfl
theorem gw_714 : Cond.instanceMethod ⟨"java/util/NoSuchElementException", "<init>", "(Ljava/lang/String;)V"⟩ ∈ gw := gw_t (tb_3 (List.mem_of_getElem? (i := 168) rfl)) rfl
theorem gw_715 : Cond.code ⟨"java/util/NoSuchElementException", "<init>", "(Ljava/lang/String;)V"⟩ prog_47_method_4_code 2 none ∈ gw := gw_t (tb_3 (List.mem_of_getElem? (i := 169) rfl)) rfl
theorem gw_716 : Cond.methodLink "java/util/NoSuchElementException" 13 ⟨"java/lang/RuntimeException", "<init>", "(Ljava/lang/String;)V"⟩ ∈ gw := gw_t (tb_3 (List.mem_of_getElem? (i := 170) rfl)) rfl
theorem gw_717 : Cond.lays "java/util/NoSuchElementException" "java/lang/Throwable" "depth" "I" ∈ gw := gw_t (tb_3 (List.mem_of_getElem? (i := 171) rfl)) rfl
theorem gw_718 : Cond.superclass "java/util/NoSuchElementException" "java/lang/RuntimeException" ∈ gw := gw_t (tb_3 (List.mem_of_getElem? (i := 172) rfl)) rfl
theorem gw_719 : Cond.methodLink "HedgeCommitteeLaw" 159 ⟨"HedgeCommitteeLaw", "prune", "(LHedgeCommittee;II[J)I"⟩ ∈ gw := gw_t (tb_3 (List.mem_of_getElem? (i := 173) rfl)) rfl
theorem gw_720 : Cond.static ⟨"HedgeCommitteeLaw", "prune", "(LHedgeCommittee;II[J)I"⟩ ∈ gw := gw_t (tb_3 (List.mem_of_getElem? (i := 174) rfl)) rfl
theorem gw_721 : Cond.codeWith ⟨"HedgeCommitteeLaw", "prune", "(LHedgeCommittee;II[J)I"⟩ method_6_code 5 (some .int) [(0, 10, 13, 24), (0, 10, 17, 13)] ∈ gw := gw_t (tb_3 (List.mem_of_getElem? (i := 175) rfl)) rfl
theorem gw_722 : Cond.methodLink "HedgeCommitteeLaw" 26 ⟨"HedgeCommittee", "prune", "(II)I"⟩ ∈ gw := gw_t (tb_3 (List.mem_of_getElem? (i := 176) rfl)) rfl
theorem gw_723 : Cond.instanceMethod ⟨"HedgeCommittee", "prune", "(II)I"⟩ ∈ gw := gw_t (tb_3 (List.mem_of_getElem? (i := 177) rfl)) rfl
theorem gw_724 : Cond.selects "HedgeCommittee" ⟨"HedgeCommittee", "prune", "(II)I"⟩ ⟨"HedgeCommittee", "prune", "(II)I"⟩ ∈ gw := gw_t (tb_3 (List.mem_of_getElem? (i := 178) rfl)) rfl
theorem gw_725 : Cond.code ⟨"HedgeCommittee", "prune", "(II)I"⟩ prog_1_method_5_code 4 (some .int) ∈ gw := gw_t (tb_3 (List.mem_of_getElem? (i := 179) rfl)) rfl
theorem gw_726 : Cond.methodLink "HedgeCommittee" 76 ⟨"HedgeCommittee$State", "cutBack", "(II)I"⟩ ∈ gw := gw_t (tb_3 (List.mem_of_getElem? (i := 180) rfl)) rfl
theorem gw_727 : Cond.instanceMethod ⟨"HedgeCommittee$State", "cutBack", "(II)I"⟩ ∈ gw := gw_t (tb_3 (List.mem_of_getElem? (i := 181) rfl)) rfl
theorem gw_728 : Cond.selects "HedgeCommittee$State" ⟨"HedgeCommittee$State", "cutBack", "(II)I"⟩ ⟨"HedgeCommittee$State", "cutBack", "(II)I"⟩ ∈ gw := gw_t (tb_3 (List.mem_of_getElem? (i := 182) rfl)) rfl
theorem gw_729 : Cond.code ⟨"HedgeCommittee$State", "cutBack", "(II)I"⟩ prog_9_method_8_code 7 (some .int) ∈ gw := gw_t (tb_3 (List.mem_of_getElem? (i := 183) rfl)) rfl
theorem gw_731 : Cond.methodLink "HedgeCommittee$State" 122 ⟨"HedgeCommittee$Motions", "depthOf", "(I)I"⟩ ∈ gw := gw_t (tb_3 (List.mem_of_getElem? (i := 185) rfl)) rfl
theorem gw_732 : Cond.methodLink "HedgeCommittee$State" 128 ⟨"HedgeCommittee$Motions", "isInBranch", "(II)Z"⟩ ∈ gw := gw_t (tb_3 (List.mem_of_getElem? (i := 186) rfl)) rfl
theorem gw_733 : Cond.methodLink "HedgeCommittee$State" 132 ⟨"HedgeCommittee$Motions", "removeTip", "(I)V"⟩ ∈ gw := gw_t (tb_3 (List.mem_of_getElem? (i := 187) rfl)) rfl
theorem gw_734 : Cond.instanceMethod ⟨"HedgeCommittee$Motions", "removeTip", "(I)V"⟩ ∈ gw := gw_t (tb_3 (List.mem_of_getElem? (i := 188) rfl)) rfl
theorem gw_735 : Cond.selects "HedgeCommittee$Motions" ⟨"HedgeCommittee$Motions", "removeTip", "(I)V"⟩ ⟨"HedgeCommittee$Motions", "removeTip", "(I)V"⟩ ∈ gw := gw_t (tb_3 (List.mem_of_getElem? (i := 189) rfl)) rfl
theorem gw_736 : Cond.code ⟨"HedgeCommittee$Motions", "removeTip", "(I)V"⟩ prog_7_method_6_code 3 none ∈ gw := gw_t (tb_3 (List.mem_of_getElem? (i := 190) rfl)) rfl
theorem gw_737 : Cond.methodLink "HedgeCommitteeLaw" 162 ⟨"HedgeCommitteeLaw", "regrow", "(LHedgeCommittee;I[J)I"⟩ ∈ gw := gw_t (tb_3 (List.mem_of_getElem? (i := 191) rfl)) rfl
theorem gw_738 : Cond.static ⟨"HedgeCommitteeLaw", "regrow", "(LHedgeCommittee;I[J)I"⟩ ∈ gw := gw_t (tb_3 (List.mem_of_getElem? (i := 192) rfl)) rfl
theorem gw_739 : Cond.codeWith ⟨"HedgeCommitteeLaw", "regrow", "(LHedgeCommittee;I[J)I"⟩ method_7_code 4 (some .int) [(0, 9, 12, 24), (0, 9, 15, 15)] ∈ gw := gw_t (tb_3 (List.mem_of_getElem? (i := 193) rfl)) rfl
theorem gw_740 : Cond.methodLink "HedgeCommitteeLaw" 29 ⟨"HedgeCommittee", "regrow", "(I)I"⟩ ∈ gw := gw_t (tb_3 (List.mem_of_getElem? (i := 194) rfl)) rfl
theorem gw_741 : Cond.instanceMethod ⟨"HedgeCommittee", "regrow", "(I)I"⟩ ∈ gw := gw_t (tb_3 (List.mem_of_getElem? (i := 195) rfl)) rfl
theorem gw_742 : Cond.selects "HedgeCommittee" ⟨"HedgeCommittee", "regrow", "(I)I"⟩ ⟨"HedgeCommittee", "regrow", "(I)I"⟩ ∈ gw := gw_t (tb_3 (List.mem_of_getElem? (i := 196) rfl)) rfl
theorem gw_743 : Cond.code ⟨"HedgeCommittee", "regrow", "(I)I"⟩ prog_1_method_6_code 3 (some .int) ∈ gw := gw_t (tb_3 (List.mem_of_getElem? (i := 197) rfl)) rfl
theorem gw_744 : Cond.methodLink "HedgeCommittee" 79 ⟨"HedgeCommittee$State", "growTip", "(I)I"⟩ ∈ gw := gw_t (tb_3 (List.mem_of_getElem? (i := 198) rfl)) rfl
theorem gw_745 : Cond.instanceMethod ⟨"HedgeCommittee$State", "growTip", "(I)I"⟩ ∈ gw := gw_t (tb_3 (List.mem_of_getElem? (i := 199) rfl)) rfl
theorem gw_746 : Cond.selects "HedgeCommittee$State" ⟨"HedgeCommittee$State", "growTip", "(I)I"⟩ ⟨"HedgeCommittee$State", "growTip", "(I)I"⟩ ∈ gw := gw_t (tb_3 (List.mem_of_getElem? (i := 200) rfl)) rfl
theorem gw_747 : Cond.code ⟨"HedgeCommittee$State", "growTip", "(I)I"⟩ prog_9_method_7_code 4 (some .int) ∈ gw := gw_t (tb_3 (List.mem_of_getElem? (i := 201) rfl)) rfl
theorem gw_748 : Cond.methodLink "HedgeCommittee$State" 105 ⟨"HedgeCommittee$Motions", "lastTipOf", "(I)I"⟩ ∈ gw := gw_t (tb_3 (List.mem_of_getElem? (i := 202) rfl)) rfl
theorem gw_749 : Cond.instanceMethod ⟨"HedgeCommittee$Motions", "lastTipOf", "(I)I"⟩ ∈ gw := gw_t (tb_3 (List.mem_of_getElem? (i := 203) rfl)) rfl
theorem gw_750 : Cond.selects "HedgeCommittee$Motions" ⟨"HedgeCommittee$Motions", "lastTipOf", "(I)I"⟩ ⟨"HedgeCommittee$Motions", "lastTipOf", "(I)I"⟩ ∈ gw := gw_t (tb_3 (List.mem_of_getElem? (i := 204) rfl)) rfl
theorem gw_751 : Cond.code ⟨"HedgeCommittee$Motions", "lastTipOf", "(I)I"⟩ prog_7_method_11_code 3 (some .int) ∈ gw := gw_t (tb_3 (List.mem_of_getElem? (i := 205) rfl)) rfl
theorem gw_752 : Cond.methodLink "HedgeCommittee$Motions" 44 ⟨"HedgeCommittee$Motions", "isInBranch", "(II)Z"⟩ ∈ gw := gw_t (tb_3 (List.mem_of_getElem? (i := 206) rfl)) rfl
theorem gw_753 : Cond.methodLink "HedgeCommittee$Motions" 48 ⟨"HedgeCommittee$Motions", "hasAmendments", "(I)Z"⟩ ∈ gw := gw_t (tb_3 (List.mem_of_getElem? (i := 207) rfl)) rfl
theorem gw_754 : Cond.instanceMethod ⟨"HedgeCommittee$Motions", "hasAmendments", "(I)Z"⟩ ∈ gw := gw_t (tb_3 (List.mem_of_getElem? (i := 208) rfl)) rfl
theorem gw_755 : Cond.selects "HedgeCommittee$Motions" ⟨"HedgeCommittee$Motions", "hasAmendments", "(I)Z"⟩ ⟨"HedgeCommittee$Motions", "hasAmendments", "(I)Z"⟩ ∈ gw := gw_t (tb_3 (List.mem_of_getElem? (i := 209) rfl)) rfl
theorem gw_756 : Cond.code ⟨"HedgeCommittee$Motions", "hasAmendments", "(I)Z"⟩ prog_7_method_7_code 3 (some .boolean) ∈ gw := gw_t (tb_3 (List.mem_of_getElem? (i := 210) rfl)) rfl
theorem gw_757 : Cond.methodLink "HedgeCommittee$State" 114 ⟨"java/lang/Math", "max", "(II)I"⟩ ∈ gw := gw_t (tb_3 (List.mem_of_getElem? (i := 211) rfl)) rfl
theorem gw_758 : Cond.methodLink "HedgeCommitteeLaw" 166 ⟨"HedgeCommitteeLaw", "vote", "(LHedgeCommittee;I[J)I"⟩ ∈ gw := gw_t (tb_3 (List.mem_of_getElem? (i := 212) rfl)) rfl
theorem gw_759 : Cond.static ⟨"HedgeCommitteeLaw", "vote", "(LHedgeCommittee;I[J)I"⟩ ∈ gw := gw_t (tb_3 (List.mem_of_getElem? (i := 213) rfl)) rfl
theorem gw_760 : Cond.codeWith ⟨"HedgeCommitteeLaw", "vote", "(LHedgeCommittee;I[J)I"⟩ method_8_code 4 (some .int) [(0, 9, 12, 24), (0, 9, 15, 15)] ∈ gw := gw_t (tb_3 (List.mem_of_getElem? (i := 214) rfl)) rfl
theorem gw_761 : Cond.methodLink "HedgeCommitteeLaw" 33 ⟨"HedgeCommittee", "vote", "(I)C"⟩ ∈ gw := gw_t (tb_3 (List.mem_of_getElem? (i := 215) rfl)) rfl
theorem gw_762 : Cond.instanceMethod ⟨"HedgeCommittee", "vote", "(I)C"⟩ ∈ gw := gw_t (tb_3 (List.mem_of_getElem? (i := 216) rfl)) rfl
theorem gw_763 : Cond.selects "HedgeCommittee" ⟨"HedgeCommittee", "vote", "(I)C"⟩ ⟨"HedgeCommittee", "vote", "(I)C"⟩ ∈ gw := gw_t (tb_3 (List.mem_of_getElem? (i := 217) rfl)) rfl
theorem gw_764 : Cond.code ⟨"HedgeCommittee", "vote", "(I)C"⟩ prog_1_method_7_code 3 (some .char) ∈ gw := gw_t (tb_3 (List.mem_of_getElem? (i := 218) rfl)) rfl
theorem gw_765 : Cond.methodLink "HedgeCommittee" 83 ⟨"HedgeCommittee$State", "holdVote", "(I)C"⟩ ∈ gw := gw_t (tb_3 (List.mem_of_getElem? (i := 219) rfl)) rfl
theorem gw_766 : Cond.instanceMethod ⟨"HedgeCommittee$State", "holdVote", "(I)C"⟩ ∈ gw := gw_t (tb_3 (List.mem_of_getElem? (i := 220) rfl)) rfl
theorem gw_767 : Cond.selects "HedgeCommittee$State" ⟨"HedgeCommittee$State", "holdVote", "(I)C"⟩ ⟨"HedgeCommittee$State", "holdVote", "(I)C"⟩ ∈ gw := gw_t (tb_3 (List.mem_of_getElem? (i := 221) rfl)) rfl
theorem gw_768 : Cond.code ⟨"HedgeCommittee$State", "holdVote", "(I)C"⟩ prog_9_method_9_code 4 (some .char) ∈ gw := gw_t (tb_3 (List.mem_of_getElem? (i := 222) rfl)) rfl
theorem gw_770 : Cond.methodLink "HedgeCommittee$State" 139 ⟨"HedgeCommittee$Motions", "hasAmendments", "(I)Z"⟩ ∈ gw := gw_t (tb_3 (List.mem_of_getElem? (i := 224) rfl)) rfl
theorem gw_772 : Cond.methodLink "HedgeCommittee$State" 144 ⟨"HedgeCommittee$Hedges", "decideOn", "(I)C"⟩ ∈ gw := gw_t (tb_3 (List.mem_of_getElem? (i := 226) rfl)) rfl
theorem gw_773 : Cond.instanceMethod ⟨"HedgeCommittee$Hedges", "decideOn", "(I)C"⟩ ∈ gw := gw_t (tb_3 (List.mem_of_getElem? (i := 227) rfl)) rfl
theorem gw_774 : Cond.selects "HedgeCommittee$Hedges" ⟨"HedgeCommittee$Hedges", "decideOn", "(I)C"⟩ ⟨"HedgeCommittee$Hedges", "decideOn", "(I)C"⟩ ∈ gw := gw_t (tb_3 (List.mem_of_getElem? (i := 228) rfl)) rfl
theorem gw_775 : Cond.code ⟨"HedgeCommittee$Hedges", "decideOn", "(I)C"⟩ prog_4_method_10_code 4 (some .char) ∈ gw := gw_t (tb_3 (List.mem_of_getElem? (i := 229) rfl)) rfl
theorem gw_776 : Cond.methodLink "HedgeCommittee$Hedges" 35 ⟨"HedgeCommittee$Hedges", "vetoes", "(II)Z"⟩ ∈ gw := gw_t (tb_3 (List.mem_of_getElem? (i := 230) rfl)) rfl
theorem gw_777 : Cond.instanceMethod ⟨"HedgeCommittee$Hedges", "vetoes", "(II)Z"⟩ ∈ gw := gw_t (tb_3 (List.mem_of_getElem? (i := 231) rfl)) rfl
theorem gw_778 : Cond.selects "HedgeCommittee$Hedges" ⟨"HedgeCommittee$Hedges", "vetoes", "(II)Z"⟩ ⟨"HedgeCommittee$Hedges", "vetoes", "(II)Z"⟩ ∈ gw := gw_t (tb_3 (List.mem_of_getElem? (i := 232) rfl)) rfl
theorem gw_779 : Cond.code ⟨"HedgeCommittee$Hedges", "vetoes", "(II)Z"⟩ prog_4_method_7_code 3 (some .boolean) ∈ gw := gw_t (tb_3 (List.mem_of_getElem? (i := 233) rfl)) rfl
theorem gw_780 : Cond.methodLink "HedgeCommittee$Hedges" 31 ⟨"HedgeCommittee$Hedges", "difference", "(II)I"⟩ ∈ gw := gw_t (tb_3 (List.mem_of_getElem? (i := 234) rfl)) rfl
theorem gw_781 : Cond.instanceMethod ⟨"HedgeCommittee$Hedges", "difference", "(II)I"⟩ ∈ gw := gw_t (tb_3 (List.mem_of_getElem? (i := 235) rfl)) rfl
theorem gw_782 : Cond.selects "HedgeCommittee$Hedges" ⟨"HedgeCommittee$Hedges", "difference", "(II)I"⟩ ⟨"HedgeCommittee$Hedges", "difference", "(II)I"⟩ ∈ gw := gw_t (tb_3 (List.mem_of_getElem? (i := 236) rfl)) rfl
theorem gw_783 : Cond.code ⟨"HedgeCommittee$Hedges", "difference", "(II)I"⟩ prog_4_method_6_code 4 (some .int) ∈ gw := gw_t (tb_3 (List.mem_of_getElem? (i := 237) rfl)) rfl
theorem gw_784 : Cond.methodLink "HedgeCommittee$Hedges" 39 ⟨"HedgeCommittee$Hedges", "leavesFor", "(I)I"⟩ ∈ gw := gw_t (tb_3 (List.mem_of_getElem? (i := 238) rfl)) rfl
theorem gw_785 : Cond.instanceMethod ⟨"HedgeCommittee$Hedges", "leavesFor", "(I)I"⟩ ∈ gw := gw_t (tb_3 (List.mem_of_getElem? (i := 239) rfl)) rfl
theorem gw_786 : Cond.selects "HedgeCommittee$Hedges" ⟨"HedgeCommittee$Hedges", "leavesFor", "(I)I"⟩ ⟨"HedgeCommittee$Hedges", "leavesFor", "(I)I"⟩ ∈ gw := gw_t (tb_4 (List.mem_of_getElem? (i := 0) rfl)) rfl
theorem gw_787 : Cond.code ⟨"HedgeCommittee$Hedges", "leavesFor", "(I)I"⟩ prog_4_method_8_code 4 (some .int) ∈ gw := gw_t (tb_4 (List.mem_of_getElem? (i := 1) rfl)) rfl
theorem gw_788 : Cond.methodLink "HedgeCommittee$Hedges" 43 ⟨"HedgeCommittee$Hedges", "totalLeaves", "()I"⟩ ∈ gw := gw_t (tb_4 (List.mem_of_getElem? (i := 2) rfl)) rfl
theorem gw_789 : Cond.instanceMethod ⟨"HedgeCommittee$Hedges", "totalLeaves", "()I"⟩ ∈ gw := gw_t (tb_4 (List.mem_of_getElem? (i := 3) rfl)) rfl
theorem gw_790 : Cond.selects "HedgeCommittee$Hedges" ⟨"HedgeCommittee$Hedges", "totalLeaves", "()I"⟩ ⟨"HedgeCommittee$Hedges", "totalLeaves", "()I"⟩ ∈ gw := gw_t (tb_4 (List.mem_of_getElem? (i := 4) rfl)) rfl
theorem gw_791 : Cond.code ⟨"HedgeCommittee$Hedges", "totalLeaves", "()I"⟩ prog_4_method_9_code 3 (some .int) ∈ gw := gw_t (tb_4 (List.mem_of_getElem? (i := 5) rfl)) rfl
theorem gw_792 : Cond.methodLink "HedgeCommittee$State" 151 ⟨"HedgeCommittee$State", "bookOutcome", "(CII)V"⟩ ∈ gw := gw_t (tb_4 (List.mem_of_getElem? (i := 6) rfl)) rfl
theorem gw_794 : Cond.instanceMethod ⟨"HedgeCommittee$State", "bookOutcome", "(CII)V"⟩ ∈ gw := gw_t (tb_4 (List.mem_of_getElem? (i := 8) rfl)) rfl
theorem gw_795 : Cond.code ⟨"HedgeCommittee$State", "bookOutcome", "(CII)V"⟩ prog_9_method_10_code 4 none ∈ gw := gw_t (tb_4 (List.mem_of_getElem? (i := 9) rfl)) rfl
theorem gw_796 : Cond.methodLink "HedgeCommitteeLaw" 177 ⟨"HedgeCommitteeLaw", "leaves", "(LHedgeCommittee;I[J)I"⟩ ∈ gw := gw_t (tb_4 (List.mem_of_getElem? (i := 10) rfl)) rfl
theorem gw_797 : Cond.static ⟨"HedgeCommitteeLaw", "leaves", "(LHedgeCommittee;I[J)I"⟩ ∈ gw := gw_t (tb_4 (List.mem_of_getElem? (i := 11) rfl)) rfl
theorem gw_798 : Cond.codeWith ⟨"HedgeCommitteeLaw", "leaves", "(LHedgeCommittee;I[J)I"⟩ method_9_code 4 (some .int) [(0, 9, 12, 40)] ∈ gw := gw_t (tb_4 (List.mem_of_getElem? (i := 12) rfl)) rfl
theorem gw_799 : Cond.classLink "HedgeCommitteeLaw" 40 "java/lang/IndexOutOfBoundsException" ∈ gw := gw_t (tb_4 (List.mem_of_getElem? (i := 13) rfl)) rfl
theorem gw_800 : Cond.instantiable "java/lang/ArrayIndexOutOfBoundsException" 6 ∈ gw := gw_t (tb_4 (List.mem_of_getElem? (i := 14) rfl)) rfl
theorem gw_801 : Cond.instanceMethod ⟨"java/lang/ArrayIndexOutOfBoundsException", "<init>", "(Ljava/lang/String;)V"⟩ ∈ gw := gw_t (tb_4 (List.mem_of_getElem? (i := 15) rfl)) rfl
theorem gw_802 : Cond.code ⟨"java/lang/ArrayIndexOutOfBoundsException", "<init>", "(Ljava/lang/String;)V"⟩ prog_17_method_2_code 2 none ∈ gw := gw_t (tb_4 (List.mem_of_getElem? (i := 16) rfl)) rfl
theorem gw_803 : Cond.methodLink "java/lang/ArrayIndexOutOfBoundsException" 7 ⟨"java/lang/IndexOutOfBoundsException", "<init>", "(Ljava/lang/String;)V"⟩ ∈ gw := gw_t (tb_4 (List.mem_of_getElem? (i := 17) rfl)) rfl
theorem gw_804 : Cond.instanceMethod ⟨"java/lang/IndexOutOfBoundsException", "<init>", "(Ljava/lang/String;)V"⟩ ∈ gw := gw_t (tb_4 (List.mem_of_getElem? (i := 18) rfl)) rfl
theorem gw_805 : Cond.code ⟨"java/lang/IndexOutOfBoundsException", "<init>", "(Ljava/lang/String;)V"⟩ prog_25_method_2_code 2 none ∈ gw := gw_t (tb_4 (List.mem_of_getElem? (i := 19) rfl)) rfl
theorem gw_806 : Cond.methodLink "java/lang/IndexOutOfBoundsException" 7 ⟨"java/lang/RuntimeException", "<init>", "(Ljava/lang/String;)V"⟩ ∈ gw := gw_t (tb_4 (List.mem_of_getElem? (i := 20) rfl)) rfl
theorem gw_807 : Cond.lays "java/lang/ArrayIndexOutOfBoundsException" "java/lang/Throwable" "backtrace" "Ljava/lang/Object;" ∈ gw := gw_t (tb_4 (List.mem_of_getElem? (i := 21) rfl)) rfl
theorem gw_808 : Cond.lays "java/lang/ArrayIndexOutOfBoundsException" "java/lang/Throwable" "detailMessage" "Ljava/lang/String;" ∈ gw := gw_t (tb_4 (List.mem_of_getElem? (i := 22) rfl)) rfl
theorem gw_809 : Cond.lays "java/lang/ArrayIndexOutOfBoundsException" "java/lang/Throwable" "cause" "Ljava/lang/Throwable;" ∈ gw := gw_t (tb_4 (List.mem_of_getElem? (i := 23) rfl)) rfl
theorem gw_810 : Cond.lays "java/lang/ArrayIndexOutOfBoundsException" "java/lang/Throwable" "stackTrace" "[Ljava/lang/StackTraceElement;" ∈ gw := gw_t (tb_4 (List.mem_of_getElem? (i := 24) rfl)) rfl
theorem gw_811 : Cond.lays "java/lang/ArrayIndexOutOfBoundsException" "java/lang/Throwable" "depth" "I" ∈ gw := gw_t (tb_4 (List.mem_of_getElem? (i := 25) rfl)) rfl
theorem gw_812 : Cond.lays "java/lang/ArrayIndexOutOfBoundsException" "java/lang/Throwable" "suppressedExceptions" "Ljava/util/List;" ∈ gw := gw_t (tb_4 (List.mem_of_getElem? (i := 26) rfl)) rfl
theorem gw_813 : Cond.superclass "java/lang/ArrayIndexOutOfBoundsException" "java/lang/IndexOutOfBoundsException" ∈ gw := gw_t (tb_4 (List.mem_of_getElem? (i := 27) rfl)) rfl
theorem gw_817 : Cond.selects "java/lang/ArrayIndexOutOfBoundsException" ⟨"java/lang/Throwable", "fillInStackTrace", "(I)Ljava/lang/Throwable;"⟩ ⟨"java/lang/Throwable", "fillInStackTrace", "(I)Ljava/lang/Throwable;"⟩ ∈ gw := gw_t (tb_4 (List.mem_of_getElem? (i := 31) rfl)) rfl
theorem gw_818 : Cond.instantiable "java/lang/String" 4 ∈ gw := gw_t (tb_4 (List.mem_of_getElem? (i := 32) rfl)) rfl
theorem gw_819 : Cond.laysFinal "java/lang/String" "java/lang/String" "value" "[B" ∈ gw := gw_t (tb_4 (List.mem_of_getElem? (i := 33) rfl)) rfl
theorem gw_821 : Cond.laysFinal "java/lang/String" "java/lang/String" "coder" "B" ∈ gw := gw_t (tb_4 (List.mem_of_getElem? (i := 35) rfl)) rfl
theorem gw_823 : Cond.methodLink "HedgeCommitteeLaw" 37 ⟨"HedgeCommittee", "leaves", "(I)I"⟩ ∈ gw := gw_t (tb_4 (List.mem_of_getElem? (i := 37) rfl)) rfl
theorem gw_824 : Cond.instanceMethod ⟨"HedgeCommittee", "leaves", "(I)I"⟩ ∈ gw := gw_t (tb_4 (List.mem_of_getElem? (i := 38) rfl)) rfl
theorem gw_825 : Cond.selects "HedgeCommittee" ⟨"HedgeCommittee", "leaves", "(I)I"⟩ ⟨"HedgeCommittee", "leaves", "(I)I"⟩ ∈ gw := gw_t (tb_4 (List.mem_of_getElem? (i := 39) rfl)) rfl
theorem gw_826 : Cond.code ⟨"HedgeCommittee", "leaves", "(I)I"⟩ prog_1_method_10_code 2 (some .int) ∈ gw := gw_t (tb_4 (List.mem_of_getElem? (i := 40) rfl)) rfl
theorem gw_827 : Cond.methodLink "HedgeCommittee" 102 ⟨"HedgeCommittee", "requireHedge", "(I)V"⟩ ∈ gw := gw_t (tb_4 (List.mem_of_getElem? (i := 41) rfl)) rfl
theorem gw_829 : Cond.instanceMethod ⟨"HedgeCommittee", "requireHedge", "(I)V"⟩ ∈ gw := gw_t (tb_4 (List.mem_of_getElem? (i := 43) rfl)) rfl
theorem gw_830 : Cond.code ⟨"HedgeCommittee", "requireHedge", "(I)V"⟩ prog_1_method_50_code 2 none ∈ gw := gw_t (tb_4 (List.mem_of_getElem? (i := 44) rfl)) rfl
theorem gw_831 : Cond.methodLink "HedgeCommittee" 113 ⟨"HedgeCommittee$Hedges", "has", "(I)Z"⟩ ∈ gw := gw_t (tb_4 (List.mem_of_getElem? (i := 45) rfl)) rfl
theorem gw_832 : Cond.instanceMethod ⟨"HedgeCommittee$Hedges", "has", "(I)Z"⟩ ∈ gw := gw_t (tb_4 (List.mem_of_getElem? (i := 46) rfl)) rfl
theorem gw_833 : Cond.selects "HedgeCommittee$Hedges" ⟨"HedgeCommittee$Hedges", "has", "(I)Z"⟩ ⟨"HedgeCommittee$Hedges", "has", "(I)Z"⟩ ∈ gw := gw_t (tb_4 (List.mem_of_getElem? (i := 47) rfl)) rfl
theorem gw_834 : Cond.code ⟨"HedgeCommittee$Hedges", "has", "(I)Z"⟩ prog_4_method_3_code 2 (some .boolean) ∈ gw := gw_t (tb_4 (List.mem_of_getElem? (i := 48) rfl)) rfl
theorem gw_835 : Cond.classLink "HedgeCommittee" 300 "java/lang/IndexOutOfBoundsException" ∈ gw := gw_t (tb_4 (List.mem_of_getElem? (i := 49) rfl)) rfl
theorem gw_836 : Cond.instantiable "java/lang/IndexOutOfBoundsException" 6 ∈ gw := gw_t (tb_4 (List.mem_of_getElem? (i := 50) rfl)) rfl
theorem gw_838 : Cond.selects "java/lang/IndexOutOfBoundsException" ⟨"java/lang/Throwable", "fillInStackTrace", "(I)Ljava/lang/Throwable;"⟩ ⟨"java/lang/Throwable", "fillInStackTrace", "(I)Ljava/lang/Throwable;"⟩ ∈ gw := gw_t (tb_4 (List.mem_of_getElem? (i := 52) rfl)) rfl
theorem gw_839 : Cond.lays "java/lang/IndexOutOfBoundsException" "java/lang/Throwable" "cause" "Ljava/lang/Throwable;" ∈ gw := gw_t (tb_4 (List.mem_of_getElem? (i := 53) rfl)) rfl
theorem gw_840 : Cond.lays "java/lang/IndexOutOfBoundsException" "java/lang/Throwable" "stackTrace" "[Ljava/lang/StackTraceElement;" ∈ gw := gw_t (tb_4 (List.mem_of_getElem? (i := 54) rfl)) rfl
theorem gw_841 : Cond.lays "java/lang/IndexOutOfBoundsException" "java/lang/Throwable" "suppressedExceptions" "Ljava/util/List;" ∈ gw := gw_t (tb_4 (List.mem_of_getElem? (i := 55) rfl)) rfl
theorem gw_842 : Cond.lays "java/lang/IndexOutOfBoundsException" "java/lang/Throwable" "detailMessage" "Ljava/lang/String;" ∈ gw := gw_t (tb_4 (List.mem_of_getElem? (i := 56) rfl)) rfl
theorem gw_843 : Cond.lays "java/lang/IndexOutOfBoundsException" "java/lang/Throwable" "backtrace" "Ljava/lang/Object;" ∈ gw := gw_t (tb_4 (List.mem_of_getElem? (i := 57) rfl)) rfl
theorem gw_845 : Cond.methodLink "HedgeCommittee" 304 ⟨"java/lang/IndexOutOfBoundsException", "<init>", "(Ljava/lang/String;)V"⟩ ∈ gw := gw_t (tb_4 (List.mem_of_getElem? (i := 59) rfl)) rfl
theorem gw_846 : Cond.lays "java/lang/IndexOutOfBoundsException" "java/lang/Throwable" "depth" "I" ∈ gw := gw_t (tb_4 (List.mem_of_getElem? (i := 60) rfl)) rfl
theorem gw_847 : Cond.superclass "java/lang/IndexOutOfBoundsException" "java/lang/RuntimeException" ∈ gw := gw_t (tb_4 (List.mem_of_getElem? (i := 61) rfl)) rfl
theorem gw_848 : Cond.methodLink "HedgeCommitteeLaw" 180 ⟨"HedgeCommitteeLaw", "thorns", "(LHedgeCommittee;I[J)I"⟩ ∈ gw := gw_t (tb_4 (List.mem_of_getElem? (i := 62) rfl)) rfl
theorem gw_849 : Cond.static ⟨"HedgeCommitteeLaw", "thorns", "(LHedgeCommittee;I[J)I"⟩ ∈ gw := gw_t (tb_4 (List.mem_of_getElem? (i := 63) rfl)) rfl
theorem gw_850 : Cond.codeWith ⟨"HedgeCommitteeLaw", "thorns", "(LHedgeCommittee;I[J)I"⟩ method_10_code 4 (some .int) [(0, 9, 12, 40)] ∈ gw := gw_t (tb_4 (List.mem_of_getElem? (i := 64) rfl)) rfl
theorem gw_851 : Cond.methodLink "HedgeCommitteeLaw" 42 ⟨"HedgeCommittee", "thorns", "(I)I"⟩ ∈ gw := gw_t (tb_4 (List.mem_of_getElem? (i := 65) rfl)) rfl
theorem gw_852 : Cond.instanceMethod ⟨"HedgeCommittee", "thorns", "(I)I"⟩ ∈ gw := gw_t (tb_4 (List.mem_of_getElem? (i := 66) rfl)) rfl
theorem gw_853 : Cond.selects "HedgeCommittee" ⟨"HedgeCommittee", "thorns", "(I)I"⟩ ⟨"HedgeCommittee", "thorns", "(I)I"⟩ ∈ gw := gw_t (tb_4 (List.mem_of_getElem? (i := 67) rfl)) rfl
theorem gw_854 : Cond.code ⟨"HedgeCommittee", "thorns", "(I)I"⟩ prog_1_method_11_code 2 (some .int) ∈ gw := gw_t (tb_4 (List.mem_of_getElem? (i := 68) rfl)) rfl
theorem gw_855 : Cond.methodLink "HedgeCommitteeLaw" 183 ⟨"HedgeCommitteeLaw", "hedgeAtRank", "(LHedgeCommittee;I[J)I"⟩ ∈ gw := gw_t (tb_4 (List.mem_of_getElem? (i := 69) rfl)) rfl
theorem gw_856 : Cond.static ⟨"HedgeCommitteeLaw", "hedgeAtRank", "(LHedgeCommittee;I[J)I"⟩ ∈ gw := gw_t (tb_4 (List.mem_of_getElem? (i := 70) rfl)) rfl
theorem gw_857 : Cond.codeWith ⟨"HedgeCommitteeLaw", "hedgeAtRank", "(LHedgeCommittee;I[J)I"⟩ method_11_code 4 (some .int) [(0, 9, 12, 24)] ∈ gw := gw_t (tb_4 (List.mem_of_getElem? (i := 71) rfl)) rfl
theorem gw_858 : Cond.methodLink "HedgeCommitteeLaw" 45 ⟨"HedgeCommittee", "hedgeAtRank", "(I)I"⟩ ∈ gw := gw_t (tb_4 (List.mem_of_getElem? (i := 72) rfl)) rfl
theorem gw_859 : Cond.instanceMethod ⟨"HedgeCommittee", "hedgeAtRank", "(I)I"⟩ ∈ gw := gw_t (tb_4 (List.mem_of_getElem? (i := 73) rfl)) rfl
theorem gw_860 : Cond.selects "HedgeCommittee" ⟨"HedgeCommittee", "hedgeAtRank", "(I)I"⟩ ⟨"HedgeCommittee", "hedgeAtRank", "(I)I"⟩ ∈ gw := gw_t (tb_4 (List.mem_of_getElem? (i := 74) rfl)) rfl
theorem gw_861 : Cond.code ⟨"HedgeCommittee", "hedgeAtRank", "(I)I"⟩ prog_1_method_12_code 2 (some .int) ∈ gw := gw_t (tb_4 (List.mem_of_getElem? (i := 75) rfl)) rfl
theorem gw_862 : Cond.classLink "HedgeCommittee" 117 "java/util/NoSuchElementException" ∈ gw := gw_t (tb_4 (List.mem_of_getElem? (i := 76) rfl)) rfl
theorem gw_864 : Cond.methodLink "HedgeCommittee" 121 ⟨"java/util/NoSuchElementException", "<init>", "(Ljava/lang/String;)V"⟩ ∈ gw := gw_t (tb_4 (List.mem_of_getElem? (i := 78) rfl)) rfl
theorem gw_865 : Cond.methodLink "HedgeCommittee" 124 ⟨"HedgeCommittee$Hedges", "atRank", "(I)I"⟩ ∈ gw := gw_t (tb_4 (List.mem_of_getElem? (i := 79) rfl)) rfl
theorem gw_866 : Cond.instanceMethod ⟨"HedgeCommittee$Hedges", "atRank", "(I)I"⟩ ∈ gw := gw_t (tb_4 (List.mem_of_getElem? (i := 80) rfl)) rfl
theorem gw_867 : Cond.selects "HedgeCommittee$Hedges" ⟨"HedgeCommittee$Hedges", "atRank", "(I)I"⟩ ⟨"HedgeCommittee$Hedges", "atRank", "(I)I"⟩ ∈ gw := gw_t (tb_4 (List.mem_of_getElem? (i := 81) rfl)) rfl
theorem gw_868 : Cond.code ⟨"HedgeCommittee$Hedges", "atRank", "(I)I"⟩ prog_4_method_13_code 4 (some .int) ∈ gw := gw_t (tb_4 (List.mem_of_getElem? (i := 82) rfl)) rfl
theorem gw_869 : Cond.methodLink "HedgeCommittee$Hedges" 58 ⟨"HedgeCommittee$Hedges", "rankOf", "(I)I"⟩ ∈ gw := gw_t (tb_4 (List.mem_of_getElem? (i := 83) rfl)) rfl
theorem gw_871 : Cond.instanceMethod ⟨"HedgeCommittee$Hedges", "rankOf", "(I)I"⟩ ∈ gw := gw_t (tb_4 (List.mem_of_getElem? (i := 85) rfl)) rfl
theorem gw_872 : Cond.code ⟨"HedgeCommittee$Hedges", "rankOf", "(I)I"⟩ prog_4_method_14_code 4 (some .int) ∈ gw := gw_t (tb_4 (List.mem_of_getElem? (i := 86) rfl)) rfl
theorem gw_873 : Cond.methodLink "HedgeCommittee$Hedges" 61 ⟨"HedgeCommittee$Hedges", "ranksBefore", "(II)Z"⟩ ∈ gw := gw_t (tb_4 (List.mem_of_getElem? (i := 87) rfl)) rfl
theorem gw_874 : Cond.instanceMethod ⟨"HedgeCommittee$Hedges", "ranksBefore", "(II)Z"⟩ ∈ gw := gw_t (tb_4 (List.mem_of_getElem? (i := 88) rfl)) rfl
theorem gw_875 : Cond.selects "HedgeCommittee$Hedges" ⟨"HedgeCommittee$Hedges", "ranksBefore", "(II)Z"⟩ ⟨"HedgeCommittee$Hedges", "ranksBefore", "(II)Z"⟩ ∈ gw := gw_t (tb_4 (List.mem_of_getElem? (i := 89) rfl)) rfl
theorem gw_876 : Cond.code ⟨"HedgeCommittee$Hedges", "ranksBefore", "(II)Z"⟩ prog_4_method_12_code 3 (some .boolean) ∈ gw := gw_t (tb_4 (List.mem_of_getElem? (i := 90) rfl)) rfl
theorem gw_877 : Cond.methodLink "HedgeCommitteeLaw" 186 ⟨"HedgeCommitteeLaw", "leavesInFavour", "(LHedgeCommittee;I[J)I"⟩ ∈ gw := gw_t (tb_4 (List.mem_of_getElem? (i := 91) rfl)) rfl
theorem gw_878 : Cond.static ⟨"HedgeCommitteeLaw", "leavesInFavour", "(LHedgeCommittee;I[J)I"⟩ ∈ gw := gw_t (tb_4 (List.mem_of_getElem? (i := 92) rfl)) rfl
theorem gw_879 : Cond.codeWith ⟨"HedgeCommitteeLaw", "leavesInFavour", "(LHedgeCommittee;I[J)I"⟩ method_12_code 4 (some .int) [(0, 9, 12, 24)] ∈ gw := gw_t (tb_4 (List.mem_of_getElem? (i := 93) rfl)) rfl
theorem gw_880 : Cond.methodLink "HedgeCommitteeLaw" 48 ⟨"HedgeCommittee", "leavesInFavour", "(I)I"⟩ ∈ gw := gw_t (tb_4 (List.mem_of_getElem? (i := 94) rfl)) rfl
theorem gw_881 : Cond.instanceMethod ⟨"HedgeCommittee", "leavesInFavour", "(I)I"⟩ ∈ gw := gw_t (tb_4 (List.mem_of_getElem? (i := 95) rfl)) rfl
theorem gw_882 : Cond.selects "HedgeCommittee" ⟨"HedgeCommittee", "leavesInFavour", "(I)I"⟩ ⟨"HedgeCommittee", "leavesInFavour", "(I)I"⟩ ∈ gw := gw_t (tb_4 (List.mem_of_getElem? (i := 96) rfl)) rfl
theorem gw_883 : Cond.code ⟨"HedgeCommittee", "leavesInFavour", "(I)I"⟩ prog_1_method_13_code 3 (some .int) ∈ gw := gw_t (tb_4 (List.mem_of_getElem? (i := 97) rfl)) rfl
theorem gw_884 : Cond.methodLink "HedgeCommittee" 131 ⟨"HedgeCommittee$Motions", "require", "(I)I"⟩ ∈ gw := gw_t (tb_4 (List.mem_of_getElem? (i := 98) rfl)) rfl
theorem gw_885 : Cond.methodLink "HedgeCommittee" 139 ⟨"HedgeCommittee$Hedges", "leavesFor", "(I)I"⟩ ∈ gw := gw_t (tb_4 (List.mem_of_getElem? (i := 99) rfl)) rfl
theorem gw_886 : Cond.methodLink "HedgeCommitteeLaw" 189 ⟨"HedgeCommitteeLaw", "wouldVeto", "(LHedgeCommittee;II[J)I"⟩ ∈ gw := gw_t (tb_4 (List.mem_of_getElem? (i := 100) rfl)) rfl
theorem gw_887 : Cond.static ⟨"HedgeCommitteeLaw", "wouldVeto", "(LHedgeCommittee;II[J)I"⟩ ∈ gw := gw_t (tb_4 (List.mem_of_getElem? (i := 101) rfl)) rfl
theorem gw_888 : Cond.codeWith ⟨"HedgeCommitteeLaw", "wouldVeto", "(LHedgeCommittee;II[J)I"⟩ method_13_code 5 (some .int) [(0, 17, 20, 40), (0, 17, 24, 24)] ∈ gw := gw_t (tb_4 (List.mem_of_getElem? (i := 102) rfl)) rfl
theorem gw_889 : Cond.methodLink "HedgeCommitteeLaw" 51 ⟨"HedgeCommittee", "wouldVeto", "(II)Z"⟩ ∈ gw := gw_t (tb_4 (List.mem_of_getElem? (i := 103) rfl)) rfl
theorem gw_890 : Cond.instanceMethod ⟨"HedgeCommittee", "wouldVeto", "(II)Z"⟩ ∈ gw := gw_t (tb_4 (List.mem_of_getElem? (i := 104) rfl)) rfl
theorem gw_891 : Cond.selects "HedgeCommittee" ⟨"HedgeCommittee", "wouldVeto", "(II)Z"⟩ ⟨"HedgeCommittee", "wouldVeto", "(II)Z"⟩ ∈ gw := gw_t (tb_4 (List.mem_of_getElem? (i := 105) rfl)) rfl
theorem gw_892 : Cond.code ⟨"HedgeCommittee", "wouldVeto", "(II)Z"⟩ prog_1_method_14_code 4 (some .boolean) ∈ gw := gw_t (tb_4 (List.mem_of_getElem? (i := 106) rfl)) rfl
theorem gw_893 : Cond.methodLink "HedgeCommittee" 142 ⟨"HedgeCommittee$Hedges", "vetoes", "(II)Z"⟩ ∈ gw := gw_t (tb_4 (List.mem_of_getElem? (i := 107) rfl)) rfl
theorem gw_894 : Cond.methodLink "HedgeCommitteeLaw" 196 ⟨"HedgeCommitteeLaw", "motionAt", "(LHedgeCommittee;I[J)I"⟩ ∈ gw := gw_t (tb_4 (List.mem_of_getElem? (i := 108) rfl)) rfl
theorem gw_895 : Cond.static ⟨"HedgeCommitteeLaw", "motionAt", "(LHedgeCommittee;I[J)I"⟩ ∈ gw := gw_t (tb_4 (List.mem_of_getElem? (i := 109) rfl)) rfl
theorem gw_896 : Cond.codeWith ⟨"HedgeCommitteeLaw", "motionAt", "(LHedgeCommittee;I[J)I"⟩ method_14_code 4 (some .int) [(0, 9, 12, 40)] ∈ gw := gw_t (tb_4 (List.mem_of_getElem? (i := 110) rfl)) rfl
theorem gw_897 : Cond.methodLink "HedgeCommitteeLaw" 55 ⟨"HedgeCommittee", "motionAt", "(I)I"⟩ ∈ gw := gw_t (tb_4 (List.mem_of_getElem? (i := 111) rfl)) rfl
theorem gw_898 : Cond.instanceMethod ⟨"HedgeCommittee", "motionAt", "(I)I"⟩ ∈ gw := gw_t (tb_4 (List.mem_of_getElem? (i := 112) rfl)) rfl
theorem gw_899 : Cond.selects "HedgeCommittee" ⟨"HedgeCommittee", "motionAt", "(I)I"⟩ ⟨"HedgeCommittee", "motionAt", "(I)I"⟩ ∈ gw := gw_t (tb_4 (List.mem_of_getElem? (i := 113) rfl)) rfl
theorem gw_900 : Cond.code ⟨"HedgeCommittee", "motionAt", "(I)I"⟩ prog_1_method_16_code 2 (some .int) ∈ gw := gw_t (tb_4 (List.mem_of_getElem? (i := 114) rfl)) rfl
theorem gw_901 : Cond.methodLink "HedgeCommittee" 147 ⟨"HedgeCommittee", "requirePosition", "(I)V"⟩ ∈ gw := gw_t (tb_4 (List.mem_of_getElem? (i := 115) rfl)) rfl
theorem gw_903 : Cond.instanceMethod ⟨"HedgeCommittee", "requirePosition", "(I)V"⟩ ∈ gw := gw_t (tb_4 (List.mem_of_getElem? (i := 117) rfl)) rfl
theorem gw_904 : Cond.code ⟨"HedgeCommittee", "requirePosition", "(I)V"⟩ prog_1_method_51_code 2 none ∈ gw := gw_t (tb_4 (List.mem_of_getElem? (i := 118) rfl)) rfl
theorem gw_906 : Cond.methodLink "HedgeCommitteeLaw" 199 ⟨"HedgeCommitteeLaw", "tone", "(LHedgeCommittee;I[J)I"⟩ ∈ gw := gw_t (tb_4 (List.mem_of_getElem? (i := 120) rfl)) rfl
theorem gw_907 : Cond.static ⟨"HedgeCommitteeLaw", "tone", "(LHedgeCommittee;I[J)I"⟩ ∈ gw := gw_t (tb_4 (List.mem_of_getElem? (i := 121) rfl)) rfl
theorem gw_908 : Cond.codeWith ⟨"HedgeCommitteeLaw", "tone", "(LHedgeCommittee;I[J)I"⟩ method_15_code 4 (some .int) [(0, 9, 12, 24)] ∈ gw := gw_t (tb_4 (List.mem_of_getElem? (i := 122) rfl)) rfl
theorem gw_909 : Cond.methodLink "HedgeCommitteeLaw" 58 ⟨"HedgeCommittee", "tone", "(I)I"⟩ ∈ gw := gw_t (tb_4 (List.mem_of_getElem? (i := 123) rfl)) rfl
theorem gw_910 : Cond.instanceMethod ⟨"HedgeCommittee", "tone", "(I)I"⟩ ∈ gw := gw_t (tb_4 (List.mem_of_getElem? (i := 124) rfl)) rfl
theorem gw_911 : Cond.selects "HedgeCommittee" ⟨"HedgeCommittee", "tone", "(I)I"⟩ ⟨"HedgeCommittee", "tone", "(I)I"⟩ ∈ gw := gw_t (tb_4 (List.mem_of_getElem? (i := 125) rfl)) rfl
theorem gw_912 : Cond.code ⟨"HedgeCommittee", "tone", "(I)I"⟩ prog_1_method_17_code 2 (some .int) ∈ gw := gw_t (tb_4 (List.mem_of_getElem? (i := 126) rfl)) rfl
theorem gw_913 : Cond.methodLink "HedgeCommitteeLaw" 202 ⟨"HedgeCommitteeLaw", "weight", "(LHedgeCommittee;I[J)I"⟩ ∈ gw := gw_t (tb_4 (List.mem_of_getElem? (i := 127) rfl)) rfl
theorem gw_914 : Cond.static ⟨"HedgeCommitteeLaw", "weight", "(LHedgeCommittee;I[J)I"⟩ ∈ gw := gw_t (tb_4 (List.mem_of_getElem? (i := 128) rfl)) rfl
theorem gw_915 : Cond.codeWith ⟨"HedgeCommitteeLaw", "weight", "(LHedgeCommittee;I[J)I"⟩ method_16_code 4 (some .int) [(0, 9, 12, 24)] ∈ gw := gw_t (tb_4 (List.mem_of_getElem? (i := 129) rfl)) rfl
theorem gw_916 : Cond.methodLink "HedgeCommitteeLaw" 61 ⟨"HedgeCommittee", "weight", "(I)I"⟩ ∈ gw := gw_t (tb_4 (List.mem_of_getElem? (i := 130) rfl)) rfl
theorem gw_917 : Cond.instanceMethod ⟨"HedgeCommittee", "weight", "(I)I"⟩ ∈ gw := gw_t (tb_4 (List.mem_of_getElem? (i := 131) rfl)) rfl
theorem gw_918 : Cond.selects "HedgeCommittee" ⟨"HedgeCommittee", "weight", "(I)I"⟩ ⟨"HedgeCommittee", "weight", "(I)I"⟩ ∈ gw := gw_t (tb_4 (List.mem_of_getElem? (i := 132) rfl)) rfl
theorem gw_919 : Cond.code ⟨"HedgeCommittee", "weight", "(I)I"⟩ prog_1_method_18_code 2 (some .int) ∈ gw := gw_t (tb_4 (List.mem_of_getElem? (i := 133) rfl)) rfl
theorem gw_920 : Cond.methodLink "HedgeCommitteeLaw" 205 ⟨"HedgeCommitteeLaw", "parent", "(LHedgeCommittee;I[J)I"⟩ ∈ gw := gw_t (tb_4 (List.mem_of_getElem? (i := 134) rfl)) rfl
theorem gw_921 : Cond.static ⟨"HedgeCommitteeLaw", "parent", "(LHedgeCommittee;I[J)I"⟩ ∈ gw := gw_t (tb_4 (List.mem_of_getElem? (i := 135) rfl)) rfl
theorem gw_922 : Cond.codeWith ⟨"HedgeCommitteeLaw", "parent", "(LHedgeCommittee;I[J)I"⟩ method_17_code 4 (some .int) [(0, 9, 12, 24)] ∈ gw := gw_t (tb_4 (List.mem_of_getElem? (i := 136) rfl)) rfl
theorem gw_923 : Cond.methodLink "HedgeCommitteeLaw" 64 ⟨"HedgeCommittee", "parent", "(I)I"⟩ ∈ gw := gw_t (tb_4 (List.mem_of_getElem? (i := 137) rfl)) rfl
theorem gw_924 : Cond.instanceMethod ⟨"HedgeCommittee", "parent", "(I)I"⟩ ∈ gw := gw_t (tb_4 (List.mem_of_getElem? (i := 138) rfl)) rfl
theorem gw_925 : Cond.selects "HedgeCommittee" ⟨"HedgeCommittee", "parent", "(I)I"⟩ ⟨"HedgeCommittee", "parent", "(I)I"⟩ ∈ gw := gw_t (tb_4 (List.mem_of_getElem? (i := 139) rfl)) rfl
theorem gw_926 : Cond.code ⟨"HedgeCommittee", "parent", "(I)I"⟩ prog_1_method_19_code 3 (some .int) ∈ gw := gw_t (tb_4 (List.mem_of_getElem? (i := 140) rfl)) rfl
theorem gw_928 : Cond.methodLink "HedgeCommitteeLaw" 208 ⟨"HedgeCommitteeLaw", "depth", "(LHedgeCommittee;I[J)I"⟩ ∈ gw := gw_t (tb_4 (List.mem_of_getElem? (i := 142) rfl)) rfl
theorem gw_929 : Cond.static ⟨"HedgeCommitteeLaw", "depth", "(LHedgeCommittee;I[J)I"⟩ ∈ gw := gw_t (tb_4 (List.mem_of_getElem? (i := 143) rfl)) rfl
theorem gw_930 : Cond.codeWith ⟨"HedgeCommitteeLaw", "depth", "(LHedgeCommittee;I[J)I"⟩ method_18_code 4 (some .int) [(0, 9, 12, 24)] ∈ gw := gw_t (tb_4 (List.mem_of_getElem? (i := 144) rfl)) rfl
theorem gw_931 : Cond.methodLink "HedgeCommitteeLaw" 67 ⟨"HedgeCommittee", "depth", "(I)I"⟩ ∈ gw := gw_t (tb_4 (List.mem_of_getElem? (i := 145) rfl)) rfl
theorem gw_932 : Cond.instanceMethod ⟨"HedgeCommittee", "depth", "(I)I"⟩ ∈ gw := gw_t (tb_4 (List.mem_of_getElem? (i := 146) rfl)) rfl
theorem gw_933 : Cond.selects "HedgeCommittee" ⟨"HedgeCommittee", "depth", "(I)I"⟩ ⟨"HedgeCommittee", "depth", "(I)I"⟩ ∈ gw := gw_t (tb_4 (List.mem_of_getElem? (i := 147) rfl)) rfl
theorem gw_934 : Cond.code ⟨"HedgeCommittee", "depth", "(I)I"⟩ prog_1_method_20_code 2 (some .int) ∈ gw := gw_t (tb_4 (List.mem_of_getElem? (i := 148) rfl)) rfl
theorem gw_935 : Cond.methodLink "HedgeCommittee" 161 ⟨"HedgeCommittee$Motions", "depthOf", "(I)I"⟩ ∈ gw := gw_t (tb_4 (List.mem_of_getElem? (i := 149) rfl)) rfl
theorem gw_936 : Cond.methodLink "HedgeCommitteeLaw" 211 ⟨"HedgeCommitteeLaw", "isTip", "(LHedgeCommittee;I[J)I"⟩ ∈ gw := gw_t (tb_4 (List.mem_of_getElem? (i := 150) rfl)) rfl
theorem gw_937 : Cond.static ⟨"HedgeCommitteeLaw", "isTip", "(LHedgeCommittee;I[J)I"⟩ ∈ gw := gw_t (tb_4 (List.mem_of_getElem? (i := 151) rfl)) rfl
theorem gw_938 : Cond.codeWith ⟨"HedgeCommitteeLaw", "isTip", "(LHedgeCommittee;I[J)I"⟩ method_19_code 4 (some .int) [(0, 16, 19, 24)] ∈ gw := gw_t (tb_4 (List.mem_of_getElem? (i := 152) rfl)) rfl
theorem gw_939 : Cond.methodLink "HedgeCommitteeLaw" 70 ⟨"HedgeCommittee", "isTip", "(I)Z"⟩ ∈ gw := gw_t (tb_4 (List.mem_of_getElem? (i := 153) rfl)) rfl
theorem gw_940 : Cond.instanceMethod ⟨"HedgeCommittee", "isTip", "(I)Z"⟩ ∈ gw := gw_t (tb_4 (List.mem_of_getElem? (i := 154) rfl)) rfl
theorem gw_941 : Cond.selects "HedgeCommittee" ⟨"HedgeCommittee", "isTip", "(I)Z"⟩ ⟨"HedgeCommittee", "isTip", "(I)Z"⟩ ∈ gw := gw_t (tb_4 (List.mem_of_getElem? (i := 155) rfl)) rfl
theorem gw_942 : Cond.code ⟨"HedgeCommittee", "isTip", "(I)Z"⟩ prog_1_method_21_code 2 (some .boolean) ∈ gw := gw_t (tb_4 (List.mem_of_getElem? (i := 156) rfl)) rfl
theorem gw_943 : Cond.methodLink "HedgeCommittee" 164 ⟨"HedgeCommittee$Motions", "hasAmendments", "(I)Z"⟩ ∈ gw := gw_t (tb_4 (List.mem_of_getElem? (i := 157) rfl)) rfl
theorem gw_944 : Cond.methodLink "HedgeCommitteeLaw" 214 ⟨"HedgeCommitteeLaw", "branchSize", "(LHedgeCommittee;I[J)I"⟩ ∈ gw := gw_t (tb_4 (List.mem_of_getElem? (i := 158) rfl)) rfl
theorem gw_945 : Cond.static ⟨"HedgeCommitteeLaw", "branchSize", "(LHedgeCommittee;I[J)I"⟩ ∈ gw := gw_t (tb_4 (List.mem_of_getElem? (i := 159) rfl)) rfl
theorem gw_946 : Cond.codeWith ⟨"HedgeCommitteeLaw", "branchSize", "(LHedgeCommittee;I[J)I"⟩ method_20_code 4 (some .int) [(0, 9, 12, 24)] ∈ gw := gw_t (tb_4 (List.mem_of_getElem? (i := 160) rfl)) rfl
theorem gw_947 : Cond.methodLink "HedgeCommitteeLaw" 74 ⟨"HedgeCommittee", "branchSize", "(I)I"⟩ ∈ gw := gw_t (tb_4 (List.mem_of_getElem? (i := 161) rfl)) rfl
theorem gw_948 : Cond.instanceMethod ⟨"HedgeCommittee", "branchSize", "(I)I"⟩ ∈ gw := gw_t (tb_4 (List.mem_of_getElem? (i := 162) rfl)) rfl
theorem gw_949 : Cond.selects "HedgeCommittee" ⟨"HedgeCommittee", "branchSize", "(I)I"⟩ ⟨"HedgeCommittee", "branchSize", "(I)I"⟩ ∈ gw := gw_t (tb_4 (List.mem_of_getElem? (i := 163) rfl)) rfl
theorem gw_950 : Cond.code ⟨"HedgeCommittee", "branchSize", "(I)I"⟩ prog_1_method_22_code 2 (some .int) ∈ gw := gw_t (tb_4 (List.mem_of_getElem? (i := 164) rfl)) rfl
theorem gw_951 : Cond.methodLink "HedgeCommittee" 167 ⟨"HedgeCommittee$Motions", "sizeOfBranch", "(I)I"⟩ ∈ gw := gw_t (tb_4 (List.mem_of_getElem? (i := 165) rfl)) rfl
theorem gw_952 : Cond.instanceMethod ⟨"HedgeCommittee$Motions", "sizeOfBranch", "(I)I"⟩ ∈ gw := gw_t (tb_4 (List.mem_of_getElem? (i := 166) rfl)) rfl
theorem gw_953 : Cond.selects "HedgeCommittee$Motions" ⟨"HedgeCommittee$Motions", "sizeOfBranch", "(I)I"⟩ ⟨"HedgeCommittee$Motions", "sizeOfBranch", "(I)I"⟩ ∈ gw := gw_t (tb_4 (List.mem_of_getElem? (i := 167) rfl)) rfl
theorem gw_954 : Cond.code ⟨"HedgeCommittee$Motions", "sizeOfBranch", "(I)I"⟩ prog_7_method_10_code 4 (some .int) ∈ gw := gw_t (tb_4 (List.mem_of_getElem? (i := 168) rfl)) rfl
theorem gw_955 : Cond.methodLink "HedgeCommitteeLaw" 217 ⟨"HedgeCommitteeLaw", "lastTip", "(LHedgeCommittee;I[J)I"⟩ ∈ gw := gw_t (tb_4 (List.mem_of_getElem? (i := 169) rfl)) rfl
theorem gw_956 : Cond.static ⟨"HedgeCommitteeLaw", "lastTip", "(LHedgeCommittee;I[J)I"⟩ ∈ gw := gw_t (tb_4 (List.mem_of_getElem? (i := 170) rfl)) rfl
theorem gw_957 : Cond.codeWith ⟨"HedgeCommitteeLaw", "lastTip", "(LHedgeCommittee;I[J)I"⟩ method_21_code 4 (some .int) [(0, 9, 12, 24)] ∈ gw := gw_t (tb_4 (List.mem_of_getElem? (i := 171) rfl)) rfl
theorem gw_958 : Cond.methodLink "HedgeCommitteeLaw" 77 ⟨"HedgeCommittee", "lastTip", "(I)I"⟩ ∈ gw := gw_t (tb_4 (List.mem_of_getElem? (i := 172) rfl)) rfl
theorem gw_959 : Cond.instanceMethod ⟨"HedgeCommittee", "lastTip", "(I)I"⟩ ∈ gw := gw_t (tb_4 (List.mem_of_getElem? (i := 173) rfl)) rfl
theorem gw_960 : Cond.selects "HedgeCommittee" ⟨"HedgeCommittee", "lastTip", "(I)I"⟩ ⟨"HedgeCommittee", "lastTip", "(I)I"⟩ ∈ gw := gw_t (tb_4 (List.mem_of_getElem? (i := 174) rfl)) rfl
theorem gw_961 : Cond.code ⟨"HedgeCommittee", "lastTip", "(I)I"⟩ prog_1_method_23_code 3 (some .int) ∈ gw := gw_t (tb_4 (List.mem_of_getElem? (i := 175) rfl)) rfl
theorem gw_962 : Cond.methodLink "HedgeCommittee" 170 ⟨"HedgeCommittee$Motions", "lastTipOf", "(I)I"⟩ ∈ gw := gw_t (tb_4 (List.mem_of_getElem? (i := 176) rfl)) rfl
theorem gw_963 : Cond.methodLink "HedgeCommitteeLaw" 220 ⟨"HedgeCommitteeLaw", "motionAtRank", "(LHedgeCommittee;I[J)I"⟩ ∈ gw := gw_t (tb_4 (List.mem_of_getElem? (i := 177) rfl)) rfl
theorem gw_964 : Cond.static ⟨"HedgeCommitteeLaw", "motionAtRank", "(LHedgeCommittee;I[J)I"⟩ ∈ gw := gw_t (tb_4 (List.mem_of_getElem? (i := 178) rfl)) rfl
theorem gw_965 : Cond.codeWith ⟨"HedgeCommitteeLaw", "motionAtRank", "(LHedgeCommittee;I[J)I"⟩ method_22_code 4 (some .int) [(0, 9, 12, 40)] ∈ gw := gw_t (tb_4 (List.mem_of_getElem? (i := 179) rfl)) rfl
theorem gw_966 : Cond.methodLink "HedgeCommitteeLaw" 80 ⟨"HedgeCommittee", "motionAtRank", "(I)I"⟩ ∈ gw := gw_t (tb_4 (List.mem_of_getElem? (i := 180) rfl)) rfl
theorem gw_967 : Cond.instanceMethod ⟨"HedgeCommittee", "motionAtRank", "(I)I"⟩ ∈ gw := gw_t (tb_4 (List.mem_of_getElem? (i := 181) rfl)) rfl
theorem gw_968 : Cond.selects "HedgeCommittee" ⟨"HedgeCommittee", "motionAtRank", "(I)I"⟩ ⟨"HedgeCommittee", "motionAtRank", "(I)I"⟩ ∈ gw := gw_t (tb_4 (List.mem_of_getElem? (i := 182) rfl)) rfl
theorem gw_969 : Cond.code ⟨"HedgeCommittee", "motionAtRank", "(I)I"⟩ prog_1_method_24_code 2 (some .int) ∈ gw := gw_t (tb_4 (List.mem_of_getElem? (i := 183) rfl)) rfl
theorem gw_970 : Cond.methodLink "HedgeCommittee" 173 ⟨"HedgeCommittee$Motions", "atRank", "(I)I"⟩ ∈ gw := gw_t (tb_4 (List.mem_of_getElem? (i := 184) rfl)) rfl
theorem gw_971 : Cond.instanceMethod ⟨"HedgeCommittee$Motions", "atRank", "(I)I"⟩ ∈ gw := gw_t (tb_4 (List.mem_of_getElem? (i := 185) rfl)) rfl
theorem gw_972 : Cond.selects "HedgeCommittee$Motions" ⟨"HedgeCommittee$Motions", "atRank", "(I)I"⟩ ⟨"HedgeCommittee$Motions", "atRank", "(I)I"⟩ ∈ gw := gw_t (tb_4 (List.mem_of_getElem? (i := 186) rfl)) rfl
theorem gw_973 : Cond.code ⟨"HedgeCommittee$Motions", "atRank", "(I)I"⟩ prog_7_method_14_code 4 (some .int) ∈ gw := gw_t (tb_4 (List.mem_of_getElem? (i := 187) rfl)) rfl
theorem gw_974 : Cond.methodLink "HedgeCommittee$Motions" 56 ⟨"HedgeCommittee$Motions", "rankOf", "(I)I"⟩ ∈ gw := gw_t (tb_4 (List.mem_of_getElem? (i := 188) rfl)) rfl
theorem gw_976 : Cond.instanceMethod ⟨"HedgeCommittee$Motions", "rankOf", "(I)I"⟩ ∈ gw := gw_t (tb_4 (List.mem_of_getElem? (i := 190) rfl)) rfl
theorem gw_977 : Cond.code ⟨"HedgeCommittee$Motions", "rankOf", "(I)I"⟩ prog_7_method_15_code 4 (some .int) ∈ gw := gw_t (tb_4 (List.mem_of_getElem? (i := 191) rfl)) rfl
theorem gw_978 : Cond.methodLink "HedgeCommittee$Motions" 59 ⟨"HedgeCommittee$Motions", "ranksBefore", "(II)Z"⟩ ∈ gw := gw_t (tb_4 (List.mem_of_getElem? (i := 192) rfl)) rfl
theorem gw_979 : Cond.instanceMethod ⟨"HedgeCommittee$Motions", "ranksBefore", "(II)Z"⟩ ∈ gw := gw_t (tb_4 (List.mem_of_getElem? (i := 193) rfl)) rfl
theorem gw_980 : Cond.selects "HedgeCommittee$Motions" ⟨"HedgeCommittee$Motions", "ranksBefore", "(II)Z"⟩ ⟨"HedgeCommittee$Motions", "ranksBefore", "(II)Z"⟩ ∈ gw := gw_t (tb_4 (List.mem_of_getElem? (i := 194) rfl)) rfl
theorem gw_981 : Cond.code ⟨"HedgeCommittee$Motions", "ranksBefore", "(II)Z"⟩ prog_7_method_13_code 5 (some .boolean) ∈ gw := gw_t (tb_4 (List.mem_of_getElem? (i := 195) rfl)) rfl
theorem gw_982 : Cond.methodLink "HedgeCommittee$Motions" 52 ⟨"HedgeCommittee$Motions", "depthOf", "(I)I"⟩ ∈ gw := gw_t (tb_4 (List.mem_of_getElem? (i := 196) rfl)) rfl
theorem gw_983 : Cond.methodLink "HedgeCommitteeLaw" 223 ⟨"HedgeCommitteeLaw", "commonMotion", "(LHedgeCommittee;II[J)I"⟩ ∈ gw := gw_t (tb_4 (List.mem_of_getElem? (i := 197) rfl)) rfl
theorem gw_984 : Cond.static ⟨"HedgeCommitteeLaw", "commonMotion", "(LHedgeCommittee;II[J)I"⟩ ∈ gw := gw_t (tb_4 (List.mem_of_getElem? (i := 198) rfl)) rfl
theorem gw_985 : Cond.codeWith ⟨"HedgeCommitteeLaw", "commonMotion", "(LHedgeCommittee;II[J)I"⟩ method_23_code 5 (some .int) [(0, 10, 13, 24), (0, 10, 17, 86)] ∈ gw := gw_t (tb_4 (List.mem_of_getElem? (i := 199) rfl)) rfl
theorem gw_986 : Cond.classLink "HedgeCommitteeLaw" 86 "java/lang/UnsupportedOperationException" ∈ gw := gw_t (tb_4 (List.mem_of_getElem? (i := 200) rfl)) rfl
theorem gw_987 : Cond.methodLink "HedgeCommitteeLaw" 83 ⟨"HedgeCommittee", "commonMotion", "(II)I"⟩ ∈ gw := gw_t (tb_4 (List.mem_of_getElem? (i := 201) rfl)) rfl
theorem gw_988 : Cond.instanceMethod ⟨"HedgeCommittee", "commonMotion", "(II)I"⟩ ∈ gw := gw_t (tb_4 (List.mem_of_getElem? (i := 202) rfl)) rfl
theorem gw_989 : Cond.selects "HedgeCommittee" ⟨"HedgeCommittee", "commonMotion", "(II)I"⟩ ⟨"HedgeCommittee", "commonMotion", "(II)I"⟩ ∈ gw := gw_t (tb_4 (List.mem_of_getElem? (i := 203) rfl)) rfl
theorem gw_990 : Cond.code ⟨"HedgeCommittee", "commonMotion", "(II)I"⟩ prog_1_method_25_code 5 (some .int) ∈ gw := gw_t (tb_4 (List.mem_of_getElem? (i := 204) rfl)) rfl
theorem gw_991 : Cond.methodLink "HedgeCommittee" 174 ⟨"HedgeCommittee$Trees", "commonByClimbing", "(LHedgeCommittee$Motions;II)I"⟩ ∈ gw := gw_t (tb_4 (List.mem_of_getElem? (i := 205) rfl)) rfl
theorem gw_992 : Cond.methodLink "HedgeCommittee" 178 ⟨"HedgeCommittee", "idOfCommon", "(I)I"⟩ ∈ gw := gw_t (tb_4 (List.mem_of_getElem? (i := 206) rfl)) rfl
theorem gw_994 : Cond.instanceMethod ⟨"HedgeCommittee", "idOfCommon", "(I)I"⟩ ∈ gw := gw_t (tb_4 (List.mem_of_getElem? (i := 208) rfl)) rfl
theorem gw_995 : Cond.code ⟨"HedgeCommittee", "idOfCommon", "(I)I"⟩ prog_1_method_52_code 2 (some .int) ∈ gw := gw_t (tb_4 (List.mem_of_getElem? (i := 209) rfl)) rfl
theorem gw_996 : Cond.classLink "HedgeCommittee" 184 "java/lang/UnsupportedOperationException" ∈ gw := gw_t (tb_4 (List.mem_of_getElem? (i := 210) rfl)) rfl
theorem gw_997 : Cond.instantiable "java/lang/UnsupportedOperationException" 6 ∈ gw := gw_t (tb_4 (List.mem_of_getElem? (i := 211) rfl)) rfl
theorem gw_999 : Cond.selects "java/lang/UnsupportedOperationException" ⟨"java/lang/Throwable", "fillInStackTrace", "(I)Ljava/lang/Throwable;"⟩ ⟨"java/lang/Throwable", "fillInStackTrace", "(I)Ljava/lang/Throwable;"⟩ ∈ gw := gw_t (tb_4 (List.mem_of_getElem? (i := 213) rfl)) rfl
theorem gw_1000 : Cond.lays "java/lang/UnsupportedOperationException" "java/lang/Throwable" "cause" "Ljava/lang/Throwable;" ∈ gw := gw_t (tb_4 (List.mem_of_getElem? (i := 214) rfl)) rfl
theorem gw_1001 : Cond.lays "java/lang/UnsupportedOperationException" "java/lang/Throwable" "stackTrace" "[Ljava/lang/StackTraceElement;" ∈ gw := gw_t (tb_4 (List.mem_of_getElem? (i := 215) rfl)) rfl
theorem gw_1002 : Cond.lays "java/lang/UnsupportedOperationException" "java/lang/Throwable" "suppressedExceptions" "Ljava/util/List;" ∈ gw := gw_t (tb_4 (List.mem_of_getElem? (i := 216) rfl)) rfl
theorem gw_1003 : Cond.lays "java/lang/UnsupportedOperationException" "java/lang/Throwable" "detailMessage" "Ljava/lang/String;" ∈ gw := gw_t (tb_4 (List.mem_of_getElem? (i := 217) rfl)) rfl
theorem gw_1004 : Cond.lays "java/lang/UnsupportedOperationException" "java/lang/Throwable" "backtrace" "Ljava/lang/Object;" ∈ gw := gw_t (tb_4 (List.mem_of_getElem? (i := 218) rfl)) rfl
theorem gw_1006 : Cond.methodLink "HedgeCommittee" 188 ⟨"java/lang/UnsupportedOperationException", "<init>", "(Ljava/lang/String;)V"⟩ ∈ gw := gw_t (tb_4 (List.mem_of_getElem? (i := 220) rfl)) rfl
theorem gw_1007 : Cond.instanceMethod ⟨"java/lang/UnsupportedOperationException", "<init>", "(Ljava/lang/String;)V"⟩ ∈ gw := gw_t (tb_4 (List.mem_of_getElem? (i := 221) rfl)) rfl
theorem gw_1008 : Cond.code ⟨"java/lang/UnsupportedOperationException", "<init>", "(Ljava/lang/String;)V"⟩ prog_38_method_2_code 2 none ∈ gw := gw_t (tb_4 (List.mem_of_getElem? (i := 222) rfl)) rfl
theorem gw_1009 : Cond.methodLink "java/lang/UnsupportedOperationException" 7 ⟨"java/lang/RuntimeException", "<init>", "(Ljava/lang/String;)V"⟩ ∈ gw := gw_t (tb_4 (List.mem_of_getElem? (i := 223) rfl)) rfl
theorem gw_1010 : Cond.lays "java/lang/UnsupportedOperationException" "java/lang/Throwable" "depth" "I" ∈ gw := gw_t (tb_4 (List.mem_of_getElem? (i := 224) rfl)) rfl
theorem gw_1011 : Cond.superclass "java/lang/UnsupportedOperationException" "java/lang/RuntimeException" ∈ gw := gw_t (tb_4 (List.mem_of_getElem? (i := 225) rfl)) rfl
theorem gw_1012 : Cond.methodLink "HedgeCommitteeLaw" 226 ⟨"HedgeCommitteeLaw", "commonMotionByRows", "(LHedgeCommittee;II[J)I"⟩ ∈ gw := gw_t (tb_4 (List.mem_of_getElem? (i := 226) rfl)) rfl
theorem gw_1013 : Cond.static ⟨"HedgeCommitteeLaw", "commonMotionByRows", "(LHedgeCommittee;II[J)I"⟩ ∈ gw := gw_t (tb_4 (List.mem_of_getElem? (i := 227) rfl)) rfl
theorem gw_1014 : Cond.codeWith ⟨"HedgeCommitteeLaw", "commonMotionByRows", "(LHedgeCommittee;II[J)I"⟩ method_24_code 5 (some .int) [(0, 10, 13, 24), (0, 10, 17, 86)] ∈ gw := gw_t (tb_4 (List.mem_of_getElem? (i := 228) rfl)) rfl
theorem gw_1015 : Cond.methodLink "HedgeCommitteeLaw" 88 ⟨"HedgeCommittee", "commonMotionByRows", "(II)I"⟩ ∈ gw := gw_t (tb_4 (List.mem_of_getElem? (i := 229) rfl)) rfl
theorem gw_1016 : Cond.instanceMethod ⟨"HedgeCommittee", "commonMotionByRows", "(II)I"⟩ ∈ gw := gw_t (tb_4 (List.mem_of_getElem? (i := 230) rfl)) rfl
theorem gw_1017 : Cond.selects "HedgeCommittee" ⟨"HedgeCommittee", "commonMotionByRows", "(II)I"⟩ ⟨"HedgeCommittee", "commonMotionByRows", "(II)I"⟩ ∈ gw := gw_t (tb_4 (List.mem_of_getElem? (i := 231) rfl)) rfl
theorem gw_1018 : Cond.code ⟨"HedgeCommittee", "commonMotionByRows", "(II)I"⟩ prog_1_method_26_code 5 (some .int) ∈ gw := gw_t (tb_4 (List.mem_of_getElem? (i := 232) rfl)) rfl
theorem gw_1019 : Cond.methodLink "HedgeCommittee" 181 ⟨"HedgeCommittee$Trees", "commonByRows", "(LHedgeCommittee$Motions;II)I"⟩ ∈ gw := gw_t (tb_4 (List.mem_of_getElem? (i := 233) rfl)) rfl
theorem gw_1020 : Cond.methodLink "HedgeCommitteeLaw" 229 ⟨"HedgeCommitteeLaw", "pathSize", "(LHedgeCommittee;II[J)I"⟩ ∈ gw := gw_t (tb_4 (List.mem_of_getElem? (i := 234) rfl)) rfl
theorem gw_1021 : Cond.static ⟨"HedgeCommitteeLaw", "pathSize", "(LHedgeCommittee;II[J)I"⟩ ∈ gw := gw_t (tb_4 (List.mem_of_getElem? (i := 235) rfl)) rfl
theorem gw_1022 : Cond.codeWith ⟨"HedgeCommitteeLaw", "pathSize", "(LHedgeCommittee;II[J)I"⟩ method_25_code 5 (some .int) [(0, 10, 13, 24), (0, 10, 17, 86)] ∈ gw := gw_t (tb_4 (List.mem_of_getElem? (i := 236) rfl)) rfl
theorem gw_1023 : Cond.methodLink "HedgeCommitteeLaw" 91 ⟨"HedgeCommittee", "pathSize", "(II)I"⟩ ∈ gw := gw_t (tb_4 (List.mem_of_getElem? (i := 237) rfl)) rfl
theorem gw_1024 : Cond.instanceMethod ⟨"HedgeCommittee", "pathSize", "(II)I"⟩ ∈ gw := gw_t (tb_4 (List.mem_of_getElem? (i := 238) rfl)) rfl
theorem gw_1025 : Cond.selects "HedgeCommittee" ⟨"HedgeCommittee", "pathSize", "(II)I"⟩ ⟨"HedgeCommittee", "pathSize", "(II)I"⟩ ∈ gw := gw_t (tb_4 (List.mem_of_getElem? (i := 239) rfl)) rfl
theorem gw_1026 : Cond.code ⟨"HedgeCommittee", "pathSize", "(II)I"⟩ prog_1_method_27_code 7 (some .int) ∈ gw := gw_t (tb_5 (List.mem_of_getElem? (i := 0) rfl)) rfl
theorem gw_1028 : Cond.methodLink "HedgeCommitteeLaw" 232 ⟨"HedgeCommitteeLaw", "longestPath", "(LHedgeCommittee;I[J)I"⟩ ∈ gw := gw_t (tb_5 (List.mem_of_getElem? (i := 2) rfl)) rfl
theorem gw_1029 : Cond.static ⟨"HedgeCommitteeLaw", "longestPath", "(LHedgeCommittee;I[J)I"⟩ ∈ gw := gw_t (tb_5 (List.mem_of_getElem? (i := 3) rfl)) rfl
theorem gw_1030 : Cond.codeWith ⟨"HedgeCommitteeLaw", "longestPath", "(LHedgeCommittee;I[J)I"⟩ method_26_code 4 (some .int) [(0, 9, 12, 24)] ∈ gw := gw_t (tb_5 (List.mem_of_getElem? (i := 4) rfl)) rfl
theorem gw_1031 : Cond.methodLink "HedgeCommitteeLaw" 94 ⟨"HedgeCommittee", "longestPath", "(I)I"⟩ ∈ gw := gw_t (tb_5 (List.mem_of_getElem? (i := 5) rfl)) rfl
theorem gw_1032 : Cond.instanceMethod ⟨"HedgeCommittee", "longestPath", "(I)I"⟩ ∈ gw := gw_t (tb_5 (List.mem_of_getElem? (i := 6) rfl)) rfl
theorem gw_1033 : Cond.selects "HedgeCommittee" ⟨"HedgeCommittee", "longestPath", "(I)I"⟩ ⟨"HedgeCommittee", "longestPath", "(I)I"⟩ ∈ gw := gw_t (tb_5 (List.mem_of_getElem? (i := 7) rfl)) rfl
theorem gw_1034 : Cond.code ⟨"HedgeCommittee", "longestPath", "(I)I"⟩ prog_1_method_28_code 2 (some .int) ∈ gw := gw_t (tb_5 (List.mem_of_getElem? (i := 8) rfl)) rfl
theorem gw_1035 : Cond.methodLink "HedgeCommittee" 189 ⟨"HedgeCommittee$Trees", "longestByHeights", "(LHedgeCommittee$Motions;I)I"⟩ ∈ gw := gw_t (tb_5 (List.mem_of_getElem? (i := 9) rfl)) rfl
theorem gw_1036 : Cond.methodLink "HedgeCommitteeLaw" 235 ⟨"HedgeCommitteeLaw", "longestPathBySweeps", "(LHedgeCommittee;I[J)I"⟩ ∈ gw := gw_t (tb_5 (List.mem_of_getElem? (i := 10) rfl)) rfl
theorem gw_1037 : Cond.static ⟨"HedgeCommitteeLaw", "longestPathBySweeps", "(LHedgeCommittee;I[J)I"⟩ ∈ gw := gw_t (tb_5 (List.mem_of_getElem? (i := 11) rfl)) rfl
theorem gw_1038 : Cond.codeWith ⟨"HedgeCommitteeLaw", "longestPathBySweeps", "(LHedgeCommittee;I[J)I"⟩ method_27_code 4 (some .int) [(0, 9, 12, 24)] ∈ gw := gw_t (tb_5 (List.mem_of_getElem? (i := 12) rfl)) rfl
theorem gw_1039 : Cond.methodLink "HedgeCommitteeLaw" 97 ⟨"HedgeCommittee", "longestPathBySweeps", "(I)I"⟩ ∈ gw := gw_t (tb_5 (List.mem_of_getElem? (i := 13) rfl)) rfl
theorem gw_1040 : Cond.instanceMethod ⟨"HedgeCommittee", "longestPathBySweeps", "(I)I"⟩ ∈ gw := gw_t (tb_5 (List.mem_of_getElem? (i := 14) rfl)) rfl
theorem gw_1041 : Cond.selects "HedgeCommittee" ⟨"HedgeCommittee", "longestPathBySweeps", "(I)I"⟩ ⟨"HedgeCommittee", "longestPathBySweeps", "(I)I"⟩ ∈ gw := gw_t (tb_5 (List.mem_of_getElem? (i := 15) rfl)) rfl
theorem gw_1042 : Cond.code ⟨"HedgeCommittee", "longestPathBySweeps", "(I)I"⟩ prog_1_method_29_code 2 (some .int) ∈ gw := gw_t (tb_5 (List.mem_of_getElem? (i := 16) rfl)) rfl
theorem gw_1043 : Cond.methodLink "HedgeCommittee" 193 ⟨"HedgeCommittee$Trees", "longestBySweeps", "(LHedgeCommittee$Motions;I)I"⟩ ∈ gw := gw_t (tb_5 (List.mem_of_getElem? (i := 17) rfl)) rfl
theorem gw_1044 : Cond.methodLink "HedgeCommitteeLaw" 254 ⟨"HedgeCommitteeLaw", "minutesIn", "(LHedgeCommittee;I[J)I"⟩ ∈ gw := gw_t (tb_5 (List.mem_of_getElem? (i := 18) rfl)) rfl
theorem gw_1045 : Cond.static ⟨"HedgeCommitteeLaw", "minutesIn", "(LHedgeCommittee;I[J)I"⟩ ∈ gw := gw_t (tb_5 (List.mem_of_getElem? (i := 19) rfl)) rfl
theorem gw_1046 : Cond.codeWith ⟨"HedgeCommitteeLaw", "minutesIn", "(LHedgeCommittee;I[J)I"⟩ method_28_code 4 (some .int) [(0, 9, 12, 13)] ∈ gw := gw_t (tb_5 (List.mem_of_getElem? (i := 20) rfl)) rfl
theorem gw_1047 : Cond.methodLink "HedgeCommitteeLaw" 100 ⟨"HedgeCommittee", "minutesIn", "(I)I"⟩ ∈ gw := gw_t (tb_5 (List.mem_of_getElem? (i := 21) rfl)) rfl
theorem gw_1048 : Cond.instanceMethod ⟨"HedgeCommittee", "minutesIn", "(I)I"⟩ ∈ gw := gw_t (tb_5 (List.mem_of_getElem? (i := 22) rfl)) rfl
theorem gw_1049 : Cond.selects "HedgeCommittee" ⟨"HedgeCommittee", "minutesIn", "(I)I"⟩ ⟨"HedgeCommittee", "minutesIn", "(I)I"⟩ ∈ gw := gw_t (tb_5 (List.mem_of_getElem? (i := 23) rfl)) rfl
theorem gw_1050 : Cond.code ⟨"HedgeCommittee", "minutesIn", "(I)I"⟩ prog_1_method_34_code 2 (some .int) ∈ gw := gw_t (tb_5 (List.mem_of_getElem? (i := 24) rfl)) rfl
theorem gw_1051 : Cond.classLink "HedgeCommittee" 207 "java/lang/IllegalArgumentException" ∈ gw := gw_t (tb_5 (List.mem_of_getElem? (i := 25) rfl)) rfl
theorem gw_1053 : Cond.methodLink "HedgeCommittee" 211 ⟨"java/lang/IllegalArgumentException", "<init>", "(Ljava/lang/String;)V"⟩ ∈ gw := gw_t (tb_5 (List.mem_of_getElem? (i := 27) rfl)) rfl
theorem gw_1054 : Cond.methodLink "HedgeCommitteeLaw" 269 ⟨"HedgeCommitteeLaw", "meanLeaves", "(LHedgeCommittee;[D)I"⟩ ∈ gw := gw_t (tb_5 (List.mem_of_getElem? (i := 28) rfl)) rfl
theorem gw_1055 : Cond.static ⟨"HedgeCommitteeLaw", "meanLeaves", "(LHedgeCommittee;[D)I"⟩ ∈ gw := gw_t (tb_5 (List.mem_of_getElem? (i := 29) rfl)) rfl
theorem gw_1056 : Cond.codeWith ⟨"HedgeCommitteeLaw", "meanLeaves", "(LHedgeCommittee;[D)I"⟩ method_29_code 3 (some .int) [(0, 7, 10, 107)] ∈ gw := gw_t (tb_5 (List.mem_of_getElem? (i := 30) rfl)) rfl
theorem gw_1057 : Cond.classLink "HedgeCommitteeLaw" 107 "java/lang/ArithmeticException" ∈ gw := gw_t (tb_5 (List.mem_of_getElem? (i := 31) rfl)) rfl
theorem gw_1058 : Cond.instantiable "java/lang/ArithmeticException" 6 ∈ gw := gw_t (tb_5 (List.mem_of_getElem? (i := 32) rfl)) rfl
theorem gw_1059 : Cond.instanceMethod ⟨"java/lang/ArithmeticException", "<init>", "(Ljava/lang/String;)V"⟩ ∈ gw := gw_t (tb_5 (List.mem_of_getElem? (i := 33) rfl)) rfl
theorem gw_1060 : Cond.code ⟨"java/lang/ArithmeticException", "<init>", "(Ljava/lang/String;)V"⟩ prog_16_method_2_code 2 none ∈ gw := gw_t (tb_5 (List.mem_of_getElem? (i := 34) rfl)) rfl
theorem gw_1061 : Cond.methodLink "java/lang/ArithmeticException" 7 ⟨"java/lang/RuntimeException", "<init>", "(Ljava/lang/String;)V"⟩ ∈ gw := gw_t (tb_5 (List.mem_of_getElem? (i := 35) rfl)) rfl
theorem gw_1062 : Cond.lays "java/lang/ArithmeticException" "java/lang/Throwable" "backtrace" "Ljava/lang/Object;" ∈ gw := gw_t (tb_5 (List.mem_of_getElem? (i := 36) rfl)) rfl
theorem gw_1063 : Cond.lays "java/lang/ArithmeticException" "java/lang/Throwable" "detailMessage" "Ljava/lang/String;" ∈ gw := gw_t (tb_5 (List.mem_of_getElem? (i := 37) rfl)) rfl
theorem gw_1064 : Cond.lays "java/lang/ArithmeticException" "java/lang/Throwable" "cause" "Ljava/lang/Throwable;" ∈ gw := gw_t (tb_5 (List.mem_of_getElem? (i := 38) rfl)) rfl
theorem gw_1065 : Cond.lays "java/lang/ArithmeticException" "java/lang/Throwable" "stackTrace" "[Ljava/lang/StackTraceElement;" ∈ gw := gw_t (tb_5 (List.mem_of_getElem? (i := 39) rfl)) rfl
theorem gw_1066 : Cond.lays "java/lang/ArithmeticException" "java/lang/Throwable" "depth" "I" ∈ gw := gw_t (tb_5 (List.mem_of_getElem? (i := 40) rfl)) rfl
theorem gw_1067 : Cond.lays "java/lang/ArithmeticException" "java/lang/Throwable" "suppressedExceptions" "Ljava/util/List;" ∈ gw := gw_t (tb_5 (List.mem_of_getElem? (i := 41) rfl)) rfl
theorem gw_1068 : Cond.superclass "java/lang/ArithmeticException" "java/lang/RuntimeException" ∈ gw := gw_t (tb_5 (List.mem_of_getElem? (i := 42) rfl)) rfl
theorem gw_1070 : Cond.selects "java/lang/ArithmeticException" ⟨"java/lang/Throwable", "fillInStackTrace", "(I)Ljava/lang/Throwable;"⟩ ⟨"java/lang/Throwable", "fillInStackTrace", "(I)Ljava/lang/Throwable;"⟩ ∈ gw := gw_t (tb_5 (List.mem_of_getElem? (i := 44) rfl)) rfl
theorem gw_1071 : Cond.methodLink "HedgeCommitteeLaw" 103 ⟨"HedgeCommittee", "meanLeaves", "()D"⟩ ∈ gw := gw_t (tb_5 (List.mem_of_getElem? (i := 45) rfl)) rfl
theorem gw_1072 : Cond.instanceMethod ⟨"HedgeCommittee", "meanLeaves", "()D"⟩ ∈ gw := gw_t (tb_5 (List.mem_of_getElem? (i := 46) rfl)) rfl
theorem gw_1073 : Cond.selects "HedgeCommittee" ⟨"HedgeCommittee", "meanLeaves", "()D"⟩ ⟨"HedgeCommittee", "meanLeaves", "()D"⟩ ∈ gw := gw_t (tb_5 (List.mem_of_getElem? (i := 47) rfl)) rfl
theorem gw_1074 : Cond.code ⟨"HedgeCommittee", "meanLeaves", "()D"⟩ prog_1_method_38_code 1 (some .double) ∈ gw := gw_t (tb_5 (List.mem_of_getElem? (i := 48) rfl)) rfl
theorem gw_1075 : Cond.classLink "HedgeCommittee" 225 "java/lang/ArithmeticException" ∈ gw := gw_t (tb_5 (List.mem_of_getElem? (i := 49) rfl)) rfl
theorem gw_1077 : Cond.methodLink "HedgeCommittee" 229 ⟨"java/lang/ArithmeticException", "<init>", "(Ljava/lang/String;)V"⟩ ∈ gw := gw_t (tb_5 (List.mem_of_getElem? (i := 51) rfl)) rfl
theorem gw_1078 : Cond.methodLink "HedgeCommittee" 230 ⟨"HedgeCommittee$Hedges", "totalLeaves", "()I"⟩ ∈ gw := gw_t (tb_5 (List.mem_of_getElem? (i := 52) rfl)) rfl
theorem gw_1079 : Cond.methodLink "HedgeCommitteeLaw" 273 ⟨"HedgeCommitteeLaw", "carriedShare", "(LHedgeCommittee;[D)I"⟩ ∈ gw := gw_t (tb_5 (List.mem_of_getElem? (i := 53) rfl)) rfl
theorem gw_1080 : Cond.static ⟨"HedgeCommitteeLaw", "carriedShare", "(LHedgeCommittee;[D)I"⟩ ∈ gw := gw_t (tb_5 (List.mem_of_getElem? (i := 54) rfl)) rfl
theorem gw_1081 : Cond.codeWith ⟨"HedgeCommitteeLaw", "carriedShare", "(LHedgeCommittee;[D)I"⟩ method_30_code 3 (some .int) [(0, 8, 11, 107)] ∈ gw := gw_t (tb_5 (List.mem_of_getElem? (i := 55) rfl)) rfl
theorem gw_1082 : Cond.methodLink "HedgeCommitteeLaw" 109 ⟨"HedgeCommittee", "carriedShare", "()F"⟩ ∈ gw := gw_t (tb_5 (List.mem_of_getElem? (i := 56) rfl)) rfl
theorem gw_1083 : Cond.instanceMethod ⟨"HedgeCommittee", "carriedShare", "()F"⟩ ∈ gw := gw_t (tb_5 (List.mem_of_getElem? (i := 57) rfl)) rfl
theorem gw_1084 : Cond.selects "HedgeCommittee" ⟨"HedgeCommittee", "carriedShare", "()F"⟩ ⟨"HedgeCommittee", "carriedShare", "()F"⟩ ∈ gw := gw_t (tb_5 (List.mem_of_getElem? (i := 58) rfl)) rfl
theorem gw_1085 : Cond.code ⟨"HedgeCommittee", "carriedShare", "()F"⟩ prog_1_method_39_code 1 (some .float) ∈ gw := gw_t (tb_5 (List.mem_of_getElem? (i := 59) rfl)) rfl
theorem gw_1087 : Cond.methodLink "HedgeCommitteeLaw" 281 ⟨"HedgeCommitteeLaw", "append", "(LHedgeCommittee;C[J)I"⟩ ∈ gw := gw_t (tb_5 (List.mem_of_getElem? (i := 61) rfl)) rfl
theorem gw_1088 : Cond.static ⟨"HedgeCommitteeLaw", "append", "(LHedgeCommittee;C[J)I"⟩ ∈ gw := gw_t (tb_5 (List.mem_of_getElem? (i := 62) rfl)) rfl
theorem gw_1089 : Cond.codeWith ⟨"HedgeCommitteeLaw", "append", "(LHedgeCommittee;C[J)I"⟩ method_31_code 4 (some .int) [(0, 9, 12, 15)] ∈ gw := gw_t (tb_5 (List.mem_of_getElem? (i := 63) rfl)) rfl
theorem gw_1090 : Cond.methodLink "HedgeCommitteeLaw" 113 ⟨"HedgeCommittee", "append", "(C)I"⟩ ∈ gw := gw_t (tb_5 (List.mem_of_getElem? (i := 64) rfl)) rfl
theorem gw_1091 : Cond.instanceMethod ⟨"HedgeCommittee", "append", "(C)I"⟩ ∈ gw := gw_t (tb_5 (List.mem_of_getElem? (i := 65) rfl)) rfl
theorem gw_1092 : Cond.selects "HedgeCommittee" ⟨"HedgeCommittee", "append", "(C)I"⟩ ⟨"HedgeCommittee", "append", "(C)I"⟩ ∈ gw := gw_t (tb_5 (List.mem_of_getElem? (i := 66) rfl)) rfl
theorem gw_1093 : Cond.code ⟨"HedgeCommittee", "append", "(C)I"⟩ prog_1_method_41_code 2 (some .int) ∈ gw := gw_t (tb_5 (List.mem_of_getElem? (i := 67) rfl)) rfl
theorem gw_1094 : Cond.methodLink "HedgeCommittee" 248 ⟨"HedgeCommittee$Program", "isFull", "()Z"⟩ ∈ gw := gw_t (tb_5 (List.mem_of_getElem? (i := 68) rfl)) rfl
theorem gw_1095 : Cond.instanceMethod ⟨"HedgeCommittee$Program", "isFull", "()Z"⟩ ∈ gw := gw_t (tb_5 (List.mem_of_getElem? (i := 69) rfl)) rfl
theorem gw_1096 : Cond.selects "HedgeCommittee$Program" ⟨"HedgeCommittee$Program", "isFull", "()Z"⟩ ⟨"HedgeCommittee$Program", "isFull", "()Z"⟩ ∈ gw := gw_t (tb_5 (List.mem_of_getElem? (i := 70) rfl)) rfl
theorem gw_1097 : Cond.code ⟨"HedgeCommittee$Program", "isFull", "()Z"⟩ prog_8_method_2_code 1 (some .boolean) ∈ gw := gw_t (tb_5 (List.mem_of_getElem? (i := 71) rfl)) rfl
theorem gw_1098 : Cond.classLink "HedgeCommittee" 252 "java/lang/IllegalStateException" ∈ gw := gw_t (tb_5 (List.mem_of_getElem? (i := 72) rfl)) rfl
theorem gw_1100 : Cond.methodLink "HedgeCommittee" 256 ⟨"java/lang/IllegalStateException", "<init>", "(Ljava/lang/String;)V"⟩ ∈ gw := gw_t (tb_5 (List.mem_of_getElem? (i := 74) rfl)) rfl
theorem gw_1101 : Cond.methodLink "HedgeCommittee" 257 ⟨"HedgeCommittee$Program", "put", "(C)I"⟩ ∈ gw := gw_t (tb_5 (List.mem_of_getElem? (i := 75) rfl)) rfl
theorem gw_1102 : Cond.instanceMethod ⟨"HedgeCommittee$Program", "put", "(C)I"⟩ ∈ gw := gw_t (tb_5 (List.mem_of_getElem? (i := 76) rfl)) rfl
theorem gw_1103 : Cond.selects "HedgeCommittee$Program" ⟨"HedgeCommittee$Program", "put", "(C)I"⟩ ⟨"HedgeCommittee$Program", "put", "(C)I"⟩ ∈ gw := gw_t (tb_5 (List.mem_of_getElem? (i := 77) rfl)) rfl
theorem gw_1104 : Cond.code ⟨"HedgeCommittee$Program", "put", "(C)I"⟩ prog_8_method_3_code 2 (some .int) ∈ gw := gw_t (tb_5 (List.mem_of_getElem? (i := 78) rfl)) rfl
theorem gw_1105 : Cond.methodLink "HedgeCommitteeLaw" 285 ⟨"HedgeCommitteeLaw", "run", "(LHedgeCommittee;[J)I"⟩ ∈ gw := gw_t (tb_5 (List.mem_of_getElem? (i := 79) rfl)) rfl
theorem gw_1106 : Cond.static ⟨"HedgeCommitteeLaw", "run", "(LHedgeCommittee;[J)I"⟩ ∈ gw := gw_t (tb_5 (List.mem_of_getElem? (i := 80) rfl)) rfl
theorem gw_1107 : Cond.codeWith ⟨"HedgeCommitteeLaw", "run", "(LHedgeCommittee;[J)I"⟩ method_32_code 3 (some .int) [(0, 8, 11, 13), (0, 8, 14, 86)] ∈ gw := gw_t (tb_5 (List.mem_of_getElem? (i := 81) rfl)) rfl
theorem gw_1108 : Cond.methodLink "HedgeCommitteeLaw" 117 ⟨"HedgeCommittee", "run", "()I"⟩ ∈ gw := gw_t (tb_5 (List.mem_of_getElem? (i := 82) rfl)) rfl
theorem gw_1109 : Cond.instanceMethod ⟨"HedgeCommittee", "run", "()I"⟩ ∈ gw := gw_t (tb_5 (List.mem_of_getElem? (i := 83) rfl)) rfl
theorem gw_1110 : Cond.selects "HedgeCommittee" ⟨"HedgeCommittee", "run", "()I"⟩ ⟨"HedgeCommittee", "run", "()I"⟩ ∈ gw := gw_t (tb_5 (List.mem_of_getElem? (i := 84) rfl)) rfl
theorem gw_1111 : Cond.code ⟨"HedgeCommittee", "run", "()I"⟩ prog_1_method_42_code 3 (some .int) ∈ gw := gw_t (tb_5 (List.mem_of_getElem? (i := 85) rfl)) rfl
theorem gw_1112 : Cond.methodLink "HedgeCommittee" 261 ⟨"HedgeCommittee$Program", "parse", "()I"⟩ ∈ gw := gw_t (tb_5 (List.mem_of_getElem? (i := 86) rfl)) rfl
theorem gw_1113 : Cond.instanceMethod ⟨"HedgeCommittee$Program", "parse", "()I"⟩ ∈ gw := gw_t (tb_5 (List.mem_of_getElem? (i := 87) rfl)) rfl
theorem gw_1114 : Cond.selects "HedgeCommittee$Program" ⟨"HedgeCommittee$Program", "parse", "()I"⟩ ⟨"HedgeCommittee$Program", "parse", "()I"⟩ ∈ gw := gw_t (tb_5 (List.mem_of_getElem? (i := 88) rfl)) rfl
theorem gw_1115 : Cond.code ⟨"HedgeCommittee$Program", "parse", "()I"⟩ prog_8_method_5_code 2 (some .int) ∈ gw := gw_t (tb_5 (List.mem_of_getElem? (i := 89) rfl)) rfl
theorem gw_1116 : Cond.methodLink "HedgeCommittee$Program" 33 ⟨"java/util/ArrayList", "clear", "()V"⟩ ∈ gw := gw_t (tb_5 (List.mem_of_getElem? (i := 90) rfl)) rfl
theorem gw_1117 : Cond.instanceMethod ⟨"java/util/ArrayList", "clear", "()V"⟩ ∈ gw := gw_t (tb_5 (List.mem_of_getElem? (i := 91) rfl)) rfl
theorem gw_1118 : Cond.selects "java/util/ArrayList" ⟨"java/util/ArrayList", "clear", "()V"⟩ ⟨"java/util/ArrayList", "clear", "()V"⟩ ∈ gw := gw_t (tb_5 (List.mem_of_getElem? (i := 92) rfl)) rfl
theorem gw_1119 : Cond.code ⟨"java/util/ArrayList", "clear", "()V"⟩ prog_43_method_40_code 4 none ∈ gw := gw_t (tb_5 (List.mem_of_getElem? (i := 93) rfl)) rfl
theorem gw_1120 : Cond.methodLink "HedgeCommittee$Program" 36 ⟨"HedgeCommittee$Program", "readCommand", "()Z"⟩ ∈ gw := gw_t (tb_5 (List.mem_of_getElem? (i := 94) rfl)) rfl
theorem gw_1122 : Cond.instanceMethod ⟨"HedgeCommittee$Program", "readCommand", "()Z"⟩ ∈ gw := gw_t (tb_5 (List.mem_of_getElem? (i := 96) rfl)) rfl
theorem gw_1123 : Cond.code ⟨"HedgeCommittee$Program", "readCommand", "()Z"⟩ prog_8_method_6_code 5 (some .boolean) ∈ gw := gw_t (tb_5 (List.mem_of_getElem? (i := 97) rfl)) rfl
theorem gw_1124 : Cond.methodLink "HedgeCommittee$Program" 44 ⟨"HedgeCommittee$Program", "kindAhead", "()LHedgeCommittee$Kind;"⟩ ∈ gw := gw_t (tb_5 (List.mem_of_getElem? (i := 98) rfl)) rfl
theorem gw_1126 : Cond.instanceMethod ⟨"HedgeCommittee$Program", "kindAhead", "()LHedgeCommittee$Kind;"⟩ ∈ gw := gw_t (tb_5 (List.mem_of_getElem? (i := 100) rfl)) rfl
theorem gw_1127 : Cond.code ⟨"HedgeCommittee$Program", "kindAhead", "()LHedgeCommittee$Kind;"⟩ prog_8_method_7_code 5 (some (.object "HedgeCommittee$Kind")) ∈ gw := gw_t (tb_5 (List.mem_of_getElem? (i := 101) rfl)) rfl
theorem gw_1128 : Cond.fieldLink "HedgeCommittee$Program" 85 "HedgeCommittee$Program" "KINDS" "[LHedgeCommittee$Kind;" ∈ gw := gw_t (tb_5 (List.mem_of_getElem? (i := 102) rfl)) rfl
theorem gw_1130 : Cond.methodLink "HedgeCommittee$Program" 65 ⟨"java/lang/String", "charAt", "(I)C"⟩ ∈ gw := gw_t (tb_5 (List.mem_of_getElem? (i := 104) rfl)) rfl
theorem gw_1131 : Cond.instanceMethod ⟨"java/lang/String", "charAt", "(I)C"⟩ ∈ gw := gw_t (tb_5 (List.mem_of_getElem? (i := 105) rfl)) rfl
theorem gw_1132 : Cond.selects "java/lang/String" ⟨"java/lang/String", "charAt", "(I)C"⟩ ⟨"java/lang/String", "charAt", "(I)C"⟩ ∈ gw := gw_t (tb_5 (List.mem_of_getElem? (i := 106) rfl)) rfl
theorem gw_1133 : Cond.code ⟨"java/lang/String", "charAt", "(I)C"⟩ prog_31_method_56_code 2 (some .char) ∈ gw := gw_t (tb_5 (List.mem_of_getElem? (i := 107) rfl)) rfl
theorem gw_1134 : Cond.methodLink "java/lang/String" 492 ⟨"java/lang/String", "isLatin1", "()Z"⟩ ∈ gw := gw_t (tb_5 (List.mem_of_getElem? (i := 108) rfl)) rfl
theorem gw_1135 : Cond.instanceMethod ⟨"java/lang/String", "isLatin1", "()Z"⟩ ∈ gw := gw_t (tb_5 (List.mem_of_getElem? (i := 109) rfl)) rfl
theorem gw_1136 : Cond.selects "java/lang/String" ⟨"java/lang/String", "isLatin1", "()Z"⟩ ⟨"java/lang/String", "isLatin1", "()Z"⟩ ∈ gw := gw_t (tb_5 (List.mem_of_getElem? (i := 110) rfl)) rfl
theorem gw_1137 : Cond.code ⟨"java/lang/String", "isLatin1", "()Z"⟩ prog_31_method_154_code 1 (some .boolean) ∈ gw := gw_t (tb_5 (List.mem_of_getElem? (i := 111) rfl)) rfl
theorem gw_1138 : Cond.fieldLink "java/lang/String" 38 "java/lang/String" "COMPACT_STRINGS" "Z" ∈ gw := gw_t (tb_5 (List.mem_of_getElem? (i := 112) rfl)) rfl
theorem gw_1139 : Cond.methodLink "java/lang/String" 495 ⟨"java/lang/StringLatin1", "charAt", "([BI)C"⟩ ∈ gw := gw_t (tb_5 (List.mem_of_getElem? (i := 113) rfl)) rfl
theorem gw_1140 : Cond.static ⟨"java/lang/StringLatin1", "charAt", "([BI)C"⟩ ∈ gw := gw_t (tb_5 (List.mem_of_getElem? (i := 114) rfl)) rfl
theorem gw_1141 : Cond.code ⟨"java/lang/StringLatin1", "charAt", "([BI)C"⟩ prog_34_method_2_code 2 (some .char) ∈ gw := gw_t (tb_5 (List.mem_of_getElem? (i := 115) rfl)) rfl
theorem gw_1142 : Cond.methodLink "java/lang/StringLatin1" 9 ⟨"java/lang/String", "checkIndex", "(II)V"⟩ ∈ gw := gw_t (tb_5 (List.mem_of_getElem? (i := 116) rfl)) rfl
theorem gw_1143 : Cond.static ⟨"java/lang/String", "checkIndex", "(II)V"⟩ ∈ gw := gw_t (tb_5 (List.mem_of_getElem? (i := 117) rfl)) rfl
theorem gw_1144 : Cond.code ⟨"java/lang/String", "checkIndex", "(II)V"⟩ prog_31_method_155_code 2 none ∈ gw := gw_t (tb_5 (List.mem_of_getElem? (i := 118) rfl)) rfl
theorem gw_1145 : Cond.fieldLink "java/lang/String" 1053 "jdk/internal/util/Preconditions" "SIOOBE_FORMATTER" "Ljava/util/function/BiFunction;" ∈ gw := gw_t (tb_5 (List.mem_of_getElem? (i := 119) rfl)) rfl
theorem gw_1147 : Cond.methodLink "java/lang/String" 1059 ⟨"jdk/internal/util/Preconditions", "checkIndex", "(IILjava/util/function/BiFunction;)I"⟩ ∈ gw := gw_t (tb_5 (List.mem_of_getElem? (i := 121) rfl)) rfl
theorem gw_1148 : Cond.static ⟨"jdk/internal/util/Preconditions", "checkIndex", "(IILjava/util/function/BiFunction;)I"⟩ ∈ gw := gw_t (tb_5 (List.mem_of_getElem? (i := 122) rfl)) rfl
theorem gw_1149 : Cond.code ⟨"jdk/internal/util/Preconditions", "checkIndex", "(IILjava/util/function/BiFunction;)I"⟩ prog_52_method_11_code 3 (some .int) ∈ gw := gw_t (tb_5 (List.mem_of_getElem? (i := 123) rfl)) rfl
theorem gw_1150 : Cond.methodLink "java/lang/String" 498 ⟨"java/lang/StringUTF16", "charAt", "([BI)C"⟩ ∈ gw := gw_t (tb_5 (List.mem_of_getElem? (i := 124) rfl)) rfl
theorem gw_1151 : Cond.static ⟨"java/lang/StringUTF16", "charAt", "([BI)C"⟩ ∈ gw := gw_t (tb_5 (List.mem_of_getElem? (i := 125) rfl)) rfl
theorem gw_1152 : Cond.code ⟨"java/lang/StringUTF16", "charAt", "([BI)C"⟩ prog_35_method_83_code 2 (some .char) ∈ gw := gw_t (tb_5 (List.mem_of_getElem? (i := 126) rfl)) rfl
theorem gw_1153 : Cond.methodLink "java/lang/StringUTF16" 67 ⟨"java/lang/StringUTF16", "checkIndex", "(I[B)V"⟩ ∈ gw := gw_t (tb_5 (List.mem_of_getElem? (i := 127) rfl)) rfl
theorem gw_1154 : Cond.static ⟨"java/lang/StringUTF16", "checkIndex", "(I[B)V"⟩ ∈ gw := gw_t (tb_5 (List.mem_of_getElem? (i := 128) rfl)) rfl
theorem gw_1155 : Cond.code ⟨"java/lang/StringUTF16", "checkIndex", "(I[B)V"⟩ prog_35_method_91_code 2 none ∈ gw := gw_t (tb_5 (List.mem_of_getElem? (i := 129) rfl)) rfl
theorem gw_1156 : Cond.methodLink "java/lang/StringUTF16" 48 ⟨"java/lang/StringUTF16", "length", "([B)I"⟩ ∈ gw := gw_t (tb_5 (List.mem_of_getElem? (i := 130) rfl)) rfl
theorem gw_1157 : Cond.static ⟨"java/lang/StringUTF16", "length", "([B)I"⟩ ∈ gw := gw_t (tb_5 (List.mem_of_getElem? (i := 131) rfl)) rfl
theorem gw_1158 : Cond.code ⟨"java/lang/StringUTF16", "length", "([B)I"⟩ prog_35_method_6_code 1 (some .int) ∈ gw := gw_t (tb_5 (List.mem_of_getElem? (i := 132) rfl)) rfl
theorem gw_1159 : Cond.methodLink "java/lang/StringUTF16" 414 ⟨"java/lang/String", "checkIndex", "(II)V"⟩ ∈ gw := gw_t (tb_5 (List.mem_of_getElem? (i := 133) rfl)) rfl
theorem gw_1160 : Cond.methodLink "java/lang/StringUTF16" 71 ⟨"java/lang/StringUTF16", "getChar", "([BI)C"⟩ ∈ gw := gw_t (tb_5 (List.mem_of_getElem? (i := 134) rfl)) rfl
theorem gw_1161 : Cond.static ⟨"java/lang/StringUTF16", "getChar", "([BI)C"⟩ ∈ gw := gw_t (tb_5 (List.mem_of_getElem? (i := 135) rfl)) rfl
theorem gw_1162 : Cond.code ⟨"java/lang/StringUTF16", "getChar", "([BI)C"⟩ prog_35_method_5_code 2 (some .char) ∈ gw := gw_t (tb_5 (List.mem_of_getElem? (i := 136) rfl)) rfl
theorem gw_1163 : Cond.fieldLink "java/lang/StringUTF16" 44 "java/lang/StringUTF16" "$assertionsDisabled" "Z" ∈ gw := gw_t (tb_5 (List.mem_of_getElem? (i := 137) rfl)) rfl
theorem gw_1165 : Cond.fieldLink "java/lang/StringUTF16" 59 "java/lang/StringUTF16" "HI_BYTE_SHIFT" "I" ∈ gw := gw_t (tb_5 (List.mem_of_getElem? (i := 139) rfl)) rfl
theorem gw_1167 : Cond.fieldLink "java/lang/StringUTF16" 63 "java/lang/StringUTF16" "LO_BYTE_SHIFT" "I" ∈ gw := gw_t (tb_5 (List.mem_of_getElem? (i := 141) rfl)) rfl
theorem gw_1169 : Cond.methodLink "HedgeCommittee$Program" 48 ⟨"java/util/Arrays", "fill", "([II)V"⟩ ∈ gw := gw_t (tb_5 (List.mem_of_getElem? (i := 143) rfl)) rfl
theorem gw_1170 : Cond.methodLink "HedgeCommittee$Program" 60 ⟨"java/lang/String", "length", "()I"⟩ ∈ gw := gw_t (tb_5 (List.mem_of_getElem? (i := 144) rfl)) rfl
theorem gw_1171 : Cond.instanceMethod ⟨"java/lang/String", "length", "()I"⟩ ∈ gw := gw_t (tb_5 (List.mem_of_getElem? (i := 145) rfl)) rfl
theorem gw_1172 : Cond.selects "java/lang/String" ⟨"java/lang/String", "length", "()I"⟩ ⟨"java/lang/String", "length", "()I"⟩ ∈ gw := gw_t (tb_5 (List.mem_of_getElem? (i := 146) rfl)) rfl
theorem gw_1173 : Cond.code ⟨"java/lang/String", "length", "()I"⟩ prog_31_method_54_code 1 (some .int) ∈ gw := gw_t (tb_5 (List.mem_of_getElem? (i := 147) rfl)) rfl
theorem gw_1174 : Cond.methodLink "java/lang/String" 335 ⟨"java/lang/String", "coder", "()B"⟩ ∈ gw := gw_t (tb_5 (List.mem_of_getElem? (i := 148) rfl)) rfl
theorem gw_1175 : Cond.instanceMethod ⟨"java/lang/String", "coder", "()B"⟩ ∈ gw := gw_t (tb_5 (List.mem_of_getElem? (i := 149) rfl)) rfl
theorem gw_1176 : Cond.selects "java/lang/String" ⟨"java/lang/String", "coder", "()B"⟩ ⟨"java/lang/String", "coder", "()B"⟩ ∈ gw := gw_t (tb_5 (List.mem_of_getElem? (i := 150) rfl)) rfl
theorem gw_1177 : Cond.code ⟨"java/lang/String", "coder", "()B"⟩ prog_31_method_152_code 1 (some .byte) ∈ gw := gw_t (tb_5 (List.mem_of_getElem? (i := 151) rfl)) rfl
theorem gw_1178 : Cond.methodLink "HedgeCommittee$Program" 69 ⟨"HedgeCommittee$Program", "digitAhead", "()Z"⟩ ∈ gw := gw_t (tb_5 (List.mem_of_getElem? (i := 152) rfl)) rfl
theorem gw_1180 : Cond.instanceMethod ⟨"HedgeCommittee$Program", "digitAhead", "()Z"⟩ ∈ gw := gw_t (tb_5 (List.mem_of_getElem? (i := 154) rfl)) rfl
theorem gw_1181 : Cond.code ⟨"HedgeCommittee$Program", "digitAhead", "()Z"⟩ prog_8_method_9_code 1 (some .boolean) ∈ gw := gw_t (tb_5 (List.mem_of_getElem? (i := 155) rfl)) rfl
theorem gw_1182 : Cond.methodLink "HedgeCommittee$Program" 72 ⟨"HedgeCommittee$Program", "readDigits", "(Z)I"⟩ ∈ gw := gw_t (tb_5 (List.mem_of_getElem? (i := 156) rfl)) rfl
theorem gw_1184 : Cond.instanceMethod ⟨"HedgeCommittee$Program", "readDigits", "(Z)I"⟩ ∈ gw := gw_t (tb_5 (List.mem_of_getElem? (i := 158) rfl)) rfl
theorem gw_1185 : Cond.code ⟨"HedgeCommittee$Program", "readDigits", "(Z)I"⟩ prog_8_method_10_code 3 (some .int) ∈ gw := gw_t (tb_5 (List.mem_of_getElem? (i := 159) rfl)) rfl
theorem gw_1186 : Cond.methodLink "HedgeCommittee$Program" 40 ⟨"HedgeCommittee$Program", "readSign", "(C)Z"⟩ ∈ gw := gw_t (tb_5 (List.mem_of_getElem? (i := 160) rfl)) rfl
theorem gw_1188 : Cond.instanceMethod ⟨"HedgeCommittee$Program", "readSign", "(C)Z"⟩ ∈ gw := gw_t (tb_5 (List.mem_of_getElem? (i := 162) rfl)) rfl
theorem gw_1189 : Cond.code ⟨"HedgeCommittee$Program", "readSign", "(C)Z"⟩ prog_8_method_8_code 2 (some .boolean) ∈ gw := gw_t (tb_5 (List.mem_of_getElem? (i := 163) rfl)) rfl
theorem gw_1190 : Cond.classLink "HedgeCommittee$Program" 76 "HedgeCommittee$Command" ∈ gw := gw_t (tb_5 (List.mem_of_getElem? (i := 164) rfl)) rfl
theorem gw_1191 : Cond.instantiable "HedgeCommittee$Command" 4 ∈ gw := gw_t (tb_5 (List.mem_of_getElem? (i := 165) rfl)) rfl
theorem gw_1192 : Cond.methodLink "HedgeCommittee$Program" 78 ⟨"HedgeCommittee$Command", "<init>", "(LHedgeCommittee$Kind;III)V"⟩ ∈ gw := gw_t (tb_5 (List.mem_of_getElem? (i := 166) rfl)) rfl
theorem gw_1193 : Cond.instanceMethod ⟨"HedgeCommittee$Command", "<init>", "(LHedgeCommittee$Kind;III)V"⟩ ∈ gw := gw_t (tb_5 (List.mem_of_getElem? (i := 167) rfl)) rfl
theorem gw_1194 : Cond.code ⟨"HedgeCommittee$Command", "<init>", "(LHedgeCommittee$Kind;III)V"⟩ prog_3_method_1_code 5 none ∈ gw := gw_t (tb_5 (List.mem_of_getElem? (i := 168) rfl)) rfl
theorem gw_1195 : Cond.methodLink "HedgeCommittee$Command" 1 ⟨"java/lang/Object", "<init>", "()V"⟩ ∈ gw := gw_t (tb_5 (List.mem_of_getElem? (i := 169) rfl)) rfl
theorem gw_1196 : Cond.fieldLink "HedgeCommittee$Command" 7 "HedgeCommittee$Command" "kind" "LHedgeCommittee$Kind;" ∈ gw := gw_t (tb_5 (List.mem_of_getElem? (i := 170) rfl)) rfl
theorem gw_1198 : Cond.fieldLink "HedgeCommittee$Command" 13 "HedgeCommittee$Command" "first" "I" ∈ gw := gw_t (tb_5 (List.mem_of_getElem? (i := 172) rfl)) rfl
theorem gw_1200 : Cond.fieldLink "HedgeCommittee$Command" 17 "HedgeCommittee$Command" "second" "I" ∈ gw := gw_t (tb_5 (List.mem_of_getElem? (i := 174) rfl)) rfl
theorem gw_1202 : Cond.fieldLink "HedgeCommittee$Command" 20 "HedgeCommittee$Command" "third" "I" ∈ gw := gw_t (tb_5 (List.mem_of_getElem? (i := 176) rfl)) rfl
theorem gw_1204 : Cond.laysFinal "HedgeCommittee$Command" "HedgeCommittee$Command" "kind" "LHedgeCommittee$Kind;" ∈ gw := gw_t (tb_5 (List.mem_of_getElem? (i := 178) rfl)) rfl
theorem gw_1206 : Cond.laysFinal "HedgeCommittee$Command" "HedgeCommittee$Command" "first" "I" ∈ gw := gw_t (tb_5 (List.mem_of_getElem? (i := 180) rfl)) rfl
theorem gw_1208 : Cond.laysFinal "HedgeCommittee$Command" "HedgeCommittee$Command" "second" "I" ∈ gw := gw_t (tb_5 (List.mem_of_getElem? (i := 182) rfl)) rfl
theorem gw_1210 : Cond.laysFinal "HedgeCommittee$Command" "HedgeCommittee$Command" "third" "I" ∈ gw := gw_t (tb_5 (List.mem_of_getElem? (i := 184) rfl)) rfl
theorem gw_1212 : Cond.superclass "HedgeCommittee$Command" "java/lang/Object" ∈ gw := gw_t (tb_5 (List.mem_of_getElem? (i := 186) rfl)) rfl
theorem gw_1213 : Cond.methodLink "HedgeCommittee$Program" 81 ⟨"java/util/ArrayList", "add", "(Ljava/lang/Object;)Z"⟩ ∈ gw := gw_t (tb_5 (List.mem_of_getElem? (i := 187) rfl)) rfl
theorem gw_1214 : Cond.instanceMethod ⟨"java/util/ArrayList", "add", "(Ljava/lang/Object;)Z"⟩ ∈ gw := gw_t (tb_5 (List.mem_of_getElem? (i := 188) rfl)) rfl
theorem gw_1215 : Cond.selects "java/util/ArrayList" ⟨"java/util/ArrayList", "add", "(Ljava/lang/Object;)Z"⟩ ⟨"java/util/ArrayList", "add", "(Ljava/lang/Object;)Z"⟩ ∈ gw := gw_t (tb_5 (List.mem_of_getElem? (i := 189) rfl)) rfl
theorem gw_1216 : Cond.code ⟨"java/util/ArrayList", "add", "(Ljava/lang/Object;)Z"⟩ prog_43_method_25_code 2 (some .boolean) ∈ gw := gw_t (tb_5 (List.mem_of_getElem? (i := 190) rfl)) rfl
theorem gw_1217 : Cond.methodLink "java/util/ArrayList" 131 ⟨"java/util/ArrayList", "add", "(Ljava/lang/Object;[Ljava/lang/Object;I)V"⟩ ∈ gw := gw_t (tb_5 (List.mem_of_getElem? (i := 191) rfl)) rfl
theorem gw_1219 : Cond.instanceMethod ⟨"java/util/ArrayList", "add", "(Ljava/lang/Object;[Ljava/lang/Object;I)V"⟩ ∈ gw := gw_t (tb_5 (List.mem_of_getElem? (i := 193) rfl)) rfl
theorem gw_1220 : Cond.code ⟨"java/util/ArrayList", "add", "(Ljava/lang/Object;[Ljava/lang/Object;I)V"⟩ prog_43_method_24_code 4 none ∈ gw := gw_t (tb_5 (List.mem_of_getElem? (i := 194) rfl)) rfl
theorem gw_1221 : Cond.methodLink "java/util/ArrayList" 129 ⟨"java/util/ArrayList", "grow", "()[Ljava/lang/Object;"⟩ ∈ gw := gw_t (tb_5 (List.mem_of_getElem? (i := 195) rfl)) rfl
theorem gw_1223 : Cond.instanceMethod ⟨"java/util/ArrayList", "grow", "()[Ljava/lang/Object;"⟩ ∈ gw := gw_t (tb_5 (List.mem_of_getElem? (i := 197) rfl)) rfl
theorem gw_1224 : Cond.code ⟨"java/util/ArrayList", "grow", "()[Ljava/lang/Object;"⟩ prog_43_method_7_code 1 (some (.array (.object "java/lang/Object"))) ∈ gw := gw_t (tb_5 (List.mem_of_getElem? (i := 198) rfl)) rfl
theorem gw_1225 : Cond.methodLink "java/util/ArrayList" 69 ⟨"java/util/ArrayList", "grow", "(I)[Ljava/lang/Object;"⟩ ∈ gw := gw_t (tb_5 (List.mem_of_getElem? (i := 199) rfl)) rfl
theorem gw_1227 : Cond.instanceMethod ⟨"java/util/ArrayList", "grow", "(I)[Ljava/lang/Object;"⟩ ∈ gw := gw_t (tb_5 (List.mem_of_getElem? (i := 201) rfl)) rfl
theorem gw_1228 : Cond.code ⟨"java/util/ArrayList", "grow", "(I)[Ljava/lang/Object;"⟩ prog_43_method_6_code 4 (some (.array (.object "java/lang/Object"))) ∈ gw := gw_t (tb_5 (List.mem_of_getElem? (i := 202) rfl)) rfl
theorem gw_1229 : Cond.methodLink "java/util/ArrayList" 73 ⟨"jdk/internal/util/ArraysSupport", "newLength", "(III)I"⟩ ∈ gw := gw_t (tb_5 (List.mem_of_getElem? (i := 203) rfl)) rfl
theorem gw_1230 : Cond.static ⟨"jdk/internal/util/ArraysSupport", "newLength", "(III)I"⟩ ∈ gw := gw_t (tb_5 (List.mem_of_getElem? (i := 204) rfl)) rfl
theorem gw_1231 : Cond.code ⟨"jdk/internal/util/ArraysSupport", "newLength", "(III)I"⟩ prog_51_method_27_code 4 (some .int) ∈ gw := gw_t (tb_5 (List.mem_of_getElem? (i := 205) rfl)) rfl
theorem gw_1232 : Cond.methodLink "jdk/internal/util/ArraysSupport" 194 ⟨"java/lang/Math", "max", "(II)I"⟩ ∈ gw := gw_t (tb_5 (List.mem_of_getElem? (i := 206) rfl)) rfl
theorem gw_1233 : Cond.constant "jdk/internal/util/ArraysSupport" 200 (2147483639 : Int32) ∈ gw := gw_t (tb_5 (List.mem_of_getElem? (i := 207) rfl)) (by decide +kernel)
theorem gw_1234 : Cond.methodLink "jdk/internal/util/ArraysSupport" 201 ⟨"jdk/internal/util/ArraysSupport", "hugeLength", "(II)I"⟩ ∈ gw := gw_t (tb_5 (List.mem_of_getElem? (i := 208) rfl)) rfl
theorem gw_1235 : Cond.static ⟨"jdk/internal/util/ArraysSupport", "hugeLength", "(II)I"⟩ ∈ gw := gw_t (tb_5 (List.mem_of_getElem? (i := 209) rfl)) rfl
theorem gw_1236 : Cond.code ⟨"jdk/internal/util/ArraysSupport", "hugeLength", "(II)I"⟩ prog_51_method_28_code 3 (some .int) ∈ gw := gw_t (tb_5 (List.mem_of_getElem? (i := 210) rfl)) rfl
theorem gw_1237 : Cond.methodLink "java/util/ArrayList" 66 ⟨"java/util/Arrays", "copyOf", "([Ljava/lang/Object;I)[Ljava/lang/Object;"⟩ ∈ gw := gw_t (tb_5 (List.mem_of_getElem? (i := 211) rfl)) rfl
theorem gw_1238 : Cond.static ⟨"java/util/Arrays", "copyOf", "([Ljava/lang/Object;I)[Ljava/lang/Object;"⟩ ∈ gw := gw_t (tb_5 (List.mem_of_getElem? (i := 212) rfl)) rfl
theorem gw_1239 : Cond.code ⟨"java/util/Arrays", "copyOf", "([Ljava/lang/Object;I)[Ljava/lang/Object;"⟩ prog_44_method_119_code 2 (some (.array (.object "java/lang/Object"))) ∈ gw := gw_t (tb_5 (List.mem_of_getElem? (i := 213) rfl)) rfl
theorem gw_1240 : Cond.methodLink "java/util/Arrays" 86 ⟨"java/lang/Object", "getClass", "()Ljava/lang/Class;"⟩ ∈ gw := gw_t (tb_5 (List.mem_of_getElem? (i := 214) rfl)) rfl
theorem gw_1241 : Cond.instanceMethod ⟨"java/lang/Object", "getClass", "()Ljava/lang/Class;"⟩ ∈ gw := gw_t (tb_5 (List.mem_of_getElem? (i := 215) rfl)) rfl
theorem gw_1242 : Cond.sameMethod "java/lang/Object" "java/lang/Object" "getClass" "()Ljava/lang/Class;" ∈ gw := gw_t (tb_5 (List.mem_of_getElem? (i := 216) rfl)) rfl
theorem gw_1243 : Cond.selects "HedgeCommittee" ⟨"java/lang/Object", "getClass", "()Ljava/lang/Class;"⟩ ⟨"java/lang/Object", "getClass", "()Ljava/lang/Class;"⟩ ∈ gw := gw_t (tb_5 (List.mem_of_getElem? (i := 217) rfl)) rfl
theorem gw_1244 : Cond.selects "HedgeCommittee$Command" ⟨"java/lang/Object", "getClass", "()Ljava/lang/Class;"⟩ ⟨"java/lang/Object", "getClass", "()Ljava/lang/Class;"⟩ ∈ gw := gw_t (tb_5 (List.mem_of_getElem? (i := 218) rfl)) rfl
theorem gw_1245 : Cond.selects "HedgeCommittee$Hedges" ⟨"java/lang/Object", "getClass", "()Ljava/lang/Class;"⟩ ⟨"java/lang/Object", "getClass", "()Ljava/lang/Class;"⟩ ∈ gw := gw_t (tb_5 (List.mem_of_getElem? (i := 219) rfl)) rfl
theorem gw_1246 : Cond.selects "HedgeCommittee$History" ⟨"java/lang/Object", "getClass", "()Ljava/lang/Class;"⟩ ⟨"java/lang/Object", "getClass", "()Ljava/lang/Class;"⟩ ∈ gw := gw_t (tb_5 (List.mem_of_getElem? (i := 220) rfl)) rfl
theorem gw_1247 : Cond.selects "HedgeCommittee$Kind" ⟨"java/lang/Object", "getClass", "()Ljava/lang/Class;"⟩ ⟨"java/lang/Object", "getClass", "()Ljava/lang/Class;"⟩ ∈ gw := gw_t (tb_5 (List.mem_of_getElem? (i := 221) rfl)) rfl
theorem gw_1248 : Cond.selects "HedgeCommittee$Motions" ⟨"java/lang/Object", "getClass", "()Ljava/lang/Class;"⟩ ⟨"java/lang/Object", "getClass", "()Ljava/lang/Class;"⟩ ∈ gw := gw_t (tb_5 (List.mem_of_getElem? (i := 222) rfl)) rfl
theorem gw_1249 : Cond.selects "HedgeCommittee$Program" ⟨"java/lang/Object", "getClass", "()Ljava/lang/Class;"⟩ ⟨"java/lang/Object", "getClass", "()Ljava/lang/Class;"⟩ ∈ gw := gw_t (tb_5 (List.mem_of_getElem? (i := 223) rfl)) rfl
theorem gw_1250 : Cond.selects "HedgeCommittee$State" ⟨"java/lang/Object", "getClass", "()Ljava/lang/Class;"⟩ ⟨"java/lang/Object", "getClass", "()Ljava/lang/Class;"⟩ ∈ gw := gw_t (tb_5 (List.mem_of_getElem? (i := 224) rfl)) rfl
theorem gw_1251 : Cond.selects "HedgeCommittee$Trees" ⟨"java/lang/Object", "getClass", "()Ljava/lang/Class;"⟩ ⟨"java/lang/Object", "getClass", "()Ljava/lang/Class;"⟩ ∈ gw := gw_t (tb_5 (List.mem_of_getElem? (i := 225) rfl)) rfl
theorem gw_1252 : Cond.selects "HedgeCommitteeModel" ⟨"java/lang/Object", "getClass", "()Ljava/lang/Class;"⟩ ⟨"java/lang/Object", "getClass", "()Ljava/lang/Class;"⟩ ∈ gw := gw_t (tb_5 (List.mem_of_getElem? (i := 226) rfl)) rfl
theorem gw_1253 : Cond.selects "java/lang/ArithmeticException" ⟨"java/lang/Object", "getClass", "()Ljava/lang/Class;"⟩ ⟨"java/lang/Object", "getClass", "()Ljava/lang/Class;"⟩ ∈ gw := gw_t (tb_5 (List.mem_of_getElem? (i := 227) rfl)) rfl
theorem gw_1254 : Cond.selects "java/lang/ArrayIndexOutOfBoundsException" ⟨"java/lang/Object", "getClass", "()Ljava/lang/Class;"⟩ ⟨"java/lang/Object", "getClass", "()Ljava/lang/Class;"⟩ ∈ gw := gw_t (tb_5 (List.mem_of_getElem? (i := 228) rfl)) rfl
theorem gw_1255 : Cond.selects "java/lang/IllegalArgumentException" ⟨"java/lang/Object", "getClass", "()Ljava/lang/Class;"⟩ ⟨"java/lang/Object", "getClass", "()Ljava/lang/Class;"⟩ ∈ gw := gw_t (tb_5 (List.mem_of_getElem? (i := 229) rfl)) rfl
theorem gw_1256 : Cond.selects "java/lang/IllegalStateException" ⟨"java/lang/Object", "getClass", "()Ljava/lang/Class;"⟩ ⟨"java/lang/Object", "getClass", "()Ljava/lang/Class;"⟩ ∈ gw := gw_t (tb_5 (List.mem_of_getElem? (i := 230) rfl)) rfl
theorem gw_1257 : Cond.selects "java/lang/IndexOutOfBoundsException" ⟨"java/lang/Object", "getClass", "()Ljava/lang/Class;"⟩ ⟨"java/lang/Object", "getClass", "()Ljava/lang/Class;"⟩ ∈ gw := gw_t (tb_5 (List.mem_of_getElem? (i := 231) rfl)) rfl
theorem gw_1258 : Cond.selects "java/lang/String" ⟨"java/lang/Object", "getClass", "()Ljava/lang/Class;"⟩ ⟨"java/lang/Object", "getClass", "()Ljava/lang/Class;"⟩ ∈ gw := gw_t (tb_5 (List.mem_of_getElem? (i := 232) rfl)) rfl
theorem gw_1259 : Cond.selects "java/lang/StringBuilder" ⟨"java/lang/Object", "getClass", "()Ljava/lang/Class;"⟩ ⟨"java/lang/Object", "getClass", "()Ljava/lang/Class;"⟩ ∈ gw := gw_t (tb_5 (List.mem_of_getElem? (i := 233) rfl)) rfl
theorem gw_1260 : Cond.selects "java/lang/StringIndexOutOfBoundsException" ⟨"java/lang/Object", "getClass", "()Ljava/lang/Class;"⟩ ⟨"java/lang/Object", "getClass", "()Ljava/lang/Class;"⟩ ∈ gw := gw_t (tb_5 (List.mem_of_getElem? (i := 234) rfl)) rfl
theorem gw_1261 : Cond.selects "java/lang/UnsupportedOperationException" ⟨"java/lang/Object", "getClass", "()Ljava/lang/Class;"⟩ ⟨"java/lang/Object", "getClass", "()Ljava/lang/Class;"⟩ ∈ gw := gw_t (tb_5 (List.mem_of_getElem? (i := 235) rfl)) rfl
theorem gw_1262 : Cond.selects "java/util/ArrayList" ⟨"java/lang/Object", "getClass", "()Ljava/lang/Class;"⟩ ⟨"java/lang/Object", "getClass", "()Ljava/lang/Class;"⟩ ∈ gw := gw_t (tb_5 (List.mem_of_getElem? (i := 236) rfl)) rfl
theorem gw_1263 : Cond.selects "java/util/NoSuchElementException" ⟨"java/lang/Object", "getClass", "()Ljava/lang/Class;"⟩ ⟨"java/lang/Object", "getClass", "()Ljava/lang/Class;"⟩ ∈ gw := gw_t (tb_5 (List.mem_of_getElem? (i := 237) rfl)) rfl
theorem gw_1264 : Cond.native ⟨"java/lang/Object", "getClass", "()Ljava/lang/Class;"⟩ ∈ gw := gw_t (tb_5 (List.mem_of_getElem? (i := 238) rfl)) (by decide +kernel)
theorem gw_1265 : Cond.methodLink "java/util/Arrays" 300 ⟨"java/util/Arrays", "copyOf", "([Ljava/lang/Object;ILjava/lang/Class;)[Ljava/lang/Object;"⟩ ∈ gw := gw_t (tb_5 (List.mem_of_getElem? (i := 239) rfl)) rfl
theorem gw_1266 : Cond.static ⟨"java/util/Arrays", "copyOf", "([Ljava/lang/Object;ILjava/lang/Class;)[Ljava/lang/Object;"⟩ ∈ gw := gw_t (tb_6 (List.mem_of_getElem? (i := 0) rfl)) rfl
theorem gw_1267 : Cond.code ⟨"java/util/Arrays", "copyOf", "([Ljava/lang/Object;ILjava/lang/Class;)[Ljava/lang/Object;"⟩ prog_44_method_120_code 4 (some (.array (.object "java/lang/Object"))) ∈ gw := gw_t (tb_6 (List.mem_of_getElem? (i := 1) rfl)) rfl
theorem gw_1268 : Cond.classLink "java/util/Arrays" 110 "[Ljava/lang/Object;" ∈ gw := gw_t (tb_6 (List.mem_of_getElem? (i := 2) rfl)) rfl
theorem gw_1270 : Cond.classLink "java/util/Arrays" 2 "java/lang/Object" ∈ gw := gw_t (tb_6 (List.mem_of_getElem? (i := 4) rfl)) rfl
theorem gw_1271 : Cond.methodLink "java/util/Arrays" 304 ⟨"java/lang/Math", "min", "(II)I"⟩ ∈ gw := gw_t (tb_6 (List.mem_of_getElem? (i := 5) rfl)) rfl
theorem gw_1272 : Cond.methodLink "java/util/Arrays" 150 ⟨"java/lang/System", "arraycopy", "(Ljava/lang/Object;ILjava/lang/Object;II)V"⟩ ∈ gw := gw_t (tb_6 (List.mem_of_getElem? (i := 6) rfl)) rfl
theorem gw_1273 : Cond.methodLink "java/util/ArrayList" 79 ⟨"java/lang/Math", "max", "(II)I"⟩ ∈ gw := gw_t (tb_6 (List.mem_of_getElem? (i := 7) rfl)) rfl
theorem gw_1274 : Cond.classLink "java/util/ArrayList" 7 "java/lang/Object" ∈ gw := gw_t (tb_6 (List.mem_of_getElem? (i := 8) rfl)) rfl
theorem gw_1275 : Cond.methodLink "HedgeCommittee" 264 ⟨"HedgeCommittee$Program", "empty", "()V"⟩ ∈ gw := gw_t (tb_6 (List.mem_of_getElem? (i := 9) rfl)) rfl
theorem gw_1276 : Cond.instanceMethod ⟨"HedgeCommittee$Program", "empty", "()V"⟩ ∈ gw := gw_t (tb_6 (List.mem_of_getElem? (i := 10) rfl)) rfl
theorem gw_1277 : Cond.selects "HedgeCommittee$Program" ⟨"HedgeCommittee$Program", "empty", "()V"⟩ ⟨"HedgeCommittee$Program", "empty", "()V"⟩ ∈ gw := gw_t (tb_6 (List.mem_of_getElem? (i := 11) rfl)) rfl
theorem gw_1278 : Cond.code ⟨"HedgeCommittee$Program", "empty", "()V"⟩ prog_8_method_4_code 1 none ∈ gw := gw_t (tb_6 (List.mem_of_getElem? (i := 12) rfl)) rfl
theorem gw_1280 : Cond.methodLink "HedgeCommittee" 269 ⟨"HedgeCommittee", "firstFailure", "()I"⟩ ∈ gw := gw_t (tb_6 (List.mem_of_getElem? (i := 14) rfl)) rfl
theorem gw_1282 : Cond.instanceMethod ⟨"HedgeCommittee", "firstFailure", "()I"⟩ ∈ gw := gw_t (tb_6 (List.mem_of_getElem? (i := 16) rfl)) rfl
theorem gw_1283 : Cond.code ⟨"HedgeCommittee", "firstFailure", "()I"⟩ prog_1_method_53_code 2 (some .int) ∈ gw := gw_t (tb_6 (List.mem_of_getElem? (i := 17) rfl)) rfl
theorem gw_1284 : Cond.methodLink "HedgeCommittee" 281 ⟨"java/util/ArrayList", "size", "()I"⟩ ∈ gw := gw_t (tb_6 (List.mem_of_getElem? (i := 18) rfl)) rfl
theorem gw_1285 : Cond.instanceMethod ⟨"java/util/ArrayList", "size", "()I"⟩ ∈ gw := gw_t (tb_6 (List.mem_of_getElem? (i := 19) rfl)) rfl
theorem gw_1286 : Cond.selects "java/util/ArrayList" ⟨"java/util/ArrayList", "size", "()I"⟩ ⟨"java/util/ArrayList", "size", "()I"⟩ ∈ gw := gw_t (tb_6 (List.mem_of_getElem? (i := 20) rfl)) rfl
theorem gw_1287 : Cond.code ⟨"java/util/ArrayList", "size", "()I"⟩ prog_43_method_8_code 1 (some .int) ∈ gw := gw_t (tb_6 (List.mem_of_getElem? (i := 21) rfl)) rfl
theorem gw_1288 : Cond.methodLink "HedgeCommittee" 326 ⟨"java/util/ArrayList", "get", "(I)Ljava/lang/Object;"⟩ ∈ gw := gw_t (tb_6 (List.mem_of_getElem? (i := 22) rfl)) rfl
theorem gw_1289 : Cond.instanceMethod ⟨"java/util/ArrayList", "get", "(I)Ljava/lang/Object;"⟩ ∈ gw := gw_t (tb_6 (List.mem_of_getElem? (i := 23) rfl)) rfl
theorem gw_1290 : Cond.selects "java/util/ArrayList" ⟨"java/util/ArrayList", "get", "(I)Ljava/lang/Object;"⟩ ⟨"java/util/ArrayList", "get", "(I)Ljava/lang/Object;"⟩ ∈ gw := gw_t (tb_6 (List.mem_of_getElem? (i := 24) rfl)) rfl
theorem gw_1291 : Cond.code ⟨"java/util/ArrayList", "get", "(I)Ljava/lang/Object;"⟩ prog_43_method_20_code 2 (some (.object "java/lang/Object")) ∈ gw := gw_t (tb_6 (List.mem_of_getElem? (i := 25) rfl)) rfl
theorem gw_1292 : Cond.methodLink "java/util/ArrayList" 118 ⟨"java/util/Objects", "checkIndex", "(II)I"⟩ ∈ gw := gw_t (tb_6 (List.mem_of_getElem? (i := 26) rfl)) rfl
theorem gw_1293 : Cond.static ⟨"java/util/Objects", "checkIndex", "(II)I"⟩ ∈ gw := gw_t (tb_6 (List.mem_of_getElem? (i := 27) rfl)) rfl
theorem gw_1294 : Cond.code ⟨"java/util/Objects", "checkIndex", "(II)I"⟩ prog_48_method_17_code 2 (some .int) ∈ gw := gw_t (tb_6 (List.mem_of_getElem? (i := 28) rfl)) rfl
theorem gw_1295 : Cond.methodLink "java/util/Objects" 105 ⟨"jdk/internal/util/Preconditions", "checkIndex", "(IILjava/util/function/BiFunction;)I"⟩ ∈ gw := gw_t (tb_6 (List.mem_of_getElem? (i := 29) rfl)) rfl
theorem gw_1296 : Cond.methodLink "java/util/ArrayList" 123 ⟨"java/util/ArrayList", "elementData", "(I)Ljava/lang/Object;"⟩ ∈ gw := gw_t (tb_6 (List.mem_of_getElem? (i := 30) rfl)) rfl
theorem gw_1297 : Cond.instanceMethod ⟨"java/util/ArrayList", "elementData", "(I)Ljava/lang/Object;"⟩ ∈ gw := gw_t (tb_6 (List.mem_of_getElem? (i := 31) rfl)) rfl
theorem gw_1298 : Cond.selects "java/util/ArrayList" ⟨"java/util/ArrayList", "elementData", "(I)Ljava/lang/Object;"⟩ ⟨"java/util/ArrayList", "elementData", "(I)Ljava/lang/Object;"⟩ ∈ gw := gw_t (tb_6 (List.mem_of_getElem? (i := 32) rfl)) rfl
theorem gw_1299 : Cond.code ⟨"java/util/ArrayList", "elementData", "(I)Ljava/lang/Object;"⟩ prog_43_method_18_code 2 (some (.object "java/lang/Object")) ∈ gw := gw_t (tb_6 (List.mem_of_getElem? (i := 33) rfl)) rfl
theorem gw_1300 : Cond.classLink "HedgeCommittee" 330 "HedgeCommittee$Command" ∈ gw := gw_t (tb_6 (List.mem_of_getElem? (i := 34) rfl)) rfl
theorem gw_1301 : Cond.methodLink "HedgeCommittee" 332 ⟨"HedgeCommittee", "succeeds", "(LHedgeCommittee$Command;)Z"⟩ ∈ gw := gw_t (tb_6 (List.mem_of_getElem? (i := 35) rfl)) rfl
theorem gw_1303 : Cond.instanceMethod ⟨"HedgeCommittee", "succeeds", "(LHedgeCommittee$Command;)Z"⟩ ∈ gw := gw_t (tb_6 (List.mem_of_getElem? (i := 37) rfl)) rfl
theorem gw_1304 : Cond.codeWith ⟨"HedgeCommittee", "succeeds", "(LHedgeCommittee$Command;)Z"⟩ prog_1_method_54_code 3 (some .boolean) [(0, 174, 175, 117), (0, 174, 178, 207), (0, 174, 181, 252)] ∈ gw := gw_t (tb_6 (List.mem_of_getElem? (i := 38) rfl)) rfl
theorem gw_1305 : Cond.fieldLink "HedgeCommittee" 336 "HedgeCommittee$1" "$SwitchMap$HedgeCommittee$Kind" "[I" ∈ gw := gw_t (tb_6 (List.mem_of_getElem? (i := 39) rfl)) rfl
theorem gw_1307 : Cond.methodLink "HedgeCommittee" 345 ⟨"HedgeCommittee$Kind", "ordinal", "()I"⟩ ∈ gw := gw_t (tb_6 (List.mem_of_getElem? (i := 41) rfl)) rfl
theorem gw_1308 : Cond.sameMethod "HedgeCommittee$Kind" "java/lang/Enum" "ordinal" "()I" ∈ gw := gw_t (tb_6 (List.mem_of_getElem? (i := 42) rfl)) rfl
theorem gw_1310 : Cond.selects "HedgeCommittee$Kind" ⟨"HedgeCommittee$Kind", "ordinal", "()I"⟩ ⟨"java/lang/Enum", "ordinal", "()I"⟩ ∈ gw := gw_t (tb_6 (List.mem_of_getElem? (i := 44) rfl)) rfl
theorem gw_1311 : Cond.instanceMethod ⟨"java/lang/Enum", "ordinal", "()I"⟩ ∈ gw := gw_t (tb_6 (List.mem_of_getElem? (i := 45) rfl)) rfl
theorem gw_1312 : Cond.code ⟨"java/lang/Enum", "ordinal", "()I"⟩ prog_21_method_2_code 1 (some .int) ∈ gw := gw_t (tb_6 (List.mem_of_getElem? (i := 46) rfl)) rfl
theorem gw_1313 : Cond.methodLink "HedgeCommittee" 272 ⟨"HedgeCommittee$History", "bringBackNoted", "(LHedgeCommittee$State;)V"⟩ ∈ gw := gw_t (tb_6 (List.mem_of_getElem? (i := 47) rfl)) rfl
theorem gw_1314 : Cond.instanceMethod ⟨"HedgeCommittee$History", "bringBackNoted", "(LHedgeCommittee$State;)V"⟩ ∈ gw := gw_t (tb_6 (List.mem_of_getElem? (i := 48) rfl)) rfl
theorem gw_1315 : Cond.selects "HedgeCommittee$History" ⟨"HedgeCommittee$History", "bringBackNoted", "(LHedgeCommittee$State;)V"⟩ ⟨"HedgeCommittee$History", "bringBackNoted", "(LHedgeCommittee$State;)V"⟩ ∈ gw := gw_t (tb_6 (List.mem_of_getElem? (i := 49) rfl)) rfl
theorem gw_1316 : Cond.code ⟨"HedgeCommittee$History", "bringBackNoted", "(LHedgeCommittee$State;)V"⟩ prog_5_method_3_code 2 none ∈ gw := gw_t (tb_6 (List.mem_of_getElem? (i := 50) rfl)) rfl
theorem gw_1318 : Cond.methodLink "HedgeCommitteeLaw" 289 ⟨"HedgeCommitteeLaw", "errorPosition", "(LHedgeCommittee;[J)I"⟩ ∈ gw := gw_t (tb_6 (List.mem_of_getElem? (i := 52) rfl)) rfl
theorem gw_1319 : Cond.static ⟨"HedgeCommitteeLaw", "errorPosition", "(LHedgeCommittee;[J)I"⟩ ∈ gw := gw_t (tb_6 (List.mem_of_getElem? (i := 53) rfl)) rfl
theorem gw_1320 : Cond.codeWith ⟨"HedgeCommitteeLaw", "errorPosition", "(LHedgeCommittee;[J)I"⟩ method_33_code 3 (some .int) [(0, 8, 11, 24)] ∈ gw := gw_t (tb_6 (List.mem_of_getElem? (i := 54) rfl)) rfl
theorem gw_1321 : Cond.methodLink "HedgeCommitteeLaw" 121 ⟨"HedgeCommittee", "errorPosition", "()I"⟩ ∈ gw := gw_t (tb_6 (List.mem_of_getElem? (i := 55) rfl)) rfl
theorem gw_1322 : Cond.instanceMethod ⟨"HedgeCommittee", "errorPosition", "()I"⟩ ∈ gw := gw_t (tb_6 (List.mem_of_getElem? (i := 56) rfl)) rfl
theorem gw_1323 : Cond.selects "HedgeCommittee" ⟨"HedgeCommittee", "errorPosition", "()I"⟩ ⟨"HedgeCommittee", "errorPosition", "()I"⟩ ∈ gw := gw_t (tb_6 (List.mem_of_getElem? (i := 57) rfl)) rfl
theorem gw_1324 : Cond.code ⟨"HedgeCommittee", "errorPosition", "()I"⟩ prog_1_method_43_code 1 (some .int) ∈ gw := gw_t (tb_6 (List.mem_of_getElem? (i := 58) rfl)) rfl
theorem gw_1326 : Cond.methodLink "HedgeCommitteeLaw" 292 ⟨"HedgeCommitteeLaw", "failedCommand", "(LHedgeCommittee;[J)I"⟩ ∈ gw := gw_t (tb_6 (List.mem_of_getElem? (i := 60) rfl)) rfl
theorem gw_1327 : Cond.static ⟨"HedgeCommitteeLaw", "failedCommand", "(LHedgeCommittee;[J)I"⟩ ∈ gw := gw_t (tb_6 (List.mem_of_getElem? (i := 61) rfl)) rfl
theorem gw_1328 : Cond.codeWith ⟨"HedgeCommitteeLaw", "failedCommand", "(LHedgeCommittee;[J)I"⟩ method_34_code 3 (some .int) [(0, 8, 11, 24)] ∈ gw := gw_t (tb_6 (List.mem_of_getElem? (i := 62) rfl)) rfl
theorem gw_1329 : Cond.methodLink "HedgeCommitteeLaw" 124 ⟨"HedgeCommittee", "failedCommand", "()I"⟩ ∈ gw := gw_t (tb_6 (List.mem_of_getElem? (i := 63) rfl)) rfl
theorem gw_1330 : Cond.instanceMethod ⟨"HedgeCommittee", "failedCommand", "()I"⟩ ∈ gw := gw_t (tb_6 (List.mem_of_getElem? (i := 64) rfl)) rfl
theorem gw_1331 : Cond.selects "HedgeCommittee" ⟨"HedgeCommittee", "failedCommand", "()I"⟩ ⟨"HedgeCommittee", "failedCommand", "()I"⟩ ∈ gw := gw_t (tb_6 (List.mem_of_getElem? (i := 65) rfl)) rfl
theorem gw_1332 : Cond.code ⟨"HedgeCommittee", "failedCommand", "()I"⟩ prog_1_method_44_code 1 (some .int) ∈ gw := gw_t (tb_6 (List.mem_of_getElem? (i := 66) rfl)) rfl
theorem gw_1334 : Cond.methodLink "HedgeCommitteeLaw" 295 ⟨"HedgeCommitteeLaw", "writeBranch", "(LHedgeCommittee;I[J)I"⟩ ∈ gw := gw_t (tb_6 (List.mem_of_getElem? (i := 68) rfl)) rfl
theorem gw_1335 : Cond.static ⟨"HedgeCommitteeLaw", "writeBranch", "(LHedgeCommittee;I[J)I"⟩ ∈ gw := gw_t (tb_6 (List.mem_of_getElem? (i := 69) rfl)) rfl
theorem gw_1336 : Cond.codeWith ⟨"HedgeCommitteeLaw", "writeBranch", "(LHedgeCommittee;I[J)I"⟩ method_35_code 4 (some .int) [(0, 9, 12, 24)] ∈ gw := gw_t (tb_6 (List.mem_of_getElem? (i := 70) rfl)) rfl
theorem gw_1337 : Cond.methodLink "HedgeCommitteeLaw" 127 ⟨"HedgeCommittee", "writeBranch", "(I)I"⟩ ∈ gw := gw_t (tb_6 (List.mem_of_getElem? (i := 71) rfl)) rfl
theorem gw_1338 : Cond.instanceMethod ⟨"HedgeCommittee", "writeBranch", "(I)I"⟩ ∈ gw := gw_t (tb_6 (List.mem_of_getElem? (i := 72) rfl)) rfl
theorem gw_1339 : Cond.selects "HedgeCommittee" ⟨"HedgeCommittee", "writeBranch", "(I)I"⟩ ⟨"HedgeCommittee", "writeBranch", "(I)I"⟩ ∈ gw := gw_t (tb_6 (List.mem_of_getElem? (i := 73) rfl)) rfl
theorem gw_1340 : Cond.code ⟨"HedgeCommittee", "writeBranch", "(I)I"⟩ prog_1_method_45_code 3 (some .int) ∈ gw := gw_t (tb_6 (List.mem_of_getElem? (i := 74) rfl)) rfl
theorem gw_1341 : Cond.methodLink "HedgeCommittee" 290 ⟨"java/lang/StringBuilder", "setLength", "(I)V"⟩ ∈ gw := gw_t (tb_6 (List.mem_of_getElem? (i := 75) rfl)) rfl
theorem gw_1342 : Cond.instanceMethod ⟨"java/lang/StringBuilder", "setLength", "(I)V"⟩ ∈ gw := gw_t (tb_6 (List.mem_of_getElem? (i := 76) rfl)) rfl
theorem gw_1343 : Cond.selects "java/lang/StringBuilder" ⟨"java/lang/StringBuilder", "setLength", "(I)V"⟩ ⟨"java/lang/StringBuilder", "setLength", "(I)V"⟩ ∈ gw := gw_t (tb_6 (List.mem_of_getElem? (i := 77) rfl)) rfl
theorem gw_1344 : Cond.code ⟨"java/lang/StringBuilder", "setLength", "(I)V"⟩ prog_32_method_89_code 2 none ∈ gw := gw_t (tb_6 (List.mem_of_getElem? (i := 78) rfl)) rfl
theorem gw_1345 : Cond.methodLink "java/lang/StringBuilder" 333 ⟨"java/lang/AbstractStringBuilder", "setLength", "(I)V"⟩ ∈ gw := gw_t (tb_6 (List.mem_of_getElem? (i := 79) rfl)) rfl
theorem gw_1346 : Cond.instanceMethod ⟨"java/lang/AbstractStringBuilder", "setLength", "(I)V"⟩ ∈ gw := gw_t (tb_6 (List.mem_of_getElem? (i := 80) rfl)) rfl
theorem gw_1347 : Cond.code ⟨"java/lang/AbstractStringBuilder", "setLength", "(I)V"⟩ prog_14_method_13_code 2 none ∈ gw := gw_t (tb_6 (List.mem_of_getElem? (i := 81) rfl)) rfl
theorem gw_1348 : Cond.classLink "java/lang/AbstractStringBuilder" 129 "java/lang/StringIndexOutOfBoundsException" ∈ gw := gw_t (tb_6 (List.mem_of_getElem? (i := 82) rfl)) rfl
theorem gw_1349 : Cond.instantiable "java/lang/StringIndexOutOfBoundsException" 6 ∈ gw := gw_t (tb_6 (List.mem_of_getElem? (i := 83) rfl)) rfl
theorem gw_1350 : Cond.methodLink "java/lang/AbstractStringBuilder" 131 ⟨"java/lang/StringIndexOutOfBoundsException", "<init>", "(I)V"⟩ ∈ gw := gw_t (tb_6 (List.mem_of_getElem? (i := 84) rfl)) rfl
theorem gw_1351 : Cond.instanceMethod ⟨"java/lang/StringIndexOutOfBoundsException", "<init>", "(I)V"⟩ ∈ gw := gw_t (tb_6 (List.mem_of_getElem? (i := 85) rfl)) rfl
theorem gw_1352 : Cond.code ⟨"java/lang/StringIndexOutOfBoundsException", "<init>", "(I)V"⟩ prog_33_method_3_code 2 none ∈ gw := gw_t (tb_6 (List.mem_of_getElem? (i := 86) rfl)) rfl
theorem gw_1353 : Cond.classLink "java/lang/StringIndexOutOfBoundsException" 10 "java/lang/StringBuilder" ∈ gw := gw_t (tb_6 (List.mem_of_getElem? (i := 87) rfl)) rfl
theorem gw_1354 : Cond.methodLink "java/lang/StringIndexOutOfBoundsException" 12 ⟨"java/lang/StringBuilder", "<init>", "()V"⟩ ∈ gw := gw_t (tb_6 (List.mem_of_getElem? (i := 88) rfl)) rfl
theorem gw_1356 : Cond.methodLink "java/lang/StringIndexOutOfBoundsException" 15 ⟨"java/lang/StringBuilder", "append", "(Ljava/lang/String;)Ljava/lang/StringBuilder;"⟩ ∈ gw := gw_t (tb_6 (List.mem_of_getElem? (i := 90) rfl)) rfl
theorem gw_1357 : Cond.instanceMethod ⟨"java/lang/StringBuilder", "append", "(Ljava/lang/String;)Ljava/lang/StringBuilder;"⟩ ∈ gw := gw_t (tb_6 (List.mem_of_getElem? (i := 91) rfl)) rfl
theorem gw_1358 : Cond.selects "java/lang/StringBuilder" ⟨"java/lang/StringBuilder", "append", "(Ljava/lang/String;)Ljava/lang/StringBuilder;"⟩ ⟨"java/lang/StringBuilder", "append", "(Ljava/lang/String;)Ljava/lang/StringBuilder;"⟩ ∈ gw := gw_t (tb_6 (List.mem_of_getElem? (i := 92) rfl)) rfl
theorem gw_1359 : Cond.code ⟨"java/lang/StringBuilder", "append", "(Ljava/lang/String;)Ljava/lang/StringBuilder;"⟩ prog_32_method_7_code 2 (some (.object "java/lang/StringBuilder")) ∈ gw := gw_t (tb_6 (List.mem_of_getElem? (i := 93) rfl)) rfl
theorem gw_1360 : Cond.methodLink "java/lang/StringBuilder" 29 ⟨"java/lang/AbstractStringBuilder", "append", "(Ljava/lang/String;)Ljava/lang/AbstractStringBuilder;"⟩ ∈ gw := gw_t (tb_6 (List.mem_of_getElem? (i := 94) rfl)) rfl
theorem gw_1361 : Cond.instanceMethod ⟨"java/lang/AbstractStringBuilder", "append", "(Ljava/lang/String;)Ljava/lang/AbstractStringBuilder;"⟩ ∈ gw := gw_t (tb_6 (List.mem_of_getElem? (i := 95) rfl)) rfl
theorem gw_1362 : Cond.code ⟨"java/lang/AbstractStringBuilder", "append", "(Ljava/lang/String;)Ljava/lang/AbstractStringBuilder;"⟩ prog_14_method_22_code 3 (some (.object "java/lang/AbstractStringBuilder")) ∈ gw := gw_t (tb_6 (List.mem_of_getElem? (i := 96) rfl)) rfl
theorem gw_1363 : Cond.methodLink "java/lang/AbstractStringBuilder" 204 ⟨"java/lang/AbstractStringBuilder", "appendNull", "()Ljava/lang/AbstractStringBuilder;"⟩ ∈ gw := gw_t (tb_6 (List.mem_of_getElem? (i := 97) rfl)) rfl
theorem gw_1365 : Cond.instanceMethod ⟨"java/lang/AbstractStringBuilder", "appendNull", "()Ljava/lang/AbstractStringBuilder;"⟩ ∈ gw := gw_t (tb_6 (List.mem_of_getElem? (i := 99) rfl)) rfl
theorem gw_1366 : Cond.code ⟨"java/lang/AbstractStringBuilder", "appendNull", "()Ljava/lang/AbstractStringBuilder;"⟩ prog_14_method_26_code 3 (some (.object "java/lang/AbstractStringBuilder")) ∈ gw := gw_t (tb_6 (List.mem_of_getElem? (i := 100) rfl)) rfl
theorem gw_1367 : Cond.methodLink "java/lang/AbstractStringBuilder" 100 ⟨"java/lang/AbstractStringBuilder", "ensureCapacityInternal", "(I)V"⟩ ∈ gw := gw_t (tb_6 (List.mem_of_getElem? (i := 101) rfl)) rfl
theorem gw_1369 : Cond.instanceMethod ⟨"java/lang/AbstractStringBuilder", "ensureCapacityInternal", "(I)V"⟩ ∈ gw := gw_t (tb_6 (List.mem_of_getElem? (i := 103) rfl)) rfl
theorem gw_1370 : Cond.code ⟨"java/lang/AbstractStringBuilder", "ensureCapacityInternal", "(I)V"⟩ prog_14_method_9_code 3 none ∈ gw := gw_t (tb_6 (List.mem_of_getElem? (i := 104) rfl)) rfl
theorem gw_1371 : Cond.methodLink "java/lang/AbstractStringBuilder" 104 ⟨"java/lang/AbstractStringBuilder", "newCapacity", "(I)I"⟩ ∈ gw := gw_t (tb_6 (List.mem_of_getElem? (i := 105) rfl)) rfl
theorem gw_1373 : Cond.instanceMethod ⟨"java/lang/AbstractStringBuilder", "newCapacity", "(I)I"⟩ ∈ gw := gw_t (tb_6 (List.mem_of_getElem? (i := 107) rfl)) rfl
theorem gw_1374 : Cond.code ⟨"java/lang/AbstractStringBuilder", "newCapacity", "(I)I"⟩ prog_14_method_10_code 6 (some .int) ∈ gw := gw_t (tb_6 (List.mem_of_getElem? (i := 108) rfl)) rfl
theorem gw_1375 : Cond.methodLink "java/lang/AbstractStringBuilder" 114 ⟨"jdk/internal/util/ArraysSupport", "newLength", "(III)I"⟩ ∈ gw := gw_t (tb_6 (List.mem_of_getElem? (i := 109) rfl)) rfl
theorem gw_1376 : Cond.constant "java/lang/AbstractStringBuilder" 39 (2147483647 : Int32) ∈ gw := gw_t (tb_6 (List.mem_of_getElem? (i := 110) rfl)) (by decide +kernel)
theorem gw_1377 : Cond.methodLink "java/lang/AbstractStringBuilder" 108 ⟨"java/util/Arrays", "copyOf", "([BI)[B"⟩ ∈ gw := gw_t (tb_6 (List.mem_of_getElem? (i := 111) rfl)) rfl
theorem gw_1378 : Cond.static ⟨"java/util/Arrays", "copyOf", "([BI)[B"⟩ ∈ gw := gw_t (tb_6 (List.mem_of_getElem? (i := 112) rfl)) rfl
theorem gw_1379 : Cond.code ⟨"java/util/Arrays", "copyOf", "([BI)[B"⟩ prog_44_method_121_code 3 (some (.array .byte)) ∈ gw := gw_t (tb_6 (List.mem_of_getElem? (i := 113) rfl)) rfl
theorem gw_1380 : Cond.methodLink "java/util/Arrays" 310 ⟨"[B", "clone", "()Ljava/lang/Object;"⟩ ∈ gw := gw_t (tb_6 (List.mem_of_getElem? (i := 114) rfl)) rfl
theorem gw_1381 : Cond.sameMethod "[B" "java/lang/Object" "clone" "()Ljava/lang/Object;" ∈ gw := gw_t (tb_6 (List.mem_of_getElem? (i := 115) rfl)) rfl
theorem gw_1382 : Cond.native ⟨"java/lang/Object", "clone", "()Ljava/lang/Object;"⟩ ∈ gw := gw_t (tb_6 (List.mem_of_getElem? (i := 116) rfl)) (by decide +kernel)
theorem gw_1383 : Cond.instanceMethod ⟨"java/lang/Object", "clone", "()Ljava/lang/Object;"⟩ ∈ gw := gw_t (tb_6 (List.mem_of_getElem? (i := 117) rfl)) rfl
theorem gw_1384 : Cond.selects "[B" ⟨"[B", "clone", "()Ljava/lang/Object;"⟩ ⟨"java/lang/Object", "clone", "()Ljava/lang/Object;"⟩ ∈ gw := gw_t (tb_6 (List.mem_of_getElem? (i := 118) rfl)) rfl
theorem gw_1386 : Cond.classLink "java/util/Arrays" 311 "[B" ∈ gw := gw_t (tb_6 (List.mem_of_getElem? (i := 120) rfl)) rfl
theorem gw_1387 : Cond.methodLink "java/lang/AbstractStringBuilder" 83 ⟨"java/lang/AbstractStringBuilder", "isLatin1", "()Z"⟩ ∈ gw := gw_t (tb_6 (List.mem_of_getElem? (i := 121) rfl)) rfl
theorem gw_1388 : Cond.instanceMethod ⟨"java/lang/AbstractStringBuilder", "isLatin1", "()Z"⟩ ∈ gw := gw_t (tb_6 (List.mem_of_getElem? (i := 122) rfl)) rfl
theorem gw_1389 : Cond.sameMethod "java/lang/AbstractStringBuilder" "java/lang/AbstractStringBuilder" "isLatin1" "()Z" ∈ gw := gw_t (tb_6 (List.mem_of_getElem? (i := 123) rfl)) rfl
theorem gw_1390 : Cond.selects "java/lang/StringBuilder" ⟨"java/lang/AbstractStringBuilder", "isLatin1", "()Z"⟩ ⟨"java/lang/AbstractStringBuilder", "isLatin1", "()Z"⟩ ∈ gw := gw_t (tb_6 (List.mem_of_getElem? (i := 124) rfl)) rfl
theorem gw_1391 : Cond.code ⟨"java/lang/AbstractStringBuilder", "isLatin1", "()Z"⟩ prog_14_method_68_code 1 (some .boolean) ∈ gw := gw_t (tb_6 (List.mem_of_getElem? (i := 125) rfl)) rfl
theorem gw_1392 : Cond.methodLink "java/lang/AbstractStringBuilder" 226 ⟨"java/lang/StringUTF16", "putCharsAt", "([BICCCC)I"⟩ ∈ gw := gw_t (tb_6 (List.mem_of_getElem? (i := 126) rfl)) rfl
theorem gw_1393 : Cond.static ⟨"java/lang/StringUTF16", "putCharsAt", "([BICCCC)I"⟩ ∈ gw := gw_t (tb_6 (List.mem_of_getElem? (i := 127) rfl)) rfl
theorem gw_1394 : Cond.code ⟨"java/lang/StringUTF16", "putCharsAt", "([BICCCC)I"⟩ prog_35_method_81_code 7 (some .int) ∈ gw := gw_t (tb_6 (List.mem_of_getElem? (i := 128) rfl)) rfl
theorem gw_1395 : Cond.methodLink "java/lang/StringUTF16" 96 ⟨"java/lang/StringUTF16", "checkBoundsBeginEnd", "(II[B)V"⟩ ∈ gw := gw_t (tb_6 (List.mem_of_getElem? (i := 129) rfl)) rfl
theorem gw_1396 : Cond.static ⟨"java/lang/StringUTF16", "checkBoundsBeginEnd", "(II[B)V"⟩ ∈ gw := gw_t (tb_6 (List.mem_of_getElem? (i := 130) rfl)) rfl
theorem gw_1397 : Cond.code ⟨"java/lang/StringUTF16", "checkBoundsBeginEnd", "(II[B)V"⟩ prog_35_method_93_code 3 none ∈ gw := gw_t (tb_6 (List.mem_of_getElem? (i := 131) rfl)) rfl
theorem gw_1398 : Cond.methodLink "java/lang/StringUTF16" 241 ⟨"java/lang/String", "checkBoundsBeginEnd", "(III)V"⟩ ∈ gw := gw_t (tb_6 (List.mem_of_getElem? (i := 132) rfl)) rfl
theorem gw_1399 : Cond.static ⟨"java/lang/String", "checkBoundsBeginEnd", "(III)V"⟩ ∈ gw := gw_t (tb_6 (List.mem_of_getElem? (i := 133) rfl)) rfl
theorem gw_1400 : Cond.code ⟨"java/lang/String", "checkBoundsBeginEnd", "(III)V"⟩ prog_31_method_158_code 3 none ∈ gw := gw_t (tb_6 (List.mem_of_getElem? (i := 134) rfl)) rfl
theorem gw_1401 : Cond.methodLink "java/lang/String" 1062 ⟨"jdk/internal/util/Preconditions", "checkFromToIndex", "(IIILjava/util/function/BiFunction;)I"⟩ ∈ gw := gw_t (tb_6 (List.mem_of_getElem? (i := 135) rfl)) rfl
theorem gw_1402 : Cond.static ⟨"jdk/internal/util/Preconditions", "checkFromToIndex", "(IIILjava/util/function/BiFunction;)I"⟩ ∈ gw := gw_t (tb_6 (List.mem_of_getElem? (i := 136) rfl)) rfl
theorem gw_1403 : Cond.code ⟨"jdk/internal/util/Preconditions", "checkFromToIndex", "(IIILjava/util/function/BiFunction;)I"⟩ prog_52_method_12_code 4 (some .int) ∈ gw := gw_t (tb_6 (List.mem_of_getElem? (i := 137) rfl)) rfl
theorem gw_1404 : Cond.methodLink "java/lang/StringUTF16" 111 ⟨"java/lang/StringUTF16", "putChar", "([BII)V"⟩ ∈ gw := gw_t (tb_6 (List.mem_of_getElem? (i := 138) rfl)) rfl
theorem gw_1405 : Cond.static ⟨"java/lang/StringUTF16", "putChar", "([BII)V"⟩ ∈ gw := gw_t (tb_6 (List.mem_of_getElem? (i := 139) rfl)) rfl
theorem gw_1406 : Cond.code ⟨"java/lang/StringUTF16", "putChar", "([BII)V"⟩ prog_35_method_4_code 3 none ∈ gw := gw_t (tb_6 (List.mem_of_getElem? (i := 140) rfl)) rfl
theorem gw_1407 : Cond.methodLink "java/lang/AbstractStringBuilder" 32 ⟨"java/lang/String", "length", "()I"⟩ ∈ gw := gw_t (tb_6 (List.mem_of_getElem? (i := 141) rfl)) rfl
theorem gw_1408 : Cond.methodLink "java/lang/AbstractStringBuilder" 208 ⟨"java/lang/AbstractStringBuilder", "putStringAt", "(ILjava/lang/String;)V"⟩ ∈ gw := gw_t (tb_6 (List.mem_of_getElem? (i := 142) rfl)) rfl
theorem gw_1410 : Cond.instanceMethod ⟨"java/lang/AbstractStringBuilder", "putStringAt", "(ILjava/lang/String;)V"⟩ ∈ gw := gw_t (tb_6 (List.mem_of_getElem? (i := 144) rfl)) rfl
theorem gw_1411 : Cond.code ⟨"java/lang/AbstractStringBuilder", "putStringAt", "(ILjava/lang/String;)V"⟩ prog_14_method_73_code 3 none ∈ gw := gw_t (tb_6 (List.mem_of_getElem? (i := 145) rfl)) rfl
theorem gw_1412 : Cond.methodLink "java/lang/AbstractStringBuilder" 397 ⟨"java/lang/AbstractStringBuilder", "inflateIfNeededFor", "(Ljava/lang/String;)V"⟩ ∈ gw := gw_t (tb_6 (List.mem_of_getElem? (i := 146) rfl)) rfl
theorem gw_1414 : Cond.instanceMethod ⟨"java/lang/AbstractStringBuilder", "inflateIfNeededFor", "(Ljava/lang/String;)V"⟩ ∈ gw := gw_t (tb_6 (List.mem_of_getElem? (i := 148) rfl)) rfl
theorem gw_1415 : Cond.code ⟨"java/lang/AbstractStringBuilder", "inflateIfNeededFor", "(Ljava/lang/String;)V"⟩ prog_14_method_71_code 2 none ∈ gw := gw_t (tb_6 (List.mem_of_getElem? (i := 149) rfl)) rfl
theorem gw_1416 : Cond.methodLink "java/lang/AbstractStringBuilder" 40 ⟨"java/lang/String", "coder", "()B"⟩ ∈ gw := gw_t (tb_6 (List.mem_of_getElem? (i := 150) rfl)) rfl
theorem gw_1417 : Cond.methodLink "java/lang/AbstractStringBuilder" 195 ⟨"java/lang/AbstractStringBuilder", "inflate", "()V"⟩ ∈ gw := gw_t (tb_6 (List.mem_of_getElem? (i := 151) rfl)) rfl
theorem gw_1419 : Cond.instanceMethod ⟨"java/lang/AbstractStringBuilder", "inflate", "()V"⟩ ∈ gw := gw_t (tb_6 (List.mem_of_getElem? (i := 153) rfl)) rfl
theorem gw_1420 : Cond.code ⟨"java/lang/AbstractStringBuilder", "inflate", "()V"⟩ prog_14_method_11_code 2 none ∈ gw := gw_t (tb_6 (List.mem_of_getElem? (i := 154) rfl)) rfl
theorem gw_1421 : Cond.methodLink "java/lang/AbstractStringBuilder" 125 ⟨"java/lang/StringLatin1", "inflate", "([BI[BII)V"⟩ ∈ gw := gw_t (tb_6 (List.mem_of_getElem? (i := 155) rfl)) rfl
theorem gw_1422 : Cond.static ⟨"java/lang/StringLatin1", "inflate", "([BI[BII)V"⟩ ∈ gw := gw_t (tb_6 (List.mem_of_getElem? (i := 156) rfl)) rfl
theorem gw_1423 : Cond.code ⟨"java/lang/StringLatin1", "inflate", "([BI[BII)V"⟩ prog_34_method_50_code 5 none ∈ gw := gw_t (tb_6 (List.mem_of_getElem? (i := 157) rfl)) rfl
theorem gw_1424 : Cond.methodLink "java/lang/StringLatin1" 240 ⟨"java/lang/StringUTF16", "inflate", "([BI[BII)V"⟩ ∈ gw := gw_t (tb_6 (List.mem_of_getElem? (i := 158) rfl)) rfl
theorem gw_1425 : Cond.static ⟨"java/lang/StringUTF16", "inflate", "([BI[BII)V"⟩ ∈ gw := gw_t (tb_6 (List.mem_of_getElem? (i := 159) rfl)) rfl
theorem gw_1426 : Cond.code ⟨"java/lang/StringUTF16", "inflate", "([BI[BII)V"⟩ prog_35_method_86_code 6 none ∈ gw := gw_t (tb_6 (List.mem_of_getElem? (i := 160) rfl)) rfl
theorem gw_1427 : Cond.methodLink "java/lang/StringUTF16" 173 ⟨"java/lang/StringUTF16", "checkBoundsOffCount", "(II[B)V"⟩ ∈ gw := gw_t (tb_6 (List.mem_of_getElem? (i := 161) rfl)) rfl
theorem gw_1428 : Cond.static ⟨"java/lang/StringUTF16", "checkBoundsOffCount", "(II[B)V"⟩ ∈ gw := gw_t (tb_6 (List.mem_of_getElem? (i := 162) rfl)) rfl
theorem gw_1429 : Cond.code ⟨"java/lang/StringUTF16", "checkBoundsOffCount", "(II[B)V"⟩ prog_35_method_94_code 3 none ∈ gw := gw_t (tb_6 (List.mem_of_getElem? (i := 163) rfl)) rfl
theorem gw_1430 : Cond.methodLink "java/lang/StringUTF16" 419 ⟨"java/lang/String", "checkBoundsOffCount", "(III)I"⟩ ∈ gw := gw_t (tb_6 (List.mem_of_getElem? (i := 164) rfl)) rfl
theorem gw_1431 : Cond.static ⟨"java/lang/String", "checkBoundsOffCount", "(III)I"⟩ ∈ gw := gw_t (tb_6 (List.mem_of_getElem? (i := 165) rfl)) rfl
theorem gw_1432 : Cond.code ⟨"java/lang/String", "checkBoundsOffCount", "(III)I"⟩ prog_31_method_157_code 3 (some .int) ∈ gw := gw_t (tb_6 (List.mem_of_getElem? (i := 166) rfl)) rfl
theorem gw_1433 : Cond.methodLink "java/lang/String" 1065 ⟨"jdk/internal/util/Preconditions", "checkFromIndexSize", "(IIILjava/util/function/BiFunction;)I"⟩ ∈ gw := gw_t (tb_6 (List.mem_of_getElem? (i := 167) rfl)) rfl
theorem gw_1434 : Cond.static ⟨"jdk/internal/util/Preconditions", "checkFromIndexSize", "(IIILjava/util/function/BiFunction;)I"⟩ ∈ gw := gw_t (tb_6 (List.mem_of_getElem? (i := 168) rfl)) rfl
theorem gw_1435 : Cond.code ⟨"jdk/internal/util/Preconditions", "checkFromIndexSize", "(IIILjava/util/function/BiFunction;)I"⟩ prog_52_method_13_code 4 (some .int) ∈ gw := gw_t (tb_6 (List.mem_of_getElem? (i := 169) rfl)) rfl
theorem gw_1436 : Cond.methodLink "java/lang/AbstractStringBuilder" 399 ⟨"java/lang/String", "getBytes", "([BIB)V"⟩ ∈ gw := gw_t (tb_6 (List.mem_of_getElem? (i := 170) rfl)) rfl
theorem gw_1437 : Cond.instanceMethod ⟨"java/lang/String", "getBytes", "([BIB)V"⟩ ∈ gw := gw_t (tb_6 (List.mem_of_getElem? (i := 171) rfl)) rfl
theorem gw_1438 : Cond.selects "java/lang/String" ⟨"java/lang/String", "getBytes", "([BIB)V"⟩ ⟨"java/lang/String", "getBytes", "([BIB)V"⟩ ∈ gw := gw_t (tb_6 (List.mem_of_getElem? (i := 172) rfl)) rfl
theorem gw_1439 : Cond.code ⟨"java/lang/String", "getBytes", "([BIB)V"⟩ prog_31_method_147_code 4 none ∈ gw := gw_t (tb_6 (List.mem_of_getElem? (i := 173) rfl)) rfl
theorem gw_1440 : Cond.methodLink "java/lang/String" 212 ⟨"java/lang/System", "arraycopy", "(Ljava/lang/Object;ILjava/lang/Object;II)V"⟩ ∈ gw := gw_t (tb_6 (List.mem_of_getElem? (i := 174) rfl)) rfl
theorem gw_1441 : Cond.methodLink "java/lang/String" 106 ⟨"java/lang/StringLatin1", "inflate", "([BI[BII)V"⟩ ∈ gw := gw_t (tb_6 (List.mem_of_getElem? (i := 175) rfl)) rfl
theorem gw_1442 : Cond.methodLink "java/lang/StringIndexOutOfBoundsException" 19 ⟨"java/lang/StringBuilder", "append", "(I)Ljava/lang/StringBuilder;"⟩ ∈ gw := gw_t (tb_6 (List.mem_of_getElem? (i := 176) rfl)) rfl
theorem gw_1443 : Cond.instanceMethod ⟨"java/lang/StringBuilder", "append", "(I)Ljava/lang/StringBuilder;"⟩ ∈ gw := gw_t (tb_6 (List.mem_of_getElem? (i := 177) rfl)) rfl
theorem gw_1444 : Cond.selects "java/lang/StringBuilder" ⟨"java/lang/StringBuilder", "append", "(I)Ljava/lang/StringBuilder;"⟩ ⟨"java/lang/StringBuilder", "append", "(I)Ljava/lang/StringBuilder;"⟩ ∈ gw := gw_t (tb_6 (List.mem_of_getElem? (i := 178) rfl)) rfl
theorem gw_1445 : Cond.code ⟨"java/lang/StringBuilder", "append", "(I)Ljava/lang/StringBuilder;"⟩ prog_32_method_15_code 2 (some (.object "java/lang/StringBuilder")) ∈ gw := gw_t (tb_6 (List.mem_of_getElem? (i := 179) rfl)) rfl
theorem gw_1446 : Cond.methodLink "java/lang/StringBuilder" 53 ⟨"java/lang/AbstractStringBuilder", "append", "(I)Ljava/lang/AbstractStringBuilder;"⟩ ∈ gw := gw_t (tb_6 (List.mem_of_getElem? (i := 180) rfl)) rfl
theorem gw_1447 : Cond.instanceMethod ⟨"java/lang/AbstractStringBuilder", "append", "(I)Ljava/lang/AbstractStringBuilder;"⟩ ∈ gw := gw_t (tb_6 (List.mem_of_getElem? (i := 181) rfl)) rfl
theorem gw_1448 : Cond.code ⟨"java/lang/AbstractStringBuilder", "append", "(I)Ljava/lang/AbstractStringBuilder;"⟩ prog_14_method_32_code 4 (some (.object "java/lang/AbstractStringBuilder")) ∈ gw := gw_t (tb_6 (List.mem_of_getElem? (i := 182) rfl)) rfl
theorem gw_1449 : Cond.methodLink "java/lang/AbstractStringBuilder" 245 ⟨"java/lang/Integer", "stringSize", "(I)I"⟩ ∈ gw := gw_t (tb_6 (List.mem_of_getElem? (i := 183) rfl)) rfl
theorem gw_1450 : Cond.static ⟨"java/lang/Integer", "stringSize", "(I)I"⟩ ∈ gw := gw_t (tb_6 (List.mem_of_getElem? (i := 184) rfl)) rfl
theorem gw_1451 : Cond.code ⟨"java/lang/Integer", "stringSize", "(I)I"⟩ prog_26_method_13_code 4 (some .int) ∈ gw := gw_t (tb_6 (List.mem_of_getElem? (i := 185) rfl)) rfl
theorem gw_1452 : Cond.methodLink "java/lang/AbstractStringBuilder" 248 ⟨"java/lang/Integer", "getChars", "(II[B)I"⟩ ∈ gw := gw_t (tb_6 (List.mem_of_getElem? (i := 186) rfl)) rfl
theorem gw_1453 : Cond.static ⟨"java/lang/Integer", "getChars", "(II[B)I"⟩ ∈ gw := gw_t (tb_6 (List.mem_of_getElem? (i := 187) rfl)) rfl
theorem gw_1454 : Cond.code ⟨"java/lang/Integer", "getChars", "(II[B)I"⟩ prog_26_method_12_code 7 (some .int) ∈ gw := gw_t (tb_6 (List.mem_of_getElem? (i := 188) rfl)) rfl
theorem gw_1455 : Cond.fieldLink "java/lang/Integer" 83 "java/lang/Integer" "DigitOnes" "[B" ∈ gw := gw_t (tb_6 (List.mem_of_getElem? (i := 189) rfl)) rfl
theorem gw_1457 : Cond.fieldLink "java/lang/Integer" 87 "java/lang/Integer" "DigitTens" "[B" ∈ gw := gw_t (tb_6 (List.mem_of_getElem? (i := 191) rfl)) rfl
theorem gw_1459 : Cond.methodLink "java/lang/AbstractStringBuilder" 251 ⟨"java/lang/StringUTF16", "getChars", "(III[B)I"⟩ ∈ gw := gw_t (tb_6 (List.mem_of_getElem? (i := 193) rfl)) rfl
theorem gw_1460 : Cond.static ⟨"java/lang/StringUTF16", "getChars", "(III[B)I"⟩ ∈ gw := gw_t (tb_6 (List.mem_of_getElem? (i := 194) rfl)) rfl
theorem gw_1461 : Cond.code ⟨"java/lang/StringUTF16", "getChars", "(III[B)I"⟩ prog_35_method_77_code 5 (some .int) ∈ gw := gw_t (tb_6 (List.mem_of_getElem? (i := 195) rfl)) rfl
theorem gw_1462 : Cond.methodLink "java/lang/StringUTF16" 393 ⟨"java/lang/StringUTF16", "getChars", "(II[B)I"⟩ ∈ gw := gw_t (tb_6 (List.mem_of_getElem? (i := 196) rfl)) rfl
theorem gw_1463 : Cond.static ⟨"java/lang/StringUTF16", "getChars", "(II[B)I"⟩ ∈ gw := gw_t (tb_6 (List.mem_of_getElem? (i := 197) rfl)) rfl
theorem gw_1464 : Cond.code ⟨"java/lang/StringUTF16", "getChars", "(II[B)I"⟩ prog_35_method_89_code 7 (some .int) ∈ gw := gw_t (tb_6 (List.mem_of_getElem? (i := 198) rfl)) rfl
theorem gw_1465 : Cond.fieldLink "java/lang/StringUTF16" 403 "java/lang/Integer" "DigitOnes" "[B" ∈ gw := gw_t (tb_6 (List.mem_of_getElem? (i := 199) rfl)) rfl
theorem gw_1466 : Cond.fieldLink "java/lang/StringUTF16" 407 "java/lang/Integer" "DigitTens" "[B" ∈ gw := gw_t (tb_6 (List.mem_of_getElem? (i := 200) rfl)) rfl
theorem gw_1467 : Cond.methodLink "java/lang/StringIndexOutOfBoundsException" 22 ⟨"java/lang/StringBuilder", "toString", "()Ljava/lang/String;"⟩ ∈ gw := gw_t (tb_6 (List.mem_of_getElem? (i := 201) rfl)) rfl
theorem gw_1468 : Cond.instanceMethod ⟨"java/lang/StringBuilder", "toString", "()Ljava/lang/String;"⟩ ∈ gw := gw_t (tb_6 (List.mem_of_getElem? (i := 202) rfl)) rfl
theorem gw_1469 : Cond.selects "java/lang/StringBuilder" ⟨"java/lang/StringBuilder", "toString", "()Ljava/lang/String;"⟩ ⟨"java/lang/StringBuilder", "toString", "()Ljava/lang/String;"⟩ ∈ gw := gw_t (tb_6 (List.mem_of_getElem? (i := 203) rfl)) rfl
theorem gw_1470 : Cond.code ⟨"java/lang/StringBuilder", "toString", "()Ljava/lang/String;"⟩ prog_32_method_42_code 1 (some (.object "java/lang/String")) ∈ gw := gw_t (tb_6 (List.mem_of_getElem? (i := 204) rfl)) rfl
theorem gw_1471 : Cond.classLink "java/lang/StringBuilder" 18 "java/lang/String" ∈ gw := gw_t (tb_6 (List.mem_of_getElem? (i := 205) rfl)) rfl
theorem gw_1472 : Cond.methodLink "java/lang/StringBuilder" 137 ⟨"java/lang/String", "<init>", "(Ljava/lang/StringBuilder;)V"⟩ ∈ gw := gw_t (tb_6 (List.mem_of_getElem? (i := 206) rfl)) rfl
theorem gw_1473 : Cond.instanceMethod ⟨"java/lang/String", "<init>", "(Ljava/lang/StringBuilder;)V"⟩ ∈ gw := gw_t (tb_6 (List.mem_of_getElem? (i := 207) rfl)) rfl
theorem gw_1474 : Cond.code ⟨"java/lang/String", "<init>", "(Ljava/lang/StringBuilder;)V"⟩ prog_31_method_53_code 2 none ∈ gw := gw_t (tb_6 (List.mem_of_getElem? (i := 208) rfl)) rfl
theorem gw_1475 : Cond.methodLink "java/lang/String" 489 ⟨"java/lang/String", "<init>", "(Ljava/lang/AbstractStringBuilder;Ljava/lang/Void;)V"⟩ ∈ gw := gw_t (tb_6 (List.mem_of_getElem? (i := 209) rfl)) rfl
theorem gw_1476 : Cond.instanceMethod ⟨"java/lang/String", "<init>", "(Ljava/lang/AbstractStringBuilder;Ljava/lang/Void;)V"⟩ ∈ gw := gw_t (tb_6 (List.mem_of_getElem? (i := 210) rfl)) rfl
theorem gw_1477 : Cond.code ⟨"java/lang/String", "<init>", "(Ljava/lang/AbstractStringBuilder;Ljava/lang/Void;)V"⟩ prog_31_method_150_code 5 none ∈ gw := gw_t (tb_6 (List.mem_of_getElem? (i := 211) rfl)) rfl
theorem gw_1478 : Cond.methodLink "java/lang/String" 1 ⟨"java/lang/Object", "<init>", "()V"⟩ ∈ gw := gw_t (tb_6 (List.mem_of_getElem? (i := 212) rfl)) rfl
theorem gw_1479 : Cond.methodLink "java/lang/String" 552 ⟨"java/lang/AbstractStringBuilder", "getValue", "()[B"⟩ ∈ gw := gw_t (tb_6 (List.mem_of_getElem? (i := 213) rfl)) rfl
theorem gw_1480 : Cond.instanceMethod ⟨"java/lang/AbstractStringBuilder", "getValue", "()[B"⟩ ∈ gw := gw_t (tb_6 (List.mem_of_getElem? (i := 214) rfl)) rfl
theorem gw_1481 : Cond.sameMethod "java/lang/AbstractStringBuilder" "java/lang/AbstractStringBuilder" "getValue" "()[B" ∈ gw := gw_t (tb_6 (List.mem_of_getElem? (i := 215) rfl)) rfl
theorem gw_1482 : Cond.selects "java/lang/StringBuilder" ⟨"java/lang/AbstractStringBuilder", "getValue", "()[B"⟩ ⟨"java/lang/AbstractStringBuilder", "getValue", "()[B"⟩ ∈ gw := gw_t (tb_6 (List.mem_of_getElem? (i := 216) rfl)) rfl
theorem gw_1483 : Cond.code ⟨"java/lang/AbstractStringBuilder", "getValue", "()[B"⟩ prog_14_method_64_code 1 (some (.array .byte)) ∈ gw := gw_t (tb_6 (List.mem_of_getElem? (i := 217) rfl)) rfl
theorem gw_1484 : Cond.methodLink "java/lang/String" 549 ⟨"java/lang/AbstractStringBuilder", "length", "()I"⟩ ∈ gw := gw_t (tb_6 (List.mem_of_getElem? (i := 218) rfl)) rfl
theorem gw_1485 : Cond.instanceMethod ⟨"java/lang/AbstractStringBuilder", "length", "()I"⟩ ∈ gw := gw_t (tb_6 (List.mem_of_getElem? (i := 219) rfl)) rfl
theorem gw_1486 : Cond.sameMethod "java/lang/AbstractStringBuilder" "java/lang/AbstractStringBuilder" "length" "()I" ∈ gw := gw_t (tb_6 (List.mem_of_getElem? (i := 220) rfl)) rfl
theorem gw_1487 : Cond.selects "java/lang/StringBuilder" ⟨"java/lang/AbstractStringBuilder", "length", "()I"⟩ ⟨"java/lang/StringBuilder", "length", "()I"⟩ ∈ gw := gw_t (tb_6 (List.mem_of_getElem? (i := 221) rfl)) rfl
theorem gw_1488 : Cond.instanceMethod ⟨"java/lang/StringBuilder", "length", "()I"⟩ ∈ gw := gw_t (tb_6 (List.mem_of_getElem? (i := 222) rfl)) rfl
theorem gw_1489 : Cond.code ⟨"java/lang/StringBuilder", "length", "()I"⟩ prog_32_method_93_code 1 (some .int) ∈ gw := gw_t (tb_6 (List.mem_of_getElem? (i := 223) rfl)) rfl
theorem gw_1490 : Cond.methodLink "java/lang/StringBuilder" 343 ⟨"java/lang/AbstractStringBuilder", "length", "()I"⟩ ∈ gw := gw_t (tb_6 (List.mem_of_getElem? (i := 224) rfl)) rfl
theorem gw_1491 : Cond.code ⟨"java/lang/AbstractStringBuilder", "length", "()I"⟩ prog_14_method_6_code 1 (some .int) ∈ gw := gw_t (tb_6 (List.mem_of_getElem? (i := 225) rfl)) rfl
theorem gw_1492 : Cond.methodLink "java/lang/String" 1047 ⟨"java/lang/AbstractStringBuilder", "isLatin1", "()Z"⟩ ∈ gw := gw_t (tb_6 (List.mem_of_getElem? (i := 226) rfl)) rfl
theorem gw_1493 : Cond.methodLink "java/lang/String" 54 ⟨"java/util/Arrays", "copyOfRange", "([BII)[B"⟩ ∈ gw := gw_t (tb_6 (List.mem_of_getElem? (i := 227) rfl)) rfl
theorem gw_1494 : Cond.static ⟨"java/util/Arrays", "copyOfRange", "([BII)[B"⟩ ∈ gw := gw_t (tb_6 (List.mem_of_getElem? (i := 228) rfl)) rfl
theorem gw_1495 : Cond.code ⟨"java/util/Arrays", "copyOfRange", "([BII)[B"⟩ prog_44_method_132_code 3 (some (.array .byte)) ∈ gw := gw_t (tb_6 (List.mem_of_getElem? (i := 229) rfl)) rfl
theorem gw_1496 : Cond.methodLink "java/util/Arrays" 339 ⟨"java/util/Arrays", "copyOfRangeByte", "([BII)[B"⟩ ∈ gw := gw_t (tb_6 (List.mem_of_getElem? (i := 230) rfl)) rfl
theorem gw_1497 : Cond.static ⟨"java/util/Arrays", "copyOfRangeByte", "([BII)[B"⟩ ∈ gw := gw_t (tb_6 (List.mem_of_getElem? (i := 231) rfl)) rfl
theorem gw_1498 : Cond.code ⟨"java/util/Arrays", "copyOfRangeByte", "([BII)[B"⟩ prog_44_method_133_code 5 (some (.array .byte)) ∈ gw := gw_t (tb_6 (List.mem_of_getElem? (i := 232) rfl)) rfl
theorem gw_1499 : Cond.methodLink "java/util/Arrays" 343 ⟨"java/util/Arrays", "checkLength", "(II)V"⟩ ∈ gw := gw_t (tb_6 (List.mem_of_getElem? (i := 233) rfl)) rfl
theorem gw_1500 : Cond.static ⟨"java/util/Arrays", "checkLength", "(II)V"⟩ ∈ gw := gw_t (tb_6 (List.mem_of_getElem? (i := 234) rfl)) rfl
theorem gw_1501 : Cond.code ⟨"java/util/Arrays", "checkLength", "(II)V"⟩ prog_44_method_131_code 2 none ∈ gw := gw_t (tb_6 (List.mem_of_getElem? (i := 235) rfl)) rfl
theorem gw_1502 : Cond.classLink "java/util/Arrays" 43 "java/lang/IllegalArgumentException" ∈ gw := gw_t (tb_6 (List.mem_of_getElem? (i := 236) rfl)) rfl
theorem gw_1503 : Cond.classLink "java/util/Arrays" 45 "java/lang/StringBuilder" ∈ gw := gw_t (tb_6 (List.mem_of_getElem? (i := 237) rfl)) rfl
theorem gw_1504 : Cond.methodLink "java/util/Arrays" 47 ⟨"java/lang/StringBuilder", "<init>", "()V"⟩ ∈ gw := gw_t (tb_6 (List.mem_of_getElem? (i := 238) rfl)) rfl
theorem gw_1505 : Cond.methodLink "java/util/Arrays" 54 ⟨"java/lang/StringBuilder", "append", "(I)Ljava/lang/StringBuilder;"⟩ ∈ gw := gw_t (tb_6 (List.mem_of_getElem? (i := 239) rfl)) rfl
theorem gw_1507 : Cond.methodLink "java/util/Arrays" 50 ⟨"java/lang/StringBuilder", "append", "(Ljava/lang/String;)Ljava/lang/StringBuilder;"⟩ ∈ gw := gw_t (tb_7 (List.mem_of_getElem? (i := 1) rfl)) rfl
theorem gw_1508 : Cond.methodLink "java/util/Arrays" 61 ⟨"java/lang/StringBuilder", "toString", "()Ljava/lang/String;"⟩ ∈ gw := gw_t (tb_7 (List.mem_of_getElem? (i := 2) rfl)) rfl
theorem gw_1509 : Cond.methodLink "java/util/Arrays" 65 ⟨"java/lang/IllegalArgumentException", "<init>", "(Ljava/lang/String;)V"⟩ ∈ gw := gw_t (tb_7 (List.mem_of_getElem? (i := 3) rfl)) rfl
theorem gw_1510 : Cond.methodLink "java/lang/String" 1051 ⟨"java/lang/StringUTF16", "compress", "([BII)[B"⟩ ∈ gw := gw_t (tb_7 (List.mem_of_getElem? (i := 4) rfl)) rfl
theorem gw_1511 : Cond.static ⟨"java/lang/StringUTF16", "compress", "([BII)[B"⟩ ∈ gw := gw_t (tb_7 (List.mem_of_getElem? (i := 5) rfl)) rfl
theorem gw_1512 : Cond.code ⟨"java/lang/StringUTF16", "compress", "([BII)[B"⟩ prog_35_method_17_code 6 (some (.array .byte)) ∈ gw := gw_t (tb_7 (List.mem_of_getElem? (i := 6) rfl)) rfl
theorem gw_1513 : Cond.methodLink "java/lang/StringUTF16" 123 ⟨"java/lang/StringUTF16", "compress", "([BI[BII)I"⟩ ∈ gw := gw_t (tb_7 (List.mem_of_getElem? (i := 7) rfl)) rfl
theorem gw_1514 : Cond.static ⟨"java/lang/StringUTF16", "compress", "([BI[BII)I"⟩ ∈ gw := gw_t (tb_7 (List.mem_of_getElem? (i := 8) rfl)) rfl
theorem gw_1515 : Cond.code ⟨"java/lang/StringUTF16", "compress", "([BI[BII)I"⟩ prog_35_method_22_code 7 (some .int) ∈ gw := gw_t (tb_7 (List.mem_of_getElem? (i := 9) rfl)) rfl
theorem gw_1516 : Cond.methodLink "java/lang/StringUTF16" 126 ⟨"java/util/Arrays", "copyOfRange", "([BII)[B"⟩ ∈ gw := gw_t (tb_7 (List.mem_of_getElem? (i := 10) rfl)) rfl
theorem gw_1517 : Cond.methodLink "java/lang/String" 47 ⟨"java/lang/StringUTF16", "coderFromArrayLen", "([BI)B"⟩ ∈ gw := gw_t (tb_7 (List.mem_of_getElem? (i := 11) rfl)) rfl
theorem gw_1518 : Cond.static ⟨"java/lang/StringUTF16", "coderFromArrayLen", "([BI)B"⟩ ∈ gw := gw_t (tb_7 (List.mem_of_getElem? (i := 12) rfl)) rfl
theorem gw_1519 : Cond.code ⟨"java/lang/StringUTF16", "coderFromArrayLen", "([BI)B"⟩ prog_35_method_15_code 2 (some .byte) ∈ gw := gw_t (tb_7 (List.mem_of_getElem? (i := 13) rfl)) rfl
theorem gw_1520 : Cond.fieldLink "java/lang/String" 9 "java/lang/String" "value" "[B" ∈ gw := gw_t (tb_7 (List.mem_of_getElem? (i := 14) rfl)) rfl
theorem gw_1521 : Cond.fieldLink "java/lang/String" 15 "java/lang/String" "coder" "B" ∈ gw := gw_t (tb_7 (List.mem_of_getElem? (i := 15) rfl)) rfl
theorem gw_1522 : Cond.lays "java/lang/String" "java/lang/String" "hash" "I" ∈ gw := gw_t (tb_7 (List.mem_of_getElem? (i := 16) rfl)) rfl
theorem gw_1524 : Cond.lays "java/lang/String" "java/lang/String" "hashIsZero" "Z" ∈ gw := gw_t (tb_7 (List.mem_of_getElem? (i := 18) rfl)) rfl
theorem gw_1526 : Cond.superclass "java/lang/String" "java/lang/Object" ∈ gw := gw_t (tb_7 (List.mem_of_getElem? (i := 20) rfl)) rfl
theorem gw_1527 : Cond.methodLink "java/lang/StringIndexOutOfBoundsException" 7 ⟨"java/lang/IndexOutOfBoundsException", "<init>", "(Ljava/lang/String;)V"⟩ ∈ gw := gw_t (tb_7 (List.mem_of_getElem? (i := 21) rfl)) rfl
theorem gw_1528 : Cond.lays "java/lang/StringIndexOutOfBoundsException" "java/lang/Throwable" "backtrace" "Ljava/lang/Object;" ∈ gw := gw_t (tb_7 (List.mem_of_getElem? (i := 22) rfl)) rfl
theorem gw_1529 : Cond.lays "java/lang/StringIndexOutOfBoundsException" "java/lang/Throwable" "detailMessage" "Ljava/lang/String;" ∈ gw := gw_t (tb_7 (List.mem_of_getElem? (i := 23) rfl)) rfl
theorem gw_1530 : Cond.lays "java/lang/StringIndexOutOfBoundsException" "java/lang/Throwable" "cause" "Ljava/lang/Throwable;" ∈ gw := gw_t (tb_7 (List.mem_of_getElem? (i := 24) rfl)) rfl
theorem gw_1531 : Cond.lays "java/lang/StringIndexOutOfBoundsException" "java/lang/Throwable" "stackTrace" "[Ljava/lang/StackTraceElement;" ∈ gw := gw_t (tb_7 (List.mem_of_getElem? (i := 25) rfl)) rfl
theorem gw_1532 : Cond.lays "java/lang/StringIndexOutOfBoundsException" "java/lang/Throwable" "depth" "I" ∈ gw := gw_t (tb_7 (List.mem_of_getElem? (i := 26) rfl)) rfl
theorem gw_1533 : Cond.lays "java/lang/StringIndexOutOfBoundsException" "java/lang/Throwable" "suppressedExceptions" "Ljava/util/List;" ∈ gw := gw_t (tb_7 (List.mem_of_getElem? (i := 27) rfl)) rfl
theorem gw_1534 : Cond.superclass "java/lang/StringIndexOutOfBoundsException" "java/lang/IndexOutOfBoundsException" ∈ gw := gw_t (tb_7 (List.mem_of_getElem? (i := 28) rfl)) rfl
theorem gw_1535 : Cond.methodLink "java/lang/AbstractStringBuilder" 133 ⟨"java/lang/StringLatin1", "fillNull", "([BII)V"⟩ ∈ gw := gw_t (tb_7 (List.mem_of_getElem? (i := 29) rfl)) rfl
theorem gw_1536 : Cond.static ⟨"java/lang/StringLatin1", "fillNull", "([BII)V"⟩ ∈ gw := gw_t (tb_7 (List.mem_of_getElem? (i := 30) rfl)) rfl
theorem gw_1537 : Cond.code ⟨"java/lang/StringLatin1", "fillNull", "([BII)V"⟩ prog_34_method_48_code 3 none ∈ gw := gw_t (tb_7 (List.mem_of_getElem? (i := 31) rfl)) rfl
theorem gw_1538 : Cond.methodLink "java/lang/StringLatin1" 236 ⟨"java/util/Arrays", "fill", "([BIIB)V"⟩ ∈ gw := gw_t (tb_7 (List.mem_of_getElem? (i := 32) rfl)) rfl
theorem gw_1539 : Cond.static ⟨"java/util/Arrays", "fill", "([BIIB)V"⟩ ∈ gw := gw_t (tb_7 (List.mem_of_getElem? (i := 33) rfl)) rfl
theorem gw_1540 : Cond.code ⟨"java/util/Arrays", "fill", "([BIIB)V"⟩ prog_44_method_110_code 5 none ∈ gw := gw_t (tb_7 (List.mem_of_getElem? (i := 34) rfl)) rfl
theorem gw_1541 : Cond.methodLink "java/util/Arrays" 13 ⟨"java/util/Arrays", "rangeCheck", "(III)V"⟩ ∈ gw := gw_t (tb_7 (List.mem_of_getElem? (i := 35) rfl)) rfl
theorem gw_1542 : Cond.static ⟨"java/util/Arrays", "rangeCheck", "(III)V"⟩ ∈ gw := gw_t (tb_7 (List.mem_of_getElem? (i := 36) rfl)) rfl
theorem gw_1543 : Cond.code ⟨"java/util/Arrays", "rangeCheck", "(III)V"⟩ prog_44_method_30_code 3 none ∈ gw := gw_t (tb_7 (List.mem_of_getElem? (i := 37) rfl)) rfl
theorem gw_1547 : Cond.classLink "java/util/Arrays" 68 "java/lang/ArrayIndexOutOfBoundsException" ∈ gw := gw_t (tb_7 (List.mem_of_getElem? (i := 41) rfl)) rfl
theorem gw_1548 : Cond.methodLink "java/util/Arrays" 70 ⟨"java/lang/ArrayIndexOutOfBoundsException", "<init>", "(I)V"⟩ ∈ gw := gw_t (tb_7 (List.mem_of_getElem? (i := 42) rfl)) rfl
theorem gw_1549 : Cond.instanceMethod ⟨"java/lang/ArrayIndexOutOfBoundsException", "<init>", "(I)V"⟩ ∈ gw := gw_t (tb_7 (List.mem_of_getElem? (i := 43) rfl)) rfl
theorem gw_1550 : Cond.code ⟨"java/lang/ArrayIndexOutOfBoundsException", "<init>", "(I)V"⟩ prog_17_method_3_code 2 none ∈ gw := gw_t (tb_7 (List.mem_of_getElem? (i := 44) rfl)) rfl
theorem gw_1551 : Cond.classLink "java/lang/ArrayIndexOutOfBoundsException" 10 "java/lang/StringBuilder" ∈ gw := gw_t (tb_7 (List.mem_of_getElem? (i := 45) rfl)) rfl
theorem gw_1552 : Cond.methodLink "java/lang/ArrayIndexOutOfBoundsException" 12 ⟨"java/lang/StringBuilder", "<init>", "()V"⟩ ∈ gw := gw_t (tb_7 (List.mem_of_getElem? (i := 46) rfl)) rfl
theorem gw_1554 : Cond.methodLink "java/lang/ArrayIndexOutOfBoundsException" 15 ⟨"java/lang/StringBuilder", "append", "(Ljava/lang/String;)Ljava/lang/StringBuilder;"⟩ ∈ gw := gw_t (tb_7 (List.mem_of_getElem? (i := 48) rfl)) rfl
theorem gw_1555 : Cond.methodLink "java/lang/ArrayIndexOutOfBoundsException" 19 ⟨"java/lang/StringBuilder", "append", "(I)Ljava/lang/StringBuilder;"⟩ ∈ gw := gw_t (tb_7 (List.mem_of_getElem? (i := 49) rfl)) rfl
theorem gw_1556 : Cond.methodLink "java/lang/ArrayIndexOutOfBoundsException" 22 ⟨"java/lang/StringBuilder", "toString", "()Ljava/lang/String;"⟩ ∈ gw := gw_t (tb_7 (List.mem_of_getElem? (i := 50) rfl)) rfl
theorem gw_1557 : Cond.methodLink "java/lang/AbstractStringBuilder" 137 ⟨"java/lang/StringUTF16", "fillNull", "([BII)V"⟩ ∈ gw := gw_t (tb_7 (List.mem_of_getElem? (i := 51) rfl)) rfl
theorem gw_1558 : Cond.static ⟨"java/lang/StringUTF16", "fillNull", "([BII)V"⟩ ∈ gw := gw_t (tb_7 (List.mem_of_getElem? (i := 52) rfl)) rfl
theorem gw_1559 : Cond.code ⟨"java/lang/StringUTF16", "fillNull", "([BII)V"⟩ prog_35_method_70_code 3 none ∈ gw := gw_t (tb_7 (List.mem_of_getElem? (i := 53) rfl)) rfl
theorem gw_1560 : Cond.methodLink "java/lang/StringUTF16" 380 ⟨"java/util/Arrays", "fill", "([BIIB)V"⟩ ∈ gw := gw_t (tb_7 (List.mem_of_getElem? (i := 54) rfl)) rfl
theorem gw_1561 : Cond.methodLink "HedgeCommittee" 293 ⟨"HedgeCommittee", "writePart", "(LHedgeCommittee$Motions;IILjava/lang/StringBuilder;)V"⟩ ∈ gw := gw_t (tb_7 (List.mem_of_getElem? (i := 55) rfl)) rfl
theorem gw_1562 : Cond.static ⟨"HedgeCommittee", "writePart", "(LHedgeCommittee$Motions;IILjava/lang/StringBuilder;)V"⟩ ∈ gw := gw_t (tb_7 (List.mem_of_getElem? (i := 56) rfl)) rfl
theorem gw_1563 : Cond.code ⟨"HedgeCommittee", "writePart", "(LHedgeCommittee$Motions;IILjava/lang/StringBuilder;)V"⟩ prog_1_method_55_code 6 none ∈ gw := gw_t (tb_7 (List.mem_of_getElem? (i := 57) rfl)) rfl
theorem gw_1564 : Cond.methodLink "HedgeCommittee" 359 ⟨"java/lang/StringBuilder", "append", "(I)Ljava/lang/StringBuilder;"⟩ ∈ gw := gw_t (tb_7 (List.mem_of_getElem? (i := 58) rfl)) rfl
theorem gw_1565 : Cond.methodLink "HedgeCommittee" 363 ⟨"java/lang/StringBuilder", "append", "(C)Ljava/lang/StringBuilder;"⟩ ∈ gw := gw_t (tb_7 (List.mem_of_getElem? (i := 59) rfl)) rfl
theorem gw_1566 : Cond.instanceMethod ⟨"java/lang/StringBuilder", "append", "(C)Ljava/lang/StringBuilder;"⟩ ∈ gw := gw_t (tb_7 (List.mem_of_getElem? (i := 60) rfl)) rfl
theorem gw_1567 : Cond.selects "java/lang/StringBuilder" ⟨"java/lang/StringBuilder", "append", "(C)Ljava/lang/StringBuilder;"⟩ ⟨"java/lang/StringBuilder", "append", "(C)Ljava/lang/StringBuilder;"⟩ ∈ gw := gw_t (tb_7 (List.mem_of_getElem? (i := 61) rfl)) rfl
theorem gw_1568 : Cond.code ⟨"java/lang/StringBuilder", "append", "(C)Ljava/lang/StringBuilder;"⟩ prog_32_method_14_code 2 (some (.object "java/lang/StringBuilder")) ∈ gw := gw_t (tb_7 (List.mem_of_getElem? (i := 62) rfl)) rfl
theorem gw_1569 : Cond.methodLink "java/lang/StringBuilder" 50 ⟨"java/lang/AbstractStringBuilder", "append", "(C)Ljava/lang/AbstractStringBuilder;"⟩ ∈ gw := gw_t (tb_7 (List.mem_of_getElem? (i := 63) rfl)) rfl
theorem gw_1570 : Cond.instanceMethod ⟨"java/lang/AbstractStringBuilder", "append", "(C)Ljava/lang/AbstractStringBuilder;"⟩ ∈ gw := gw_t (tb_7 (List.mem_of_getElem? (i := 64) rfl)) rfl
theorem gw_1571 : Cond.code ⟨"java/lang/AbstractStringBuilder", "append", "(C)Ljava/lang/AbstractStringBuilder;"⟩ prog_14_method_31_code 2 (some (.object "java/lang/AbstractStringBuilder")) ∈ gw := gw_t (tb_7 (List.mem_of_getElem? (i := 65) rfl)) rfl
theorem gw_1572 : Cond.methodLink "java/lang/AbstractStringBuilder" 191 ⟨"java/lang/StringLatin1", "canEncode", "(C)Z"⟩ ∈ gw := gw_t (tb_7 (List.mem_of_getElem? (i := 66) rfl)) rfl
theorem gw_1573 : Cond.static ⟨"java/lang/StringLatin1", "canEncode", "(C)Z"⟩ ∈ gw := gw_t (tb_7 (List.mem_of_getElem? (i := 67) rfl)) rfl
theorem gw_1574 : Cond.code ⟨"java/lang/StringLatin1", "canEncode", "(C)Z"⟩ prog_34_method_3_code 1 (some .boolean) ∈ gw := gw_t (tb_7 (List.mem_of_getElem? (i := 68) rfl)) rfl
theorem gw_1575 : Cond.methodLink "java/lang/AbstractStringBuilder" 197 ⟨"java/lang/StringUTF16", "putCharSB", "([BII)V"⟩ ∈ gw := gw_t (tb_7 (List.mem_of_getElem? (i := 69) rfl)) rfl
theorem gw_1576 : Cond.static ⟨"java/lang/StringUTF16", "putCharSB", "([BII)V"⟩ ∈ gw := gw_t (tb_7 (List.mem_of_getElem? (i := 70) rfl)) rfl
theorem gw_1577 : Cond.code ⟨"java/lang/StringUTF16", "putCharSB", "([BII)V"⟩ prog_35_method_71_code 3 none ∈ gw := gw_t (tb_7 (List.mem_of_getElem? (i := 71) rfl)) rfl
theorem gw_1578 : Cond.methodLink "HedgeCommittee" 297 ⟨"java/lang/StringBuilder", "length", "()I"⟩ ∈ gw := gw_t (tb_7 (List.mem_of_getElem? (i := 72) rfl)) rfl
theorem gw_1579 : Cond.methodLink "HedgeCommitteeLaw" 298 ⟨"HedgeCommitteeLaw", "outputAt", "(LHedgeCommittee;I[J)I"⟩ ∈ gw := gw_t (tb_7 (List.mem_of_getElem? (i := 73) rfl)) rfl
theorem gw_1580 : Cond.static ⟨"HedgeCommitteeLaw", "outputAt", "(LHedgeCommittee;I[J)I"⟩ ∈ gw := gw_t (tb_7 (List.mem_of_getElem? (i := 74) rfl)) rfl
theorem gw_1581 : Cond.codeWith ⟨"HedgeCommitteeLaw", "outputAt", "(LHedgeCommittee;I[J)I"⟩ method_36_code 4 (some .int) [(0, 9, 12, 40)] ∈ gw := gw_t (tb_7 (List.mem_of_getElem? (i := 75) rfl)) rfl
theorem gw_1582 : Cond.methodLink "HedgeCommitteeLaw" 130 ⟨"HedgeCommittee", "outputAt", "(I)C"⟩ ∈ gw := gw_t (tb_7 (List.mem_of_getElem? (i := 76) rfl)) rfl
theorem gw_1583 : Cond.instanceMethod ⟨"HedgeCommittee", "outputAt", "(I)C"⟩ ∈ gw := gw_t (tb_7 (List.mem_of_getElem? (i := 77) rfl)) rfl
theorem gw_1584 : Cond.selects "HedgeCommittee" ⟨"HedgeCommittee", "outputAt", "(I)C"⟩ ⟨"HedgeCommittee", "outputAt", "(I)C"⟩ ∈ gw := gw_t (tb_7 (List.mem_of_getElem? (i := 78) rfl)) rfl
theorem gw_1585 : Cond.code ⟨"HedgeCommittee", "outputAt", "(I)C"⟩ prog_1_method_46_code 2 (some .char) ∈ gw := gw_t (tb_7 (List.mem_of_getElem? (i := 79) rfl)) rfl
theorem gw_1587 : Cond.methodLink "HedgeCommittee" 305 ⟨"java/lang/StringBuilder", "charAt", "(I)C"⟩ ∈ gw := gw_t (tb_7 (List.mem_of_getElem? (i := 81) rfl)) rfl
theorem gw_1588 : Cond.instanceMethod ⟨"java/lang/StringBuilder", "charAt", "(I)C"⟩ ∈ gw := gw_t (tb_7 (List.mem_of_getElem? (i := 82) rfl)) rfl
theorem gw_1589 : Cond.selects "java/lang/StringBuilder" ⟨"java/lang/StringBuilder", "charAt", "(I)C"⟩ ⟨"java/lang/StringBuilder", "charAt", "(I)C"⟩ ∈ gw := gw_t (tb_7 (List.mem_of_getElem? (i := 83) rfl)) rfl
theorem gw_1590 : Cond.code ⟨"java/lang/StringBuilder", "charAt", "(I)C"⟩ prog_32_method_88_code 2 (some .char) ∈ gw := gw_t (tb_7 (List.mem_of_getElem? (i := 84) rfl)) rfl
theorem gw_1591 : Cond.methodLink "java/lang/StringBuilder" 329 ⟨"java/lang/AbstractStringBuilder", "charAt", "(I)C"⟩ ∈ gw := gw_t (tb_7 (List.mem_of_getElem? (i := 85) rfl)) rfl
theorem gw_1592 : Cond.instanceMethod ⟨"java/lang/AbstractStringBuilder", "charAt", "(I)C"⟩ ∈ gw := gw_t (tb_7 (List.mem_of_getElem? (i := 86) rfl)) rfl
theorem gw_1593 : Cond.code ⟨"java/lang/AbstractStringBuilder", "charAt", "(I)C"⟩ prog_14_method_14_code 5 (some .char) ∈ gw := gw_t (tb_7 (List.mem_of_getElem? (i := 87) rfl)) rfl
theorem gw_1594 : Cond.methodLink "java/lang/AbstractStringBuilder" 138 ⟨"java/lang/Math", "min", "(II)I"⟩ ∈ gw := gw_t (tb_7 (List.mem_of_getElem? (i := 88) rfl)) rfl
theorem gw_1595 : Cond.methodLink "java/lang/AbstractStringBuilder" 144 ⟨"java/lang/String", "checkIndex", "(II)V"⟩ ∈ gw := gw_t (tb_7 (List.mem_of_getElem? (i := 89) rfl)) rfl
theorem gw_1596 : Cond.methodLink "java/lang/AbstractStringBuilder" 148 ⟨"java/lang/StringUTF16", "getChar", "([BI)C"⟩ ∈ gw := gw_t (tb_7 (List.mem_of_getElem? (i := 90) rfl)) rfl
theorem gw_1597 : Cond.methodLink "HedgeCommitteeLaw" 301 ⟨"HedgeCommitteeLaw", "undo", "(LHedgeCommittee;[J)I"⟩ ∈ gw := gw_t (tb_7 (List.mem_of_getElem? (i := 91) rfl)) rfl
theorem gw_1598 : Cond.static ⟨"HedgeCommitteeLaw", "undo", "(LHedgeCommittee;[J)I"⟩ ∈ gw := gw_t (tb_7 (List.mem_of_getElem? (i := 92) rfl)) rfl
theorem gw_1599 : Cond.codeWith ⟨"HedgeCommitteeLaw", "undo", "(LHedgeCommittee;[J)I"⟩ method_37_code 3 (some .int) [(0, 8, 11, 15)] ∈ gw := gw_t (tb_7 (List.mem_of_getElem? (i := 93) rfl)) rfl
theorem gw_1600 : Cond.methodLink "HedgeCommitteeLaw" 133 ⟨"HedgeCommittee", "undo", "()I"⟩ ∈ gw := gw_t (tb_7 (List.mem_of_getElem? (i := 94) rfl)) rfl
theorem gw_1601 : Cond.instanceMethod ⟨"HedgeCommittee", "undo", "()I"⟩ ∈ gw := gw_t (tb_7 (List.mem_of_getElem? (i := 95) rfl)) rfl
theorem gw_1602 : Cond.selects "HedgeCommittee" ⟨"HedgeCommittee", "undo", "()I"⟩ ⟨"HedgeCommittee", "undo", "()I"⟩ ∈ gw := gw_t (tb_7 (List.mem_of_getElem? (i := 96) rfl)) rfl
theorem gw_1603 : Cond.code ⟨"HedgeCommittee", "undo", "()I"⟩ prog_1_method_47_code 1 (some .int) ∈ gw := gw_t (tb_7 (List.mem_of_getElem? (i := 97) rfl)) rfl
theorem gw_1605 : Cond.methodLink "HedgeCommittee" 311 ⟨"HedgeCommittee$History", "takeBack", "(LHedgeCommittee$State;)I"⟩ ∈ gw := gw_t (tb_7 (List.mem_of_getElem? (i := 99) rfl)) rfl
theorem gw_1606 : Cond.instanceMethod ⟨"HedgeCommittee$History", "takeBack", "(LHedgeCommittee$State;)I"⟩ ∈ gw := gw_t (tb_7 (List.mem_of_getElem? (i := 100) rfl)) rfl
theorem gw_1607 : Cond.selects "HedgeCommittee$History" ⟨"HedgeCommittee$History", "takeBack", "(LHedgeCommittee$State;)I"⟩ ⟨"HedgeCommittee$History", "takeBack", "(LHedgeCommittee$State;)I"⟩ ∈ gw := gw_t (tb_7 (List.mem_of_getElem? (i := 101) rfl)) rfl
theorem gw_1608 : Cond.code ⟨"HedgeCommittee$History", "takeBack", "(LHedgeCommittee$State;)I"⟩ prog_5_method_6_code 2 (some .int) ∈ gw := gw_t (tb_7 (List.mem_of_getElem? (i := 102) rfl)) rfl
theorem gw_1609 : Cond.methodLink "HedgeCommitteeLaw" 308 ⟨"HedgeCommitteeLaw", "restore", "(LHedgeCommittee;)I"⟩ ∈ gw := gw_t (tb_7 (List.mem_of_getElem? (i := 103) rfl)) rfl
theorem gw_1610 : Cond.static ⟨"HedgeCommitteeLaw", "restore", "(LHedgeCommittee;)I"⟩ ∈ gw := gw_t (tb_7 (List.mem_of_getElem? (i := 104) rfl)) rfl
theorem gw_1611 : Cond.codeWith ⟨"HedgeCommitteeLaw", "restore", "(LHedgeCommittee;)I"⟩ method_38_code 2 (some .int) [(0, 4, 7, 15)] ∈ gw := gw_t (tb_7 (List.mem_of_getElem? (i := 105) rfl)) rfl
theorem gw_1612 : Cond.methodLink "HedgeCommitteeLaw" 136 ⟨"HedgeCommittee", "restore", "()V"⟩ ∈ gw := gw_t (tb_7 (List.mem_of_getElem? (i := 106) rfl)) rfl
theorem gw_1613 : Cond.instanceMethod ⟨"HedgeCommittee", "restore", "()V"⟩ ∈ gw := gw_t (tb_7 (List.mem_of_getElem? (i := 107) rfl)) rfl
theorem gw_1614 : Cond.selects "HedgeCommittee" ⟨"HedgeCommittee", "restore", "()V"⟩ ⟨"HedgeCommittee", "restore", "()V"⟩ ∈ gw := gw_t (tb_7 (List.mem_of_getElem? (i := 108) rfl)) rfl
theorem gw_1615 : Cond.code ⟨"HedgeCommittee", "restore", "()V"⟩ prog_1_method_49_code 1 none ∈ gw := gw_t (tb_7 (List.mem_of_getElem? (i := 109) rfl)) rfl
theorem gw_1617 : Cond.classLink "HedgeCommitteeLaw" 140 "HedgeCommitteeModel" ∈ gw := gw_t (tb_7 (List.mem_of_getElem? (i := 111) rfl)) rfl
theorem gw_1618 : Cond.instantiable "HedgeCommitteeModel" 26 ∈ gw := gw_t (tb_7 (List.mem_of_getElem? (i := 112) rfl)) rfl
theorem gw_1619 : Cond.methodLink "HedgeCommitteeLaw" 142 ⟨"HedgeCommitteeModel", "<init>", "()V"⟩ ∈ gw := gw_t (tb_7 (List.mem_of_getElem? (i := 113) rfl)) rfl
theorem gw_1620 : Cond.instanceMethod ⟨"HedgeCommitteeModel", "<init>", "()V"⟩ ∈ gw := gw_t (tb_7 (List.mem_of_getElem? (i := 114) rfl)) rfl
theorem gw_1621 : Cond.code ⟨"HedgeCommitteeModel", "<init>", "()V"⟩ prog_12_method_1_code 1 none ∈ gw := gw_t (tb_7 (List.mem_of_getElem? (i := 115) rfl)) rfl
theorem gw_1622 : Cond.methodLink "HedgeCommitteeModel" 1 ⟨"java/lang/Object", "<init>", "()V"⟩ ∈ gw := gw_t (tb_7 (List.mem_of_getElem? (i := 116) rfl)) rfl
theorem gw_1623 : Cond.fieldLink "HedgeCommitteeModel" 9 "HedgeCommitteeModel" "m" "[I" ∈ gw := gw_t (tb_7 (List.mem_of_getElem? (i := 117) rfl)) rfl
theorem gw_1624 : Cond.fieldLink "HedgeCommitteeModel" 13 "HedgeCommitteeModel" "aside" "[I" ∈ gw := gw_t (tb_7 (List.mem_of_getElem? (i := 118) rfl)) rfl
theorem gw_1625 : Cond.fieldLink "HedgeCommitteeModel" 16 "HedgeCommitteeModel" "saved" "[I" ∈ gw := gw_t (tb_7 (List.mem_of_getElem? (i := 119) rfl)) rfl
theorem gw_1626 : Cond.fieldLink "HedgeCommitteeModel" 273 "HedgeCommitteeModel" "isSaved" "Z" ∈ gw := gw_t (tb_7 (List.mem_of_getElem? (i := 120) rfl)) rfl
theorem gw_1627 : Cond.fieldLink "HedgeCommitteeModel" 19 "HedgeCommitteeModel" "past" "[I" ∈ gw := gw_t (tb_7 (List.mem_of_getElem? (i := 121) rfl)) rfl
theorem gw_1628 : Cond.fieldLink "HedgeCommitteeModel" 60 "HedgeCommitteeModel" "changes" "I" ∈ gw := gw_t (tb_7 (List.mem_of_getElem? (i := 122) rfl)) rfl
theorem gw_1629 : Cond.fieldLink "HedgeCommitteeModel" 22 "HedgeCommitteeModel" "errorAt" "I" ∈ gw := gw_t (tb_7 (List.mem_of_getElem? (i := 123) rfl)) rfl
theorem gw_1630 : Cond.fieldLink "HedgeCommitteeModel" 26 "HedgeCommitteeModel" "failed" "I" ∈ gw := gw_t (tb_7 (List.mem_of_getElem? (i := 124) rfl)) rfl
theorem gw_1631 : Cond.fieldLink "HedgeCommitteeModel" 57 "HedgeCommitteeModel" "thrown" "I" ∈ gw := gw_t (tb_7 (List.mem_of_getElem? (i := 125) rfl)) rfl
theorem gw_1632 : Cond.fieldLink "HedgeCommitteeModel" 29 "HedgeCommitteeModel" "input" "[I" ∈ gw := gw_t (tb_7 (List.mem_of_getElem? (i := 126) rfl)) rfl
theorem gw_1633 : Cond.fieldLink "HedgeCommitteeModel" 207 "HedgeCommitteeModel" "inputMany" "I" ∈ gw := gw_t (tb_7 (List.mem_of_getElem? (i := 127) rfl)) rfl
theorem gw_1634 : Cond.fieldLink "HedgeCommitteeModel" 32 "HedgeCommitteeModel" "with" "[I" ∈ gw := gw_t (tb_7 (List.mem_of_getElem? (i := 128) rfl)) rfl
theorem gw_1635 : Cond.fieldLink "HedgeCommitteeModel" 35 "HedgeCommitteeModel" "without" "[I" ∈ gw := gw_t (tb_7 (List.mem_of_getElem? (i := 129) rfl)) rfl
theorem gw_1636 : Cond.fieldLink "HedgeCommitteeModel" 38 "HedgeCommitteeModel" "setsWith" "[I" ∈ gw := gw_t (tb_7 (List.mem_of_getElem? (i := 130) rfl)) rfl
theorem gw_1637 : Cond.fieldLink "HedgeCommitteeModel" 41 "HedgeCommitteeModel" "setsWithout" "[I" ∈ gw := gw_t (tb_7 (List.mem_of_getElem? (i := 131) rfl)) rfl
theorem gw_1638 : Cond.fieldLink "HedgeCommitteeModel" 190 "HedgeCommitteeModel" "worthAll" "I" ∈ gw := gw_t (tb_7 (List.mem_of_getElem? (i := 132) rfl)) rfl
theorem gw_1639 : Cond.fieldLink "HedgeCommitteeModel" 193 "HedgeCommitteeModel" "setsAll" "I" ∈ gw := gw_t (tb_7 (List.mem_of_getElem? (i := 133) rfl)) rfl
theorem gw_1640 : Cond.fieldLink "HedgeCommitteeModel" 44 "HedgeCommitteeModel" "letters" "[C" ∈ gw := gw_t (tb_7 (List.mem_of_getElem? (i := 134) rfl)) rfl
theorem gw_1641 : Cond.fieldLink "HedgeCommitteeModel" 48 "HedgeCommitteeModel" "begins0" "[I" ∈ gw := gw_t (tb_7 (List.mem_of_getElem? (i := 135) rfl)) rfl
theorem gw_1642 : Cond.fieldLink "HedgeCommitteeModel" 51 "HedgeCommitteeModel" "commands" "[I" ∈ gw := gw_t (tb_7 (List.mem_of_getElem? (i := 136) rfl)) rfl
theorem gw_1643 : Cond.fieldLink "HedgeCommitteeModel" 242 "HedgeCommitteeModel" "commandMany" "I" ∈ gw := gw_t (tb_7 (List.mem_of_getElem? (i := 137) rfl)) rfl
theorem gw_1644 : Cond.fieldLink "HedgeCommitteeModel" 210 "HedgeCommitteeModel" "place0" "I" ∈ gw := gw_t (tb_7 (List.mem_of_getElem? (i := 138) rfl)) rfl
theorem gw_1645 : Cond.fieldLink "HedgeCommitteeModel" 213 "HedgeCommitteeModel" "size0" "I" ∈ gw := gw_t (tb_7 (List.mem_of_getElem? (i := 139) rfl)) rfl
theorem gw_1646 : Cond.fieldLink "HedgeCommitteeModel" 216 "HedgeCommitteeModel" "isWrong" "Z" ∈ gw := gw_t (tb_7 (List.mem_of_getElem? (i := 140) rfl)) rfl
theorem gw_1647 : Cond.fieldLink "HedgeCommitteeModel" 54 "HedgeCommitteeModel" "line" "[I" ∈ gw := gw_t (tb_7 (List.mem_of_getElem? (i := 141) rfl)) rfl
theorem gw_1648 : Cond.fieldLink "HedgeCommitteeModel" 258 "HedgeCommitteeModel" "lineMany" "I" ∈ gw := gw_t (tb_7 (List.mem_of_getElem? (i := 142) rfl)) rfl
theorem gw_1649 : Cond.laysFinal "HedgeCommitteeModel" "HedgeCommitteeModel" "m" "[I" ∈ gw := gw_t (tb_7 (List.mem_of_getElem? (i := 143) rfl)) rfl
theorem gw_1651 : Cond.laysFinal "HedgeCommitteeModel" "HedgeCommitteeModel" "aside" "[I" ∈ gw := gw_t (tb_7 (List.mem_of_getElem? (i := 145) rfl)) rfl
theorem gw_1653 : Cond.laysFinal "HedgeCommitteeModel" "HedgeCommitteeModel" "saved" "[I" ∈ gw := gw_t (tb_7 (List.mem_of_getElem? (i := 147) rfl)) rfl
theorem gw_1655 : Cond.lays "HedgeCommitteeModel" "HedgeCommitteeModel" "isSaved" "Z" ∈ gw := gw_t (tb_7 (List.mem_of_getElem? (i := 149) rfl)) rfl
theorem gw_1657 : Cond.laysFinal "HedgeCommitteeModel" "HedgeCommitteeModel" "past" "[I" ∈ gw := gw_t (tb_7 (List.mem_of_getElem? (i := 151) rfl)) rfl
theorem gw_1659 : Cond.lays "HedgeCommitteeModel" "HedgeCommitteeModel" "changes" "I" ∈ gw := gw_t (tb_7 (List.mem_of_getElem? (i := 153) rfl)) rfl
theorem gw_1661 : Cond.lays "HedgeCommitteeModel" "HedgeCommitteeModel" "errorAt" "I" ∈ gw := gw_t (tb_7 (List.mem_of_getElem? (i := 155) rfl)) rfl
theorem gw_1663 : Cond.lays "HedgeCommitteeModel" "HedgeCommitteeModel" "failed" "I" ∈ gw := gw_t (tb_7 (List.mem_of_getElem? (i := 157) rfl)) rfl
theorem gw_1665 : Cond.lays "HedgeCommitteeModel" "HedgeCommitteeModel" "thrown" "I" ∈ gw := gw_t (tb_7 (List.mem_of_getElem? (i := 159) rfl)) rfl
theorem gw_1667 : Cond.laysFinal "HedgeCommitteeModel" "HedgeCommitteeModel" "input" "[I" ∈ gw := gw_t (tb_7 (List.mem_of_getElem? (i := 161) rfl)) rfl
theorem gw_1669 : Cond.lays "HedgeCommitteeModel" "HedgeCommitteeModel" "inputMany" "I" ∈ gw := gw_t (tb_7 (List.mem_of_getElem? (i := 163) rfl)) rfl
theorem gw_1671 : Cond.laysFinal "HedgeCommitteeModel" "HedgeCommitteeModel" "with" "[I" ∈ gw := gw_t (tb_7 (List.mem_of_getElem? (i := 165) rfl)) rfl
theorem gw_1673 : Cond.laysFinal "HedgeCommitteeModel" "HedgeCommitteeModel" "without" "[I" ∈ gw := gw_t (tb_7 (List.mem_of_getElem? (i := 167) rfl)) rfl
theorem gw_1675 : Cond.laysFinal "HedgeCommitteeModel" "HedgeCommitteeModel" "setsWith" "[I" ∈ gw := gw_t (tb_7 (List.mem_of_getElem? (i := 169) rfl)) rfl
theorem gw_1677 : Cond.laysFinal "HedgeCommitteeModel" "HedgeCommitteeModel" "setsWithout" "[I" ∈ gw := gw_t (tb_7 (List.mem_of_getElem? (i := 171) rfl)) rfl
theorem gw_1679 : Cond.lays "HedgeCommitteeModel" "HedgeCommitteeModel" "worthAll" "I" ∈ gw := gw_t (tb_7 (List.mem_of_getElem? (i := 173) rfl)) rfl
theorem gw_1681 : Cond.lays "HedgeCommitteeModel" "HedgeCommitteeModel" "setsAll" "I" ∈ gw := gw_t (tb_7 (List.mem_of_getElem? (i := 175) rfl)) rfl
theorem gw_1683 : Cond.laysFinal "HedgeCommitteeModel" "HedgeCommitteeModel" "letters" "[C" ∈ gw := gw_t (tb_7 (List.mem_of_getElem? (i := 177) rfl)) rfl
theorem gw_1685 : Cond.laysFinal "HedgeCommitteeModel" "HedgeCommitteeModel" "begins0" "[I" ∈ gw := gw_t (tb_7 (List.mem_of_getElem? (i := 179) rfl)) rfl
theorem gw_1687 : Cond.laysFinal "HedgeCommitteeModel" "HedgeCommitteeModel" "commands" "[I" ∈ gw := gw_t (tb_7 (List.mem_of_getElem? (i := 181) rfl)) rfl
theorem gw_1689 : Cond.lays "HedgeCommitteeModel" "HedgeCommitteeModel" "commandMany" "I" ∈ gw := gw_t (tb_7 (List.mem_of_getElem? (i := 183) rfl)) rfl
theorem gw_1691 : Cond.lays "HedgeCommitteeModel" "HedgeCommitteeModel" "place0" "I" ∈ gw := gw_t (tb_7 (List.mem_of_getElem? (i := 185) rfl)) rfl
theorem gw_1693 : Cond.lays "HedgeCommitteeModel" "HedgeCommitteeModel" "size0" "I" ∈ gw := gw_t (tb_7 (List.mem_of_getElem? (i := 187) rfl)) rfl
theorem gw_1695 : Cond.lays "HedgeCommitteeModel" "HedgeCommitteeModel" "isWrong" "Z" ∈ gw := gw_t (tb_7 (List.mem_of_getElem? (i := 189) rfl)) rfl
theorem gw_1697 : Cond.laysFinal "HedgeCommitteeModel" "HedgeCommitteeModel" "line" "[I" ∈ gw := gw_t (tb_7 (List.mem_of_getElem? (i := 191) rfl)) rfl
theorem gw_1699 : Cond.lays "HedgeCommitteeModel" "HedgeCommitteeModel" "lineMany" "I" ∈ gw := gw_t (tb_7 (List.mem_of_getElem? (i := 193) rfl)) rfl
theorem gw_1701 : Cond.superclass "HedgeCommitteeModel" "java/lang/Object" ∈ gw := gw_t (tb_7 (List.mem_of_getElem? (i := 195) rfl)) rfl
theorem gw_1702 : Cond.methodLink "HedgeCommitteeLaw" 149 ⟨"HedgeCommitteeModel", "thrown", "()I"⟩ ∈ gw := gw_t (tb_7 (List.mem_of_getElem? (i := 196) rfl)) rfl
theorem gw_1703 : Cond.instanceMethod ⟨"HedgeCommitteeModel", "thrown", "()I"⟩ ∈ gw := gw_t (tb_7 (List.mem_of_getElem? (i := 197) rfl)) rfl
theorem gw_1704 : Cond.selects "HedgeCommitteeModel" ⟨"HedgeCommitteeModel", "thrown", "()I"⟩ ⟨"HedgeCommitteeModel", "thrown", "()I"⟩ ∈ gw := gw_t (tb_7 (List.mem_of_getElem? (i := 198) rfl)) rfl
theorem gw_1705 : Cond.code ⟨"HedgeCommitteeModel", "thrown", "()I"⟩ prog_12_method_2_code 1 (some .int) ∈ gw := gw_t (tb_7 (List.mem_of_getElem? (i := 199) rfl)) rfl
theorem gw_1706 : Cond.methodLink "HedgeCommitteeLaw" 148 ⟨"HedgeCommitteeModel", "addHedge", "(III)I"⟩ ∈ gw := gw_t (tb_7 (List.mem_of_getElem? (i := 200) rfl)) rfl
theorem gw_1707 : Cond.instanceMethod ⟨"HedgeCommitteeModel", "addHedge", "(III)I"⟩ ∈ gw := gw_t (tb_7 (List.mem_of_getElem? (i := 201) rfl)) rfl
theorem gw_1708 : Cond.selects "HedgeCommitteeModel" ⟨"HedgeCommitteeModel", "addHedge", "(III)I"⟩ ⟨"HedgeCommitteeModel", "addHedge", "(III)I"⟩ ∈ gw := gw_t (tb_7 (List.mem_of_getElem? (i := 202) rfl)) rfl
theorem gw_1709 : Cond.code ⟨"HedgeCommitteeModel", "addHedge", "(III)I"⟩ prog_12_method_23_code 4 (some .int) ∈ gw := gw_t (tb_7 (List.mem_of_getElem? (i := 203) rfl)) rfl
theorem gw_1710 : Cond.methodLink "HedgeCommitteeModel" 104 ⟨"HedgeCommitteeModel", "starts", "()V"⟩ ∈ gw := gw_t (tb_7 (List.mem_of_getElem? (i := 204) rfl)) rfl
theorem gw_1712 : Cond.instanceMethod ⟨"HedgeCommitteeModel", "starts", "()V"⟩ ∈ gw := gw_t (tb_7 (List.mem_of_getElem? (i := 206) rfl)) rfl
theorem gw_1713 : Cond.code ⟨"HedgeCommitteeModel", "starts", "()V"⟩ prog_12_method_5_code 2 none ∈ gw := gw_t (tb_7 (List.mem_of_getElem? (i := 207) rfl)) rfl
theorem gw_1714 : Cond.methodLink "HedgeCommitteeModel" 107 ⟨"HedgeCommitteeModel", "hedgeIt", "(III)I"⟩ ∈ gw := gw_t (tb_7 (List.mem_of_getElem? (i := 208) rfl)) rfl
theorem gw_1716 : Cond.instanceMethod ⟨"HedgeCommitteeModel", "hedgeIt", "(III)I"⟩ ∈ gw := gw_t (tb_7 (List.mem_of_getElem? (i := 210) rfl)) rfl
theorem gw_1717 : Cond.code ⟨"HedgeCommitteeModel", "hedgeIt", "(III)I"⟩ prog_12_method_22_code 5 (some .int) ∈ gw := gw_t (tb_7 (List.mem_of_getElem? (i := 211) rfl)) rfl
theorem gw_1718 : Cond.constantLong "HedgeCommitteeModel" 97 (99 : Int64) ∈ gw := gw_t (tb_7 (List.mem_of_getElem? (i := 212) rfl)) (by decide +kernel)
theorem gw_1719 : Cond.methodLink "HedgeCommitteeModel" 63 ⟨"HedgeCommitteeModel", "in", "(JJJ)Z"⟩ ∈ gw := gw_t (tb_7 (List.mem_of_getElem? (i := 213) rfl)) rfl
theorem gw_1720 : Cond.static ⟨"HedgeCommitteeModel", "in", "(JJJ)Z"⟩ ∈ gw := gw_t (tb_7 (List.mem_of_getElem? (i := 214) rfl)) rfl
theorem gw_1721 : Cond.code ⟨"HedgeCommitteeModel", "in", "(JJJ)Z"⟩ prog_12_method_4_code 6 (some .boolean) ∈ gw := gw_t (tb_7 (List.mem_of_getElem? (i := 215) rfl)) rfl
theorem gw_1722 : Cond.constantLong "HedgeCommitteeModel" 99 (9 : Int64) ∈ gw := gw_t (tb_7 (List.mem_of_getElem? (i := 216) rfl)) (by decide +kernel)
theorem gw_1723 : Cond.methodLink "HedgeCommitteeModel" 101 ⟨"HedgeCommitteeModel", "throwing", "(I)I"⟩ ∈ gw := gw_t (tb_7 (List.mem_of_getElem? (i := 217) rfl)) rfl
theorem gw_1725 : Cond.instanceMethod ⟨"HedgeCommitteeModel", "throwing", "(I)I"⟩ ∈ gw := gw_t (tb_7 (List.mem_of_getElem? (i := 219) rfl)) rfl
theorem gw_1726 : Cond.code ⟨"HedgeCommitteeModel", "throwing", "(I)I"⟩ prog_12_method_3_code 2 (some .int) ∈ gw := gw_t (tb_7 (List.mem_of_getElem? (i := 220) rfl)) rfl
theorem gw_1727 : Cond.methodLink "HedgeCommitteeModel" 86 ⟨"HedgeCommitteeModel", "hedgeAt", "(I)I"⟩ ∈ gw := gw_t (tb_7 (List.mem_of_getElem? (i := 221) rfl)) rfl
theorem gw_1728 : Cond.static ⟨"HedgeCommitteeModel", "hedgeAt", "(I)I"⟩ ∈ gw := gw_t (tb_7 (List.mem_of_getElem? (i := 222) rfl)) rfl
theorem gw_1729 : Cond.code ⟨"HedgeCommitteeModel", "hedgeAt", "(I)I"⟩ prog_12_method_7_code 1 (some .int) ∈ gw := gw_t (tb_7 (List.mem_of_getElem? (i := 223) rfl)) rfl
theorem gw_1730 : Cond.methodLink "HedgeCommitteeModel" 111 ⟨"HedgeCommitteeModel", "changed", "(I)I"⟩ ∈ gw := gw_t (tb_7 (List.mem_of_getElem? (i := 224) rfl)) rfl
theorem gw_1732 : Cond.instanceMethod ⟨"HedgeCommitteeModel", "changed", "(I)I"⟩ ∈ gw := gw_t (tb_7 (List.mem_of_getElem? (i := 226) rfl)) rfl
theorem gw_1733 : Cond.code ⟨"HedgeCommitteeModel", "changed", "(I)I"⟩ prog_12_method_6_code 3 (some .int) ∈ gw := gw_t (tb_7 (List.mem_of_getElem? (i := 227) rfl)) rfl
theorem gw_1734 : Cond.methodLink "HedgeCommitteeLaw" 155 ⟨"HedgeCommitteeModel", "propose", "(II)I"⟩ ∈ gw := gw_t (tb_7 (List.mem_of_getElem? (i := 228) rfl)) rfl
theorem gw_1735 : Cond.instanceMethod ⟨"HedgeCommitteeModel", "propose", "(II)I"⟩ ∈ gw := gw_t (tb_7 (List.mem_of_getElem? (i := 229) rfl)) rfl
theorem gw_1736 : Cond.selects "HedgeCommitteeModel" ⟨"HedgeCommitteeModel", "propose", "(II)I"⟩ ⟨"HedgeCommitteeModel", "propose", "(II)I"⟩ ∈ gw := gw_t (tb_7 (List.mem_of_getElem? (i := 230) rfl)) rfl
theorem gw_1737 : Cond.code ⟨"HedgeCommitteeModel", "propose", "(II)I"⟩ prog_12_method_25_code 3 (some .int) ∈ gw := gw_t (tb_7 (List.mem_of_getElem? (i := 231) rfl)) rfl
theorem gw_1738 : Cond.methodLink "HedgeCommitteeModel" 119 ⟨"HedgeCommitteeModel", "mainIt", "(II)I"⟩ ∈ gw := gw_t (tb_7 (List.mem_of_getElem? (i := 232) rfl)) rfl
theorem gw_1740 : Cond.instanceMethod ⟨"HedgeCommitteeModel", "mainIt", "(II)I"⟩ ∈ gw := gw_t (tb_7 (List.mem_of_getElem? (i := 234) rfl)) rfl
theorem gw_1741 : Cond.code ⟨"HedgeCommitteeModel", "mainIt", "(II)I"⟩ prog_12_method_24_code 3 (some .int) ∈ gw := gw_t (tb_7 (List.mem_of_getElem? (i := 235) rfl)) rfl
theorem gw_1742 : Cond.constantLong "HedgeCommitteeModel" 114 (20 : Int64) ∈ gw := gw_t (tb_7 (List.mem_of_getElem? (i := 236) rfl)) (by decide +kernel)
theorem gw_1743 : Cond.methodLink "HedgeCommitteeModel" 116 ⟨"HedgeCommitteeModel", "adds", "(III)I"⟩ ∈ gw := gw_t (tb_7 (List.mem_of_getElem? (i := 237) rfl)) rfl
theorem gw_1745 : Cond.instanceMethod ⟨"HedgeCommitteeModel", "adds", "(III)I"⟩ ∈ gw := gw_t (tb_7 (List.mem_of_getElem? (i := 239) rfl)) rfl
theorem gw_1746 : Cond.code ⟨"HedgeCommitteeModel", "adds", "(III)I"⟩ prog_12_method_21_code 5 (some .int) ∈ gw := gw_t (tb_8 (List.mem_of_getElem? (i := 0) rfl)) rfl
theorem gw_1747 : Cond.methodLink "HedgeCommitteeLaw" 158 ⟨"HedgeCommitteeModel", "amend", "(III)I"⟩ ∈ gw := gw_t (tb_8 (List.mem_of_getElem? (i := 1) rfl)) rfl
theorem gw_1748 : Cond.instanceMethod ⟨"HedgeCommitteeModel", "amend", "(III)I"⟩ ∈ gw := gw_t (tb_8 (List.mem_of_getElem? (i := 2) rfl)) rfl
theorem gw_1749 : Cond.selects "HedgeCommitteeModel" ⟨"HedgeCommitteeModel", "amend", "(III)I"⟩ ⟨"HedgeCommitteeModel", "amend", "(III)I"⟩ ∈ gw := gw_t (tb_8 (List.mem_of_getElem? (i := 3) rfl)) rfl
theorem gw_1750 : Cond.code ⟨"HedgeCommitteeModel", "amend", "(III)I"⟩ prog_12_method_27_code 4 (some .int) ∈ gw := gw_t (tb_8 (List.mem_of_getElem? (i := 4) rfl)) rfl
theorem gw_1751 : Cond.methodLink "HedgeCommitteeModel" 122 ⟨"HedgeCommitteeModel", "amendIt", "(III)I"⟩ ∈ gw := gw_t (tb_8 (List.mem_of_getElem? (i := 5) rfl)) rfl
theorem gw_1753 : Cond.instanceMethod ⟨"HedgeCommitteeModel", "amendIt", "(III)I"⟩ ∈ gw := gw_t (tb_8 (List.mem_of_getElem? (i := 7) rfl)) rfl
theorem gw_1754 : Cond.code ⟨"HedgeCommitteeModel", "amendIt", "(III)I"⟩ prog_12_method_26_code 4 (some .int) ∈ gw := gw_t (tb_8 (List.mem_of_getElem? (i := 8) rfl)) rfl
theorem gw_1755 : Cond.methodLink "HedgeCommitteeModel" 71 ⟨"HedgeCommitteeModel", "find", "(I)I"⟩ ∈ gw := gw_t (tb_8 (List.mem_of_getElem? (i := 9) rfl)) rfl
theorem gw_1757 : Cond.instanceMethod ⟨"HedgeCommitteeModel", "find", "(I)I"⟩ ∈ gw := gw_t (tb_8 (List.mem_of_getElem? (i := 11) rfl)) rfl
theorem gw_1758 : Cond.code ⟨"HedgeCommitteeModel", "find", "(I)I"⟩ prog_12_method_10_code 3 (some .int) ∈ gw := gw_t (tb_8 (List.mem_of_getElem? (i := 12) rfl)) rfl
theorem gw_1759 : Cond.methodLink "HedgeCommitteeModel" 67 ⟨"HedgeCommitteeModel", "of", "(II)I"⟩ ∈ gw := gw_t (tb_8 (List.mem_of_getElem? (i := 13) rfl)) rfl
theorem gw_1761 : Cond.instanceMethod ⟨"HedgeCommitteeModel", "of", "(II)I"⟩ ∈ gw := gw_t (tb_8 (List.mem_of_getElem? (i := 15) rfl)) rfl
theorem gw_1762 : Cond.code ⟨"HedgeCommitteeModel", "of", "(II)I"⟩ prog_12_method_9_code 3 (some .int) ∈ gw := gw_t (tb_8 (List.mem_of_getElem? (i := 16) rfl)) rfl
theorem gw_1763 : Cond.methodLink "HedgeCommitteeLaw" 161 ⟨"HedgeCommitteeModel", "prune", "(II)I"⟩ ∈ gw := gw_t (tb_8 (List.mem_of_getElem? (i := 17) rfl)) rfl
theorem gw_1764 : Cond.instanceMethod ⟨"HedgeCommitteeModel", "prune", "(II)I"⟩ ∈ gw := gw_t (tb_8 (List.mem_of_getElem? (i := 18) rfl)) rfl
theorem gw_1765 : Cond.selects "HedgeCommitteeModel" ⟨"HedgeCommitteeModel", "prune", "(II)I"⟩ ⟨"HedgeCommitteeModel", "prune", "(II)I"⟩ ∈ gw := gw_t (tb_8 (List.mem_of_getElem? (i := 19) rfl)) rfl
theorem gw_1766 : Cond.code ⟨"HedgeCommitteeModel", "prune", "(II)I"⟩ prog_12_method_29_code 3 (some .int) ∈ gw := gw_t (tb_8 (List.mem_of_getElem? (i := 20) rfl)) rfl
theorem gw_1767 : Cond.methodLink "HedgeCommitteeModel" 132 ⟨"HedgeCommitteeModel", "pruneIt", "(II)I"⟩ ∈ gw := gw_t (tb_8 (List.mem_of_getElem? (i := 21) rfl)) rfl
theorem gw_1769 : Cond.instanceMethod ⟨"HedgeCommitteeModel", "pruneIt", "(II)I"⟩ ∈ gw := gw_t (tb_8 (List.mem_of_getElem? (i := 23) rfl)) rfl
theorem gw_1770 : Cond.code ⟨"HedgeCommitteeModel", "pruneIt", "(II)I"⟩ prog_12_method_28_code 7 (some .int) ∈ gw := gw_t (tb_8 (List.mem_of_getElem? (i := 24) rfl)) rfl
theorem gw_1771 : Cond.methodLink "HedgeCommitteeModel" 125 ⟨"HedgeCommitteeModel", "deep", "(I)I"⟩ ∈ gw := gw_t (tb_8 (List.mem_of_getElem? (i := 25) rfl)) rfl
theorem gw_1773 : Cond.instanceMethod ⟨"HedgeCommitteeModel", "deep", "(I)I"⟩ ∈ gw := gw_t (tb_8 (List.mem_of_getElem? (i := 27) rfl)) rfl
theorem gw_1774 : Cond.code ⟨"HedgeCommitteeModel", "deep", "(I)I"⟩ prog_12_method_12_code 4 (some .int) ∈ gw := gw_t (tb_8 (List.mem_of_getElem? (i := 28) rfl)) rfl
theorem gw_1775 : Cond.methodLink "HedgeCommitteeModel" 75 ⟨"HedgeCommitteeModel", "above", "(I)I"⟩ ∈ gw := gw_t (tb_8 (List.mem_of_getElem? (i := 29) rfl)) rfl
theorem gw_1777 : Cond.instanceMethod ⟨"HedgeCommitteeModel", "above", "(I)I"⟩ ∈ gw := gw_t (tb_8 (List.mem_of_getElem? (i := 31) rfl)) rfl
theorem gw_1778 : Cond.code ⟨"HedgeCommitteeModel", "above", "(I)I"⟩ prog_12_method_11_code 2 (some .int) ∈ gw := gw_t (tb_8 (List.mem_of_getElem? (i := 32) rfl)) rfl
theorem gw_1779 : Cond.methodLink "HedgeCommitteeModel" 78 ⟨"HedgeCommitteeModel", "isIn", "(II)Z"⟩ ∈ gw := gw_t (tb_8 (List.mem_of_getElem? (i := 33) rfl)) rfl
theorem gw_1781 : Cond.instanceMethod ⟨"HedgeCommitteeModel", "isIn", "(II)Z"⟩ ∈ gw := gw_t (tb_8 (List.mem_of_getElem? (i := 35) rfl)) rfl
theorem gw_1782 : Cond.code ⟨"HedgeCommitteeModel", "isIn", "(II)Z"⟩ prog_12_method_14_code 4 (some .boolean) ∈ gw := gw_t (tb_8 (List.mem_of_getElem? (i := 36) rfl)) rfl
theorem gw_1783 : Cond.methodLink "HedgeCommitteeModel" 128 ⟨"HedgeCommitteeModel", "drops", "(I)V"⟩ ∈ gw := gw_t (tb_8 (List.mem_of_getElem? (i := 37) rfl)) rfl
theorem gw_1785 : Cond.instanceMethod ⟨"HedgeCommitteeModel", "drops", "(I)V"⟩ ∈ gw := gw_t (tb_8 (List.mem_of_getElem? (i := 39) rfl)) rfl
theorem gw_1786 : Cond.code ⟨"HedgeCommitteeModel", "drops", "(I)V"⟩ prog_12_method_20_code 3 none ∈ gw := gw_t (tb_8 (List.mem_of_getElem? (i := 40) rfl)) rfl
theorem gw_1787 : Cond.methodLink "HedgeCommitteeLaw" 165 ⟨"HedgeCommitteeModel", "regrow", "(I)I"⟩ ∈ gw := gw_t (tb_8 (List.mem_of_getElem? (i := 41) rfl)) rfl
theorem gw_1788 : Cond.instanceMethod ⟨"HedgeCommitteeModel", "regrow", "(I)I"⟩ ∈ gw := gw_t (tb_8 (List.mem_of_getElem? (i := 42) rfl)) rfl
theorem gw_1789 : Cond.selects "HedgeCommitteeModel" ⟨"HedgeCommitteeModel", "regrow", "(I)I"⟩ ⟨"HedgeCommitteeModel", "regrow", "(I)I"⟩ ∈ gw := gw_t (tb_8 (List.mem_of_getElem? (i := 43) rfl)) rfl
theorem gw_1790 : Cond.code ⟨"HedgeCommitteeModel", "regrow", "(I)I"⟩ prog_12_method_31_code 2 (some .int) ∈ gw := gw_t (tb_8 (List.mem_of_getElem? (i := 44) rfl)) rfl
theorem gw_1791 : Cond.methodLink "HedgeCommitteeModel" 141 ⟨"HedgeCommitteeModel", "regrowIt", "(I)I"⟩ ∈ gw := gw_t (tb_8 (List.mem_of_getElem? (i := 45) rfl)) rfl
theorem gw_1793 : Cond.instanceMethod ⟨"HedgeCommitteeModel", "regrowIt", "(I)I"⟩ ∈ gw := gw_t (tb_8 (List.mem_of_getElem? (i := 47) rfl)) rfl
theorem gw_1794 : Cond.code ⟨"HedgeCommitteeModel", "regrowIt", "(I)I"⟩ prog_12_method_30_code 4 (some .int) ∈ gw := gw_t (tb_8 (List.mem_of_getElem? (i := 48) rfl)) rfl
theorem gw_1795 : Cond.methodLink "HedgeCommitteeModel" 135 ⟨"HedgeCommitteeModel", "lastTipAt", "(I)I"⟩ ∈ gw := gw_t (tb_8 (List.mem_of_getElem? (i := 49) rfl)) rfl
theorem gw_1797 : Cond.instanceMethod ⟨"HedgeCommitteeModel", "lastTipAt", "(I)I"⟩ ∈ gw := gw_t (tb_8 (List.mem_of_getElem? (i := 51) rfl)) rfl
theorem gw_1798 : Cond.code ⟨"HedgeCommitteeModel", "lastTipAt", "(I)I"⟩ prog_12_method_15_code 4 (some .int) ∈ gw := gw_t (tb_8 (List.mem_of_getElem? (i := 52) rfl)) rfl
theorem gw_1799 : Cond.methodLink "HedgeCommitteeModel" 82 ⟨"HedgeCommitteeModel", "isTipAt", "(I)Z"⟩ ∈ gw := gw_t (tb_8 (List.mem_of_getElem? (i := 53) rfl)) rfl
theorem gw_1801 : Cond.instanceMethod ⟨"HedgeCommitteeModel", "isTipAt", "(I)Z"⟩ ∈ gw := gw_t (tb_8 (List.mem_of_getElem? (i := 55) rfl)) rfl
theorem gw_1802 : Cond.code ⟨"HedgeCommitteeModel", "isTipAt", "(I)Z"⟩ prog_12_method_13_code 4 (some .boolean) ∈ gw := gw_t (tb_8 (List.mem_of_getElem? (i := 56) rfl)) rfl
theorem gw_1803 : Cond.methodLink "HedgeCommitteeModel" 138 ⟨"java/lang/Math", "max", "(II)I"⟩ ∈ gw := gw_t (tb_8 (List.mem_of_getElem? (i := 57) rfl)) rfl
theorem gw_1804 : Cond.methodLink "HedgeCommitteeLaw" 168 ⟨"HedgeCommitteeModel", "vote", "(I)C"⟩ ∈ gw := gw_t (tb_8 (List.mem_of_getElem? (i := 58) rfl)) rfl
theorem gw_1805 : Cond.instanceMethod ⟨"HedgeCommitteeModel", "vote", "(I)C"⟩ ∈ gw := gw_t (tb_8 (List.mem_of_getElem? (i := 59) rfl)) rfl
theorem gw_1806 : Cond.selects "HedgeCommitteeModel" ⟨"HedgeCommitteeModel", "vote", "(I)C"⟩ ⟨"HedgeCommitteeModel", "vote", "(I)C"⟩ ∈ gw := gw_t (tb_8 (List.mem_of_getElem? (i := 60) rfl)) rfl
theorem gw_1807 : Cond.code ⟨"HedgeCommitteeModel", "vote", "(I)C"⟩ prog_12_method_34_code 2 (some .char) ∈ gw := gw_t (tb_8 (List.mem_of_getElem? (i := 61) rfl)) rfl
theorem gw_1808 : Cond.methodLink "HedgeCommitteeModel" 157 ⟨"HedgeCommitteeModel", "voteIt", "(I)I"⟩ ∈ gw := gw_t (tb_8 (List.mem_of_getElem? (i := 62) rfl)) rfl
theorem gw_1810 : Cond.instanceMethod ⟨"HedgeCommitteeModel", "voteIt", "(I)I"⟩ ∈ gw := gw_t (tb_8 (List.mem_of_getElem? (i := 64) rfl)) rfl
theorem gw_1811 : Cond.code ⟨"HedgeCommitteeModel", "voteIt", "(I)I"⟩ prog_12_method_33_code 5 (some .int) ∈ gw := gw_t (tb_8 (List.mem_of_getElem? (i := 65) rfl)) rfl
theorem gw_1812 : Cond.methodLink "HedgeCommitteeModel" 144 ⟨"HedgeCommitteeModel", "vetoes", "(II)Z"⟩ ∈ gw := gw_t (tb_8 (List.mem_of_getElem? (i := 66) rfl)) rfl
theorem gw_1814 : Cond.instanceMethod ⟨"HedgeCommitteeModel", "vetoes", "(II)Z"⟩ ∈ gw := gw_t (tb_8 (List.mem_of_getElem? (i := 68) rfl)) rfl
theorem gw_1815 : Cond.code ⟨"HedgeCommitteeModel", "vetoes", "(II)Z"⟩ prog_12_method_17_code 3 (some .boolean) ∈ gw := gw_t (tb_8 (List.mem_of_getElem? (i := 69) rfl)) rfl
theorem gw_1816 : Cond.methodLink "HedgeCommitteeModel" 94 ⟨"HedgeCommitteeModel", "far", "(II)I"⟩ ∈ gw := gw_t (tb_8 (List.mem_of_getElem? (i := 70) rfl)) rfl
theorem gw_1818 : Cond.instanceMethod ⟨"HedgeCommitteeModel", "far", "(II)I"⟩ ∈ gw := gw_t (tb_8 (List.mem_of_getElem? (i := 72) rfl)) rfl
theorem gw_1819 : Cond.code ⟨"HedgeCommitteeModel", "far", "(II)I"⟩ prog_12_method_16_code 3 (some .int) ∈ gw := gw_t (tb_8 (List.mem_of_getElem? (i := 73) rfl)) rfl
theorem gw_1820 : Cond.methodLink "HedgeCommitteeModel" 89 ⟨"java/lang/Math", "abs", "(I)I"⟩ ∈ gw := gw_t (tb_8 (List.mem_of_getElem? (i := 74) rfl)) rfl
theorem gw_1821 : Cond.static ⟨"java/lang/Math", "abs", "(I)I"⟩ ∈ gw := gw_t (tb_8 (List.mem_of_getElem? (i := 75) rfl)) rfl
theorem gw_1822 : Cond.code ⟨"java/lang/Math", "abs", "(I)I"⟩ prog_28_method_59_code 1 (some .int) ∈ gw := gw_t (tb_8 (List.mem_of_getElem? (i := 76) rfl)) rfl
theorem gw_1823 : Cond.methodLink "HedgeCommitteeModel" 147 ⟨"HedgeCommitteeModel", "favour", "(I)I"⟩ ∈ gw := gw_t (tb_8 (List.mem_of_getElem? (i := 77) rfl)) rfl
theorem gw_1825 : Cond.instanceMethod ⟨"HedgeCommitteeModel", "favour", "(I)I"⟩ ∈ gw := gw_t (tb_8 (List.mem_of_getElem? (i := 79) rfl)) rfl
theorem gw_1826 : Cond.code ⟨"HedgeCommitteeModel", "favour", "(I)I"⟩ prog_12_method_18_code 4 (some .int) ∈ gw := gw_t (tb_8 (List.mem_of_getElem? (i := 80) rfl)) rfl
theorem gw_1827 : Cond.methodLink "HedgeCommitteeModel" 150 ⟨"HedgeCommitteeModel", "leavesAll", "()I"⟩ ∈ gw := gw_t (tb_8 (List.mem_of_getElem? (i := 81) rfl)) rfl
theorem gw_1829 : Cond.instanceMethod ⟨"HedgeCommitteeModel", "leavesAll", "()I"⟩ ∈ gw := gw_t (tb_8 (List.mem_of_getElem? (i := 83) rfl)) rfl
theorem gw_1830 : Cond.code ⟨"HedgeCommitteeModel", "leavesAll", "()I"⟩ prog_12_method_19_code 3 (some .int) ∈ gw := gw_t (tb_8 (List.mem_of_getElem? (i := 84) rfl)) rfl
theorem gw_1831 : Cond.methodLink "HedgeCommitteeModel" 154 ⟨"HedgeCommitteeModel", "carries", "(I)V"⟩ ∈ gw := gw_t (tb_8 (List.mem_of_getElem? (i := 85) rfl)) rfl
theorem gw_1833 : Cond.instanceMethod ⟨"HedgeCommitteeModel", "carries", "(I)V"⟩ ∈ gw := gw_t (tb_8 (List.mem_of_getElem? (i := 87) rfl)) rfl
theorem gw_1834 : Cond.code ⟨"HedgeCommitteeModel", "carries", "(I)V"⟩ prog_12_method_32_code 2 none ∈ gw := gw_t (tb_8 (List.mem_of_getElem? (i := 88) rfl)) rfl
theorem gw_1835 : Cond.methodLink "HedgeCommitteeLaw" 172 ⟨"HedgeCommitteeModel", "passSeason", "()I"⟩ ∈ gw := gw_t (tb_8 (List.mem_of_getElem? (i := 89) rfl)) rfl
theorem gw_1836 : Cond.instanceMethod ⟨"HedgeCommitteeModel", "passSeason", "()I"⟩ ∈ gw := gw_t (tb_8 (List.mem_of_getElem? (i := 90) rfl)) rfl
theorem gw_1837 : Cond.selects "HedgeCommitteeModel" ⟨"HedgeCommitteeModel", "passSeason", "()I"⟩ ⟨"HedgeCommitteeModel", "passSeason", "()I"⟩ ∈ gw := gw_t (tb_8 (List.mem_of_getElem? (i := 91) rfl)) rfl
theorem gw_1838 : Cond.code ⟨"HedgeCommitteeModel", "passSeason", "()I"⟩ prog_12_method_36_code 1 (some .int) ∈ gw := gw_t (tb_8 (List.mem_of_getElem? (i := 92) rfl)) rfl
theorem gw_1839 : Cond.methodLink "HedgeCommitteeModel" 163 ⟨"HedgeCommitteeModel", "seasonIt", "()I"⟩ ∈ gw := gw_t (tb_8 (List.mem_of_getElem? (i := 93) rfl)) rfl
theorem gw_1841 : Cond.instanceMethod ⟨"HedgeCommitteeModel", "seasonIt", "()I"⟩ ∈ gw := gw_t (tb_8 (List.mem_of_getElem? (i := 95) rfl)) rfl
theorem gw_1842 : Cond.code ⟨"HedgeCommitteeModel", "seasonIt", "()I"⟩ prog_12_method_35_code 3 (some .int) ∈ gw := gw_t (tb_8 (List.mem_of_getElem? (i := 96) rfl)) rfl
theorem gw_1843 : Cond.methodLink "HedgeCommitteeModel" 160 ⟨"java/lang/Math", "min", "(II)I"⟩ ∈ gw := gw_t (tb_8 (List.mem_of_getElem? (i := 97) rfl)) rfl
theorem gw_1844 : Cond.methodLink "HedgeCommitteeLaw" 176 ⟨"HedgeCommitteeModel", "hedgeCount", "()I"⟩ ∈ gw := gw_t (tb_8 (List.mem_of_getElem? (i := 98) rfl)) rfl
theorem gw_1845 : Cond.instanceMethod ⟨"HedgeCommitteeModel", "hedgeCount", "()I"⟩ ∈ gw := gw_t (tb_8 (List.mem_of_getElem? (i := 99) rfl)) rfl
theorem gw_1846 : Cond.selects "HedgeCommitteeModel" ⟨"HedgeCommitteeModel", "hedgeCount", "()I"⟩ ⟨"HedgeCommitteeModel", "hedgeCount", "()I"⟩ ∈ gw := gw_t (tb_8 (List.mem_of_getElem? (i := 100) rfl)) rfl
theorem gw_1847 : Cond.code ⟨"HedgeCommitteeModel", "hedgeCount", "()I"⟩ prog_12_method_37_code 1 (some .int) ∈ gw := gw_t (tb_8 (List.mem_of_getElem? (i := 101) rfl)) rfl
theorem gw_1848 : Cond.methodLink "HedgeCommitteeLaw" 179 ⟨"HedgeCommitteeModel", "leaves", "(I)I"⟩ ∈ gw := gw_t (tb_8 (List.mem_of_getElem? (i := 102) rfl)) rfl
theorem gw_1849 : Cond.instanceMethod ⟨"HedgeCommitteeModel", "leaves", "(I)I"⟩ ∈ gw := gw_t (tb_8 (List.mem_of_getElem? (i := 103) rfl)) rfl
theorem gw_1850 : Cond.selects "HedgeCommitteeModel" ⟨"HedgeCommitteeModel", "leaves", "(I)I"⟩ ⟨"HedgeCommitteeModel", "leaves", "(I)I"⟩ ∈ gw := gw_t (tb_8 (List.mem_of_getElem? (i := 104) rfl)) rfl
theorem gw_1851 : Cond.code ⟨"HedgeCommitteeModel", "leaves", "(I)I"⟩ prog_12_method_38_code 2 (some .int) ∈ gw := gw_t (tb_8 (List.mem_of_getElem? (i := 105) rfl)) rfl
theorem gw_1852 : Cond.methodLink "HedgeCommitteeModel" 166 ⟨"HedgeCommitteeModel", "isHedge", "(I)Z"⟩ ∈ gw := gw_t (tb_8 (List.mem_of_getElem? (i := 106) rfl)) rfl
theorem gw_1854 : Cond.instanceMethod ⟨"HedgeCommitteeModel", "isHedge", "(I)Z"⟩ ∈ gw := gw_t (tb_8 (List.mem_of_getElem? (i := 108) rfl)) rfl
theorem gw_1855 : Cond.code ⟨"HedgeCommitteeModel", "isHedge", "(I)Z"⟩ prog_12_method_8_code 2 (some .boolean) ∈ gw := gw_t (tb_8 (List.mem_of_getElem? (i := 109) rfl)) rfl
theorem gw_1856 : Cond.methodLink "HedgeCommitteeLaw" 182 ⟨"HedgeCommitteeModel", "thorns", "(I)I"⟩ ∈ gw := gw_t (tb_8 (List.mem_of_getElem? (i := 110) rfl)) rfl
theorem gw_1857 : Cond.instanceMethod ⟨"HedgeCommitteeModel", "thorns", "(I)I"⟩ ∈ gw := gw_t (tb_8 (List.mem_of_getElem? (i := 111) rfl)) rfl
theorem gw_1858 : Cond.selects "HedgeCommitteeModel" ⟨"HedgeCommitteeModel", "thorns", "(I)I"⟩ ⟨"HedgeCommitteeModel", "thorns", "(I)I"⟩ ∈ gw := gw_t (tb_8 (List.mem_of_getElem? (i := 112) rfl)) rfl
theorem gw_1859 : Cond.code ⟨"HedgeCommitteeModel", "thorns", "(I)I"⟩ prog_12_method_39_code 2 (some .int) ∈ gw := gw_t (tb_8 (List.mem_of_getElem? (i := 113) rfl)) rfl
theorem gw_1860 : Cond.methodLink "HedgeCommitteeLaw" 185 ⟨"HedgeCommitteeModel", "hedgeAtRank", "(I)I"⟩ ∈ gw := gw_t (tb_8 (List.mem_of_getElem? (i := 114) rfl)) rfl
theorem gw_1861 : Cond.instanceMethod ⟨"HedgeCommitteeModel", "hedgeAtRank", "(I)I"⟩ ∈ gw := gw_t (tb_8 (List.mem_of_getElem? (i := 115) rfl)) rfl
theorem gw_1862 : Cond.selects "HedgeCommitteeModel" ⟨"HedgeCommitteeModel", "hedgeAtRank", "(I)I"⟩ ⟨"HedgeCommitteeModel", "hedgeAtRank", "(I)I"⟩ ∈ gw := gw_t (tb_8 (List.mem_of_getElem? (i := 116) rfl)) rfl
theorem gw_1863 : Cond.code ⟨"HedgeCommitteeModel", "hedgeAtRank", "(I)I"⟩ prog_12_method_41_code 5 (some .int) ∈ gw := gw_t (tb_8 (List.mem_of_getElem? (i := 117) rfl)) rfl
theorem gw_1864 : Cond.methodLink "HedgeCommitteeModel" 169 ⟨"HedgeCommitteeModel", "isHedgeAhead", "(II)Z"⟩ ∈ gw := gw_t (tb_8 (List.mem_of_getElem? (i := 118) rfl)) rfl
theorem gw_1866 : Cond.instanceMethod ⟨"HedgeCommitteeModel", "isHedgeAhead", "(II)Z"⟩ ∈ gw := gw_t (tb_8 (List.mem_of_getElem? (i := 120) rfl)) rfl
theorem gw_1867 : Cond.code ⟨"HedgeCommitteeModel", "isHedgeAhead", "(II)Z"⟩ prog_12_method_40_code 4 (some .boolean) ∈ gw := gw_t (tb_8 (List.mem_of_getElem? (i := 121) rfl)) rfl
theorem gw_1868 : Cond.methodLink "HedgeCommitteeLaw" 188 ⟨"HedgeCommitteeModel", "leavesInFavour", "(I)I"⟩ ∈ gw := gw_t (tb_8 (List.mem_of_getElem? (i := 122) rfl)) rfl
theorem gw_1869 : Cond.instanceMethod ⟨"HedgeCommitteeModel", "leavesInFavour", "(I)I"⟩ ∈ gw := gw_t (tb_8 (List.mem_of_getElem? (i := 123) rfl)) rfl
theorem gw_1870 : Cond.selects "HedgeCommitteeModel" ⟨"HedgeCommitteeModel", "leavesInFavour", "(I)I"⟩ ⟨"HedgeCommitteeModel", "leavesInFavour", "(I)I"⟩ ∈ gw := gw_t (tb_8 (List.mem_of_getElem? (i := 124) rfl)) rfl
theorem gw_1871 : Cond.code ⟨"HedgeCommitteeModel", "leavesInFavour", "(I)I"⟩ prog_12_method_42_code 3 (some .int) ∈ gw := gw_t (tb_8 (List.mem_of_getElem? (i := 125) rfl)) rfl
theorem gw_1872 : Cond.methodLink "HedgeCommitteeLaw" 191 ⟨"HedgeCommitteeModel", "wouldVeto", "(II)Z"⟩ ∈ gw := gw_t (tb_8 (List.mem_of_getElem? (i := 126) rfl)) rfl
theorem gw_1873 : Cond.instanceMethod ⟨"HedgeCommitteeModel", "wouldVeto", "(II)Z"⟩ ∈ gw := gw_t (tb_8 (List.mem_of_getElem? (i := 127) rfl)) rfl
theorem gw_1874 : Cond.selects "HedgeCommitteeModel" ⟨"HedgeCommitteeModel", "wouldVeto", "(II)Z"⟩ ⟨"HedgeCommitteeModel", "wouldVeto", "(II)Z"⟩ ∈ gw := gw_t (tb_8 (List.mem_of_getElem? (i := 128) rfl)) rfl
theorem gw_1875 : Cond.code ⟨"HedgeCommitteeModel", "wouldVeto", "(II)Z"⟩ prog_12_method_43_code 4 (some .boolean) ∈ gw := gw_t (tb_8 (List.mem_of_getElem? (i := 129) rfl)) rfl
theorem gw_1876 : Cond.methodLink "HedgeCommitteeLaw" 195 ⟨"HedgeCommitteeModel", "motionCount", "()I"⟩ ∈ gw := gw_t (tb_8 (List.mem_of_getElem? (i := 130) rfl)) rfl
theorem gw_1877 : Cond.instanceMethod ⟨"HedgeCommitteeModel", "motionCount", "()I"⟩ ∈ gw := gw_t (tb_8 (List.mem_of_getElem? (i := 131) rfl)) rfl
theorem gw_1878 : Cond.selects "HedgeCommitteeModel" ⟨"HedgeCommitteeModel", "motionCount", "()I"⟩ ⟨"HedgeCommitteeModel", "motionCount", "()I"⟩ ∈ gw := gw_t (tb_8 (List.mem_of_getElem? (i := 132) rfl)) rfl
theorem gw_1879 : Cond.code ⟨"HedgeCommitteeModel", "motionCount", "()I"⟩ prog_12_method_44_code 1 (some .int) ∈ gw := gw_t (tb_8 (List.mem_of_getElem? (i := 133) rfl)) rfl
theorem gw_1880 : Cond.methodLink "HedgeCommitteeLaw" 198 ⟨"HedgeCommitteeModel", "motionAt", "(I)I"⟩ ∈ gw := gw_t (tb_8 (List.mem_of_getElem? (i := 134) rfl)) rfl
theorem gw_1881 : Cond.instanceMethod ⟨"HedgeCommitteeModel", "motionAt", "(I)I"⟩ ∈ gw := gw_t (tb_8 (List.mem_of_getElem? (i := 135) rfl)) rfl
theorem gw_1882 : Cond.selects "HedgeCommitteeModel" ⟨"HedgeCommitteeModel", "motionAt", "(I)I"⟩ ⟨"HedgeCommitteeModel", "motionAt", "(I)I"⟩ ∈ gw := gw_t (tb_8 (List.mem_of_getElem? (i := 136) rfl)) rfl
theorem gw_1883 : Cond.code ⟨"HedgeCommitteeModel", "motionAt", "(I)I"⟩ prog_12_method_45_code 2 (some .int) ∈ gw := gw_t (tb_8 (List.mem_of_getElem? (i := 137) rfl)) rfl
theorem gw_1884 : Cond.methodLink "HedgeCommitteeLaw" 201 ⟨"HedgeCommitteeModel", "tone", "(I)I"⟩ ∈ gw := gw_t (tb_8 (List.mem_of_getElem? (i := 138) rfl)) rfl
theorem gw_1885 : Cond.instanceMethod ⟨"HedgeCommitteeModel", "tone", "(I)I"⟩ ∈ gw := gw_t (tb_8 (List.mem_of_getElem? (i := 139) rfl)) rfl
theorem gw_1886 : Cond.selects "HedgeCommitteeModel" ⟨"HedgeCommitteeModel", "tone", "(I)I"⟩ ⟨"HedgeCommitteeModel", "tone", "(I)I"⟩ ∈ gw := gw_t (tb_8 (List.mem_of_getElem? (i := 140) rfl)) rfl
theorem gw_1887 : Cond.code ⟨"HedgeCommitteeModel", "tone", "(I)I"⟩ prog_12_method_47_code 2 (some .int) ∈ gw := gw_t (tb_8 (List.mem_of_getElem? (i := 141) rfl)) rfl
theorem gw_1888 : Cond.methodLink "HedgeCommitteeModel" 172 ⟨"HedgeCommitteeModel", "ofMotion", "(II)I"⟩ ∈ gw := gw_t (tb_8 (List.mem_of_getElem? (i := 142) rfl)) rfl
theorem gw_1890 : Cond.instanceMethod ⟨"HedgeCommitteeModel", "ofMotion", "(II)I"⟩ ∈ gw := gw_t (tb_8 (List.mem_of_getElem? (i := 144) rfl)) rfl
theorem gw_1891 : Cond.code ⟨"HedgeCommitteeModel", "ofMotion", "(II)I"⟩ prog_12_method_46_code 3 (some .int) ∈ gw := gw_t (tb_8 (List.mem_of_getElem? (i := 145) rfl)) rfl
theorem gw_1892 : Cond.methodLink "HedgeCommitteeLaw" 204 ⟨"HedgeCommitteeModel", "weight", "(I)I"⟩ ∈ gw := gw_t (tb_8 (List.mem_of_getElem? (i := 146) rfl)) rfl
theorem gw_1893 : Cond.instanceMethod ⟨"HedgeCommitteeModel", "weight", "(I)I"⟩ ∈ gw := gw_t (tb_8 (List.mem_of_getElem? (i := 147) rfl)) rfl
theorem gw_1894 : Cond.selects "HedgeCommitteeModel" ⟨"HedgeCommitteeModel", "weight", "(I)I"⟩ ⟨"HedgeCommitteeModel", "weight", "(I)I"⟩ ∈ gw := gw_t (tb_8 (List.mem_of_getElem? (i := 148) rfl)) rfl
theorem gw_1895 : Cond.code ⟨"HedgeCommitteeModel", "weight", "(I)I"⟩ prog_12_method_48_code 2 (some .int) ∈ gw := gw_t (tb_8 (List.mem_of_getElem? (i := 149) rfl)) rfl
theorem gw_1896 : Cond.methodLink "HedgeCommitteeLaw" 207 ⟨"HedgeCommitteeModel", "parent", "(I)I"⟩ ∈ gw := gw_t (tb_8 (List.mem_of_getElem? (i := 150) rfl)) rfl
theorem gw_1897 : Cond.instanceMethod ⟨"HedgeCommitteeModel", "parent", "(I)I"⟩ ∈ gw := gw_t (tb_8 (List.mem_of_getElem? (i := 151) rfl)) rfl
theorem gw_1898 : Cond.selects "HedgeCommitteeModel" ⟨"HedgeCommitteeModel", "parent", "(I)I"⟩ ⟨"HedgeCommitteeModel", "parent", "(I)I"⟩ ∈ gw := gw_t (tb_8 (List.mem_of_getElem? (i := 152) rfl)) rfl
theorem gw_1899 : Cond.code ⟨"HedgeCommitteeModel", "parent", "(I)I"⟩ prog_12_method_49_code 3 (some .int) ∈ gw := gw_t (tb_8 (List.mem_of_getElem? (i := 153) rfl)) rfl
theorem gw_1900 : Cond.methodLink "HedgeCommitteeLaw" 210 ⟨"HedgeCommitteeModel", "depth", "(I)I"⟩ ∈ gw := gw_t (tb_8 (List.mem_of_getElem? (i := 154) rfl)) rfl
theorem gw_1901 : Cond.instanceMethod ⟨"HedgeCommitteeModel", "depth", "(I)I"⟩ ∈ gw := gw_t (tb_8 (List.mem_of_getElem? (i := 155) rfl)) rfl
theorem gw_1902 : Cond.selects "HedgeCommitteeModel" ⟨"HedgeCommitteeModel", "depth", "(I)I"⟩ ⟨"HedgeCommitteeModel", "depth", "(I)I"⟩ ∈ gw := gw_t (tb_8 (List.mem_of_getElem? (i := 156) rfl)) rfl
theorem gw_1903 : Cond.code ⟨"HedgeCommitteeModel", "depth", "(I)I"⟩ prog_12_method_50_code 2 (some .int) ∈ gw := gw_t (tb_8 (List.mem_of_getElem? (i := 157) rfl)) rfl
theorem gw_1904 : Cond.methodLink "HedgeCommitteeLaw" 213 ⟨"HedgeCommitteeModel", "isTip", "(I)Z"⟩ ∈ gw := gw_t (tb_8 (List.mem_of_getElem? (i := 158) rfl)) rfl
theorem gw_1905 : Cond.instanceMethod ⟨"HedgeCommitteeModel", "isTip", "(I)Z"⟩ ∈ gw := gw_t (tb_8 (List.mem_of_getElem? (i := 159) rfl)) rfl
theorem gw_1906 : Cond.selects "HedgeCommitteeModel" ⟨"HedgeCommitteeModel", "isTip", "(I)Z"⟩ ⟨"HedgeCommitteeModel", "isTip", "(I)Z"⟩ ∈ gw := gw_t (tb_8 (List.mem_of_getElem? (i := 160) rfl)) rfl
theorem gw_1907 : Cond.code ⟨"HedgeCommitteeModel", "isTip", "(I)Z"⟩ prog_12_method_51_code 2 (some .boolean) ∈ gw := gw_t (tb_8 (List.mem_of_getElem? (i := 161) rfl)) rfl
theorem gw_1908 : Cond.methodLink "HedgeCommitteeLaw" 216 ⟨"HedgeCommitteeModel", "branchSize", "(I)I"⟩ ∈ gw := gw_t (tb_8 (List.mem_of_getElem? (i := 162) rfl)) rfl
theorem gw_1909 : Cond.instanceMethod ⟨"HedgeCommitteeModel", "branchSize", "(I)I"⟩ ∈ gw := gw_t (tb_8 (List.mem_of_getElem? (i := 163) rfl)) rfl
theorem gw_1910 : Cond.selects "HedgeCommitteeModel" ⟨"HedgeCommitteeModel", "branchSize", "(I)I"⟩ ⟨"HedgeCommitteeModel", "branchSize", "(I)I"⟩ ∈ gw := gw_t (tb_8 (List.mem_of_getElem? (i := 164) rfl)) rfl
theorem gw_1911 : Cond.code ⟨"HedgeCommitteeModel", "branchSize", "(I)I"⟩ prog_12_method_52_code 5 (some .int) ∈ gw := gw_t (tb_8 (List.mem_of_getElem? (i := 165) rfl)) rfl
theorem gw_1912 : Cond.methodLink "HedgeCommitteeLaw" 219 ⟨"HedgeCommitteeModel", "lastTip", "(I)I"⟩ ∈ gw := gw_t (tb_8 (List.mem_of_getElem? (i := 166) rfl)) rfl
theorem gw_1913 : Cond.instanceMethod ⟨"HedgeCommitteeModel", "lastTip", "(I)I"⟩ ∈ gw := gw_t (tb_8 (List.mem_of_getElem? (i := 167) rfl)) rfl
theorem gw_1914 : Cond.selects "HedgeCommitteeModel" ⟨"HedgeCommitteeModel", "lastTip", "(I)I"⟩ ⟨"HedgeCommitteeModel", "lastTip", "(I)I"⟩ ∈ gw := gw_t (tb_8 (List.mem_of_getElem? (i := 168) rfl)) rfl
theorem gw_1915 : Cond.code ⟨"HedgeCommitteeModel", "lastTip", "(I)I"⟩ prog_12_method_53_code 3 (some .int) ∈ gw := gw_t (tb_8 (List.mem_of_getElem? (i := 169) rfl)) rfl
theorem gw_1916 : Cond.methodLink "HedgeCommitteeLaw" 222 ⟨"HedgeCommitteeModel", "motionAtRank", "(I)I"⟩ ∈ gw := gw_t (tb_8 (List.mem_of_getElem? (i := 170) rfl)) rfl
theorem gw_1917 : Cond.instanceMethod ⟨"HedgeCommitteeModel", "motionAtRank", "(I)I"⟩ ∈ gw := gw_t (tb_8 (List.mem_of_getElem? (i := 171) rfl)) rfl
theorem gw_1918 : Cond.selects "HedgeCommitteeModel" ⟨"HedgeCommitteeModel", "motionAtRank", "(I)I"⟩ ⟨"HedgeCommitteeModel", "motionAtRank", "(I)I"⟩ ∈ gw := gw_t (tb_8 (List.mem_of_getElem? (i := 172) rfl)) rfl
theorem gw_1919 : Cond.code ⟨"HedgeCommitteeModel", "motionAtRank", "(I)I"⟩ prog_12_method_55_code 5 (some .int) ∈ gw := gw_t (tb_8 (List.mem_of_getElem? (i := 173) rfl)) rfl
theorem gw_1920 : Cond.methodLink "HedgeCommitteeModel" 175 ⟨"HedgeCommitteeModel", "isMotionAhead", "(II)Z"⟩ ∈ gw := gw_t (tb_8 (List.mem_of_getElem? (i := 174) rfl)) rfl
theorem gw_1922 : Cond.instanceMethod ⟨"HedgeCommitteeModel", "isMotionAhead", "(II)Z"⟩ ∈ gw := gw_t (tb_8 (List.mem_of_getElem? (i := 176) rfl)) rfl
theorem gw_1923 : Cond.code ⟨"HedgeCommitteeModel", "isMotionAhead", "(II)Z"⟩ prog_12_method_54_code 4 (some .boolean) ∈ gw := gw_t (tb_8 (List.mem_of_getElem? (i := 177) rfl)) rfl
theorem gw_1924 : Cond.methodLink "HedgeCommitteeLaw" 225 ⟨"HedgeCommitteeModel", "commonMotion", "(II)I"⟩ ∈ gw := gw_t (tb_8 (List.mem_of_getElem? (i := 178) rfl)) rfl
theorem gw_1925 : Cond.instanceMethod ⟨"HedgeCommitteeModel", "commonMotion", "(II)I"⟩ ∈ gw := gw_t (tb_8 (List.mem_of_getElem? (i := 179) rfl)) rfl
theorem gw_1926 : Cond.selects "HedgeCommitteeModel" ⟨"HedgeCommitteeModel", "commonMotion", "(II)I"⟩ ⟨"HedgeCommitteeModel", "commonMotion", "(II)I"⟩ ∈ gw := gw_t (tb_8 (List.mem_of_getElem? (i := 180) rfl)) rfl
theorem gw_1927 : Cond.code ⟨"HedgeCommitteeModel", "commonMotion", "(II)I"⟩ prog_12_method_57_code 6 (some .int) ∈ gw := gw_t (tb_8 (List.mem_of_getElem? (i := 181) rfl)) rfl
theorem gw_1928 : Cond.methodLink "HedgeCommitteeModel" 178 ⟨"HedgeCommitteeModel", "common", "(II)I"⟩ ∈ gw := gw_t (tb_8 (List.mem_of_getElem? (i := 182) rfl)) rfl
theorem gw_1930 : Cond.instanceMethod ⟨"HedgeCommitteeModel", "common", "(II)I"⟩ ∈ gw := gw_t (tb_8 (List.mem_of_getElem? (i := 184) rfl)) rfl
theorem gw_1931 : Cond.code ⟨"HedgeCommitteeModel", "common", "(II)I"⟩ prog_12_method_56_code 5 (some .int) ∈ gw := gw_t (tb_8 (List.mem_of_getElem? (i := 185) rfl)) rfl
theorem gw_1932 : Cond.methodLink "HedgeCommitteeLaw" 228 ⟨"HedgeCommitteeModel", "commonMotionByRows", "(II)I"⟩ ∈ gw := gw_t (tb_8 (List.mem_of_getElem? (i := 186) rfl)) rfl
theorem gw_1933 : Cond.instanceMethod ⟨"HedgeCommitteeModel", "commonMotionByRows", "(II)I"⟩ ∈ gw := gw_t (tb_8 (List.mem_of_getElem? (i := 187) rfl)) rfl
theorem gw_1934 : Cond.selects "HedgeCommitteeModel" ⟨"HedgeCommitteeModel", "commonMotionByRows", "(II)I"⟩ ⟨"HedgeCommitteeModel", "commonMotionByRows", "(II)I"⟩ ∈ gw := gw_t (tb_8 (List.mem_of_getElem? (i := 188) rfl)) rfl
theorem gw_1935 : Cond.code ⟨"HedgeCommitteeModel", "commonMotionByRows", "(II)I"⟩ prog_12_method_58_code 3 (some .int) ∈ gw := gw_t (tb_8 (List.mem_of_getElem? (i := 189) rfl)) rfl
theorem gw_1936 : Cond.methodLink "HedgeCommitteeModel" 181 ⟨"HedgeCommitteeModel", "commonMotion", "(II)I"⟩ ∈ gw := gw_t (tb_8 (List.mem_of_getElem? (i := 190) rfl)) rfl
theorem gw_1937 : Cond.methodLink "HedgeCommitteeLaw" 231 ⟨"HedgeCommitteeModel", "pathSize", "(II)I"⟩ ∈ gw := gw_t (tb_8 (List.mem_of_getElem? (i := 191) rfl)) rfl
theorem gw_1938 : Cond.instanceMethod ⟨"HedgeCommitteeModel", "pathSize", "(II)I"⟩ ∈ gw := gw_t (tb_8 (List.mem_of_getElem? (i := 192) rfl)) rfl
theorem gw_1939 : Cond.selects "HedgeCommitteeModel" ⟨"HedgeCommitteeModel", "pathSize", "(II)I"⟩ ⟨"HedgeCommitteeModel", "pathSize", "(II)I"⟩ ∈ gw := gw_t (tb_8 (List.mem_of_getElem? (i := 193) rfl)) rfl
theorem gw_1940 : Cond.code ⟨"HedgeCommitteeModel", "pathSize", "(II)I"⟩ prog_12_method_60_code 3 (some .int) ∈ gw := gw_t (tb_8 (List.mem_of_getElem? (i := 194) rfl)) rfl
theorem gw_1941 : Cond.methodLink "HedgeCommitteeModel" 184 ⟨"HedgeCommitteeModel", "steps", "(II)I"⟩ ∈ gw := gw_t (tb_8 (List.mem_of_getElem? (i := 195) rfl)) rfl
theorem gw_1943 : Cond.instanceMethod ⟨"HedgeCommitteeModel", "steps", "(II)I"⟩ ∈ gw := gw_t (tb_8 (List.mem_of_getElem? (i := 197) rfl)) rfl
theorem gw_1944 : Cond.code ⟨"HedgeCommitteeModel", "steps", "(II)I"⟩ prog_12_method_59_code 3 (some .int) ∈ gw := gw_t (tb_8 (List.mem_of_getElem? (i := 198) rfl)) rfl
theorem gw_1945 : Cond.methodLink "HedgeCommitteeLaw" 234 ⟨"HedgeCommitteeModel", "longestPath", "(I)I"⟩ ∈ gw := gw_t (tb_8 (List.mem_of_getElem? (i := 199) rfl)) rfl
theorem gw_1946 : Cond.instanceMethod ⟨"HedgeCommitteeModel", "longestPath", "(I)I"⟩ ∈ gw := gw_t (tb_8 (List.mem_of_getElem? (i := 200) rfl)) rfl
theorem gw_1947 : Cond.selects "HedgeCommitteeModel" ⟨"HedgeCommitteeModel", "longestPath", "(I)I"⟩ ⟨"HedgeCommitteeModel", "longestPath", "(I)I"⟩ ∈ gw := gw_t (tb_8 (List.mem_of_getElem? (i := 201) rfl)) rfl
theorem gw_1948 : Cond.code ⟨"HedgeCommitteeModel", "longestPath", "(I)I"⟩ prog_12_method_61_code 6 (some .int) ∈ gw := gw_t (tb_8 (List.mem_of_getElem? (i := 202) rfl)) rfl
theorem gw_1949 : Cond.methodLink "HedgeCommitteeLaw" 237 ⟨"HedgeCommitteeModel", "longestPathBySweeps", "(I)I"⟩ ∈ gw := gw_t (tb_8 (List.mem_of_getElem? (i := 203) rfl)) rfl
theorem gw_1950 : Cond.instanceMethod ⟨"HedgeCommitteeModel", "longestPathBySweeps", "(I)I"⟩ ∈ gw := gw_t (tb_8 (List.mem_of_getElem? (i := 204) rfl)) rfl
theorem gw_1951 : Cond.selects "HedgeCommitteeModel" ⟨"HedgeCommitteeModel", "longestPathBySweeps", "(I)I"⟩ ⟨"HedgeCommitteeModel", "longestPathBySweeps", "(I)I"⟩ ∈ gw := gw_t (tb_8 (List.mem_of_getElem? (i := 205) rfl)) rfl
theorem gw_1952 : Cond.code ⟨"HedgeCommitteeModel", "longestPathBySweeps", "(I)I"⟩ prog_12_method_62_code 2 (some .int) ∈ gw := gw_t (tb_8 (List.mem_of_getElem? (i := 206) rfl)) rfl
theorem gw_1953 : Cond.methodLink "HedgeCommitteeModel" 187 ⟨"HedgeCommitteeModel", "longestPath", "(I)I"⟩ ∈ gw := gw_t (tb_8 (List.mem_of_getElem? (i := 207) rfl)) rfl
theorem gw_1954 : Cond.methodLink "HedgeCommitteeLaw" 241 ⟨"HedgeCommitteeModel", "bestWorth", "()I"⟩ ∈ gw := gw_t (tb_8 (List.mem_of_getElem? (i := 208) rfl)) rfl
theorem gw_1955 : Cond.instanceMethod ⟨"HedgeCommitteeModel", "bestWorth", "()I"⟩ ∈ gw := gw_t (tb_8 (List.mem_of_getElem? (i := 209) rfl)) rfl
theorem gw_1956 : Cond.selects "HedgeCommitteeModel" ⟨"HedgeCommitteeModel", "bestWorth", "()I"⟩ ⟨"HedgeCommitteeModel", "bestWorth", "()I"⟩ ∈ gw := gw_t (tb_8 (List.mem_of_getElem? (i := 210) rfl)) rfl
theorem gw_1957 : Cond.code ⟨"HedgeCommitteeModel", "bestWorth", "()I"⟩ prog_12_method_64_code 1 (some .int) ∈ gw := gw_t (tb_8 (List.mem_of_getElem? (i := 211) rfl)) rfl
theorem gw_1958 : Cond.methodLink "HedgeCommitteeModel" 196 ⟨"HedgeCommitteeModel", "measures", "()V"⟩ ∈ gw := gw_t (tb_8 (List.mem_of_getElem? (i := 212) rfl)) rfl
theorem gw_1960 : Cond.instanceMethod ⟨"HedgeCommitteeModel", "measures", "()V"⟩ ∈ gw := gw_t (tb_8 (List.mem_of_getElem? (i := 214) rfl)) rfl
theorem gw_1961 : Cond.code ⟨"HedgeCommitteeModel", "measures", "()V"⟩ prog_12_method_63_code 5 none ∈ gw := gw_t (tb_8 (List.mem_of_getElem? (i := 215) rfl)) rfl
theorem gw_1962 : Cond.methodLink "HedgeCommitteeLaw" 245 ⟨"HedgeCommitteeModel", "bestWorthBySets", "()I"⟩ ∈ gw := gw_t (tb_8 (List.mem_of_getElem? (i := 216) rfl)) rfl
theorem gw_1963 : Cond.instanceMethod ⟨"HedgeCommitteeModel", "bestWorthBySets", "()I"⟩ ∈ gw := gw_t (tb_8 (List.mem_of_getElem? (i := 217) rfl)) rfl
theorem gw_1964 : Cond.selects "HedgeCommitteeModel" ⟨"HedgeCommitteeModel", "bestWorthBySets", "()I"⟩ ⟨"HedgeCommitteeModel", "bestWorthBySets", "()I"⟩ ∈ gw := gw_t (tb_8 (List.mem_of_getElem? (i := 218) rfl)) rfl
theorem gw_1965 : Cond.code ⟨"HedgeCommitteeModel", "bestWorthBySets", "()I"⟩ prog_12_method_65_code 1 (some .int) ∈ gw := gw_t (tb_8 (List.mem_of_getElem? (i := 219) rfl)) rfl
theorem gw_1966 : Cond.methodLink "HedgeCommitteeModel" 199 ⟨"HedgeCommitteeModel", "bestWorth", "()I"⟩ ∈ gw := gw_t (tb_8 (List.mem_of_getElem? (i := 220) rfl)) rfl
theorem gw_1967 : Cond.methodLink "HedgeCommitteeLaw" 249 ⟨"HedgeCommitteeModel", "goodSets", "()I"⟩ ∈ gw := gw_t (tb_8 (List.mem_of_getElem? (i := 221) rfl)) rfl
theorem gw_1968 : Cond.instanceMethod ⟨"HedgeCommitteeModel", "goodSets", "()I"⟩ ∈ gw := gw_t (tb_8 (List.mem_of_getElem? (i := 222) rfl)) rfl
theorem gw_1969 : Cond.selects "HedgeCommitteeModel" ⟨"HedgeCommitteeModel", "goodSets", "()I"⟩ ⟨"HedgeCommitteeModel", "goodSets", "()I"⟩ ∈ gw := gw_t (tb_8 (List.mem_of_getElem? (i := 223) rfl)) rfl
theorem gw_1970 : Cond.code ⟨"HedgeCommitteeModel", "goodSets", "()I"⟩ prog_12_method_66_code 1 (some .int) ∈ gw := gw_t (tb_8 (List.mem_of_getElem? (i := 224) rfl)) rfl
theorem gw_1971 : Cond.methodLink "HedgeCommitteeLaw" 253 ⟨"HedgeCommitteeModel", "season", "()I"⟩ ∈ gw := gw_t (tb_8 (List.mem_of_getElem? (i := 225) rfl)) rfl
theorem gw_1972 : Cond.instanceMethod ⟨"HedgeCommitteeModel", "season", "()I"⟩ ∈ gw := gw_t (tb_8 (List.mem_of_getElem? (i := 226) rfl)) rfl
theorem gw_1973 : Cond.selects "HedgeCommitteeModel" ⟨"HedgeCommitteeModel", "season", "()I"⟩ ⟨"HedgeCommitteeModel", "season", "()I"⟩ ∈ gw := gw_t (tb_8 (List.mem_of_getElem? (i := 227) rfl)) rfl
theorem gw_1974 : Cond.code ⟨"HedgeCommitteeModel", "season", "()I"⟩ prog_12_method_67_code 1 (some .int) ∈ gw := gw_t (tb_8 (List.mem_of_getElem? (i := 228) rfl)) rfl
theorem gw_1975 : Cond.methodLink "HedgeCommitteeLaw" 256 ⟨"HedgeCommitteeModel", "minutesIn", "(I)I"⟩ ∈ gw := gw_t (tb_8 (List.mem_of_getElem? (i := 229) rfl)) rfl
theorem gw_1976 : Cond.instanceMethod ⟨"HedgeCommitteeModel", "minutesIn", "(I)I"⟩ ∈ gw := gw_t (tb_8 (List.mem_of_getElem? (i := 230) rfl)) rfl
theorem gw_1977 : Cond.selects "HedgeCommitteeModel" ⟨"HedgeCommitteeModel", "minutesIn", "(I)I"⟩ ⟨"HedgeCommitteeModel", "minutesIn", "(I)I"⟩ ∈ gw := gw_t (tb_8 (List.mem_of_getElem? (i := 231) rfl)) rfl
theorem gw_1978 : Cond.code ⟨"HedgeCommitteeModel", "minutesIn", "(I)I"⟩ prog_12_method_68_code 2 (some .int) ∈ gw := gw_t (tb_8 (List.mem_of_getElem? (i := 232) rfl)) rfl
theorem gw_1979 : Cond.constantLong "HedgeCommitteeModel" 202 (3 : Int64) ∈ gw := gw_t (tb_8 (List.mem_of_getElem? (i := 233) rfl)) (by decide +kernel)
theorem gw_1980 : Cond.methodLink "HedgeCommitteeLaw" 260 ⟨"HedgeCommitteeModel", "adoptedWeight", "()I"⟩ ∈ gw := gw_t (tb_8 (List.mem_of_getElem? (i := 234) rfl)) rfl
theorem gw_1981 : Cond.instanceMethod ⟨"HedgeCommitteeModel", "adoptedWeight", "()I"⟩ ∈ gw := gw_t (tb_8 (List.mem_of_getElem? (i := 235) rfl)) rfl
theorem gw_1982 : Cond.selects "HedgeCommitteeModel" ⟨"HedgeCommitteeModel", "adoptedWeight", "()I"⟩ ⟨"HedgeCommitteeModel", "adoptedWeight", "()I"⟩ ∈ gw := gw_t (tb_8 (List.mem_of_getElem? (i := 236) rfl)) rfl
theorem gw_1983 : Cond.code ⟨"HedgeCommitteeModel", "adoptedWeight", "()I"⟩ prog_12_method_69_code 1 (some .int) ∈ gw := gw_t (tb_8 (List.mem_of_getElem? (i := 237) rfl)) rfl
theorem gw_1984 : Cond.methodLink "HedgeCommitteeLaw" 264 ⟨"HedgeCommitteeModel", "weightTotal", "()I"⟩ ∈ gw := gw_t (tb_8 (List.mem_of_getElem? (i := 238) rfl)) rfl
theorem gw_1985 : Cond.instanceMethod ⟨"HedgeCommitteeModel", "weightTotal", "()I"⟩ ∈ gw := gw_t (tb_8 (List.mem_of_getElem? (i := 239) rfl)) rfl
theorem gw_1986 : Cond.selects "HedgeCommitteeModel" ⟨"HedgeCommitteeModel", "weightTotal", "()I"⟩ ⟨"HedgeCommitteeModel", "weightTotal", "()I"⟩ ∈ gw := gw_t (tb_9 (List.mem_of_getElem? (i := 0) rfl)) rfl
theorem gw_1987 : Cond.code ⟨"HedgeCommitteeModel", "weightTotal", "()I"⟩ prog_12_method_70_code 3 (some .int) ∈ gw := gw_t (tb_9 (List.mem_of_getElem? (i := 1) rfl)) rfl
theorem gw_1988 : Cond.methodLink "HedgeCommitteeLaw" 268 ⟨"HedgeCommitteeModel", "weightByAccounts", "()I"⟩ ∈ gw := gw_t (tb_9 (List.mem_of_getElem? (i := 2) rfl)) rfl
theorem gw_1989 : Cond.instanceMethod ⟨"HedgeCommitteeModel", "weightByAccounts", "()I"⟩ ∈ gw := gw_t (tb_9 (List.mem_of_getElem? (i := 3) rfl)) rfl
theorem gw_1990 : Cond.selects "HedgeCommitteeModel" ⟨"HedgeCommitteeModel", "weightByAccounts", "()I"⟩ ⟨"HedgeCommitteeModel", "weightByAccounts", "()I"⟩ ∈ gw := gw_t (tb_9 (List.mem_of_getElem? (i := 4) rfl)) rfl
theorem gw_1991 : Cond.code ⟨"HedgeCommitteeModel", "weightByAccounts", "()I"⟩ prog_12_method_71_code 1 (some .int) ∈ gw := gw_t (tb_9 (List.mem_of_getElem? (i := 5) rfl)) rfl
theorem gw_1992 : Cond.methodLink "HedgeCommitteeModel" 204 ⟨"HedgeCommitteeModel", "weightTotal", "()I"⟩ ∈ gw := gw_t (tb_9 (List.mem_of_getElem? (i := 6) rfl)) rfl
theorem gw_1993 : Cond.methodLink "HedgeCommitteeLaw" 272 ⟨"HedgeCommitteeModel", "meanLeaves", "()D"⟩ ∈ gw := gw_t (tb_9 (List.mem_of_getElem? (i := 7) rfl)) rfl
theorem gw_1994 : Cond.instanceMethod ⟨"HedgeCommitteeModel", "meanLeaves", "()D"⟩ ∈ gw := gw_t (tb_9 (List.mem_of_getElem? (i := 8) rfl)) rfl
theorem gw_1995 : Cond.selects "HedgeCommitteeModel" ⟨"HedgeCommitteeModel", "meanLeaves", "()D"⟩ ⟨"HedgeCommitteeModel", "meanLeaves", "()D"⟩ ∈ gw := gw_t (tb_9 (List.mem_of_getElem? (i := 9) rfl)) rfl
theorem gw_1996 : Cond.code ⟨"HedgeCommitteeModel", "meanLeaves", "()D"⟩ prog_12_method_72_code 1 (some .double) ∈ gw := gw_t (tb_9 (List.mem_of_getElem? (i := 10) rfl)) rfl
theorem gw_1997 : Cond.methodLink "HedgeCommitteeLaw" 275 ⟨"HedgeCommitteeModel", "carriedShare", "()F"⟩ ∈ gw := gw_t (tb_9 (List.mem_of_getElem? (i := 11) rfl)) rfl
theorem gw_1998 : Cond.instanceMethod ⟨"HedgeCommitteeModel", "carriedShare", "()F"⟩ ∈ gw := gw_t (tb_9 (List.mem_of_getElem? (i := 12) rfl)) rfl
theorem gw_1999 : Cond.selects "HedgeCommitteeModel" ⟨"HedgeCommitteeModel", "carriedShare", "()F"⟩ ⟨"HedgeCommitteeModel", "carriedShare", "()F"⟩ ∈ gw := gw_t (tb_9 (List.mem_of_getElem? (i := 13) rfl)) rfl
theorem gw_2000 : Cond.code ⟨"HedgeCommitteeModel", "carriedShare", "()F"⟩ prog_12_method_73_code 1 (some .float) ∈ gw := gw_t (tb_9 (List.mem_of_getElem? (i := 14) rfl)) rfl
theorem gw_2001 : Cond.methodLink "HedgeCommitteeLaw" 280 ⟨"HedgeCommitteeModel", "isConsistent", "()Z"⟩ ∈ gw := gw_t (tb_9 (List.mem_of_getElem? (i := 15) rfl)) rfl
theorem gw_2002 : Cond.instanceMethod ⟨"HedgeCommitteeModel", "isConsistent", "()Z"⟩ ∈ gw := gw_t (tb_9 (List.mem_of_getElem? (i := 16) rfl)) rfl
theorem gw_2003 : Cond.selects "HedgeCommitteeModel" ⟨"HedgeCommitteeModel", "isConsistent", "()Z"⟩ ⟨"HedgeCommitteeModel", "isConsistent", "()Z"⟩ ∈ gw := gw_t (tb_9 (List.mem_of_getElem? (i := 17) rfl)) rfl
theorem gw_2004 : Cond.code ⟨"HedgeCommitteeModel", "isConsistent", "()Z"⟩ prog_12_method_74_code 1 (some .boolean) ∈ gw := gw_t (tb_9 (List.mem_of_getElem? (i := 18) rfl)) rfl
theorem gw_2005 : Cond.methodLink "HedgeCommitteeLaw" 284 ⟨"HedgeCommitteeModel", "append", "(C)I"⟩ ∈ gw := gw_t (tb_9 (List.mem_of_getElem? (i := 19) rfl)) rfl
theorem gw_2006 : Cond.instanceMethod ⟨"HedgeCommitteeModel", "append", "(C)I"⟩ ∈ gw := gw_t (tb_9 (List.mem_of_getElem? (i := 20) rfl)) rfl
theorem gw_2007 : Cond.selects "HedgeCommitteeModel" ⟨"HedgeCommitteeModel", "append", "(C)I"⟩ ⟨"HedgeCommitteeModel", "append", "(C)I"⟩ ∈ gw := gw_t (tb_9 (List.mem_of_getElem? (i := 21) rfl)) rfl
theorem gw_2008 : Cond.code ⟨"HedgeCommitteeModel", "append", "(C)I"⟩ prog_12_method_75_code 2 (some .int) ∈ gw := gw_t (tb_9 (List.mem_of_getElem? (i := 22) rfl)) rfl
theorem gw_2009 : Cond.methodLink "HedgeCommitteeLaw" 288 ⟨"HedgeCommitteeModel", "run", "()I"⟩ ∈ gw := gw_t (tb_9 (List.mem_of_getElem? (i := 23) rfl)) rfl
theorem gw_2010 : Cond.instanceMethod ⟨"HedgeCommitteeModel", "run", "()I"⟩ ∈ gw := gw_t (tb_9 (List.mem_of_getElem? (i := 24) rfl)) rfl
theorem gw_2011 : Cond.selects "HedgeCommitteeModel" ⟨"HedgeCommitteeModel", "run", "()I"⟩ ⟨"HedgeCommitteeModel", "run", "()I"⟩ ∈ gw := gw_t (tb_9 (List.mem_of_getElem? (i := 25) rfl)) rfl
theorem gw_2012 : Cond.code ⟨"HedgeCommitteeModel", "run", "()I"⟩ prog_12_method_86_code 4 (some .int) ∈ gw := gw_t (tb_9 (List.mem_of_getElem? (i := 26) rfl)) rfl
theorem gw_2013 : Cond.methodLink "HedgeCommitteeModel" 252 ⟨"HedgeCommitteeModel", "readCommand", "()V"⟩ ∈ gw := gw_t (tb_9 (List.mem_of_getElem? (i := 27) rfl)) rfl
theorem gw_2015 : Cond.instanceMethod ⟨"HedgeCommitteeModel", "readCommand", "()V"⟩ ∈ gw := gw_t (tb_9 (List.mem_of_getElem? (i := 29) rfl)) rfl
theorem gw_2016 : Cond.code ⟨"HedgeCommitteeModel", "readCommand", "()V"⟩ prog_12_method_84_code 4 none ∈ gw := gw_t (tb_9 (List.mem_of_getElem? (i := 30) rfl)) rfl
theorem gw_2017 : Cond.methodLink "HedgeCommitteeModel" 245 ⟨"HedgeCommitteeModel", "likeness", "(I)I"⟩ ∈ gw := gw_t (tb_9 (List.mem_of_getElem? (i := 31) rfl)) rfl
theorem gw_2019 : Cond.instanceMethod ⟨"HedgeCommitteeModel", "likeness", "(I)I"⟩ ∈ gw := gw_t (tb_9 (List.mem_of_getElem? (i := 33) rfl)) rfl
theorem gw_2020 : Cond.code ⟨"HedgeCommitteeModel", "likeness", "(I)I"⟩ prog_12_method_82_code 4 (some .int) ∈ gw := gw_t (tb_9 (List.mem_of_getElem? (i := 34) rfl)) rfl
theorem gw_2021 : Cond.methodLink "HedgeCommitteeModel" 248 ⟨"HedgeCommitteeModel", "readArguments", "(II)V"⟩ ∈ gw := gw_t (tb_9 (List.mem_of_getElem? (i := 35) rfl)) rfl
theorem gw_2023 : Cond.instanceMethod ⟨"HedgeCommitteeModel", "readArguments", "(II)V"⟩ ∈ gw := gw_t (tb_9 (List.mem_of_getElem? (i := 37) rfl)) rfl
theorem gw_2024 : Cond.code ⟨"HedgeCommitteeModel", "readArguments", "(II)V"⟩ prog_12_method_83_code 3 none ∈ gw := gw_t (tb_9 (List.mem_of_getElem? (i := 38) rfl)) rfl
theorem gw_2025 : Cond.methodLink "HedgeCommitteeModel" 227 ⟨"HedgeCommitteeModel", "digit", "()I"⟩ ∈ gw := gw_t (tb_9 (List.mem_of_getElem? (i := 39) rfl)) rfl
theorem gw_2027 : Cond.instanceMethod ⟨"HedgeCommitteeModel", "digit", "()I"⟩ ∈ gw := gw_t (tb_9 (List.mem_of_getElem? (i := 41) rfl)) rfl
theorem gw_2028 : Cond.code ⟨"HedgeCommitteeModel", "digit", "()I"⟩ prog_12_method_78_code 2 (some .int) ∈ gw := gw_t (tb_9 (List.mem_of_getElem? (i := 42) rfl)) rfl
theorem gw_2029 : Cond.methodLink "HedgeCommitteeModel" 220 ⟨"HedgeCommitteeModel", "here", "()I"⟩ ∈ gw := gw_t (tb_9 (List.mem_of_getElem? (i := 43) rfl)) rfl
theorem gw_2031 : Cond.instanceMethod ⟨"HedgeCommitteeModel", "here", "()I"⟩ ∈ gw := gw_t (tb_9 (List.mem_of_getElem? (i := 45) rfl)) rfl
theorem gw_2032 : Cond.code ⟨"HedgeCommitteeModel", "here", "()I"⟩ prog_12_method_76_code 1 (some .int) ∈ gw := gw_t (tb_9 (List.mem_of_getElem? (i := 46) rfl)) rfl
theorem gw_2033 : Cond.constantLong "HedgeCommitteeModel" 223 (48 : Int64) ∈ gw := gw_t (tb_9 (List.mem_of_getElem? (i := 47) rfl)) (by decide +kernel)
theorem gw_2034 : Cond.constantLong "HedgeCommitteeModel" 225 (57 : Int64) ∈ gw := gw_t (tb_9 (List.mem_of_getElem? (i := 48) rfl)) (by decide +kernel)
theorem gw_2035 : Cond.methodLink "HedgeCommitteeModel" 233 ⟨"HedgeCommitteeModel", "number", "()I"⟩ ∈ gw := gw_t (tb_9 (List.mem_of_getElem? (i := 49) rfl)) rfl
theorem gw_2037 : Cond.instanceMethod ⟨"HedgeCommitteeModel", "number", "()I"⟩ ∈ gw := gw_t (tb_9 (List.mem_of_getElem? (i := 51) rfl)) rfl
theorem gw_2038 : Cond.code ⟨"HedgeCommitteeModel", "number", "()I"⟩ prog_12_method_79_code 2 (some .int) ∈ gw := gw_t (tb_9 (List.mem_of_getElem? (i := 52) rfl)) rfl
theorem gw_2039 : Cond.methodLink "HedgeCommitteeModel" 236 ⟨"HedgeCommitteeModel", "digitBehind", "()I"⟩ ∈ gw := gw_t (tb_9 (List.mem_of_getElem? (i := 53) rfl)) rfl
theorem gw_2041 : Cond.instanceMethod ⟨"HedgeCommitteeModel", "digitBehind", "()I"⟩ ∈ gw := gw_t (tb_9 (List.mem_of_getElem? (i := 55) rfl)) rfl
theorem gw_2042 : Cond.code ⟨"HedgeCommitteeModel", "digitBehind", "()I"⟩ prog_12_method_80_code 1 (some .int) ∈ gw := gw_t (tb_9 (List.mem_of_getElem? (i := 56) rfl)) rfl
theorem gw_2043 : Cond.methodLink "HedgeCommitteeModel" 230 ⟨"HedgeCommitteeModel", "expects", "(I)V"⟩ ∈ gw := gw_t (tb_9 (List.mem_of_getElem? (i := 57) rfl)) rfl
theorem gw_2045 : Cond.instanceMethod ⟨"HedgeCommitteeModel", "expects", "(I)V"⟩ ∈ gw := gw_t (tb_9 (List.mem_of_getElem? (i := 59) rfl)) rfl
theorem gw_2046 : Cond.code ⟨"HedgeCommitteeModel", "expects", "(I)V"⟩ prog_12_method_77_code 2 none ∈ gw := gw_t (tb_9 (List.mem_of_getElem? (i := 60) rfl)) rfl
theorem gw_2047 : Cond.methodLink "HedgeCommitteeModel" 239 ⟨"HedgeCommitteeModel", "numberBehind", "()I"⟩ ∈ gw := gw_t (tb_9 (List.mem_of_getElem? (i := 61) rfl)) rfl
theorem gw_2049 : Cond.instanceMethod ⟨"HedgeCommitteeModel", "numberBehind", "()I"⟩ ∈ gw := gw_t (tb_9 (List.mem_of_getElem? (i := 63) rfl)) rfl
theorem gw_2050 : Cond.code ⟨"HedgeCommitteeModel", "numberBehind", "()I"⟩ prog_12_method_81_code 1 (some .int) ∈ gw := gw_t (tb_9 (List.mem_of_getElem? (i := 64) rfl)) rfl
theorem gw_2051 : Cond.methodLink "HedgeCommitteeModel" 255 ⟨"HedgeCommitteeModel", "does", "(I)V"⟩ ∈ gw := gw_t (tb_9 (List.mem_of_getElem? (i := 65) rfl)) rfl
theorem gw_2053 : Cond.instanceMethod ⟨"HedgeCommitteeModel", "does", "(I)V"⟩ ∈ gw := gw_t (tb_9 (List.mem_of_getElem? (i := 67) rfl)) rfl
theorem gw_2054 : Cond.code ⟨"HedgeCommitteeModel", "does", "(I)V"⟩ prog_12_method_85_code 5 none ∈ gw := gw_t (tb_9 (List.mem_of_getElem? (i := 68) rfl)) rfl
theorem gw_2055 : Cond.methodLink "HedgeCommitteeLaw" 291 ⟨"HedgeCommitteeModel", "errorPosition", "()I"⟩ ∈ gw := gw_t (tb_9 (List.mem_of_getElem? (i := 69) rfl)) rfl
theorem gw_2056 : Cond.instanceMethod ⟨"HedgeCommitteeModel", "errorPosition", "()I"⟩ ∈ gw := gw_t (tb_9 (List.mem_of_getElem? (i := 70) rfl)) rfl
theorem gw_2057 : Cond.selects "HedgeCommitteeModel" ⟨"HedgeCommitteeModel", "errorPosition", "()I"⟩ ⟨"HedgeCommitteeModel", "errorPosition", "()I"⟩ ∈ gw := gw_t (tb_9 (List.mem_of_getElem? (i := 71) rfl)) rfl
theorem gw_2058 : Cond.code ⟨"HedgeCommitteeModel", "errorPosition", "()I"⟩ prog_12_method_87_code 1 (some .int) ∈ gw := gw_t (tb_9 (List.mem_of_getElem? (i := 72) rfl)) rfl
theorem gw_2059 : Cond.methodLink "HedgeCommitteeLaw" 294 ⟨"HedgeCommitteeModel", "failedCommand", "()I"⟩ ∈ gw := gw_t (tb_9 (List.mem_of_getElem? (i := 73) rfl)) rfl
theorem gw_2060 : Cond.instanceMethod ⟨"HedgeCommitteeModel", "failedCommand", "()I"⟩ ∈ gw := gw_t (tb_9 (List.mem_of_getElem? (i := 74) rfl)) rfl
theorem gw_2061 : Cond.selects "HedgeCommitteeModel" ⟨"HedgeCommitteeModel", "failedCommand", "()I"⟩ ⟨"HedgeCommitteeModel", "failedCommand", "()I"⟩ ∈ gw := gw_t (tb_9 (List.mem_of_getElem? (i := 75) rfl)) rfl
theorem gw_2062 : Cond.code ⟨"HedgeCommitteeModel", "failedCommand", "()I"⟩ prog_12_method_88_code 1 (some .int) ∈ gw := gw_t (tb_9 (List.mem_of_getElem? (i := 76) rfl)) rfl
theorem gw_2063 : Cond.methodLink "HedgeCommitteeLaw" 297 ⟨"HedgeCommitteeModel", "writeBranch", "(I)I"⟩ ∈ gw := gw_t (tb_9 (List.mem_of_getElem? (i := 77) rfl)) rfl
theorem gw_2064 : Cond.instanceMethod ⟨"HedgeCommitteeModel", "writeBranch", "(I)I"⟩ ∈ gw := gw_t (tb_9 (List.mem_of_getElem? (i := 78) rfl)) rfl
theorem gw_2065 : Cond.selects "HedgeCommitteeModel" ⟨"HedgeCommitteeModel", "writeBranch", "(I)I"⟩ ⟨"HedgeCommitteeModel", "writeBranch", "(I)I"⟩ ∈ gw := gw_t (tb_9 (List.mem_of_getElem? (i := 79) rfl)) rfl
theorem gw_2066 : Cond.code ⟨"HedgeCommitteeModel", "writeBranch", "(I)I"⟩ prog_12_method_92_code 5 (some .int) ∈ gw := gw_t (tb_9 (List.mem_of_getElem? (i := 80) rfl)) rfl
theorem gw_2067 : Cond.methodLink "HedgeCommitteeModel" 264 ⟨"HedgeCommitteeModel", "writesWhole", "(I)V"⟩ ∈ gw := gw_t (tb_9 (List.mem_of_getElem? (i := 81) rfl)) rfl
theorem gw_2069 : Cond.instanceMethod ⟨"HedgeCommitteeModel", "writesWhole", "(I)V"⟩ ∈ gw := gw_t (tb_9 (List.mem_of_getElem? (i := 83) rfl)) rfl
theorem gw_2070 : Cond.code ⟨"HedgeCommitteeModel", "writesWhole", "(I)V"⟩ prog_12_method_90_code 3 none ∈ gw := gw_t (tb_9 (List.mem_of_getElem? (i := 84) rfl)) rfl
theorem gw_2071 : Cond.methodLink "HedgeCommitteeModel" 261 ⟨"HedgeCommitteeModel", "sign", "(I)V"⟩ ∈ gw := gw_t (tb_9 (List.mem_of_getElem? (i := 85) rfl)) rfl
theorem gw_2073 : Cond.instanceMethod ⟨"HedgeCommitteeModel", "sign", "(I)V"⟩ ∈ gw := gw_t (tb_9 (List.mem_of_getElem? (i := 87) rfl)) rfl
theorem gw_2074 : Cond.code ⟨"HedgeCommitteeModel", "sign", "(I)V"⟩ prog_12_method_89_code 2 none ∈ gw := gw_t (tb_9 (List.mem_of_getElem? (i := 88) rfl)) rfl
theorem gw_2075 : Cond.methodLink "HedgeCommitteeModel" 267 ⟨"HedgeCommitteeModel", "childFrom", "(II)I"⟩ ∈ gw := gw_t (tb_9 (List.mem_of_getElem? (i := 89) rfl)) rfl
theorem gw_2077 : Cond.instanceMethod ⟨"HedgeCommitteeModel", "childFrom", "(II)I"⟩ ∈ gw := gw_t (tb_9 (List.mem_of_getElem? (i := 91) rfl)) rfl
theorem gw_2078 : Cond.code ⟨"HedgeCommitteeModel", "childFrom", "(II)I"⟩ prog_12_method_91_code 5 (some .int) ∈ gw := gw_t (tb_9 (List.mem_of_getElem? (i := 92) rfl)) rfl
theorem gw_2079 : Cond.methodLink "HedgeCommitteeModel" 270 ⟨"HedgeCommitteeModel", "next", "(II)I"⟩ ∈ gw := gw_t (tb_9 (List.mem_of_getElem? (i := 93) rfl)) rfl
theorem gw_2081 : Cond.instanceMethod ⟨"HedgeCommitteeModel", "next", "(II)I"⟩ ∈ gw := gw_t (tb_9 (List.mem_of_getElem? (i := 95) rfl)) rfl
theorem gw_2082 : Cond.code ⟨"HedgeCommitteeModel", "next", "(II)I"⟩ prog_12_method_93_code 5 (some .int) ∈ gw := gw_t (tb_9 (List.mem_of_getElem? (i := 96) rfl)) rfl
theorem gw_2083 : Cond.methodLink "HedgeCommitteeLaw" 300 ⟨"HedgeCommitteeModel", "outputAt", "(I)C"⟩ ∈ gw := gw_t (tb_9 (List.mem_of_getElem? (i := 97) rfl)) rfl
theorem gw_2084 : Cond.instanceMethod ⟨"HedgeCommitteeModel", "outputAt", "(I)C"⟩ ∈ gw := gw_t (tb_9 (List.mem_of_getElem? (i := 98) rfl)) rfl
theorem gw_2085 : Cond.selects "HedgeCommitteeModel" ⟨"HedgeCommitteeModel", "outputAt", "(I)C"⟩ ⟨"HedgeCommitteeModel", "outputAt", "(I)C"⟩ ∈ gw := gw_t (tb_9 (List.mem_of_getElem? (i := 99) rfl)) rfl
theorem gw_2086 : Cond.code ⟨"HedgeCommitteeModel", "outputAt", "(I)C"⟩ prog_12_method_94_code 2 (some .char) ∈ gw := gw_t (tb_9 (List.mem_of_getElem? (i := 100) rfl)) rfl
theorem gw_2087 : Cond.methodLink "HedgeCommitteeLaw" 303 ⟨"HedgeCommitteeModel", "undo", "()I"⟩ ∈ gw := gw_t (tb_9 (List.mem_of_getElem? (i := 101) rfl)) rfl
theorem gw_2088 : Cond.instanceMethod ⟨"HedgeCommitteeModel", "undo", "()I"⟩ ∈ gw := gw_t (tb_9 (List.mem_of_getElem? (i := 102) rfl)) rfl
theorem gw_2089 : Cond.selects "HedgeCommitteeModel" ⟨"HedgeCommitteeModel", "undo", "()I"⟩ ⟨"HedgeCommitteeModel", "undo", "()I"⟩ ∈ gw := gw_t (tb_9 (List.mem_of_getElem? (i := 103) rfl)) rfl
theorem gw_2090 : Cond.code ⟨"HedgeCommitteeModel", "undo", "()I"⟩ prog_12_method_95_code 2 (some .int) ∈ gw := gw_t (tb_9 (List.mem_of_getElem? (i := 104) rfl)) rfl
theorem gw_2091 : Cond.methodLink "HedgeCommitteeLaw" 307 ⟨"HedgeCommitteeModel", "save", "()V"⟩ ∈ gw := gw_t (tb_9 (List.mem_of_getElem? (i := 105) rfl)) rfl
theorem gw_2092 : Cond.instanceMethod ⟨"HedgeCommitteeModel", "save", "()V"⟩ ∈ gw := gw_t (tb_9 (List.mem_of_getElem? (i := 106) rfl)) rfl
theorem gw_2093 : Cond.selects "HedgeCommitteeModel" ⟨"HedgeCommitteeModel", "save", "()V"⟩ ⟨"HedgeCommitteeModel", "save", "()V"⟩ ∈ gw := gw_t (tb_9 (List.mem_of_getElem? (i := 107) rfl)) rfl
theorem gw_2094 : Cond.code ⟨"HedgeCommitteeModel", "save", "()V"⟩ prog_12_method_96_code 2 none ∈ gw := gw_t (tb_9 (List.mem_of_getElem? (i := 108) rfl)) rfl
theorem gw_2095 : Cond.methodLink "HedgeCommitteeLaw" 311 ⟨"HedgeCommitteeModel", "restore", "()V"⟩ ∈ gw := gw_t (tb_9 (List.mem_of_getElem? (i := 109) rfl)) rfl
theorem gw_2096 : Cond.instanceMethod ⟨"HedgeCommitteeModel", "restore", "()V"⟩ ∈ gw := gw_t (tb_9 (List.mem_of_getElem? (i := 110) rfl)) rfl
theorem gw_2097 : Cond.selects "HedgeCommitteeModel" ⟨"HedgeCommitteeModel", "restore", "()V"⟩ ⟨"HedgeCommitteeModel", "restore", "()V"⟩ ∈ gw := gw_t (tb_9 (List.mem_of_getElem? (i := 111) rfl)) rfl
theorem gw_2098 : Cond.code ⟨"HedgeCommitteeModel", "restore", "()V"⟩ prog_12_method_97_code 2 none ∈ gw := gw_t (tb_9 (List.mem_of_getElem? (i := 112) rfl)) rfl
theorem gw_2099 : Cond.arrayClass .double ∈ gw := gw_t (tb_9 (List.mem_of_getElem? (i := 113) rfl)) (by decide +kernel)
theorem gw_2100 : Cond.sameMethod "java/lang/Throwable" "java/lang/Throwable" "fillInStackTrace" "(I)Ljava/lang/Throwable;" ∈ gw := gw_t (tb_9 (List.mem_of_getElem? (i := 114) rfl)) rfl
theorem gw_2101 : Cond.sameMethod "java/lang/AbstractStringBuilder" "java/lang/AbstractStringBuilder" "setLength" "(I)V" ∈ gw := gw_t (tb_9 (List.mem_of_getElem? (i := 115) rfl)) rfl
theorem gw_2102 : Cond.sameMethod "java/lang/AbstractStringBuilder" "java/lang/AbstractStringBuilder" "append" "(Ljava/lang/String;)Ljava/lang/AbstractStringBuilder;" ∈ gw := gw_t (tb_9 (List.mem_of_getElem? (i := 116) rfl)) rfl
theorem gw_2103 : Cond.sameMethod "java/lang/AbstractStringBuilder" "java/lang/AbstractStringBuilder" "appendNull" "()Ljava/lang/AbstractStringBuilder;" ∈ gw := gw_t (tb_9 (List.mem_of_getElem? (i := 117) rfl)) rfl
theorem gw_2104 : Cond.sameMethod "java/lang/AbstractStringBuilder" "java/lang/AbstractStringBuilder" "ensureCapacityInternal" "(I)V" ∈ gw := gw_t (tb_9 (List.mem_of_getElem? (i := 118) rfl)) rfl
theorem gw_2105 : Cond.sameMethod "java/lang/AbstractStringBuilder" "java/lang/AbstractStringBuilder" "newCapacity" "(I)I" ∈ gw := gw_t (tb_9 (List.mem_of_getElem? (i := 119) rfl)) rfl
theorem gw_2106 : Cond.sameMethod "java/lang/AbstractStringBuilder" "java/lang/AbstractStringBuilder" "putStringAt" "(ILjava/lang/String;)V" ∈ gw := gw_t (tb_9 (List.mem_of_getElem? (i := 120) rfl)) rfl
theorem gw_2107 : Cond.sameMethod "java/lang/AbstractStringBuilder" "java/lang/AbstractStringBuilder" "inflateIfNeededFor" "(Ljava/lang/String;)V" ∈ gw := gw_t (tb_9 (List.mem_of_getElem? (i := 121) rfl)) rfl
theorem gw_2108 : Cond.sameMethod "java/lang/AbstractStringBuilder" "java/lang/AbstractStringBuilder" "inflate" "()V" ∈ gw := gw_t (tb_9 (List.mem_of_getElem? (i := 122) rfl)) rfl
theorem gw_2109 : Cond.sameMethod "java/lang/AbstractStringBuilder" "java/lang/AbstractStringBuilder" "append" "(I)Ljava/lang/AbstractStringBuilder;" ∈ gw := gw_t (tb_9 (List.mem_of_getElem? (i := 123) rfl)) rfl
theorem gw_2110 : Cond.sameMethod "java/lang/AbstractStringBuilder" "java/lang/AbstractStringBuilder" "append" "(C)Ljava/lang/AbstractStringBuilder;" ∈ gw := gw_t (tb_9 (List.mem_of_getElem? (i := 124) rfl)) rfl
theorem gw_2111 : Cond.selects "java/lang/StringBuilder" ⟨"java/lang/StringBuilder", "length", "()I"⟩ ⟨"java/lang/StringBuilder", "length", "()I"⟩ ∈ gw := gw_t (tb_9 (List.mem_of_getElem? (i := 125) rfl)) rfl
theorem gw_2112 : Cond.sameMethod "java/lang/AbstractStringBuilder" "java/lang/AbstractStringBuilder" "charAt" "(I)C" ∈ gw := gw_t (tb_9 (List.mem_of_getElem? (i := 126) rfl)) rfl
theorem gw_2137 : Cond.sameMethod "[Ljava/lang/Object;" "java/lang/Object" "getClass" "()Ljava/lang/Class;" ∈ gw := gw_t (tb_9 (List.mem_of_getElem? (i := 151) rfl)) rfl
theorem gw_2138 : Cond.selects "[Ljava/lang/Object;" ⟨"java/lang/Object", "getClass", "()Ljava/lang/Class;"⟩ ⟨"java/lang/Object", "getClass", "()Ljava/lang/Class;"⟩ ∈ gw := gw_t (tb_9 (List.mem_of_getElem? (i := 152) rfl)) rfl
theorem gw_2149 : Cond.fieldLink "java/lang/Enum" 7 "java/lang/Enum" "ordinal" "I" ∈ gw := gw_t (tb_9 (List.mem_of_getElem? (i := 163) rfl)) rfl
end
section
/-- the array classes: int, char, long, double, byte, State, Object -/
def tyG (aT : Nat → ClassId) : List (ClassId × FieldType) := [(aT 0, .int), (aT 1, .char), (aT 2, .long), (aT 3, .double), (aT 4, .byte), (aT 5, .object "HedgeCommittee$State"), (aT 6, .object "java/lang/Object")]
/-- the state of the reference: rows 0 to 12 its arrays, row 13 its numbers by their fields -/
abbrev MSt : Type := Nat → Nat → Int32
def sr (S : MSt) (i : Nat) (f : Nat → Int32) : MSt := fun r => if r = i then f else S r
def ss (S : MSt) (k : Nat) (x : Int32) : MSt := sr S 13 (upd (S 13) k x)
theorem sr_s (S : MSt) (i : Nat) (f : Nat → Int32) : sr S i f i = f := by simp [sr]
theorem sr_n (S : MSt) {i j : Nat} (f : Nat → Int32) (h : j ≠ i) : sr S i f j = S j := by simp [sr, h]
/-- the reference's cells -/
def mdW (aT : Nat → ClassId) (ad : Nat → Nat) (S : MSt) : va_W := [(ad 0, .inr (13, [.ref (ad 1), .ref (ad 2), .ref (ad 3), .int (S 13 3), .ref (ad 4), .int (S 13 5), .int (S 13 6), .int (S 13 7), .int (S 13 8), .ref (ad 5), .int (S 13 10), .ref (ad 6), .ref (ad 7), .ref (ad 8), .ref (ad 9), .int (S 13 15), .int (S 13 16), .ref (ad 10), .ref (ad 11), .ref (ad 12), .int (S 13 20), .int (S 13 21), .int (S 13 22), .int (S 13 23), .ref (ad 13), .int (S 13 25)])),
  (ad 1, .inl (aT 0, (77, .inl (S 0)))),
  (ad 2, .inl (aT 0, (77, .inl (S 1)))),
  (ad 3, .inl (aT 0, (77, .inl (S 2)))),
  (ad 4, .inl (aT 0, (616, .inl (S 3)))),
  (ad 5, .inl (aT 0, (60, .inl (S 4)))),
  (ad 6, .inl (aT 0, (12, .inl (S 5)))),
  (ad 7, .inl (aT 0, (12, .inl (S 6)))),
  (ad 8, .inl (aT 0, (12, .inl (S 7)))),
  (ad 9, .inl (aT 0, (12, .inl (S 8)))),
  (ad 10, .inl (aT 1, (41, .inl (S 9)))),
  (ad 11, .inl (aT 0, (8, .inl (S 10)))),
  (ad 12, .inl (aT 0, (244, .inl (S 11)))),
  (ad 13, .inl (aT 0, (400, .inl (S 12))))]
def MdB (D : va_G) (aT : Nat → ClassId) (ad : Nat → Nat) (S : MSt) (A : Nat → Prop) (H0 H : Heap) (locs : List Loc) : Prop := va_P D vwCl (mdW aT ad S) H ∧ va_D A (mdW aT ad S) ∧ va_S A H0 H locs
def MdX (p : Program) (c : Code) (cc : ByteArray) (s : State) (args : Array Value) (m : MethodId) (D : va_G) (aT : Nat → ClassId) : Prop := p.tables.exec = Jvm.exec ∧ c.code = cc ∧ (∀ w ∈ gw, w.before args s = true) ∧ s.vm.findClass RX10 = some m.cls ∧ va_K D vwCl (tyG aT) s
def mdB1 (D : va_G) (aT : Nat → ClassId) (ad : Nat → Nat) (S : MSt) (sz : Nat) (U : State) : Prop := U.heap.size = sz ∧ va_P D vwCl (mdW aT ad S) U.heap ∧ va_K D vwCl (tyG aT) U ∧ va_D (fun _ => True) (mdW aT ad S)
def mdB2 (D : va_G) (aT : Nat → ClassId) (ad : Nat → Nat) (S0 : MSt) (sz : Nat) (S : MSt) (U : State) : Prop := va_P D vwCl (mdW aT ad S) U.heap ∧ va_K D vwCl (tyG aT) U ∧ va_D (va_A (mdW aT ad S0) sz) (mdW aT ad S)
abbrev mdR (fr lo : Nat) : Room := { frames := fr, cells := 0, slots := 0, locals := lo }
/-- a method of the reference that answers an int -/
def MdI (l : Launch) (y : MethodName) (b : ByteArray) (L : Nat) (ret : FieldType) (fr lo : Nat) (D : va_G) (aT : Nat → ClassId) (ad : Nat → Nat) (As : List Value) (S : MSt) (post : Int32 → MSt → Prop) : Prop :=
  ∀ sz, Met l y (Cond.code y b L (some ret) :: gw) (mdR fr lo) (va_Pc As (mdB1 D aT ad S sz)) (va_Qi post (mdB2 D aT ad S sz) (va_A (mdW aT ad S) sz)) 0 0 (va_A (mdW aT ad S) sz)
/-- .. that answers nothing -/
def MdV (l : Launch) (y : MethodName) (b : ByteArray) (L : Nat) (fr lo : Nat) (D : va_G) (aT : Nat → ClassId) (ad : Nat → Nat) (As : List Value) (S : MSt) (post : MSt → Prop) : Prop :=
  ∀ sz, Met l y (Cond.code y b L none :: gw) (mdR fr lo) (va_Pc As (mdB1 D aT ad S sz)) (va_Qv post (mdB2 D aT ad S sz) (va_A (mdW aT ad S) sz)) 0 0 (va_A (mdW aT ad S) sz)
theorem mdW_D {aT : Nat → ClassId} {ad : Nat → Nat} {S S' : MSt} {A : Nat → Prop} (h : va_D A (mdW aT ad S)) : va_D A (mdW aT ad S') := by
  have e : ∀ (k : Nat) (q : Nat × va_E), (mdW aT ad S')[k]? = some q → ∃ e2, (mdW aT ad S)[k]? = some (q.1, e2) := by
    intro k q hq
    have h1 : (mdW aT ad S').map Prod.fst = (mdW aT ad S).map Prod.fst := rfl
    have h2 : ((mdW aT ad S').map Prod.fst)[k]? = some q.1 := by rw [List.getElem?_map, hq]; rfl
    rw [h1, List.getElem?_map] at h2
    cases h3 : (mdW aT ad S)[k]? with
    | none => rw [h3] at h2; cases h2
    | some z =>
      rw [h3] at h2
      obtain ⟨z1, z2⟩ := z
      have : z1 = q.1 := Option.some.inj h2
      exact ⟨z2, by rw [this]⟩
  refine ⟨fun i j p q hp hq hpq => ?_, fun k q hq => ?_⟩
  · obtain ⟨e1, h1⟩ := e i p hp
    obtain ⟨e2, h2⟩ := e j q hq
    exact h.1 i j _ _ h1 h2 hpq
  · obtain ⟨e1, h1⟩ := e k q hq
    exact h.2 k (q.1, e1) h1
theorem inX10 : ∀ w ∈ u_ws RX10 TX10 26, w ∈ gw := List.forall_mem_cons.mpr ⟨gw_1649, List.forall_mem_cons.mpr ⟨gw_1651, List.forall_mem_cons.mpr ⟨gw_1653, List.forall_mem_cons.mpr ⟨gw_1655, List.forall_mem_cons.mpr ⟨gw_1657, List.forall_mem_cons.mpr ⟨gw_1659, List.forall_mem_cons.mpr ⟨gw_1661, List.forall_mem_cons.mpr ⟨gw_1663, List.forall_mem_cons.mpr ⟨gw_1665, List.forall_mem_cons.mpr ⟨gw_1667, List.forall_mem_cons.mpr ⟨gw_1669, List.forall_mem_cons.mpr ⟨gw_1671, List.forall_mem_cons.mpr ⟨gw_1673, List.forall_mem_cons.mpr ⟨gw_1675, List.forall_mem_cons.mpr ⟨gw_1677, List.forall_mem_cons.mpr ⟨gw_1679, List.forall_mem_cons.mpr ⟨gw_1681, List.forall_mem_cons.mpr ⟨gw_1683, List.forall_mem_cons.mpr ⟨gw_1685, List.forall_mem_cons.mpr ⟨gw_1687, List.forall_mem_cons.mpr ⟨gw_1689, List.forall_mem_cons.mpr ⟨gw_1691, List.forall_mem_cons.mpr ⟨gw_1693, List.forall_mem_cons.mpr ⟨gw_1695, List.forall_mem_cons.mpr ⟨gw_1697, List.forall_mem_cons.mpr ⟨gw_1699, fun _ h => absurd h List.not_mem_nil⟩⟩⟩⟩⟩⟩⟩⟩⟩⟩⟩⟩⟩⟩⟩⟩⟩⟩⟩⟩⟩⟩⟩⟩⟩⟩
section MDR
variable {p : Program} {l : Launch} {e : Env} {R : Room} {s : State} {m : MethodId} {args : Array Value} {below : List Frame} {meth : Method} {c : Code} {H : Heap} {locs : List Loc} {cells slots : Nat} {Q : State → Prop} {cc : ByteArray} {pc : Nat} {ls : Array Slot} {rest : List Value} {D : va_G} {aT : Nat → ClassId} {ad : Nat → Nat} {S : MSt} {A : Nat → Prop} {H0 : Heap}
theorem md_geta_m (C : MdX p c cc s args m D aT) (hW : MdB D aT ad S A H0 H locs) (hdg : decode cc pc = .ok (.getfield 9, 3)) (k : W p l e R s m args below meth c H locs cells slots Q (F0 m (pc + 3) ls (.ref (ad 1) :: rest))) : W p l e R s m args below meth c H locs cells slots Q (F0 m pc ls (.ref (ad 0) :: rest)) := by
  obtain ⟨hx, hb, hg, hown, hK⟩ := C
  exact va_get (D := D) (ci := 13) (v := .ref (ad 1)) (C := RX10) (T := TX10) (N := 26) hx hb hg inX10 hown hK hW.1 0 rfl rfl 0 (by decide) (hg _ gw_1623) (fun _ h9 => h9) rfl hdg k
theorem md_ald_m (C : MdX p c cc s args m D aT) (hW : MdB D aT ad S A H0 H locs) {i : Nat} (hi : i < 77) (hdg : decode cc pc = .ok (.iaload, 1)) (k : W p l e R s m args below meth c H locs cells slots Q (F0 m (pc + 1) ls (.int (S 0 i) :: rest))) : W p l e R s m args below meth c H locs cells slots Q (F0 m pc ls (.int (nI i) :: .ref (ad 1) :: rest)) := by
  obtain ⟨hx, hb, hg, hown, hK⟩ := C
  refine va_iald (D := D) hx hb hK hW.1 1 0 rfl rfl (vp_in_nI hi (by decide)) hdg ?_
  rw [nI_clamp (by omega)]
  exact k
theorem md_ast_m (C : MdX p c cc s args m D aT) (hW : MdB D aT ad S A H0 H locs) {i : Nat} {x : Int32} (hi : i < 77) (hdg : decode cc pc = .ok (.iastore, 1)) (k : ∀ (H1 : Heap) (locs1 : List Loc), MdB D aT ad (sr S 0 (upd (S 0) i x)) A H0 H1 locs1 → W p l e R s m args below meth c H1 locs1 cells slots Q (F0 m (pc + 1) ls rest)) : W p l e R s m args below meth c H locs cells slots Q (F0 m pc ls (.int x :: .int (nI i) :: .ref (ad 1) :: rest)) := by
  obtain ⟨hx, hb, hg, hown, hK⟩ := C
  refine va_iast (D := D) hx hb hK hW.1 hW.2.1 hW.2.2 1 0 rfl rfl (vp_in_nI hi (by decide)) hdg (fun H1 locs1 h1 h2 h3 => ?_)
  rw [nI_clamp (by omega)] at h1
  exact k H1 locs1 ⟨h1, mdW_D hW.2.1, h3⟩
theorem md_geta_aside (C : MdX p c cc s args m D aT) (hW : MdB D aT ad S A H0 H locs) (hdg : decode cc pc = .ok (.getfield 13, 3)) (k : W p l e R s m args below meth c H locs cells slots Q (F0 m (pc + 3) ls (.ref (ad 2) :: rest))) : W p l e R s m args below meth c H locs cells slots Q (F0 m pc ls (.ref (ad 0) :: rest)) := by
  obtain ⟨hx, hb, hg, hown, hK⟩ := C
  exact va_get (D := D) (ci := 13) (v := .ref (ad 2)) (C := RX10) (T := TX10) (N := 26) hx hb hg inX10 hown hK hW.1 0 rfl rfl 1 (by decide) (hg _ gw_1624) (fun _ h9 => h9) rfl hdg k
theorem md_ald_aside (C : MdX p c cc s args m D aT) (hW : MdB D aT ad S A H0 H locs) {i : Nat} (hi : i < 77) (hdg : decode cc pc = .ok (.iaload, 1)) (k : W p l e R s m args below meth c H locs cells slots Q (F0 m (pc + 1) ls (.int (S 1 i) :: rest))) : W p l e R s m args below meth c H locs cells slots Q (F0 m pc ls (.int (nI i) :: .ref (ad 2) :: rest)) := by
  obtain ⟨hx, hb, hg, hown, hK⟩ := C
  refine va_iald (D := D) hx hb hK hW.1 2 0 rfl rfl (vp_in_nI hi (by decide)) hdg ?_
  rw [nI_clamp (by omega)]
  exact k
theorem md_ast_aside (C : MdX p c cc s args m D aT) (hW : MdB D aT ad S A H0 H locs) {i : Nat} {x : Int32} (hi : i < 77) (hdg : decode cc pc = .ok (.iastore, 1)) (k : ∀ (H1 : Heap) (locs1 : List Loc), MdB D aT ad (sr S 1 (upd (S 1) i x)) A H0 H1 locs1 → W p l e R s m args below meth c H1 locs1 cells slots Q (F0 m (pc + 1) ls rest)) : W p l e R s m args below meth c H locs cells slots Q (F0 m pc ls (.int x :: .int (nI i) :: .ref (ad 2) :: rest)) := by
  obtain ⟨hx, hb, hg, hown, hK⟩ := C
  refine va_iast (D := D) hx hb hK hW.1 hW.2.1 hW.2.2 2 0 rfl rfl (vp_in_nI hi (by decide)) hdg (fun H1 locs1 h1 h2 h3 => ?_)
  rw [nI_clamp (by omega)] at h1
  exact k H1 locs1 ⟨h1, mdW_D hW.2.1, h3⟩
theorem md_geta_saved (C : MdX p c cc s args m D aT) (hW : MdB D aT ad S A H0 H locs) (hdg : decode cc pc = .ok (.getfield 16, 3)) (k : W p l e R s m args below meth c H locs cells slots Q (F0 m (pc + 3) ls (.ref (ad 3) :: rest))) : W p l e R s m args below meth c H locs cells slots Q (F0 m pc ls (.ref (ad 0) :: rest)) := by
  obtain ⟨hx, hb, hg, hown, hK⟩ := C
  exact va_get (D := D) (ci := 13) (v := .ref (ad 3)) (C := RX10) (T := TX10) (N := 26) hx hb hg inX10 hown hK hW.1 0 rfl rfl 2 (by decide) (hg _ gw_1625) (fun _ h9 => h9) rfl hdg k
theorem md_ald_saved (C : MdX p c cc s args m D aT) (hW : MdB D aT ad S A H0 H locs) {i : Nat} (hi : i < 77) (hdg : decode cc pc = .ok (.iaload, 1)) (k : W p l e R s m args below meth c H locs cells slots Q (F0 m (pc + 1) ls (.int (S 2 i) :: rest))) : W p l e R s m args below meth c H locs cells slots Q (F0 m pc ls (.int (nI i) :: .ref (ad 3) :: rest)) := by
  obtain ⟨hx, hb, hg, hown, hK⟩ := C
  refine va_iald (D := D) hx hb hK hW.1 3 0 rfl rfl (vp_in_nI hi (by decide)) hdg ?_
  rw [nI_clamp (by omega)]
  exact k
theorem md_ast_saved (C : MdX p c cc s args m D aT) (hW : MdB D aT ad S A H0 H locs) {i : Nat} {x : Int32} (hi : i < 77) (hdg : decode cc pc = .ok (.iastore, 1)) (k : ∀ (H1 : Heap) (locs1 : List Loc), MdB D aT ad (sr S 2 (upd (S 2) i x)) A H0 H1 locs1 → W p l e R s m args below meth c H1 locs1 cells slots Q (F0 m (pc + 1) ls rest)) : W p l e R s m args below meth c H locs cells slots Q (F0 m pc ls (.int x :: .int (nI i) :: .ref (ad 3) :: rest)) := by
  obtain ⟨hx, hb, hg, hown, hK⟩ := C
  refine va_iast (D := D) hx hb hK hW.1 hW.2.1 hW.2.2 3 0 rfl rfl (vp_in_nI hi (by decide)) hdg (fun H1 locs1 h1 h2 h3 => ?_)
  rw [nI_clamp (by omega)] at h1
  exact k H1 locs1 ⟨h1, mdW_D hW.2.1, h3⟩
theorem md_geta_past (C : MdX p c cc s args m D aT) (hW : MdB D aT ad S A H0 H locs) (hdg : decode cc pc = .ok (.getfield 19, 3)) (k : W p l e R s m args below meth c H locs cells slots Q (F0 m (pc + 3) ls (.ref (ad 4) :: rest))) : W p l e R s m args below meth c H locs cells slots Q (F0 m pc ls (.ref (ad 0) :: rest)) := by
  obtain ⟨hx, hb, hg, hown, hK⟩ := C
  exact va_get (D := D) (ci := 13) (v := .ref (ad 4)) (C := RX10) (T := TX10) (N := 26) hx hb hg inX10 hown hK hW.1 0 rfl rfl 4 (by decide) (hg _ gw_1627) (fun _ h9 => h9) rfl hdg k
theorem md_ald_past (C : MdX p c cc s args m D aT) (hW : MdB D aT ad S A H0 H locs) {i : Nat} (hi : i < 616) (hdg : decode cc pc = .ok (.iaload, 1)) (k : W p l e R s m args below meth c H locs cells slots Q (F0 m (pc + 1) ls (.int (S 3 i) :: rest))) : W p l e R s m args below meth c H locs cells slots Q (F0 m pc ls (.int (nI i) :: .ref (ad 4) :: rest)) := by
  obtain ⟨hx, hb, hg, hown, hK⟩ := C
  refine va_iald (D := D) hx hb hK hW.1 4 0 rfl rfl (vp_in_nI hi (by decide)) hdg ?_
  rw [nI_clamp (by omega)]
  exact k
theorem md_ast_past (C : MdX p c cc s args m D aT) (hW : MdB D aT ad S A H0 H locs) {i : Nat} {x : Int32} (hi : i < 616) (hdg : decode cc pc = .ok (.iastore, 1)) (k : ∀ (H1 : Heap) (locs1 : List Loc), MdB D aT ad (sr S 3 (upd (S 3) i x)) A H0 H1 locs1 → W p l e R s m args below meth c H1 locs1 cells slots Q (F0 m (pc + 1) ls rest)) : W p l e R s m args below meth c H locs cells slots Q (F0 m pc ls (.int x :: .int (nI i) :: .ref (ad 4) :: rest)) := by
  obtain ⟨hx, hb, hg, hown, hK⟩ := C
  refine va_iast (D := D) hx hb hK hW.1 hW.2.1 hW.2.2 4 0 rfl rfl (vp_in_nI hi (by decide)) hdg (fun H1 locs1 h1 h2 h3 => ?_)
  rw [nI_clamp (by omega)] at h1
  exact k H1 locs1 ⟨h1, mdW_D hW.2.1, h3⟩
theorem md_geta_input (C : MdX p c cc s args m D aT) (hW : MdB D aT ad S A H0 H locs) (hdg : decode cc pc = .ok (.getfield 29, 3)) (k : W p l e R s m args below meth c H locs cells slots Q (F0 m (pc + 3) ls (.ref (ad 5) :: rest))) : W p l e R s m args below meth c H locs cells slots Q (F0 m pc ls (.ref (ad 0) :: rest)) := by
  obtain ⟨hx, hb, hg, hown, hK⟩ := C
  exact va_get (D := D) (ci := 13) (v := .ref (ad 5)) (C := RX10) (T := TX10) (N := 26) hx hb hg inX10 hown hK hW.1 0 rfl rfl 9 (by decide) (hg _ gw_1632) (fun _ h9 => h9) rfl hdg k
theorem md_ald_input (C : MdX p c cc s args m D aT) (hW : MdB D aT ad S A H0 H locs) {i : Nat} (hi : i < 60) (hdg : decode cc pc = .ok (.iaload, 1)) (k : W p l e R s m args below meth c H locs cells slots Q (F0 m (pc + 1) ls (.int (S 4 i) :: rest))) : W p l e R s m args below meth c H locs cells slots Q (F0 m pc ls (.int (nI i) :: .ref (ad 5) :: rest)) := by
  obtain ⟨hx, hb, hg, hown, hK⟩ := C
  refine va_iald (D := D) hx hb hK hW.1 5 0 rfl rfl (vp_in_nI hi (by decide)) hdg ?_
  rw [nI_clamp (by omega)]
  exact k
theorem md_ast_input (C : MdX p c cc s args m D aT) (hW : MdB D aT ad S A H0 H locs) {i : Nat} {x : Int32} (hi : i < 60) (hdg : decode cc pc = .ok (.iastore, 1)) (k : ∀ (H1 : Heap) (locs1 : List Loc), MdB D aT ad (sr S 4 (upd (S 4) i x)) A H0 H1 locs1 → W p l e R s m args below meth c H1 locs1 cells slots Q (F0 m (pc + 1) ls rest)) : W p l e R s m args below meth c H locs cells slots Q (F0 m pc ls (.int x :: .int (nI i) :: .ref (ad 5) :: rest)) := by
  obtain ⟨hx, hb, hg, hown, hK⟩ := C
  refine va_iast (D := D) hx hb hK hW.1 hW.2.1 hW.2.2 5 0 rfl rfl (vp_in_nI hi (by decide)) hdg (fun H1 locs1 h1 h2 h3 => ?_)
  rw [nI_clamp (by omega)] at h1
  exact k H1 locs1 ⟨h1, mdW_D hW.2.1, h3⟩
theorem md_geta_with (C : MdX p c cc s args m D aT) (hW : MdB D aT ad S A H0 H locs) (hdg : decode cc pc = .ok (.getfield 32, 3)) (k : W p l e R s m args below meth c H locs cells slots Q (F0 m (pc + 3) ls (.ref (ad 6) :: rest))) : W p l e R s m args below meth c H locs cells slots Q (F0 m pc ls (.ref (ad 0) :: rest)) := by
  obtain ⟨hx, hb, hg, hown, hK⟩ := C
  exact va_get (D := D) (ci := 13) (v := .ref (ad 6)) (C := RX10) (T := TX10) (N := 26) hx hb hg inX10 hown hK hW.1 0 rfl rfl 11 (by decide) (hg _ gw_1634) (fun _ h9 => h9) rfl hdg k
theorem md_ald_with (C : MdX p c cc s args m D aT) (hW : MdB D aT ad S A H0 H locs) {i : Nat} (hi : i < 12) (hdg : decode cc pc = .ok (.iaload, 1)) (k : W p l e R s m args below meth c H locs cells slots Q (F0 m (pc + 1) ls (.int (S 5 i) :: rest))) : W p l e R s m args below meth c H locs cells slots Q (F0 m pc ls (.int (nI i) :: .ref (ad 6) :: rest)) := by
  obtain ⟨hx, hb, hg, hown, hK⟩ := C
  refine va_iald (D := D) hx hb hK hW.1 6 0 rfl rfl (vp_in_nI hi (by decide)) hdg ?_
  rw [nI_clamp (by omega)]
  exact k
theorem md_ast_with (C : MdX p c cc s args m D aT) (hW : MdB D aT ad S A H0 H locs) {i : Nat} {x : Int32} (hi : i < 12) (hdg : decode cc pc = .ok (.iastore, 1)) (k : ∀ (H1 : Heap) (locs1 : List Loc), MdB D aT ad (sr S 5 (upd (S 5) i x)) A H0 H1 locs1 → W p l e R s m args below meth c H1 locs1 cells slots Q (F0 m (pc + 1) ls rest)) : W p l e R s m args below meth c H locs cells slots Q (F0 m pc ls (.int x :: .int (nI i) :: .ref (ad 6) :: rest)) := by
  obtain ⟨hx, hb, hg, hown, hK⟩ := C
  refine va_iast (D := D) hx hb hK hW.1 hW.2.1 hW.2.2 6 0 rfl rfl (vp_in_nI hi (by decide)) hdg (fun H1 locs1 h1 h2 h3 => ?_)
  rw [nI_clamp (by omega)] at h1
  exact k H1 locs1 ⟨h1, mdW_D hW.2.1, h3⟩
theorem md_geta_without (C : MdX p c cc s args m D aT) (hW : MdB D aT ad S A H0 H locs) (hdg : decode cc pc = .ok (.getfield 35, 3)) (k : W p l e R s m args below meth c H locs cells slots Q (F0 m (pc + 3) ls (.ref (ad 7) :: rest))) : W p l e R s m args below meth c H locs cells slots Q (F0 m pc ls (.ref (ad 0) :: rest)) := by
  obtain ⟨hx, hb, hg, hown, hK⟩ := C
  exact va_get (D := D) (ci := 13) (v := .ref (ad 7)) (C := RX10) (T := TX10) (N := 26) hx hb hg inX10 hown hK hW.1 0 rfl rfl 12 (by decide) (hg _ gw_1635) (fun _ h9 => h9) rfl hdg k
theorem md_ald_without (C : MdX p c cc s args m D aT) (hW : MdB D aT ad S A H0 H locs) {i : Nat} (hi : i < 12) (hdg : decode cc pc = .ok (.iaload, 1)) (k : W p l e R s m args below meth c H locs cells slots Q (F0 m (pc + 1) ls (.int (S 6 i) :: rest))) : W p l e R s m args below meth c H locs cells slots Q (F0 m pc ls (.int (nI i) :: .ref (ad 7) :: rest)) := by
  obtain ⟨hx, hb, hg, hown, hK⟩ := C
  refine va_iald (D := D) hx hb hK hW.1 7 0 rfl rfl (vp_in_nI hi (by decide)) hdg ?_
  rw [nI_clamp (by omega)]
  exact k
theorem md_ast_without (C : MdX p c cc s args m D aT) (hW : MdB D aT ad S A H0 H locs) {i : Nat} {x : Int32} (hi : i < 12) (hdg : decode cc pc = .ok (.iastore, 1)) (k : ∀ (H1 : Heap) (locs1 : List Loc), MdB D aT ad (sr S 6 (upd (S 6) i x)) A H0 H1 locs1 → W p l e R s m args below meth c H1 locs1 cells slots Q (F0 m (pc + 1) ls rest)) : W p l e R s m args below meth c H locs cells slots Q (F0 m pc ls (.int x :: .int (nI i) :: .ref (ad 7) :: rest)) := by
  obtain ⟨hx, hb, hg, hown, hK⟩ := C
  refine va_iast (D := D) hx hb hK hW.1 hW.2.1 hW.2.2 7 0 rfl rfl (vp_in_nI hi (by decide)) hdg (fun H1 locs1 h1 h2 h3 => ?_)
  rw [nI_clamp (by omega)] at h1
  exact k H1 locs1 ⟨h1, mdW_D hW.2.1, h3⟩
theorem md_geta_setsWith (C : MdX p c cc s args m D aT) (hW : MdB D aT ad S A H0 H locs) (hdg : decode cc pc = .ok (.getfield 38, 3)) (k : W p l e R s m args below meth c H locs cells slots Q (F0 m (pc + 3) ls (.ref (ad 8) :: rest))) : W p l e R s m args below meth c H locs cells slots Q (F0 m pc ls (.ref (ad 0) :: rest)) := by
  obtain ⟨hx, hb, hg, hown, hK⟩ := C
  exact va_get (D := D) (ci := 13) (v := .ref (ad 8)) (C := RX10) (T := TX10) (N := 26) hx hb hg inX10 hown hK hW.1 0 rfl rfl 13 (by decide) (hg _ gw_1636) (fun _ h9 => h9) rfl hdg k
theorem md_ald_setsWith (C : MdX p c cc s args m D aT) (hW : MdB D aT ad S A H0 H locs) {i : Nat} (hi : i < 12) (hdg : decode cc pc = .ok (.iaload, 1)) (k : W p l e R s m args below meth c H locs cells slots Q (F0 m (pc + 1) ls (.int (S 7 i) :: rest))) : W p l e R s m args below meth c H locs cells slots Q (F0 m pc ls (.int (nI i) :: .ref (ad 8) :: rest)) := by
  obtain ⟨hx, hb, hg, hown, hK⟩ := C
  refine va_iald (D := D) hx hb hK hW.1 8 0 rfl rfl (vp_in_nI hi (by decide)) hdg ?_
  rw [nI_clamp (by omega)]
  exact k
theorem md_ast_setsWith (C : MdX p c cc s args m D aT) (hW : MdB D aT ad S A H0 H locs) {i : Nat} {x : Int32} (hi : i < 12) (hdg : decode cc pc = .ok (.iastore, 1)) (k : ∀ (H1 : Heap) (locs1 : List Loc), MdB D aT ad (sr S 7 (upd (S 7) i x)) A H0 H1 locs1 → W p l e R s m args below meth c H1 locs1 cells slots Q (F0 m (pc + 1) ls rest)) : W p l e R s m args below meth c H locs cells slots Q (F0 m pc ls (.int x :: .int (nI i) :: .ref (ad 8) :: rest)) := by
  obtain ⟨hx, hb, hg, hown, hK⟩ := C
  refine va_iast (D := D) hx hb hK hW.1 hW.2.1 hW.2.2 8 0 rfl rfl (vp_in_nI hi (by decide)) hdg (fun H1 locs1 h1 h2 h3 => ?_)
  rw [nI_clamp (by omega)] at h1
  exact k H1 locs1 ⟨h1, mdW_D hW.2.1, h3⟩
theorem md_geta_setsWithout (C : MdX p c cc s args m D aT) (hW : MdB D aT ad S A H0 H locs) (hdg : decode cc pc = .ok (.getfield 41, 3)) (k : W p l e R s m args below meth c H locs cells slots Q (F0 m (pc + 3) ls (.ref (ad 9) :: rest))) : W p l e R s m args below meth c H locs cells slots Q (F0 m pc ls (.ref (ad 0) :: rest)) := by
  obtain ⟨hx, hb, hg, hown, hK⟩ := C
  exact va_get (D := D) (ci := 13) (v := .ref (ad 9)) (C := RX10) (T := TX10) (N := 26) hx hb hg inX10 hown hK hW.1 0 rfl rfl 14 (by decide) (hg _ gw_1637) (fun _ h9 => h9) rfl hdg k
theorem md_ald_setsWithout (C : MdX p c cc s args m D aT) (hW : MdB D aT ad S A H0 H locs) {i : Nat} (hi : i < 12) (hdg : decode cc pc = .ok (.iaload, 1)) (k : W p l e R s m args below meth c H locs cells slots Q (F0 m (pc + 1) ls (.int (S 8 i) :: rest))) : W p l e R s m args below meth c H locs cells slots Q (F0 m pc ls (.int (nI i) :: .ref (ad 9) :: rest)) := by
  obtain ⟨hx, hb, hg, hown, hK⟩ := C
  refine va_iald (D := D) hx hb hK hW.1 9 0 rfl rfl (vp_in_nI hi (by decide)) hdg ?_
  rw [nI_clamp (by omega)]
  exact k
theorem md_ast_setsWithout (C : MdX p c cc s args m D aT) (hW : MdB D aT ad S A H0 H locs) {i : Nat} {x : Int32} (hi : i < 12) (hdg : decode cc pc = .ok (.iastore, 1)) (k : ∀ (H1 : Heap) (locs1 : List Loc), MdB D aT ad (sr S 8 (upd (S 8) i x)) A H0 H1 locs1 → W p l e R s m args below meth c H1 locs1 cells slots Q (F0 m (pc + 1) ls rest)) : W p l e R s m args below meth c H locs cells slots Q (F0 m pc ls (.int x :: .int (nI i) :: .ref (ad 9) :: rest)) := by
  obtain ⟨hx, hb, hg, hown, hK⟩ := C
  refine va_iast (D := D) hx hb hK hW.1 hW.2.1 hW.2.2 9 0 rfl rfl (vp_in_nI hi (by decide)) hdg (fun H1 locs1 h1 h2 h3 => ?_)
  rw [nI_clamp (by omega)] at h1
  exact k H1 locs1 ⟨h1, mdW_D hW.2.1, h3⟩
theorem md_geta_letters (C : MdX p c cc s args m D aT) (hW : MdB D aT ad S A H0 H locs) (hdg : decode cc pc = .ok (.getfield 44, 3)) (k : W p l e R s m args below meth c H locs cells slots Q (F0 m (pc + 3) ls (.ref (ad 10) :: rest))) : W p l e R s m args below meth c H locs cells slots Q (F0 m pc ls (.ref (ad 0) :: rest)) := by
  obtain ⟨hx, hb, hg, hown, hK⟩ := C
  exact va_get (D := D) (ci := 13) (v := .ref (ad 10)) (C := RX10) (T := TX10) (N := 26) hx hb hg inX10 hown hK hW.1 0 rfl rfl 17 (by decide) (hg _ gw_1640) (fun _ h9 => h9) rfl hdg k
theorem md_ald_letters (C : MdX p c cc s args m D aT) (hW : MdB D aT ad S A H0 H locs) {i : Nat} (hi : i < 41) (hdg : decode cc pc = .ok (.caload, 1)) (k : W p l e R s m args below meth c H locs cells slots Q (F0 m (pc + 1) ls (.int (S 9 i) :: rest))) : W p l e R s m args below meth c H locs cells slots Q (F0 m pc ls (.int (nI i) :: .ref (ad 10) :: rest)) := by
  obtain ⟨hx, hb, hg, hown, hK⟩ := C
  refine va_cald (D := D) hx hb hK hW.1 10 1 rfl rfl (vp_in_nI hi (by decide)) hdg ?_
  rw [nI_clamp (by omega)]
  exact k
theorem md_geta_begins0 (C : MdX p c cc s args m D aT) (hW : MdB D aT ad S A H0 H locs) (hdg : decode cc pc = .ok (.getfield 48, 3)) (k : W p l e R s m args below meth c H locs cells slots Q (F0 m (pc + 3) ls (.ref (ad 11) :: rest))) : W p l e R s m args below meth c H locs cells slots Q (F0 m pc ls (.ref (ad 0) :: rest)) := by
  obtain ⟨hx, hb, hg, hown, hK⟩ := C
  exact va_get (D := D) (ci := 13) (v := .ref (ad 11)) (C := RX10) (T := TX10) (N := 26) hx hb hg inX10 hown hK hW.1 0 rfl rfl 18 (by decide) (hg _ gw_1641) (fun _ h9 => h9) rfl hdg k
theorem md_ald_begins0 (C : MdX p c cc s args m D aT) (hW : MdB D aT ad S A H0 H locs) {i : Nat} (hi : i < 8) (hdg : decode cc pc = .ok (.iaload, 1)) (k : W p l e R s m args below meth c H locs cells slots Q (F0 m (pc + 1) ls (.int (S 10 i) :: rest))) : W p l e R s m args below meth c H locs cells slots Q (F0 m pc ls (.int (nI i) :: .ref (ad 11) :: rest)) := by
  obtain ⟨hx, hb, hg, hown, hK⟩ := C
  refine va_iald (D := D) hx hb hK hW.1 11 0 rfl rfl (vp_in_nI hi (by decide)) hdg ?_
  rw [nI_clamp (by omega)]
  exact k
theorem md_geta_commands (C : MdX p c cc s args m D aT) (hW : MdB D aT ad S A H0 H locs) (hdg : decode cc pc = .ok (.getfield 51, 3)) (k : W p l e R s m args below meth c H locs cells slots Q (F0 m (pc + 3) ls (.ref (ad 12) :: rest))) : W p l e R s m args below meth c H locs cells slots Q (F0 m pc ls (.ref (ad 0) :: rest)) := by
  obtain ⟨hx, hb, hg, hown, hK⟩ := C
  exact va_get (D := D) (ci := 13) (v := .ref (ad 12)) (C := RX10) (T := TX10) (N := 26) hx hb hg inX10 hown hK hW.1 0 rfl rfl 19 (by decide) (hg _ gw_1642) (fun _ h9 => h9) rfl hdg k
theorem md_ald_commands (C : MdX p c cc s args m D aT) (hW : MdB D aT ad S A H0 H locs) {i : Nat} (hi : i < 244) (hdg : decode cc pc = .ok (.iaload, 1)) (k : W p l e R s m args below meth c H locs cells slots Q (F0 m (pc + 1) ls (.int (S 11 i) :: rest))) : W p l e R s m args below meth c H locs cells slots Q (F0 m pc ls (.int (nI i) :: .ref (ad 12) :: rest)) := by
  obtain ⟨hx, hb, hg, hown, hK⟩ := C
  refine va_iald (D := D) hx hb hK hW.1 12 0 rfl rfl (vp_in_nI hi (by decide)) hdg ?_
  rw [nI_clamp (by omega)]
  exact k
theorem md_ast_commands (C : MdX p c cc s args m D aT) (hW : MdB D aT ad S A H0 H locs) {i : Nat} {x : Int32} (hi : i < 244) (hdg : decode cc pc = .ok (.iastore, 1)) (k : ∀ (H1 : Heap) (locs1 : List Loc), MdB D aT ad (sr S 11 (upd (S 11) i x)) A H0 H1 locs1 → W p l e R s m args below meth c H1 locs1 cells slots Q (F0 m (pc + 1) ls rest)) : W p l e R s m args below meth c H locs cells slots Q (F0 m pc ls (.int x :: .int (nI i) :: .ref (ad 12) :: rest)) := by
  obtain ⟨hx, hb, hg, hown, hK⟩ := C
  refine va_iast (D := D) hx hb hK hW.1 hW.2.1 hW.2.2 12 0 rfl rfl (vp_in_nI hi (by decide)) hdg (fun H1 locs1 h1 h2 h3 => ?_)
  rw [nI_clamp (by omega)] at h1
  exact k H1 locs1 ⟨h1, mdW_D hW.2.1, h3⟩
theorem md_geta_line (C : MdX p c cc s args m D aT) (hW : MdB D aT ad S A H0 H locs) (hdg : decode cc pc = .ok (.getfield 54, 3)) (k : W p l e R s m args below meth c H locs cells slots Q (F0 m (pc + 3) ls (.ref (ad 13) :: rest))) : W p l e R s m args below meth c H locs cells slots Q (F0 m pc ls (.ref (ad 0) :: rest)) := by
  obtain ⟨hx, hb, hg, hown, hK⟩ := C
  exact va_get (D := D) (ci := 13) (v := .ref (ad 13)) (C := RX10) (T := TX10) (N := 26) hx hb hg inX10 hown hK hW.1 0 rfl rfl 24 (by decide) (hg _ gw_1647) (fun _ h9 => h9) rfl hdg k
theorem md_ald_line (C : MdX p c cc s args m D aT) (hW : MdB D aT ad S A H0 H locs) {i : Nat} (hi : i < 400) (hdg : decode cc pc = .ok (.iaload, 1)) (k : W p l e R s m args below meth c H locs cells slots Q (F0 m (pc + 1) ls (.int (S 12 i) :: rest))) : W p l e R s m args below meth c H locs cells slots Q (F0 m pc ls (.int (nI i) :: .ref (ad 13) :: rest)) := by
  obtain ⟨hx, hb, hg, hown, hK⟩ := C
  refine va_iald (D := D) hx hb hK hW.1 13 0 rfl rfl (vp_in_nI hi (by decide)) hdg ?_
  rw [nI_clamp (by omega)]
  exact k
theorem md_ast_line (C : MdX p c cc s args m D aT) (hW : MdB D aT ad S A H0 H locs) {i : Nat} {x : Int32} (hi : i < 400) (hdg : decode cc pc = .ok (.iastore, 1)) (k : ∀ (H1 : Heap) (locs1 : List Loc), MdB D aT ad (sr S 12 (upd (S 12) i x)) A H0 H1 locs1 → W p l e R s m args below meth c H1 locs1 cells slots Q (F0 m (pc + 1) ls rest)) : W p l e R s m args below meth c H locs cells slots Q (F0 m pc ls (.int x :: .int (nI i) :: .ref (ad 13) :: rest)) := by
  obtain ⟨hx, hb, hg, hown, hK⟩ := C
  refine va_iast (D := D) hx hb hK hW.1 hW.2.1 hW.2.2 13 0 rfl rfl (vp_in_nI hi (by decide)) hdg (fun H1 locs1 h1 h2 h3 => ?_)
  rw [nI_clamp (by omega)] at h1
  exact k H1 locs1 ⟨h1, mdW_D hW.2.1, h3⟩
theorem md_get_isSaved (C : MdX p c cc s args m D aT) (hW : MdB D aT ad S A H0 H locs) (hdg : decode cc pc = .ok (.getfield 273, 3)) (k : W p l e R s m args below meth c H locs cells slots Q (F0 m (pc + 3) ls (.int (S 13 3) :: rest))) : W p l e R s m args below meth c H locs cells slots Q (F0 m pc ls (.ref (ad 0) :: rest)) := by
  obtain ⟨hx, hb, hg, hown, hK⟩ := C
  exact va_get (D := D) (ci := 13) (v := .int (S 13 3)) (C := RX10) (T := TX10) (N := 26) hx hb hg inX10 hown hK hW.1 0 rfl rfl 3 (by decide) (hg _ gw_1626) (fun _ h9 => h9) rfl hdg k
theorem md_put_isSaved (C : MdX p c cc s args m D aT) (hW : MdB D aT ad S A H0 H locs) {x : Int32} (hz : narrow .boolean (.int x) = .int x) (hf : fits .boolean (.int x) = true) (hdg : decode cc pc = .ok (.putfield 273, 3)) (k : ∀ (H1 : Heap) (locs1 : List Loc), MdB D aT ad (ss S 3 x) A H0 H1 locs1 → W p l e R s m args below meth c H1 locs1 cells slots Q (F0 m (pc + 3) ls rest)) : W p l e R s m args below meth c H locs cells slots Q (F0 m pc ls (.int x :: .ref (ad 0) :: rest)) := by
  obtain ⟨hx, hb, hg, hown, hK⟩ := C
  refine va_put (D := D) (ci := 13) (v := .int x) (ty := .boolean) (C := RX10) (T := TX10) (N := 26) hx hb hg inX10 tyX10 tyX10_ok nmX10 hown hK hW.1 hW.2.1 hW.2.2 0 rfl rfl 3 (by decide) (hg _ gw_1626) (fun _ h9 => h9) rfl (by decide +kernel) hz hf (Nat.le_of_ble_eq_true rfl) hdg (fun H1 locs1 h1 h2 h3 => ?_)
  exact k H1 locs1 ⟨h1, mdW_D hW.2.1, h3⟩
theorem md_get_changes (C : MdX p c cc s args m D aT) (hW : MdB D aT ad S A H0 H locs) (hdg : decode cc pc = .ok (.getfield 60, 3)) (k : W p l e R s m args below meth c H locs cells slots Q (F0 m (pc + 3) ls (.int (S 13 5) :: rest))) : W p l e R s m args below meth c H locs cells slots Q (F0 m pc ls (.ref (ad 0) :: rest)) := by
  obtain ⟨hx, hb, hg, hown, hK⟩ := C
  exact va_get (D := D) (ci := 13) (v := .int (S 13 5)) (C := RX10) (T := TX10) (N := 26) hx hb hg inX10 hown hK hW.1 0 rfl rfl 5 (by decide) (hg _ gw_1628) (fun _ h9 => h9) rfl hdg k
theorem md_put_changes (C : MdX p c cc s args m D aT) (hW : MdB D aT ad S A H0 H locs) {x : Int32} (hdg : decode cc pc = .ok (.putfield 60, 3)) (k : ∀ (H1 : Heap) (locs1 : List Loc), MdB D aT ad (ss S 5 x) A H0 H1 locs1 → W p l e R s m args below meth c H1 locs1 cells slots Q (F0 m (pc + 3) ls rest)) : W p l e R s m args below meth c H locs cells slots Q (F0 m pc ls (.int x :: .ref (ad 0) :: rest)) := by
  obtain ⟨hx, hb, hg, hown, hK⟩ := C
  refine va_put (D := D) (ci := 13) (v := .int x) (ty := .int) (C := RX10) (T := TX10) (N := 26) hx hb hg inX10 tyX10 tyX10_ok nmX10 hown hK hW.1 hW.2.1 hW.2.2 0 rfl rfl 5 (by decide) (hg _ gw_1628) (fun _ h9 => h9) rfl (by decide +kernel) rfl rfl (Nat.le_of_ble_eq_true rfl) hdg (fun H1 locs1 h1 h2 h3 => ?_)
  exact k H1 locs1 ⟨h1, mdW_D hW.2.1, h3⟩
theorem md_get_errorAt (C : MdX p c cc s args m D aT) (hW : MdB D aT ad S A H0 H locs) (hdg : decode cc pc = .ok (.getfield 22, 3)) (k : W p l e R s m args below meth c H locs cells slots Q (F0 m (pc + 3) ls (.int (S 13 6) :: rest))) : W p l e R s m args below meth c H locs cells slots Q (F0 m pc ls (.ref (ad 0) :: rest)) := by
  obtain ⟨hx, hb, hg, hown, hK⟩ := C
  exact va_get (D := D) (ci := 13) (v := .int (S 13 6)) (C := RX10) (T := TX10) (N := 26) hx hb hg inX10 hown hK hW.1 0 rfl rfl 6 (by decide) (hg _ gw_1629) (fun _ h9 => h9) rfl hdg k
theorem md_put_errorAt (C : MdX p c cc s args m D aT) (hW : MdB D aT ad S A H0 H locs) {x : Int32} (hdg : decode cc pc = .ok (.putfield 22, 3)) (k : ∀ (H1 : Heap) (locs1 : List Loc), MdB D aT ad (ss S 6 x) A H0 H1 locs1 → W p l e R s m args below meth c H1 locs1 cells slots Q (F0 m (pc + 3) ls rest)) : W p l e R s m args below meth c H locs cells slots Q (F0 m pc ls (.int x :: .ref (ad 0) :: rest)) := by
  obtain ⟨hx, hb, hg, hown, hK⟩ := C
  refine va_put (D := D) (ci := 13) (v := .int x) (ty := .int) (C := RX10) (T := TX10) (N := 26) hx hb hg inX10 tyX10 tyX10_ok nmX10 hown hK hW.1 hW.2.1 hW.2.2 0 rfl rfl 6 (by decide) (hg _ gw_1629) (fun _ h9 => h9) rfl (by decide +kernel) rfl rfl (Nat.le_of_ble_eq_true rfl) hdg (fun H1 locs1 h1 h2 h3 => ?_)
  exact k H1 locs1 ⟨h1, mdW_D hW.2.1, h3⟩
theorem md_get_failed (C : MdX p c cc s args m D aT) (hW : MdB D aT ad S A H0 H locs) (hdg : decode cc pc = .ok (.getfield 26, 3)) (k : W p l e R s m args below meth c H locs cells slots Q (F0 m (pc + 3) ls (.int (S 13 7) :: rest))) : W p l e R s m args below meth c H locs cells slots Q (F0 m pc ls (.ref (ad 0) :: rest)) := by
  obtain ⟨hx, hb, hg, hown, hK⟩ := C
  exact va_get (D := D) (ci := 13) (v := .int (S 13 7)) (C := RX10) (T := TX10) (N := 26) hx hb hg inX10 hown hK hW.1 0 rfl rfl 7 (by decide) (hg _ gw_1630) (fun _ h9 => h9) rfl hdg k
theorem md_put_failed (C : MdX p c cc s args m D aT) (hW : MdB D aT ad S A H0 H locs) {x : Int32} (hdg : decode cc pc = .ok (.putfield 26, 3)) (k : ∀ (H1 : Heap) (locs1 : List Loc), MdB D aT ad (ss S 7 x) A H0 H1 locs1 → W p l e R s m args below meth c H1 locs1 cells slots Q (F0 m (pc + 3) ls rest)) : W p l e R s m args below meth c H locs cells slots Q (F0 m pc ls (.int x :: .ref (ad 0) :: rest)) := by
  obtain ⟨hx, hb, hg, hown, hK⟩ := C
  refine va_put (D := D) (ci := 13) (v := .int x) (ty := .int) (C := RX10) (T := TX10) (N := 26) hx hb hg inX10 tyX10 tyX10_ok nmX10 hown hK hW.1 hW.2.1 hW.2.2 0 rfl rfl 7 (by decide) (hg _ gw_1630) (fun _ h9 => h9) rfl (by decide +kernel) rfl rfl (Nat.le_of_ble_eq_true rfl) hdg (fun H1 locs1 h1 h2 h3 => ?_)
  exact k H1 locs1 ⟨h1, mdW_D hW.2.1, h3⟩
theorem md_get_thrown (C : MdX p c cc s args m D aT) (hW : MdB D aT ad S A H0 H locs) (hdg : decode cc pc = .ok (.getfield 57, 3)) (k : W p l e R s m args below meth c H locs cells slots Q (F0 m (pc + 3) ls (.int (S 13 8) :: rest))) : W p l e R s m args below meth c H locs cells slots Q (F0 m pc ls (.ref (ad 0) :: rest)) := by
  obtain ⟨hx, hb, hg, hown, hK⟩ := C
  exact va_get (D := D) (ci := 13) (v := .int (S 13 8)) (C := RX10) (T := TX10) (N := 26) hx hb hg inX10 hown hK hW.1 0 rfl rfl 8 (by decide) (hg _ gw_1631) (fun _ h9 => h9) rfl hdg k
theorem md_put_thrown (C : MdX p c cc s args m D aT) (hW : MdB D aT ad S A H0 H locs) {x : Int32} (hdg : decode cc pc = .ok (.putfield 57, 3)) (k : ∀ (H1 : Heap) (locs1 : List Loc), MdB D aT ad (ss S 8 x) A H0 H1 locs1 → W p l e R s m args below meth c H1 locs1 cells slots Q (F0 m (pc + 3) ls rest)) : W p l e R s m args below meth c H locs cells slots Q (F0 m pc ls (.int x :: .ref (ad 0) :: rest)) := by
  obtain ⟨hx, hb, hg, hown, hK⟩ := C
  refine va_put (D := D) (ci := 13) (v := .int x) (ty := .int) (C := RX10) (T := TX10) (N := 26) hx hb hg inX10 tyX10 tyX10_ok nmX10 hown hK hW.1 hW.2.1 hW.2.2 0 rfl rfl 8 (by decide) (hg _ gw_1631) (fun _ h9 => h9) rfl (by decide +kernel) rfl rfl (Nat.le_of_ble_eq_true rfl) hdg (fun H1 locs1 h1 h2 h3 => ?_)
  exact k H1 locs1 ⟨h1, mdW_D hW.2.1, h3⟩
theorem md_get_inputMany (C : MdX p c cc s args m D aT) (hW : MdB D aT ad S A H0 H locs) (hdg : decode cc pc = .ok (.getfield 207, 3)) (k : W p l e R s m args below meth c H locs cells slots Q (F0 m (pc + 3) ls (.int (S 13 10) :: rest))) : W p l e R s m args below meth c H locs cells slots Q (F0 m pc ls (.ref (ad 0) :: rest)) := by
  obtain ⟨hx, hb, hg, hown, hK⟩ := C
  exact va_get (D := D) (ci := 13) (v := .int (S 13 10)) (C := RX10) (T := TX10) (N := 26) hx hb hg inX10 hown hK hW.1 0 rfl rfl 10 (by decide) (hg _ gw_1633) (fun _ h9 => h9) rfl hdg k
theorem md_put_inputMany (C : MdX p c cc s args m D aT) (hW : MdB D aT ad S A H0 H locs) {x : Int32} (hdg : decode cc pc = .ok (.putfield 207, 3)) (k : ∀ (H1 : Heap) (locs1 : List Loc), MdB D aT ad (ss S 10 x) A H0 H1 locs1 → W p l e R s m args below meth c H1 locs1 cells slots Q (F0 m (pc + 3) ls rest)) : W p l e R s m args below meth c H locs cells slots Q (F0 m pc ls (.int x :: .ref (ad 0) :: rest)) := by
  obtain ⟨hx, hb, hg, hown, hK⟩ := C
  refine va_put (D := D) (ci := 13) (v := .int x) (ty := .int) (C := RX10) (T := TX10) (N := 26) hx hb hg inX10 tyX10 tyX10_ok nmX10 hown hK hW.1 hW.2.1 hW.2.2 0 rfl rfl 10 (by decide) (hg _ gw_1633) (fun _ h9 => h9) rfl (by decide +kernel) rfl rfl (Nat.le_of_ble_eq_true rfl) hdg (fun H1 locs1 h1 h2 h3 => ?_)
  exact k H1 locs1 ⟨h1, mdW_D hW.2.1, h3⟩
theorem md_get_worthAll (C : MdX p c cc s args m D aT) (hW : MdB D aT ad S A H0 H locs) (hdg : decode cc pc = .ok (.getfield 190, 3)) (k : W p l e R s m args below meth c H locs cells slots Q (F0 m (pc + 3) ls (.int (S 13 15) :: rest))) : W p l e R s m args below meth c H locs cells slots Q (F0 m pc ls (.ref (ad 0) :: rest)) := by
  obtain ⟨hx, hb, hg, hown, hK⟩ := C
  exact va_get (D := D) (ci := 13) (v := .int (S 13 15)) (C := RX10) (T := TX10) (N := 26) hx hb hg inX10 hown hK hW.1 0 rfl rfl 15 (by decide) (hg _ gw_1638) (fun _ h9 => h9) rfl hdg k
theorem md_put_worthAll (C : MdX p c cc s args m D aT) (hW : MdB D aT ad S A H0 H locs) {x : Int32} (hdg : decode cc pc = .ok (.putfield 190, 3)) (k : ∀ (H1 : Heap) (locs1 : List Loc), MdB D aT ad (ss S 15 x) A H0 H1 locs1 → W p l e R s m args below meth c H1 locs1 cells slots Q (F0 m (pc + 3) ls rest)) : W p l e R s m args below meth c H locs cells slots Q (F0 m pc ls (.int x :: .ref (ad 0) :: rest)) := by
  obtain ⟨hx, hb, hg, hown, hK⟩ := C
  refine va_put (D := D) (ci := 13) (v := .int x) (ty := .int) (C := RX10) (T := TX10) (N := 26) hx hb hg inX10 tyX10 tyX10_ok nmX10 hown hK hW.1 hW.2.1 hW.2.2 0 rfl rfl 15 (by decide) (hg _ gw_1638) (fun _ h9 => h9) rfl (by decide +kernel) rfl rfl (Nat.le_of_ble_eq_true rfl) hdg (fun H1 locs1 h1 h2 h3 => ?_)
  exact k H1 locs1 ⟨h1, mdW_D hW.2.1, h3⟩
theorem md_get_setsAll (C : MdX p c cc s args m D aT) (hW : MdB D aT ad S A H0 H locs) (hdg : decode cc pc = .ok (.getfield 193, 3)) (k : W p l e R s m args below meth c H locs cells slots Q (F0 m (pc + 3) ls (.int (S 13 16) :: rest))) : W p l e R s m args below meth c H locs cells slots Q (F0 m pc ls (.ref (ad 0) :: rest)) := by
  obtain ⟨hx, hb, hg, hown, hK⟩ := C
  exact va_get (D := D) (ci := 13) (v := .int (S 13 16)) (C := RX10) (T := TX10) (N := 26) hx hb hg inX10 hown hK hW.1 0 rfl rfl 16 (by decide) (hg _ gw_1639) (fun _ h9 => h9) rfl hdg k
theorem md_put_setsAll (C : MdX p c cc s args m D aT) (hW : MdB D aT ad S A H0 H locs) {x : Int32} (hdg : decode cc pc = .ok (.putfield 193, 3)) (k : ∀ (H1 : Heap) (locs1 : List Loc), MdB D aT ad (ss S 16 x) A H0 H1 locs1 → W p l e R s m args below meth c H1 locs1 cells slots Q (F0 m (pc + 3) ls rest)) : W p l e R s m args below meth c H locs cells slots Q (F0 m pc ls (.int x :: .ref (ad 0) :: rest)) := by
  obtain ⟨hx, hb, hg, hown, hK⟩ := C
  refine va_put (D := D) (ci := 13) (v := .int x) (ty := .int) (C := RX10) (T := TX10) (N := 26) hx hb hg inX10 tyX10 tyX10_ok nmX10 hown hK hW.1 hW.2.1 hW.2.2 0 rfl rfl 16 (by decide) (hg _ gw_1639) (fun _ h9 => h9) rfl (by decide +kernel) rfl rfl (Nat.le_of_ble_eq_true rfl) hdg (fun H1 locs1 h1 h2 h3 => ?_)
  exact k H1 locs1 ⟨h1, mdW_D hW.2.1, h3⟩
theorem md_get_commandMany (C : MdX p c cc s args m D aT) (hW : MdB D aT ad S A H0 H locs) (hdg : decode cc pc = .ok (.getfield 242, 3)) (k : W p l e R s m args below meth c H locs cells slots Q (F0 m (pc + 3) ls (.int (S 13 20) :: rest))) : W p l e R s m args below meth c H locs cells slots Q (F0 m pc ls (.ref (ad 0) :: rest)) := by
  obtain ⟨hx, hb, hg, hown, hK⟩ := C
  exact va_get (D := D) (ci := 13) (v := .int (S 13 20)) (C := RX10) (T := TX10) (N := 26) hx hb hg inX10 hown hK hW.1 0 rfl rfl 20 (by decide) (hg _ gw_1643) (fun _ h9 => h9) rfl hdg k
theorem md_put_commandMany (C : MdX p c cc s args m D aT) (hW : MdB D aT ad S A H0 H locs) {x : Int32} (hdg : decode cc pc = .ok (.putfield 242, 3)) (k : ∀ (H1 : Heap) (locs1 : List Loc), MdB D aT ad (ss S 20 x) A H0 H1 locs1 → W p l e R s m args below meth c H1 locs1 cells slots Q (F0 m (pc + 3) ls rest)) : W p l e R s m args below meth c H locs cells slots Q (F0 m pc ls (.int x :: .ref (ad 0) :: rest)) := by
  obtain ⟨hx, hb, hg, hown, hK⟩ := C
  refine va_put (D := D) (ci := 13) (v := .int x) (ty := .int) (C := RX10) (T := TX10) (N := 26) hx hb hg inX10 tyX10 tyX10_ok nmX10 hown hK hW.1 hW.2.1 hW.2.2 0 rfl rfl 20 (by decide) (hg _ gw_1643) (fun _ h9 => h9) rfl (by decide +kernel) rfl rfl (Nat.le_of_ble_eq_true rfl) hdg (fun H1 locs1 h1 h2 h3 => ?_)
  exact k H1 locs1 ⟨h1, mdW_D hW.2.1, h3⟩
theorem md_get_place0 (C : MdX p c cc s args m D aT) (hW : MdB D aT ad S A H0 H locs) (hdg : decode cc pc = .ok (.getfield 210, 3)) (k : W p l e R s m args below meth c H locs cells slots Q (F0 m (pc + 3) ls (.int (S 13 21) :: rest))) : W p l e R s m args below meth c H locs cells slots Q (F0 m pc ls (.ref (ad 0) :: rest)) := by
  obtain ⟨hx, hb, hg, hown, hK⟩ := C
  exact va_get (D := D) (ci := 13) (v := .int (S 13 21)) (C := RX10) (T := TX10) (N := 26) hx hb hg inX10 hown hK hW.1 0 rfl rfl 21 (by decide) (hg _ gw_1644) (fun _ h9 => h9) rfl hdg k
theorem md_put_place0 (C : MdX p c cc s args m D aT) (hW : MdB D aT ad S A H0 H locs) {x : Int32} (hdg : decode cc pc = .ok (.putfield 210, 3)) (k : ∀ (H1 : Heap) (locs1 : List Loc), MdB D aT ad (ss S 21 x) A H0 H1 locs1 → W p l e R s m args below meth c H1 locs1 cells slots Q (F0 m (pc + 3) ls rest)) : W p l e R s m args below meth c H locs cells slots Q (F0 m pc ls (.int x :: .ref (ad 0) :: rest)) := by
  obtain ⟨hx, hb, hg, hown, hK⟩ := C
  refine va_put (D := D) (ci := 13) (v := .int x) (ty := .int) (C := RX10) (T := TX10) (N := 26) hx hb hg inX10 tyX10 tyX10_ok nmX10 hown hK hW.1 hW.2.1 hW.2.2 0 rfl rfl 21 (by decide) (hg _ gw_1644) (fun _ h9 => h9) rfl (by decide +kernel) rfl rfl (Nat.le_of_ble_eq_true rfl) hdg (fun H1 locs1 h1 h2 h3 => ?_)
  exact k H1 locs1 ⟨h1, mdW_D hW.2.1, h3⟩
theorem md_get_size0 (C : MdX p c cc s args m D aT) (hW : MdB D aT ad S A H0 H locs) (hdg : decode cc pc = .ok (.getfield 213, 3)) (k : W p l e R s m args below meth c H locs cells slots Q (F0 m (pc + 3) ls (.int (S 13 22) :: rest))) : W p l e R s m args below meth c H locs cells slots Q (F0 m pc ls (.ref (ad 0) :: rest)) := by
  obtain ⟨hx, hb, hg, hown, hK⟩ := C
  exact va_get (D := D) (ci := 13) (v := .int (S 13 22)) (C := RX10) (T := TX10) (N := 26) hx hb hg inX10 hown hK hW.1 0 rfl rfl 22 (by decide) (hg _ gw_1645) (fun _ h9 => h9) rfl hdg k
theorem md_put_size0 (C : MdX p c cc s args m D aT) (hW : MdB D aT ad S A H0 H locs) {x : Int32} (hdg : decode cc pc = .ok (.putfield 213, 3)) (k : ∀ (H1 : Heap) (locs1 : List Loc), MdB D aT ad (ss S 22 x) A H0 H1 locs1 → W p l e R s m args below meth c H1 locs1 cells slots Q (F0 m (pc + 3) ls rest)) : W p l e R s m args below meth c H locs cells slots Q (F0 m pc ls (.int x :: .ref (ad 0) :: rest)) := by
  obtain ⟨hx, hb, hg, hown, hK⟩ := C
  refine va_put (D := D) (ci := 13) (v := .int x) (ty := .int) (C := RX10) (T := TX10) (N := 26) hx hb hg inX10 tyX10 tyX10_ok nmX10 hown hK hW.1 hW.2.1 hW.2.2 0 rfl rfl 22 (by decide) (hg _ gw_1645) (fun _ h9 => h9) rfl (by decide +kernel) rfl rfl (Nat.le_of_ble_eq_true rfl) hdg (fun H1 locs1 h1 h2 h3 => ?_)
  exact k H1 locs1 ⟨h1, mdW_D hW.2.1, h3⟩
theorem md_get_isWrong (C : MdX p c cc s args m D aT) (hW : MdB D aT ad S A H0 H locs) (hdg : decode cc pc = .ok (.getfield 216, 3)) (k : W p l e R s m args below meth c H locs cells slots Q (F0 m (pc + 3) ls (.int (S 13 23) :: rest))) : W p l e R s m args below meth c H locs cells slots Q (F0 m pc ls (.ref (ad 0) :: rest)) := by
  obtain ⟨hx, hb, hg, hown, hK⟩ := C
  exact va_get (D := D) (ci := 13) (v := .int (S 13 23)) (C := RX10) (T := TX10) (N := 26) hx hb hg inX10 hown hK hW.1 0 rfl rfl 23 (by decide) (hg _ gw_1646) (fun _ h9 => h9) rfl hdg k
theorem md_put_isWrong (C : MdX p c cc s args m D aT) (hW : MdB D aT ad S A H0 H locs) {x : Int32} (hz : narrow .boolean (.int x) = .int x) (hf : fits .boolean (.int x) = true) (hdg : decode cc pc = .ok (.putfield 216, 3)) (k : ∀ (H1 : Heap) (locs1 : List Loc), MdB D aT ad (ss S 23 x) A H0 H1 locs1 → W p l e R s m args below meth c H1 locs1 cells slots Q (F0 m (pc + 3) ls rest)) : W p l e R s m args below meth c H locs cells slots Q (F0 m pc ls (.int x :: .ref (ad 0) :: rest)) := by
  obtain ⟨hx, hb, hg, hown, hK⟩ := C
  refine va_put (D := D) (ci := 13) (v := .int x) (ty := .boolean) (C := RX10) (T := TX10) (N := 26) hx hb hg inX10 tyX10 tyX10_ok nmX10 hown hK hW.1 hW.2.1 hW.2.2 0 rfl rfl 23 (by decide) (hg _ gw_1646) (fun _ h9 => h9) rfl (by decide +kernel) hz hf (Nat.le_of_ble_eq_true rfl) hdg (fun H1 locs1 h1 h2 h3 => ?_)
  exact k H1 locs1 ⟨h1, mdW_D hW.2.1, h3⟩
theorem md_get_lineMany (C : MdX p c cc s args m D aT) (hW : MdB D aT ad S A H0 H locs) (hdg : decode cc pc = .ok (.getfield 258, 3)) (k : W p l e R s m args below meth c H locs cells slots Q (F0 m (pc + 3) ls (.int (S 13 25) :: rest))) : W p l e R s m args below meth c H locs cells slots Q (F0 m pc ls (.ref (ad 0) :: rest)) := by
  obtain ⟨hx, hb, hg, hown, hK⟩ := C
  exact va_get (D := D) (ci := 13) (v := .int (S 13 25)) (C := RX10) (T := TX10) (N := 26) hx hb hg inX10 hown hK hW.1 0 rfl rfl 25 (by decide) (hg _ gw_1648) (fun _ h9 => h9) rfl hdg k
theorem md_put_lineMany (C : MdX p c cc s args m D aT) (hW : MdB D aT ad S A H0 H locs) {x : Int32} (hdg : decode cc pc = .ok (.putfield 258, 3)) (k : ∀ (H1 : Heap) (locs1 : List Loc), MdB D aT ad (ss S 25 x) A H0 H1 locs1 → W p l e R s m args below meth c H1 locs1 cells slots Q (F0 m (pc + 3) ls rest)) : W p l e R s m args below meth c H locs cells slots Q (F0 m pc ls (.int x :: .ref (ad 0) :: rest)) := by
  obtain ⟨hx, hb, hg, hown, hK⟩ := C
  refine va_put (D := D) (ci := 13) (v := .int x) (ty := .int) (C := RX10) (T := TX10) (N := 26) hx hb hg inX10 tyX10 tyX10_ok nmX10 hown hK hW.1 hW.2.1 hW.2.2 0 rfl rfl 25 (by decide) (hg _ gw_1648) (fun _ h9 => h9) rfl (by decide +kernel) rfl rfl (Nat.le_of_ble_eq_true rfl) hdg (fun H1 locs1 h1 h2 h3 => ?_)
  exact k H1 locs1 ⟨h1, mdW_D hW.2.1, h3⟩
end MDR
end
section
section W3
variable {p : Program} {l : Launch} {e : Env} {R : Room} {s : State} {m : MethodId} {args : Array Value} {below : List Frame} {meth : Method} {c : Code} {H : Heap} {locs : List Loc} {cells slots : Nat} {Q : State → Prop} {cc : ByteArray} {pc : Nat} {ls : Array Slot} {rest : List Value}
/-- a loop that writes nothing: a measure that falls -/
theorem W_loopR {σ : Type} (μ : σ → Nat) (G : σ → JFrame → Prop) (body : ∀ x g, G x g → (∀ y g', μ y < μ x → G y g' → W p l e R s m args below meth c H locs cells slots Q g') → W p l e R s m args below meth c H locs cells slots Q g) (x : σ) (g : JFrame) (h : G x g) : W p l e R s m args below meth c H locs cells slots Q g := by
  have key : ∀ n x g, μ x < n → G x g → W p l e R s m args below meth c H locs cells slots Q g := by
    intro n
    induction n with
    | zero => intro x g hx; exact absurd hx (Nat.not_lt_zero _)
    | succ n ih => intro x g hx hg; exact body x g hg (fun y g' hy hg' => ih y g' (by omega) hg')
  exact key _ x g (Nat.lt_succ_self _) h
/-- a loop that writes -/
theorem W_loopH {σ : Type} (μ : σ → Nat) (G : σ → Heap → List Loc → JFrame → Prop) (body : ∀ x H locs g, G x H locs g → (∀ y H' locs' g', μ y < μ x → G y H' locs' g' → W p l e R s m args below meth c H' locs' cells slots Q g') → W p l e R s m args below meth c H locs cells slots Q g) (x : σ) (g : JFrame) (h : G x H locs g) : W p l e R s m args below meth c H locs cells slots Q g := by
  have key : ∀ n x H locs g, μ x < n → G x H locs g → W p l e R s m args below meth c H locs cells slots Q g := by
    intro n
    induction n with
    | zero => intro x H locs g hx; exact absurd hx (Nat.not_lt_zero _)
    | succ n ih => intro x H locs g hx hg; exact body x H locs g hg (fun y H' locs' g' hy hg' => ih y H' locs' g' (by omega) hg')
  exact key _ x H locs g (Nat.lt_succ_self _) h
theorem r_iaddN (hx : p.tables.exec = Jvm.exec) (hb : c.code = cc) {a b : Nat} (hdg : decode cc pc = .ok (.iadd, 1)) (k : W p l e R s m args below meth c H locs cells slots Q (F0 m (pc + 1) ls (.int (nI (a + b)) :: rest))) : W p l e R s m args below meth c H locs cells slots Q (F0 m pc ls (.int (nI b) :: .int (nI a) :: rest)) := lv_iadd hx hb hdg (by rw [nI_add]; exact k)
theorem r_isubN (hx : p.tables.exec = Jvm.exec) (hb : c.code = cc) {a b : Nat} (h : b ≤ a) (hdg : decode cc pc = .ok (.isub, 1)) (k : W p l e R s m args below meth c H locs cells slots Q (F0 m (pc + 1) ls (.int (nI (a - b)) :: rest))) : W p l e R s m args below meth c H locs cells slots Q (F0 m pc ls (.int (nI b) :: .int (nI a) :: rest)) := lv_isub hx hb hdg (by rw [pk_sub h]; exact k)
theorem r_imulN (hx : p.tables.exec = Jvm.exec) (hb : c.code = cc) {a b : Nat} (hdg : decode cc pc = .ok (.imul, 1)) (k : W p l e R s m args below meth c H locs cells slots Q (F0 m (pc + 1) ls (.int (nI (a * b)) :: rest))) : W p l e R s m args below meth c H locs cells slots Q (F0 m pc ls (.int (nI b) :: .int (nI a) :: rest)) := lv_imul hx hb hdg (by rw [pk_mul]; exact k)
theorem r_eq {x y : Int32} (h : x = y) (k : W p l e R s m args below meth c H locs cells slots Q (F0 m pc ls (.int y :: rest))) : W p l e R s m args below meth c H locs cells slots Q (F0 m pc ls (.int x :: rest)) := by rw [h]; exact k
theorem r_ltN (hx : p.tables.exec = Jvm.exec) (hb : c.code = cc) {a b : Nat} (ha : a < 2 ^ 31) (hb' : b < 2 ^ 31) {off : Int} {tgt : Nat} (hdg : decode cc pc = .ok (.if_icmp .lt off, 3)) (ht : (pc : Int) + off = (tgt : Int)) (kt : a < b → W p l e R s m args below meth c H locs cells slots Q (F0 m tgt ls rest)) (kf : b ≤ a → W p l e R s m args below meth c H locs cells slots Q (F0 m (pc + 3) ls rest)) : W p l e R s m args below meth c H locs cells slots Q (F0 m pc ls (.int (nI b) :: .int (nI a) :: rest)) :=
  lv_icmp_lt hx hb hdg ht (fun h => kt ((nI_ltI ha hb').mp h)) (fun h => kf (Nat.not_lt.mp (fun q => h ((nI_ltI ha hb').mpr q))))
theorem r_geN (hx : p.tables.exec = Jvm.exec) (hb : c.code = cc) {a b : Nat} (ha : a < 2 ^ 31) (hb' : b < 2 ^ 31) {off : Int} {tgt : Nat} (hdg : decode cc pc = .ok (.if_icmp .ge off, 3)) (ht : (pc : Int) + off = (tgt : Int)) (kt : b ≤ a → W p l e R s m args below meth c H locs cells slots Q (F0 m tgt ls rest)) (kf : a < b → W p l e R s m args below meth c H locs cells slots Q (F0 m (pc + 3) ls rest)) : W p l e R s m args below meth c H locs cells slots Q (F0 m pc ls (.int (nI b) :: .int (nI a) :: rest)) :=
  lv_icmp_ge hx hb hdg ht (fun h => kt ((nI_leI hb' ha).mp h)) (fun h => kf (Nat.not_le.mp (fun q => h ((nI_leI hb' ha).mpr q))))
theorem r_gtN (hx : p.tables.exec = Jvm.exec) (hb : c.code = cc) {a b : Nat} (ha : a < 2 ^ 31) (hb' : b < 2 ^ 31) {off : Int} {tgt : Nat} (hdg : decode cc pc = .ok (.if_icmp .gt off, 3)) (ht : (pc : Int) + off = (tgt : Int)) (kt : b < a → W p l e R s m args below meth c H locs cells slots Q (F0 m tgt ls rest)) (kf : a ≤ b → W p l e R s m args below meth c H locs cells slots Q (F0 m (pc + 3) ls rest)) : W p l e R s m args below meth c H locs cells slots Q (F0 m pc ls (.int (nI b) :: .int (nI a) :: rest)) :=
  lv_icmp_gt hx hb hdg ht (fun h => kt ((nI_ltI hb' ha).mp h)) (fun h => kf (Nat.not_lt.mp (fun q => h ((nI_ltI hb' ha).mpr q))))
theorem r_leN (hx : p.tables.exec = Jvm.exec) (hb : c.code = cc) {a b : Nat} (ha : a < 2 ^ 31) (hb' : b < 2 ^ 31) {off : Int} {tgt : Nat} (hdg : decode cc pc = .ok (.if_icmp .le off, 3)) (ht : (pc : Int) + off = (tgt : Int)) (kt : a ≤ b → W p l e R s m args below meth c H locs cells slots Q (F0 m tgt ls rest)) (kf : b < a → W p l e R s m args below meth c H locs cells slots Q (F0 m (pc + 3) ls rest)) : W p l e R s m args below meth c H locs cells slots Q (F0 m pc ls (.int (nI b) :: .int (nI a) :: rest)) :=
  lv_icmp_le hx hb hdg ht (fun h => kt ((nI_leI ha hb').mp h)) (fun h => kf (Nat.not_le.mp (fun q => h ((nI_leI ha hb').mpr q))))
theorem r_neN (hx : p.tables.exec = Jvm.exec) (hb : c.code = cc) {a b : Nat} (ha : a < 2 ^ 31) (hb' : b < 2 ^ 31) {off : Int} {tgt : Nat} (hdg : decode cc pc = .ok (.if_icmp .ne off, 3)) (ht : (pc : Int) + off = (tgt : Int)) (kt : a ≠ b → W p l e R s m args below meth c H locs cells slots Q (F0 m tgt ls rest)) (kf : a = b → W p l e R s m args below meth c H locs cells slots Q (F0 m (pc + 3) ls rest)) : W p l e R s m args below meth c H locs cells slots Q (F0 m pc ls (.int (nI b) :: .int (nI a) :: rest)) :=
  lv_icmp_ne hx hb hdg ht (fun h => kt (fun q => h ((nI_eq ha hb').mpr q))) (fun h => kf ((nI_eq ha hb').mp h))
theorem r_eqN (hx : p.tables.exec = Jvm.exec) (hb : c.code = cc) {a b : Nat} (ha : a < 2 ^ 31) (hb' : b < 2 ^ 31) {off : Int} {tgt : Nat} (hdg : decode cc pc = .ok (.if_icmp .eq off, 3)) (ht : (pc : Int) + off = (tgt : Int)) (kt : a = b → W p l e R s m args below meth c H locs cells slots Q (F0 m tgt ls rest)) (kf : a ≠ b → W p l e R s m args below meth c H locs cells slots Q (F0 m (pc + 3) ls rest)) : W p l e R s m args below meth c H locs cells slots Q (F0 m pc ls (.int (nI b) :: .int (nI a) :: rest)) :=
  lv_icmp_eq hx hb hdg ht (fun h => kt ((nI_eq ha hb').mp h)) (fun h => kf (fun q => h ((nI_eq ha hb').mpr q)))
/-- a place, or none -/
def oi : Option Nat → Int32
  | none => -1
  | some j => nI j
/-- true or false as the machine has them -/
def bI (b : Bool) : Int32 := if b then 1 else 0
theorem oi_none {o : Option Nat} (h : ∀ j, o = some j → j < 2 ^ 31) : oi o = -1 ↔ o = none := by
  cases o with
  | none => simp [oi]
  | some j =>
    have hj := h j rfl
    refine ⟨fun q => ?_, fun q => by cases q⟩
    have h1 : (nI j).toInt = (-1 : Int32).toInt := by rw [show nI j = -1 from q]
    rw [nI_toInt hj] at h1
    have h2 : (-1 : Int32).toInt = -1 := by decide
    omega
theorem r_oi_ne (hx : p.tables.exec = Jvm.exec) (hb : c.code = cc) {o : Option Nat} (ho : ∀ j, o = some j → j < 2 ^ 31) {off : Int} {tgt : Nat} (hdg : decode cc pc = .ok (.if_icmp .ne off, 3)) (ht : (pc : Int) + off = (tgt : Int)) (kt : ∀ j, o = some j → W p l e R s m args below meth c H locs cells slots Q (F0 m tgt ls rest)) (kf : o = none → W p l e R s m args below meth c H locs cells slots Q (F0 m (pc + 3) ls rest)) : W p l e R s m args below meth c H locs cells slots Q (F0 m pc ls (.int (-1) :: .int (oi o) :: rest)) := by
  refine lv_icmp_ne hx hb hdg ht (fun h => ?_) (fun h => ?_)
  · cases o with
    | none => exact absurd rfl h
    | some j => exact kt j rfl
  · exact kf ((oi_none ho).mp h)
theorem r_oi_eq (hx : p.tables.exec = Jvm.exec) (hb : c.code = cc) {o : Option Nat} (ho : ∀ j, o = some j → j < 2 ^ 31) {off : Int} {tgt : Nat} (hdg : decode cc pc = .ok (.if_icmp .eq off, 3)) (ht : (pc : Int) + off = (tgt : Int)) (kt : o = none → W p l e R s m args below meth c H locs cells slots Q (F0 m tgt ls rest)) (kf : ∀ j, o = some j → W p l e R s m args below meth c H locs cells slots Q (F0 m (pc + 3) ls rest)) : W p l e R s m args below meth c H locs cells slots Q (F0 m pc ls (.int (-1) :: .int (oi o) :: rest)) := by
  refine lv_icmp_eq hx hb hdg ht (fun h => kt ((oi_none ho).mp h)) (fun h => ?_)
  cases o with
  | none => exact absurd rfl h
  | some j => exact kf j rfl
theorem r_bI_eq (hx : p.tables.exec = Jvm.exec) (hb : c.code = cc) {b : Bool} {off : Int} {tgt : Nat} (hdg : decode cc pc = .ok (.ifCond .eq off, 3)) (ht : (pc : Int) + off = (tgt : Int)) (kt : b = false → W p l e R s m args below meth c H locs cells slots Q (F0 m tgt ls rest)) (kf : b = true → W p l e R s m args below meth c H locs cells slots Q (F0 m (pc + 3) ls rest)) : W p l e R s m args below meth c H locs cells slots Q (F0 m pc ls (.int (bI b) :: rest)) := by
  refine lv_if_eq hx hb hdg ht (fun h => ?_) (fun h => ?_)
  · cases b with
    | false => exact kt rfl
    | true => exact absurd h (by decide)
  · cases b with
    | false => exact absurd rfl h
    | true => exact kf rfl
theorem r_bI_ne (hx : p.tables.exec = Jvm.exec) (hb : c.code = cc) {b : Bool} {off : Int} {tgt : Nat} (hdg : decode cc pc = .ok (.ifCond .ne off, 3)) (ht : (pc : Int) + off = (tgt : Int)) (kt : b = true → W p l e R s m args below meth c H locs cells slots Q (F0 m tgt ls rest)) (kf : b = false → W p l e R s m args below meth c H locs cells slots Q (F0 m (pc + 3) ls rest)) : W p l e R s m args below meth c H locs cells slots Q (F0 m pc ls (.int (bI b) :: rest)) := by
  refine lv_if_ne hx hb hdg ht (fun h => ?_) (fun h => ?_)
  · cases b with
    | false => exact absurd rfl h
    | true => exact kt rfl
  · cases b with
    | false => exact kf rfl
    | true => exact absurd h (by decide)
theorem bI_nar (b : Bool) : narrow .boolean (.int (bI b)) = .int (bI b) := by cases b <;> decide
theorem bI_fit (b : Bool) : fits .boolean (.int (bI b)) = true := by cases b <;> decide
theorem gdV {own C : String} {idx : Nat} {y : MethodName} {b : ByteArray} {L : Nat} {ret : Option FieldType} (h1 : Cond.methodLink own idx y ∈ gw) (h2 : Cond.instanceMethod y ∈ gw) (h3 : Cond.selects C y y ∈ gw) (h4 : Cond.initialized C ∈ gw) (h5 : Cond.code y b L ret ∈ gw) : GoodIn gw (wsV own idx C y (Cond.code y b L ret :: gw)) := by
  intro w hw
  have h : w ∈ gw := by
    unfold wsV at hw
    simp only [List.cons_append, List.nil_append, List.mem_cons] at hw
    rcases hw with rfl | rfl | rfl | rfl | rfl | hw
    · exact h1
    · exact h2
    · exact h3
    · exact h4
    · exact h5
    · exact hw
  exact ⟨h, gw_good w h⟩
theorem gdS {own : String} {idx : Nat} {y : MethodName} {b : ByteArray} {L : Nat} {ret : Option FieldType} (h1 : Cond.methodLink own idx y ∈ gw) (h2 : Cond.static y ∈ gw) (h4 : Cond.initialized own ∈ gw) (h5 : Cond.code y b L ret ∈ gw) : GoodIn gw (wsS own idx y (Cond.code y b L ret :: gw)) := by
  intro w hw
  have h : w ∈ gw := by
    unfold wsS at hw
    simp only [List.cons_append, List.nil_append, List.mem_cons] at hw
    rcases hw with rfl | rfl | rfl | rfl | hw
    · exact h1
    · exact h2
    · exact h4
    · exact h5
    · exact hw
  exact ⟨h, gw_good w h⟩
end W3
section MDC
variable {p : Program} {l : Launch} {e : Env} {R : Room} {s : State} {m : MethodId} {args : Array Value} {below : List Frame} {meth : Method} {c : Code} {H : Heap} {locs : List Loc} {cells slots : Nat} {Q : State → Prop} {cc : ByteArray} {pc : Nat} {ls : Array Slot} {rest : List Value} {D : va_G} {aT : Nat → ClassId} {ad : Nat → Nat} {S : MSt} {A : Nat → Prop} {H0 : Heap} {nL : Nat}
theorem md_blind (As : List Value) (sz : Nat) : FrameBlind (va_Pc As (mdB1 D aT ad S sz)) := fun a U g mk q => by
  obtain ⟨q0, q1, qP, qK, qD⟩ := q
  exact ⟨q0, q1, qP, va_K.moved (u := U) (U := U.calling g mk a) (Vm.Alike.refl U.vm) qK, qD⟩
theorem md_calli (C : MdX p c cc s args m D aT) (hml : c.maxLocals = nL) (hls : ls.size = nL) {y : MethodName} {b : ByteArray} {L : Nat} {ret : FieldType} {fr lo idx n : Nat} {As st : List Value} {post : Int32 → MSt → Prop} (hM : MdI l y b L ret fr lo D aT ad (.ref (ad 0) :: As) S post)
    (hT : GoodIn gw (wsV RX10 idx RX10 y (Cond.code y b L (some ret) :: gw))) (hd : y.cls = RX10 ∧ y.cls ≠ "java/lang/invoke/MethodHandle" ∧ y.cls ≠ "java/lang/invoke/VarHandle" ∧ (parseMethodDescriptor y.desc).map (fun d => d.parameters.length) = some n) (hn : As.length = n)
    (hR : fr + 1 ≤ R.frames ∧ 8 + (L + 11) + lo ≤ R.locals) (hcs : cells ≤ R.cells ∧ slots ≤ R.slots) (hW : MdB D aT ad S A H0 H locs) (hA : ∀ q, H0.size ≤ q → A q) (hst : st = As.reverse ++ .ref (ad 0) :: rest) (hw : (rest.map fun v => v.category).sum ≤ 8)
    (hdg : decode cc pc = .ok (.invokevirtual idx, 3)) (k : ∀ (r : Int32) (S1 : MSt) (H1 : Heap) (locs1 : List Loc), post r S1 → MdB D aT ad S1 A H0 H1 locs1 → W p l e R s m args below meth c H1 locs1 cells slots Q (F0 m (pc + 3) ls (.int r :: rest))) : W p l e R s m args below meth c H locs cells slots Q (F0 m pc ls st) := by
  obtain ⟨hx, hb, hg, hown, hK⟩ := C
  obtain ⟨hP, hD, hS⟩ := hW
  subst hst
  have hAq : ∀ q, va_A (mdW aT ad S) H.size q → A q := by
    intro q h
    rcases h with ⟨j, e1, h⟩ | h
    · exact hD.2 j _ h
    · exact hA q (Nat.le_trans hS.1 h)
  refine va_calli (va_runV (As := As) (rest := rest) ⟨hx, hb, hml, hown, hg⟩ (hM H.size) (cwV n hg hT rfl rfl rfl hd hR) ⟨md_blind _ _, va_recv hK hP (ci := 13) (q0 := 0) rfl rfl, fun U hU hW => ⟨rfl, by rw [hU], by rw [hU]; exact hP, va_K.moved hW.alike hK, hD.weaken (fun _ _ _ _ => trivial)⟩⟩ rfl hn hls rfl (lv_room hw) hdg hcs) hS (fun q _ h => hAq q h) hAq (fun r u t H1 locs1 ht hvm hq hB hz hk hS1 => ?_)
  obtain ⟨hP1, hK1, hD1⟩ := hB
  rw [ht] at hP1
  exact k r u H1 locs1 hq ⟨hP1, mdW_D hD, hS1⟩
theorem md_callv (C : MdX p c cc s args m D aT) (hml : c.maxLocals = nL) (hls : ls.size = nL) {y : MethodName} {b : ByteArray} {L : Nat} {fr lo idx n : Nat} {As st : List Value} {post : MSt → Prop} (hM : MdV l y b L fr lo D aT ad (.ref (ad 0) :: As) S post)
    (hT : GoodIn gw (wsV RX10 idx RX10 y (Cond.code y b L none :: gw))) (hd : y.cls = RX10 ∧ y.cls ≠ "java/lang/invoke/MethodHandle" ∧ y.cls ≠ "java/lang/invoke/VarHandle" ∧ (parseMethodDescriptor y.desc).map (fun d => d.parameters.length) = some n) (hn : As.length = n)
    (hR : fr + 1 ≤ R.frames ∧ 8 + (L + 11) + lo ≤ R.locals) (hcs : cells ≤ R.cells ∧ slots ≤ R.slots) (hW : MdB D aT ad S A H0 H locs) (hA : ∀ q, H0.size ≤ q → A q) (hst : st = As.reverse ++ .ref (ad 0) :: rest) (hw : (rest.map fun v => v.category).sum ≤ 8)
    (hdg : decode cc pc = .ok (.invokevirtual idx, 3)) (k : ∀ (S1 : MSt) (H1 : Heap) (locs1 : List Loc), post S1 → MdB D aT ad S1 A H0 H1 locs1 → W p l e R s m args below meth c H1 locs1 cells slots Q (F0 m (pc + 3) ls rest)) : W p l e R s m args below meth c H locs cells slots Q (F0 m pc ls st) := by
  obtain ⟨hx, hb, hg, hown, hK⟩ := C
  obtain ⟨hP, hD, hS⟩ := hW
  subst hst
  have hAq : ∀ q, va_A (mdW aT ad S) H.size q → A q := by
    intro q h
    rcases h with ⟨j, e1, h⟩ | h
    · exact hD.2 j _ h
    · exact hA q (Nat.le_trans hS.1 h)
  refine va_callv (va_runV (As := As) (rest := rest) ⟨hx, hb, hml, hown, hg⟩ (hM H.size) (cwV n hg hT rfl rfl rfl hd hR) ⟨md_blind _ _, va_recv hK hP (ci := 13) (q0 := 0) rfl rfl, fun U hU hW => ⟨rfl, by rw [hU], by rw [hU]; exact hP, va_K.moved hW.alike hK, hD.weaken (fun _ _ _ _ => trivial)⟩⟩ rfl hn hls rfl (lv_room hw) hdg hcs) hS (fun q _ h => hAq q h) hAq (fun u t H1 locs1 ht hvm hq hB hz hk hS1 => ?_)
  obtain ⟨hP1, hK1, hD1⟩ := hB
  rw [ht] at hP1
  exact k u H1 locs1 hq ⟨hP1, mdW_D hD, hS1⟩
/-- .. that answers an int and leaves its state -/
def MdG (l : Launch) (y : MethodName) (b : ByteArray) (L : Nat) (ret : FieldType) (fr lo : Nat) (D : va_G) (aT : Nat → ClassId) (ad : Nat → Nat) (As : List Value) (S : MSt) (post : Int32 → Prop) : Prop := MdI l y b L ret fr lo D aT ad As S (fun r S1 => post r ∧ S1 = S)
theorem md_callg (C : MdX p c cc s args m D aT) (hml : c.maxLocals = nL) (hls : ls.size = nL) {y : MethodName} {b : ByteArray} {L : Nat} {ret : FieldType} {fr lo idx n : Nat} {As st : List Value} {post : Int32 → Prop} (hM : MdG l y b L ret fr lo D aT ad (.ref (ad 0) :: As) S post)
    (hT : GoodIn gw (wsV RX10 idx RX10 y (Cond.code y b L (some ret) :: gw))) (hd : y.cls = RX10 ∧ y.cls ≠ "java/lang/invoke/MethodHandle" ∧ y.cls ≠ "java/lang/invoke/VarHandle" ∧ (parseMethodDescriptor y.desc).map (fun d => d.parameters.length) = some n) (hn : As.length = n)
    (hR : fr + 1 ≤ R.frames ∧ 8 + (L + 11) + lo ≤ R.locals) (hcs : cells ≤ R.cells ∧ slots ≤ R.slots) (hW : MdB D aT ad S A H0 H locs) (hA : ∀ q, H0.size ≤ q → A q) (hst : st = As.reverse ++ .ref (ad 0) :: rest) (hw : (rest.map fun v => v.category).sum ≤ 8)
    (hdg : decode cc pc = .ok (.invokevirtual idx, 3)) (k : ∀ (r : Int32) (H1 : Heap) (locs1 : List Loc), post r → MdB D aT ad S A H0 H1 locs1 → W p l e R s m args below meth c H1 locs1 cells slots Q (F0 m (pc + 3) ls (.int r :: rest))) : W p l e R s m args below meth c H locs cells slots Q (F0 m pc ls st) :=
  md_calli C hml hls hM hT hd hn hR hcs hW hA hst hw hdg (fun r S1 H1 locs1 hq hW1 => k r H1 locs1 hq.1 (by rw [← hq.2]; exact hW1))
/-- a static method without a world -/
def MdS (l : Launch) (y : MethodName) (b : ByteArray) (L : Nat) (ret : FieldType) (As : List Value) (post : Int32 → Prop) : Prop :=
  Met l y (Cond.code y b L (some ret) :: gw) (mdR 0 0) (fun a _ => a = As.toArray) (vp_Si post) 0 0 (fun _ => False)
theorem md_calls (C : MdX p c cc s args m D aT) (hml : c.maxLocals = nL) (hls : ls.size = nL) {y : MethodName} {b : ByteArray} {L : Nat} {ret : FieldType} {idx n : Nat} {As st : List Value} {post : Int32 → Prop} (hM : MdS l y b L ret As post)
    (hT : GoodIn gw (wsS RX10 idx y (Cond.code y b L (some ret) :: gw))) (hd : y.cls = RX10 ∧ y.cls ≠ "java/lang/invoke/MethodHandle" ∧ y.cls ≠ "java/lang/invoke/VarHandle" ∧ (parseMethodDescriptor y.desc).map (fun d => d.parameters.length) = some n) (hn : As.length = n)
    (hR : 0 + 1 ≤ R.frames ∧ 8 + (L + 11) + 0 ≤ R.locals) (hcs : cells ≤ R.cells ∧ slots ≤ R.slots) (hst : st = As.reverse ++ rest) (hw : (rest.map fun v => v.category).sum ≤ 8)
    (hdg : decode cc pc = .ok (.invokestatic idx, 3)) (k : ∀ (r : Int32), post r → W p l e R s m args below meth c H locs cells slots Q (F0 m (pc + 3) ls (.int r :: rest))) : W p l e R s m args below meth c H locs cells slots Q (F0 m pc ls st) := by
  obtain ⟨hx, hb, hg, hown, hK⟩ := C
  subst hst
  exact vp_callSi (W.runS (As := As) (rest := rest) ⟨hx, hb, hml, hown, hg⟩ hM (cwS n hg hT rfl rfl rfl hd hR) ⟨fun a U g mk q => q, fun U hU hW => rfl⟩ rfl hn hls rfl (lv_room hw) hdg hcs) k
/-- the end of a method of the reference -/
def mdB3 (D : va_G) (aT : Nat → ClassId) (ad : Nat → Nat) (A : Nat → Prop) (S : MSt) (U : State) : Prop := va_P D vwCl (mdW aT ad S) U.heap ∧ va_K D vwCl (tyG aT) U ∧ va_D A (mdW aT ad S)
theorem md_iret (C : MdX p c cc s args m D aT) {ty : FieldType} (hr : meth.sig.returnType = some ty) (hlocks : meth.locks = false) {post : Int32 → MSt → Prop} {v : Int32} (hn : narrow ty (.int v) = .int v) (hW : MdB D aT ad S A s.heap H locs) (hq : post v S) (hdg : decode cc pc = .ok (.ireturn, 1)) : W p l e R s m args below meth c H locs cells slots (MQ below (va_Qi post (mdB3 D aT ad A) A) args s cells slots A) (F0 m pc ls [.int v]) := by
  obtain ⟨hx, hb, hg, hown, hK⟩ := C
  exact W.zret (v := v) hx hb hr hn (fun t ht hW' => ⟨⟨v, S, rfl, hq, by rw [ht]; exact hW.1, va_K.moved hW'.alike hK, hW.2.1⟩, hW.2.2.F ht⟩) hW.2.2.2.2 hdg hlocks
theorem md_vret (C : MdX p c cc s args m D aT) (hr : meth.sig.returnType = none) (hlocks : meth.locks = false) {post : MSt → Prop} (hW : MdB D aT ad S A s.heap H locs) (hq : post S) (hdg : decode cc pc = .ok (.return_, 1)) : W p l e R s m args below meth c H locs cells slots (MQ below (va_Qv post (mdB3 D aT ad A) A) args s cells slots A) (F0 m pc ls []) := by
  obtain ⟨hx, hb, hg, hown, hK⟩ := C
  exact W.vret hx hb hr (fun t ht hW' => ⟨⟨S, rfl, hq, by rw [ht]; exact hW.1, va_K.moved hW'.alike hK, hW.2.1⟩, hW.2.2.F ht⟩) hW.2.2.2.2 hdg hlocks
theorem MdI.of {y : MethodName} {b : ByteArray} {L : Nat} {ret : FieldType} {fr lo : Nat} {As : List Value} {post : Int32 → MSt → Prop} (hy : plainName y.cls = true) (hcls : y.cls = RX10) (hL : (lg_sl As).length ≤ L)
    (body : ∀ (p : Program) (e : Env) (s : State) (m : MethodId) (below : List Frame) (meth : Method) (c : Code) (A : Nat → Prop) (ls : Array Slot), MdX p c b s As.toArray m D aT → c.maxLocals = L → lv_has ls L (lv_args 0 As) → (∀ q, s.heap.size ≤ q → A q) → meth.sig.returnType = some ret → meth.locks = false → MdB D aT ad S A s.heap s.heap [] →
      W p l e (mdR fr lo) s m As.toArray below meth c s.heap [] 0 0 (MQ below (va_Qi post (mdB3 D aT ad A) A) As.toArray s 0 0 A) (F0 m 0 ls [])) : MdI l y b L ret fr lo D aT ad As S post := by
  intro sz
  refine Met.ofW (cc := b) (maxL := L) (ret := some ret) hy rfl ?_
  intro p e s m args below meth c s₁ B hml hv
  obtain ⟨rfl, hsz, hP, hK, hD0⟩ := hv
  have hts := atoms_spec (ws := Cond.code y b L (some ret) :: gw) B.pre
  have hown : s.vm.findClass y.cls = some m.cls := findClass_of_methodNamed B.named
  rw [hcls] at hown
  subst hsz
  have hl := lv_entry As (n := L) hL
  rw [lg_entry_eq]
  exact body p e s m below meth c _ _ ⟨B.exec, B.bytes, fun w hw => hts w (List.mem_cons_of_mem _ hw), hown, hK⟩ hml hl (fun q h => Or.inr h) B.returns B.notSynchronized ⟨hP, hD0.self (sz := s.heap.size), va_S.rf⟩
theorem MdV.of {y : MethodName} {b : ByteArray} {L : Nat} {fr lo : Nat} {As : List Value} {post : MSt → Prop} (hy : plainName y.cls = true) (hcls : y.cls = RX10) (hL : (lg_sl As).length ≤ L)
    (body : ∀ (p : Program) (e : Env) (s : State) (m : MethodId) (below : List Frame) (meth : Method) (c : Code) (A : Nat → Prop) (ls : Array Slot), MdX p c b s As.toArray m D aT → c.maxLocals = L → lv_has ls L (lv_args 0 As) → (∀ q, s.heap.size ≤ q → A q) → meth.sig.returnType = none → meth.locks = false → MdB D aT ad S A s.heap s.heap [] →
      W p l e (mdR fr lo) s m As.toArray below meth c s.heap [] 0 0 (MQ below (va_Qv post (mdB3 D aT ad A) A) As.toArray s 0 0 A) (F0 m 0 ls [])) : MdV l y b L fr lo D aT ad As S post := by
  intro sz
  refine Met.ofW (cc := b) (maxL := L) (ret := none) hy rfl ?_
  intro p e s m args below meth c s₁ B hml hv
  obtain ⟨rfl, hsz, hP, hK, hD0⟩ := hv
  have hts := atoms_spec (ws := Cond.code y b L none :: gw) B.pre
  have hown : s.vm.findClass y.cls = some m.cls := findClass_of_methodNamed B.named
  rw [hcls] at hown
  subst hsz
  have hl := lv_entry As (n := L) hL
  rw [lg_entry_eq]
  exact body p e s m below meth c _ _ ⟨B.exec, B.bytes, fun w hw => hts w (List.mem_cons_of_mem _ hw), hown, hK⟩ hml hl (fun q h => Or.inr h) B.returns B.notSynchronized ⟨hP, hD0.self (sz := s.heap.size), va_S.rf⟩
end MDC
end
section
/-- the first place before n where f is x -/
def fnd (f : Nat → Int32) (x : Int32) : Nat → Option Nat
  | 0 => none
  | n + 1 => match fnd f x n with
    | some k => some k
    | none => if f n = x then some n else none
theorem fnd_step {f : Nat → Int32} {x : Int32} {k : Nat} (h : fnd f x k = none) (h2 : ¬ f k = x) : fnd f x (k + 1) = none := by simp [fnd, h, h2]
theorem fnd_hit {f : Nat → Int32} {x : Int32} {k : Nat} (h : fnd f x k = none) (h2 : f k = x) : ∀ {n : Nat}, k < n → fnd f x n = some k := by
  intro n
  induction n with
  | zero => intro h3; exact absurd h3 (Nat.not_lt_zero _)
  | succ n ih =>
    intro h3
    rcases Nat.lt_or_ge k n with q | q
    · simp [fnd, ih q]
    · have e : n = k := by omega
      subst e
      simp [fnd, h, h2]
theorem fnd_some {f : Nat → Int32} {x : Int32} : ∀ {n k : Nat}, fnd f x n = some k → k < n ∧ f k = x ∧ ∀ j, j < k → f j ≠ x := by
  intro n
  induction n with
  | zero => intro k h; simp [fnd] at h
  | succ n ih =>
    intro k h
    unfold fnd at h
    cases hf : fnd f x n with
    | some j =>
      rw [hf] at h
      cases h
      obtain ⟨h1, h2, h3⟩ := ih hf
      exact ⟨by omega, h2, h3⟩
    | none =>
      rw [hf] at h
      dsimp only at h
      split at h
      · rename_i hq
        cases h
        refine ⟨by omega, hq, fun j hj hjx => ?_⟩
        have := fnd_hit (f := f) (x := x) (k := j)
        clear this
        have key : ∀ n j, j < n → f j = x → fnd f x n ≠ none := by
          intro n
          induction n with
          | zero => intro j hj; exact absurd hj (Nat.not_lt_zero _)
          | succ n ih2 =>
            intro j hj hx
            unfold fnd
            cases hg : fnd f x n with
            | some i => simp
            | none =>
              rcases Nat.lt_or_ge j n with q | q
              · exact absurd hg (ih2 j q hx)
              · have e : j = n := by omega
                subst e
                simp [hx]
        exact key _ j hj hjx hf
      · cases h
theorem fnd_none {f : Nat → Int32} {x : Int32} : ∀ {n : Nat}, fnd f x n = none → ∀ j, j < n → f j ≠ x := by
  intro n
  induction n with
  | zero => intro _ j hj; exact absurd hj (Nat.not_lt_zero _)
  | succ n ih =>
    intro h j hj hx
    unfold fnd at h
    cases hf : fnd f x n with
    | some i => rw [hf] at h; cases h
    | none =>
      rw [hf] at h
      rcases Nat.lt_or_ge j n with q | q
      · exact ih hf j q hx
      · have e : j = n := by omega
        subst e
        simp [hx] at h
/-- the forest that the reference's row holds: n motions, their ids, parents (by place), tones -/
def FoR (m : Nat → Int32) (n : Nat) (idn : Nat → Nat) (pr : Nat → Option Nat) (tn : Nat → Nat) : Prop :=
  m 2 = nI n ∧ n ≤ 12 ∧ (∀ k, k < n → m (29 + 4 * k) = nI (idn k) ∧ idn k < 1048576) ∧ (∀ k, k < n → m (29 + 4 * k + 1) = oi ((pr k).map idn)) ∧ (∀ k j, k < n → pr k = some j → j < k) ∧ (∀ j k, j < k → k < n → idn j < idn k) ∧ ∀ k, k < n → m (29 + 4 * k + 2) = nI (tn k) ∧ tn k ≤ 9
theorem FoR.par {m : Nat → Int32} {n : Nat} {idn : Nat → Nat} {pr : Nat → Option Nat} {tn : Nat → Nat} (h : FoR m n idn pr tn) {k j : Nat} (hk : k < n) (hp : pr k = some j) : j < n := by
  have := h.2.2.2.2.1 k j hk hp
  omega
theorem FoR.find {m : Nat → Int32} {n : Nat} {idn : Nat → Nat} {pr : Nat → Option Nat} {tn : Nat → Nat} (h : FoR m n idn pr tn) {j : Nat} (hj : j < n) : fnd (fun k => m (29 + 4 * k)) (nI (idn j)) n = some j := by
  obtain ⟨-, -, h3, -, -, h6, -⟩ := h
  cases hf : fnd (fun k => m (29 + 4 * k)) (nI (idn j)) n with
  | none => exact absurd (h3 j hj).1 (fnd_none hf j hj)
  | some i =>
    obtain ⟨hi, he, -⟩ := fnd_some hf
    have e1 : nI (idn i) = nI (idn j) := by rw [← (h3 i hi).1]; exact he
    have e2 := (nI_eq (by have := (h3 i hi).2; omega) (by have := (h3 j hj).2; omega)).mp e1
    have : i = j := by
      rcases Nat.lt_or_ge i j with q | q
      · have := h6 i j q hj; omega
      · rcases Nat.lt_or_ge j i with q2 | q2
        · have := h6 j i q2 hi; omega
        · omega
    rw [this]
theorem FoR.findPar {m : Nat → Int32} {n : Nat} {idn : Nat → Nat} {pr : Nat → Option Nat} {tn : Nat → Nat} (h : FoR m n idn pr tn) {k i : Nat} (hk : k < n) (hp : (pr k).map idn = some i) : fnd (fun k => m (29 + 4 * k)) (oi ((pr k).map idn)) n = pr k := by
  cases hq : pr k with
  | none => rw [hq] at hp; cases hp
  | some j =>
    show fnd _ (nI (idn j)) n = some j
    exact h.find (h.par hk hq)
/-- how deep a motion lies -/
def dpf (pr : Nat → Option Nat) : Nat → Nat → Nat
  | 0, _ => 0
  | f + 1, k => match pr k with
    | none => 0
    | some j => dpf pr f j + 1
def dep (pr : Nat → Option Nat) (k : Nat) : Nat := dpf pr k k
def ParOk (pr : Nat → Option Nat) (n : Nat) : Prop := ∀ k j, k < n → pr k = some j → j < k
theorem FoR.ok {m : Nat → Int32} {n : Nat} {idn : Nat → Nat} {pr : Nat → Option Nat} {tn : Nat → Nat} (h : FoR m n idn pr tn) : ParOk pr n := h.2.2.2.2.1
theorem dpf_fuel {pr : Nat → Option Nat} {n : Nat} (h : ParOk pr n) : ∀ f k, k < n → k ≤ f → dpf pr f k = dpf pr k k := by
  intro f
  induction f using Nat.strongRecOn with
  | _ f ih =>
    intro k hk hf
    cases f with
    | zero => have : k = 0 := by omega
              subst this; rfl
    | succ f =>
      cases k with
      | zero =>
        unfold dpf
        cases hp : pr 0 with
        | none => rfl
        | some j => have := h 0 j hk hp; omega
      | succ k =>
        unfold dpf
        cases hp : pr (k + 1) with
        | none => rfl
        | some j =>
          have hj := h _ j hk hp
          dsimp only
          rw [ih f (by omega) j (by omega) (by omega)]
          rcases Nat.lt_or_ge k (f + 1) with q | q
          · rw [ih k q j (by omega) (by omega)]
          · omega
theorem dep_some {pr : Nat → Option Nat} {n k j : Nat} (h : ParOk pr n) (hk : k < n) (hp : pr k = some j) : dep pr k = dep pr j + 1 := by
  have hj := h k j hk hp
  cases k with
  | zero => omega
  | succ k =>
    unfold dep
    rw [show dpf pr (k + 1) (k + 1) = dpf pr k j + 1 by rw [dpf, hp]]
    rw [dpf_fuel h k j (by omega) (by omega)]
theorem dep_none {pr : Nat → Option Nat} {k : Nat} (hp : pr k = none) : dep pr k = 0 := by
  unfold dep
  cases k with
  | zero => rfl
  | succ k => rw [dpf, hp]
def depO (pr : Nat → Option Nat) : Option Nat → Nat
  | none => 0
  | some j => dep pr j + 1
theorem dep_O {pr : Nat → Option Nat} {n k : Nat} (h : ParOk pr n) (hk : k < n) : dep pr k = depO pr (pr k) := by
  cases hp : pr k with
  | none => exact dep_none hp
  | some j => exact dep_some h hk hp
theorem dep_le {pr : Nat → Option Nat} {n : Nat} (h : ParOk pr n) : ∀ k, k < n → dep pr k ≤ k := by
  intro k
  induction k using Nat.strongRecOn with
  | _ k ih =>
    intro hk
    cases hp : pr k with
    | none => rw [dep_none hp]; omega
    | some j =>
      have hj := h k j hk hp
      rw [dep_some h hk hp]
      have := ih j hj (by omega)
      omega
/-- whether k lies in the branch of r -/
def anf (pr : Nat → Option Nat) (r : Nat) : Nat → Nat → Bool
  | 0, k => k == r
  | f + 1, k => k == r || match pr k with
    | none => false
    | some j => anf pr r f j
def anc (pr : Nat → Option Nat) (r k : Nat) : Bool := anf pr r k k
theorem anf_fuel {pr : Nat → Option Nat} {n r : Nat} (h : ParOk pr n) : ∀ f k, k < n → k ≤ f → anf pr r f k = anf pr r k k := by
  intro f
  induction f using Nat.strongRecOn with
  | _ f ih =>
    intro k hk hf
    cases f with
    | zero => have : k = 0 := by omega
              subst this; rfl
    | succ f =>
      cases k with
      | zero =>
        unfold anf
        cases hp : pr 0 with
        | none => simp
        | some j => have := h 0 j hk hp; omega
      | succ k =>
        unfold anf
        cases hp : pr (k + 1) with
        | none => rfl
        | some j =>
          have hj := h _ j hk hp
          dsimp only
          rw [ih f (by omega) j (by omega) (by omega)]
          rcases Nat.lt_or_ge k (f + 1) with q | q
          · rw [ih k q j (by omega) (by omega)]
          · omega
def ancO (pr : Nat → Option Nat) (r : Nat) : Option Nat → Bool
  | none => false
  | some j => anc pr r j
theorem anc_self (pr : Nat → Option Nat) (r : Nat) : anc pr r r = true := by
  unfold anc
  cases r <;> simp [anf]
theorem anc_O {pr : Nat → Option Nat} {n k r : Nat} (h : ParOk pr n) (hk : k < n) (hr : k ≠ r) : anc pr r k = ancO pr r (pr k) := by
  unfold anc
  cases k with
  | zero =>
    cases hp : pr 0 with
    | none => simp [anf, ancO, hr]
    | some j => have := h 0 j hk hp; omega
  | succ k =>
    rw [anf, show (k + 1 == r) = false by simp [hr], Bool.false_or]
    cases hp : pr (k + 1) with
    | none => simp [ancO, hr]
    | some j =>
      have hj := h _ j hk hp
      simp only [ancO, anc]
      rw [anf_fuel h k j (by omega) (by omega)]
/-- whether p has no child before i -/
def tipB (pr : Nat → Option Nat) (p : Nat) : Nat → Bool
  | 0 => true
  | i + 1 => tipB pr p i && !(pr i == some p)
/-- the last tip of the branch of r before i -/
def ltp (pr : Nat → Option Nat) (n r : Nat) : Nat → Option Nat
  | 0 => none
  | k + 1 => if anc pr r k && tipB pr k n then some k else ltp pr n r k
theorem ltp_lt {pr : Nat → Option Nat} {n r : Nat} : ∀ {i k}, ltp pr n r i = some k → k < i := by
  intro i
  induction i with
  | zero => intro k h; cases h
  | succ i ih =>
    intro k h
    unfold ltp at h
    split at h
    · cases h; omega
    · have := ih h; omega
theorem FoR.pid {m : Nat → Int32} {n : Nat} {idn : Nat → Nat} {pr : Nat → Option Nat} {tn : Nat → Nat} (h : FoR m n idn pr tn) {k : Nat} (hk : k < n) : ∀ j, (pr k).map idn = some j → j < 2 ^ 31 := by
  intro j hj
  cases hq : pr k with
  | none => rw [hq] at hj; cases hj
  | some i =>
    rw [hq] at hj
    cases hj
    have := (h.2.2.1 i (h.par hk hq)).2
    omega
theorem FoR.plim {m : Nat → Int32} {n : Nat} {idn : Nat → Nat} {pr : Nat → Option Nat} {tn : Nat → Nat} (h : FoR m n idn pr tn) {k : Nat} (hk : k < n) : ∀ j, pr k = some j → j < 2 ^ 31 := by
  intro j hj
  have := h.par hk hj
  have := h.2.1
  omega

def oM : Option Nat → Nat
  | none => 0
  | some j => j + 1
theorem oM_lt {pr : Nat → Option Nat} {n j : Nat} (h : ParOk pr n) (hj : j < n) : oM (pr j) < oM (some j) := by
  cases hp : pr j with
  | none => simp [oM]
  | some i => have := h j i hj hp; simp [oM]; omega
theorem nI_m1 {q : Nat} (hq : q < 2 ^ 31) (h : (-1 : Int32) = nI q) : False := by
  have h1 : (nI q).toInt = (-1 : Int32).toInt := by rw [← h]
  rw [nI_toInt hq] at h1
  have h2 : (-1 : Int32).toInt = -1 := by decide
  omega
theorem oi_nI {o : Option Nat} {q : Nat} (ho : ∀ j, o = some j → j < 2 ^ 31) (hq : q < 2 ^ 31) : oi o = nI q ↔ o = some q := by
  cases o with
  | none => exact ⟨fun h => (nI_m1 hq h).elim, fun h => by cases h⟩
  | some j => exact ⟨fun h => by rw [(nI_eq (ho j rfl) hq).mp h], fun h => by cases h; rfl⟩
section ON
variable {p : Program} {l : Launch} {e : Env} {R : Room} {s : State} {m : MethodId} {args : Array Value} {below : List Frame} {meth : Method} {c : Code} {H : Heap} {locs : List Loc} {cells slots : Nat} {Q : State → Prop} {cc : ByteArray} {pc : Nat} {ls : Array Slot} {rest : List Value}
theorem r_on_eq (hx : p.tables.exec = Jvm.exec) (hb : c.code = cc) {o : Option Nat} {q : Nat} (ho : ∀ j, o = some j → j < 2 ^ 31) (hq : q < 2 ^ 31) {off : Int} {tgt : Nat} (hdg : decode cc pc = .ok (.if_icmp .eq off, 3)) (ht : (pc : Int) + off = (tgt : Int)) (kt : o = some q → W p l e R s m args below meth c H locs cells slots Q (F0 m tgt ls rest)) (kf : o ≠ some q → W p l e R s m args below meth c H locs cells slots Q (F0 m (pc + 3) ls rest)) : W p l e R s m args below meth c H locs cells slots Q (F0 m pc ls (.int (nI q) :: .int (oi o) :: rest)) :=
  lv_icmp_eq hx hb hdg ht (fun h => kt ((oi_nI ho hq).mp h)) (fun h => kf (fun z => h ((oi_nI ho hq).mpr z)))
theorem r_on_ne (hx : p.tables.exec = Jvm.exec) (hb : c.code = cc) {o : Option Nat} {q : Nat} (ho : ∀ j, o = some j → j < 2 ^ 31) (hq : q < 2 ^ 31) {off : Int} {tgt : Nat} (hdg : decode cc pc = .ok (.if_icmp .ne off, 3)) (ht : (pc : Int) + off = (tgt : Int)) (kt : o ≠ some q → W p l e R s m args below meth c H locs cells slots Q (F0 m tgt ls rest)) (kf : o = some q → W p l e R s m args below meth c H locs cells slots Q (F0 m (pc + 3) ls rest)) : W p l e R s m args below meth c H locs cells slots Q (F0 m pc ls (.int (nI q) :: .int (oi o) :: rest)) :=
  lv_icmp_ne hx hb hdg ht (fun h => kt (fun z => h ((oi_nI ho hq).mpr z))) (fun h => kf ((oi_nI ho hq).mp h))
end ON
/-- how far two numbers lie apart -/
def dif (a b : Nat) : Nat := a - b + (b - a)
theorem dif_abs {a b : Nat} (ha : a < 1024) (hb : b < 1024) : (if 0 ≤ nI a - nI b then nI a - nI b else 0 - (nI a - nI b)) = nI (dif a b) := by
  have e := pk_sub_toInt (a := a) (b := b) (by omega) (by omega)
  have h0 : (0 : Int32).toInt = 0 := by decide
  have hd : (nI (dif a b)).toInt = (dif a b : Int) := nI_toInt (by unfold dif; omega)
  apply Int32.toInt_inj.mp
  rw [hd]
  split
  · rename_i h
    have h1 : (0 : Int32).toInt ≤ (nI a - nI b).toInt := Int32.le_iff_toInt_le.mp h
    rw [h0] at h1
    rw [e] at h1 ⊢
    unfold dif; omega
  · rename_i h
    have h1 : ¬ (0 : Int32).toInt ≤ (nI a - nI b).toInt := fun q => h (Int32.le_iff_toInt_le.mpr q)
    rw [h0, e] at h1
    rw [Int32.toInt_sub, h0, e]
    unfold dif
    rw [show (0 : Int) - ((a : Int) - b) = ((a - b + (b - a) : Nat) : Int) by omega]
    exact Int.bmod_eq_of_le (by omega) (by omega)
/-- the hedges that the reference's row holds -/
def HeR (m : Nat → Int32) (h : Nat) (lv th ta : Nat → Nat) : Prop :=
  m 0 = nI h ∧ h ≤ 6 ∧ (∀ i, i < h → m (11 + 3 * i) = nI (lv i) ∧ 1 ≤ lv i ∧ lv i ≤ 99) ∧ (∀ i, i < h → m (11 + 3 * i + 1) = nI (th i) ∧ th i ≤ 9) ∧ ∀ i, i < h → m (11 + 3 * i + 2) = nI (ta i) ∧ ta i ≤ 9
/-- the leaves in favour of a tone, of the first hedges -/
def fav (lv ta : Nat → Nat) (t : Nat) : Nat → Nat
  | 0 => 0
  | i + 1 => fav lv ta t i + if dif (ta i) t ≤ 3 then lv i else 0
def sml (lv : Nat → Nat) : Nat → Nat
  | 0 => 0
  | i + 1 => sml lv i + lv i
theorem in_f1 {v lo hi : Int64} (h : lg_cmp v lo < 0) : nI 0 = bI (decide (lo ≤ v ∧ v ≤ hi)) := by
  have h1 : ¬ lo ≤ v := by
    intro q
    unfold lg_cmp at h
    split at h
    · exact absurd h (by decide)
    · split at h
      · exact absurd h (by decide)
      · rename_i h1 h2
        exact h1 (Int64.lt_of_le_of_ne q (fun z => h2 z.symm))
  simp [h1, bI]; rfl
theorem in_f2 {v lo hi : Int64} (h : 0 < lg_cmp v hi) : nI 0 = bI (decide (lo ≤ v ∧ v ≤ hi)) := by
  have h1 : ¬ v ≤ hi := by
    intro q
    unfold lg_cmp at h
    split at h
    · rename_i h1
      exact absurd q (Int64.not_le.mpr h1)
    · split at h
      · exact absurd h (by decide)
      · exact absurd h (by decide)
  simp [h1, bI]; rfl
theorem in_t {v lo hi : Int64} (h1 : ¬ lg_cmp v lo < 0) (h2 : ¬ 0 < lg_cmp v hi) : nI 1 = bI (decide (lo ≤ v ∧ v ≤ hi)) := by
  have e1 : lo ≤ v := by
    apply Decidable.byContradiction
    intro q
    apply h1
    have q1 : v < lo := Int64.not_le.mp q
    unfold lg_cmp
    rw [if_neg (fun z => absurd (Int64.le_of_lt z) q), if_neg (fun z => by rw [z] at q1; exact Int64.lt_irrefl q1)]
    decide
  have e2 : v ≤ hi := by
    apply Decidable.byContradiction
    intro q
    apply h2
    unfold lg_cmp
    rw [if_pos (Int64.not_le.mp q)]
    decide
  simp [e1, e2, bI]; rfl

def rgB (lo hi : Int64) (x : Int32) : Bool := decide (lo ≤ x.toInt64 ∧ x.toInt64 ≤ hi)
theorem sr_sr (S : MSt) (i : Nat) (f g : Nat → Int32) : sr (sr S i f) i g = sr S i g := by
  funext r; unfold sr; split <;> rfl
theorem sr_self (S : MSt) (i : Nat) : sr S i (S i) = S := by
  funext r; unfold sr; split
  · rename_i h; rw [h]
  · rfl
/-- the row behind an added hedge -/
def hedgeF (m : Nat → Int32) (h : Nat) (x y z : Int32) : Nat → Int32 := fun j => if j = 0 then nI (h + 1) else if j = 11 + 3 * h + 2 then z else if j = 11 + 3 * h + 1 then y else if j = 11 + 3 * h then x else m j
/-- the row behind an added motion -/
def addF (m : Nat → Int32) (n : Nat) (p x w : Int32) : Nat → Int32 := fun j => if j = 1 then m 1 + nI 1 else if j = 2 then nI (n + 1) else if j = 29 + 4 * n + 3 then w else if j = 29 + 4 * n + 2 then x else if j = 29 + 4 * n + 1 then p else if j = 29 + 4 * n then m 1 else m j
/-- the row behind a motion taken out, with its count as it was -/
def drpF (m : Nat → Int32) (k i : Nat) : Nat → Int32 := fun j => if 29 + 4 * k ≤ j ∧ j < i then m (j + 4) else m j
def drzF (m : Nat → Int32) (k i : Nat) : Nat → Int32 := fun j => if 73 ≤ j ∧ j < i then 0 else drpF m k 73 j
def dropF (m : Nat → Int32) (k n : Nat) : Nat → Int32 := fun j => if j = 2 then nI (n - 1) else drzF m k 77 j
theorem drpF_0 (m : Nat → Int32) (k : Nat) : drpF m k (29 + 4 * k) = m := by
  funext j; unfold drpF; rw [if_neg (by omega)]
theorem drpF_1 (m : Nat → Int32) (k i : Nat) (h : 29 + 4 * k ≤ i) : upd (drpF m k i) i (drpF m k i (i + 4)) = drpF m k (i + 1) := by
  funext j; unfold upd drpF
  by_cases h1 : j = i
  · subst h1; rw [if_pos rfl, if_neg (by omega), if_pos (by omega)]
  · rw [if_neg h1]
    by_cases h2 : 29 + 4 * k ≤ j ∧ j < i
    · rw [if_pos h2, if_pos (by omega)]
    · rw [if_neg h2, if_neg (by omega)]
theorem drzF_0 (m : Nat → Int32) (k : Nat) : drzF m k 73 = drpF m k 73 := by
  funext j; unfold drzF; rw [if_neg (by omega)]
theorem drzF_1 (m : Nat → Int32) (k i : Nat) (h : 73 ≤ i) : upd (drzF m k i) i (nI 0) = drzF m k (i + 1) := by
  funext j; unfold upd drzF
  by_cases h1 : j = i
  · subst h1; rw [if_pos rfl, if_pos (by omega)]; rfl
  · rw [if_neg h1]
    by_cases h2 : 73 ≤ j ∧ j < i
    · rw [if_pos h2, if_pos (by omega)]
    · rw [if_neg h2, if_neg (by omega)]
/-- the first n places of f, the rest of g -/
def cpyF (g f : Nat → Int32) (n : Nat) : Nat → Int32 := fun j => if j < n then f j else g j
theorem cpyF_0 (g f : Nat → Int32) : cpyF g f 0 = g := by funext j; simp [cpyF]
theorem cpyF_1 (g f : Nat → Int32) (i : Nat) : upd (cpyF g f i) i (f i) = cpyF g f (i + 1) := by
  funext j; unfold upd cpyF
  by_cases h1 : j = i
  · subst h1; rw [if_pos rfl, if_pos (by omega)]
  · rw [if_neg h1]
    by_cases h2 : j < i
    · rw [if_pos h2, if_pos (by omega)]
    · rw [if_neg h2, if_neg (by omega)]

section IFN
variable {p : Program} {l : Launch} {e : Env} {R : Room} {s : State} {m : MethodId} {args : Array Value} {below : List Frame} {meth : Method} {c : Code} {H : Heap} {locs : List Loc} {cells slots : Nat} {Q : State → Prop} {cc : ByteArray} {pc : Nat} {ls : Array Slot} {rest : List Value}
theorem nI_le0 {a : Nat} (ha : a < 2 ^ 31) : nI a ≤ 0 ↔ a = 0 := by
  rw [← nI_0, nI_leI ha (by decide)]; omega
theorem nI_lt0 {a : Nat} (ha : a < 2 ^ 31) : 0 < nI a ↔ 0 < a := by
  rw [← nI_0, nI_ltI (by decide) ha]
theorem nI_e0 {a : Nat} (ha : a < 2 ^ 31) : nI a = 0 ↔ a = 0 := by
  rw [← nI_0, nI_eq ha (by decide)]
theorem r_ifleN (hx : p.tables.exec = Jvm.exec) (hb : c.code = cc) {a : Nat} (ha : a < 2 ^ 31) {off : Int} {tgt : Nat} (hdg : decode cc pc = .ok (.ifCond .le off, 3)) (ht : (pc : Int) + off = (tgt : Int)) (kt : a = 0 → W p l e R s m args below meth c H locs cells slots Q (F0 m tgt ls rest)) (kf : 0 < a → W p l e R s m args below meth c H locs cells slots Q (F0 m (pc + 3) ls rest)) : W p l e R s m args below meth c H locs cells slots Q (F0 m pc ls (.int (nI a) :: rest)) :=
  lv_if_le hx hb hdg ht (fun h => kt ((nI_le0 ha).mp h)) (fun h => kf (Nat.pos_of_ne_zero (fun z => h ((nI_le0 ha).mpr z))))
theorem r_ifgtN (hx : p.tables.exec = Jvm.exec) (hb : c.code = cc) {a : Nat} (ha : a < 2 ^ 31) {off : Int} {tgt : Nat} (hdg : decode cc pc = .ok (.ifCond .gt off, 3)) (ht : (pc : Int) + off = (tgt : Int)) (kt : 0 < a → W p l e R s m args below meth c H locs cells slots Q (F0 m tgt ls rest)) (kf : a = 0 → W p l e R s m args below meth c H locs cells slots Q (F0 m (pc + 3) ls rest)) : W p l e R s m args below meth c H locs cells slots Q (F0 m pc ls (.int (nI a) :: rest)) :=
  lv_if_gt hx hb hdg ht (fun h => kt ((nI_lt0 ha).mp h)) (fun h => kf (Nat.eq_zero_of_not_pos (fun z => h ((nI_lt0 ha).mpr z))))
theorem r_ifeqN (hx : p.tables.exec = Jvm.exec) (hb : c.code = cc) {a : Nat} (ha : a < 2 ^ 31) {off : Int} {tgt : Nat} (hdg : decode cc pc = .ok (.ifCond .eq off, 3)) (ht : (pc : Int) + off = (tgt : Int)) (kt : a = 0 → W p l e R s m args below meth c H locs cells slots Q (F0 m tgt ls rest)) (kf : a ≠ 0 → W p l e R s m args below meth c H locs cells slots Q (F0 m (pc + 3) ls rest)) : W p l e R s m args below meth c H locs cells slots Q (F0 m pc ls (.int (nI a) :: rest)) :=
  lv_if_eq hx hb hdg ht (fun h => kt ((nI_e0 ha).mp h)) (fun h => kf (fun z => h ((nI_e0 ha).mpr z)))
theorem r_ifneN (hx : p.tables.exec = Jvm.exec) (hb : c.code = cc) {a : Nat} (ha : a < 2 ^ 31) {off : Int} {tgt : Nat} (hdg : decode cc pc = .ok (.ifCond .ne off, 3)) (ht : (pc : Int) + off = (tgt : Int)) (kt : a ≠ 0 → W p l e R s m args below meth c H locs cells slots Q (F0 m tgt ls rest)) (kf : a = 0 → W p l e R s m args below meth c H locs cells slots Q (F0 m (pc + 3) ls rest)) : W p l e R s m args below meth c H locs cells slots Q (F0 m pc ls (.int (nI a) :: rest)) :=
  lv_if_ne hx hb hdg ht (fun h => kt (fun z => h ((nI_e0 ha).mpr z))) (fun h => kf ((nI_e0 ha).mp h))
end IFN
/-- whether a hedge vetoes: its difference, its thorns -/
def vetB (d t : Nat) : Bool := decide (7 ≤ d ∧ 0 < t)
def shF (f : Nat → Int32) (i : Nat) : Nat → Int32 := fun j => if j < i then f (j + 77) else f j
theorem shF_0 (f : Nat → Int32) : shF f 0 = f := by funext j; simp [shF]
theorem shF_1 (f : Nat → Int32) (i : Nat) : upd (shF f i) i (shF f i (i + 77)) = shF f (i + 1) := by
  funext j; unfold upd shF
  by_cases h1 : j = i
  · subst h1; rw [if_pos rfl, if_neg (by omega), if_pos (by omega)]
  · rw [if_neg h1]
    by_cases h2 : j < i
    · rw [if_pos h2, if_pos (by omega)]
    · rw [if_neg h2, if_neg (by omega)]
def putF (f g : Nat → Int32) (b i : Nat) : Nat → Int32 := fun j => if b ≤ j ∧ j < b + i then g (j - b) else f j
theorem putF_0 (f g : Nat → Int32) (b : Nat) : putF f g b 0 = f := by
  funext j; unfold putF; rw [if_neg (by omega)]
theorem putF_1 (f g : Nat → Int32) (b i : Nat) : upd (putF f g b i) (b + i) (g i) = putF f g b (i + 1) := by
  funext j; unfold upd putF
  by_cases h1 : j = b + i
  · subst h1; rw [if_pos rfl, if_pos (by omega), Nat.add_sub_cancel_left]
  · rw [if_neg h1]
    by_cases h2 : b ≤ j ∧ j < b + i
    · rw [if_pos h2, if_pos (by omega)]
    · rw [if_neg h2, if_neg (by omega)]
/-- the row of the past behind a change -/
def pstF (f g : Nat → Int32) (ch : Nat) : Nat → Int32 := putF (if ch = 8 then shF f 539 else f) g (77 * (min ch 7)) 77
theorem sr_ss (S : MSt) (i k : Nat) (f : Nat → Int32) (x : Int32) (h : i ≠ 13) : sr (ss S k x) i f = ss (sr S i f) k x := by
  funext r; unfold ss sr
  by_cases h1 : r = i
  · subst h1; simp [h]
  · by_cases h2 : r = 13
    · subst h2; simp [h1, Ne.symm h]
    · simp [h1, h2]
theorem ss_ss (S : MSt) (k : Nat) (x y : Int32) : ss (ss S k x) k y = ss S k y := by
  funext r j; unfold ss sr upd
  by_cases h : r = 13
  · subst h; simp; split <;> rfl
  · simp [h]
theorem ss_n (S : MSt) (k i : Nat) (x : Int32) (h : i ≠ 13) : ss S k x i = S i := by simp [ss, sr, h]
theorem ss_s (S : MSt) (k : Nat) (x : Int32) : ss S k x 13 k = x := by simp [ss, sr, upd]
theorem ss_o (S : MSt) (k j : Nat) (x : Int32) (h : j ≠ k) : ss S k x 13 j = S 13 j := by simp [ss, sr, upd, h]
end
section
/-! ===== BEGIN words of one list among another's, by their places ===== -/
theorem goodIn_r {big : List Cond} (ws : List Cond) (ps : List Nat) (hp : ws = ps.filterMap (fun i => big[i]?)) (h : ws.all goodWord = true) : GoodIn big ws := by
  intro w hw
  have h1 := List.all_eq_true.mp h w hw
  rw [hp] at hw
  obtain ⟨i, -, hi⟩ := List.mem_filterMap.mp hw
  have hm : w ∈ big := by first | exact List.mem_of_getElem? hi | exact List.getElem?_mem hi
  exact ⟨hm, good_of_word h1⟩
theorem goodIn_app {big a b : List Cond} (ha : GoodIn big a) (hb : GoodIn big b) : GoodIn big (a ++ b) := fun w h => (List.mem_append.mp h).elim (ha w) (hb w)
theorem goodIn_ca {big a b : List Cond} {c : Cond} (ha : GoodIn big (c :: a)) (hb : GoodIn big b) : GoodIn big (c :: (a ++ b)) := fun w h => (List.mem_cons.mp h).elim (fun e => ha w (List.mem_cons.mpr (Or.inl e))) (fun h => (List.mem_append.mp h).elim (fun h => ha w (List.mem_cons.mpr (Or.inr h))) (hb w))
theorem goodIn_sub {big ws : List Cond} (hm : ∀ w ∈ ws, w ∈ big) (h : ws.all goodWord = true) : GoodIn big ws := fun w hw => ⟨hm w hw, good_of_word (List.all_eq_true.mp h w hw)⟩
/-! ===== END ===== -/
/-! ===== BEGIN exceptions that leave a method, and their catching by the caller (launches without stack traces) ===== -/
section VXA
/-! The laws vx_back, vx_callV, vx_callS, vx_callSW, vx_throw0, vx_throwS follow proofs of the library, with one case more: JvmDerived/Free/Laws.lean (Back.of_free), Shelf42/LK1.lean (callV, callS), Shelf/KitTraced.lean (throwNew0V, throwNewS). -/
/-- where a method has thrown q: the class by its name, the cell, what was written, the world -/
def vx_T (XC : String → State → State → Prop) (st : State) (q : Addr) (t : State) (mc ms : Nat) (free : Addr → Prop) : Prop :=
  ∃ (E : String) (ce : Cell) (L : List Loc), XC E st t ∧ t.heap[q]? = some ce ∧ ce.vm = .none ∧ st.vm.findClass E = some ce.cls ∧ st.WarmedH t.vm ∧ st.sameButNew ({ t with vm := st.vm } : State) L mc ms ∧ ∀ z ∈ L, free z.base
def vx_Q (Qc : Array Value → State → Outcome → State → Prop) (XC : String → State → State → Prop) (mc ms : Nat) (free : Addr → Prop) : Array Value → State → Outcome → State → Prop := fun a st o t =>
  (Qc a st o t ∧ ∃ L, FrameEnd st o t L mc ms ∧ ∀ q ∈ L, free q.base) ∨ ∃ q, o = .threw q ∧ vx_T XC st q t mc ms free
/-- a callee that returns or throws -/
def vx_Met (l : Launch) (y : MethodName) (ws : List Cond) (rm : Room) (Pc : Array Value → State → Prop) (Qc : Array Value → State → Outcome → State → Prop) (XC : String → State → State → Prop) (mc ms : Nat) (free : Addr → Prop) : Prop :=
  MetFree l y (headSpec ws rm) Pc (fun _ _ _ _ _ => True) (vx_Q Qc XC mc ms free)
def vx_Post (XC : String → State → State → Prop) (mc ms : Nat) (free : Addr → Prop) : Pt → Array Value → Addr → Pt → Prop := fun A a q B =>
  ∃ (g : JFrame) (mk : MethodId) (t : State) (L : List Loc) (E : String) (ce : Cell), B.U.heap = t.heap ∧ B.U.vm = t.vm ∧ XC E (A.U.calling g mk a) t ∧ t.heap[q]? = some ce ∧ ce.vm = .none ∧ A.U.vm.findClass E = some ce.cls ∧ B.locs = A.locs ++ L ∧ (∀ z ∈ L, free z.base) ∧ B.cells = A.cells + mc ∧ B.slots = A.slots + ms
def vx_Back (l : Launch) (R : Room) (p : Program) (e : Env) (below : List Frame) (s : State) (sargs : Array Value) (y : MethodName) (len W9 : Nat)
    (Pre : Pt → Array Value → Prop) (Post : Pt → Array Value → Option Value → Pt → Prop) (PostX : Pt → Array Value → Addr → Pt → Prop) : Prop :=
  ∀ (m : MethodId) (meth : Method) (c : Code) (A : Pt) (g : JFrame) (ig : Instr) (mk : MethodId) (a : Array Value),
    Stand p l e R s m sargs below meth c A.U A.locs A.cells A.slots → g.method = m → g.locals.size = c.maxLocals → decode c.code g.pc = .ok (ig, len) →
    2 * g.monitorRoom + (g.stack.map fun v => v.category).sum ≤ W9 → A.U.methodNamed? y = some mk → Pre A a →
    (∃ (v : Option Value) (B : Pt), Stand p l e R s m sargs below meth c B.U B.locs B.cells B.slots ∧ Post A a v B ∧
      Steps p.tables e below (doInvoke e (A.U.setTop g) [] mk a).1 (B.U.setTop { g with pc := g.pc + len, stack := v.toList ++ g.stack })) ∨
    (∃ (q : Addr) (B : Pt), Stand p l e R s m sargs below meth c B.U B.locs B.cells B.slots ∧ PostX A a q B ∧
      Steps p.tables e below (doInvoke e (A.U.setTop g) [] mk a).1 ((B.U.setTop g).pushFrame (.throwing q)))
section Payer
variable {l : Launch} {R : Room} {p : Program} {e : Env} {below : List Frame} {s : State} {sargs : Array Value} {y : MethodName} {len W9 : Nat}
theorem vx_back {ws : List Cond} {rm : Room} {Pc : Array Value → State → Prop} {Qc : Array Value → State → Outcome → State → Prop} {XC : String → State → State → Prop} {mc ms : Nat} {free : Addr → Prop} {bytes : ByteArray} {maxL : Nat} {ret : Option FieldType}
    (hM : vx_Met l y ws rm Pc Qc XC mc ms free) (hblind : FrameBlind Pc) (hrc : rm.cells = mc) (hrs : rm.slots = ms)
    (hframes : rm.frames + 1 ≤ R.frames) (hlocals : W9 + (maxL + 11) + rm.locals ≤ R.locals)
    (hws : ∀ w ∈ ws, ∀ a' U, s.WarmedH U.vm → w.before a' U = true) (hcode : Cond.code y bytes maxL ret ∈ ws) (hinit : ∀ a' U, s.WarmedH U.vm → (Cond.initialized y.cls).before a' U = true) :
    vx_Back l R p e below s sargs y len W9 (PreOf R mc ms Pc) (PostOf Qc mc ms free) (vx_Post XC mc ms free) := by
  intro m meth c A g ig mk a X hg hsize hdg hW hn hp
  have h1 : (headSpec ws rm).pre.before a A.U = true := atoms_intro fun w hw => hws w hw _ _ X.warmed
  have h2 : (Cond.code y bytes maxL ret).before a A.U = true := hws _ hcode _ _ X.warmed
  have h3 : (Cond.initialized y.cls).before a A.U = true := hinit _ _ X.warmed
  have h4 : A.cells + (headSpec ws rm).room.cells ≤ R.cells := by rw [show (headSpec ws rm).room.cells = mc from hrc]; exact hp.1
  have h5 : A.slots + (headSpec ws rm).room.slots ≤ R.slots := by rw [show (headSpec ws rm).room.slots = ms from hrs]; exact hp.2.1
  have hPc : Pc a (A.U.calling g mk a) := hblind _ _ _ _ hp.2.2
  obtain ⟨U, Ls, c0, s0⟩ := A
  dsimp only [Pt.U, Pt.locs, Pt.cells, Pt.slots] at h1 h2 h3 h4 h5 X hn hPc ⊢
  obtain ⟨methY, cY, hmY, hcY, -, hlY, -, -, -, -⟩ := Cond.code_spec hn h2
  obtain ⟨kY, hkY, -⟩ := className_of_methodNamed hn
  have hinitY : kY.init = .initialized := Cond.initialized_spec (findClass_of_methodNamed hn) hkY h3
  have h : At U g.method c below := by rw [hg]; exact X.here
  have hlocals9 : W9 + (maxL + 11) + (headSpec ws rm).room.locals ≤ R.locals := hlocals
  have happ : (headSpec ws rm).appliesLoose y e.platform (U.calling g mk a) = true :=
    Spec.appliesLoose_calling (g := g) h hdg hn hkY hinitY
      (X.room_calling (g := g) (R' := (headSpec ws rm).room) hsize hmY hcY hframes (by rw [hlY]; omega) h4 h5) h1
  obtain ⟨mid, hmid⟩ := h.above
  have hfr : (U.setTop g).frames = (.java g :: mid) ++ below := by rw [State.frames_setTop' g h.top, hmid]; rfl
  obtain ⟨o, s₂, hsteps, -, hend, hq⟩ := Steps.callFree hM p X.admits X.cas X.clock (acts := []) hfr happ hPc trivial
  have hq' : vx_Q Qc XC mc ms free a (U.calling g mk a) o s₂ := hq
  rw [State.frames_setTop' g h.top] at hend
  obtain ⟨g₀, hg0⟩ := Option.isSome_iff_exists.mp h.top
  obtain ⟨r, hr⟩ := State.topJava?_eq_some.mp hg0
  have hr' : (({ U with heap := s₂.heap, slotsUsed := s₂.slotsUsed } : State).setVm s₂.vm).frames = .java g₀ :: r := hr
  rcases hq' with ⟨hqc, L, hfe, hL⟩ | ⟨q, rfl, E, ce, L, hx, hce, hcv, hcl, hW₂, hsm, hL⟩
  · obtain ⟨⟨v, rfl⟩, hW₂, e2, q2, q3, q4, q5, q6⟩ := id hfe
    have e3 : s₂ = ({ (U.calling g mk a).setFrames s₂.frames with heap := s₂.heap, slotsUsed := s₂.slotsUsed } : State).setVm s₂.vm := by
      have : s₂ = ({ s₂ with vm := (U.calling g mk a).vm } : State).setVm s₂.vm := rfl
      rw [e2] at this
      exact this
    obtain ⟨c₂, i₂, len₂, hc₂, hd₂, hf₂⟩ := hend
    have hW' : U.WarmedH s₂.vm := hW₂
    have hcc : c₂ = c := by
      have h1 : s₂.code? g.method = U.code? g.method := by
        rw [State.code?_eq, State.code?_eq, hW'.alike.method?]
      exact Option.some.inj (hc₂.symm.trans (h1.trans h.code))
    subst hcc
    have hlen : len₂ = len := by rw [hdg] at hd₂; cases hd₂; rfl
    subst hlen
    have hs₂ : s₂ = (({ U with heap := s₂.heap, slotsUsed := s₂.slotsUsed } : State).setVm s₂.vm).setTop { g with pc := g.pc + len₂, stack := v.toList ++ g.stack } := by
      refine e3.trans ?_
      rw [hf₂, State.calling_eq h.top, State.setFrames_setFrames, State.setTop_of_frames _ hr', hr]
      rfl
    have hsame : U.sameButNew ({ U with heap := s₂.heap, slotsUsed := s₂.slotsUsed } : State) L mc ms := by
      refine ⟨?_, q2, q3, q4, q5, q6⟩
      obtain ⟨t, ht, -⟩ := State.frames_cons hr
      show ({ U with heap := s₂.heap, slotsUsed := s₂.slotsUsed } : State) = { U.setFrames U.frames with heap := s₂.heap, slotsUsed := s₂.slotsUsed }
      rw [State.setFrames_self ht]
    subst hg
    refine Or.inl ⟨v, ⟨(({ U with heap := s₂.heap, slotsUsed := s₂.slotsUsed } : State).setVm s₂.vm), Ls ++ L, c0 + mc, s0 + ms⟩,
      ⟨X.admits, X.cas, X.clock, X.frames, X.room, X.hears, X.method, X.code, (X.here.setHeapUsed s₂.heap s₂.slotsUsed).setVm hW'.alike, X.tail, State.WarmedH.trans X.warmed hW', X.limits, X.bytes, X.same.trans (hsame.setVm s.vm)⟩,
      ⟨g, mk, s₂, L, rfl, rfl, hqc, rfl, hL, rfl, rfl⟩, ?_⟩
    show Steps p.tables e below _ ((({ U with heap := s₂.heap, slotsUsed := s₂.slotsUsed } : State).setVm s₂.vm).setTop { g with pc := g.pc + len₂, stack := v.toList ++ g.stack })
    rw [← hs₂]
    exact hsteps
  · obtain ⟨e2, q2, q3, q4, q5, q6⟩ := id hsm
    have e3 : s₂ = ({ (U.calling g mk a).setFrames s₂.frames with heap := s₂.heap, slotsUsed := s₂.slotsUsed } : State).setVm s₂.vm := by
      have : s₂ = ({ s₂ with vm := (U.calling g mk a).vm } : State).setVm s₂.vm := rfl
      rw [e2] at this
      exact this
    have hf₂ : s₂.frames = .throwing q :: .java g :: U.frames.tail := hend
    have hW' : U.WarmedH s₂.vm := hW₂
    have hs₂ : s₂ = ((({ U with heap := s₂.heap, slotsUsed := s₂.slotsUsed } : State).setVm s₂.vm).setTop g).pushFrame (.throwing q) := by
      refine e3.trans ?_
      rw [hf₂, State.calling_eq h.top, State.setFrames_setFrames, State.pushFrame, State.frames_setTop _ hr', State.setTop_of_frames _ hr', State.setFrames_setFrames, hr]
      rfl
    have hsame : U.sameButNew ({ U with heap := s₂.heap, slotsUsed := s₂.slotsUsed } : State) L mc ms := by
      refine ⟨?_, q2, q3, q4, q5, q6⟩
      obtain ⟨t, ht, -⟩ := State.frames_cons hr
      show ({ U with heap := s₂.heap, slotsUsed := s₂.slotsUsed } : State) = { U.setFrames U.frames with heap := s₂.heap, slotsUsed := s₂.slotsUsed }
      rw [State.setFrames_self ht]
    subst hg
    refine Or.inr ⟨q, ⟨(({ U with heap := s₂.heap, slotsUsed := s₂.slotsUsed } : State).setVm s₂.vm), Ls ++ L, c0 + mc, s0 + ms⟩,
      ⟨X.admits, X.cas, X.clock, X.frames, X.room, X.hears, X.method, X.code, (X.here.setHeapUsed s₂.heap s₂.slotsUsed).setVm hW'.alike, X.tail, State.WarmedH.trans X.warmed hW', X.limits, X.bytes, X.same.trans (hsame.setVm s.vm)⟩,
      ⟨g, mk, s₂, L, E, ce, rfl, rfl, hx, hce, hcv, hcl, rfl, hL, rfl, rfl⟩, ?_⟩
    show Steps p.tables e below _ (((({ U with heap := s₂.heap, slotsUsed := s₂.slotsUsed } : State).setVm s₂.vm).setTop g).pushFrame (.throwing q))
    rw [← hs₂]
    exact hsteps
end Payer
section Calls
variable {p : Program} {l : Launch} {e : Env} {R : Room} {s : State} {m : MethodId} {args : Array Value} {below : List Frame} {meth : Method} {c : Code} {T : State} {locs : List Loc} {cells slots : Nat}
theorem vx_callV (X : Stand p l e R s m args below meth c T locs cells slots) (hexec : p.tables.exec = Jvm.exec) {own C : String} {index : Nat} {y : MethodName} {bytes : ByteArray} {maxL : Nat} {ret : Option FieldType}
    (hown : s.vm.findClass own = some m.cls) (hlink : (Cond.methodLink own index y).before args s = true) (hinst : (Cond.instanceMethod y).before args s = true) (hsel : (Cond.selects C y y).before args s = true)
    (hcode : (Cond.code y bytes maxL ret).before args s = true) (hy : y.cls ≠ "java/lang/invoke/MethodHandle" ∧ y.cls ≠ "java/lang/invoke/VarHandle")
    {W9 : Nat} {Pre : Pt → Array Value → Prop} {Post : Pt → Array Value → Option Value → Pt → Prop} {PostX : Pt → Array Value → Addr → Pt → Prop} (hK : vx_Back l R p e below s args y 3 W9 Pre Post PostX)
    {b : Addr} {cellB : Cell} (hcell : T.heap[b]? = some cellB) (hobj : cellB.vm.isStatics = false) (hcls : s.vm.findClass C = some cellB.cls)
    {g : JFrame} (hg : g.method = m) (hsize : g.locals.size = c.maxLocals) {argsL rest : List Value} (hlen : ∀ sig, parseMethodDescriptor y.desc = some sig → argsL.length = sig.parameters.length)
    (hstack : g.stack = argsL.reverse ++ .ref b :: rest) (hW : 2 * g.monitorRoom + (rest.map fun v => v.category).sum ≤ W9) (hdg : decode c.code g.pc = .ok (.invokevirtual index, 3))
    (hpre : ∀ vm₁, s.WarmedH vm₁ → Pre ⟨T.setVm vm₁, locs, cells, slots⟩ (Value.ref b :: argsL).toArray) :
    (∃ (v : Option Value) (vm₁ : Vm) (B : Pt), s.WarmedH vm₁ ∧ Stand p l e R s m args below meth c B.U B.locs B.cells B.slots ∧ Post ⟨T.setVm vm₁, locs, cells, slots⟩ (Value.ref b :: argsL).toArray v B ∧
      ∀ target, Steps p.tables e below (B.U.setTop { g with pc := g.pc + 3, stack := v.toList ++ rest }) target → Steps p.tables e below (T.setTop g) target) ∨
    (∃ (q : Addr) (vm₁ : Vm) (B : Pt), s.WarmedH vm₁ ∧ Stand p l e R s m args below meth c B.U B.locs B.cells B.slots ∧ PostX ⟨T.setVm vm₁, locs, cells, slots⟩ (Value.ref b :: argsL).toArray q B ∧
      Steps p.tables e below (T.setTop g) ((B.U.setTop { g with stack := rest }).pushFrame (.throwing q))) := by
  obtain ⟨mk, methM, hnamed, hmethM, hstM, habM⟩ := Cond.instanceMethod_spec hinst
  obtain ⟨methM', cM, hmethM', -, -, -, -, -, -, hsigM⟩ := Cond.code_spec hnamed hcode
  cases hmethM.symm.trans hmethM'
  obtain ⟨c2, r2, m2, q1, q2, q3, q4, kP, hkP, hkPi⟩ := Cond.selects_spec hsel
  cases hcls.symm.trans q1
  cases (State.methodFound?_of_named hnamed hy).symm.trans q2
  cases hnamed.symm.trans q3
  have hselP : selectMethod e.platform s.vm cellB.cls mk = .method mk := by rw [Launch.admits_selectMethod X.admits]; exact q4
  obtain ⟨vm₁, X₁, hstep₁⟩ := X.invokevirtual hexec hown hlink hnamed hmethM hstM hkP hkPi hy (a := b) (cell := cellB) hcell
    (fun z h => by rw [h] at hobj; cases hobj) hselP hmethM habM hkP hkPi (g := g) hg (argsL := argsL) (rest := rest) (hlen _ hsigM) hstack hdg
  rcases hK m meth c ⟨T.setVm vm₁, locs, cells, slots⟩ { g with stack := rest } (.invokevirtual index) mk (Value.ref b :: argsL).toArray X₁ hg hsize hdg hW (X₁.named hnamed) (hpre vm₁ X₁.warmed) with ⟨v, B, X', hpost, hsteps⟩ | ⟨q, B, X', hpost, hsteps⟩
  · exact Or.inl ⟨v, vm₁, B, X₁.warmed, X', hpost, fun target h => hstep₁ _ fun acts => by rw [doInvoke_state]; exact hsteps.trans h⟩
  · exact Or.inr ⟨q, vm₁, B, X₁.warmed, X', hpost, hstep₁ _ fun acts => by rw [doInvoke_state]; exact hsteps⟩
theorem vx_callS (X : Stand p l e R s m args below meth c T locs cells slots) (hexec : p.tables.exec = Jvm.exec) {own : String} {index : Nat} {y : MethodName} {bytes : ByteArray} {maxL : Nat} {ret : Option FieldType}
    (hown : s.vm.findClass own = some m.cls) (hlink : (Cond.methodLink own index y).before args s = true) (hstat : (Cond.static y).before args s = true) (hinit : (Cond.initialized y.cls).before args s = true)
    (hcode : (Cond.code y bytes maxL ret).before args s = true) (hy : y.cls ≠ "java/lang/invoke/MethodHandle" ∧ y.cls ≠ "java/lang/invoke/VarHandle")
    {W9 : Nat} {Pre : Pt → Array Value → Prop} {Post : Pt → Array Value → Option Value → Pt → Prop} {PostX : Pt → Array Value → Addr → Pt → Prop} (hK : vx_Back l R p e below s args y 3 W9 Pre Post PostX)
    {g : JFrame} (hg : g.method = m) (hsize : g.locals.size = c.maxLocals) {argsL rest : List Value} (hlen : ∀ sig, parseMethodDescriptor y.desc = some sig → argsL.length = sig.parameters.length)
    (hstack : g.stack = argsL.reverse ++ rest) (hW : 2 * g.monitorRoom + (rest.map fun v => v.category).sum ≤ W9) (hdg : decode c.code g.pc = .ok (.invokestatic index, 3))
    (hpre : ∀ vm₁, s.WarmedH vm₁ → Pre ⟨T.setVm vm₁, locs, cells, slots⟩ argsL.toArray) :
    (∃ (v : Option Value) (vm₁ : Vm) (B : Pt), s.WarmedH vm₁ ∧ Stand p l e R s m args below meth c B.U B.locs B.cells B.slots ∧ Post ⟨T.setVm vm₁, locs, cells, slots⟩ argsL.toArray v B ∧
      ∀ target, Steps p.tables e below (B.U.setTop { g with pc := g.pc + 3, stack := v.toList ++ rest }) target → Steps p.tables e below (T.setTop g) target) ∨
    (∃ (q : Addr) (vm₁ : Vm) (B : Pt), s.WarmedH vm₁ ∧ Stand p l e R s m args below meth c B.U B.locs B.cells B.slots ∧ PostX ⟨T.setVm vm₁, locs, cells, slots⟩ argsL.toArray q B ∧
      Steps p.tables e below (T.setTop g) ((B.U.setTop { g with stack := rest }).pushFrame (.throwing q))) := by
  obtain ⟨mk, hnamed⟩ := Cond.code_named hcode
  obtain ⟨methM, cM, hmethM, -, -, -, -, -, -, hsigM⟩ := Cond.code_spec hnamed hcode
  have hstatic : methM.isStatic = true := Cond.static_spec hnamed hmethM hstat
  obtain ⟨kP, hkP, -⟩ := className_of_methodNamed hnamed
  have hinitP : kP.init = .initialized := Cond.initialized_spec (findClass_of_methodNamed hnamed) hkP hinit
  obtain ⟨vm₁, X₁, hstep₁⟩ := X.invokestatic hexec hown hlink hnamed hmethM hstatic hkP hinitP hy (g := g) hg (argsL := argsL) (rest := rest) (hlen _ hsigM) hstack hdg
  rcases hK m meth c ⟨T.setVm vm₁, locs, cells, slots⟩ { g with stack := rest } (.invokestatic index) mk argsL.toArray X₁ hg hsize hdg hW (X₁.named hnamed) (hpre vm₁ X₁.warmed) with ⟨v, B, X', hpost, hsteps⟩ | ⟨q, B, X', hpost, hsteps⟩
  · exact Or.inl ⟨v, vm₁, B, X₁.warmed, X', hpost, fun target h => hstep₁ _ fun acts => by rw [doInvoke_state]; exact hsteps.trans h⟩
  · exact Or.inr ⟨q, vm₁, B, X₁.warmed, X', hpost, hstep₁ _ fun acts => by rw [doInvoke_state]; exact hsteps⟩
end Calls
theorem vx_cls {s : State} {T : State} {vm₁ : Vm} {E : String} {k : ClassId} (hW : s.WarmedH vm₁) (h : (T.setVm vm₁).vm.findClass E = some k) : s.vm.findClass E = some k := by
  have h1 : vm₁.findClass E = some k := h
  rw [hW.alike.findClass] at h1
  exact h1
/-- the method's frame g, with q thrown over it -/
def vx_W (p : Program) (l : Launch) (e : Env) (R : Room) (s : State) (m : MethodId) (args : Array Value) (below : List Frame) (meth : Method) (c : Code) (H : Heap) (locs : List Loc) (cells slots : Nat) (Q : State → Prop) (g : JFrame) (q : Addr) : Prop :=
  ∀ T : State, T.heap = H → Stand p l e R s m args below meth c T locs cells slots → ∃ t, Steps p.tables e below ((T.setTop g).pushFrame (.throwing q)) t ∧ Q t
def vx_Run (p : Program) (l : Launch) (e : Env) (R : Room) (s : State) (m : MethodId) (args : Array Value) (below : List Frame) (meth : Method) (c : Code) (H : Heap) (locs : List Loc) (cells slots mc ms : Nat) (g : JFrame) (rest : List Value) (Qa : State → Outcome → State → Prop) (XC : String → State → State → Prop) (free : Addr → Prop) : Prop :=
  ∀ T : State, T.heap = H → Stand p l e R s m args below meth c T locs cells slots →
    (∃ (v : Option Value) (st₀ t T' : State) (L : List Loc), st₀.heap = H ∧ Stand p l e R s m args below meth c T' (locs ++ L) (cells + mc) (slots + ms) ∧ (∀ q ∈ L, free q.base) ∧ T'.heap = t.heap ∧ T'.vm = t.vm ∧ Qa st₀ (.returned v) t ∧
      Goes p e below T g T' { g with pc := g.pc + 3, stack := v.toList ++ rest }) ∨
    (∃ (q : Addr) (st₀ t T' : State) (L : List Loc) (E : String) (ce : Cell), st₀.heap = H ∧ Stand p l e R s m args below meth c T' (locs ++ L) (cells + mc) (slots + ms) ∧ (∀ z ∈ L, free z.base) ∧ T'.heap = t.heap ∧ T'.vm = t.vm ∧ XC E st₀ t ∧ t.heap[q]? = some ce ∧ ce.vm = .none ∧ s.vm.findClass E = some ce.cls ∧
      Steps p.tables e below (T.setTop g) ((T'.setTop { g with stack := rest }).pushFrame (.throwing q)))
def vx_X {S : Type} (px : S → Prop) (B : String → S → State → Prop) (A : Nat → Prop) : String → State → State → Prop := fun E st t => ∃ u : S, px u ∧ B E u t ∧ va_F A st t
section Runs
variable {p : Program} {l : Launch} {e : Env} {R : Room} {s : State} {m : MethodId} {args : Array Value} {below : List Frame} {meth : Method} {c : Code} {H : Heap} {locs : List Loc} {cells slots : Nat}
variable {y : MethodName} {bytes cc : ByteArray} {maxL nL mc ms n index : Nat} {ret : Option FieldType} {ws : List Cond} {rm : Room} {Pc : Array Value → State → Prop} {Qc : Array Value → State → Outcome → State → Prop} {XC : String → State → State → Prop} {free : Addr → Prop} {Ts : List Cond} {own C : String} {b : Addr} {As rest : List Value} {g : JFrame}
theorem vx_callBack (cb : CallB R s args own index y bytes maxL ret ws rm mc ms n) (hM : vx_Met l y ws rm Pc Qc XC mc ms free) (hbl : FrameBlind Pc) : vx_Back l R p e below s args y 3 8 (PreOf R mc ms Pc) (PostOf Qc mc ms free) (vx_Post XC mc ms free) := by
  obtain ⟨hrc, hrs, hfr, hlo, hws, hcw, -, hini, -⟩ := cb
  exact vx_back (bytes := bytes) (maxL := maxL) (ret := ret) hM hbl hrc hrs hfr hlo hws hcw (fun a' U hW => word_at hW (Or.inl (by first | rfl | simp [Cond.onTables, Cond.keeps, Cond.steady])) hini)
theorem vx_runV (S : CallFix p m c cc nL s args Ts own) (hM : vx_Met l y ws rm Pc Qc XC mc ms free) (cw : CallW R s args own C index y bytes maxL ret ws rm mc ms n) (hp : PreV s H C b Pc As)
    (hg : g.method = m) (hn : As.length = n) (hsize : g.locals.size = nL) (hstack : g.stack = As.reverse ++ .ref b :: rest) (hW : 2 * g.monitorRoom + (rest.map fun v => v.category).sum ≤ 8) (hdg : decode cc g.pc = .ok (.invokevirtual index, 3)) (hf : cells + mc ≤ R.cells ∧ slots + ms ≤ R.slots) :
    vx_Run p l e R s m args below meth c H locs cells slots mc ms g rest (Qc (Value.ref b :: As).toArray) XC free := by
  have hK : vx_Back l R p e below s args y 3 8 (PreOf R mc ms Pc) (PostOf Qc mc ms free) (vx_Post XC mc ms free) := vx_callBack cw.1 hM hp.1
  obtain ⟨⟨-, -, -, -, -, -, hcode, -, hy, hlen, hl⟩, hin, hse⟩ := cw
  obtain ⟨hx, hb, hml, ho, -⟩ := S
  obtain ⟨-, ⟨cellB, hcB, hoB, hclB⟩, hPc⟩ := hp
  intro T hT X
  rcases vx_callV X hx (C := C) (bytes := bytes) (maxL := maxL) (ret := ret) ho hl hin hse hcode hy hK (by rw [hT]; exact hcB) hoB hclB hg (hsize.trans hml.symm) (argsL := As) (rest := rest) (fun sig h => hn.trans (hlen sig h)) hstack hW (by rw [hb]; exact hdg)
    (fun vm₁ hW₁ => ⟨hf.1, hf.2, hPc (T.setVm vm₁) hT hW₁⟩) with ⟨v, vm₁, ⟨U', l2, c2, s2⟩, hW₁, X', ⟨g', mk, t, L, e1, e2, hq, h1, hL, h2, h3⟩, st⟩ | ⟨q, vm₁, ⟨U', l2, c2, s2⟩, hW₁, X', ⟨g', mk, t, L, E, ce, e1, e2, hq, hce, hcv, hcl, h1, hL, h2, h3⟩, st⟩
  · dsimp only [Pt.U, Pt.locs, Pt.cells, Pt.slots] at X' e1 e2 h1 h2 h3 st
    subst h1; subst h2; subst h3
    exact Or.inl ⟨v, (T.setVm vm₁).calling g' mk (Value.ref b :: As).toArray, t, U', L, hT, X', hL, e1, e2, hq, st⟩
  · dsimp only [Pt.U, Pt.locs, Pt.cells, Pt.slots] at X' e1 e2 h1 h2 h3 st hcl
    subst h1; subst h2; subst h3
    exact Or.inr ⟨q, (T.setVm vm₁).calling g' mk (Value.ref b :: As).toArray, t, U', L, E, ce, hT, X', hL, e1, e2, hq, hce, hcv, vx_cls hW₁ hcl, st⟩
theorem vx_runS (S : CallFix p m c cc nL s args Ts own) (hM : vx_Met l y ws rm Pc Qc XC mc ms free) (cw : CallB R s args own index y bytes maxL ret ws rm mc ms n ∧ (Cond.static y).before args s = true) (hp : PreS s H Pc As)
    (hg : g.method = m) (hn : As.length = n) (hsize : g.locals.size = nL) (hstack : g.stack = As.reverse ++ rest) (hW : 2 * g.monitorRoom + (rest.map fun v => v.category).sum ≤ 8) (hdg : decode cc g.pc = .ok (.invokestatic index, 3)) (hf : cells + mc ≤ R.cells ∧ slots + ms ≤ R.slots) :
    vx_Run p l e R s m args below meth c H locs cells slots mc ms g rest (Qc As.toArray) XC free := by
  have hK : vx_Back l R p e below s args y 3 8 (PreOf R mc ms Pc) (PostOf Qc mc ms free) (vx_Post XC mc ms free) := vx_callBack cw.1 hM hp.1
  obtain ⟨⟨-, -, -, -, -, -, hcode, hini, hy, hlen, hl⟩, hstt⟩ := cw
  obtain ⟨hx, hb, hml, ho, -⟩ := S
  intro T hT X
  rcases vx_callS X hx (bytes := bytes) (maxL := maxL) (ret := ret) ho hl hstt hini hcode hy hK hg (hsize.trans hml.symm) (argsL := As) (rest := rest) (fun sig h => hn.trans (hlen sig h)) hstack hW (by rw [hb]; exact hdg)
    (fun vm₁ hW₁ => ⟨hf.1, hf.2, hp.2 (T.setVm vm₁) hT hW₁⟩) with ⟨v, vm₁, ⟨U', l2, c2, s2⟩, hW₁, X', ⟨g', mk, t, L, e1, e2, hq, h1, hL, h2, h3⟩, st⟩ | ⟨q, vm₁, ⟨U', l2, c2, s2⟩, hW₁, X', ⟨g', mk, t, L, E, ce, e1, e2, hq, hce, hcv, hcl, h1, hL, h2, h3⟩, st⟩
  · dsimp only [Pt.U, Pt.locs, Pt.cells, Pt.slots] at X' e1 e2 h1 h2 h3 st
    subst h1; subst h2; subst h3
    exact Or.inl ⟨v, (T.setVm vm₁).calling g' mk As.toArray, t, U', L, hT, X', hL, e1, e2, hq, st⟩
  · dsimp only [Pt.U, Pt.locs, Pt.cells, Pt.slots] at X' e1 e2 h1 h2 h3 st hcl
    subst h1; subst h2; subst h3
    exact Or.inr ⟨q, (T.setVm vm₁).calling g' mk As.toArray, t, U', L, E, ce, hT, X', hL, e1, e2, hq, hce, hcv, vx_cls hW₁ hcl, st⟩
end Runs
section Rows
variable {p : Program} {l : Launch} {e : Env} {R : Room} {s : State} {m : MethodId} {args : Array Value} {below : List Frame} {meth : Method} {c : Code} {H : Heap} {locs : List Loc} {cells slots : Nat} {Q : State → Prop}
variable {mc ms : Nat} {free : Addr → Prop} {A0 A1 : Nat → Prop} {H0 : Heap} {a : Array Value} {pc : Nat} {ls : Array Slot} {st0 rest : List Value}
theorem vx_keep {st₀ t T' : State} {L : List Loc} (h0 : st₀.heap = H) (e1 : T'.heap = t.heap) (hS : va_S A0 H0 H locs) (hA : ∀ q, q < H.size → A1 q → A0 q) (hf : ∀ q, free q → A0 q) (hL : ∀ q ∈ L, free q.base) (hF : va_F A1 st₀ t) :
    H.size ≤ T'.heap.size ∧ (∀ q : Nat, q < H.size → ¬ A1 q → T'.heap[q]? = H[q]?) ∧ va_S A0 H0 T'.heap (locs ++ L) := by
  obtain ⟨hz, hk⟩ := hF
  rw [h0] at hz hk
  exact ⟨by rw [e1]; exact hz, fun q h1 h2 => by rw [e1]; exact hk q h1 h2,
    ⟨Nat.le_trans hS.1 (by rw [e1]; exact hz), fun q h1 h2 => by rw [e1, hk q (Nat.lt_of_lt_of_le h1 hS.1) (fun z => h2 (hA q (Nat.lt_of_lt_of_le h1 hS.1) z))]; exact hS.2.1 q h1 h2, fun q hq => by
      rcases List.mem_append.mp hq with h | h
      · exact hS.2.2 q h
      · exact hf _ (hL q h)⟩⟩
theorem vx_calli {S SX : Type} {post : Int32 → S → Prop} {px : SX → Prop} {B : S → State → Prop} {BX : String → SX → State → Prop} {AX : Nat → Prop} (hr : vx_Run p l e R s m args below meth c H locs cells slots mc ms (F0 m pc ls st0) rest (va_Qi post B A1 a) (vx_X px BX AX) free) (hS : va_S A0 H0 H locs) (hA : ∀ q, q < H.size → A1 q → A0 q) (hf : ∀ q, free q → A0 q) (hAX : ∀ q, q < H.size → AX q → A0 q)
    (kx : ∀ (E : String) (ce : Cell) (q9 : Addr) (u : SX) (t : State) (H1 : Heap) (locs1 : List Loc), t.heap = H1 → s.vm.Alike t.vm → px u → BX E u t → H.size ≤ H1.size → (∀ q : Nat, q < H.size → ¬ AX q → H1[q]? = H[q]?) → va_S A0 H0 H1 locs1 → H1[q9]? = some ce → ce.vm = .none → s.vm.findClass E = some ce.cls → vx_W p l e R s m args below meth c H1 locs1 (cells + mc) (slots + ms) Q (F0 m pc ls rest) q9)
    (kk : ∀ (r : Int32) (u : S) (t : State) (H1 : Heap) (locs1 : List Loc), t.heap = H1 → s.vm.Alike t.vm → post r u → B u t → H.size ≤ H1.size → (∀ q : Nat, q < H.size → ¬ A1 q → H1[q]? = H[q]?) → va_S A0 H0 H1 locs1 → W p l e R s m args below meth c H1 locs1 (cells + mc) (slots + ms) Q (F0 m (pc + 3) ls (.int r :: rest))) : W p l e R s m args below meth c H locs cells slots Q (F0 m pc ls st0) := by
  intro T hT X
  rcases hr T hT X with ⟨v, st₀, t, T', L, h0, X', hL, e1, e2, ⟨⟨r, u, hv, hp, hb⟩, hF⟩, st⟩ | ⟨q, st₀, t, T', L, E, ce, h0, X', hL, e1, e2, ⟨u, hp, hb, hF⟩, hce, hcv, hcl, st⟩
  · cases hv
    obtain ⟨k1, k2, k3⟩ := vx_keep h0 e1 hS hA hf hL hF
    obtain ⟨t2, a1, b1⟩ := kk r u t T'.heap (locs ++ L) e1.symm (by rw [← e2]; exact X'.warmed.alike) hp hb k1 k2 k3 T' rfl X'
    exact ⟨t2, st t2 a1, b1⟩
  · obtain ⟨k1, k2, k3⟩ := vx_keep h0 e1 hS hAX hf hL hF
    obtain ⟨t2, a1, b1⟩ := kx E ce q u t T'.heap (locs ++ L) e1.symm (by rw [← e2]; exact X'.warmed.alike) hp hb k1 k2 k3 (by rw [e1]; exact hce) hcv hcl T' rfl X'
    exact ⟨t2, st.trans a1, b1⟩
theorem vx_calll {S SX : Type} {post : Int64 → S → Prop} {px : SX → Prop} {B : S → State → Prop} {BX : String → SX → State → Prop} {AX : Nat → Prop} (hr : vx_Run p l e R s m args below meth c H locs cells slots mc ms (F0 m pc ls st0) rest (va_Ql post B A1 a) (vx_X px BX AX) free) (hS : va_S A0 H0 H locs) (hA : ∀ q, q < H.size → A1 q → A0 q) (hf : ∀ q, free q → A0 q) (hAX : ∀ q, q < H.size → AX q → A0 q)
    (kx : ∀ (E : String) (ce : Cell) (q9 : Addr) (u : SX) (t : State) (H1 : Heap) (locs1 : List Loc), t.heap = H1 → s.vm.Alike t.vm → px u → BX E u t → H.size ≤ H1.size → (∀ q : Nat, q < H.size → ¬ AX q → H1[q]? = H[q]?) → va_S A0 H0 H1 locs1 → H1[q9]? = some ce → ce.vm = .none → s.vm.findClass E = some ce.cls → vx_W p l e R s m args below meth c H1 locs1 (cells + mc) (slots + ms) Q (F0 m pc ls rest) q9)
    (kk : ∀ (r : Int64) (u : S) (t : State) (H1 : Heap) (locs1 : List Loc), t.heap = H1 → s.vm.Alike t.vm → post r u → B u t → H.size ≤ H1.size → (∀ q : Nat, q < H.size → ¬ A1 q → H1[q]? = H[q]?) → va_S A0 H0 H1 locs1 → W p l e R s m args below meth c H1 locs1 (cells + mc) (slots + ms) Q (F0 m (pc + 3) ls (.long r :: rest))) : W p l e R s m args below meth c H locs cells slots Q (F0 m pc ls st0) := by
  intro T hT X
  rcases hr T hT X with ⟨v, st₀, t, T', L, h0, X', hL, e1, e2, ⟨⟨r, u, hv, hp, hb⟩, hF⟩, st⟩ | ⟨q, st₀, t, T', L, E, ce, h0, X', hL, e1, e2, ⟨u, hp, hb, hF⟩, hce, hcv, hcl, st⟩
  · cases hv
    obtain ⟨k1, k2, k3⟩ := vx_keep h0 e1 hS hA hf hL hF
    obtain ⟨t2, a1, b1⟩ := kk r u t T'.heap (locs ++ L) e1.symm (by rw [← e2]; exact X'.warmed.alike) hp hb k1 k2 k3 T' rfl X'
    exact ⟨t2, st t2 a1, b1⟩
  · obtain ⟨k1, k2, k3⟩ := vx_keep h0 e1 hS hAX hf hL hF
    obtain ⟨t2, a1, b1⟩ := kx E ce q u t T'.heap (locs ++ L) e1.symm (by rw [← e2]; exact X'.warmed.alike) hp hb k1 k2 k3 (by rw [e1]; exact hce) hcv hcl T' rfl X'
    exact ⟨t2, st.trans a1, b1⟩
theorem vx_callf {S SX : Type} {post : UInt32 → S → Prop} {px : SX → Prop} {B : S → State → Prop} {BX : String → SX → State → Prop} {AX : Nat → Prop} (hr : vx_Run p l e R s m args below meth c H locs cells slots mc ms (F0 m pc ls st0) rest (va_Qf post B A1 a) (vx_X px BX AX) free) (hS : va_S A0 H0 H locs) (hA : ∀ q, q < H.size → A1 q → A0 q) (hf : ∀ q, free q → A0 q) (hAX : ∀ q, q < H.size → AX q → A0 q)
    (kx : ∀ (E : String) (ce : Cell) (q9 : Addr) (u : SX) (t : State) (H1 : Heap) (locs1 : List Loc), t.heap = H1 → s.vm.Alike t.vm → px u → BX E u t → H.size ≤ H1.size → (∀ q : Nat, q < H.size → ¬ AX q → H1[q]? = H[q]?) → va_S A0 H0 H1 locs1 → H1[q9]? = some ce → ce.vm = .none → s.vm.findClass E = some ce.cls → vx_W p l e R s m args below meth c H1 locs1 (cells + mc) (slots + ms) Q (F0 m pc ls rest) q9)
    (kk : ∀ (r : UInt32) (u : S) (t : State) (H1 : Heap) (locs1 : List Loc), t.heap = H1 → s.vm.Alike t.vm → post r u → B u t → H.size ≤ H1.size → (∀ q : Nat, q < H.size → ¬ A1 q → H1[q]? = H[q]?) → va_S A0 H0 H1 locs1 → W p l e R s m args below meth c H1 locs1 (cells + mc) (slots + ms) Q (F0 m (pc + 3) ls (.float r :: rest))) : W p l e R s m args below meth c H locs cells slots Q (F0 m pc ls st0) := by
  intro T hT X
  rcases hr T hT X with ⟨v, st₀, t, T', L, h0, X', hL, e1, e2, ⟨⟨r, u, hv, hp, hb⟩, hF⟩, st⟩ | ⟨q, st₀, t, T', L, E, ce, h0, X', hL, e1, e2, ⟨u, hp, hb, hF⟩, hce, hcv, hcl, st⟩
  · cases hv
    obtain ⟨k1, k2, k3⟩ := vx_keep h0 e1 hS hA hf hL hF
    obtain ⟨t2, a1, b1⟩ := kk r u t T'.heap (locs ++ L) e1.symm (by rw [← e2]; exact X'.warmed.alike) hp hb k1 k2 k3 T' rfl X'
    exact ⟨t2, st t2 a1, b1⟩
  · obtain ⟨k1, k2, k3⟩ := vx_keep h0 e1 hS hAX hf hL hF
    obtain ⟨t2, a1, b1⟩ := kx E ce q u t T'.heap (locs ++ L) e1.symm (by rw [← e2]; exact X'.warmed.alike) hp hb k1 k2 k3 (by rw [e1]; exact hce) hcv hcl T' rfl X'
    exact ⟨t2, st.trans a1, b1⟩
theorem vx_calld {S SX : Type} {post : UInt64 → S → Prop} {px : SX → Prop} {B : S → State → Prop} {BX : String → SX → State → Prop} {AX : Nat → Prop} (hr : vx_Run p l e R s m args below meth c H locs cells slots mc ms (F0 m pc ls st0) rest (va_Qd post B A1 a) (vx_X px BX AX) free) (hS : va_S A0 H0 H locs) (hA : ∀ q, q < H.size → A1 q → A0 q) (hf : ∀ q, free q → A0 q) (hAX : ∀ q, q < H.size → AX q → A0 q)
    (kx : ∀ (E : String) (ce : Cell) (q9 : Addr) (u : SX) (t : State) (H1 : Heap) (locs1 : List Loc), t.heap = H1 → s.vm.Alike t.vm → px u → BX E u t → H.size ≤ H1.size → (∀ q : Nat, q < H.size → ¬ AX q → H1[q]? = H[q]?) → va_S A0 H0 H1 locs1 → H1[q9]? = some ce → ce.vm = .none → s.vm.findClass E = some ce.cls → vx_W p l e R s m args below meth c H1 locs1 (cells + mc) (slots + ms) Q (F0 m pc ls rest) q9)
    (kk : ∀ (r : UInt64) (u : S) (t : State) (H1 : Heap) (locs1 : List Loc), t.heap = H1 → s.vm.Alike t.vm → post r u → B u t → H.size ≤ H1.size → (∀ q : Nat, q < H.size → ¬ A1 q → H1[q]? = H[q]?) → va_S A0 H0 H1 locs1 → W p l e R s m args below meth c H1 locs1 (cells + mc) (slots + ms) Q (F0 m (pc + 3) ls (.double r :: rest))) : W p l e R s m args below meth c H locs cells slots Q (F0 m pc ls st0) := by
  intro T hT X
  rcases hr T hT X with ⟨v, st₀, t, T', L, h0, X', hL, e1, e2, ⟨⟨r, u, hv, hp, hb⟩, hF⟩, st⟩ | ⟨q, st₀, t, T', L, E, ce, h0, X', hL, e1, e2, ⟨u, hp, hb, hF⟩, hce, hcv, hcl, st⟩
  · cases hv
    obtain ⟨k1, k2, k3⟩ := vx_keep h0 e1 hS hA hf hL hF
    obtain ⟨t2, a1, b1⟩ := kk r u t T'.heap (locs ++ L) e1.symm (by rw [← e2]; exact X'.warmed.alike) hp hb k1 k2 k3 T' rfl X'
    exact ⟨t2, st t2 a1, b1⟩
  · obtain ⟨k1, k2, k3⟩ := vx_keep h0 e1 hS hAX hf hL hF
    obtain ⟨t2, a1, b1⟩ := kx E ce q u t T'.heap (locs ++ L) e1.symm (by rw [← e2]; exact X'.warmed.alike) hp hb k1 k2 k3 (by rw [e1]; exact hce) hcv hcl T' rfl X'
    exact ⟨t2, st.trans a1, b1⟩
theorem vx_callv {S SX : Type} {post : S → Prop} {px : SX → Prop} {B : S → State → Prop} {BX : String → SX → State → Prop} {AX : Nat → Prop} (hr : vx_Run p l e R s m args below meth c H locs cells slots mc ms (F0 m pc ls st0) rest (va_Qv post B A1 a) (vx_X px BX AX) free) (hS : va_S A0 H0 H locs) (hA : ∀ q, q < H.size → A1 q → A0 q) (hf : ∀ q, free q → A0 q) (hAX : ∀ q, q < H.size → AX q → A0 q)
    (kx : ∀ (E : String) (ce : Cell) (q9 : Addr) (u : SX) (t : State) (H1 : Heap) (locs1 : List Loc), t.heap = H1 → s.vm.Alike t.vm → px u → BX E u t → H.size ≤ H1.size → (∀ q : Nat, q < H.size → ¬ AX q → H1[q]? = H[q]?) → va_S A0 H0 H1 locs1 → H1[q9]? = some ce → ce.vm = .none → s.vm.findClass E = some ce.cls → vx_W p l e R s m args below meth c H1 locs1 (cells + mc) (slots + ms) Q (F0 m pc ls rest) q9)
    (kk : ∀ (u : S) (t : State) (H1 : Heap) (locs1 : List Loc), t.heap = H1 → s.vm.Alike t.vm → post u → B u t → H.size ≤ H1.size → (∀ q : Nat, q < H.size → ¬ A1 q → H1[q]? = H[q]?) → va_S A0 H0 H1 locs1 → W p l e R s m args below meth c H1 locs1 (cells + mc) (slots + ms) Q (F0 m (pc + 3) ls (rest))) : W p l e R s m args below meth c H locs cells slots Q (F0 m pc ls st0) := by
  intro T hT X
  rcases hr T hT X with ⟨v, st₀, t, T', L, h0, X', hL, e1, e2, ⟨⟨u, hv, hp, hb⟩, hF⟩, st⟩ | ⟨q, st₀, t, T', L, E, ce, h0, X', hL, e1, e2, ⟨u, hp, hb, hF⟩, hce, hcv, hcl, st⟩
  · cases hv
    obtain ⟨k1, k2, k3⟩ := vx_keep h0 e1 hS hA hf hL hF
    obtain ⟨t2, a1, b1⟩ := kk u t T'.heap (locs ++ L) e1.symm (by rw [← e2]; exact X'.warmed.alike) hp hb k1 k2 k3 T' rfl X'
    exact ⟨t2, st t2 a1, b1⟩
  · obtain ⟨k1, k2, k3⟩ := vx_keep h0 e1 hS hAX hf hL hF
    obtain ⟨t2, a1, b1⟩ := kx E ce q u t T'.heap (locs ++ L) e1.symm (by rw [← e2]; exact X'.warmed.alike) hp hb k1 k2 k3 (by rw [e1]; exact hce) hcv hcl T' rfl X'
    exact ⟨t2, st.trans a1, b1⟩
/-- caught by the row x of this method's table; the rows ahead don't take it -/
theorem vx_catch {own name : String} {E : String} {ce : Cell} {q : Addr} (hown : s.vm.findClass own = some m.cls) (pre : List ExceptionTableEntry) (x : ExceptionTableEntry) (suf : List ExceptionTableEntry) (hsplit : c.exceptionTable.toList = pre ++ x :: suf)
    (hpass : ∀ z ∈ pre, covers z pc = false ∨ (z.catchType ≠ 0 ∧ ∃ nm : String, (Cond.classLink own z.catchType nm).before args s = true ∧ va_Nc E nm s)) (hx : covers x pc = true) (h0 : x.catchType ≠ 0)
    (hlink : (Cond.classLink own x.catchType name).before args s = true) (hcast : (Cond.castable E name).before args s = true) (hcell : H[q]? = some ce) (hv : ce.vm = .none) (hcl : s.vm.findClass E = some ce.cls)
    (kk : W p l e R s m args below meth c H locs cells slots Q (F0 m x.handlerPc ls [.ref q])) : vx_W p l e R s m args below meth c H locs cells slots Q (F0 m pc ls rest) q := by
  intro T hT X
  have hpl : e.platform.magicAccessors = ({} : Platform).magicAccessors := by rw [X.admits.platform]
  obtain ⟨c3, c4, hc3, hc4, hasg⟩ := Cond.castable_spec hcast
  cases Option.some.inj (hc3.symm.trans hcl)
  obtain ⟨c5, hc5, hcl5⟩ := Cond.classLink_spec hown hlink e.platform hpl
  cases Option.some.inj (hc4.symm.trans hc5)
  obtain ⟨vm', X', st⟩ := X.thenCaughtThrough q (g := F0 m pc ls rest) rfl (Steps.refl _) (by rw [hT]; exact hcell) (by rw [hv]; rfl) (by obtain ⟨k9, h9, -⟩ := Vm.findClass_spec hcl; exact ⟨k9, h9⟩) pre x suf hsplit
    (fun z hz => by
      rcases hpass z hz with h | ⟨hz0, nm, hl1, hn1⟩
      · exact Or.inl h
      · obtain ⟨c6, hc6, hcl6⟩ := Cond.classLink_spec hown hl1 e.platform hpl
        obtain ⟨a8, b8, h1, h2, h3⟩ := hn1
        cases Option.some.inj (h1.symm.trans hcl)
        cases Option.some.inj (h2.symm.trans hc6)
        exact Or.inr ⟨hz0, _, hcl6, h3⟩) hx (Or.inr ⟨h0, c4, hcl5, hasg⟩)
  obtain ⟨t, a1, b1⟩ := kk (T.setVm vm') hT X'
  exact ⟨t, st.trans a1, b1⟩
end Rows
section Ends
variable {p : Program} {l : Launch} {e : Env} {R : Room} {s : State} {m : MethodId} {args : Array Value} {below : List Frame} {meth : Method} {c : Code} {H : Heap} {locs : List Loc} {cells slots : Nat} {Q : State → Prop}
variable {mc ms : Nat} {free : Addr → Prop} {A0 A1 : Nat → Prop} {H0 : Heap} {a : Array Value} {ls : Array Slot} {st0 rest : List Value}
variable {Qc : Array Value → State → Outcome → State → Prop} {XC : String → State → State → Prop}
/-- what a body that may throw owes at its end -/
def vx_MQ (below : List Frame) (Qc : Array Value → State → Outcome → State → Prop) (XC : String → State → State → Prop) (a : Array Value) (s : State) (mc ms : Nat) (free : Addr → Prop) : State → Prop := fun t =>
  ∃ o, t.status = .running ∧ Ended t below o ∧ vx_Q Qc XC mc ms free a s o t
theorem vx_ret {g : JFrame} {mc ms : Nat} (k : W p l e R s m args below meth c H locs cells slots (MQ below Qc args s mc ms free) g) : W p l e R s m args below meth c H locs cells slots (vx_MQ below Qc XC args s mc ms free) g := by
  intro T hT X
  obtain ⟨t, a1, o, b1, b2, b3, b4⟩ := k T hT X
  exact ⟨t, a1, o, b1, b2, Or.inl ⟨b3, b4⟩⟩
/-- not caught here: it goes on to the caller -/
theorem vx_widen {g : JFrame} {q : Addr} {k n : Nat} (h1 : cells ≤ k) (h2 : slots ≤ n) (kk : vx_W p l e R s m args below meth c H locs k n Q g q) : vx_W p l e R s m args below meth c H locs cells slots Q g q := fun T hT X => kk T hT (stand_widen X h1 h2)
theorem vx_out {pc : Nat} {E : String} {ce : Cell} {q : Addr} {mc ms : Nat} (hout : ∀ x ∈ c.exceptionTable.toList, covers x pc = false) (hlocks : meth.locks = false) (hcell : H[q]? = some ce) (hv : ce.vm = .none) (hcl : s.vm.findClass E = some ce.cls)
    (hx : ∀ t : State, t.heap = H → s.vm.Alike t.vm → XC E s t) (hf : ∀ z ∈ locs, free z.base) (hc : cells ≤ mc) (hs : slots ≤ ms) :
    vx_W p l e R s m args below meth c H locs cells slots (vx_MQ below Qc XC args s mc ms free) (F0 m pc ls rest) q := by
  intro T hT X
  obtain ⟨st1, hrun, hend, hW, hsm⟩ := X.leaveThrown q (g := F0 m pc ls rest) rfl rfl rfl hout hlocks
  have hcell9 : (T.setFrames (.throwing q :: below)).heap[q]? = some ce := by
    show T.heap[q]? = some ce
    rw [hT]; exact hcell
  exact ⟨_, st1, .threw q, hrun, hend, Or.inr ⟨q, rfl, E, ce, locs, hx _ hT hW.alike, hcell9, hv, hcl, hW, hsm.mono hc hs, hf⟩⟩
theorem vx_frame {U : State} {k n : Nat} (h : s.sameButNew ({ U with vm := s.vm } : State) locs k n) : s.heap.size ≤ U.heap.size ∧ ∀ q : Nat, q < s.heap.size → (∀ z ∈ locs, z.base ≠ q) → U.heap[q]? = s.heap[q]? := by
  obtain ⟨-, h2, -, -, -, h6⟩ := h
  refine ⟨h2, fun q hq hz => ?_⟩
  obtain ⟨c9, e1, e2, e3, e4⟩ := h6 q _ (Array.getElem?_eq_getElem hq)
  have hs : c9.slots = (s.heap[q]).slots := Array.ext_getElem? fun i => e4 i fun hm => hz _ hm rfl
  have h9 : c9 = s.heap[q] := by
    rw [hs] at e2
    exact e2
  have e5 : U.heap[q]? = some c9 := e1
  rw [e5, h9, Array.getElem?_eq_getElem hq]
/-- the words of a throw but the four that speak of the heap -/
def vx_no (w : Cond) : Bool := decide (w ≠ .isRef (.static Bundle.tN "UNASSIGNED_STACK" Bundle.steD)) && decide (w ≠ .isRef (.static Bundle.tN "SUPPRESSED_SENTINEL" Bundle.listD)) && decide (w ≠ .laysStatic Bundle.tN "UNASSIGNED_STACK" Bundle.steD) && decide (w ≠ .laysStatic Bundle.tN "SUPPRESSED_SENTINEL" Bundle.listD)
def vx_at0 (own : String) (ic : Nat) (X : String) (names : List String) : List Cond := (Bundle.ownAtoms0 own ic X names).filter vx_no
def vx_atS (own : String) (ic : Nat) (X : String) (names : List String) : List Cond := (Bundle.ownAtoms own ic X names).filter vx_no
/-- a word that the tables alone decide, or a good one -/
def vx_ot (w : Cond) : Bool := w.onTables || goodWord w
theorem vx_ot_at {args a' : Array Value} {s U : State} {w : Cond} (hW : s.WarmedH U.vm) (hvm : s.vm = U.vm) (hg : vx_ot w = true) (h : w.before args s = true) : w.before a' U = true := by
  simp only [vx_ot, Bool.or_eq_true] at hg
  rcases hg with hg | hg
  · exact va_tabs hg hvm h
  · exact word_at hW (good_of_word hg) h
/-- a list's words: the good ones out of the method's own list, the others by premises of their own -/
theorem vx_hat {args : Array Value} {s : State} {L B : List Cond} (h1 : ∀ w ∈ L.filter goodWord, w.before args s = true) (h2 : ∀ w ∈ L.filter (fun w => !goodWord w), w ∈ B) (h3 : ∀ w ∈ B, w.before args s = true) : ∀ w ∈ L, w.before args s = true := by
  intro w hw
  by_cases g : goodWord w = true
  · exact h1 w (List.mem_filter.mpr ⟨hw, g⟩)
  · refine h3 w (h2 w (List.mem_filter.mpr ⟨hw, ?_⟩))
    show (!goodWord w) = true
    cases hgw : goodWord w
    · rfl
    · exact absurd hgw g
theorem vx_c {args : Array Value} {s : State} {w : Cond} {B : List Cond} (h : w.before args s = true) (t : ∀ w ∈ B, w.before args s = true) : ∀ w' ∈ w :: B, w'.before args s = true := fun w' h' => (List.mem_cons.mp h').elim (fun e => by rw [e]; exact h) (t w')
theorem vx_n {args : Array Value} {s : State} : ∀ w ∈ ([] : List Cond), w.before args s = true := fun _ h => nomatch h
theorem vx_own {args : Array Value} {s : State} {L : List Cond} (h1 : ∀ w ∈ L.filter vx_no, w.before args s = true)
    (hU : (Cond.isRef (.static Bundle.tN "UNASSIGNED_STACK" Bundle.steD)).before args s = true) (hN : (Cond.isRef (.static Bundle.tN "SUPPRESSED_SENTINEL" Bundle.listD)).before args s = true)
    (lU : (Cond.laysStatic Bundle.tN "UNASSIGNED_STACK" Bundle.steD).before args s = true) (lN : (Cond.laysStatic Bundle.tN "SUPPRESSED_SENTINEL" Bundle.listD).before args s = true) : ∀ w ∈ L, w.before args s = true := by
  intro w hw
  by_cases e1 : w = .isRef (.static Bundle.tN "UNASSIGNED_STACK" Bundle.steD)
  · rw [e1]; exact hU
  · by_cases e2 : w = .isRef (.static Bundle.tN "SUPPRESSED_SENTINEL" Bundle.listD)
    · rw [e2]; exact hN
    · by_cases e3 : w = .laysStatic Bundle.tN "UNASSIGNED_STACK" Bundle.steD
      · rw [e3]; exact lU
      · by_cases e4 : w = .laysStatic Bundle.tN "SUPPRESSED_SENTINEL" Bundle.listD
        · rw [e4]; exact lN
        · exact h1 w (List.mem_filter.mpr ⟨hw, by unfold vx_no; rw [decide_eq_true e1, decide_eq_true e2, decide_eq_true e3, decide_eq_true e4]; rfl⟩)
/-- where a static field lies, its class's statics cell in H -/
def vx_L (C n d : String) (A : Nat → Prop) (U : State) (H : Heap) : Prop := ∃ (c : ClassId) (k : Class) (i : Nat) (f : Field) (a : Nat) (cell : Cell), U.vm.findClass C = some c ∧ U.fieldFound? C n d = some (c, k, i, f) ∧ f.isStatic = true ∧ k.statics = some a ∧ H[a]? = some cell ∧ cell.vm.isStatics = true ∧ cell.cls = c ∧ f.slot < cell.slots.size ∧ k.staticTypes[f.slot]? = some f.type ∧ ¬ A a
theorem vx_L.moved {C n d : String} {A : Nat → Prop} {u U : State} {H : Heap} (hvm : u.vm.Alike U.vm) (h : vx_L C n d A u H) : vx_L C n d A U H := by
  obtain ⟨c, k, i, f, a, cell, h1, h2, h3, h4, h5, h6, h7, h8, h9, h10⟩ := h
  obtain ⟨k', hi', he⟩ := State.fieldFound?_setVm hvm h2
  exact ⟨c, k', i, f, a, cell, by rw [hvm.findClass]; exact h1, hi', h3, by rw [he]; exact h4, h5, h6, h7, h8, by rw [he]; exact h9, h10⟩
theorem vx_L.kept {C n d : String} {A : Nat → Prop} {U : State} {H H1 : Heap} (h : vx_L C n d A U H) (hq : ∀ a : Nat, a < H.size → ¬ A a → H1[a]? = H[a]?) : vx_L C n d A U H1 := by
  obtain ⟨c, k, i, f, a, cell, h1, h2, h3, h4, h5, h6, h7, h8, h9, h10⟩ := h
  exact ⟨c, k, i, f, a, cell, h1, h2, h3, h4, by rw [hq a (Array.getElem?_eq_some_iff.mp h5).1 h10]; exact h5, h6, h7, h8, h9, h10⟩
theorem vx_L.narrow {C n d : String} {A B : Nat → Prop} {U : State} {H : Heap} (h : vx_L C n d A U H) (hAB : ∀ q, B q → A q) : vx_L C n d B U H := by
  obtain ⟨c, k, i, f, a, cell, h1, h2, h3, h4, h5, h6, h7, h8, h9, h10⟩ := h
  exact ⟨c, k, i, f, a, cell, h1, h2, h3, h4, h5, h6, h7, h8, h9, fun z => h10 (hAB _ z)⟩
theorem vx_L.word {C n d : String} {A : Nat → Prop} {s : State} {args : Array Value} (h : vx_L C n d A s s.heap) : (Cond.laysStatic C n d).before args s = true := by
  obtain ⟨c, k, i, f, a, cell, h1, h2, h3, h4, h5, h6, h7, h8, h9, -⟩ := h
  show (Cond.laysStatic C n d).holds args s none s [] = true
  exact Cond.laysStatic_of h1 h2 h3 h4 h5 h6 h7 h8 h9
/-- .. and what it holds: null or some reference -/
def vx_Zq (C n d : String) (A : Nat → Prop) (U : State) (H : Heap) : Prop := va_Zq C n d A U H ∧ vx_L C n d A U H
theorem vx_Zq.moved {C n d : String} {A : Nat → Prop} {u U : State} {H : Heap} (hvm : u.vm.Alike U.vm) (h : vx_Zq C n d A u H) : vx_Zq C n d A U H := ⟨va_Zq.moved hvm h.1, vx_L.moved hvm h.2⟩
theorem vx_Zq.kept {C n d : String} {A : Nat → Prop} {U : State} {H H1 : Heap} (h : vx_Zq C n d A U H) (hq : ∀ a : Nat, a < H.size → ¬ A a → H1[a]? = H[a]?) : vx_Zq C n d A U H1 := ⟨va_Zq.kept h.1 hq, vx_L.kept h.2 hq⟩
theorem vx_Zq.narrow {C n d : String} {A B : Nat → Prop} {U : State} {H : Heap} (h : vx_Zq C n d A U H) (hAB : ∀ q, B q → A q) : vx_Zq C n d B U H := ⟨va_Zq.narrow h.1 hAB, vx_L.narrow h.2 hAB⟩
theorem vx_Zqof {args : Array Value} {s : State} {C n d : String} {A : Nat → Prop} (hl : (Cond.laysStatic C n d).before args s = true) (hini : (Cond.initialized C).before args s = true) (h : (Cond.isRef (.static C n d)).before args s = true) (hA : ∀ a : Nat, a < s.heap.size → ¬ A a) : vx_Zq C n d A s s.heap := by
  refine ⟨va_Zqof hl hini h hA, ?_⟩
  obtain ⟨c, k, i, f, a, cell, h1, h2, h3, h4, h5, h6, h7, h8, h9⟩ := Cond.laysStatic_spec hl
  exact ⟨c, k, i, f, a, cell, h1, h2, h3, h4, h5, h6, h7, h8, h9, hA a (Array.getElem?_eq_some_iff.mp h5).1⟩
theorem vx_isRef {C n d : String} {v : Value} {A : Nat → Prop} {s : State} {args : Array Value} (h : va_Z C n d v A s s.heap) (hv : v.isRef = true) : (Cond.isRef (.static C n d)).before args s = true := by
  obtain ⟨cf, kf, fi, f, a, cell, h1, h2, h3, h4, h5, h6, h7, -⟩ := h
  have he : (Term.static C n d).eval args s none [] s = some v := by
    simp [Term.eval, State.fieldNamed?, h1, h2, h4, h5, h6, h7]
  simp only [Cond.before, Cond.holds, Cond.value, he]
  cases v <;> simp_all [Value.isRef]
theorem vx_isRefq {C n d : String} {A : Nat → Prop} {s : State} {args : Array Value} (h : va_Zq C n d A s s.heap) : (Cond.isRef (.static C n d)).before args s = true := by
  rcases h with h | ⟨t, h⟩
  · exact vx_isRef h rfl
  · exact vx_isRef h rfl
/-- the same frame, seen from here: as if the method were called anew in this heap -/
theorem vx_rebase {T : State} (X : Stand p l e R s m args below meth c T locs cells slots) {R' : Room} (hf : R'.frames ≤ R.frames) (hl : R'.locals ≤ R.locals) (hc : cells + R'.cells ≤ R.cells) (hs : slots + R'.slots ≤ R.slots) :
    Stand p l e R' ((T.setVm s.vm).setFrames (.invoking m args :: below)) m args below meth c T [] 0 0 := by
  have htop : (T.setVm s.vm).topJava?.isSome := X.here.top
  have hF : ((T.setVm s.vm).setFrames (.invoking m args :: below)).frames = .invoking m args :: below := State.frames_setFrames _ (State.cur_lt_of_top htop)
  obtain ⟨g₀, hg0⟩ := Option.isSome_iff_exists.mp htop
  obtain ⟨r, hr⟩ := State.topJava?_eq_some.mp hg0
  have hl9 : e.platform.stackLimits (T.setVm s.vm).me = e.platform.stackLimits s.me := X.limits
  have hb9 : (T.setVm s.vm).me.stackBytes = s.me.stackBytes := X.bytes
  refine ⟨X.admits, X.cas, X.clock, hF, ?_, X.hears, X.method, X.code, X.here, X.tail, X.warmed, ?_, ?_, ?_⟩
  · have h := X.room
    have hU : ((T.setVm s.vm).setFrames (.invoking m args :: below)).localsInUse = s.localsInUse := by
      rw [State.localsInUse_invoking hF (meth := meth) (c := c) X.method X.code, State.localsInUse_invoking X.frames X.method X.code]
    simp only [State.hasRoom, Bool.and_eq_true, decide_eq_true_eq] at h ⊢
    obtain ⟨⟨⟨⟨h1, h2, h3, h4, h5, h6⟩, h7⟩, h8⟩, h9⟩ := h
    rw [X.frames, List.length_cons] at h2 h3
    have q1 := X.heapSize
    have q2 := X.used
    simp only [hF, hU, List.length_cons, State.stackLimits_setFrames, State.stackBytes_setFrames, hl9, hb9]
    refine ⟨⟨⟨⟨by omega, by omega, by omega, by omega, by omega, h6⟩, ?_⟩, ?_⟩, X.book⟩
    · show T.heap.size + R'.cells ≤ e.platform.maxCells
      omega
    · show T.slotsUsed + R'.slots ≤ e.platform.maxSlots
      omega
  · rw [State.stackLimits_setFrames]; rfl
  · rw [State.stackBytes_setFrames]; rfl
  · refine ⟨?_, Nat.le_refl _, Nat.le_refl _, ?_, ?_, fun a c9 h9 => ⟨c9, h9, rfl, rfl, fun _ _ => rfl⟩⟩
    · obtain ⟨t, ht, -⟩ := State.frames_cons hr
      show T.setVm s.vm = { ((T.setVm s.vm).setFrames (.invoking m args :: below)).setFrames (T.setVm s.vm).frames with heap := T.heap, slotsUsed := T.slotsUsed }
      rw [State.setFrames_setFrames, State.setFrames_self ht]
      rfl
    · show T.slotsUsed = T.slotsUsed + ((T.heap.toList.drop T.heap.size).map (·.slots.size)).sum
      rw [List.drop_eq_nil_of_le (Nat.le_of_eq Array.length_toList)]
      rfl
    · show ((T.heap.toList.drop T.heap.size).map (·.slots.size)).sum ≤ 0
      rw [List.drop_eq_nil_of_le (Nat.le_of_eq Array.length_toList)]
      exact Nat.le_refl _
/-- 'throw new E()': new; dup; invokespecial; athrow -/
theorem vx_throw0 {cc : ByteArray} {pc : Nat} (hexec : p.tables.exec = Jvm.exec) (hb : c.code = cc) (hl : l.stackTraces = false) {own cls : String} {names : List String} {ik ic mc ms : Nat} {A : Nat → Prop}
    (hown : s.vm.findClass own = some m.cls) (hcls : Bundle.fit cls = true) (hnames : ∀ n ∈ names, Bundle.fit n = true)
    (hk : (Cond.classLink own ik cls).before args s = true) (hini : (Cond.initialized cls).before args s = true) (hat : ∀ w ∈ vx_at0 own ic cls names, w.before args s = true)
    (hgood : ∀ w ∈ Cond.classLink own ik cls :: Cond.initialized cls :: vx_at0 own ic cls names, vx_ot w = true)
    (hU : vx_Zq Bundle.tN "UNASSIGNED_STACK" Bundle.steD A s s.heap) (hN : vx_Zq Bundle.tN "SUPPRESSED_SENTINEL" Bundle.listD A s s.heap) (hS : va_S A s.heap H locs) (hsize : ls.size = c.maxLocals)
    (d0 : decode cc pc = .ok (.new ik, 3)) (d3 : decode cc (pc + 3) = .ok (.dup, 1)) (d4 : decode cc (pc + 4) = .ok (.invokespecial ic, 3)) (d7 : decode cc (pc + 7) = .ok (.athrow, 1))
    (hout : ∀ x ∈ c.exceptionTable.toList, covers x (pc + 7) = false)
    (hRframes : names.length + 3 < R.frames) (hRlocals : (rest.map fun v => v.category).sum + (13 * (names.length + 1) + 42) ≤ R.locals) (hRcells : cells + 1 ≤ R.cells) (hRslots : slots + 6 ≤ R.slots) (hlocks : meth.locks = false)
    (hx : ∀ t : State, s.vm.Alike t.vm → H.size ≤ t.heap.size → (∀ q : Nat, q < H.size → t.heap[q]? = H[q]?) → XC cls s t)
    (hf : ∀ z ∈ locs, free z.base) (hc : cells + 1 ≤ mc) (hs : slots + 6 ≤ ms) :
    W p l e R s m args below meth c H locs cells slots (vx_MQ below Qc XC args s mc ms free) (F0 m pc ls rest) := by
  intro T hT X
  have htr : e.platform.stackTraces = false := (show e.platform.stackTraces = l.stackTraces by rw [X.admits.platform]).trans hl
  have Y := vx_rebase X (R' := { frames := R.frames, locals := R.locals, cells := 1, slots := 6 }) (Nat.le_refl _) (Nat.le_refl _) hRcells hRslots
  obtain ⟨s', hA⟩ : ∃ z, z = (T.setVm s.vm).setFrames (.invoking m args :: below) := ⟨_, rfl⟩
  rw [← hA] at Y
  have hvm : s'.vm = s.vm := by rw [hA]; rfl
  have hhp : s'.heap = H := by rw [hA]; exact hT
  have hW0 : s.WarmedH s'.vm := by rw [hvm]; exact State.WarmedH.refl s
  have hat' : ∀ w ∈ vx_at0 own ic cls names, w.before args s' = true := fun w hw => vx_ot_at hW0 hvm.symm (hgood w (List.mem_cons_of_mem _ (List.mem_cons_of_mem _ hw))) (hat w hw)
  have hk' : (Cond.classLink own ik cls).before args s' = true := vx_ot_at hW0 hvm.symm (hgood _ List.mem_cons_self) hk
  have hini' : (Cond.initialized cls).before args s' = true := vx_ot_at hW0 hvm.symm (hgood _ (List.mem_cons_of_mem _ List.mem_cons_self)) hini
  have hU' : vx_Zq Bundle.tN "UNASSIGNED_STACK" Bundle.steD A s' s'.heap := by rw [hhp]; exact vx_Zq.moved hW0.alike (hU.kept hS.2.1)
  have hN' : vx_Zq Bundle.tN "SUPPRESSED_SENTINEL" Bundle.listD A s' s'.heap := by rw [hhp]; exact vx_Zq.moved hW0.alike (hN.kept hS.2.1)
  have h : ∀ w ∈ Bundle.ownAtoms0 own ic cls names, w.before args s' = true := vx_own hat' (vx_isRefq hU'.1) (vx_isRefq hN'.1) hU'.2.word hN'.2.word
  have hown' : s'.vm.findClass own = some m.cls := by rw [hvm]; exact hown
  have hins : (Cond.instantiable cls 6).before args s' = true := h _ (by simp [Bundle.ownAtoms0])
  obtain ⟨vm₁, cX, kX, hfX, hkX, -, -, X₁, st1⟩ := Y.newCold hexec (own := own) (C := cls) (index := ik) (n := 6) hown' hk' hins hini'
    (g := F0 m pc ls rest) rfl (by rw [hb]; exact d0) (Nat.le_refl _) (Nat.le_refl _)
  generalize hT1 : (T.setVm vm₁).pushCell { cls := cX, slots := kX.instanceTypes.map defaultValue, vm := .none } = T1 at X₁ st1
  have hcat : (Value.ref T.heap.size).category = 1 := rfl
  have hcellA : T1.heap[T.heap.size]? = some (freshCell cX kX) := by rw [← hT1]; exact State.heap_pushCell_size _ _
  have d3' : decode c.code (pc + 3) = .ok (.dup, 1) := by rw [hb]; exact d3
  obtain ⟨U, hsteps, hrun, hend, hW, hsame, ce, hce, hO⟩ := X₁.ctorThrow0 hexec htr (own := own) (cls := cls) (names := names) (ic := ic) hown' hcls hnames h (fun x hx => nomatch hx) hfX hkX hcellA (by rw [hhp, hT]; exact Nat.le_refl _)
    (g := { method := m, pc := pc + 4, locals := ls, stack := .ref T.heap.size :: .ref T.heap.size :: rest, locked := none }) rfl hsize rfl rfl (rest := rest) rfl
    (by rw [hb]; exact d4) (by rw [hb]; exact d7) hout hRframes (by simp only [List.map_cons, List.sum_cons, hcat]; omega) hlocks
  obtain ⟨f1, f2⟩ := vx_frame hsame
  rw [hhp] at f1 f2
  have hWs : s.WarmedH U.vm := State.WarmedH.trans hW0 hW
  have hcl : s.vm.findClass cls = some ce.cls := by
    have h9 := hO.cls
    rw [hvm] at h9
    exact h9
  have hall : s.sameButNew ({ U with vm := s.vm } : State) locs mc ms := by
    subst hA
    obtain ⟨e1, e2⟩ := hsame
    rw [State.setFrames_setFrames] at e1
    have h2 : (T.setVm s.vm).sameButNew ({ U with vm := s.vm } : State) [] (0 + 1) (0 + 6) := ⟨e1, e2⟩
    have h3 := X.same.trans h2
    rw [List.append_nil] at h3
    exact h3.mono hc hs
  refine ⟨U, ?_, .threw T.heap.size, hrun, hend, Or.inr ⟨T.heap.size, rfl, cls, ce, locs, hx U hWs.alike f1 (fun q hq => f2 q hq (fun z hz => nomatch hz)), hce, hO.vm, hcl, hWs, hall, hf⟩⟩
  refine st1 _ ?_
  show Steps p.tables e below (T1.setTop { method := m, pc := pc + 3, locals := ls, stack := .ref T.heap.size :: rest, locked := none }) _
  jvm_step X₁.here [X₁.here.top, hexec, d3', Value.category]
  exact hsteps
/-- 'throw new E("text")': new; dup; ldc; invokespecial; athrow -/
theorem vx_throwS {cc : ByteArray} {pc : Nat} (hexec : p.tables.exec = Jvm.exec) (hb : c.code = cc) (hl : l.stackTraces = false) {own cls text : String} {names : List String} {ik is ic mc ms sa : Nat} {A : Nat → Prop}
    (hown : s.vm.findClass own = some m.cls) (hcls : Bundle.fit cls = true) (hnames : ∀ n ∈ names, Bundle.fit n = true)
    (hk : (Cond.classLink own ik cls).before args s = true) (hini : (Cond.initialized cls).before args s = true) (hstr : vk_R own is text sa s) (hat : ∀ w ∈ vx_atS own ic cls names, w.before args s = true)
    (hgood : ∀ w ∈ Cond.classLink own ik cls :: Cond.initialized cls :: vx_atS own ic cls names, vx_ot w = true)
    (hU : vx_Zq Bundle.tN "UNASSIGNED_STACK" Bundle.steD A s s.heap) (hN : vx_Zq Bundle.tN "SUPPRESSED_SENTINEL" Bundle.listD A s s.heap) (hS : va_S A s.heap H locs) (hsize : ls.size = c.maxLocals)
    (d0 : decode cc pc = .ok (.new ik, 3)) (d3 : decode cc (pc + 3) = .ok (.dup, 1)) (d4 : decode cc (pc + 4) = .ok (.ldc is, 2)) (d6 : decode cc (pc + 6) = .ok (.invokespecial ic, 3)) (d9 : decode cc (pc + 9) = .ok (.athrow, 1))
    (hout : ∀ x ∈ c.exceptionTable.toList, covers x (pc + 9) = false)
    (hRframes : names.length + 3 < R.frames) (hRlocals : (rest.map fun v => v.category).sum + (13 * (names.length + 1) + 43) ≤ R.locals) (hRcells : cells + 1 ≤ R.cells) (hRslots : slots + 6 ≤ R.slots) (hlocks : meth.locks = false)
    (hx : ∀ t : State, s.vm.Alike t.vm → H.size ≤ t.heap.size → (∀ q : Nat, q < H.size → t.heap[q]? = H[q]?) → XC cls s t)
    (hf : ∀ z ∈ locs, free z.base) (hc : cells + 1 ≤ mc) (hs : slots + 6 ≤ ms) :
    W p l e R s m args below meth c H locs cells slots (vx_MQ below Qc XC args s mc ms free) (F0 m pc ls rest) := by
  intro T hT X
  have htr : e.platform.stackTraces = false := (show e.platform.stackTraces = l.stackTraces by rw [X.admits.platform]).trans hl
  have Y := vx_rebase X (R' := { frames := R.frames, locals := R.locals, cells := 1, slots := 6 }) (Nat.le_refl _) (Nat.le_refl _) hRcells hRslots
  obtain ⟨s', hA⟩ : ∃ z, z = (T.setVm s.vm).setFrames (.invoking m args :: below) := ⟨_, rfl⟩
  rw [← hA] at Y
  have hvm : s'.vm = s.vm := by rw [hA]; rfl
  have hhp : s'.heap = H := by rw [hA]; exact hT
  have hW0 : s.WarmedH s'.vm := by rw [hvm]; exact State.WarmedH.refl s
  have hat' : ∀ w ∈ vx_atS own ic cls names, w.before args s' = true := fun w hw => vx_ot_at hW0 hvm.symm (hgood w (List.mem_cons_of_mem _ (List.mem_cons_of_mem _ hw))) (hat w hw)
  have hk' : (Cond.classLink own ik cls).before args s' = true := vx_ot_at hW0 hvm.symm (hgood _ List.mem_cons_self) hk
  have hini' : (Cond.initialized cls).before args s' = true := vx_ot_at hW0 hvm.symm (hgood _ (List.mem_cons_of_mem _ List.mem_cons_self)) hini
  have hU' : vx_Zq Bundle.tN "UNASSIGNED_STACK" Bundle.steD A s' s'.heap := by rw [hhp]; exact vx_Zq.moved hW0.alike (hU.kept hS.2.1)
  have hN' : vx_Zq Bundle.tN "SUPPRESSED_SENTINEL" Bundle.listD A s' s'.heap := by rw [hhp]; exact vx_Zq.moved hW0.alike (hN.kept hS.2.1)
  have h : ∀ w ∈ Bundle.ownAtoms own ic cls names, w.before args s' = true := vx_own hat' (vx_isRefq hU'.1) (vx_isRefq hN'.1) hU'.2.word hN'.2.word
  have hown' : s'.vm.findClass own = some m.cls := by rw [hvm]; exact hown
  have hins : (Cond.instantiable cls 6).before args s' = true := h _ (by simp [Bundle.ownAtoms])
  obtain ⟨vm₁, cX, kX, hfX, hkX, -, -, X₁, st1⟩ := Y.newCold hexec (own := own) (C := cls) (index := ik) (n := 6) hown' hk' hins hini'
    (g := F0 m pc ls rest) rfl (by rw [hb]; exact d0) (Nat.le_refl _) (Nat.le_refl _)
  generalize hT1 : (T.setVm vm₁).pushCell { cls := cX, slots := kX.instanceTypes.map defaultValue, vm := .none } = T1 at X₁ st1
  have hcat : (Value.ref T.heap.size).category = 1 := rfl
  have hcellA : T1.heap[T.heap.size]? = some (freshCell cX kX) := by rw [← hT1]; exact State.heap_pushCell_size _ _
  have d3' : decode c.code (pc + 3) = .ok (.dup, 1) := by rw [hb]; exact d3
  have d4' : decode c.code (pc + 4) = .ok (.ldc is, 2) := by rw [hb]; exact d4
  have hstr' : vk_R own is text sa s' := vk_R.warm hW0 hstr
  obtain ⟨U, hsteps, hrun, hend, hW, hsame, ce, hce, hO⟩ := X₁.ctorThrowS hexec htr (own := own) (cls := cls) (names := names) (ic := ic) hown' hcls hnames h (fun x hx => nomatch hx) hfX hkX hcellA (by rw [hhp, hT]; exact Nat.le_refl _) (msg := .ref sa) rfl
    (g := { method := m, pc := pc + 6, locals := ls, stack := .ref sa :: .ref T.heap.size :: .ref T.heap.size :: rest, locked := none }) rfl hsize rfl rfl (rest := rest) rfl
    (by rw [hb]; exact d6) (by rw [hb]; exact d9) hout hRframes (by simp only [List.map_cons, List.sum_cons, hcat]; omega) hlocks
  obtain ⟨f1, f2⟩ := vx_frame hsame
  rw [hhp] at f1 f2
  have hWs : s.WarmedH U.vm := State.WarmedH.trans hW0 hW
  have hcl : s.vm.findClass cls = some ce.cls := by
    have h9 := hO.cls
    rw [hvm] at h9
    exact h9
  have hall : s.sameButNew ({ U with vm := s.vm } : State) locs mc ms := by
    subst hA
    obtain ⟨e1, e2⟩ := hsame
    rw [State.setFrames_setFrames] at e1
    have h2 : (T.setVm s.vm).sameButNew ({ U with vm := s.vm } : State) [] (0 + 1) (0 + 6) := ⟨e1, e2⟩
    have h3 := X.same.trans h2
    rw [List.append_nil] at h3
    exact h3.mono hc hs
  refine ⟨U, ?_, .threw T.heap.size, hrun, hend, Or.inr ⟨T.heap.size, rfl, cls, ce, locs, hx U hWs.alike f1 (fun q hq => f2 q hq (fun z hz => nomatch hz)), hce, hO.vm, hcl, hWs, hall, hf⟩⟩
  refine st1 _ ?_
  show Steps p.tables e below (T1.setTop { method := m, pc := pc + 3, locals := ls, stack := .ref T.heap.size :: rest, locked := none }) _
  jvm_step X₁.here [X₁.here.top, hexec, d3', Value.category]
  exact X₁.ldcString hexec (own := own) (text := text) (index := is) (a := sa) hown' hstr'.1 hstr'.2
    (g := { method := m, pc := pc + 4, locals := ls, stack := .ref T.heap.size :: .ref T.heap.size :: rest, locked := none }) rfl d4' _ hsteps
/-- 'throw new E("text")', the text by a wide index -/
theorem vx_throwSW {cc : ByteArray} {pc : Nat} (hexec : p.tables.exec = Jvm.exec) (hb : c.code = cc) (hl : l.stackTraces = false) {own cls text : String} {names : List String} {ik is ic mc ms sa : Nat} {A : Nat → Prop}
    (hown : s.vm.findClass own = some m.cls) (hcls : Bundle.fit cls = true) (hnames : ∀ n ∈ names, Bundle.fit n = true)
    (hk : (Cond.classLink own ik cls).before args s = true) (hini : (Cond.initialized cls).before args s = true) (hstr : vk_R own is text sa s) (hat : ∀ w ∈ vx_atS own ic cls names, w.before args s = true)
    (hgood : ∀ w ∈ Cond.classLink own ik cls :: Cond.initialized cls :: vx_atS own ic cls names, vx_ot w = true)
    (hU : vx_Zq Bundle.tN "UNASSIGNED_STACK" Bundle.steD A s s.heap) (hN : vx_Zq Bundle.tN "SUPPRESSED_SENTINEL" Bundle.listD A s s.heap) (hS : va_S A s.heap H locs) (hsize : ls.size = c.maxLocals)
    (d0 : decode cc pc = .ok (.new ik, 3)) (d3 : decode cc (pc + 3) = .ok (.dup, 1)) (d4 : decode cc (pc + 4) = .ok (.ldc_w is, 3)) (d7 : decode cc (pc + 7) = .ok (.invokespecial ic, 3)) (d10 : decode cc (pc + 10) = .ok (.athrow, 1))
    (hout : ∀ x ∈ c.exceptionTable.toList, covers x (pc + 10) = false)
    (hRframes : names.length + 3 < R.frames) (hRlocals : (rest.map fun v => v.category).sum + (13 * (names.length + 1) + 43) ≤ R.locals) (hRcells : cells + 1 ≤ R.cells) (hRslots : slots + 6 ≤ R.slots) (hlocks : meth.locks = false)
    (hx : ∀ t : State, s.vm.Alike t.vm → H.size ≤ t.heap.size → (∀ q : Nat, q < H.size → t.heap[q]? = H[q]?) → XC cls s t)
    (hf : ∀ z ∈ locs, free z.base) (hc : cells + 1 ≤ mc) (hs : slots + 6 ≤ ms) :
    W p l e R s m args below meth c H locs cells slots (vx_MQ below Qc XC args s mc ms free) (F0 m pc ls rest) := by
  intro T hT X
  have htr : e.platform.stackTraces = false := (show e.platform.stackTraces = l.stackTraces by rw [X.admits.platform]).trans hl
  have Y := vx_rebase X (R' := { frames := R.frames, locals := R.locals, cells := 1, slots := 6 }) (Nat.le_refl _) (Nat.le_refl _) hRcells hRslots
  obtain ⟨s', hA⟩ : ∃ z, z = (T.setVm s.vm).setFrames (.invoking m args :: below) := ⟨_, rfl⟩
  rw [← hA] at Y
  have hvm : s'.vm = s.vm := by rw [hA]; rfl
  have hhp : s'.heap = H := by rw [hA]; exact hT
  have hW0 : s.WarmedH s'.vm := by rw [hvm]; exact State.WarmedH.refl s
  have hat' : ∀ w ∈ vx_atS own ic cls names, w.before args s' = true := fun w hw => vx_ot_at hW0 hvm.symm (hgood w (List.mem_cons_of_mem _ (List.mem_cons_of_mem _ hw))) (hat w hw)
  have hk' : (Cond.classLink own ik cls).before args s' = true := vx_ot_at hW0 hvm.symm (hgood _ List.mem_cons_self) hk
  have hini' : (Cond.initialized cls).before args s' = true := vx_ot_at hW0 hvm.symm (hgood _ (List.mem_cons_of_mem _ List.mem_cons_self)) hini
  have hU' : vx_Zq Bundle.tN "UNASSIGNED_STACK" Bundle.steD A s' s'.heap := by rw [hhp]; exact vx_Zq.moved hW0.alike (hU.kept hS.2.1)
  have hN' : vx_Zq Bundle.tN "SUPPRESSED_SENTINEL" Bundle.listD A s' s'.heap := by rw [hhp]; exact vx_Zq.moved hW0.alike (hN.kept hS.2.1)
  have h : ∀ w ∈ Bundle.ownAtoms own ic cls names, w.before args s' = true := vx_own hat' (vx_isRefq hU'.1) (vx_isRefq hN'.1) hU'.2.word hN'.2.word
  have hown' : s'.vm.findClass own = some m.cls := by rw [hvm]; exact hown
  have hins : (Cond.instantiable cls 6).before args s' = true := h _ (by simp [Bundle.ownAtoms])
  obtain ⟨vm₁, cX, kX, hfX, hkX, -, -, X₁, st1⟩ := Y.newCold hexec (own := own) (C := cls) (index := ik) (n := 6) hown' hk' hins hini'
    (g := F0 m pc ls rest) rfl (by rw [hb]; exact d0) (Nat.le_refl _) (Nat.le_refl _)
  generalize hT1 : (T.setVm vm₁).pushCell { cls := cX, slots := kX.instanceTypes.map defaultValue, vm := .none } = T1 at X₁ st1
  have hcat : (Value.ref T.heap.size).category = 1 := rfl
  have hcellA : T1.heap[T.heap.size]? = some (freshCell cX kX) := by rw [← hT1]; exact State.heap_pushCell_size _ _
  have d3' : decode c.code (pc + 3) = .ok (.dup, 1) := by rw [hb]; exact d3
  have d4' : decode c.code (pc + 4) = .ok (.ldc_w is, 3) := by rw [hb]; exact d4
  have hstr' : vk_R own is text sa s' := vk_R.warm hW0 hstr
  obtain ⟨U, hsteps, hrun, hend, hW, hsame, ce, hce, hO⟩ := X₁.ctorThrowS hexec htr (own := own) (cls := cls) (names := names) (ic := ic) hown' hcls hnames h (fun x hx => nomatch hx) hfX hkX hcellA (by rw [hhp, hT]; exact Nat.le_refl _) (msg := .ref sa) rfl
    (g := { method := m, pc := pc + 7, locals := ls, stack := .ref sa :: .ref T.heap.size :: .ref T.heap.size :: rest, locked := none }) rfl hsize rfl rfl (rest := rest) rfl
    (by rw [hb]; exact d7) (by rw [hb]; exact d10) hout hRframes (by simp only [List.map_cons, List.sum_cons, hcat]; omega) hlocks
  obtain ⟨f1, f2⟩ := vx_frame hsame
  rw [hhp] at f1 f2
  have hWs : s.WarmedH U.vm := State.WarmedH.trans hW0 hW
  have hcl : s.vm.findClass cls = some ce.cls := by
    have h9 := hO.cls
    rw [hvm] at h9
    exact h9
  have hall : s.sameButNew ({ U with vm := s.vm } : State) locs mc ms := by
    subst hA
    obtain ⟨e1, e2⟩ := hsame
    rw [State.setFrames_setFrames] at e1
    have h2 : (T.setVm s.vm).sameButNew ({ U with vm := s.vm } : State) [] (0 + 1) (0 + 6) := ⟨e1, e2⟩
    have h3 := X.same.trans h2
    rw [List.append_nil] at h3
    exact h3.mono hc hs
  refine ⟨U, ?_, .threw T.heap.size, hrun, hend, Or.inr ⟨T.heap.size, rfl, cls, ce, locs, hx U hWs.alike f1 (fun q hq => f2 q hq (fun z hz => nomatch hz)), hce, hO.vm, hcl, hWs, hall, hf⟩⟩
  refine st1 _ ?_
  show Steps p.tables e below (T1.setTop { method := m, pc := pc + 3, locals := ls, stack := .ref T.heap.size :: rest, locked := none }) _
  jvm_step X₁.here [X₁.here.top, hexec, d3', Value.category]
  exact X₁.ldcStringW hexec (own := own) (text := text) (index := is) (a := sa) hown' hstr'.1 hstr'.2
    (g := { method := m, pc := pc + 4, locals := ls, stack := .ref T.heap.size :: .ref T.heap.size :: rest, locked := none }) rfl d4' _ hsteps
end Ends
section Bodies
variable {l : Launch}
theorem vx_ofW {y : MethodName} {ws ws' : List Cond} {rm : Room} {Pc : Array Value → State → Prop} {Qc : Array Value → State → Outcome → State → Prop} {XC : String → State → State → Prop} {mc ms : Nat} {free : Addr → Prop} {cc : ByteArray} {maxL : Nat} {ret : Option FieldType}
    (hy : plainName y.cls = true) (hw : ws = Cond.code y cc maxL ret :: ws')
    (body : ∀ p e s m args below meth c s₁, BodyLoose p l y (headSpec ws rm) cc maxL ret e s m args below meth c s₁ → c.maxLocals = maxL → (∀ x ∈ c.exceptionTable.toList, False) → Pc args s →
      W p l e (headSpec ws rm).room s m args below meth c s.heap [] 0 0 (vx_MQ below Qc XC args s mc ms free) (entryFrame m args maxL)) : vx_Met l y ws rm Pc Qc XC mc ms free := by
  refine MetFree.of_bodyS (code := cc) (maxLocals := maxL) (ret := ret) hy ?_ ?_
  · intro args s m h hn
    obtain ⟨meth, c, h1, h2, h3, h4, h5, h6, -, -⟩ := Cond.code_spec hn (atoms_spec (ws := ws) h _ (by rw [hw]; exact List.mem_cons_self))
    exact ⟨meth, c, h1, h2, h3, h4, h5, h6⟩
  · intro p e s m args below meth c s₁ B hml hP _
    have hh0 : s₁.heap = s.heap := by rw [B.state]; rfl
    have ht : ∀ x ∈ c.exceptionTable.toList, False := by
      obtain ⟨meth9, c9, h1, h2, -, -, -, -, h7, -⟩ := Cond.code_spec B.named (atoms_spec (ws := ws) B.pre _ (by rw [hw]; exact List.mem_cons_self))
      cases Option.some.inj (h1.symm.trans B.method)
      cases Option.some.inj (h2.symm.trans (Stand.of_body B).code)
      intro x hx
      rw [Array.isEmpty_iff.mp h7] at hx
      cases hx
    obtain ⟨t, a1, o, b1, b2, b3⟩ := body p e s m args below meth c s₁ B hml ht hP s₁ hh0 (Stand.of_body B)
    exact ⟨t, o, a1, b1, b2, b3⟩
/-- the table of a body with handlers -/
theorem vx_table {p : Program} {x y : MethodName} {S : Spec} {cc bytes : ByteArray} {maxL maxL' : Nat} {ret ret' : Option FieldType} {e : Env} {s s₁ : State} {m : MethodId} {args : Array Value} {below : List Frame} {meth : Method} {c : Code} {hh : List (Nat × Nat × Nat × Nat)}
    (B : BodyLoose p l y S cc maxL ret e s m args below meth c s₁) (h : (Cond.codeWith y bytes maxL' ret' hh).before args s = true) : c.exceptionTable.toList = tableOf hh := by
  obtain ⟨m9, meth9, c9, hn9, h1, h2, -, -, h6, -⟩ := Cond.codeWith_spec h
  cases Option.some.inj (hn9.symm.trans B.named)
  cases Option.some.inj (h1.symm.trans B.method)
  cases Option.some.inj (h2.symm.trans (Stand.of_body B).code)
  rw [← h6, table_eq]
end Bodies
end VXA
/-! ===== END ===== -/
/-! ===== BEGIN a static call of a method with an exception table ===== -/
section VXS
variable {p : Program} {l : Launch} {e : Env} {R : Room} {s : State} {m : MethodId} {args : Array Value} {below : List Frame} {meth : Method} {c : Code} {T : State} {H : Heap} {locs : List Loc} {cells slots : Nat}
abbrev vx_CSW (R : Room) (s : State) (args : Array Value) (own : String) (index : Nat) (y : MethodName) (bytes : ByteArray) (maxL : Nat) (ret : Option FieldType) (hh : List (Nat × Nat × Nat × Nat)) (ws : List Cond) (rm : Room) (mc ms n : Nat) : Prop :=
  (rm.cells = mc ∧ rm.slots = ms ∧ rm.frames + 1 ≤ R.frames ∧ 8 + (maxL + 11) + rm.locals ≤ R.locals ∧ (∀ w ∈ ws, ∀ (a' : Array Value) (U : State), s.WarmedH U.vm → w.before a' U = true) ∧ Cond.codeWith y bytes maxL ret hh ∈ ws) ∧
  (Cond.codeWith y bytes maxL ret hh).before args s = true ∧ (Cond.initialized y.cls).before args s = true ∧ (y.cls ≠ "java/lang/invoke/MethodHandle" ∧ y.cls ≠ "java/lang/invoke/VarHandle") ∧
  (∀ sig, parseMethodDescriptor y.desc = some sig → n = sig.parameters.length) ∧ (Cond.methodLink own index y).before args s = true ∧ (Cond.static y).before args s = true
theorem vx_cwSW {own : String} {index maxL mc ms : Nat} {y : MethodName} {bytes : ByteArray} {ret : Option FieldType} {hh : List (Nat × Nat × Nat × Nat)} {Ts ws ws' : List Cond} {rm : Room} (n : Nat) (ht : ∀ w ∈ Ts, w.before args s = true) (hT : GoodIn Ts (va_wsS own index y ws)) (hw : ws = Cond.codeWith y bytes maxL ret hh :: ws') (hrc : rm.cells = mc) (hrs : rm.slots = ms)
    (hd : y.cls ≠ "java/lang/invoke/MethodHandle" ∧ y.cls ≠ "java/lang/invoke/VarHandle" ∧ (parseMethodDescriptor y.desc).map (fun d => d.parameters.length) = some n) (hR : rm.frames + 1 ≤ R.frames ∧ 8 + (maxL + 11) + rm.locals ≤ R.locals) :
    vx_CSW R s args own index y bytes maxL ret hh ws rm mc ms n := by
  have ok : ∀ w ∈ va_wsS own index y ws, w.before args s = true := fun w h => ht w (hT w h).1
  have hG : GoodIn Ts ws := fun w h => hT w (by unfold va_wsS; exact List.mem_append_right _ h)
  have hc : Cond.codeWith y bytes maxL ret hh ∈ ws := by rw [hw]; exact List.mem_cons_self
  refine ⟨⟨hrc, hrs, hR.1, hR.2, pay_in ht hG, hc⟩, ht _ (hG _ hc).1, ok _ (by simp [va_wsS]), ⟨hd.1, hd.2.1⟩, fun sig h => ?_, ok _ (by simp [va_wsS]), ok _ (by simp [va_wsS])⟩
  have h2 := hd.2.2
  rw [h] at h2
  exact (Option.some.inj h2).symm
theorem vx_callSW (X : Stand p l e R s m args below meth c T locs cells slots) (hexec : p.tables.exec = Jvm.exec) {own : String} {index : Nat} {y : MethodName} {bytes : ByteArray} {maxL : Nat} {ret : Option FieldType} {hh : List (Nat × Nat × Nat × Nat)}
    (hown : s.vm.findClass own = some m.cls) (hlink : (Cond.methodLink own index y).before args s = true) (hstat : (Cond.static y).before args s = true) (hinit : (Cond.initialized y.cls).before args s = true)
    (hcode : (Cond.codeWith y bytes maxL ret hh).before args s = true) (hy : y.cls ≠ "java/lang/invoke/MethodHandle" ∧ y.cls ≠ "java/lang/invoke/VarHandle")
    {W9 : Nat} {Pre : Pt → Array Value → Prop} {Post : Pt → Array Value → Option Value → Pt → Prop} (hK : Back l R p e below s args y 3 W9 Pre Post)
    {g : JFrame} (hg : g.method = m) (hsize : g.locals.size = c.maxLocals) {argsL rest : List Value} (hlen : ∀ sig, parseMethodDescriptor y.desc = some sig → argsL.length = sig.parameters.length)
    (hstack : g.stack = argsL.reverse ++ rest) (hW : 2 * g.monitorRoom + (rest.map fun v => v.category).sum ≤ W9) (hdg : decode c.code g.pc = .ok (.invokestatic index, 3))
    (hpre : ∀ vm₁, s.WarmedH vm₁ → Pre ⟨T.setVm vm₁, locs, cells, slots⟩ argsL.toArray) :
    ∃ (v : Option Value) (vm₁ : Vm) (B : Pt), s.WarmedH vm₁ ∧ Stand p l e R s m args below meth c B.U B.locs B.cells B.slots ∧ Post ⟨T.setVm vm₁, locs, cells, slots⟩ argsL.toArray v B ∧
      ∀ target, Steps p.tables e below (B.U.setTop { g with pc := g.pc + 3, stack := v.toList ++ rest }) target → Steps p.tables e below (T.setTop g) target := by
  obtain ⟨mk, methM, cM, hnamed, hmethM, -, -, -, -, -, -, hsigM⟩ := Cond.codeWith_spec hcode
  have hstatic : methM.isStatic = true := Cond.static_spec hnamed hmethM hstat
  obtain ⟨kP, hkP, -⟩ := className_of_methodNamed hnamed
  have hinitP : kP.init = .initialized := Cond.initialized_spec (findClass_of_methodNamed hnamed) hkP hinit
  obtain ⟨vm₁, X₁, hstep₁⟩ := X.invokestatic hexec hown hlink hnamed hmethM hstatic hkP hinitP hy (g := g) hg (argsL := argsL) (rest := rest) (hlen _ hsigM) hstack hdg
  obtain ⟨v, B, X', hpost, hsteps⟩ := hK m meth c ⟨T.setVm vm₁, locs, cells, slots⟩ { g with stack := rest } (.invokestatic index) mk argsL.toArray X₁ hg hsize hdg hW (X₁.named hnamed) (hpre vm₁ X₁.warmed)
  exact ⟨v, vm₁, B, X₁.warmed, X', hpost, fun target h => hstep₁ _ fun acts => by rw [doInvoke_state]; exact hsteps.trans h⟩
theorem vx_runSW {y : MethodName} {bytes cc : ByteArray} {maxL nL mc ms n index : Nat} {ret : Option FieldType} {hh : List (Nat × Nat × Nat × Nat)} {ws : List Cond} {rm : Room} {Pc : Array Value → State → Prop} {Qc : Array Value → State → Outcome → State → Prop} {free : Addr → Prop} {Ts : List Cond} {own : String} {As rest : List Value} {g : JFrame}
    (S : CallFix p m c cc nL s args Ts own) (hM : Met l y ws rm Pc Qc mc ms free) (cw : vx_CSW R s args own index y bytes maxL ret hh ws rm mc ms n) (hp : PreS s H Pc As)
    (hg : g.method = m) (hn : As.length = n) (hsize : g.locals.size = nL) (hstack : g.stack = As.reverse ++ rest) (hW : 2 * g.monitorRoom + (rest.map fun v => v.category).sum ≤ 8) (hdg : decode cc g.pc = .ok (.invokestatic index, 3)) (hf : cells + mc ≤ R.cells ∧ slots + ms ≤ R.slots) :
    va_Run p l e R s m args below meth c H locs cells slots mc ms g rest (Qc As.toArray) (free) := by
  obtain ⟨⟨hrc, hrs, hfr, hlo, hws, hcw⟩, hcode, hini, hy, hlen, hl, hstt⟩ := cw
  have hK : Back l R p e below s args y 3 8 (PreOf R mc ms Pc) (PostOf Qc mc ms free) := va_backW (hh := hh) (bytes := bytes) (maxL := maxL) (ret := ret) hM hp.1 hrc hrs hfr hlo hws hcw (fun a' U hW => word_at hW (Or.inl (by first | rfl | simp [Cond.onTables, Cond.keeps, Cond.steady])) hini)
  obtain ⟨hx, hb, hml, ho, -⟩ := S
  intro T hT X
  obtain ⟨v, vm₁, ⟨U', l2, c2, s2⟩, hW₁, X', ⟨g', mk, t, L, e1, e2, hq, h1, hL, h2, h3⟩, st⟩ := vx_callSW X hx (hh := hh) (bytes := bytes) (maxL := maxL) (ret := ret) ho hl hstt hini hcode hy hK hg (hsize.trans hml.symm) (argsL := As) (rest := rest) (fun sig h => hn.trans (hlen sig h)) hstack hW (by rw [hb]; exact hdg)
    (fun vm₁ hW₁ => ⟨hf.1, hf.2, hp.2 (T.setVm vm₁) hT hW₁⟩)
  dsimp only [Pt.U, Pt.locs, Pt.cells, Pt.slots] at X' e1 e2 h1 h2 h3 st
  subst h1; subst h2; subst h3
  exact ⟨v, (T.setVm vm₁).calling g' mk As.toArray, t, U', L, hT, X', hL, e1, e2, hq, st⟩
/-- not caught here, past rows that name other classes: it goes on to the caller -/
theorem vx_outP {p : Program} {l : Launch} {e : Env} {R : Room} {s : State} {m : MethodId} {args : Array Value} {below : List Frame} {meth : Method} {c : Code} {H : Heap} {locs : List Loc} {cells slots : Nat} {free : Addr → Prop} {ls : Array Slot} {rest : List Value} {Qc : Array Value → State → Outcome → State → Prop} {XC : String → State → State → Prop}
    {pc : Nat} {own E : String} {ce : Cell} {q : Addr} {mc ms : Nat} (hown : s.vm.findClass own = some m.cls) (hlocks : meth.locks = false)
    (hpass : ∀ z ∈ c.exceptionTable.toList, covers z pc = false ∨ (z.catchType ≠ 0 ∧ ∃ nm : String, (Cond.classLink own z.catchType nm).before args s = true ∧ va_Nc E nm s)) (hcell : H[q]? = some ce) (hv : ce.vm = .none) (hcl : s.vm.findClass E = some ce.cls)
    (hx : ∀ t : State, t.heap = H → s.vm.Alike t.vm → XC E s t) (hf : ∀ z ∈ locs, free z.base) (hc : cells ≤ mc) (hs : slots ≤ ms) :
    vx_W p l e R s m args below meth c H locs cells slots (vx_MQ below Qc XC args s mc ms free) (F0 m pc ls rest) q := by
  intro T hT X
  have hpl : e.platform.magicAccessors = ({} : Platform).magicAccessors := by rw [X.admits.platform]
  obtain ⟨vm', hW', X', st⟩ := X.outThrough hlocks q (g := F0 m pc ls rest) rfl rfl rfl (cell := ce) (by rw [hT]; exact hcell) (by rw [hv]; rfl)
    (by obtain ⟨k9, h9, -⟩ := Vm.findClass_spec hcl; exact ⟨k9, h9⟩) (fun z hz => by
      rcases hpass z hz with h | ⟨hz0, nm, hl1, hn1⟩
      · exact Or.inl h
      · obtain ⟨c6, hc6, hcl6⟩ := Cond.classLink_spec hown hl1 e.platform hpl
        obtain ⟨a8, b8, h1, h2, h3⟩ := hn1
        cases Option.some.inj (h1.symm.trans hcl)
        cases Option.some.inj (h2.symm.trans hc6)
        exact Or.inr ⟨hz0, _, hcl6, h3⟩)
  obtain ⟨g₀, hfr⟩ := X'.frames_eq
  have hcell9 : ((T.setVm vm').setFrames (.throwing q :: below)).heap[q]? = some ce := by
    show T.heap[q]? = some ce
    rw [hT]; exact hcell
  have hend : Ended ((T.setVm vm').setFrames (.throwing q :: below)) below (.threw q) := State.frames_setFrames _ (State.cur_lt_of_frames hfr)
  refine ⟨(T.setVm vm').setFrames (.throwing q :: below), ?_, .threw q, X'.here.running, hend, Or.inr ⟨q, rfl, E, ce, locs, hx _ hT (X'.ends _).1.alike, hcell9, hv, hcl, (X'.ends _).1, (X'.ends _).2.mono hc hs, hf⟩⟩
  rw [X.pushThrowing_eq]
  exact st
/-- a thing of a world lies in the heap -/
theorem vx_lt {D : va_G} {cl : List vw_C} {ws : va_W} {H1 : Heap} (h : va_P D cl ws H1) {k : Nat} {q : Nat × va_E} (hk : ws[k]? = some q) : q.1 < H1.size := (h k q hk).lt
end VXS
/-! ===== END ===== -/
/-! ===== BEGIN methods with a table of their own: called by a name, returning or throwing ===== -/
section VXH
/-! vx_backW, vx_callVX, vx_callSX, vx_callVW, vx_runVW, vx_runVX, vx_runSX, vx_ofWH follow the same proofs as their sisters above (Free/Laws.lean, Shelf42/LK1.lean); vx_outP calls Shelf42/NT130.lean (outThrough). -/
section
variable {l : Launch} {R : Room} {p : Program} {e : Env} {below : List Frame} {s : State} {sargs : Array Value} {y : MethodName} {len W9 : Nat}
theorem vx_backW {ws : List Cond} {rm : Room} {Pc : Array Value → State → Prop} {Qc : Array Value → State → Outcome → State → Prop} {XC : String → State → State → Prop} {mc ms : Nat} {free : Addr → Prop} {bytes : ByteArray} {maxL : Nat} {ret : Option FieldType} {hh : List (Nat × Nat × Nat × Nat)}
    (hM : vx_Met l y ws rm Pc Qc XC mc ms free) (hblind : FrameBlind Pc) (hrc : rm.cells = mc) (hrs : rm.slots = ms)
    (hframes : rm.frames + 1 ≤ R.frames) (hlocals : W9 + (maxL + 11) + rm.locals ≤ R.locals)
    (hws : ∀ w ∈ ws, ∀ a' U, s.WarmedH U.vm → w.before a' U = true) (hcode : Cond.codeWith y bytes maxL ret hh ∈ ws) (hinit : ∀ a' U, s.WarmedH U.vm → (Cond.initialized y.cls).before a' U = true) :
    vx_Back l R p e below s sargs y len W9 (PreOf R mc ms Pc) (PostOf Qc mc ms free) (vx_Post XC mc ms free) := by
  intro m meth c A g ig mk a X hg hsize hdg hW hn hp
  have h1 : (headSpec ws rm).pre.before a A.U = true := atoms_intro fun w hw => hws w hw _ _ X.warmed
  have h2 : (Cond.codeWith y bytes maxL ret hh).before a A.U = true := hws _ hcode _ _ X.warmed
  have h3 : (Cond.initialized y.cls).before a A.U = true := hinit _ _ X.warmed
  have h4 : A.cells + (headSpec ws rm).room.cells ≤ R.cells := by rw [show (headSpec ws rm).room.cells = mc from hrc]; exact hp.1
  have h5 : A.slots + (headSpec ws rm).room.slots ≤ R.slots := by rw [show (headSpec ws rm).room.slots = ms from hrs]; exact hp.2.1
  have hPc : Pc a (A.U.calling g mk a) := hblind _ _ _ _ hp.2.2
  obtain ⟨U, Ls, c0, s0⟩ := A
  dsimp only [Pt.U, Pt.locs, Pt.cells, Pt.slots] at h1 h2 h3 h4 h5 X hn hPc ⊢
  obtain ⟨m9, methY, cY, hn9, hmY, hcY, -, hlY, -⟩ := Cond.codeWith_spec h2
  cases Option.some.inj (hn9.symm.trans hn)
  obtain ⟨kY, hkY, -⟩ := className_of_methodNamed hn
  have hinitY : kY.init = .initialized := Cond.initialized_spec (findClass_of_methodNamed hn) hkY h3
  have h : At U g.method c below := by rw [hg]; exact X.here
  have hlocals9 : W9 + (maxL + 11) + (headSpec ws rm).room.locals ≤ R.locals := hlocals
  have happ : (headSpec ws rm).appliesLoose y e.platform (U.calling g mk a) = true :=
    Spec.appliesLoose_calling (g := g) h hdg hn hkY hinitY
      (X.room_calling (g := g) (R' := (headSpec ws rm).room) hsize hmY hcY hframes (by rw [hlY]; omega) h4 h5) h1
  obtain ⟨mid, hmid⟩ := h.above
  have hfr : (U.setTop g).frames = (.java g :: mid) ++ below := by rw [State.frames_setTop' g h.top, hmid]; rfl
  obtain ⟨o, s₂, hsteps, -, hend, hq⟩ := Steps.callFree hM p X.admits X.cas X.clock (acts := []) hfr happ hPc trivial
  have hq' : vx_Q Qc XC mc ms free a (U.calling g mk a) o s₂ := hq
  rw [State.frames_setTop' g h.top] at hend
  obtain ⟨g₀, hg0⟩ := Option.isSome_iff_exists.mp h.top
  obtain ⟨r, hr⟩ := State.topJava?_eq_some.mp hg0
  have hr' : (({ U with heap := s₂.heap, slotsUsed := s₂.slotsUsed } : State).setVm s₂.vm).frames = .java g₀ :: r := hr
  rcases hq' with ⟨hqc, L, hfe, hL⟩ | ⟨q, rfl, E, ce, L, hx, hce, hcv, hcl, hW₂, hsm, hL⟩
  · obtain ⟨⟨v, rfl⟩, hW₂, e2, q2, q3, q4, q5, q6⟩ := id hfe
    have e3 : s₂ = ({ (U.calling g mk a).setFrames s₂.frames with heap := s₂.heap, slotsUsed := s₂.slotsUsed } : State).setVm s₂.vm := by
      have : s₂ = ({ s₂ with vm := (U.calling g mk a).vm } : State).setVm s₂.vm := rfl
      rw [e2] at this
      exact this
    obtain ⟨c₂, i₂, len₂, hc₂, hd₂, hf₂⟩ := hend
    have hW' : U.WarmedH s₂.vm := hW₂
    have hcc : c₂ = c := by
      have h1 : s₂.code? g.method = U.code? g.method := by
        rw [State.code?_eq, State.code?_eq, hW'.alike.method?]
      exact Option.some.inj (hc₂.symm.trans (h1.trans h.code))
    subst hcc
    have hlen : len₂ = len := by rw [hdg] at hd₂; cases hd₂; rfl
    subst hlen
    have hs₂ : s₂ = (({ U with heap := s₂.heap, slotsUsed := s₂.slotsUsed } : State).setVm s₂.vm).setTop { g with pc := g.pc + len₂, stack := v.toList ++ g.stack } := by
      refine e3.trans ?_
      rw [hf₂, State.calling_eq h.top, State.setFrames_setFrames, State.setTop_of_frames _ hr', hr]
      rfl
    have hsame : U.sameButNew ({ U with heap := s₂.heap, slotsUsed := s₂.slotsUsed } : State) L mc ms := by
      refine ⟨?_, q2, q3, q4, q5, q6⟩
      obtain ⟨t, ht, -⟩ := State.frames_cons hr
      show ({ U with heap := s₂.heap, slotsUsed := s₂.slotsUsed } : State) = { U.setFrames U.frames with heap := s₂.heap, slotsUsed := s₂.slotsUsed }
      rw [State.setFrames_self ht]
    subst hg
    refine Or.inl ⟨v, ⟨(({ U with heap := s₂.heap, slotsUsed := s₂.slotsUsed } : State).setVm s₂.vm), Ls ++ L, c0 + mc, s0 + ms⟩,
      ⟨X.admits, X.cas, X.clock, X.frames, X.room, X.hears, X.method, X.code, (X.here.setHeapUsed s₂.heap s₂.slotsUsed).setVm hW'.alike, X.tail, State.WarmedH.trans X.warmed hW', X.limits, X.bytes, X.same.trans (hsame.setVm s.vm)⟩,
      ⟨g, mk, s₂, L, rfl, rfl, hqc, rfl, hL, rfl, rfl⟩, ?_⟩
    show Steps p.tables e below _ ((({ U with heap := s₂.heap, slotsUsed := s₂.slotsUsed } : State).setVm s₂.vm).setTop { g with pc := g.pc + len₂, stack := v.toList ++ g.stack })
    rw [← hs₂]
    exact hsteps
  · obtain ⟨e2, q2, q3, q4, q5, q6⟩ := id hsm
    have e3 : s₂ = ({ (U.calling g mk a).setFrames s₂.frames with heap := s₂.heap, slotsUsed := s₂.slotsUsed } : State).setVm s₂.vm := by
      have : s₂ = ({ s₂ with vm := (U.calling g mk a).vm } : State).setVm s₂.vm := rfl
      rw [e2] at this
      exact this
    have hf₂ : s₂.frames = .throwing q :: .java g :: U.frames.tail := hend
    have hW' : U.WarmedH s₂.vm := hW₂
    have hs₂ : s₂ = ((({ U with heap := s₂.heap, slotsUsed := s₂.slotsUsed } : State).setVm s₂.vm).setTop g).pushFrame (.throwing q) := by
      refine e3.trans ?_
      rw [hf₂, State.calling_eq h.top, State.setFrames_setFrames, State.pushFrame, State.frames_setTop _ hr', State.setTop_of_frames _ hr', State.setFrames_setFrames, hr]
      rfl
    have hsame : U.sameButNew ({ U with heap := s₂.heap, slotsUsed := s₂.slotsUsed } : State) L mc ms := by
      refine ⟨?_, q2, q3, q4, q5, q6⟩
      obtain ⟨t, ht, -⟩ := State.frames_cons hr
      show ({ U with heap := s₂.heap, slotsUsed := s₂.slotsUsed } : State) = { U.setFrames U.frames with heap := s₂.heap, slotsUsed := s₂.slotsUsed }
      rw [State.setFrames_self ht]
    subst hg
    refine Or.inr ⟨q, ⟨(({ U with heap := s₂.heap, slotsUsed := s₂.slotsUsed } : State).setVm s₂.vm), Ls ++ L, c0 + mc, s0 + ms⟩,
      ⟨X.admits, X.cas, X.clock, X.frames, X.room, X.hears, X.method, X.code, (X.here.setHeapUsed s₂.heap s₂.slotsUsed).setVm hW'.alike, X.tail, State.WarmedH.trans X.warmed hW', X.limits, X.bytes, X.same.trans (hsame.setVm s.vm)⟩,
      ⟨g, mk, s₂, L, E, ce, rfl, rfl, hx, hce, hcv, hcl, rfl, hL, rfl, rfl⟩, ?_⟩
    show Steps p.tables e below _ (((({ U with heap := s₂.heap, slotsUsed := s₂.slotsUsed } : State).setVm s₂.vm).setTop g).pushFrame (.throwing q))
    rw [← hs₂]
    exact hsteps
end
variable {p : Program} {l : Launch} {e : Env} {R : Room} {s : State} {m : MethodId} {args : Array Value} {below : List Frame} {meth : Method} {c : Code} {T : State} {H : Heap} {locs : List Loc} {cells slots : Nat}
theorem vx_callVX (X : Stand p l e R s m args below meth c T locs cells slots) (hexec : p.tables.exec = Jvm.exec) {own C : String} {index : Nat} {y : MethodName} {bytes : ByteArray} {maxL : Nat} {ret : Option FieldType} {hh : List (Nat × Nat × Nat × Nat)}
    (hown : s.vm.findClass own = some m.cls) (hlink : (Cond.methodLink own index y).before args s = true) (hinst : (Cond.instanceMethod y).before args s = true) (hsel : (Cond.selects C y y).before args s = true)
    (hcode : (Cond.codeWith y bytes maxL ret hh).before args s = true) (hy : y.cls ≠ "java/lang/invoke/MethodHandle" ∧ y.cls ≠ "java/lang/invoke/VarHandle")
    {W9 : Nat} {Pre : Pt → Array Value → Prop} {Post : Pt → Array Value → Option Value → Pt → Prop} {PostX : Pt → Array Value → Addr → Pt → Prop} (hK : vx_Back l R p e below s args y 3 W9 Pre Post PostX)
    {b : Addr} {cellB : Cell} (hcell : T.heap[b]? = some cellB) (hobj : cellB.vm.isStatics = false) (hcls : s.vm.findClass C = some cellB.cls)
    {g : JFrame} (hg : g.method = m) (hsize : g.locals.size = c.maxLocals) {argsL rest : List Value} (hlen : ∀ sig, parseMethodDescriptor y.desc = some sig → argsL.length = sig.parameters.length)
    (hstack : g.stack = argsL.reverse ++ .ref b :: rest) (hW : 2 * g.monitorRoom + (rest.map fun v => v.category).sum ≤ W9) (hdg : decode c.code g.pc = .ok (.invokevirtual index, 3))
    (hpre : ∀ vm₁, s.WarmedH vm₁ → Pre ⟨T.setVm vm₁, locs, cells, slots⟩ (Value.ref b :: argsL).toArray) :
    (∃ (v : Option Value) (vm₁ : Vm) (B : Pt), s.WarmedH vm₁ ∧ Stand p l e R s m args below meth c B.U B.locs B.cells B.slots ∧ Post ⟨T.setVm vm₁, locs, cells, slots⟩ (Value.ref b :: argsL).toArray v B ∧
      ∀ target, Steps p.tables e below (B.U.setTop { g with pc := g.pc + 3, stack := v.toList ++ rest }) target → Steps p.tables e below (T.setTop g) target) ∨
    (∃ (q : Addr) (vm₁ : Vm) (B : Pt), s.WarmedH vm₁ ∧ Stand p l e R s m args below meth c B.U B.locs B.cells B.slots ∧ PostX ⟨T.setVm vm₁, locs, cells, slots⟩ (Value.ref b :: argsL).toArray q B ∧
      Steps p.tables e below (T.setTop g) ((B.U.setTop { g with stack := rest }).pushFrame (.throwing q))) := by
  obtain ⟨mk, methM, hnamed, hmethM, hstM, habM⟩ := Cond.instanceMethod_spec hinst
  obtain ⟨m8, methM', cM, hn8, hmethM', -, -, -, -, -, -, hsigM⟩ := Cond.codeWith_spec hcode
  cases Option.some.inj (hn8.symm.trans hnamed)
  cases hmethM.symm.trans hmethM'
  obtain ⟨c2, r2, m2, q1, q2, q3, q4, kP, hkP, hkPi⟩ := Cond.selects_spec hsel
  cases hcls.symm.trans q1
  cases (State.methodFound?_of_named hnamed hy).symm.trans q2
  cases hnamed.symm.trans q3
  have hselP : selectMethod e.platform s.vm cellB.cls mk = .method mk := by rw [Launch.admits_selectMethod X.admits]; exact q4
  obtain ⟨vm₁, X₁, hstep₁⟩ := X.invokevirtual hexec hown hlink hnamed hmethM hstM hkP hkPi hy (a := b) (cell := cellB) hcell
    (fun z h => by rw [h] at hobj; cases hobj) hselP hmethM habM hkP hkPi (g := g) hg (argsL := argsL) (rest := rest) (hlen _ hsigM) hstack hdg
  rcases hK m meth c ⟨T.setVm vm₁, locs, cells, slots⟩ { g with stack := rest } (.invokevirtual index) mk (Value.ref b :: argsL).toArray X₁ hg hsize hdg hW (X₁.named hnamed) (hpre vm₁ X₁.warmed) with ⟨v, B, X', hpost, hsteps⟩ | ⟨q, B, X', hpost, hsteps⟩
  · exact Or.inl ⟨v, vm₁, B, X₁.warmed, X', hpost, fun target h => hstep₁ _ fun acts => by rw [doInvoke_state]; exact hsteps.trans h⟩
  · exact Or.inr ⟨q, vm₁, B, X₁.warmed, X', hpost, hstep₁ _ fun acts => by rw [doInvoke_state]; exact hsteps⟩
theorem vx_callSX (X : Stand p l e R s m args below meth c T locs cells slots) (hexec : p.tables.exec = Jvm.exec) {own : String} {index : Nat} {y : MethodName} {bytes : ByteArray} {maxL : Nat} {ret : Option FieldType} {hh : List (Nat × Nat × Nat × Nat)}
    (hown : s.vm.findClass own = some m.cls) (hlink : (Cond.methodLink own index y).before args s = true) (hstat : (Cond.static y).before args s = true) (hinit : (Cond.initialized y.cls).before args s = true)
    (hcode : (Cond.codeWith y bytes maxL ret hh).before args s = true) (hy : y.cls ≠ "java/lang/invoke/MethodHandle" ∧ y.cls ≠ "java/lang/invoke/VarHandle")
    {W9 : Nat} {Pre : Pt → Array Value → Prop} {Post : Pt → Array Value → Option Value → Pt → Prop} {PostX : Pt → Array Value → Addr → Pt → Prop} (hK : vx_Back l R p e below s args y 3 W9 Pre Post PostX)
    {g : JFrame} (hg : g.method = m) (hsize : g.locals.size = c.maxLocals) {argsL rest : List Value} (hlen : ∀ sig, parseMethodDescriptor y.desc = some sig → argsL.length = sig.parameters.length)
    (hstack : g.stack = argsL.reverse ++ rest) (hW : 2 * g.monitorRoom + (rest.map fun v => v.category).sum ≤ W9) (hdg : decode c.code g.pc = .ok (.invokestatic index, 3))
    (hpre : ∀ vm₁, s.WarmedH vm₁ → Pre ⟨T.setVm vm₁, locs, cells, slots⟩ argsL.toArray) :
    (∃ (v : Option Value) (vm₁ : Vm) (B : Pt), s.WarmedH vm₁ ∧ Stand p l e R s m args below meth c B.U B.locs B.cells B.slots ∧ Post ⟨T.setVm vm₁, locs, cells, slots⟩ argsL.toArray v B ∧
      ∀ target, Steps p.tables e below (B.U.setTop { g with pc := g.pc + 3, stack := v.toList ++ rest }) target → Steps p.tables e below (T.setTop g) target) ∨
    (∃ (q : Addr) (vm₁ : Vm) (B : Pt), s.WarmedH vm₁ ∧ Stand p l e R s m args below meth c B.U B.locs B.cells B.slots ∧ PostX ⟨T.setVm vm₁, locs, cells, slots⟩ argsL.toArray q B ∧
      Steps p.tables e below (T.setTop g) ((B.U.setTop { g with stack := rest }).pushFrame (.throwing q))) := by
  obtain ⟨mk, methM, cM, hnamed, hmethM, -, -, -, -, -, -, hsigM⟩ := Cond.codeWith_spec hcode
  have hstatic : methM.isStatic = true := Cond.static_spec hnamed hmethM hstat
  obtain ⟨kP, hkP, -⟩ := className_of_methodNamed hnamed
  have hinitP : kP.init = .initialized := Cond.initialized_spec (findClass_of_methodNamed hnamed) hkP hinit
  obtain ⟨vm₁, X₁, hstep₁⟩ := X.invokestatic hexec hown hlink hnamed hmethM hstatic hkP hinitP hy (g := g) hg (argsL := argsL) (rest := rest) (hlen _ hsigM) hstack hdg
  rcases hK m meth c ⟨T.setVm vm₁, locs, cells, slots⟩ { g with stack := rest } (.invokestatic index) mk argsL.toArray X₁ hg hsize hdg hW (X₁.named hnamed) (hpre vm₁ X₁.warmed) with ⟨v, B, X', hpost, hsteps⟩ | ⟨q, B, X', hpost, hsteps⟩
  · exact Or.inl ⟨v, vm₁, B, X₁.warmed, X', hpost, fun target h => hstep₁ _ fun acts => by rw [doInvoke_state]; exact hsteps.trans h⟩
  · exact Or.inr ⟨q, vm₁, B, X₁.warmed, X', hpost, hstep₁ _ fun acts => by rw [doInvoke_state]; exact hsteps⟩
theorem vx_callVW (X : Stand p l e R s m args below meth c T locs cells slots) (hexec : p.tables.exec = Jvm.exec) {own C : String} {index : Nat} {y : MethodName} {bytes : ByteArray} {maxL : Nat} {ret : Option FieldType} {hh : List (Nat × Nat × Nat × Nat)}
    (hown : s.vm.findClass own = some m.cls) (hlink : (Cond.methodLink own index y).before args s = true) (hinst : (Cond.instanceMethod y).before args s = true) (hsel : (Cond.selects C y y).before args s = true)
    (hcode : (Cond.codeWith y bytes maxL ret hh).before args s = true) (hy : y.cls ≠ "java/lang/invoke/MethodHandle" ∧ y.cls ≠ "java/lang/invoke/VarHandle")
    {W9 : Nat} {Pre : Pt → Array Value → Prop} {Post : Pt → Array Value → Option Value → Pt → Prop} (hK : Back l R p e below s args y 3 W9 Pre Post)
    {b : Addr} {cellB : Cell} (hcell : T.heap[b]? = some cellB) (hobj : cellB.vm.isStatics = false) (hcls : s.vm.findClass C = some cellB.cls)
    {g : JFrame} (hg : g.method = m) (hsize : g.locals.size = c.maxLocals) {argsL rest : List Value} (hlen : ∀ sig, parseMethodDescriptor y.desc = some sig → argsL.length = sig.parameters.length)
    (hstack : g.stack = argsL.reverse ++ .ref b :: rest) (hW : 2 * g.monitorRoom + (rest.map fun v => v.category).sum ≤ W9) (hdg : decode c.code g.pc = .ok (.invokevirtual index, 3))
    (hpre : ∀ vm₁, s.WarmedH vm₁ → Pre ⟨T.setVm vm₁, locs, cells, slots⟩ (Value.ref b :: argsL).toArray) :
    ∃ (v : Option Value) (vm₁ : Vm) (B : Pt), s.WarmedH vm₁ ∧ Stand p l e R s m args below meth c B.U B.locs B.cells B.slots ∧ Post ⟨T.setVm vm₁, locs, cells, slots⟩ (Value.ref b :: argsL).toArray v B ∧
      ∀ target, Steps p.tables e below (B.U.setTop { g with pc := g.pc + 3, stack := v.toList ++ rest }) target → Steps p.tables e below (T.setTop g) target := by
  obtain ⟨mk, methM, hnamed, hmethM, hstM, habM⟩ := Cond.instanceMethod_spec hinst
  obtain ⟨m8, methM', cM, hn8, hmethM', -, -, -, -, -, -, hsigM⟩ := Cond.codeWith_spec hcode
  cases Option.some.inj (hn8.symm.trans hnamed)
  cases hmethM.symm.trans hmethM'
  obtain ⟨c2, r2, m2, q1, q2, q3, q4, kP, hkP, hkPi⟩ := Cond.selects_spec hsel
  cases hcls.symm.trans q1
  cases (State.methodFound?_of_named hnamed hy).symm.trans q2
  cases hnamed.symm.trans q3
  have hselP : selectMethod e.platform s.vm cellB.cls mk = .method mk := by rw [Launch.admits_selectMethod X.admits]; exact q4
  obtain ⟨vm₁, X₁, hstep₁⟩ := X.invokevirtual hexec hown hlink hnamed hmethM hstM hkP hkPi hy (a := b) (cell := cellB) hcell
    (fun z h => by rw [h] at hobj; cases hobj) hselP hmethM habM hkP hkPi (g := g) hg (argsL := argsL) (rest := rest) (hlen _ hsigM) hstack hdg
  obtain ⟨v, B, X', hpost, hsteps⟩ := hK m meth c ⟨T.setVm vm₁, locs, cells, slots⟩ { g with stack := rest } (.invokevirtual index) mk (Value.ref b :: argsL).toArray X₁ hg hsize hdg hW (X₁.named hnamed) (hpre vm₁ X₁.warmed)
  exact ⟨v, vm₁, B, X₁.warmed, X', hpost, fun target h => hstep₁ _ fun acts => by rw [doInvoke_state]; exact hsteps.trans h⟩
abbrev vx_CVW (R : Room) (s : State) (args : Array Value) (own C : String) (index : Nat) (y : MethodName) (bytes : ByteArray) (maxL : Nat) (ret : Option FieldType) (hh : List (Nat × Nat × Nat × Nat)) (ws : List Cond) (rm : Room) (mc ms n : Nat) : Prop :=
  (rm.cells = mc ∧ rm.slots = ms ∧ rm.frames + 1 ≤ R.frames ∧ 8 + (maxL + 11) + rm.locals ≤ R.locals ∧ (∀ w ∈ ws, ∀ (a' : Array Value) (U : State), s.WarmedH U.vm → w.before a' U = true) ∧ Cond.codeWith y bytes maxL ret hh ∈ ws) ∧
  (Cond.codeWith y bytes maxL ret hh).before args s = true ∧ (Cond.initialized y.cls).before args s = true ∧ (y.cls ≠ "java/lang/invoke/MethodHandle" ∧ y.cls ≠ "java/lang/invoke/VarHandle") ∧
  (∀ sig, parseMethodDescriptor y.desc = some sig → n = sig.parameters.length) ∧ (Cond.methodLink own index y).before args s = true ∧ (Cond.instanceMethod y).before args s = true ∧ (Cond.selects C y y).before args s = true
theorem vx_cwVW {own C : String} {index maxL mc ms : Nat} {y : MethodName} {bytes : ByteArray} {ret : Option FieldType} {hh : List (Nat × Nat × Nat × Nat)} {Ts ws ws' : List Cond} {rm : Room} (n : Nat) (ht : ∀ w ∈ Ts, w.before args s = true) (hT : GoodIn Ts (wsV own index C y ws)) (hw : ws = Cond.codeWith y bytes maxL ret hh :: ws') (hrc : rm.cells = mc) (hrs : rm.slots = ms)
    (hd : y.cls = C ∧ y.cls ≠ "java/lang/invoke/MethodHandle" ∧ y.cls ≠ "java/lang/invoke/VarHandle" ∧ (parseMethodDescriptor y.desc).map (fun d => d.parameters.length) = some n) (hR : rm.frames + 1 ≤ R.frames ∧ 8 + (maxL + 11) + rm.locals ≤ R.locals) :
    vx_CVW R s args own C index y bytes maxL ret hh ws rm mc ms n := by
  obtain ⟨hC, hd⟩ := hd
  subst hC
  have ok : ∀ w ∈ wsV own index y.cls y ws, w.before args s = true := fun w h => ht w (hT w h).1
  have hG : GoodIn Ts ws := fun w h => hT w (by unfold wsV; exact List.mem_append_right _ h)
  have hc : Cond.codeWith y bytes maxL ret hh ∈ ws := by rw [hw]; exact List.mem_cons_self
  refine ⟨⟨hrc, hrs, hR.1, hR.2, pay_in ht hG, hc⟩, ht _ (hG _ hc).1, ok _ (by simp [wsV]), ⟨hd.1, hd.2.1⟩, fun sig h => ?_, ok _ (by simp [wsV]), ok _ (by simp [wsV]), ok _ (by simp [wsV])⟩
  have h2 := hd.2.2
  rw [h] at h2
  exact (Option.some.inj h2).symm
theorem vx_runVW {y : MethodName} {bytes cc : ByteArray} {maxL nL mc ms n index : Nat} {ret : Option FieldType} {hh : List (Nat × Nat × Nat × Nat)} {ws : List Cond} {rm : Room} {Pc : Array Value → State → Prop} {Qc : Array Value → State → Outcome → State → Prop} {free : Addr → Prop} {Ts : List Cond} {own C : String} {b : Addr} {As rest : List Value} {g : JFrame}
    (S : CallFix p m c cc nL s args Ts own) (hM : Met l y ws rm Pc Qc mc ms free) (cw : vx_CVW R s args own C index y bytes maxL ret hh ws rm mc ms n) (hp : PreV s H C b Pc As)
    (hg : g.method = m) (hn : As.length = n) (hsize : g.locals.size = nL) (hstack : g.stack = As.reverse ++ .ref b :: rest) (hW : 2 * g.monitorRoom + (rest.map fun v => v.category).sum ≤ 8) (hdg : decode cc g.pc = .ok (.invokevirtual index, 3)) (hf : cells + mc ≤ R.cells ∧ slots + ms ≤ R.slots) :
    va_Run p l e R s m args below meth c H locs cells slots mc ms g rest (Qc (Value.ref b :: As).toArray) free := by
  obtain ⟨⟨hrc, hrs, hfr, hlo, hws, hcw⟩, hcode, hini, hy, hlen, hl, hin, hse⟩ := cw
  have hK : Back l R p e below s args y 3 8 (PreOf R mc ms Pc) (PostOf Qc mc ms free) := va_backW (hh := hh) (bytes := bytes) (maxL := maxL) (ret := ret) hM hp.1 hrc hrs hfr hlo hws hcw (fun a' U hW => word_at hW (Or.inl (by first | rfl | simp [Cond.onTables, Cond.keeps, Cond.steady])) hini)
  obtain ⟨hx, hb, hml, ho, -⟩ := S
  obtain ⟨-, ⟨cellB, hcB, hoB, hclB⟩, hPc⟩ := hp
  intro T hT X
  obtain ⟨v, vm₁, ⟨U', l2, c2, s2⟩, hW₁, X', ⟨g', mk, t, L, e1, e2, hq, h1, hL, h2, h3⟩, st⟩ := vx_callVW X hx (C := C) (hh := hh) (bytes := bytes) (maxL := maxL) (ret := ret) ho hl hin hse hcode hy hK (by rw [hT]; exact hcB) hoB hclB hg (hsize.trans hml.symm) (argsL := As) (rest := rest) (fun sig h => hn.trans (hlen sig h)) hstack hW (by rw [hb]; exact hdg)
    (fun vm₁ hW₁ => ⟨hf.1, hf.2, hPc (T.setVm vm₁) hT hW₁⟩)
  dsimp only [Pt.U, Pt.locs, Pt.cells, Pt.slots] at X' e1 e2 h1 h2 h3 st
  subst h1; subst h2; subst h3
  exact ⟨v, (T.setVm vm₁).calling g' mk (Value.ref b :: As).toArray, t, U', L, hT, X', hL, e1, e2, hq, st⟩
section
variable {y : MethodName} {bytes cc : ByteArray} {maxL nL mc ms n index : Nat} {ret : Option FieldType} {ws : List Cond} {rm : Room} {Pc : Array Value → State → Prop} {Qc : Array Value → State → Outcome → State → Prop} {XC : String → State → State → Prop} {free : Addr → Prop} {Ts : List Cond} {own C : String} {b : Addr} {As rest : List Value} {g : JFrame}
theorem vx_runVX {hh : List (Nat × Nat × Nat × Nat)} (S : CallFix p m c cc nL s args Ts own) (hM : vx_Met l y ws rm Pc Qc XC mc ms free) (cw : vx_CVW R s args own C index y bytes maxL ret hh ws rm mc ms n) (hp : PreV s H C b Pc As)
    (hg : g.method = m) (hn : As.length = n) (hsize : g.locals.size = nL) (hstack : g.stack = As.reverse ++ .ref b :: rest) (hW : 2 * g.monitorRoom + (rest.map fun v => v.category).sum ≤ 8) (hdg : decode cc g.pc = .ok (.invokevirtual index, 3)) (hf : cells + mc ≤ R.cells ∧ slots + ms ≤ R.slots) :
    vx_Run p l e R s m args below meth c H locs cells slots mc ms g rest (Qc (Value.ref b :: As).toArray) XC free := by
  obtain ⟨⟨hrc, hrs, hfr, hlo, hws, hcw⟩, hcode, hini, hy, hlen, hl, hin, hse⟩ := cw
  have hK : vx_Back l R p e below s args y 3 8 (PreOf R mc ms Pc) (PostOf Qc mc ms free) (vx_Post XC mc ms free) := vx_backW (hh := hh) (bytes := bytes) (maxL := maxL) (ret := ret) hM hp.1 hrc hrs hfr hlo hws hcw (fun a' U hW => word_at hW (Or.inl (by first | rfl | simp [Cond.onTables, Cond.keeps, Cond.steady])) hini)
  obtain ⟨hx, hb, hml, ho, -⟩ := S
  obtain ⟨-, ⟨cellB, hcB, hoB, hclB⟩, hPc⟩ := hp
  intro T hT X
  rcases vx_callVX X hx (C := C) (hh := hh) (bytes := bytes) (maxL := maxL) (ret := ret) ho hl hin hse hcode hy hK (by rw [hT]; exact hcB) hoB hclB hg (hsize.trans hml.symm) (argsL := As) (rest := rest) (fun sig h => hn.trans (hlen sig h)) hstack hW (by rw [hb]; exact hdg)
    (fun vm₁ hW₁ => ⟨hf.1, hf.2, hPc (T.setVm vm₁) hT hW₁⟩) with ⟨v, vm₁, ⟨U', l2, c2, s2⟩, hW₁, X', ⟨g', mk, t, L, e1, e2, hq, h1, hL, h2, h3⟩, st⟩ | ⟨q, vm₁, ⟨U', l2, c2, s2⟩, hW₁, X', ⟨g', mk, t, L, E, ce, e1, e2, hq, hce, hcv, hcl, h1, hL, h2, h3⟩, st⟩
  · dsimp only [Pt.U, Pt.locs, Pt.cells, Pt.slots] at X' e1 e2 h1 h2 h3 st
    subst h1; subst h2; subst h3
    exact Or.inl ⟨v, (T.setVm vm₁).calling g' mk (Value.ref b :: As).toArray, t, U', L, hT, X', hL, e1, e2, hq, st⟩
  · dsimp only [Pt.U, Pt.locs, Pt.cells, Pt.slots] at X' e1 e2 h1 h2 h3 st hcl
    subst h1; subst h2; subst h3
    exact Or.inr ⟨q, (T.setVm vm₁).calling g' mk (Value.ref b :: As).toArray, t, U', L, E, ce, hT, X', hL, e1, e2, hq, hce, hcv, vx_cls hW₁ hcl, st⟩
theorem vx_runSX {hh : List (Nat × Nat × Nat × Nat)} (S : CallFix p m c cc nL s args Ts own) (hM : vx_Met l y ws rm Pc Qc XC mc ms free) (cw : vx_CSW R s args own index y bytes maxL ret hh ws rm mc ms n) (hp : PreS s H Pc As)
    (hg : g.method = m) (hn : As.length = n) (hsize : g.locals.size = nL) (hstack : g.stack = As.reverse ++ rest) (hW : 2 * g.monitorRoom + (rest.map fun v => v.category).sum ≤ 8) (hdg : decode cc g.pc = .ok (.invokestatic index, 3)) (hf : cells + mc ≤ R.cells ∧ slots + ms ≤ R.slots) :
    vx_Run p l e R s m args below meth c H locs cells slots mc ms g rest (Qc As.toArray) XC free := by
  obtain ⟨⟨hrc, hrs, hfr, hlo, hws, hcw⟩, hcode, hini, hy, hlen, hl, hstt⟩ := cw
  have hK : vx_Back l R p e below s args y 3 8 (PreOf R mc ms Pc) (PostOf Qc mc ms free) (vx_Post XC mc ms free) := vx_backW (hh := hh) (bytes := bytes) (maxL := maxL) (ret := ret) hM hp.1 hrc hrs hfr hlo hws hcw (fun a' U hW => word_at hW (Or.inl (by first | rfl | simp [Cond.onTables, Cond.keeps, Cond.steady])) hini)
  obtain ⟨hx, hb, hml, ho, -⟩ := S
  intro T hT X
  rcases vx_callSX X hx (hh := hh) (bytes := bytes) (maxL := maxL) (ret := ret) ho hl hstt hini hcode hy hK hg (hsize.trans hml.symm) (argsL := As) (rest := rest) (fun sig h => hn.trans (hlen sig h)) hstack hW (by rw [hb]; exact hdg)
    (fun vm₁ hW₁ => ⟨hf.1, hf.2, hp.2 (T.setVm vm₁) hT hW₁⟩) with ⟨v, vm₁, ⟨U', l2, c2, s2⟩, hW₁, X', ⟨g', mk, t, L, e1, e2, hq, h1, hL, h2, h3⟩, st⟩ | ⟨q, vm₁, ⟨U', l2, c2, s2⟩, hW₁, X', ⟨g', mk, t, L, E, ce, e1, e2, hq, hce, hcv, hcl, h1, hL, h2, h3⟩, st⟩
  · dsimp only [Pt.U, Pt.locs, Pt.cells, Pt.slots] at X' e1 e2 h1 h2 h3 st
    subst h1; subst h2; subst h3
    exact Or.inl ⟨v, (T.setVm vm₁).calling g' mk As.toArray, t, U', L, hT, X', hL, e1, e2, hq, st⟩
  · dsimp only [Pt.U, Pt.locs, Pt.cells, Pt.slots] at X' e1 e2 h1 h2 h3 st hcl
    subst h1; subst h2; subst h3
    exact Or.inr ⟨q, (T.setVm vm₁).calling g' mk As.toArray, t, U', L, E, ce, hT, X', hL, e1, e2, hq, hce, hcv, vx_cls hW₁ hcl, st⟩
end
end VXH
theorem vx_ofWH {l : Launch} {y : MethodName} {ws ws' : List Cond} {rm : Room} {Pc : Array Value → State → Prop} {Qc : Array Value → State → Outcome → State → Prop} {XC : String → State → State → Prop} {mc ms : Nat} {free : Addr → Prop} {cc : ByteArray} {maxL : Nat} {ret : Option FieldType} {hh : List (Nat × Nat × Nat × Nat)}
    (hy : plainName y.cls = true) (hw : ws = Cond.codeWith y cc maxL ret hh :: ws')
    (body : ∀ p e s m args below meth c s₁, BodyLoose p l y (headSpec ws rm) cc maxL ret e s m args below meth c s₁ → c.maxLocals = maxL → Pc args s →
      W p l e (headSpec ws rm).room s m args below meth c s.heap [] 0 0 (vx_MQ below Qc XC args s mc ms free) (entryFrame m args maxL)) : vx_Met l y ws rm Pc Qc XC mc ms free := by
  refine MetFree.of_bodyS (code := cc) (maxLocals := maxL) (ret := ret) hy ?_ ?_
  · intro args s m h hn
    obtain ⟨m9, meth, c, hn9, h1, h2, h3, h4, -, h5, h6, -⟩ := Cond.codeWith_spec (atoms_spec (ws := ws) h _ (by rw [hw]; exact List.mem_cons_self))
    cases hn.symm.trans hn9
    exact ⟨meth, c, h1, h2, h3, h4, h5, h6⟩
  · intro p e s m args below meth c s₁ B hml hP _
    have hh0 : s₁.heap = s.heap := by rw [B.state]; rfl
    obtain ⟨t, a1, o, b1, b2, b3⟩ := body p e s m args below meth c s₁ B hml hP s₁ hh0 (Stand.of_body B)
    exact ⟨t, o, a1, b1, b2, b3⟩
/-! ===== END ===== -/
/-! ===== BEGIN what the machine throws by itself, no traces kept ===== -/
section VXM
set_option maxHeartbeats 1000000 in
/-- the machine throws cls with the message text, no traces kept: from its note over the frame g to 'throwing' over the same frame (follows the proofs of Stand.vmThrowsMessage, Shelf/KitTracedVmS.lean, and Stand.throwsMessageColdBareV, StandMessageColdV.lean, without the step out of the frame) -/
theorem vx_vmAt {p : Program} {l : Launch} {e : Env} {R : Room} {s : State} {m₀ : MethodId} {args : Array Value} {below : List Frame} {meth : Method} {c : Code} {W : State} {locs : List Loc} {cells slots : Nat}
    (X : Stand p l e R s m₀ args below meth c W locs cells slots) (hexec : p.tables.exec = Jvm.exec) (htr : e.platform.stackTraces = false) {cls : String} {names : List String} {text : String}
    (hcls : Bundle.fit cls = true) (hnames : ∀ n ∈ names, Bundle.fit n = true) (hsoe : (cls == "java/lang/StackOverflowError") = false) (hoom : (cls == "java/lang/OutOfMemoryError") = false)
    (h : ∀ a ∈ Bundle.messageArmAtoms cls names, a.before args s = true)
    (hlocs : ∀ x ∈ locs, ∀ cell, s.heap[x.base]? = some cell → cell.vm.isStatics = false)
    (htext : (text == notModelled) = false) (hlimit : ¬ (stringBytes (stringToUtf16 text)).size > e.platform.arrayLengthLimit) (hheap : ¬ (stringBytes (stringToUtf16 text)).size * componentBytes .byte > e.platform.maxHeapBytes)
    {g : JFrame} (hg : g.method = m₀) (hsize : g.locals.size = c.maxLocals)
    (hRframes : names.length + 4 < R.frames) (hRlocals : 2 * g.monitorRoom + (g.stack.map fun v => v.category).sum + 10240 ≤ R.locals) (hshort : 13 * names.length + 55 ≤ 10240)
    (hRcells : cells + 3 ≤ R.cells) (hRslots : slots + ((stringBytes (stringToUtf16 text)).size + 4 + 6) ≤ R.slots) (hlocks : meth.locks = false) :
    ∃ (S : State) (q : Addr) (ce : Cell), (∀ target, Steps p.tables e below ((S.setTop g).pushFrame (.throwing q)) target → Steps p.tables e below ((W.setTop g).pushFrame (.throwNew cls (some text) none)) target) ∧
      Stand p l e R s m₀ args below meth c S locs (cells + 3) (slots + ((stringBytes (stringToUtf16 text)).size + 4 + 6)) ∧ S.heap[q]? = some ce ∧ s.vm.findClass cls = some ce.cls ∧ ce.vm = .none := by
  have howns : e.platform.frameOwnsMonitors = true := by rw [X.admits.platform]
  have hfin : e.platform.finalization = false := by rw [X.admits.platform]
  have hpl : e.platform.magicAccessors = ({} : Platform).magicAccessors := by rw [X.admits.platform]
  have a : ∀ x, x ∈ Bundle.messageArmAtoms cls names → x.holds args s none s [] = true := fun x hx => h x hx
  obtain ⟨T, Z0, L, -, Y⟩ := ThrowableC.of_atoms (args := args) howns hfin hpl (fun x hx => h x (by simp [Bundle.messageArmAtoms, hx]))
  obtain ⟨Z, M, LZ, LM, hnZ⟩ := Init0T.ofS_atoms (args := args) hpl L Y (fun x hx => h x (by simp [Bundle.messageArmAtoms, hx]))
  obtain ⟨P1, Ps, hlen, L1, hL, hP1m, hlink1, hlink⟩ := Bundle.chainS (args := args) hpl hnZ names cls hcls hnames (fun x hx => h x (by simp [Bundle.messageArmAtoms, hx]))
  obtain ⟨Zs, LZs, hn4, hfitv, hfitc⟩ := StringT.of_atoms (args := args) (fun x hx => h x (by simp [Bundle.messageArmAtoms, hx]))
  have hfound : s.vm.findClass cls = some P1.m.cls := findClass_of_methodNamed hP1m
  obtain ⟨c1, kX, hc1, hk, hord, -, -, hn6⟩ := Cond.instantiable_spec (a (.instantiable cls 6) (by simp [Bundle.messageArmAtoms]))
  cases Option.some.inj (hc1.symm.trans hfound)
  have hinit := Cond.initialized_spec hfound hk (a (.initialized cls) (by simp [Bundle.messageArmAtoms]))
  have hctor : kX.findMethod "<init>" "(Ljava/lang/String;)V" = some P1.m.idx := findMethod_of_methodNamed hP1m hk
  have hsel0 : selectMethod e.platform s.vm P1.m.cls T.fill0 = .method T.fill0 := by
    obtain ⟨c2, r2, m2, q1, q2, q3, q4, -⟩ := Cond.selects_spec (a (.selects cls Bundle.tFill0 Bundle.tFill0) (by simp [Bundle.messageArmAtoms]))
    cases Option.some.inj (q1.symm.trans hfound)
    cases Option.some.inj (q2.symm.trans (State.methodFound?_of_named Y.fill0 (by decide)))
    cases Option.some.inj (q3.symm.trans Y.fill0)
    rw [Launch.admits_selectMethod X.admits]; exact q4
  have hselF : selectMethod e.platform s.vm P1.m.cls T.fill = .method T.fill := by
    obtain ⟨c2, r2, m2, q1, q2, q3, q4, -⟩ := Cond.selects_spec (a (.selects cls Bundle.tFill Bundle.tFill) (by simp [Bundle.messageArmAtoms]))
    cases Option.some.inj (q1.symm.trans hfound)
    cases Option.some.inj (q2.symm.trans (State.methodFound?_of_named Y.fill (by decide)))
    cases Option.some.inj (q3.symm.trans Y.fill)
    rw [Launch.admits_selectMethod X.admits]; exact q4
  obtain ⟨cellS0, hcS0, hiss⟩ := Y.statics
  obtain ⟨u0, hu0⟩ := Cond.staticRefV Y.unassigned L.unassignedStatic L.statics hcS0 hiss (a (.isRef (.static Bundle.tN "UNASSIGNED_STACK" Bundle.steD)) (by simp [Bundle.messageArmAtoms]))
  obtain ⟨sen, hsen⟩ := Cond.staticRefV Y.sentinel L.sentinelStatic L.statics hcS0 hiss (a (.isRef (.static Bundle.tN "SUPPRESSED_SENTINEL" Bundle.listD)) (by simp [Bundle.messageArmAtoms]))
  obtain ⟨ci198, i198, fB, hk198, hg198, ha198, hsB, -, hnB, htB, hffB⟩ := Cond.ownField (t := .object "java/lang/Object") Y.found L.cls (by decide +kernel) (a (.fieldLink Bundle.tN 198 Bundle.tN "backtrace" "Ljava/lang/Object;") (by simp [Bundle.messageArmAtoms])) (a (.lays Bundle.tN Bundle.tN "backtrace" "Ljava/lang/Object;") (by simp [Bundle.messageArmAtoms])) e.platform hpl
  obtain ⟨cellS, hcS', heS, -, hkeep⟩ := X.same.2.2.2.2.2 T.aS cellS0 hcS0
  have hcellS : W.heap[T.aS]? = some cellS := hcS'
  have hout' : ∀ i, (⟨T.aS, i⟩ : Loc) ∉ locs := fun i hmem => by
    have := hlocs _ hmem cellS0 hcS0
    rw [hiss] at this; cases this
  have hknownS : cellS.vm ≠ .unknown := by
    rw [heS]; intro hu
    rw [show cellS0.vm = .unknown from hu] at hiss
    cases hiss
  have hvU : cellS.slots[T.fUnassigned.slot]? = some u0.v := by rw [hkeep _ (hout' _)]; exact hu0
  have hvSen : cellS.slots[T.fSentinel.slot]? = some sen.v := by rw [hkeep _ (hout' _)]; exact hsen
  obtain ⟨iM, hffM⟩ := Y.msg
  obtain ⟨tyC, dC, hdC, hdnC⟩ := Cond.laysAt hfound hk Y.cause (a (.lays cls Bundle.tN "cause" "Ljava/lang/Throwable;") (by simp [Bundle.messageArmAtoms]))
  obtain ⟨tyS, dS, hdS, hdnS⟩ := Cond.laysAt hfound hk Y.stack (a (.lays cls Bundle.tN "stackTrace" Bundle.steD) (by simp [Bundle.messageArmAtoms]))
  obtain ⟨tyP, dP, hdP, hdnP⟩ := Cond.laysAt hfound hk Y.supp (a (.lays cls Bundle.tN "suppressedExceptions" Bundle.listD) (by simp [Bundle.messageArmAtoms]))
  obtain ⟨tyM, dM, hdM, hdnM⟩ := Cond.laysAt hfound hk hffM (a (.lays cls Bundle.tN "detailMessage" "Ljava/lang/String;") (by simp [Bundle.messageArmAtoms]))
  obtain ⟨tyB, dB, hdB, hdnB⟩ := Cond.laysAt hfound hk hffB (a (.lays cls Bundle.tN "backtrace" "Ljava/lang/Object;") (by simp [Bundle.messageArmAtoms]))
  have bC := Cond.laysApart hdB hdC hdnB hdnC (by rw [hnB, Y.causeName]; decide)
  have bS := Cond.laysApart hdB hdS hdnB hdnS (by rw [hnB, Y.stackName]; decide)
  have bP := Cond.laysApart hdB hdP hdnB hdnP (by rw [hnB, Y.suppName]; decide)
  have hbk : ((preparedCellV T.toThrowableT (freshCell P1.m.cls kX) (W.heap.size + 2) u0 sen).withEntry W.cur).slots[fB.slot]? = some .null := by
    have := fresh_default (c := P1.m.cls) tyB
    rw [htB] at this
    simpa [preparedCellV, Cell.setSlot, Cell.withEntry, Array.getElem?_setIfInBounds, bC, bS, bP, bC.symm, bS.symm, bP.symm, defaultValue] using this
  have tkC := Takes.of_laid (v := .ref (W.heap.size + 2)) hk hord tyC (by rw [Y.causeType]; rfl)
  have tkS := Takes.of_laid (v := u0.v) hk hord tyS (by rw [Y.stackType]; exact fits_refV_array _ u0)
  have tkP := Takes.of_laid (v := sen.v) hk hord tyP (by rw [Y.suppType]; exact fits_refV_object _ sen)
  have tkM := Takes.of_laid (v := .ref (W.heap.size + 1)) hk hord tyM (by rw [Y.msgType]; rfl)
  have hskip : SkipFacts T e.platform s (fun u => u) u0 ((preparedCellV T.toThrowableT (freshCell P1.m.cls kX) (W.heap.size + 2) u0 sen).withEntry W.cur) := ⟨{ ci198 := ci198, i198 := i198, fBack := fB }, ⟨hk198, hg198, ha198, hsB⟩, hbk, fun _ _ => rfl⟩
  have h0 : At W g.method c below := by rw [hg]; exact X.here
  obtain ⟨hbeyond, hfreeW⟩ := X.vmMayThrow hsize (.throwNew cls (some text) none) (fun f hf => by cases hf) rfl hRlocals
  have hfr' : W.frames.length + Ps.length + 4 < (e.platform.stackLimits W.me).1 := by have := X.framesAbove hRframes; omega
  have hwd' : (stackUse (.java g :: W.frames.tail)).2 + 13 * Ps.length + 55 ≤ (e.platform.stackLimits W.me).2 := by have := X.stackAbove hsize (K := 13 * Ps.length + 55) (by omega); omega
  have hslots : W.slotsUsed + (stringBytes (stringToUtf16 text)).size + Zs.kS.instanceTypes.size + kX.instanceTypes.size ≤ e.platform.maxSlots := by
    have := X.slotsAbove hRslots
    rw [hn4, hn6]
    omega
  obtain ⟨vm', hW', st⟩ := Steps.vmThrowsMessageColdByV p (s₀ := s) (S := W) (g := g) h0 hexec T L Z LZ M LM X.warmed (t := W.cur) rfl Zs LZs P1 L1 Ps hL hlink1 hlink hsoe hoom hfound hk hinit hord hctor
    (Launch.admits_hotImplicitExceptions X.admits) hbeyond hfreeW htext hlimit hheap (X.cellsAbove hRcells) hslots (hfitv _) (hfitc _)
    (Nn := fun u => u) heapOnly_id (fun _ _ => rfl) (fun _ => rfl) (fun u x y => setCell_twice _ _ _ _) (fun _ => Nat.le_refl _) (cN := ((preparedCellV T.toThrowableT (freshCell P1.m.cls kX) (W.heap.size + 2) u0 sen).withEntry W.cur))
    hsel0 hcellS hknownS hvU tkS (fun _ hu => hu) (fun _ hu => hu) rfl rfl rfl (by simp [preparedCellV, Cell.setSlot, Cell.withEntry]) hskip (fun _ _ hA hW _ hroom _ hrest => L.nativeOff p htr hA hW hroom hrest) hselF hvSen tkC tkP tkM Y.objLocals rfl hfr' hwd'
  rw [plainBareV_eq T.toThrowableT (W.heap.size + 2) u0 sen (.ref (W.heap.size + 1)) W.cur rfl rfl] at st
  obtain ⟨-, -, w3, w4, -, -, -⟩ := withThrown_facts e.platform W Zs text P1.m.cls kX
  have X3 := ((X.pushed (bytesOf Zs.cB (stringToUtf16 text))).pushed (stringAt Zs.cS Zs.kS Zs.fv Zs.fc (stringToUtf16 text) W.heap.size)).pushed (freshCell P1.m.cls kX)
  rw [← withString_eq] at X3
  have X4 := X3.noted hW'
  have ha : (W.heap.size + 2) < ((withThrown W Zs text P1.m.cls kX).setVm vm').heap.size := by show _ < (withThrown W Zs text P1.m.cls kX).heap.size; rw [w3]; omega
  have hcell : ((withThrown W Zs text P1.m.cls kX).setVm vm').heap[(W.heap.size + 2)]? = some (freshCell P1.m.cls kX) := w4
  have X5 := ((((X4.stored hcell T.fCause.slot (.ref (W.heap.size + 2))).storedAgain ha T.fStack.slot u0.v).storedAgain ha T.fSupp.slot sen.v).storedAgain ha T.fStack.slot u0.v).storedAgain ha T.fMsg.slot (.ref (W.heap.size + 1))
  obtain ⟨g₁, hfrM⟩ := X5.frames_eq
  have hU : ((((withThrown W Zs text P1.m.cls kX).setVm vm').setCell (W.heap.size + 2) (plainBareV T.toThrowableT (freshCell P1.m.cls kX) (W.heap.size + 2) u0 sen (.ref (W.heap.size + 1)))).setTop g).pushFrame (.throwing (W.heap.size + 2)) = (((withThrown W Zs text P1.m.cls kX).setVm vm').setCell (W.heap.size + 2) (plainBareV T.toThrowableT (freshCell P1.m.cls kX) (W.heap.size + 2) u0 sen (.ref (W.heap.size + 1)))).setFrames (.throwing (W.heap.size + 2) :: .java g :: below) := by
    rw [State.pushFrame, State.frames_setTop _ hfrM, State.setTop_of_frames _ hfrM, State.setFrames_setFrames]
  have b1 : (bytesOf Zs.cB (stringToUtf16 text)).slots.size = (stringBytes (stringToUtf16 text)).size := by
    rw [(Cell.writeAll_facts _ _).2.2]; simp [bytes0]
  have b2 : (stringAt Zs.cS Zs.kS Zs.fv Zs.fc (stringToUtf16 text) W.heap.size).slots.size = 4 := by simp [string0, Cell.setSlot, hn4]
  have b3 : (freshCell P1.m.cls kX).slots.size = 6 := by simp [hn6]
  rw [b1, b2, b3] at X5
  have e9 : slots + (stringBytes (stringToUtf16 text)).size + 4 + 6 = slots + ((stringBytes (stringToUtf16 text)).size + 4 + 6) := by omega
  rw [e9] at X5
  simp only [List.append_assoc, List.cons_append, List.nil_append] at X5
  refine ⟨((withThrown W Zs text P1.m.cls kX).setVm vm').setCell (W.heap.size + 2) (plainBareV T.toThrowableT (freshCell P1.m.cls kX) (W.heap.size + 2) u0 sen (.ref (W.heap.size + 1))), W.heap.size + 2, _, fun target ht => st _ (by rw [X.tail, ← hU]; exact ht),
    X5.forget (fun y hy => ?_), heapAt_setCell_self _ ha, hfound, rfl⟩
  simp only [List.mem_cons, List.not_mem_nil, or_false] at hy
  have hge : s.heap.size ≤ W.heap.size := X.same.2.1
  rcases hy with rfl | rfl | rfl | rfl | rfl <;> exact Nat.le_trans hge (Nat.le_add_right _ 2)
set_option maxHeartbeats 1000000 in
/-- the machine throws NullPointerException, no traces kept: from its note over the frame g to 'throwing' over the same frame (follows the proof of Stand.vmThrowsNpe, Shelf42/KT2.lean; throwsNpeColdBareVAt, Shelf42/NT91.lean, called) -/
theorem vx_npeAt {p : Program} {l : Launch} {e : Env} {R : Room} {s : State} {m₀ : MethodId} {args : Array Value} {below : List Frame} {meth : Method} {c : Code} {W : State} {locs : List Loc} {cells slots : Nat}
    (X : Stand p l e R s m₀ args below meth c W locs cells slots) (hexec : p.tables.exec = Jvm.exec) (htr : e.platform.stackTraces = false) {n : Nat}
    (h : ∀ a ∈ Bundle.npeArmAtoms n, a.before args s = true)
    (hlocs : ∀ x ∈ locs, ∀ cell, s.heap[x.base]? = some cell → cell.vm.isStatics = false)
    {g : JFrame} (hg : g.method = m₀) (hsize : g.locals.size = c.maxLocals)
    (hRframes : 7 < R.frames) (hRlocals : 2 * g.monitorRoom + (g.stack.map fun v => v.category).sum + 10240 ≤ R.locals)
    (hRcells : cells + 1 ≤ R.cells) (hRslots : slots + n ≤ R.slots) (hlocks : meth.locks = false) :
    ∃ (S : State) (q : Addr) (ce : Cell), (∀ target, Steps p.tables e below ((S.setTop g).pushFrame (.throwing q)) target → Steps p.tables e below ((W.setTop g).pushFrame (.throwNew "java/lang/NullPointerException" none none)) target) ∧
      Stand p l e R s m₀ args below meth c S locs (cells + 1) (slots + n) ∧ S.heap[q]? = some ce ∧ s.vm.findClass "java/lang/NullPointerException" = some ce.cls ∧ ce.vm = .none := by
  have howns : e.platform.frameOwnsMonitors = true := by rw [X.admits.platform]
  have hfin : e.platform.finalization = false := by rw [X.admits.platform]
  have hpl : e.platform.magicAccessors = ({} : Platform).magicAccessors := by rw [X.admits.platform]
  have hpl2 : e.platform.arrayCloneIsPublic = true := by rw [X.admits.platform]
  have a' : ∀ x, x ∈ Bundle.npeArmAtoms n → x.holds args s none s [] = true := fun x hx => h x hx
  obtain ⟨T, Z, L, LZ, Y⟩ := ThrowableC.of_atoms (args := args) howns hfin hpl (fun x hx => h x (by simp [Bundle.npeArmAtoms, hx]))
  obtain ⟨N, LN, hcN, hnNF, hordN, hffS⟩ := NpeC.of_atoms (args := args) hpl hpl2 L Y (fun x hx => h x (by simp [Bundle.npeArmAtoms, hx]))
  obtain ⟨P1, L1, hP1m, hP1s⟩ := PassC.of_atoms (args := args) (s := s) hpl (X := Bundle.nN) (Y := Bundle.rN) (by decide) (by decide) LibCode.NullPointerException.Init0.at_0 LibCode.NullPointerException.Init0.at_1 LibCode.NullPointerException.Init0.at_4 (fun x hx => h x (by simp [Bundle.npeArmAtoms, hx]))
  obtain ⟨PR, LR, hPRm, hPRs⟩ := PassC.of_atoms (args := args) (s := s) hpl (X := Bundle.rN) (Y := Bundle.eN) (by decide) (by decide) LibCode.RuntimeException.Init0.at_0 LibCode.RuntimeException.Init0.at_1 LibCode.RuntimeException.Init0.at_4 (fun x hx => h x (by simp [Bundle.npeArmAtoms, hx]))
  obtain ⟨PE, LEx, hPEm, hPEs⟩ := PassC.of_atoms (args := args) (s := s) hpl (X := Bundle.eN) (Y := Bundle.tN) (by decide) (by decide) LibCode.Exception.Init0.at_0 LibCode.Exception.Init0.at_1 LibCode.Exception.Init0.at_4 (fun x hx => h x (by simp [Bundle.npeArmAtoms, hx]))
  have hfound : s.vm.findClass Bundle.nN = some P1.m.cls := findClass_of_methodNamed hP1m
  have ecls : N.cN = P1.m.cls := Option.some.inj (hcN.symm.trans hfound)
  have hk : s.vm.classes[P1.m.cls]? = some N.kN := by rw [← ecls]; exact LN.cls
  have hinit := Cond.initialized_spec hfound hk (a' (.initialized Bundle.nN) (by simp [Bundle.npeArmAtoms]))
  have hctor : N.kN.findMethod "<init>" "()V" = some P1.m.idx := findMethod_of_methodNamed hP1m hk
  obtain ⟨c1, k1, hc1, hk1, -, -, -, hn⟩ := Cond.instantiable_spec (a' (.instantiable Bundle.nN n) (by simp [Bundle.npeArmAtoms]))
  cases Option.some.inj (hc1.symm.trans hfound)
  cases Option.some.inj (hk1.symm.trans hk)
  have hfsz : (freshCell P1.m.cls N.kN).slots.size = n := by simp [hn]
  have hlink1 : P1.sup = PR.m := Option.some.inj (hP1s.symm.trans hPRm)
  have hlinkR : PR.sup = PE.m := Option.some.inj (hPRs.symm.trans hPEm)
  have hlinkE : PE.sup = Z.m T.toThrowableT := Option.some.inj (hPEs.symm.trans Y.init0)
  have hLs : ∀ P, P ∈ [PR, PE] → P.Links0 e.platform s := fun P hP => by
    simp only [List.mem_cons, List.not_mem_nil, or_false] at hP
    rcases hP with rfl | rfl
    · exact LR
    · exact LEx
  have hsel0 : selectMethod e.platform s.vm P1.m.cls T.fill0 = .method T.fill0 := by
    obtain ⟨c2, r2, m2, q1, q2, q3, q4, -⟩ := Cond.selects_spec (a' (.selects Bundle.nN Bundle.tFill0 Bundle.tFill0) (by simp [Bundle.npeArmAtoms]))
    cases Option.some.inj (q1.symm.trans hfound)
    cases Option.some.inj (q2.symm.trans (State.methodFound?_of_named Y.fill0 (by decide)))
    cases Option.some.inj (q3.symm.trans Y.fill0)
    rw [Launch.admits_selectMethod X.admits]; exact q4
  have hselF : selectMethod e.platform s.vm P1.m.cls T.fill = .method N.fill := by
    obtain ⟨c2, r2, m2, q1, q2, q3, q4, -⟩ := Cond.selects_spec (a' (.selects Bundle.nN Bundle.tFill Bundle.nFill) (by simp [Bundle.npeArmAtoms]))
    cases Option.some.inj (q1.symm.trans hfound)
    cases Option.some.inj (q2.symm.trans (State.methodFound?_of_named Y.fill (by decide)))
    cases Option.some.inj (q3.symm.trans hnNF)
    rw [Launch.admits_selectMethod X.admits]; exact q4
  obtain ⟨cellS0, hcS0, hiss⟩ := Y.statics
  obtain ⟨u0, hu0⟩ := Cond.staticRefV Y.unassigned L.unassignedStatic L.statics hcS0 hiss (a' (.isRef (.static Bundle.tN "UNASSIGNED_STACK" Bundle.steD)) (by simp [Bundle.npeArmAtoms]))
  obtain ⟨sen, hsen⟩ := Cond.staticRefV Y.sentinel L.sentinelStatic L.statics hcS0 hiss (a' (.isRef (.static Bundle.tN "SUPPRESSED_SENTINEL" Bundle.listD)) (by simp [Bundle.npeArmAtoms]))
  obtain ⟨ci198, i198, fB, hk198, hg198, ha198, hsB, -, hnB, htB, hffB⟩ := Cond.ownField (t := .object "java/lang/Object") Y.found L.cls (by decide +kernel) (a' (.fieldLink Bundle.tN 198 Bundle.tN "backtrace" Bundle.objD) (by simp [Bundle.npeArmAtoms])) (a' (.lays Bundle.tN Bundle.tN "backtrace" Bundle.objD) (by simp [Bundle.npeArmAtoms])) e.platform hpl
  obtain ⟨cellS, hcS', heS, -, hkeep⟩ := X.same.2.2.2.2.2 T.aS cellS0 hcS0
  have hcellS : W.heap[T.aS]? = some cellS := hcS'
  have hout' : ∀ i, (⟨T.aS, i⟩ : Loc) ∉ locs := fun i hmem => by
    have := hlocs _ hmem cellS0 hcS0
    rw [hiss] at this; cases this
  have hknownS : cellS.vm ≠ .unknown := by
    rw [heS]; intro hu
    rw [show cellS0.vm = .unknown from hu] at hiss
    cases hiss
  have hvU : cellS.slots[T.fUnassigned.slot]? = some u0.v := by rw [hkeep _ (hout' _)]; exact hu0
  have hvSen : cellS.slots[T.fSentinel.slot]? = some sen.v := by rw [hkeep _ (hout' _)]; exact hsen
  obtain ⟨tyC, dC, hdC, hdnC⟩ := Cond.laysAt hfound hk Y.cause (a' (.lays Bundle.nN Bundle.tN "cause" "Ljava/lang/Throwable;") (by simp [Bundle.npeArmAtoms]))
  obtain ⟨tyS, dS, hdS, hdnS⟩ := Cond.laysAt hfound hk Y.stack (a' (.lays Bundle.nN Bundle.tN "stackTrace" Bundle.steD) (by simp [Bundle.npeArmAtoms]))
  obtain ⟨tyP, dP, hdP, hdnP⟩ := Cond.laysAt hfound hk Y.supp (a' (.lays Bundle.nN Bundle.tN "suppressedExceptions" Bundle.listD) (by simp [Bundle.npeArmAtoms]))
  obtain ⟨tyX, dX, hdX, hdnX⟩ := Cond.laysAt hfound hk hffS (a' (.lays Bundle.nN Bundle.nN "extendedMessageState" "I") (by simp [Bundle.npeArmAtoms, Bundle.npeAtoms]))
  obtain ⟨hnX, htX⟩ := State.fieldFound?_type hffS (t := .int) (by decide +kernel)
  have xC := Cond.laysApart hdC hdX hdnC hdnX (by rw [hnX, Y.causeName]; decide)
  have xS := Cond.laysApart hdS hdX hdnS hdnX (by rw [hnX, Y.stackName]; decide)
  have xP := Cond.laysApart hdP hdX hdnP hdnX (by rw [hnX, Y.suppName]; decide)
  have hv0 : (freshCell P1.m.cls N.kN).slots[N.fState.slot]? = some (.int 0) := by
    have := fresh_default (c := P1.m.cls) tyX
    rw [htX] at this; exact this
  obtain ⟨tyB, dB, hdB, hdnB⟩ := Cond.laysAt hfound hk hffB (a' (.lays Bundle.nN Bundle.tN "backtrace" Bundle.objD) (by simp [Bundle.npeArmAtoms]))
  have bC := Cond.laysApart hdB hdC hdnB hdnC (by rw [hnB, Y.causeName]; decide)
  have bS := Cond.laysApart hdB hdS hdnB hdnS (by rw [hnB, Y.stackName]; decide)
  have bP := Cond.laysApart hdB hdP hdnB hdnP (by rw [hnB, Y.suppName]; decide)
  have bX := Cond.laysApart hdB hdX hdnB hdnX (by rw [hnB, hnX]; decide)
  have hbk : ((npeCell N.toNpeT (preparedCellV T.toThrowableT (freshCell P1.m.cls N.kN) W.heap.size u0 sen) W.cur).withEntry W.cur).slots[fB.slot]? = some .null := by
    have := fresh_default (c := P1.m.cls) tyB
    rw [htB] at this
    simpa [npeCell, preparedCellV, Cell.setSlot, Cell.withEntry, Array.getElem?_setIfInBounds, bC, bS, bP, bX, bC.symm, bS.symm, bP.symm, bX.symm, defaultValue] using this
  have tkC := Takes.of_laid (v := .ref W.heap.size) hk hordN tyC (by rw [Y.causeType]; rfl)
  have tkS := Takes.of_laid (v := u0.v) hk hordN tyS (by rw [Y.stackType]; exact fits_refV_array _ u0)
  have tkP := Takes.of_laid (v := sen.v) hk hordN tyP (by rw [Y.suppType]; exact fits_refV_object _ sen)
  have tkX := Takes.of_laid (v := .int 1) hk hordN tyX (by rw [htX]; rfl)
  have hskip : SkipFacts T e.platform s (fun u => u) u0 ((npeCell N.toNpeT (preparedCellV T.toThrowableT (freshCell P1.m.cls N.kN) W.heap.size u0 sen) W.cur).withEntry W.cur) := ⟨{ ci198 := ci198, i198 := i198, fBack := fB }, ⟨hk198, hg198, ha198, hsB⟩, hbk, fun _ _ => rfl⟩
  obtain ⟨vm', X3, st, -⟩ := X.throwsNpeColdBareVAt hexec hg hsize T L Z LZ N LN P1 L1 [PR, PE] hLs hlink1 ⟨hlinkR, hlinkE, trivial⟩ hfound hk hinit hordN hctor hsel0 hselF hcellS hknownS hvU hvSen
    hv0 xC xS xP tkC tkS tkP tkX Y.objLocals hskip (fun _ _ hA hW _ hroom _ hrest => L.nativeOff p htr hA hW hroom hrest) (by simpa using hRframes) hRlocals (by simp) hRcells (by rw [hn]; exact hRslots)
  have hlt : W.heap.size < ((W.pushCell (freshCell P1.m.cls N.kN)).setVm vm').heap.size := by
    show W.heap.size < (W.pushCell (freshCell P1.m.cls N.kN)).heap.size
    rw [State.heap_size_pushCell]; omega
  rw [hfsz] at X3
  obtain ⟨g₁, hfrM⟩ := X3.frames_eq
  have hU : ((((W.pushCell (freshCell P1.m.cls N.kN)).setVm vm').setCell W.heap.size (npeBareV T.toThrowableT N.toNpeT (freshCell P1.m.cls N.kN) W.heap.size u0 sen)).setTop g).pushFrame (.throwing W.heap.size) = (((W.pushCell (freshCell P1.m.cls N.kN)).setVm vm').setCell W.heap.size (npeBareV T.toThrowableT N.toNpeT (freshCell P1.m.cls N.kN) W.heap.size u0 sen)).setFrames (.throwing W.heap.size :: .java g :: below) := by
    rw [State.pushFrame, State.frames_setTop _ hfrM, State.setTop_of_frames _ hfrM, State.setFrames_setFrames]
  refine ⟨_, W.heap.size, _, fun target ht => st.trans (by rw [← hU]; exact ht), X3.forget (fun y hy => ?_), heapAt_setCell_self _ hlt, hfound, rfl⟩
  simp only [List.mem_cons, List.not_mem_nil, or_false] at hy
  have hge : s.heap.size ≤ W.heap.size := X.same.2.1
  rcases hy with rfl | rfl | rfl | rfl | rfl <;> exact hge
/-- the words of a machine's NullPointerException, but the four that speak of the heap -/
def vx_atN (n : Nat) : List Cond := (Bundle.npeArmAtoms n).filter vx_no
/-- the words of a machine's throw with a message, but the four that speak of the heap -/
def vx_atM (X : String) (names : List String) : List Cond := (Bundle.messageArmAtoms X names).filter vx_no
section
variable {p : Program} {l : Launch} {e : Env} {R : Room} {s : State} {m : MethodId} {args : Array Value} {below : List Frame} {meth : Method} {c : Code} {H : Heap} {locs : List Loc} {cells slots : Nat}
/-- a frame seen from a rebased start, seen from the first start again -/
theorem vx_back9 {T S : State} {R' : Room} {k n : Nat} (X : Stand p l e R s m args below meth c T locs cells slots) (Y : Stand p l e R' ((T.setVm s.vm).setFrames (.invoking m args :: below)) m args below meth c T [] 0 0) (Z : Stand p l e R' ((T.setVm s.vm).setFrames (.invoking m args :: below)) m args below meth c S [] k n) :
    Stand p l e R s m args below meth c S locs (cells + k) (slots + n) := by
  have hW0 : s.WarmedH ((T.setVm s.vm).setFrames (.invoking m args :: below)).vm := State.WarmedH.refl s
  refine { admits := X.admits, cas := X.cas, clock := X.clock, frames := X.frames, room := X.room, hears := X.hears, method := X.method, code := X.code, here := Z.here, tail := Z.tail, warmed := State.WarmedH.trans hW0 Z.warmed, limits := Z.limits.trans (Y.limits.symm.trans X.limits), bytes := Z.bytes.trans (Y.bytes.symm.trans X.bytes), same := ?_ }
  obtain ⟨e1, e2⟩ := Z.same
  rw [State.setFrames_setFrames] at e1
  have h2 : (T.setVm s.vm).sameButNew (S.setVm s.vm) [] k n := ⟨e1, e2⟩
  have h3 := X.same.trans h2
  rw [List.append_nil] at h3
  exact h3
/-- from the machine's note that E is thrown here with this text -/
def vx_Note (p : Program) (l : Launch) (e : Env) (R : Room) (s : State) (m : MethodId) (args : Array Value) (below : List Frame) (meth : Method) (c : Code) (H : Heap) (locs : List Loc) (cells slots : Nat) (Q : State → Prop) (g : JFrame) (E text : String) : Prop :=
  ∀ T : State, T.heap = H → Stand p l e R s m args below meth c T locs cells slots → ∃ t, Steps p.tables e below ((T.setTop g).pushFrame (.throwNew E (some text) none)) t ∧ Q t
theorem vx_vm {pc : Nat} {ls : Array Slot} {rest : List Value} {Q : State → Prop} (hexec : p.tables.exec = Jvm.exec) (hl : l.stackTraces = false) {cls text : String} {names : List String} {nb : Nat} {A : Nat → Prop}
    (hcls : Bundle.fit cls = true) (hnames : ∀ n ∈ names, Bundle.fit n = true) (hsoe : (cls == "java/lang/StackOverflowError") = false) (hoom : (cls == "java/lang/OutOfMemoryError") = false)
    (hat : ∀ w ∈ vx_atM cls names, w.before args s = true) (hgood : ∀ w ∈ vx_atM cls names, vx_ot w = true)
    (hU : vx_Zq Bundle.tN "UNASSIGNED_STACK" Bundle.steD A s s.heap) (hN : vx_Zq Bundle.tN "SUPPRESSED_SENTINEL" Bundle.listD A s s.heap) (hS : va_S A s.heap H locs) (hsize : ls.size = c.maxLocals)
    (htext : (text == notModelled) = false) (hnb : (stringBytes (stringToUtf16 text)).size ≤ nb) (hnb1 : nb ≤ 1000)
    (hRframes : names.length + 4 < R.frames) (hRlocals : (rest.map fun v => v.category).sum + 10240 ≤ R.locals) (hshort : 13 * names.length + 55 ≤ 10240) (hRcells : cells + 3 ≤ R.cells) (hRslots : slots + (nb + 10) ≤ R.slots) (hlocks : meth.locks = false)
    (k : ∀ (H1 : Heap) (q9 : Addr) (ce : Cell), H.size ≤ H1.size → (∀ q : Nat, q < H.size → H1[q]? = H[q]?) → va_S A s.heap H1 locs → H1[q9]? = some ce → ce.vm = .none → s.vm.findClass cls = some ce.cls → vx_W p l e R s m args below meth c H1 locs (cells + 3) (slots + (nb + 10)) Q (F0 m pc ls rest) q9) :
    vx_Note p l e R s m args below meth c H locs cells slots Q (F0 m pc ls rest) cls text := by
  intro T hT X
  have htr : e.platform.stackTraces = false := (show e.platform.stackTraces = l.stackTraces by rw [X.admits.platform]).trans hl
  have Y := vx_rebase X (R' := { frames := R.frames, locals := R.locals, cells := 3, slots := nb + 10 }) (Nat.le_refl _) (Nat.le_refl _) hRcells hRslots
  have hhp : ((T.setVm s.vm).setFrames (.invoking m args :: below)).heap = H := hT
  have hW0 : s.WarmedH ((T.setVm s.vm).setFrames (.invoking m args :: below)).vm := State.WarmedH.refl s
  have hat' : ∀ w ∈ vx_atM cls names, w.before args ((T.setVm s.vm).setFrames (.invoking m args :: below)) = true := fun w hw => vx_ot_at hW0 rfl (hgood w hw) (hat w hw)
  have hU' : vx_Zq Bundle.tN "UNASSIGNED_STACK" Bundle.steD A ((T.setVm s.vm).setFrames (.invoking m args :: below)) ((T.setVm s.vm).setFrames (.invoking m args :: below)).heap := by rw [hhp]; exact vx_Zq.moved hW0.alike (hU.kept hS.2.1)
  have hN' : vx_Zq Bundle.tN "SUPPRESSED_SENTINEL" Bundle.listD A ((T.setVm s.vm).setFrames (.invoking m args :: below)) ((T.setVm s.vm).setFrames (.invoking m args :: below)).heap := by rw [hhp]; exact vx_Zq.moved hW0.alike (hN.kept hS.2.1)
  obtain ⟨S, q, ce, st, Z, hce, hcl', hv⟩ := vx_vmAt Y hexec htr (cls := cls) (names := names) (text := text) hcls hnames hsoe hoom (vx_own hat' (vx_isRefq hU'.1) (vx_isRefq hN'.1) hU'.2.word hN'.2.word) (fun x hx => nomatch hx) htext
    (by rw [Launch.admits_arrayLengthLimit X.admits]; omega) (by rw [Launch.admits_maxHeapBytes X.admits]; simp only [componentBytes]; omega)
    (g := F0 m pc ls rest) rfl hsize hRframes (by show 2 * 0 + (rest.map fun v => v.category).sum + 10240 ≤ R.locals; omega) hshort (by show 0 + 3 ≤ 3; omega) (by show 0 + (_ + 4 + 6) ≤ nb + 10; omega) hlocks
  obtain ⟨f1, f2⟩ := vx_frame Z.same
  have f1' : H.size ≤ S.heap.size := by rw [← hT]; exact f1
  have f2' : ∀ q : Nat, q < H.size → S.heap[q]? = H[q]? := fun q hq => by
    rw [← hT]
    exact f2 q (by rw [← hT] at hq; exact hq) (fun z hz => nomatch hz)
  have X5 := vx_back9 X Y Z
  have X6 : Stand p l e R s m args below meth c S locs (cells + 3) (slots + (nb + 10)) := { X5 with same := X5.same.mono (by omega) (by omega) }
  obtain ⟨t, a1, b1⟩ := k S.heap q ce f1' f2' ⟨Nat.le_trans hS.1 f1', fun q h1 h2 => (f2' q (Nat.lt_of_lt_of_le h1 hS.1)).trans (hS.2.1 q h1 h2), hS.2.2⟩ hce hv hcl' S rfl X6
  exact ⟨t, st t a1, b1⟩
/-- from the machine's note that NullPointerException is thrown here -/
def vx_NoteN (p : Program) (l : Launch) (e : Env) (R : Room) (s : State) (m : MethodId) (args : Array Value) (below : List Frame) (meth : Method) (c : Code) (H : Heap) (locs : List Loc) (cells slots : Nat) (Q : State → Prop) (g : JFrame) : Prop :=
  ∀ T : State, T.heap = H → Stand p l e R s m args below meth c T locs cells slots → ∃ t, Steps p.tables e below ((T.setTop g).pushFrame (.throwNew "java/lang/NullPointerException" none none)) t ∧ Q t
theorem vx_npe {pc : Nat} {ls : Array Slot} {rest : List Value} {Q : State → Prop} (hexec : p.tables.exec = Jvm.exec) (hl : l.stackTraces = false) {nb : Nat} {A : Nat → Prop}
    (hat : ∀ w ∈ vx_atN nb, w.before args s = true) (hgood : ∀ w ∈ vx_atN nb, vx_ot w = true)
    (hU : vx_Zq Bundle.tN "UNASSIGNED_STACK" Bundle.steD A s s.heap) (hN : vx_Zq Bundle.tN "SUPPRESSED_SENTINEL" Bundle.listD A s s.heap) (hS : va_S A s.heap H locs) (hsize : ls.size = c.maxLocals)
    (hRframes : 7 < R.frames) (hRlocals : (rest.map fun v => v.category).sum + 10240 ≤ R.locals) (hRcells : cells + 1 ≤ R.cells) (hRslots : slots + nb ≤ R.slots) (hlocks : meth.locks = false)
    (k : ∀ (H1 : Heap) (q9 : Addr) (ce : Cell), H.size ≤ H1.size → (∀ q : Nat, q < H.size → H1[q]? = H[q]?) → va_S A s.heap H1 locs → H1[q9]? = some ce → ce.vm = .none → s.vm.findClass "java/lang/NullPointerException" = some ce.cls → vx_W p l e R s m args below meth c H1 locs (cells + 1) (slots + nb) Q (F0 m pc ls rest) q9) :
    vx_NoteN p l e R s m args below meth c H locs cells slots Q (F0 m pc ls rest) := by
  intro T hT X
  have htr : e.platform.stackTraces = false := (show e.platform.stackTraces = l.stackTraces by rw [X.admits.platform]).trans hl
  have Y := vx_rebase X (R' := { frames := R.frames, locals := R.locals, cells := 1, slots := nb }) (Nat.le_refl _) (Nat.le_refl _) hRcells hRslots
  have hhp : ((T.setVm s.vm).setFrames (.invoking m args :: below)).heap = H := hT
  have hW0 : s.WarmedH ((T.setVm s.vm).setFrames (.invoking m args :: below)).vm := State.WarmedH.refl s
  have hat' : ∀ w ∈ vx_atN nb, w.before args ((T.setVm s.vm).setFrames (.invoking m args :: below)) = true := fun w hw => vx_ot_at hW0 rfl (hgood w hw) (hat w hw)
  have hU' : vx_Zq Bundle.tN "UNASSIGNED_STACK" Bundle.steD A ((T.setVm s.vm).setFrames (.invoking m args :: below)) ((T.setVm s.vm).setFrames (.invoking m args :: below)).heap := by rw [hhp]; exact vx_Zq.moved hW0.alike (hU.kept hS.2.1)
  have hN' : vx_Zq Bundle.tN "SUPPRESSED_SENTINEL" Bundle.listD A ((T.setVm s.vm).setFrames (.invoking m args :: below)) ((T.setVm s.vm).setFrames (.invoking m args :: below)).heap := by rw [hhp]; exact vx_Zq.moved hW0.alike (hN.kept hS.2.1)
  obtain ⟨S, q, ce, st, Z, hce, hcl', hv⟩ := vx_npeAt Y hexec htr (n := nb) (vx_own hat' (vx_isRefq hU'.1) (vx_isRefq hN'.1) hU'.2.word hN'.2.word) (fun x hx => nomatch hx)
    (g := F0 m pc ls rest) rfl hsize hRframes (by show 2 * 0 + (rest.map fun v => v.category).sum + 10240 ≤ R.locals; omega) (by show 0 + 1 ≤ 1; omega) (by show 0 + nb ≤ nb; omega) hlocks
  obtain ⟨f1, f2⟩ := vx_frame Z.same
  have f1' : H.size ≤ S.heap.size := by rw [← hT]; exact f1
  have f2' : ∀ q : Nat, q < H.size → S.heap[q]? = H[q]? := fun q hq => by
    rw [← hT]
    exact f2 q (by rw [← hT] at hq; exact hq) (fun z hz => nomatch hz)
  have X5 := vx_back9 X Y Z
  have X6 : Stand p l e R s m args below meth c S locs (cells + 1) (slots + nb) := { X5 with same := X5.same.mono (by omega) (by omega) }
  obtain ⟨t, a1, b1⟩ := k S.heap q ce f1' f2' ⟨Nat.le_trans hS.1 f1', fun q h1 h2 => (f2' q (Nat.lt_of_lt_of_le h1 hS.1)).trans (hS.2.1 q h1 h2), hS.2.2⟩ hce hv hcl' S rfl X6
  exact ⟨t, st t a1, b1⟩
variable {Q : State → Prop} {cc : ByteArray} {pc : Nat} {ls : Array Slot} {rest : List Value}
theorem vx_idivZ (hexec : p.tables.exec = Jvm.exec) (hb : c.code = cc) {a b : Int32} (h0 : b = 0) (d : decode cc pc = .ok (.idiv, 1)) (k : vx_Note p l e R s m args below meth c H locs cells slots Q (F0 m pc ls rest) "java/lang/ArithmeticException" "/ by zero") :
    W p l e R s m args below meth c H locs cells slots Q (F0 m pc ls (.int b :: .int a :: rest)) := by
  intro T hT X
  obtain ⟨t, st, q⟩ := k T hT X
  exact ⟨t, X.idivZero hexec (g := F0 m pc ls (.int b :: .int a :: rest)) rfl (a := a) (rest := rest) (by rw [h0]) (by rw [hb]; exact d) t st, q⟩
theorem vx_iremZ (hexec : p.tables.exec = Jvm.exec) (hb : c.code = cc) {a b : Int32} (h0 : b = 0) (d : decode cc pc = .ok (.irem, 1)) (k : vx_Note p l e R s m args below meth c H locs cells slots Q (F0 m pc ls rest) "java/lang/ArithmeticException" "/ by zero") :
    W p l e R s m args below meth c H locs cells slots Q (F0 m pc ls (.int b :: .int a :: rest)) := by
  intro T hT X
  obtain ⟨t, st, q⟩ := k T hT X
  exact ⟨t, X.iremZero hexec (g := F0 m pc ls (.int b :: .int a :: rest)) rfl (a := a) (rest := rest) (by rw [h0]) (by rw [hb]; exact d) t st, q⟩
theorem vx_ldivZ (hexec : p.tables.exec = Jvm.exec) (hb : c.code = cc) {a b : Int64} (h0 : b = 0) (d : decode cc pc = .ok (.ldiv, 1)) (k : vx_Note p l e R s m args below meth c H locs cells slots Q (F0 m pc ls rest) "java/lang/ArithmeticException" "/ by zero") :
    W p l e R s m args below meth c H locs cells slots Q (F0 m pc ls (.long b :: .long a :: rest)) := by
  intro T hT X
  obtain ⟨t, st, q⟩ := k T hT X
  exact ⟨t, X.ldivZero hexec (g := F0 m pc ls (.long b :: .long a :: rest)) rfl (a := a) (rest := rest) (by rw [h0]) (by rw [hb]; exact d) t st, q⟩
theorem vx_lremZ (hexec : p.tables.exec = Jvm.exec) (hb : c.code = cc) {a b : Int64} (h0 : b = 0) (d : decode cc pc = .ok (.lrem, 1)) (k : vx_Note p l e R s m args below meth c H locs cells slots Q (F0 m pc ls rest) "java/lang/ArithmeticException" "/ by zero") :
    W p l e R s m args below meth c H locs cells slots Q (F0 m pc ls (.long b :: .long a :: rest)) := by
  intro T hT X
  obtain ⟨t, st, q⟩ := k T hT X
  exact ⟨t, X.lremZero hexec (g := F0 m pc ls (.long b :: .long a :: rest)) rfl (a := a) (rest := rest) (by rw [h0]) (by rw [hb]; exact d) t st, q⟩
theorem vx_ialdZ {D : va_G} {cl : List vw_C} {ws : va_W} {tys : List (ClassId × FieldType)} {a : Nat} (hexec : p.tables.exec = Jvm.exec) (hb : c.code = cc) (hK : va_K D cl tys s) (hP : va_P D cl ws H) (q0 t0 : Nat) {cA : ClassId} {n : Nat} {f : Nat → Int32} (ha : ws[q0]? = some (a, .inl (cA, n, .inl f))) (ht : tys[t0]? = some (cA, .int)) {i : Int32} (hout : ¬ vp_in i n) (hdg : decode cc pc = .ok (.iaload, 1))
    (k : ∀ tx : String, tx = (toString "Index " ++ toString i ++ toString " out of bounds for length " ++ toString n : String) → vx_Note p l e R s m args below meth c H locs cells slots Q (F0 m pc ls rest) "java/lang/ArrayIndexOutOfBoundsException" tx) : W p l e R s m args below meth c H locs cells slots Q (F0 m pc ls (.int i :: .ref a :: rest)) := by
  intro T hT X
  obtain ⟨t, st, q⟩ := k _ rfl T hT X
  refine ⟨t, ?_, q⟩
  have h1 := X.ialoadOut hexec (by rw [hT]; exact hP q0 _ ha) ((hK.2 t0 _ ht).1 n (fun j => .int (f j))) (j := i) (by show (i < 0 ∨ (arrV _ _ _).slots.size ≤ _); rw [arrV_size]; exact Classical.byContradiction hout) (g := F0 m pc ls (.int i :: .ref a :: rest)) rfl (rest := rest) rfl (by rw [hb]; exact hdg) t
  simp only [arrV_size] at h1
  exact h1 st
theorem vx_iastZ {D : va_G} {cl : List vw_C} {ws : va_W} {tys : List (ClassId × FieldType)} {a : Nat} (hexec : p.tables.exec = Jvm.exec) (hb : c.code = cc) (hK : va_K D cl tys s) (hP : va_P D cl ws H) (q0 t0 : Nat) {cA : ClassId} {n : Nat} {f : Nat → Int32} (ha : ws[q0]? = some (a, .inl (cA, n, .inl f))) (ht : tys[t0]? = some (cA, .int)) {i : Int32} {x : Int32} (hout : ¬ vp_in i n) (hdg : decode cc pc = .ok (.iastore, 1))
    (k : ∀ tx : String, tx = (toString "Index " ++ toString i ++ toString " out of bounds for length " ++ toString n : String) → vx_Note p l e R s m args below meth c H locs cells slots Q (F0 m pc ls rest) "java/lang/ArrayIndexOutOfBoundsException" tx) : W p l e R s m args below meth c H locs cells slots Q (F0 m pc ls (.int x :: .int i :: .ref a :: rest)) := by
  intro T hT X
  obtain ⟨t, st, q⟩ := k _ rfl T hT X
  refine ⟨t, ?_, q⟩
  have h1 := X.iastoreOut hexec (by rw [hT]; exact hP q0 _ ha) ((hK.2 t0 _ ht).1 n (fun j => .int (f j))) (j := i) (by show (i < 0 ∨ (arrV _ _ _).slots.size ≤ _); rw [arrV_size]; exact Classical.byContradiction hout) (g := F0 m pc ls (.int x :: .int i :: .ref a :: rest)) rfl (rest := rest) rfl (by rw [hb]; exact hdg) t
  simp only [arrV_size] at h1
  exact h1 st
theorem vx_baldZ {D : va_G} {cl : List vw_C} {ws : va_W} {tys : List (ClassId × FieldType)} {a : Nat} (hexec : p.tables.exec = Jvm.exec) (hb : c.code = cc) (hK : va_K D cl tys s) (hP : va_P D cl ws H) (q0 t0 : Nat) {cA : ClassId} {n : Nat} {f : Nat → Int32} (ha : ws[q0]? = some (a, .inl (cA, n, .inl f))) (ht : tys[t0]? = some (cA, .byte)) {i : Int32} (hout : ¬ vp_in i n) (hdg : decode cc pc = .ok (.baload, 1))
    (k : ∀ tx : String, tx = (toString "Index " ++ toString i ++ toString " out of bounds for length " ++ toString n : String) → vx_Note p l e R s m args below meth c H locs cells slots Q (F0 m pc ls rest) "java/lang/ArrayIndexOutOfBoundsException" tx) : W p l e R s m args below meth c H locs cells slots Q (F0 m pc ls (.int i :: .ref a :: rest)) := by
  intro T hT X
  obtain ⟨t, st, q⟩ := k _ rfl T hT X
  refine ⟨t, ?_, q⟩
  have h1 := X.baloadOut hexec (by rw [hT]; exact hP q0 _ ha) ((hK.2 t0 _ ht).1 n (fun j => .int (f j))) (j := i) (by show (i < 0 ∨ (arrV _ _ _).slots.size ≤ _); rw [arrV_size]; exact Classical.byContradiction hout) (g := F0 m pc ls (.int i :: .ref a :: rest)) rfl (rest := rest) rfl (by rw [hb]; exact hdg) t
  simp only [arrV_size] at h1
  exact h1 st
theorem vx_bastZ {D : va_G} {cl : List vw_C} {ws : va_W} {tys : List (ClassId × FieldType)} {a : Nat} (hexec : p.tables.exec = Jvm.exec) (hb : c.code = cc) (hK : va_K D cl tys s) (hP : va_P D cl ws H) (q0 t0 : Nat) {cA : ClassId} {n : Nat} {f : Nat → Int32} (ha : ws[q0]? = some (a, .inl (cA, n, .inl f))) (ht : tys[t0]? = some (cA, .byte)) {i : Int32} {x : Int32} (hout : ¬ vp_in i n) (hdg : decode cc pc = .ok (.bastore, 1))
    (k : ∀ tx : String, tx = (toString "Index " ++ toString i ++ toString " out of bounds for length " ++ toString n : String) → vx_Note p l e R s m args below meth c H locs cells slots Q (F0 m pc ls rest) "java/lang/ArrayIndexOutOfBoundsException" tx) : W p l e R s m args below meth c H locs cells slots Q (F0 m pc ls (.int x :: .int i :: .ref a :: rest)) := by
  intro T hT X
  obtain ⟨t, st, q⟩ := k _ rfl T hT X
  refine ⟨t, ?_, q⟩
  have h1 := X.bastoreOut hexec (by rw [hT]; exact hP q0 _ ha) ((hK.2 t0 _ ht).1 n (fun j => .int (f j))) (j := i) (by show (i < 0 ∨ (arrV _ _ _).slots.size ≤ _); rw [arrV_size]; exact Classical.byContradiction hout) (g := F0 m pc ls (.int x :: .int i :: .ref a :: rest)) rfl (rest := rest) rfl (by rw [hb]; exact hdg) t
  simp only [arrV_size] at h1
  exact h1 st
theorem vx_zaldZ {D : va_G} {cl : List vw_C} {ws : va_W} {tys : List (ClassId × FieldType)} {a : Nat} (hexec : p.tables.exec = Jvm.exec) (hb : c.code = cc) (hK : va_K D cl tys s) (hP : va_P D cl ws H) (q0 t0 : Nat) {cA : ClassId} {n : Nat} {f : Nat → Int32} (ha : ws[q0]? = some (a, .inl (cA, n, .inl f))) (ht : tys[t0]? = some (cA, .boolean)) {i : Int32} (hout : ¬ vp_in i n) (hdg : decode cc pc = .ok (.baload, 1))
    (k : ∀ tx : String, tx = (toString "Index " ++ toString i ++ toString " out of bounds for length " ++ toString n : String) → vx_Note p l e R s m args below meth c H locs cells slots Q (F0 m pc ls rest) "java/lang/ArrayIndexOutOfBoundsException" tx) : W p l e R s m args below meth c H locs cells slots Q (F0 m pc ls (.int i :: .ref a :: rest)) := by
  intro T hT X
  obtain ⟨t, st, q⟩ := k _ rfl T hT X
  refine ⟨t, ?_, q⟩
  have h1 := X.baloadOut hexec (by rw [hT]; exact hP q0 _ ha) ((hK.2 t0 _ ht).1 n (fun j => .int (f j))) (j := i) (by show (i < 0 ∨ (arrV _ _ _).slots.size ≤ _); rw [arrV_size]; exact Classical.byContradiction hout) (g := F0 m pc ls (.int i :: .ref a :: rest)) rfl (rest := rest) rfl (by rw [hb]; exact hdg) t
  simp only [arrV_size] at h1
  exact h1 st
theorem vx_zastZ {D : va_G} {cl : List vw_C} {ws : va_W} {tys : List (ClassId × FieldType)} {a : Nat} (hexec : p.tables.exec = Jvm.exec) (hb : c.code = cc) (hK : va_K D cl tys s) (hP : va_P D cl ws H) (q0 t0 : Nat) {cA : ClassId} {n : Nat} {f : Nat → Int32} (ha : ws[q0]? = some (a, .inl (cA, n, .inl f))) (ht : tys[t0]? = some (cA, .boolean)) {i : Int32} {x : Int32} (hout : ¬ vp_in i n) (hdg : decode cc pc = .ok (.bastore, 1))
    (k : ∀ tx : String, tx = (toString "Index " ++ toString i ++ toString " out of bounds for length " ++ toString n : String) → vx_Note p l e R s m args below meth c H locs cells slots Q (F0 m pc ls rest) "java/lang/ArrayIndexOutOfBoundsException" tx) : W p l e R s m args below meth c H locs cells slots Q (F0 m pc ls (.int x :: .int i :: .ref a :: rest)) := by
  intro T hT X
  obtain ⟨t, st, q⟩ := k _ rfl T hT X
  refine ⟨t, ?_, q⟩
  have h1 := X.bastoreOut hexec (by rw [hT]; exact hP q0 _ ha) ((hK.2 t0 _ ht).1 n (fun j => .int (f j))) (j := i) (by show (i < 0 ∨ (arrV _ _ _).slots.size ≤ _); rw [arrV_size]; exact Classical.byContradiction hout) (g := F0 m pc ls (.int x :: .int i :: .ref a :: rest)) rfl (rest := rest) rfl (by rw [hb]; exact hdg) t
  simp only [arrV_size] at h1
  exact h1 st
theorem vx_caldZ {D : va_G} {cl : List vw_C} {ws : va_W} {tys : List (ClassId × FieldType)} {a : Nat} (hexec : p.tables.exec = Jvm.exec) (hb : c.code = cc) (hK : va_K D cl tys s) (hP : va_P D cl ws H) (q0 t0 : Nat) {cA : ClassId} {n : Nat} {f : Nat → Int32} (ha : ws[q0]? = some (a, .inl (cA, n, .inl f))) (ht : tys[t0]? = some (cA, .char)) {i : Int32} (hout : ¬ vp_in i n) (hdg : decode cc pc = .ok (.caload, 1))
    (k : ∀ tx : String, tx = (toString "Index " ++ toString i ++ toString " out of bounds for length " ++ toString n : String) → vx_Note p l e R s m args below meth c H locs cells slots Q (F0 m pc ls rest) "java/lang/ArrayIndexOutOfBoundsException" tx) : W p l e R s m args below meth c H locs cells slots Q (F0 m pc ls (.int i :: .ref a :: rest)) := by
  intro T hT X
  obtain ⟨t, st, q⟩ := k _ rfl T hT X
  refine ⟨t, ?_, q⟩
  have h1 := X.caloadOut hexec (by rw [hT]; exact hP q0 _ ha) ((hK.2 t0 _ ht).1 n (fun j => .int (f j))) (j := i) (by show (i < 0 ∨ (arrV _ _ _).slots.size ≤ _); rw [arrV_size]; exact Classical.byContradiction hout) (g := F0 m pc ls (.int i :: .ref a :: rest)) rfl (rest := rest) rfl (by rw [hb]; exact hdg) t
  simp only [arrV_size] at h1
  exact h1 st
theorem vx_castZ {D : va_G} {cl : List vw_C} {ws : va_W} {tys : List (ClassId × FieldType)} {a : Nat} (hexec : p.tables.exec = Jvm.exec) (hb : c.code = cc) (hK : va_K D cl tys s) (hP : va_P D cl ws H) (q0 t0 : Nat) {cA : ClassId} {n : Nat} {f : Nat → Int32} (ha : ws[q0]? = some (a, .inl (cA, n, .inl f))) (ht : tys[t0]? = some (cA, .char)) {i : Int32} {x : Int32} (hout : ¬ vp_in i n) (hdg : decode cc pc = .ok (.castore, 1))
    (k : ∀ tx : String, tx = (toString "Index " ++ toString i ++ toString " out of bounds for length " ++ toString n : String) → vx_Note p l e R s m args below meth c H locs cells slots Q (F0 m pc ls rest) "java/lang/ArrayIndexOutOfBoundsException" tx) : W p l e R s m args below meth c H locs cells slots Q (F0 m pc ls (.int x :: .int i :: .ref a :: rest)) := by
  intro T hT X
  obtain ⟨t, st, q⟩ := k _ rfl T hT X
  refine ⟨t, ?_, q⟩
  have h1 := X.castoreOut hexec (by rw [hT]; exact hP q0 _ ha) ((hK.2 t0 _ ht).1 n (fun j => .int (f j))) (j := i) (by show (i < 0 ∨ (arrV _ _ _).slots.size ≤ _); rw [arrV_size]; exact Classical.byContradiction hout) (g := F0 m pc ls (.int x :: .int i :: .ref a :: rest)) rfl (rest := rest) rfl (by rw [hb]; exact hdg) t
  simp only [arrV_size] at h1
  exact h1 st
theorem vx_saldZ {D : va_G} {cl : List vw_C} {ws : va_W} {tys : List (ClassId × FieldType)} {a : Nat} (hexec : p.tables.exec = Jvm.exec) (hb : c.code = cc) (hK : va_K D cl tys s) (hP : va_P D cl ws H) (q0 t0 : Nat) {cA : ClassId} {n : Nat} {f : Nat → Int32} (ha : ws[q0]? = some (a, .inl (cA, n, .inl f))) (ht : tys[t0]? = some (cA, .short)) {i : Int32} (hout : ¬ vp_in i n) (hdg : decode cc pc = .ok (.saload, 1))
    (k : ∀ tx : String, tx = (toString "Index " ++ toString i ++ toString " out of bounds for length " ++ toString n : String) → vx_Note p l e R s m args below meth c H locs cells slots Q (F0 m pc ls rest) "java/lang/ArrayIndexOutOfBoundsException" tx) : W p l e R s m args below meth c H locs cells slots Q (F0 m pc ls (.int i :: .ref a :: rest)) := by
  intro T hT X
  obtain ⟨t, st, q⟩ := k _ rfl T hT X
  refine ⟨t, ?_, q⟩
  have h1 := X.saloadOut hexec (by rw [hT]; exact hP q0 _ ha) ((hK.2 t0 _ ht).1 n (fun j => .int (f j))) (j := i) (by show (i < 0 ∨ (arrV _ _ _).slots.size ≤ _); rw [arrV_size]; exact Classical.byContradiction hout) (g := F0 m pc ls (.int i :: .ref a :: rest)) rfl (rest := rest) rfl (by rw [hb]; exact hdg) t
  simp only [arrV_size] at h1
  exact h1 st
theorem vx_sastZ {D : va_G} {cl : List vw_C} {ws : va_W} {tys : List (ClassId × FieldType)} {a : Nat} (hexec : p.tables.exec = Jvm.exec) (hb : c.code = cc) (hK : va_K D cl tys s) (hP : va_P D cl ws H) (q0 t0 : Nat) {cA : ClassId} {n : Nat} {f : Nat → Int32} (ha : ws[q0]? = some (a, .inl (cA, n, .inl f))) (ht : tys[t0]? = some (cA, .short)) {i : Int32} {x : Int32} (hout : ¬ vp_in i n) (hdg : decode cc pc = .ok (.sastore, 1))
    (k : ∀ tx : String, tx = (toString "Index " ++ toString i ++ toString " out of bounds for length " ++ toString n : String) → vx_Note p l e R s m args below meth c H locs cells slots Q (F0 m pc ls rest) "java/lang/ArrayIndexOutOfBoundsException" tx) : W p l e R s m args below meth c H locs cells slots Q (F0 m pc ls (.int x :: .int i :: .ref a :: rest)) := by
  intro T hT X
  obtain ⟨t, st, q⟩ := k _ rfl T hT X
  refine ⟨t, ?_, q⟩
  have h1 := X.sastoreOut hexec (by rw [hT]; exact hP q0 _ ha) ((hK.2 t0 _ ht).1 n (fun j => .int (f j))) (j := i) (by show (i < 0 ∨ (arrV _ _ _).slots.size ≤ _); rw [arrV_size]; exact Classical.byContradiction hout) (g := F0 m pc ls (.int x :: .int i :: .ref a :: rest)) rfl (rest := rest) rfl (by rw [hb]; exact hdg) t
  simp only [arrV_size] at h1
  exact h1 st
theorem vx_laldZ {D : va_G} {cl : List vw_C} {ws : va_W} {tys : List (ClassId × FieldType)} {a : Nat} (hexec : p.tables.exec = Jvm.exec) (hb : c.code = cc) (hK : va_K D cl tys s) (hP : va_P D cl ws H) (q0 t0 : Nat) {cA : ClassId} {n : Nat} {f : Nat → Int64} (ha : ws[q0]? = some (a, .inl (cA, n, .inr (.inl f)))) (ht : tys[t0]? = some (cA, .long)) {i : Int32} (hout : ¬ vp_in i n) (hdg : decode cc pc = .ok (.laload, 1))
    (k : ∀ tx : String, tx = (toString "Index " ++ toString i ++ toString " out of bounds for length " ++ toString n : String) → vx_Note p l e R s m args below meth c H locs cells slots Q (F0 m pc ls rest) "java/lang/ArrayIndexOutOfBoundsException" tx) : W p l e R s m args below meth c H locs cells slots Q (F0 m pc ls (.int i :: .ref a :: rest)) := by
  intro T hT X
  obtain ⟨t, st, q⟩ := k _ rfl T hT X
  refine ⟨t, ?_, q⟩
  have h1 := X.laloadOut hexec (by rw [hT]; exact hP q0 _ ha) ((hK.2 t0 _ ht).1 n (fun j => .long (f j))) (j := i) (by show (i < 0 ∨ (arrV _ _ _).slots.size ≤ _); rw [arrV_size]; exact Classical.byContradiction hout) (g := F0 m pc ls (.int i :: .ref a :: rest)) rfl (rest := rest) rfl (by rw [hb]; exact hdg) t
  simp only [arrV_size] at h1
  exact h1 st
theorem vx_lastZ {D : va_G} {cl : List vw_C} {ws : va_W} {tys : List (ClassId × FieldType)} {a : Nat} (hexec : p.tables.exec = Jvm.exec) (hb : c.code = cc) (hK : va_K D cl tys s) (hP : va_P D cl ws H) (q0 t0 : Nat) {cA : ClassId} {n : Nat} {f : Nat → Int64} (ha : ws[q0]? = some (a, .inl (cA, n, .inr (.inl f)))) (ht : tys[t0]? = some (cA, .long)) {i : Int32} {x : Int64} (hout : ¬ vp_in i n) (hdg : decode cc pc = .ok (.lastore, 1))
    (k : ∀ tx : String, tx = (toString "Index " ++ toString i ++ toString " out of bounds for length " ++ toString n : String) → vx_Note p l e R s m args below meth c H locs cells slots Q (F0 m pc ls rest) "java/lang/ArrayIndexOutOfBoundsException" tx) : W p l e R s m args below meth c H locs cells slots Q (F0 m pc ls (.long x :: .int i :: .ref a :: rest)) := by
  intro T hT X
  obtain ⟨t, st, q⟩ := k _ rfl T hT X
  refine ⟨t, ?_, q⟩
  have h1 := X.lastoreOut hexec (by rw [hT]; exact hP q0 _ ha) ((hK.2 t0 _ ht).1 n (fun j => .long (f j))) (j := i) (by show (i < 0 ∨ (arrV _ _ _).slots.size ≤ _); rw [arrV_size]; exact Classical.byContradiction hout) (g := F0 m pc ls (.long x :: .int i :: .ref a :: rest)) rfl (rest := rest) rfl (by rw [hb]; exact hdg) t
  simp only [arrV_size] at h1
  exact h1 st
theorem vx_faldZ {D : va_G} {cl : List vw_C} {ws : va_W} {tys : List (ClassId × FieldType)} {a : Nat} (hexec : p.tables.exec = Jvm.exec) (hb : c.code = cc) (hK : va_K D cl tys s) (hP : va_P D cl ws H) (q0 t0 : Nat) {cA : ClassId} {n : Nat} {f : Nat → UInt32} (ha : ws[q0]? = some (a, .inl (cA, n, .inr (.inr (.inl f))))) (ht : tys[t0]? = some (cA, .float)) {i : Int32} (hout : ¬ vp_in i n) (hdg : decode cc pc = .ok (.faload, 1))
    (k : ∀ tx : String, tx = (toString "Index " ++ toString i ++ toString " out of bounds for length " ++ toString n : String) → vx_Note p l e R s m args below meth c H locs cells slots Q (F0 m pc ls rest) "java/lang/ArrayIndexOutOfBoundsException" tx) : W p l e R s m args below meth c H locs cells slots Q (F0 m pc ls (.int i :: .ref a :: rest)) := by
  intro T hT X
  obtain ⟨t, st, q⟩ := k _ rfl T hT X
  refine ⟨t, ?_, q⟩
  have h1 := X.faloadOut hexec (by rw [hT]; exact hP q0 _ ha) ((hK.2 t0 _ ht).1 n (fun j => .float (f j))) (j := i) (by show (i < 0 ∨ (arrV _ _ _).slots.size ≤ _); rw [arrV_size]; exact Classical.byContradiction hout) (g := F0 m pc ls (.int i :: .ref a :: rest)) rfl (rest := rest) rfl (by rw [hb]; exact hdg) t
  simp only [arrV_size] at h1
  exact h1 st
theorem vx_fastZ {D : va_G} {cl : List vw_C} {ws : va_W} {tys : List (ClassId × FieldType)} {a : Nat} (hexec : p.tables.exec = Jvm.exec) (hb : c.code = cc) (hK : va_K D cl tys s) (hP : va_P D cl ws H) (q0 t0 : Nat) {cA : ClassId} {n : Nat} {f : Nat → UInt32} (ha : ws[q0]? = some (a, .inl (cA, n, .inr (.inr (.inl f))))) (ht : tys[t0]? = some (cA, .float)) {i : Int32} {x : UInt32} (hout : ¬ vp_in i n) (hdg : decode cc pc = .ok (.fastore, 1))
    (k : ∀ tx : String, tx = (toString "Index " ++ toString i ++ toString " out of bounds for length " ++ toString n : String) → vx_Note p l e R s m args below meth c H locs cells slots Q (F0 m pc ls rest) "java/lang/ArrayIndexOutOfBoundsException" tx) : W p l e R s m args below meth c H locs cells slots Q (F0 m pc ls (.float x :: .int i :: .ref a :: rest)) := by
  intro T hT X
  obtain ⟨t, st, q⟩ := k _ rfl T hT X
  refine ⟨t, ?_, q⟩
  have h1 := X.fastoreOut hexec (by rw [hT]; exact hP q0 _ ha) ((hK.2 t0 _ ht).1 n (fun j => .float (f j))) (j := i) (by show (i < 0 ∨ (arrV _ _ _).slots.size ≤ _); rw [arrV_size]; exact Classical.byContradiction hout) (g := F0 m pc ls (.float x :: .int i :: .ref a :: rest)) rfl (rest := rest) rfl (by rw [hb]; exact hdg) t
  simp only [arrV_size] at h1
  exact h1 st
theorem vx_daldZ {D : va_G} {cl : List vw_C} {ws : va_W} {tys : List (ClassId × FieldType)} {a : Nat} (hexec : p.tables.exec = Jvm.exec) (hb : c.code = cc) (hK : va_K D cl tys s) (hP : va_P D cl ws H) (q0 t0 : Nat) {cA : ClassId} {n : Nat} {f : Nat → UInt64} (ha : ws[q0]? = some (a, .inl (cA, n, .inr (.inr (.inr (.inl f)))))) (ht : tys[t0]? = some (cA, .double)) {i : Int32} (hout : ¬ vp_in i n) (hdg : decode cc pc = .ok (.daload, 1))
    (k : ∀ tx : String, tx = (toString "Index " ++ toString i ++ toString " out of bounds for length " ++ toString n : String) → vx_Note p l e R s m args below meth c H locs cells slots Q (F0 m pc ls rest) "java/lang/ArrayIndexOutOfBoundsException" tx) : W p l e R s m args below meth c H locs cells slots Q (F0 m pc ls (.int i :: .ref a :: rest)) := by
  intro T hT X
  obtain ⟨t, st, q⟩ := k _ rfl T hT X
  refine ⟨t, ?_, q⟩
  have h1 := X.daloadOut hexec (by rw [hT]; exact hP q0 _ ha) ((hK.2 t0 _ ht).1 n (fun j => .double (f j))) (j := i) (by show (i < 0 ∨ (arrV _ _ _).slots.size ≤ _); rw [arrV_size]; exact Classical.byContradiction hout) (g := F0 m pc ls (.int i :: .ref a :: rest)) rfl (rest := rest) rfl (by rw [hb]; exact hdg) t
  simp only [arrV_size] at h1
  exact h1 st
theorem vx_dastZ {D : va_G} {cl : List vw_C} {ws : va_W} {tys : List (ClassId × FieldType)} {a : Nat} (hexec : p.tables.exec = Jvm.exec) (hb : c.code = cc) (hK : va_K D cl tys s) (hP : va_P D cl ws H) (q0 t0 : Nat) {cA : ClassId} {n : Nat} {f : Nat → UInt64} (ha : ws[q0]? = some (a, .inl (cA, n, .inr (.inr (.inr (.inl f)))))) (ht : tys[t0]? = some (cA, .double)) {i : Int32} {x : UInt64} (hout : ¬ vp_in i n) (hdg : decode cc pc = .ok (.dastore, 1))
    (k : ∀ tx : String, tx = (toString "Index " ++ toString i ++ toString " out of bounds for length " ++ toString n : String) → vx_Note p l e R s m args below meth c H locs cells slots Q (F0 m pc ls rest) "java/lang/ArrayIndexOutOfBoundsException" tx) : W p l e R s m args below meth c H locs cells slots Q (F0 m pc ls (.double x :: .int i :: .ref a :: rest)) := by
  intro T hT X
  obtain ⟨t, st, q⟩ := k _ rfl T hT X
  refine ⟨t, ?_, q⟩
  have h1 := X.dastoreOut hexec (by rw [hT]; exact hP q0 _ ha) ((hK.2 t0 _ ht).1 n (fun j => .double (f j))) (j := i) (by show (i < 0 ∨ (arrV _ _ _).slots.size ≤ _); rw [arrV_size]; exact Classical.byContradiction hout) (g := F0 m pc ls (.double x :: .int i :: .ref a :: rest)) rfl (rest := rest) rfl (by rw [hb]; exact hdg) t
  simp only [arrV_size] at h1
  exact h1 st
theorem vx_arraylengthN (hexec : p.tables.exec = Jvm.exec) (hb : c.code = cc) (hdg : decode cc pc = .ok (.arraylength, 1)) (k : vx_NoteN p l e R s m args below meth c H locs cells slots Q (F0 m pc ls rest)) : W p l e R s m args below meth c H locs cells slots Q (F0 m pc ls (.null :: rest)) := by
  intro T hT X
  obtain ⟨t, st, q⟩ := k T hT X
  exact ⟨t, X.arraylengthNull hexec (g := F0 m pc ls (.null :: rest)) rfl (rest := rest) rfl (by rw [hb]; exact hdg) t st, q⟩
theorem vx_ialoadN (hexec : p.tables.exec = Jvm.exec) (hb : c.code = cc) {i : Int32} (hdg : decode cc pc = .ok (.iaload, 1)) (k : vx_NoteN p l e R s m args below meth c H locs cells slots Q (F0 m pc ls rest)) : W p l e R s m args below meth c H locs cells slots Q (F0 m pc ls (.int i :: .null :: rest)) := by
  intro T hT X
  obtain ⟨t, st, q⟩ := k T hT X
  exact ⟨t, X.ialoadNull hexec (g := F0 m pc ls (.int i :: .null :: rest)) rfl (rest := rest) rfl (by rw [hb]; exact hdg) t st, q⟩
theorem vx_laloadN (hexec : p.tables.exec = Jvm.exec) (hb : c.code = cc) {i : Int32} (hdg : decode cc pc = .ok (.laload, 1)) (k : vx_NoteN p l e R s m args below meth c H locs cells slots Q (F0 m pc ls rest)) : W p l e R s m args below meth c H locs cells slots Q (F0 m pc ls (.int i :: .null :: rest)) := by
  intro T hT X
  obtain ⟨t, st, q⟩ := k T hT X
  exact ⟨t, X.laloadNull hexec (g := F0 m pc ls (.int i :: .null :: rest)) rfl (rest := rest) rfl (by rw [hb]; exact hdg) t st, q⟩
theorem vx_faloadN (hexec : p.tables.exec = Jvm.exec) (hb : c.code = cc) {i : Int32} (hdg : decode cc pc = .ok (.faload, 1)) (k : vx_NoteN p l e R s m args below meth c H locs cells slots Q (F0 m pc ls rest)) : W p l e R s m args below meth c H locs cells slots Q (F0 m pc ls (.int i :: .null :: rest)) := by
  intro T hT X
  obtain ⟨t, st, q⟩ := k T hT X
  exact ⟨t, X.faloadNull hexec (g := F0 m pc ls (.int i :: .null :: rest)) rfl (rest := rest) rfl (by rw [hb]; exact hdg) t st, q⟩
theorem vx_daloadN (hexec : p.tables.exec = Jvm.exec) (hb : c.code = cc) {i : Int32} (hdg : decode cc pc = .ok (.daload, 1)) (k : vx_NoteN p l e R s m args below meth c H locs cells slots Q (F0 m pc ls rest)) : W p l e R s m args below meth c H locs cells slots Q (F0 m pc ls (.int i :: .null :: rest)) := by
  intro T hT X
  obtain ⟨t, st, q⟩ := k T hT X
  exact ⟨t, X.daloadNull hexec (g := F0 m pc ls (.int i :: .null :: rest)) rfl (rest := rest) rfl (by rw [hb]; exact hdg) t st, q⟩
theorem vx_aaloadN (hexec : p.tables.exec = Jvm.exec) (hb : c.code = cc) {i : Int32} (hdg : decode cc pc = .ok (.aaload, 1)) (k : vx_NoteN p l e R s m args below meth c H locs cells slots Q (F0 m pc ls rest)) : W p l e R s m args below meth c H locs cells slots Q (F0 m pc ls (.int i :: .null :: rest)) := by
  intro T hT X
  obtain ⟨t, st, q⟩ := k T hT X
  exact ⟨t, X.aaloadNull hexec (g := F0 m pc ls (.int i :: .null :: rest)) rfl (rest := rest) rfl (by rw [hb]; exact hdg) t st, q⟩
theorem vx_baloadN (hexec : p.tables.exec = Jvm.exec) (hb : c.code = cc) {i : Int32} (hdg : decode cc pc = .ok (.baload, 1)) (k : vx_NoteN p l e R s m args below meth c H locs cells slots Q (F0 m pc ls rest)) : W p l e R s m args below meth c H locs cells slots Q (F0 m pc ls (.int i :: .null :: rest)) := by
  intro T hT X
  obtain ⟨t, st, q⟩ := k T hT X
  exact ⟨t, X.baloadNull hexec (g := F0 m pc ls (.int i :: .null :: rest)) rfl (rest := rest) rfl (by rw [hb]; exact hdg) t st, q⟩
theorem vx_caloadN (hexec : p.tables.exec = Jvm.exec) (hb : c.code = cc) {i : Int32} (hdg : decode cc pc = .ok (.caload, 1)) (k : vx_NoteN p l e R s m args below meth c H locs cells slots Q (F0 m pc ls rest)) : W p l e R s m args below meth c H locs cells slots Q (F0 m pc ls (.int i :: .null :: rest)) := by
  intro T hT X
  obtain ⟨t, st, q⟩ := k T hT X
  exact ⟨t, X.caloadNull hexec (g := F0 m pc ls (.int i :: .null :: rest)) rfl (rest := rest) rfl (by rw [hb]; exact hdg) t st, q⟩
theorem vx_saloadN (hexec : p.tables.exec = Jvm.exec) (hb : c.code = cc) {i : Int32} (hdg : decode cc pc = .ok (.saload, 1)) (k : vx_NoteN p l e R s m args below meth c H locs cells slots Q (F0 m pc ls rest)) : W p l e R s m args below meth c H locs cells slots Q (F0 m pc ls (.int i :: .null :: rest)) := by
  intro T hT X
  obtain ⟨t, st, q⟩ := k T hT X
  exact ⟨t, X.saloadNull hexec (g := F0 m pc ls (.int i :: .null :: rest)) rfl (rest := rest) rfl (by rw [hb]; exact hdg) t st, q⟩
theorem vx_iastoreN (hexec : p.tables.exec = Jvm.exec) (hb : c.code = cc) {x : Int32} {i : Int32} (hdg : decode cc pc = .ok (.iastore, 1)) (k : vx_NoteN p l e R s m args below meth c H locs cells slots Q (F0 m pc ls rest)) : W p l e R s m args below meth c H locs cells slots Q (F0 m pc ls (.int x :: .int i :: .null :: rest)) := by
  intro T hT X
  obtain ⟨t, st, q⟩ := k T hT X
  exact ⟨t, X.iastoreNull hexec (g := F0 m pc ls (.int x :: .int i :: .null :: rest)) rfl (rest := rest) rfl (by rw [hb]; exact hdg) t st, q⟩
theorem vx_lastoreN (hexec : p.tables.exec = Jvm.exec) (hb : c.code = cc) {x : Int64} {i : Int32} (hdg : decode cc pc = .ok (.lastore, 1)) (k : vx_NoteN p l e R s m args below meth c H locs cells slots Q (F0 m pc ls rest)) : W p l e R s m args below meth c H locs cells slots Q (F0 m pc ls (.long x :: .int i :: .null :: rest)) := by
  intro T hT X
  obtain ⟨t, st, q⟩ := k T hT X
  exact ⟨t, X.lastoreNull hexec (g := F0 m pc ls (.long x :: .int i :: .null :: rest)) rfl (rest := rest) rfl (by rw [hb]; exact hdg) t st, q⟩
theorem vx_fastoreN (hexec : p.tables.exec = Jvm.exec) (hb : c.code = cc) {x : UInt32} {i : Int32} (hdg : decode cc pc = .ok (.fastore, 1)) (k : vx_NoteN p l e R s m args below meth c H locs cells slots Q (F0 m pc ls rest)) : W p l e R s m args below meth c H locs cells slots Q (F0 m pc ls (.float x :: .int i :: .null :: rest)) := by
  intro T hT X
  obtain ⟨t, st, q⟩ := k T hT X
  exact ⟨t, X.fastoreNull hexec (g := F0 m pc ls (.float x :: .int i :: .null :: rest)) rfl (rest := rest) rfl (by rw [hb]; exact hdg) t st, q⟩
theorem vx_dastoreN (hexec : p.tables.exec = Jvm.exec) (hb : c.code = cc) {x : UInt64} {i : Int32} (hdg : decode cc pc = .ok (.dastore, 1)) (k : vx_NoteN p l e R s m args below meth c H locs cells slots Q (F0 m pc ls rest)) : W p l e R s m args below meth c H locs cells slots Q (F0 m pc ls (.double x :: .int i :: .null :: rest)) := by
  intro T hT X
  obtain ⟨t, st, q⟩ := k T hT X
  exact ⟨t, X.dastoreNull hexec (g := F0 m pc ls (.double x :: .int i :: .null :: rest)) rfl (rest := rest) rfl (by rw [hb]; exact hdg) t st, q⟩
theorem vx_bastoreN (hexec : p.tables.exec = Jvm.exec) (hb : c.code = cc) {x : Int32} {i : Int32} (hdg : decode cc pc = .ok (.bastore, 1)) (k : vx_NoteN p l e R s m args below meth c H locs cells slots Q (F0 m pc ls rest)) : W p l e R s m args below meth c H locs cells slots Q (F0 m pc ls (.int x :: .int i :: .null :: rest)) := by
  intro T hT X
  obtain ⟨t, st, q⟩ := k T hT X
  exact ⟨t, X.bastoreNull hexec (g := F0 m pc ls (.int x :: .int i :: .null :: rest)) rfl (rest := rest) rfl (by rw [hb]; exact hdg) t st, q⟩
theorem vx_castoreN (hexec : p.tables.exec = Jvm.exec) (hb : c.code = cc) {x : Int32} {i : Int32} (hdg : decode cc pc = .ok (.castore, 1)) (k : vx_NoteN p l e R s m args below meth c H locs cells slots Q (F0 m pc ls rest)) : W p l e R s m args below meth c H locs cells slots Q (F0 m pc ls (.int x :: .int i :: .null :: rest)) := by
  intro T hT X
  obtain ⟨t, st, q⟩ := k T hT X
  exact ⟨t, X.castoreNull hexec (g := F0 m pc ls (.int x :: .int i :: .null :: rest)) rfl (rest := rest) rfl (by rw [hb]; exact hdg) t st, q⟩
theorem vx_sastoreN (hexec : p.tables.exec = Jvm.exec) (hb : c.code = cc) {x : Int32} {i : Int32} (hdg : decode cc pc = .ok (.sastore, 1)) (k : vx_NoteN p l e R s m args below meth c H locs cells slots Q (F0 m pc ls rest)) : W p l e R s m args below meth c H locs cells slots Q (F0 m pc ls (.int x :: .int i :: .null :: rest)) := by
  intro T hT X
  obtain ⟨t, st, q⟩ := k T hT X
  exact ⟨t, X.sastoreNull hexec (g := F0 m pc ls (.int x :: .int i :: .null :: rest)) rfl (rest := rest) rfl (by rw [hb]; exact hdg) t st, q⟩
theorem vx_invokeN {own C : String} {index maxL : Nat} {y : MethodName} {bytes : ByteArray} {ret : Option FieldType} (hexec : p.tables.exec = Jvm.exec) (hb : c.code = cc) (hown : s.vm.findClass own = some m.cls) (hlink : (Cond.methodLink own index y).before args s = true) (hinst : (Cond.instanceMethod y).before args s = true) (hcode : (Cond.code y bytes maxL ret).before args s = true) (hsel : (Cond.selects C y y).before args s = true)
    (hx : y.cls ≠ "java/lang/invoke/MethodHandle" ∧ y.cls ≠ "java/lang/invoke/VarHandle") {As : List Value} (hlen : (parseMethodDescriptor y.desc).map (fun d => d.parameters.length) = some As.length) (hdg : decode cc pc = .ok (.invokevirtual index, 3))
    (k : vx_NoteN p l e R s m args below meth c H locs cells slots Q (F0 m pc ls rest)) {st0 : List Value} (hst : st0 = As.reverse ++ .null :: rest) : W p l e R s m args below meth c H locs cells slots Q (F0 m pc ls st0) := by
  intro T hT X
  obtain ⟨r0, r, hn, hrm, hstR, hsigR⟩ := va_Decl.of hinst hcode
  obtain ⟨c2, r2, m2, q1, q2, q3, q4, kP, hkP, hkPi⟩ := Cond.selects_spec hsel
  cases hn.symm.trans q3
  have hl9 : As.length = r.sig.parameters.length := by
    rw [hsigR] at hlen
    exact (Option.some.inj hlen).symm
  obtain ⟨vm', X1, st1⟩ := X.invokevirtualNull hexec hown hlink hn hrm hstR hkP hkPi hx (g := F0 m pc ls st0) rfl (argsL := As) (rest := rest) hl9 hst (by rw [hb]; exact hdg)
  obtain ⟨t, st, q⟩ := k (T.setVm vm') hT X1
  exact ⟨t, st1 t st, q⟩
theorem vx_newarrayZ {atype : ArrayType} (hexec : p.tables.exec = Jvm.exec) (hb : c.code = cc) {n : Int32} (h0 : n < 0) (hdg : decode cc pc = .ok (.newarray atype, 2)) (k : ∀ tx : String, tx = toString n → vx_Note p l e R s m args below meth c H locs cells slots Q (F0 m pc ls rest) "java/lang/NegativeArraySizeException" tx) : W p l e R s m args below meth c H locs cells slots Q (F0 m pc ls (.int n :: rest)) := by
  intro T hT X
  obtain ⟨t, st, q⟩ := k _ rfl T hT X
  exact ⟨t, X.newarrayNegative hexec (g := F0 m pc ls (.int n :: rest)) rfl h0 (rest := rest) rfl (by rw [hb]; exact hdg) t st, q⟩
end
end VXM
/-! ===== END ===== -/
/-! ===== BEGIN an exception as an object: made, kept, thrown later (no traces kept) ===== -/
section VXK
variable {p : Program} {l : Launch} {e : Env} {R : Room} {s : State} {m₀ : MethodId} {args : Array Value} {below : List Frame} {meth : Method} {c : Code} {W : State} {locs : List Loc} {cells slots : Nat}
set_option maxHeartbeats 1000000 in
theorem vx_ctorMadeS (X : Stand p l e R s m₀ args below meth c W locs cells slots) (hexec : p.tables.exec = Jvm.exec) (htr : e.platform.stackTraces = false) {own cls : String} {names : List String} {ic : Nat}
    (hown : s.vm.findClass own = some m₀.cls) (hcls : Bundle.fit cls = true) (hnames : ∀ n ∈ names, Bundle.fit n = true)
    (h : ∀ a ∈ Bundle.ownAtoms own ic cls names, a.before args s = true)
    (hlocs : ∀ x ∈ locs, ∀ cell, s.heap[x.base]? = some cell → cell.vm.isStatics = false)
    {a : Addr} {cX : ClassId} {kX : Class} (hfoundX : s.vm.findClass cls = some cX) (hkX : s.vm.classes[cX]? = some kX) (hcell : W.heap[a]? = some (freshCell cX kX)) (hnew : s.heap.size ≤ a)
    {msg : Value} (hmsg : msg.isRef = true)
    {g : JFrame} (hg : g.method = m₀) (hsize : g.locals.size = c.maxLocals) {rest : List Value} (hstack : g.stack = msg :: .ref a :: .ref a :: rest)
    (hd6 : decode c.code g.pc = .ok (.invokespecial ic, 3))
    (hRframes : names.length + 3 < R.frames) (hRlocals : 2 * g.monitorRoom + ((Value.ref a :: rest).map fun v => v.category).sum + (13 * (names.length + 1) + 42) ≤ R.locals) :
    ∃ (V : State) (ce : Cell) (L : List Loc), Stand p l e R s m₀ args below meth c (V.setCell a ce) (locs ++ L) cells slots ∧ (∀ y ∈ L, y.base = a) ∧ a < V.heap.size ∧ ce.cls = cX ∧ ce.vm = .none ∧
      ∀ target, Steps p.tables e below ((V.setCell a ce).setTop { g with stack := .ref a :: rest, pc := g.pc + 3 }) target → Steps p.tables e below (W.setTop g) target := by
  have howns : e.platform.frameOwnsMonitors = true := by rw [X.admits.platform]
  have hfin : e.platform.finalization = false := by rw [X.admits.platform]
  have hpl : e.platform.magicAccessors = ({} : Platform).magicAccessors := by rw [X.admits.platform]
  have a' : ∀ x, x ∈ Bundle.ownAtoms own ic cls names → x.holds args s none s [] = true := fun x hx => h x hx
  obtain ⟨T, Z0, L, -, Y⟩ := ThrowableC.of_atoms (args := args) howns hfin hpl (fun x hx => h x (by simp [Bundle.ownAtoms, hx]))
  obtain ⟨Z, M, LZ, LM, hnZ⟩ := Init0T.ofS_atoms (args := args) hpl L Y (fun x hx => h x (by simp [Bundle.ownAtoms, hx]))
  obtain ⟨P1, Ps, hlen, L1, hL, hP1m, hlink1, hlink⟩ := Bundle.chainS (args := args) hpl hnZ names cls hcls hnames (fun x hx => h x (by simp [Bundle.ownAtoms, hx]))
  have hfound : s.vm.findClass cls = some P1.m.cls := findClass_of_methodNamed hP1m
  cases Option.some.inj (hfoundX.symm.trans hfound)
  obtain ⟨c1, kX', hc1, hk, hord, -, -, hn6⟩ := Cond.instantiable_spec (a' (.instantiable cls 6) (by simp [Bundle.ownAtoms]))
  cases Option.some.inj (hc1.symm.trans hfound)
  cases Option.some.inj (hkX.symm.trans hk)
  have hsel0 : selectMethod e.platform s.vm P1.m.cls T.fill0 = .method T.fill0 := by
    obtain ⟨c2, r2, m2, q1, q2, q3, q4, -⟩ := Cond.selects_spec (a' (.selects cls Bundle.tFill0 Bundle.tFill0) (by simp [Bundle.ownAtoms]))
    cases Option.some.inj (q1.symm.trans hfound)
    cases Option.some.inj (q2.symm.trans (State.methodFound?_of_named Y.fill0 (by decide)))
    cases Option.some.inj (q3.symm.trans Y.fill0)
    rw [Launch.admits_selectMethod X.admits]; exact q4
  have hselF : selectMethod e.platform s.vm P1.m.cls T.fill = .method T.fill := by
    obtain ⟨c2, r2, m2, q1, q2, q3, q4, -⟩ := Cond.selects_spec (a' (.selects cls Bundle.tFill Bundle.tFill) (by simp [Bundle.ownAtoms]))
    cases Option.some.inj (q1.symm.trans hfound)
    cases Option.some.inj (q2.symm.trans (State.methodFound?_of_named Y.fill (by decide)))
    cases Option.some.inj (q3.symm.trans Y.fill)
    rw [Launch.admits_selectMethod X.admits]; exact q4
  obtain ⟨cellS0, hcS0, hiss⟩ := Y.statics
  obtain ⟨u0, hu0⟩ := Cond.staticRefV Y.unassigned L.unassignedStatic L.statics hcS0 hiss (a' (.isRef (.static Bundle.tN "UNASSIGNED_STACK" Bundle.steD)) (by simp [Bundle.ownAtoms]))
  obtain ⟨sen, hsen⟩ := Cond.staticRefV Y.sentinel L.sentinelStatic L.statics hcS0 hiss (a' (.isRef (.static Bundle.tN "SUPPRESSED_SENTINEL" Bundle.listD)) (by simp [Bundle.ownAtoms]))
  obtain ⟨ci198, i198, fB, hk198, hg198, ha198, hsB, -, hnB, htB, hffB⟩ := Cond.ownField (t := .object "java/lang/Object") Y.found L.cls (by decide +kernel) (a' (.fieldLink Bundle.tN 198 Bundle.tN "backtrace" "Ljava/lang/Object;") (by simp [Bundle.ownAtoms])) (a' (.lays Bundle.tN Bundle.tN "backtrace" "Ljava/lang/Object;") (by simp [Bundle.ownAtoms])) e.platform hpl
  obtain ⟨cellS, hcS', heS, -, hkeep⟩ := X.same.2.2.2.2.2 T.aS cellS0 hcS0
  have hcellS : W.heap[T.aS]? = some cellS := hcS'
  have hout' : ∀ i, (⟨T.aS, i⟩ : Loc) ∉ locs := fun i hmem => by
    have := hlocs _ hmem cellS0 hcS0
    rw [hiss] at this; cases this
  have hknownS : cellS.vm ≠ .unknown := by
    rw [heS]; intro hu
    rw [show cellS0.vm = .unknown from hu] at hiss
    cases hiss
  have hneS : T.aS ≠ a := Nat.ne_of_lt (Nat.lt_of_lt_of_le (Array.getElem?_eq_some_iff.mp hcS0).1 hnew)
  obtain ⟨iM, hffM⟩ := Y.msg
  obtain ⟨tyC, dC, hdC, hdnC⟩ := Cond.laysAt hfound hk Y.cause (a' (.lays cls Bundle.tN "cause" "Ljava/lang/Throwable;") (by simp [Bundle.ownAtoms]))
  obtain ⟨tyS, dS, hdS, hdnS⟩ := Cond.laysAt hfound hk Y.stack (a' (.lays cls Bundle.tN "stackTrace" Bundle.steD) (by simp [Bundle.ownAtoms]))
  obtain ⟨tyP, dP, hdP, hdnP⟩ := Cond.laysAt hfound hk Y.supp (a' (.lays cls Bundle.tN "suppressedExceptions" Bundle.listD) (by simp [Bundle.ownAtoms]))
  obtain ⟨tyM, dM, hdM, hdnM⟩ := Cond.laysAt hfound hk hffM (a' (.lays cls Bundle.tN "detailMessage" "Ljava/lang/String;") (by simp [Bundle.ownAtoms]))
  obtain ⟨tyB, dB, hdB, hdnB⟩ := Cond.laysAt hfound hk hffB (a' (.lays cls Bundle.tN "backtrace" "Ljava/lang/Object;") (by simp [Bundle.ownAtoms]))
  have bC := Cond.laysApart hdB hdC hdnB hdnC (by rw [hnB, Y.causeName]; decide)
  have bS := Cond.laysApart hdB hdS hdnB hdnS (by rw [hnB, Y.stackName]; decide)
  have bP := Cond.laysApart hdB hdP hdnB hdnP (by rw [hnB, Y.suppName]; decide)
  have hskip : SkipFacts T e.platform s (fun u => u) u0 ((preparedCellV T.toThrowableT (freshCell P1.m.cls kX) a u0 sen).withEntry W.cur) :=
    ⟨{ ci198 := ci198, i198 := i198, fBack := fB }, ⟨hk198, hg198, ha198, hsB⟩, by
      have := fresh_default (c := P1.m.cls) tyB
      rw [htB] at this
      simpa [preparedCellV, Cell.setSlot, Cell.withEntry, Array.getElem?_setIfInBounds, bC, bS, bP, bC.symm, bS.symm, bP.symm, defaultValue] using this, fun _ _ => rfl⟩
  obtain ⟨tm, methC, cdC, kC, vm₁, hnC, -, -, -, -, -, -, -, hW₁, st1⟩ := Steps.initColdS (tb := p.tables) (e := e) (below := below) (s := s) (U := W) X.here hexec X.warmed hpl hown (t := Bundle.initS cls) rfl rfl (Bundle.fit_spec hcls).2
    (a' (.methodLink own ic (Bundle.initS cls)) (by simp [Bundle.ownAtoms])) (h (.instanceMethod (Bundle.initS cls)) (by cases names <;> simp [Bundle.ownAtoms, Bundle.chainSAtoms, Bundle.passSAtoms])) (bytes := Bundle.six) (maxL := 2) (h (.code (Bundle.initS cls) Bundle.six 2 none) (by cases names <;> simp [Bundle.ownAtoms, Bundle.chainSAtoms, Bundle.passSAtoms]))
    (f := g) hg (a := a) (msg := msg) (rest := .ref a :: rest) hstack hd6
  cases Option.some.inj (hnC.symm.trans hP1m)
  have X₁ := X.noted hW₁
  obtain ⟨vm₂, X₂, st2⟩ := X₁.ctorMessageOffV hexec (g := { g with stack := .ref a :: rest }) hg hsize T L Z LZ M LM (P1 :: Ps)
    (fun P hP => by rcases List.mem_cons.mp hP with rfl | hP; exact L1; exact hL P hP) ⟨hlink1, hlink⟩ (u0 := u0) (sen := sen) (self := a) hmsg (cell := freshCell P1.m.cls kX) (cellS := cellS)
    hcell (fun _ => by simp) (by simp) rfl rfl hsel0 hselF hcellS hneS hknownS (by rw [hkeep _ (hout' _)]; exact hu0) (by rw [hkeep _ (hout' _)]; exact hsen)
    (Takes.of_laid hk hord tyC (by rw [Y.causeType]; rfl)) (Takes.of_laid hk hord tyS (by rw [Y.stackType]; exact fits_refV_array _ u0)) (Takes.of_laid hk hord tyP (by rw [Y.suppType]; exact fits_refV_object _ sen))
    (Takes.of_laid hk hord tyM (by rw [Y.msgType]; exact fits_refV_object _ ⟨msg, hmsg⟩)) Y.objLocals hskip htr [] hd6
    (by simp only [List.length_cons, hlen]; omega) (by simp only [List.length_cons, hlen]; exact hRlocals)
  have hlt : a < ((W.setVm vm₁).setVm vm₂).heap.size := (Array.getElem?_eq_some_iff.mp hcell).1
  refine ⟨(W.setVm vm₁).setVm vm₂, _, _, X₂, fun y hy => ?_, hlt, rfl, rfl, fun target hwalk => st1 _ (fun acts => ?_)⟩
  · simp only [List.mem_cons, List.not_mem_nil, or_false] at hy
    rcases hy with rfl | rfl | rfl | rfl | rfl <;> rfl
  · rw [doInvoke_state]
    exact st2 _ hwalk
set_option maxHeartbeats 1000000 in
theorem vx_ctorMade0 (X : Stand p l e R s m₀ args below meth c W locs cells slots) (hexec : p.tables.exec = Jvm.exec) (htr : e.platform.stackTraces = false) {own cls : String} {names : List String} {ic : Nat}
    (hown : s.vm.findClass own = some m₀.cls) (hcls : Bundle.fit cls = true) (hnames : ∀ n ∈ names, Bundle.fit n = true)
    (h : ∀ a ∈ Bundle.ownAtoms0 own ic cls names, a.before args s = true)
    (hlocs : ∀ x ∈ locs, ∀ cell, s.heap[x.base]? = some cell → cell.vm.isStatics = false)
    {a : Addr} {cX : ClassId} {kX : Class} (hfoundX : s.vm.findClass cls = some cX) (hkX : s.vm.classes[cX]? = some kX) (hcell : W.heap[a]? = some (freshCell cX kX)) (hnew : s.heap.size ≤ a)
    {g : JFrame} (hg : g.method = m₀) (hsize : g.locals.size = c.maxLocals) {rest : List Value} (hstack : g.stack = .ref a :: .ref a :: rest)
    (hd6 : decode c.code g.pc = .ok (.invokespecial ic, 3))
    (hRframes : names.length + 3 < R.frames) (hRlocals : 2 * g.monitorRoom + ((Value.ref a :: rest).map fun v => v.category).sum + (13 * (names.length + 1) + 41) ≤ R.locals) :
    ∃ (V : State) (ce : Cell) (L : List Loc), Stand p l e R s m₀ args below meth c (V.setCell a ce) (locs ++ L) cells slots ∧ (∀ y ∈ L, y.base = a) ∧ a < V.heap.size ∧ ce.cls = cX ∧ ce.vm = .none ∧
      ∀ target, Steps p.tables e below ((V.setCell a ce).setTop { g with stack := .ref a :: rest, pc := g.pc + 3 }) target → Steps p.tables e below (W.setTop g) target := by
  have howns : e.platform.frameOwnsMonitors = true := by rw [X.admits.platform]
  have hfin : e.platform.finalization = false := by rw [X.admits.platform]
  have hpl : e.platform.magicAccessors = ({} : Platform).magicAccessors := by rw [X.admits.platform]
  have a' : ∀ x, x ∈ Bundle.ownAtoms0 own ic cls names → x.holds args s none s [] = true := fun x hx => h x hx
  obtain ⟨T, Z, L, LZ, Y⟩ := ThrowableC.of_atoms (args := args) howns hfin hpl (fun x hx => h x (by simp [Bundle.ownAtoms0, hx]))
  obtain ⟨P1, Ps, hlen, L1, hL, hP1m, hlink1, hlink⟩ := Bundle.chain0 (args := args) hpl Y.init0 names cls hcls hnames (fun x hx => h x (by simp [Bundle.ownAtoms0, hx]))
  have hfound : s.vm.findClass cls = some P1.m.cls := findClass_of_methodNamed hP1m
  cases Option.some.inj (hfoundX.symm.trans hfound)
  obtain ⟨c1, kX', hc1, hk, hord, -, -, hn6⟩ := Cond.instantiable_spec (a' (.instantiable cls 6) (by simp [Bundle.ownAtoms0]))
  cases Option.some.inj (hc1.symm.trans hfound)
  cases Option.some.inj (hkX.symm.trans hk)
  have hsel0 : selectMethod e.platform s.vm P1.m.cls T.fill0 = .method T.fill0 := by
    obtain ⟨c2, r2, m2, q1, q2, q3, q4, -⟩ := Cond.selects_spec (a' (.selects cls Bundle.tFill0 Bundle.tFill0) (by simp [Bundle.ownAtoms0]))
    cases Option.some.inj (q1.symm.trans hfound)
    cases Option.some.inj (q2.symm.trans (State.methodFound?_of_named Y.fill0 (by decide)))
    cases Option.some.inj (q3.symm.trans Y.fill0)
    rw [Launch.admits_selectMethod X.admits]; exact q4
  have hselF : selectMethod e.platform s.vm P1.m.cls T.fill = .method T.fill := by
    obtain ⟨c2, r2, m2, q1, q2, q3, q4, -⟩ := Cond.selects_spec (a' (.selects cls Bundle.tFill Bundle.tFill) (by simp [Bundle.ownAtoms0]))
    cases Option.some.inj (q1.symm.trans hfound)
    cases Option.some.inj (q2.symm.trans (State.methodFound?_of_named Y.fill (by decide)))
    cases Option.some.inj (q3.symm.trans Y.fill)
    rw [Launch.admits_selectMethod X.admits]; exact q4
  obtain ⟨cellS0, hcS0, hiss⟩ := Y.statics
  obtain ⟨u0, hu0⟩ := Cond.staticRefV Y.unassigned L.unassignedStatic L.statics hcS0 hiss (a' (.isRef (.static Bundle.tN "UNASSIGNED_STACK" Bundle.steD)) (by simp [Bundle.ownAtoms0]))
  obtain ⟨sen, hsen⟩ := Cond.staticRefV Y.sentinel L.sentinelStatic L.statics hcS0 hiss (a' (.isRef (.static Bundle.tN "SUPPRESSED_SENTINEL" Bundle.listD)) (by simp [Bundle.ownAtoms0]))
  obtain ⟨ci198, i198, fB, hk198, hg198, ha198, hsB, -, hnB, htB, hffB⟩ := Cond.ownField (t := .object "java/lang/Object") Y.found L.cls (by decide +kernel) (a' (.fieldLink Bundle.tN 198 Bundle.tN "backtrace" "Ljava/lang/Object;") (by simp [Bundle.ownAtoms0])) (a' (.lays Bundle.tN Bundle.tN "backtrace" "Ljava/lang/Object;") (by simp [Bundle.ownAtoms0])) e.platform hpl
  obtain ⟨cellS, hcS', heS, -, hkeep⟩ := X.same.2.2.2.2.2 T.aS cellS0 hcS0
  have hcellS : W.heap[T.aS]? = some cellS := hcS'
  have hout' : ∀ i, (⟨T.aS, i⟩ : Loc) ∉ locs := fun i hmem => by
    have := hlocs _ hmem cellS0 hcS0
    rw [hiss] at this; cases this
  have hknownS : cellS.vm ≠ .unknown := by
    rw [heS]; intro hu
    rw [show cellS0.vm = .unknown from hu] at hiss
    cases hiss
  have hneS : T.aS ≠ a := Nat.ne_of_lt (Nat.lt_of_lt_of_le (Array.getElem?_eq_some_iff.mp hcS0).1 hnew)
  obtain ⟨iM, hffM⟩ := Y.msg
  obtain ⟨tyC, dC, hdC, hdnC⟩ := Cond.laysAt hfound hk Y.cause (a' (.lays cls Bundle.tN "cause" "Ljava/lang/Throwable;") (by simp [Bundle.ownAtoms0]))
  obtain ⟨tyS, dS, hdS, hdnS⟩ := Cond.laysAt hfound hk Y.stack (a' (.lays cls Bundle.tN "stackTrace" Bundle.steD) (by simp [Bundle.ownAtoms0]))
  obtain ⟨tyP, dP, hdP, hdnP⟩ := Cond.laysAt hfound hk Y.supp (a' (.lays cls Bundle.tN "suppressedExceptions" Bundle.listD) (by simp [Bundle.ownAtoms0]))
  obtain ⟨tyM, dM, hdM, hdnM⟩ := Cond.laysAt hfound hk hffM (a' (.lays cls Bundle.tN "detailMessage" "Ljava/lang/String;") (by simp [Bundle.ownAtoms0]))
  obtain ⟨tyB, dB, hdB, hdnB⟩ := Cond.laysAt hfound hk hffB (a' (.lays cls Bundle.tN "backtrace" "Ljava/lang/Object;") (by simp [Bundle.ownAtoms0]))
  have bC := Cond.laysApart hdB hdC hdnB hdnC (by rw [hnB, Y.causeName]; decide)
  have bS := Cond.laysApart hdB hdS hdnB hdnS (by rw [hnB, Y.stackName]; decide)
  have bP := Cond.laysApart hdB hdP hdnB hdnP (by rw [hnB, Y.suppName]; decide)
  have hskip : SkipFacts T e.platform s (fun u => u) u0 ((preparedCellV T.toThrowableT (freshCell P1.m.cls kX) a u0 sen).withEntry W.cur) :=
    ⟨{ ci198 := ci198, i198 := i198, fBack := fB }, ⟨hk198, hg198, ha198, hsB⟩, by
      have := fresh_default (c := P1.m.cls) tyB
      rw [htB] at this
      simpa [preparedCellV, Cell.setSlot, Cell.withEntry, Array.getElem?_setIfInBounds, bC, bS, bP, bC.symm, bS.symm, bP.symm, defaultValue] using this, fun _ _ => rfl⟩
  obtain ⟨tm, methC, cdC, kC, vm₁, hnC, -, -, -, -, -, -, -, hW₁, st1⟩ := Steps.initCold (tb := p.tables) (e := e) (below := below) (s := s) (U := W) X.here hexec X.warmed hpl hown (t := Bundle.init0 cls) rfl rfl (Bundle.fit_spec hcls).2
    (a' (.methodLink own ic (Bundle.init0 cls)) (by simp [Bundle.ownAtoms0])) (h (.instanceMethod (Bundle.init0 cls)) (by cases names <;> simp [Bundle.ownAtoms0, Bundle.chain0Atoms, Bundle.passAtoms])) (bytes := Bundle.five) (maxL := 1) (h (.code (Bundle.init0 cls) Bundle.five 1 none) (by cases names <;> simp [Bundle.ownAtoms0, Bundle.chain0Atoms, Bundle.passAtoms]))
    (f := g) hg (a := a) (rest := .ref a :: rest) hstack hd6
  cases Option.some.inj (hnC.symm.trans hP1m)
  have X₁ := X.noted hW₁
  obtain ⟨vm₂, X₂, st2⟩ := X₁.ctorPlainOffV hexec (g := { g with stack := .ref a :: rest }) hg hsize T L Z LZ (P1 :: Ps)
    (fun P hP => by rcases List.mem_cons.mp hP with rfl | hP; exact L1; exact hL P hP) ⟨hlink1, hlink⟩ (u0 := u0) (sen := sen) (self := a) (cell := freshCell P1.m.cls kX) (cellS := cellS)
    hcell (fun _ => by simp) (by simp) rfl rfl hsel0 hselF hcellS hneS hknownS (by rw [hkeep _ (hout' _)]; exact hu0) (by rw [hkeep _ (hout' _)]; exact hsen)
    (Takes.of_laid hk hord tyC (by rw [Y.causeType]; rfl)) (Takes.of_laid hk hord tyS (by rw [Y.stackType]; exact fits_refV_array _ u0)) (Takes.of_laid hk hord tyP (by rw [Y.suppType]; exact fits_refV_object _ sen)) Y.objLocals hskip htr [] hd6
    (by simp only [List.length_cons, hlen]; omega) (by simp only [List.length_cons, hlen]; exact hRlocals)
  have hlt : a < ((W.setVm vm₁).setVm vm₂).heap.size := (Array.getElem?_eq_some_iff.mp hcell).1
  refine ⟨(W.setVm vm₁).setVm vm₂, _, _, X₂, fun y hy => ?_, hlt, rfl, rfl, fun target hwalk => st1 _ (fun acts => ?_)⟩
  · simp only [List.mem_cons, List.not_mem_nil, or_false] at hy
    rcases hy with rfl | rfl | rfl | rfl <;> rfl
  · rw [doInvoke_state]
    exact st2 _ hwalk
end VXK
section VXK2
variable {p : Program} {l : Launch} {e : Env} {R : Room} {s : State} {m : MethodId} {args : Array Value} {below : List Frame} {meth : Method} {c : Code} {H : Heap} {locs : List Loc} {cells slots : Nat} {Q : State → Prop}
variable {ls : Array Slot} {rest : List Value} {D : va_G} {cl : List vw_C} {tys : List (ClassId × FieldType)} {ws : va_W}
/-- 'new E("text")' that isn't thrown at once: the object goes on the stack -/
theorem vx_makeS {cc : ByteArray} {pc : Nat} (hexec : p.tables.exec = Jvm.exec) (hb : c.code = cc) (hl : l.stackTraces = false) {own cls text : String} {names : List String} {ik is ic sa ci : Nat} {A : Nat → Prop} {T0 : u_T}
    (hown : s.vm.findClass own = some m.cls) (hcls : Bundle.fit cls = true) (hnames : ∀ n ∈ names, Bundle.fit n = true)
    (hk : (Cond.classLink own ik cls).before args s = true) (hini : (Cond.initialized cls).before args s = true) (hstr : vk_R own is text sa s) (hat : ∀ w ∈ vx_atS own ic cls names, w.before args s = true)
    (hgood : ∀ w ∈ Cond.classLink own ik cls :: Cond.initialized cls :: vx_atS own ic cls names, vx_ot w = true)
    (hU : vx_Zq Bundle.tN "UNASSIGNED_STACK" Bundle.steD A s s.heap) (hN : vx_Zq Bundle.tN "SUPPRESSED_SENTINEL" Bundle.listD A s s.heap) (hS : va_S A s.heap H locs) (hsize : ls.size = c.maxLocals)
    (d0 : decode cc pc = .ok (.new ik, 3)) (d3 : decode cc (pc + 3) = .ok (.dup, 1)) (d4 : decode cc (pc + 4) = .ok (.ldc is, 2)) (d6 : decode cc (pc + 6) = .ok (.invokespecial ic, 3))
    (hK : va_K D cl tys s) (hP : va_P D cl ws H) (hD : va_D A ws) (hA : ∀ q, s.heap.size ≤ q → A q) (hc : cl[ci]? = some (cls, T0, 0))
    (hRframes : names.length + 3 < R.frames) (hRlocals : (rest.map fun v => v.category).sum + (13 * (names.length + 1) + 43) ≤ R.locals) (hRcells : cells + 1 ≤ R.cells) (hRslots : slots + 6 ≤ R.slots)
    (kk : ∀ (q : Nat) (H1 : Heap), va_P D cl (ws ++ [(q, .inr (ci, []))]) H1 → va_D A (ws ++ [(q, .inr (ci, []))]) → va_S A s.heap H1 locs → W p l e R s m args below meth c H1 locs (cells + 1) (slots + 6) Q (F0 m (pc + 9) ls (.ref q :: rest))) :
    W p l e R s m args below meth c H locs cells slots Q (F0 m pc ls rest) := by
  intro T hT X
  subst hT
  have htr : e.platform.stackTraces = false := (show e.platform.stackTraces = l.stackTraces by rw [X.admits.platform]).trans hl
  have Y := vx_rebase X (R' := { frames := R.frames, locals := R.locals, cells := 1, slots := 6 }) (Nat.le_refl _) (Nat.le_refl _) hRcells hRslots
  obtain ⟨s', hA'⟩ : ∃ z, z = (T.setVm s.vm).setFrames (.invoking m args :: below) := ⟨_, rfl⟩
  rw [← hA'] at Y
  have hvm : s'.vm = s.vm := by rw [hA']; rfl
  have hhp : s'.heap = T.heap := by rw [hA']; rfl
  have hW0 : s.WarmedH s'.vm := by rw [hvm]; exact State.WarmedH.refl s
  have hat' : ∀ w ∈ vx_atS own ic cls names, w.before args s' = true := fun w hw => vx_ot_at hW0 hvm.symm (hgood w (List.mem_cons_of_mem _ (List.mem_cons_of_mem _ hw))) (hat w hw)
  have hk' : (Cond.classLink own ik cls).before args s' = true := vx_ot_at hW0 hvm.symm (hgood _ List.mem_cons_self) hk
  have hini' : (Cond.initialized cls).before args s' = true := vx_ot_at hW0 hvm.symm (hgood _ (List.mem_cons_of_mem _ List.mem_cons_self)) hini
  have hU' : vx_Zq Bundle.tN "UNASSIGNED_STACK" Bundle.steD A s' s'.heap := by rw [hhp]; exact vx_Zq.moved hW0.alike (hU.kept hS.2.1)
  have hN' : vx_Zq Bundle.tN "SUPPRESSED_SENTINEL" Bundle.listD A s' s'.heap := by rw [hhp]; exact vx_Zq.moved hW0.alike (hN.kept hS.2.1)
  have h : ∀ w ∈ Bundle.ownAtoms own ic cls names, w.before args s' = true := vx_own hat' (vx_isRefq hU'.1) (vx_isRefq hN'.1) hU'.2.word hN'.2.word
  have hown' : s'.vm.findClass own = some m.cls := by rw [hvm]; exact hown
  have hins : (Cond.instantiable cls 6).before args s' = true := h _ (by simp [Bundle.ownAtoms])
  obtain ⟨vm₁, cX, kX, hfX, hkX, -, -, X₁, st1⟩ := Y.newCold hexec (own := own) (C := cls) (index := ik) (n := 6) hown' hk' hins hini'
    (g := F0 m pc ls rest) rfl (by rw [hb]; exact d0) (Nat.le_refl _) (Nat.le_refl _)
  generalize hT1 : (T.setVm vm₁).pushCell { cls := cX, slots := kX.instanceTypes.map defaultValue, vm := .none } = T1 at X₁ st1
  have hcat : (Value.ref T.heap.size).category = 1 := rfl
  have hcellA : T1.heap[T.heap.size]? = some (freshCell cX kX) := by rw [← hT1]; exact State.heap_pushCell_size _ _
  have d3' : decode c.code (pc + 3) = .ok (.dup, 1) := by rw [hb]; exact d3
  have d4' : decode c.code (pc + 4) = .ok (.ldc is, 2) := by rw [hb]; exact d4
  have hstr' : vk_R own is text sa s' := vk_R.warm hW0 hstr
  obtain ⟨V, ce, L, Z, hL, hlt, hcl9, hvm9, st⟩ := vx_ctorMadeS X₁ hexec htr (own := own) (cls := cls) (names := names) (ic := ic) hown' hcls hnames h (fun x hx => nomatch hx) hfX hkX hcellA (by rw [hhp]; exact Nat.le_refl _) (msg := .ref sa) rfl
    (g := { method := m, pc := pc + 6, locals := ls, stack := .ref sa :: .ref T.heap.size :: .ref T.heap.size :: rest, locked := none }) rfl hsize (rest := rest) rfl
    (by rw [hb]; exact d6) hRframes (by simp only [List.map_cons, List.sum_cons, hcat]; omega)
  have Z0 := Stand.forget (locs := []) Z (fun y hy => by rw [hL y hy, hhp]; exact Nat.le_refl _)
  obtain ⟨f1, f2⟩ := vx_frame Z0.same
  rw [hhp] at f1 f2
  have hcid : ce.cls = D.1 ci := by
    rw [hcl9]
    have h1 := (hK.1 ci _ hc).2.1
    rw [hvm] at hfX
    exact Option.some.inj (hfX.symm.trans h1)
  have hh : (V.setCell T.heap.size ce).heap[T.heap.size]? = some ce := heapAt_setCell_self (s := V) ce hlt
  subst hA'
  have X5 := vx_back9 X Y Z0
  have X6 : Stand p l e R s m args below meth c (V.setCell T.heap.size ce) locs (cells + 1) (slots + 6) := { X5 with same := X5.same.mono (by omega) (by omega) }
  have hk9 : ∀ (k : Nat) (x : Nat × va_E), ws[k]? = some x → (V.setCell T.heap.size ce).heap[x.1]? = T.heap[x.1]? := fun k x hx => f2 x.1 ((hP k x hx).lt) (fun z hz => nomatch hz)
  obtain ⟨t, a1, b1⟩ := kk T.heap.size (V.setCell T.heap.size ce).heap ((hP.kept hk9).app (fun k x hx => by
      have hz : k < 1 := (List.getElem?_eq_some_iff.mp hx).1
      rw [show k = 0 by omega] at hx
      cases hx
      exact ⟨_, hc, ce, hh, hcid, hvm9, fun k hk => absurd hk (Nat.not_lt_zero k)⟩)) (hD.push hP rfl (hA _ hS.1)) ⟨Nat.le_trans hS.1 f1, fun q h1 h2 => (f2 q (Nat.lt_of_lt_of_le h1 hS.1) (fun z hz => nomatch hz)).trans (hS.2.1 q h1 h2), hS.2.2⟩ _ rfl X6
  refine ⟨t, st1 _ ?_, b1⟩
  show Steps p.tables e below (T1.setTop { method := m, pc := pc + 3, locals := ls, stack := .ref T.heap.size :: rest, locked := none }) _
  jvm_step X₁.here [X₁.here.top, hexec, d3', Value.category]
  exact X₁.ldcString hexec (own := own) (text := text) (index := is) (a := sa) hown' hstr'.1 hstr'.2
    (g := { method := m, pc := pc + 4, locals := ls, stack := .ref T.heap.size :: .ref T.heap.size :: rest, locked := none }) rfl d4' _ (st _ a1)
/-- 'new E()' that isn't thrown at once: the object goes on the stack -/
theorem vx_make0 {cc : ByteArray} {pc : Nat} (hexec : p.tables.exec = Jvm.exec) (hb : c.code = cc) (hl : l.stackTraces = false) {own cls : String} {names : List String} {ik ic ci : Nat} {A : Nat → Prop} {T0 : u_T}
    (hown : s.vm.findClass own = some m.cls) (hcls : Bundle.fit cls = true) (hnames : ∀ n ∈ names, Bundle.fit n = true)
    (hk : (Cond.classLink own ik cls).before args s = true) (hini : (Cond.initialized cls).before args s = true) (hat : ∀ w ∈ vx_at0 own ic cls names, w.before args s = true)
    (hgood : ∀ w ∈ Cond.classLink own ik cls :: Cond.initialized cls :: vx_at0 own ic cls names, vx_ot w = true)
    (hU : vx_Zq Bundle.tN "UNASSIGNED_STACK" Bundle.steD A s s.heap) (hN : vx_Zq Bundle.tN "SUPPRESSED_SENTINEL" Bundle.listD A s s.heap) (hS : va_S A s.heap H locs) (hsize : ls.size = c.maxLocals)
    (d0 : decode cc pc = .ok (.new ik, 3)) (d3 : decode cc (pc + 3) = .ok (.dup, 1)) (d4 : decode cc (pc + 4) = .ok (.invokespecial ic, 3))
    (hK : va_K D cl tys s) (hP : va_P D cl ws H) (hD : va_D A ws) (hA : ∀ q, s.heap.size ≤ q → A q) (hc : cl[ci]? = some (cls, T0, 0))
    (hRframes : names.length + 3 < R.frames) (hRlocals : (rest.map fun v => v.category).sum + (13 * (names.length + 1) + 42) ≤ R.locals) (hRcells : cells + 1 ≤ R.cells) (hRslots : slots + 6 ≤ R.slots)
    (kk : ∀ (q : Nat) (H1 : Heap), va_P D cl (ws ++ [(q, .inr (ci, []))]) H1 → va_D A (ws ++ [(q, .inr (ci, []))]) → va_S A s.heap H1 locs → W p l e R s m args below meth c H1 locs (cells + 1) (slots + 6) Q (F0 m (pc + 7) ls (.ref q :: rest))) :
    W p l e R s m args below meth c H locs cells slots Q (F0 m pc ls rest) := by
  intro T hT X
  subst hT
  have htr : e.platform.stackTraces = false := (show e.platform.stackTraces = l.stackTraces by rw [X.admits.platform]).trans hl
  have Y := vx_rebase X (R' := { frames := R.frames, locals := R.locals, cells := 1, slots := 6 }) (Nat.le_refl _) (Nat.le_refl _) hRcells hRslots
  obtain ⟨s', hA'⟩ : ∃ z, z = (T.setVm s.vm).setFrames (.invoking m args :: below) := ⟨_, rfl⟩
  rw [← hA'] at Y
  have hvm : s'.vm = s.vm := by rw [hA']; rfl
  have hhp : s'.heap = T.heap := by rw [hA']; rfl
  have hW0 : s.WarmedH s'.vm := by rw [hvm]; exact State.WarmedH.refl s
  have hat' : ∀ w ∈ vx_at0 own ic cls names, w.before args s' = true := fun w hw => vx_ot_at hW0 hvm.symm (hgood w (List.mem_cons_of_mem _ (List.mem_cons_of_mem _ hw))) (hat w hw)
  have hk' : (Cond.classLink own ik cls).before args s' = true := vx_ot_at hW0 hvm.symm (hgood _ List.mem_cons_self) hk
  have hini' : (Cond.initialized cls).before args s' = true := vx_ot_at hW0 hvm.symm (hgood _ (List.mem_cons_of_mem _ List.mem_cons_self)) hini
  have hU' : vx_Zq Bundle.tN "UNASSIGNED_STACK" Bundle.steD A s' s'.heap := by rw [hhp]; exact vx_Zq.moved hW0.alike (hU.kept hS.2.1)
  have hN' : vx_Zq Bundle.tN "SUPPRESSED_SENTINEL" Bundle.listD A s' s'.heap := by rw [hhp]; exact vx_Zq.moved hW0.alike (hN.kept hS.2.1)
  have h : ∀ w ∈ Bundle.ownAtoms0 own ic cls names, w.before args s' = true := vx_own hat' (vx_isRefq hU'.1) (vx_isRefq hN'.1) hU'.2.word hN'.2.word
  have hown' : s'.vm.findClass own = some m.cls := by rw [hvm]; exact hown
  have hins : (Cond.instantiable cls 6).before args s' = true := h _ (by simp [Bundle.ownAtoms0])
  obtain ⟨vm₁, cX, kX, hfX, hkX, -, -, X₁, st1⟩ := Y.newCold hexec (own := own) (C := cls) (index := ik) (n := 6) hown' hk' hins hini'
    (g := F0 m pc ls rest) rfl (by rw [hb]; exact d0) (Nat.le_refl _) (Nat.le_refl _)
  generalize hT1 : (T.setVm vm₁).pushCell { cls := cX, slots := kX.instanceTypes.map defaultValue, vm := .none } = T1 at X₁ st1
  have hcat : (Value.ref T.heap.size).category = 1 := rfl
  have hcellA : T1.heap[T.heap.size]? = some (freshCell cX kX) := by rw [← hT1]; exact State.heap_pushCell_size _ _
  have d3' : decode c.code (pc + 3) = .ok (.dup, 1) := by rw [hb]; exact d3
  obtain ⟨V, ce, L, Z, hL, hlt, hcl9, hvm9, st⟩ := vx_ctorMade0 X₁ hexec htr (own := own) (cls := cls) (names := names) (ic := ic) hown' hcls hnames h (fun x hx => nomatch hx) hfX hkX hcellA (by rw [hhp]; exact Nat.le_refl _)
    (g := { method := m, pc := pc + 4, locals := ls, stack := .ref T.heap.size :: .ref T.heap.size :: rest, locked := none }) rfl hsize (rest := rest) rfl
    (by rw [hb]; exact d4) hRframes (by simp only [List.map_cons, List.sum_cons, hcat]; omega)
  have Z0 := Stand.forget (locs := []) Z (fun y hy => by rw [hL y hy, hhp]; exact Nat.le_refl _)
  obtain ⟨f1, f2⟩ := vx_frame Z0.same
  rw [hhp] at f1 f2
  have hcid : ce.cls = D.1 ci := by
    rw [hcl9]
    have h1 := (hK.1 ci _ hc).2.1
    rw [hvm] at hfX
    exact Option.some.inj (hfX.symm.trans h1)
  have hh : (V.setCell T.heap.size ce).heap[T.heap.size]? = some ce := heapAt_setCell_self (s := V) ce hlt
  subst hA'
  have X5 := vx_back9 X Y Z0
  have X6 : Stand p l e R s m args below meth c (V.setCell T.heap.size ce) locs (cells + 1) (slots + 6) := { X5 with same := X5.same.mono (by omega) (by omega) }
  have hk9 : ∀ (k : Nat) (x : Nat × va_E), ws[k]? = some x → (V.setCell T.heap.size ce).heap[x.1]? = T.heap[x.1]? := fun k x hx => f2 x.1 ((hP k x hx).lt) (fun z hz => nomatch hz)
  obtain ⟨t, a1, b1⟩ := kk T.heap.size (V.setCell T.heap.size ce).heap ((hP.kept hk9).app (fun k x hx => by
      have hz : k < 1 := (List.getElem?_eq_some_iff.mp hx).1
      rw [show k = 0 by omega] at hx
      cases hx
      exact ⟨_, hc, ce, hh, hcid, hvm9, fun k hk => absurd hk (Nat.not_lt_zero k)⟩)) (hD.push hP rfl (hA _ hS.1)) ⟨Nat.le_trans hS.1 f1, fun q h1 h2 => (f2 q (Nat.lt_of_lt_of_le h1 hS.1) (fun z hz => nomatch hz)).trans (hS.2.1 q h1 h2), hS.2.2⟩ _ rfl X6
  refine ⟨t, st1 _ ?_, b1⟩
  show Steps p.tables e below (T1.setTop { method := m, pc := pc + 3, locals := ls, stack := .ref T.heap.size :: rest, locked := none }) _
  jvm_step X₁.here [X₁.here.top, hexec, d3', Value.category]
  exact st _ a1
/-- 'throw x' of an object that was made before -/
theorem vx_athrow {cc : ByteArray} {pc : Nat} (hexec : p.tables.exec = Jvm.exec) (hb : c.code = cc) {q : Addr} (hdg : decode cc pc = .ok (.athrow, 1)) (k : vx_W p l e R s m args below meth c H locs cells slots Q (F0 m pc ls rest) q) : W p l e R s m args below meth c H locs cells slots Q (F0 m pc ls (.ref q :: rest)) := by
  intro T hT X
  obtain ⟨t, st, hq⟩ := k T hT X
  refine ⟨t, ?_, hq⟩
  have hdg' : decode c.code pc = .ok (.athrow, 1) := by rw [hb]; exact hdg
  jvm_step X.here [X.here.top, hexec, hdg', athrow.wp_sem]
  exact st
end VXK2
/-! ===== END ===== -/
/-! ===== BEGIN a constructor that throws (launches without stack traces) ===== -/
section VXIA
variable {p : Program} {l : Launch} {e : Env} {R : Room} {s : State} {m : MethodId} {args : Array Value} {below : List Frame} {meth : Method} {c : Code} {T : State} {locs : List Loc} {cells slots : Nat}
theorem vx_callI (X : Stand p l e R s m args below meth c T locs cells slots) (hexec : p.tables.exec = Jvm.exec) {own : String} {index : Nat} {y : MethodName} {bytes : ByteArray} {maxL : Nat}
    (hown : s.vm.findClass own = some m.cls) (hy1 : y.name = "<init>") (hlink : (Cond.methodLink own index y).before args s = true) (hinst : (Cond.instanceMethod y).before args s = true)
    (hcode : (Cond.code y bytes maxL none).before args s = true) (hy : y.cls ≠ "java/lang/invoke/MethodHandle" ∧ y.cls ≠ "java/lang/invoke/VarHandle")
    {W9 : Nat} {Pre : Pt → Array Value → Prop} {Post : Pt → Array Value → Option Value → Pt → Prop} {PostX : Pt → Array Value → Addr → Pt → Prop} (hK : vx_Back l R p e below s args y 3 W9 Pre Post PostX)
    {g : JFrame} (hg : g.method = m) (hsize : g.locals.size = c.maxLocals) {a : Addr} {argsL rest : List Value} (hlen : ∀ sig, parseMethodDescriptor y.desc = some sig → argsL.length = sig.parameters.length)
    (hstack : g.stack = argsL.reverse ++ .ref a :: rest) (hW : 2 * g.monitorRoom + (rest.map fun v => v.category).sum ≤ W9) (hdg : decode c.code g.pc = .ok (.invokespecial index, 3))
    (hpre : ∀ vm₁, s.WarmedH vm₁ → Pre ⟨T.setVm vm₁, locs, cells, slots⟩ (Value.ref a :: argsL).toArray) :
    (∃ (v : Option Value) (vm₁ : Vm) (B : Pt), s.WarmedH vm₁ ∧ Stand p l e R s m args below meth c B.U B.locs B.cells B.slots ∧ Post ⟨T.setVm vm₁, locs, cells, slots⟩ (Value.ref a :: argsL).toArray v B ∧
      ∀ target, Steps p.tables e below (B.U.setTop { g with pc := g.pc + 3, stack := v.toList ++ rest }) target → Steps p.tables e below (T.setTop g) target) ∨
    (∃ (q : Addr) (vm₁ : Vm) (B : Pt), s.WarmedH vm₁ ∧ Stand p l e R s m args below meth c B.U B.locs B.cells B.slots ∧ PostX ⟨T.setVm vm₁, locs, cells, slots⟩ (Value.ref a :: argsL).toArray q B ∧
      Steps p.tables e below (T.setTop g) ((B.U.setTop { g with stack := rest }).pushFrame (.throwing q))) := by
  subst hg
  have hpl : e.platform.magicAccessors = ({} : Platform).magicAccessors := by rw [X.admits.platform]
  obtain ⟨mk, methM, cM, kP, vm₁, hnamed, hmethM, hcodeM, -, hlocalsM, -, hkP, -, hW₁, hstep₁⟩ := Steps.initColdArgs (e := e) X.here hexec X.warmed hpl hown hy1 hy hlink hinst hcode (f := g) rfl hlen hstack hdg
  have X₁ := X.noted hW₁
  rcases hK g.method meth c ⟨T.setVm vm₁, locs, cells, slots⟩ { g with stack := rest } (.invokespecial index) mk (Value.ref a :: argsL).toArray X₁ rfl hsize hdg hW (X₁.named hnamed) (hpre vm₁ X₁.warmed) with ⟨v, B, X', hpost, hsteps⟩ | ⟨q, B, X', hpost, hsteps⟩
  · exact Or.inl ⟨v, vm₁, B, X₁.warmed, X', hpost, fun target h => hstep₁ _ fun acts => by rw [doInvoke_state]; exact hsteps.trans h⟩
  · exact Or.inr ⟨q, vm₁, B, X₁.warmed, X', hpost, hstep₁ _ fun acts => by rw [doInvoke_state]; exact hsteps⟩
end VXIA
section VXIB
variable {p : Program} {l : Launch} {e : Env} {R : Room} {s : State} {m : MethodId} {args : Array Value} {below : List Frame} {meth : Method} {c : Code} {H : Heap} {locs : List Loc} {cells slots : Nat}
variable {y : MethodName} {bytes cc : ByteArray} {maxL nL mc ms n index : Nat} {ret : Option FieldType} {ws : List Cond} {rm : Room} {Pc : Array Value → State → Prop} {Qc : Array Value → State → Outcome → State → Prop} {XC : String → State → State → Prop} {free : Addr → Prop} {Ts : List Cond} {own C : String} {b : Addr} {As rest : List Value} {g : JFrame}
theorem vx_runI (S : CallFix p m c cc nL s args Ts own) (hM : vx_Met l y ws rm Pc Qc XC mc ms free) (cw : CallB R s args own index y bytes maxL none ws rm mc ms n ∧ y.name = "<init>" ∧ (Cond.instanceMethod y).before args s = true) (hp : PreS s H Pc (.ref b :: As))
    (hg : g.method = m) (hn : As.length = n) (hsize : g.locals.size = nL) (hstack : g.stack = As.reverse ++ .ref b :: rest) (hW : 2 * g.monitorRoom + (rest.map fun v => v.category).sum ≤ 8) (hdg : decode cc g.pc = .ok (.invokespecial index, 3)) (hf : cells + mc ≤ R.cells ∧ slots + ms ≤ R.slots) :
    vx_Run p l e R s m args below meth c H locs cells slots mc ms g rest (Qc (Value.ref b :: As).toArray) XC free := by
  have hK : vx_Back l R p e below s args y 3 8 (PreOf R mc ms Pc) (PostOf Qc mc ms free) (vx_Post XC mc ms free) := vx_callBack cw.1 hM hp.1
  obtain ⟨⟨-, -, -, -, -, -, hcode, -, hy, hlen, hl⟩, hy1, hin⟩ := cw
  obtain ⟨hx, hb, hml, ho, -⟩ := S
  have hPc := hp.2
  intro T hT X
  rcases vx_callI X hx (bytes := bytes) (maxL := maxL) ho hy1 hl hin hcode hy hK hg (hsize.trans hml.symm) (a := b) (argsL := As) (rest := rest) (fun sig h => hn.trans (hlen sig h)) hstack hW (by rw [hb]; exact hdg)
    (fun vm₁ hW₁ => ⟨hf.1, hf.2, hPc (T.setVm vm₁) hT hW₁⟩) with ⟨v, vm₁, ⟨U', l2, c2, s2⟩, hW₁, X', ⟨g', mk, t, L, e1, e2, hq, h1, hL, h2, h3⟩, st⟩ | ⟨q, vm₁, ⟨U', l2, c2, s2⟩, hW₁, X', ⟨g', mk, t, L, E, ce, e1, e2, hq, hce, hcv, hcl, h1, hL, h2, h3⟩, st⟩
  · dsimp only [Pt.U, Pt.locs, Pt.cells, Pt.slots] at X' e1 e2 h1 h2 h3 st
    subst h1; subst h2; subst h3
    exact Or.inl ⟨v, (T.setVm vm₁).calling g' mk (Value.ref b :: As).toArray, t, U', L, hT, X', hL, e1, e2, hq, st⟩
  · dsimp only [Pt.U, Pt.locs, Pt.cells, Pt.slots] at X' e1 e2 h1 h2 h3 st hcl
    subst h1; subst h2; subst h3
    exact Or.inr ⟨q, (T.setVm vm₁).calling g' mk (Value.ref b :: As).toArray, t, U', L, E, ce, hT, X', hL, e1, e2, hq, hce, hcv, vx_cls hW₁ hcl, st⟩
end VXIB
/-! ===== END ===== -/
/-! ===== BEGIN a private constructor of a nest mate that throws ===== -/
section VXIC
variable {p : Program} {l : Launch} {e : Env} {R : Room} {s : State} {m : MethodId} {args : Array Value} {below : List Frame} {meth : Method} {c : Code} {T : State} {locs : List Loc} {cells slots : Nat}
theorem vx_callIN (X : Stand p l e R s m args below meth c T locs cells slots) (hexec : p.tables.exec = Jvm.exec) {own : String} {index : Nat} {host : String} {y : MethodName} {bytes : ByteArray} {maxL : Nat}
    (hown : s.vm.findClass own = some m.cls) (hy1 : y.name = "<init>") (hlink : (Cond.methodLinkNest own index y host).before args s = true) (hinst : (Cond.instanceMethod y).before args s = true)
    (hcode : (Cond.code y bytes maxL none).before args s = true) (hy : y.cls ≠ "java/lang/invoke/MethodHandle" ∧ y.cls ≠ "java/lang/invoke/VarHandle")
    {W9 : Nat} {Pre : Pt → Array Value → Prop} {Post : Pt → Array Value → Option Value → Pt → Prop} {PostX : Pt → Array Value → Addr → Pt → Prop} (hK : vx_Back l R p e below s args y 3 W9 Pre Post PostX)
    {g : JFrame} (hg : g.method = m) (hsize : g.locals.size = c.maxLocals) {a : Addr} {argsL rest : List Value} (hlen : ∀ sig, parseMethodDescriptor y.desc = some sig → argsL.length = sig.parameters.length)
    (hstack : g.stack = argsL.reverse ++ .ref a :: rest) (hW : 2 * g.monitorRoom + (rest.map fun v => v.category).sum ≤ W9) (hdg : decode c.code g.pc = .ok (.invokespecial index, 3))
    (hpre : ∀ vm₁, s.WarmedH vm₁ → Pre ⟨T.setVm vm₁, locs, cells, slots⟩ (Value.ref a :: argsL).toArray) :
    (∃ (v : Option Value) (vm₁ : Vm) (B : Pt), s.WarmedH vm₁ ∧ Stand p l e R s m args below meth c B.U B.locs B.cells B.slots ∧ Post ⟨T.setVm vm₁, locs, cells, slots⟩ (Value.ref a :: argsL).toArray v B ∧
      ∀ target, Steps p.tables e below (B.U.setTop { g with pc := g.pc + 3, stack := v.toList ++ rest }) target → Steps p.tables e below (T.setTop g) target) ∨
    (∃ (q : Addr) (vm₁ : Vm) (B : Pt), s.WarmedH vm₁ ∧ Stand p l e R s m args below meth c B.U B.locs B.cells B.slots ∧ PostX ⟨T.setVm vm₁, locs, cells, slots⟩ (Value.ref a :: argsL).toArray q B ∧
      Steps p.tables e below (T.setTop g) ((B.U.setTop { g with stack := rest }).pushFrame (.throwing q))) := by
  subst hg
  have hpl : e.platform.magicAccessors = ({} : Platform).magicAccessors := by rw [X.admits.platform]
  obtain ⟨mk, methM, cM, kP, vm₁, hnamed, hmethM, hcodeM, -, hlocalsM, -, hkP, -, hW₁, hstep₁⟩ := Steps.initColdArgsNest (e := e) X.here hexec X.warmed hpl hown hy1 hy hlink hinst hcode (f := g) rfl hlen hstack hdg
  have X₁ := X.noted hW₁
  rcases hK g.method meth c ⟨T.setVm vm₁, locs, cells, slots⟩ { g with stack := rest } (.invokespecial index) mk (Value.ref a :: argsL).toArray X₁ rfl hsize hdg hW (X₁.named hnamed) (hpre vm₁ X₁.warmed) with ⟨v, B, X', hpost, hsteps⟩ | ⟨q, B, X', hpost, hsteps⟩
  · exact Or.inl ⟨v, vm₁, B, X₁.warmed, X', hpost, fun target h => hstep₁ _ fun acts => by rw [doInvoke_state]; exact hsteps.trans h⟩
  · exact Or.inr ⟨q, vm₁, B, X₁.warmed, X', hpost, hstep₁ _ fun acts => by rw [doInvoke_state]; exact hsteps⟩
end VXIC
section VXID
variable {p : Program} {l : Launch} {e : Env} {R : Room} {s : State} {m : MethodId} {args : Array Value} {below : List Frame} {meth : Method} {c : Code} {H : Heap} {locs : List Loc} {cells slots : Nat}
theorem vx_runIN {y : MethodName} {bytes cc : ByteArray} {maxL nL mc ms n index : Nat} {ws : List Cond} {rm : Room} {Pc : Array Value → State → Prop} {Qc : Array Value → State → Outcome → State → Prop} {XC : String → State → State → Prop} {free : Addr → Prop} {Ts : List Cond} {own host : String} {b : Addr} {As rest : List Value} {g : JFrame}
    (S : CallFix p m c cc nL s args Ts own) (hM : vx_Met l y ws rm Pc Qc XC mc ms free) (cw : va_CN R s args own index y host bytes maxL none ws rm mc ms n ∧ y.name = "<init>" ∧ (Cond.instanceMethod y).before args s = true) (hp : PreS s H Pc (.ref b :: As))
    (hg : g.method = m) (hn : As.length = n) (hsize : g.locals.size = nL) (hstack : g.stack = As.reverse ++ .ref b :: rest) (hW : 2 * g.monitorRoom + (rest.map fun v => v.category).sum ≤ 8) (hdg : decode cc g.pc = .ok (.invokespecial index, 3)) (hf : cells + mc ≤ R.cells ∧ slots + ms ≤ R.slots) :
    vx_Run p l e R s m args below meth c H locs cells slots mc ms g rest (Qc (Value.ref b :: As).toArray) XC free := by
  obtain ⟨⟨⟨hrc, hrs, hfr, hlo, hws, hcw⟩, hcode, hini, hy, hlen, hl⟩, hx1, hx2⟩ := cw
  have hK : vx_Back l R p e below s args y 3 8 (PreOf R mc ms Pc) (PostOf Qc mc ms free) (vx_Post XC mc ms free) := vx_back (bytes := bytes) (maxL := maxL) (ret := none) hM hp.1 hrc hrs hfr hlo hws hcw (fun a' U hW => word_at hW (Or.inl (by first | rfl | simp [Cond.onTables, Cond.keeps, Cond.steady])) hini)
  obtain ⟨hx, hb, hml, ho, -⟩ := S
  have hPc := hp.2
  intro T hT X
  rcases vx_callIN X hx (bytes := bytes) (maxL := maxL) ho hx1 hl hx2 hcode hy hK hg (hsize.trans hml.symm) (a := b) (argsL := As) (rest := rest) (fun sig h => hn.trans (hlen sig h)) hstack hW (by rw [hb]; exact hdg)
    (fun vm₁ hW₁ => ⟨hf.1, hf.2, hPc (T.setVm vm₁) hT hW₁⟩) with ⟨v, vm₁, ⟨U', l2, c2, s2⟩, hW₁, X', ⟨g', mk, t, L, e1, e2, hq, h1, hL, h2, h3⟩, st⟩ | ⟨q, vm₁, ⟨U', l2, c2, s2⟩, hW₁, X', ⟨g', mk, t, L, E, ce, e1, e2, hq, hce, hcv, hcl, h1, hL, h2, h3⟩, st⟩
  · dsimp only [Pt.U, Pt.locs, Pt.cells, Pt.slots] at X' e1 e2 h1 h2 h3 st
    subst h1; subst h2; subst h3
    exact Or.inl ⟨v, (T.setVm vm₁).calling g' mk (Value.ref b :: As).toArray, t, U', L, hT, X', hL, e1, e2, hq, st⟩
  · dsimp only [Pt.U, Pt.locs, Pt.cells, Pt.slots] at X' e1 e2 h1 h2 h3 st hcl
    subst h1; subst h2; subst h3
    exact Or.inr ⟨q, (T.setVm vm₁).calling g' mk (Value.ref b :: As).toArray, t, U', L, E, ce, hT, X', hL, e1, e2, hq, hce, hcv, vx_cls hW₁ hcl, st⟩
end VXID
/-! ===== END ===== -/
/-! ===== BEGIN a method of a class above, found by the receiver, that may throw (follows va_callVU, va_runU of this kit) ===== -/
section
variable {p : Program} {l : Launch} {e : Env} {R : Room} {s : State} {m : MethodId} {args : Array Value} {below : List Frame} {meth : Method} {c : Code} {H : Heap} {locs : List Loc} {cells slots : Nat}
theorem vx_callVU {T : State} {locs : List Loc} {cells slots : Nat} (X : Stand p l e R s m args below meth c T locs cells slots) (hexec : p.tables.exec = Jvm.exec) {own C owner : String} {index : Nat} {x y : MethodName} {bytes : ByteArray} {maxL : Nat} {ret : Option FieldType}
    (hown : s.vm.findClass own = some m.cls) (hlink : (Cond.methodLink own index x).before args s = true) (hsame : (Cond.sameMethod x.cls owner x.name x.desc).before args s = true)
    (hd0 : va_Decl s ⟨owner, x.name, x.desc⟩) (howner : owner ≠ "java/lang/invoke/MethodHandle" ∧ owner ≠ "java/lang/invoke/VarHandle")
    (hsel : (Cond.selects C x y).before args s = true) (hinst : (Cond.instanceMethod y).before args s = true) (hcode : (Cond.code y bytes maxL ret).before args s = true)
    {W : Nat} {Pre : Pt → Array Value → Prop} {Post : Pt → Array Value → Option Value → Pt → Prop} {PostX : Pt → Array Value → Addr → Pt → Prop} (hK : vx_Back l R p e below s args y 3 W Pre Post PostX)
    {b : Addr} {cellB : Cell} (hcell : T.heap[b]? = some cellB) (hobj : cellB.vm.isStatics = false) (hcls : s.vm.findClass C = some cellB.cls)
    {g : JFrame} (hg : g.method = m) (hsize : g.locals.size = c.maxLocals) {argsL rest : List Value} (hlen : ∀ sig, parseMethodDescriptor x.desc = some sig → argsL.length = sig.parameters.length)
    (hstack : g.stack = argsL.reverse ++ .ref b :: rest) (hW : 2 * g.monitorRoom + (rest.map fun v => v.category).sum ≤ W) (hdg : decode c.code g.pc = .ok (.invokevirtual index, 3))
    (hpre : ∀ vm₁, s.WarmedH vm₁ → Pre ⟨T.setVm vm₁, locs, cells, slots⟩ (Value.ref b :: argsL).toArray) :
    (∃ (v : Option Value) (vm₁ : Vm) (B : Pt), s.WarmedH vm₁ ∧ Stand p l e R s m args below meth c B.U B.locs B.cells B.slots ∧ Post ⟨T.setVm vm₁, locs, cells, slots⟩ (Value.ref b :: argsL).toArray v B ∧
      ∀ target, Steps p.tables e below (B.U.setTop { g with pc := g.pc + 3, stack := v.toList ++ rest }) target → Steps p.tables e below (T.setTop g) target) ∨
    (∃ (q : Addr) (vm₁ : Vm) (B : Pt), s.WarmedH vm₁ ∧ Stand p l e R s m args below meth c B.U B.locs B.cells B.slots ∧ PostX ⟨T.setVm vm₁, locs, cells, slots⟩ (Value.ref b :: argsL).toArray q B ∧
      Steps p.tables e below (T.setTop g) ((B.U.setTop { g with stack := rest }).pushFrame (.throwing q))) := by
  obtain ⟨r0, r, hn, hrm, hstR, hsigR⟩ := hd0
  obtain ⟨cn, ck, r1, hcn, hck, hni, hf, hn1⟩ := Cond.sameMethod_found hsame
  cases hn.symm.trans hn1
  obtain ⟨mk, methM, hnamed, hmethM, -, habM⟩ := Cond.instanceMethod_spec hinst
  obtain ⟨c2, r2, m2, q1, q2, q3, q4, kP, hkP, hkPi⟩ := Cond.selects_spec hsel
  cases hcls.symm.trans q1
  cases hf.symm.trans q2
  cases hnamed.symm.trans q3
  have hselP : selectMethod e.platform s.vm cellB.cls r0 = .method mk := by rw [Launch.admits_selectMethod X.admits]; exact q4
  obtain ⟨vm₁, X₁, hstep₁⟩ := X.invokevirtualUp hexec hown hlink hsame howner hn hrm hstR (a := b) (cell := cellB) hcell
    (fun z h => by rw [h] at hobj; cases hobj) hselP hmethM habM hkP hkPi (g := g) hg (argsL := argsL) (rest := rest) (hlen _ hsigR) hstack hdg
  rcases hK m meth c ⟨T.setVm vm₁, locs, cells, slots⟩ { g with stack := rest } (.invokevirtual index) mk (Value.ref b :: argsL).toArray X₁ hg hsize hdg hW (X₁.named hnamed) (hpre vm₁ X₁.warmed) with ⟨v, B, X', hpost, hsteps⟩ | ⟨q, B, X', hpost, hsteps⟩
  · exact Or.inl ⟨v, vm₁, B, X₁.warmed, X', hpost, fun target h => hstep₁ _ fun acts => by rw [doInvoke_state]; exact hsteps.trans h⟩
  · exact Or.inr ⟨q, vm₁, B, X₁.warmed, X', hpost, hstep₁ _ fun acts => by rw [doInvoke_state]; exact hsteps⟩
theorem vx_runU {x y : MethodName} {bytes cc : ByteArray} {maxL nL mc ms n index : Nat} {ret : Option FieldType} {ws : List Cond} {rm : Room} {Pc : Array Value → State → Prop} {Qc : Array Value → State → Outcome → State → Prop} {XC : String → State → State → Prop} {free : Addr → Prop} {Ts : List Cond} {own C owner : String} {b : Addr} {As rest : List Value} {g : JFrame}
    (S : CallFix p m c cc nL s args Ts own) (hM : vx_Met l y ws rm Pc Qc XC mc ms free) (cw : va_CU R s args own C owner index x y bytes maxL ret ws rm mc ms n) (hp : PreV s H C b Pc As)
    (hg : g.method = m) (hn : As.length = n) (hsize : g.locals.size = nL) (hstack : g.stack = As.reverse ++ .ref b :: rest) (hW : 2 * g.monitorRoom + (rest.map fun v => v.category).sum ≤ 8) (hdg : decode cc g.pc = .ok (.invokevirtual index, 3)) (hf : cells + mc ≤ R.cells ∧ slots + ms ≤ R.slots) :
    vx_Run p l e R s m args below meth c H locs cells slots mc ms g rest (Qc (Value.ref b :: As).toArray) XC free := by
  obtain ⟨hrc, hrs, hfr, hlo, hws, hcw⟩ := cw.back
  have hini := cw.init
  have hK : vx_Back l R p e below s args y 3 8 (PreOf R mc ms Pc) (PostOf Qc mc ms free) (vx_Post XC mc ms free) := vx_back (bytes := bytes) (maxL := maxL) (ret := ret) hM hp.1 hrc hrs hfr hlo hws hcw (fun a' U hW => word_at hW (Or.inl (by first | rfl | simp [Cond.onTables, Cond.keeps, Cond.steady])) hini)
  obtain ⟨hx, hb, hml, ho, -⟩ := S
  obtain ⟨-, ⟨cellB, hcB, hoB, hclB⟩, hPc⟩ := hp
  intro T hT X
  rcases vx_callVU X hx (C := C) (owner := owner) (bytes := bytes) (maxL := maxL) (ret := ret) ho cw.link cw.same cw.decl cw.notMH cw.sel cw.inst cw.code hK (by rw [hT]; exact hcB) hoB hclB hg (hsize.trans hml.symm) (argsL := As) (rest := rest) (fun sig h => hn.trans (cw.len sig h)) hstack hW (by rw [hb]; exact hdg)
    (fun vm₁ hW₁ => ⟨hf.1, hf.2, hPc (T.setVm vm₁) hT hW₁⟩) with ⟨v, vm₁, ⟨U', l2, c2, s2⟩, hW₁, X', ⟨g', mk, t, L, e1, e2, hq, h1, hL, h2, h3⟩, st⟩ | ⟨q, vm₁, ⟨U', l2, c2, s2⟩, hW₁, X', ⟨g', mk, t, L, E, ce, e1, e2, hq, hce, hcv, hcl, h1, hL, h2, h3⟩, st⟩
  · dsimp only [Pt.U, Pt.locs, Pt.cells, Pt.slots] at X' e1 e2 h1 h2 h3 st
    subst h1; subst h2; subst h3
    exact Or.inl ⟨v, (T.setVm vm₁).calling g' mk (Value.ref b :: As).toArray, t, U', L, hT, X', hL, e1, e2, hq, st⟩
  · dsimp only [Pt.U, Pt.locs, Pt.cells, Pt.slots] at X' e1 e2 h1 h2 h3 st hcl
    subst h1; subst h2; subst h3
    exact Or.inr ⟨q, (T.setVm vm₁).calling g' mk (Value.ref b :: As).toArray, t, U', L, E, ce, hT, X', hL, e1, e2, hq, hce, hcv, vx_cls hW₁ hcl, st⟩
end
/-! ===== END ===== -/
/-! ===== BEGIN super.m(..) that may throw (follows va_callSU, va_runSU) ===== -/
section
variable {p : Program} {l : Launch} {e : Env} {R : Room} {s : State} {m : MethodId} {args : Array Value} {below : List Frame} {meth : Method} {c : Code} {H : Heap} {locs : List Loc} {cells slots : Nat}
theorem vx_callSU {T : State} {locs : List Loc} {cells slots : Nat} (X : Stand p l e R s m args below meth c T locs cells slots) (hexec : p.tables.exec = Jvm.exec) {own : String} {index : Nat} {y : MethodName} {bytes : ByteArray} {maxL : Nat} {ret : Option FieldType}
    (hown : s.vm.findClass own = some m.cls) (hlink : (Cond.methodLink own index y).before args s = true) (hsame : (Cond.sameMethod y.cls y.cls y.name y.desc).before args s = true) (hsup : (Cond.superclass own y.cls).before args s = true)
    (hinst : (Cond.instanceMethod y).before args s = true) (hcode : (Cond.code y bytes maxL ret).before args s = true) (hno : y.name ≠ "<init>")
    {W : Nat} {Pre : Pt → Array Value → Prop} {Post : Pt → Array Value → Option Value → Pt → Prop} {PostX : Pt → Array Value → Addr → Pt → Prop} (hK : vx_Back l R p e below s args y 3 W Pre Post PostX)
    {b : Addr} {cellB : Cell} {kB : Class} (hcell : T.heap[b]? = some cellB) (hobj : cellB.vm.isStatics = false) (hkB : s.vm.classes[cellB.cls]? = some kB)
    {g : JFrame} (hg : g.method = m) (hsize : g.locals.size = c.maxLocals) {argsL rest : List Value} (hlen : ∀ sig, parseMethodDescriptor y.desc = some sig → argsL.length = sig.parameters.length)
    (hstack : g.stack = argsL.reverse ++ .ref b :: rest) (hW : 2 * g.monitorRoom + (rest.map fun v => v.category).sum ≤ W) (hdg : decode c.code g.pc = .ok (.invokespecial index, 3))
    (hpre : ∀ vm₁, s.WarmedH vm₁ → Pre ⟨T.setVm vm₁, locs, cells, slots⟩ (Value.ref b :: argsL).toArray) :
    (∃ (v : Option Value) (vm₁ : Vm) (B : Pt), s.WarmedH vm₁ ∧ Stand p l e R s m args below meth c B.U B.locs B.cells B.slots ∧ Post ⟨T.setVm vm₁, locs, cells, slots⟩ (Value.ref b :: argsL).toArray v B ∧
      ∀ target, Steps p.tables e below (B.U.setTop { g with pc := g.pc + 3, stack := v.toList ++ rest }) target → Steps p.tables e below (T.setTop g) target) ∨
    (∃ (q : Addr) (vm₁ : Vm) (B : Pt), s.WarmedH vm₁ ∧ Stand p l e R s m args below meth c B.U B.locs B.cells B.slots ∧ PostX ⟨T.setVm vm₁, locs, cells, slots⟩ (Value.ref b :: argsL).toArray q B ∧
      Steps p.tables e below (T.setTop g) ((B.U.setTop { g with stack := rest }).pushFrame (.throwing q))) := by
  obtain ⟨mk, methM, hnamed, hmethM, hstM, habM⟩ := Cond.instanceMethod_spec hinst
  obtain ⟨methM', cM, hmethM', -, -, -, -, -, -, hsigM⟩ := Cond.code_spec hnamed hcode
  cases hmethM.symm.trans hmethM'
  obtain ⟨ps, dk, kp, hps, hdk, hkp, hsuper, -, -, hnid⟩ := Cond.superclass_spec hown hsup
  have hn : s.methodNamed? ⟨y.cls, y.name, y.desc⟩ = some mk := hnamed
  have hpm : ps = mk.cls := Option.some.inj (hps.symm.trans (findClass_of_methodNamed hnamed))
  have hsub : s.vm.isSubclass ps mk.cls = true := by rw [hpm]; simp [Vm.isSubclass, Vm.isSubclassAux]
  obtain ⟨vm₁, X₁, hstep₁⟩ := X.invokespecialUp hexec hown hlink hsame hn hmethM hstM habM hno hdk hnid hps hsuper hsub (a := b) (cell := cellB) hcell
    (fun z h => by rw [h] at hobj; cases hobj) hkB (g := g) hg (argsL := argsL) (rest := rest) (hlen _ hsigM) hstack hdg
  rcases hK m meth c ⟨T.setVm vm₁, locs, cells, slots⟩ { g with stack := rest } (.invokespecial index) mk (Value.ref b :: argsL).toArray X₁ hg hsize hdg hW (X₁.named hnamed) (hpre vm₁ X₁.warmed) with ⟨v, B, X', hpost, hsteps⟩ | ⟨q, B, X', hpost, hsteps⟩
  · exact Or.inl ⟨v, vm₁, B, X₁.warmed, X', hpost, fun target h => hstep₁ _ (by rw [doInvoke_state]; exact hsteps.trans h)⟩
  · exact Or.inr ⟨q, vm₁, B, X₁.warmed, X', hpost, hstep₁ _ (by rw [doInvoke_state]; exact hsteps)⟩
theorem vx_runSU {y : MethodName} {bytes cc : ByteArray} {maxL nL mc ms n index : Nat} {ret : Option FieldType} {ws : List Cond} {rm : Room} {Pc : Array Value → State → Prop} {Qc : Array Value → State → Outcome → State → Prop} {XC : String → State → State → Prop} {free : Addr → Prop} {Ts : List Cond} {own C : String} {cC : ClassId} {b : Addr} {As rest : List Value} {g : JFrame}
    (hat : ClassAt s C cC) (S : CallFix p m c cc nL s args Ts own) (hM : vx_Met l y ws rm Pc Qc XC mc ms free) (cw : va_CS R s args own index y bytes maxL ret ws rm mc ms n) (hp : PreV s H C b Pc As)
    (hg : g.method = m) (hn : As.length = n) (hsize : g.locals.size = nL) (hstack : g.stack = As.reverse ++ .ref b :: rest) (hW : 2 * g.monitorRoom + (rest.map fun v => v.category).sum ≤ 8) (hdg : decode cc g.pc = .ok (.invokespecial index, 3)) (hf : cells + mc ≤ R.cells ∧ slots + ms ≤ R.slots) :
    vx_Run p l e R s m args below meth c H locs cells slots mc ms g rest (Qc (Value.ref b :: As).toArray) XC free := by
  obtain ⟨⟨hrc, hrs, hfr, hlo, hws, hcw⟩, hl1, hl2, hl3, hl4, hini, hcode, hno, hlen⟩ := cw
  have hK : vx_Back l R p e below s args y 3 8 (PreOf R mc ms Pc) (PostOf Qc mc ms free) (vx_Post XC mc ms free) := vx_back (bytes := bytes) (maxL := maxL) (ret := ret) hM hp.1 hrc hrs hfr hlo hws hcw (fun a' U hW => word_at hW (Or.inl (by first | rfl | simp [Cond.onTables, Cond.keeps, Cond.steady])) hini)
  obtain ⟨hx, hb, hml, ho, -⟩ := S
  obtain ⟨-, ⟨cellB, hcB, hoB, hclB⟩, hPc⟩ := hp
  obtain ⟨hfc, kB, hkB, -⟩ := hat
  cases hfc.symm.trans hclB
  intro T hT X
  rcases vx_callSU X hx (bytes := bytes) (maxL := maxL) (ret := ret) ho hl1 hl2 hl3 hl4 hcode hno hK (by rw [hT]; exact hcB) hoB hkB hg (hsize.trans hml.symm) (argsL := As) (rest := rest) (fun sig h => hn.trans (hlen sig h)) hstack hW (by rw [hb]; exact hdg)
    (fun vm₁ hW₁ => ⟨hf.1, hf.2, hPc (T.setVm vm₁) hT hW₁⟩) with ⟨v, vm₁, ⟨U', l2, c2, s2⟩, hW₁, X', ⟨g', mk, t, L, e1, e2, hq, h1, hL, h2, h3⟩, st⟩ | ⟨q, vm₁, ⟨U', l2, c2, s2⟩, hW₁, X', ⟨g', mk, t, L, E, ce, e1, e2, hq, hce, hcv, hcl, h1, hL, h2, h3⟩, st⟩
  · dsimp only [Pt.U, Pt.locs, Pt.cells, Pt.slots] at X' e1 e2 h1 h2 h3 st
    subst h1; subst h2; subst h3
    exact Or.inl ⟨v, (T.setVm vm₁).calling g' mk (Value.ref b :: As).toArray, t, U', L, hT, X', hL, e1, e2, hq, st⟩
  · dsimp only [Pt.U, Pt.locs, Pt.cells, Pt.slots] at X' e1 e2 h1 h2 h3 st hcl
    subst h1; subst h2; subst h3
    exact Or.inr ⟨q, (T.setVm vm₁).calling g' mk (Value.ref b :: As).toArray, t, U', L, E, ce, hT, X', hL, e1, e2, hq, hce, hcv, vx_cls hW₁ hcl, st⟩
end
/-! ===== END ===== -/
/-! ===== BEGIN a private method of a nest mate that may throw (follows va_callVN, va_callSN, va_runVN, va_runSN) ===== -/
section
variable {p : Program} {l : Launch} {e : Env} {R : Room} {s : State} {m : MethodId} {args : Array Value} {below : List Frame} {meth : Method} {c : Code} {H : Heap} {locs : List Loc} {cells slots : Nat}
variable {T : State}
theorem vx_callVN (X : Stand p l e R s m args below meth c T locs cells slots) (hexec : p.tables.exec = Jvm.exec) {own C : String} {index : Nat} {host : String} {y : MethodName} {bytes : ByteArray} {maxL : Nat} {ret : Option FieldType}
    (hown : s.vm.findClass own = some m.cls) (hlink : (Cond.methodLinkNest own index y host).before args s = true) (hinst : (Cond.instanceMethod y).before args s = true) (hsel : (Cond.selects C y y).before args s = true)
    (hcode : (Cond.code y bytes maxL ret).before args s = true) (hy : y.cls ≠ "java/lang/invoke/MethodHandle" ∧ y.cls ≠ "java/lang/invoke/VarHandle")
    {W : Nat} {Pre : Pt → Array Value → Prop} {Post : Pt → Array Value → Option Value → Pt → Prop} {PostX : Pt → Array Value → Addr → Pt → Prop} (hK : vx_Back l R p e below s args y 3 W Pre Post PostX)
    {b : Addr} {cellB : Cell} (hcell : T.heap[b]? = some cellB) (hobj : cellB.vm.isStatics = false) (hcls : s.vm.findClass C = some cellB.cls)
    {g : JFrame} (hg : g.method = m) (hsize : g.locals.size = c.maxLocals) {argsL rest : List Value} (hlen : ∀ sig, parseMethodDescriptor y.desc = some sig → argsL.length = sig.parameters.length)
    (hstack : g.stack = argsL.reverse ++ .ref b :: rest) (hW : 2 * g.monitorRoom + (rest.map fun v => v.category).sum ≤ W) (hdg : decode c.code g.pc = .ok (.invokevirtual index, 3))
    (hpre : ∀ vm₁, s.WarmedH vm₁ → Pre ⟨T.setVm vm₁, locs, cells, slots⟩ (Value.ref b :: argsL).toArray) :
    (∃ (v : Option Value) (vm₁ : Vm) (B : Pt), s.WarmedH vm₁ ∧ Stand p l e R s m args below meth c B.U B.locs B.cells B.slots ∧ Post ⟨T.setVm vm₁, locs, cells, slots⟩ (Value.ref b :: argsL).toArray v B ∧
      ∀ target, Steps p.tables e below (B.U.setTop { g with pc := g.pc + 3, stack := v.toList ++ rest }) target → Steps p.tables e below (T.setTop g) target) ∨
    (∃ (q : Addr) (vm₁ : Vm) (B : Pt), s.WarmedH vm₁ ∧ Stand p l e R s m args below meth c B.U B.locs B.cells B.slots ∧ PostX ⟨T.setVm vm₁, locs, cells, slots⟩ (Value.ref b :: argsL).toArray q B ∧
      Steps p.tables e below (T.setTop g) ((B.U.setTop { g with stack := rest }).pushFrame (.throwing q))) := by
  obtain ⟨mk, methM, hnamed, hmethM, hstM, habM⟩ := Cond.instanceMethod_spec hinst
  obtain ⟨methM', cM, hmethM', -, -, -, -, -, -, hsigM⟩ := Cond.code_spec hnamed hcode
  cases hmethM.symm.trans hmethM'
  obtain ⟨c2, r2, m2, q1, q2, q3, q4, kP, hkP, hkPi⟩ := Cond.selects_spec hsel
  cases hcls.symm.trans q1
  cases (State.methodFound?_of_named hnamed hy).symm.trans q2
  cases hnamed.symm.trans q3
  have hselP : selectMethod e.platform s.vm cellB.cls mk = .method mk := by rw [Launch.admits_selectMethod X.admits]; exact q4
  obtain ⟨vm₁, X₁, hstep₁⟩ := X.invokevirtualNest hexec hown hlink hnamed hmethM hstM hkP hkPi hy (a := b) (cell := cellB) hcell
    (fun z h => by rw [h] at hobj; cases hobj) hselP hmethM habM hkP hkPi (g := g) hg (argsL := argsL) (rest := rest) (hlen _ hsigM) hstack hdg
  rcases hK m meth c ⟨T.setVm vm₁, locs, cells, slots⟩ { g with stack := rest } (.invokevirtual index) mk (Value.ref b :: argsL).toArray X₁ hg hsize hdg hW (X₁.named hnamed) (hpre vm₁ X₁.warmed) with ⟨v, B, X', hpost, hsteps⟩ | ⟨q, B, X', hpost, hsteps⟩
  · exact Or.inl ⟨v, vm₁, B, X₁.warmed, X', hpost, fun target h => hstep₁ _ fun acts => by rw [doInvoke_state]; exact hsteps.trans h⟩
  · exact Or.inr ⟨q, vm₁, B, X₁.warmed, X', hpost, hstep₁ _ fun acts => by rw [doInvoke_state]; exact hsteps⟩
theorem vx_callSN (X : Stand p l e R s m args below meth c T locs cells slots) (hexec : p.tables.exec = Jvm.exec) {own : String} {index : Nat} {host : String} {y : MethodName} {bytes : ByteArray} {maxL : Nat} {ret : Option FieldType}
    (hown : s.vm.findClass own = some m.cls) (hlink : (Cond.methodLinkNest own index y host).before args s = true) (hstat : (Cond.static y).before args s = true) (hinit : (Cond.initialized y.cls).before args s = true)
    (hcode : (Cond.code y bytes maxL ret).before args s = true) (hy : y.cls ≠ "java/lang/invoke/MethodHandle" ∧ y.cls ≠ "java/lang/invoke/VarHandle")
    {W : Nat} {Pre : Pt → Array Value → Prop} {Post : Pt → Array Value → Option Value → Pt → Prop} {PostX : Pt → Array Value → Addr → Pt → Prop} (hK : vx_Back l R p e below s args y 3 W Pre Post PostX)
    {g : JFrame} (hg : g.method = m) (hsize : g.locals.size = c.maxLocals) {argsL rest : List Value} (hlen : ∀ sig, parseMethodDescriptor y.desc = some sig → argsL.length = sig.parameters.length)
    (hstack : g.stack = argsL.reverse ++ rest) (hW : 2 * g.monitorRoom + (rest.map fun v => v.category).sum ≤ W) (hdg : decode c.code g.pc = .ok (.invokestatic index, 3))
    (hpre : ∀ vm₁, s.WarmedH vm₁ → Pre ⟨T.setVm vm₁, locs, cells, slots⟩ argsL.toArray) :
    (∃ (v : Option Value) (vm₁ : Vm) (B : Pt), s.WarmedH vm₁ ∧ Stand p l e R s m args below meth c B.U B.locs B.cells B.slots ∧ Post ⟨T.setVm vm₁, locs, cells, slots⟩ argsL.toArray v B ∧
      ∀ target, Steps p.tables e below (B.U.setTop { g with pc := g.pc + 3, stack := v.toList ++ rest }) target → Steps p.tables e below (T.setTop g) target) ∨
    (∃ (q : Addr) (vm₁ : Vm) (B : Pt), s.WarmedH vm₁ ∧ Stand p l e R s m args below meth c B.U B.locs B.cells B.slots ∧ PostX ⟨T.setVm vm₁, locs, cells, slots⟩ argsL.toArray q B ∧
      Steps p.tables e below (T.setTop g) ((B.U.setTop { g with stack := rest }).pushFrame (.throwing q))) := by
  obtain ⟨mk, hnamed⟩ := Cond.code_named hcode
  obtain ⟨methM, cM, hmethM, -, -, -, -, -, -, hsigM⟩ := Cond.code_spec hnamed hcode
  have hstatic : methM.isStatic = true := Cond.static_spec hnamed hmethM hstat
  obtain ⟨kP, hkP, -⟩ := className_of_methodNamed hnamed
  have hinitP : kP.init = .initialized := Cond.initialized_spec (findClass_of_methodNamed hnamed) hkP hinit
  obtain ⟨vm₁, X₁, hstep₁⟩ := X.invokestaticNest hexec hown hlink hnamed hmethM hstatic hkP hinitP hy (g := g) hg (argsL := argsL) (rest := rest) (hlen _ hsigM) hstack hdg
  rcases hK m meth c ⟨T.setVm vm₁, locs, cells, slots⟩ { g with stack := rest } (.invokestatic index) mk argsL.toArray X₁ hg hsize hdg hW (X₁.named hnamed) (hpre vm₁ X₁.warmed) with ⟨v, B, X', hpost, hsteps⟩ | ⟨q, B, X', hpost, hsteps⟩
  · exact Or.inl ⟨v, vm₁, B, X₁.warmed, X', hpost, fun target h => hstep₁ _ fun acts => by rw [doInvoke_state]; exact hsteps.trans h⟩
  · exact Or.inr ⟨q, vm₁, B, X₁.warmed, X', hpost, hstep₁ _ fun acts => by rw [doInvoke_state]; exact hsteps⟩
theorem vx_runVN {y : MethodName} {bytes cc : ByteArray} {maxL nL mc ms n index : Nat} {ret : Option FieldType} {ws : List Cond} {rm : Room} {Pc : Array Value → State → Prop} {Qc : Array Value → State → Outcome → State → Prop} {XC : String → State → State → Prop} {free : Addr → Prop} {Ts : List Cond} {own C host : String} {b : Addr} {As rest : List Value} {g : JFrame}
    (S : CallFix p m c cc nL s args Ts own) (hM : vx_Met l y ws rm Pc Qc XC mc ms free) (cw : va_CN R s args own index y host bytes maxL ret ws rm mc ms n ∧ (Cond.instanceMethod y).before args s = true ∧ (Cond.selects C y y).before args s = true) (hp : PreV s H C b Pc As)
    (hg : g.method = m) (hn : As.length = n) (hsize : g.locals.size = nL) (hstack : g.stack = As.reverse ++ .ref b :: rest) (hW : 2 * g.monitorRoom + (rest.map fun v => v.category).sum ≤ 8) (hdg : decode cc g.pc = .ok (.invokevirtual index, 3)) (hf : cells + mc ≤ R.cells ∧ slots + ms ≤ R.slots) :
    vx_Run p l e R s m args below meth c H locs cells slots mc ms g rest (Qc (Value.ref b :: As).toArray) XC free := by
  obtain ⟨⟨⟨hrc, hrs, hfr, hlo, hws, hcw⟩, hcode, hini, hy, hlen, hl⟩, hx1, hx2⟩ := cw
  have hK : vx_Back l R p e below s args y 3 8 (PreOf R mc ms Pc) (PostOf Qc mc ms free) (vx_Post XC mc ms free) := vx_back (bytes := bytes) (maxL := maxL) (ret := ret) hM hp.1 hrc hrs hfr hlo hws hcw (fun a' U hW => word_at hW (Or.inl (by first | rfl | simp [Cond.onTables, Cond.keeps, Cond.steady])) hini)
  obtain ⟨hx, hb, hml, ho, -⟩ := S
  obtain ⟨-, ⟨cellB, hcB, hoB, hclB⟩, hPc⟩ := hp
  intro T hT X
  rcases vx_callVN X hx (C := C) (bytes := bytes) (maxL := maxL) (ret := ret) ho hl hx1 hx2 hcode hy hK (by rw [hT]; exact hcB) hoB hclB hg (hsize.trans hml.symm) (argsL := As) (rest := rest) (fun sig h => hn.trans (hlen sig h)) hstack hW (by rw [hb]; exact hdg)
    (fun vm₁ hW₁ => ⟨hf.1, hf.2, hPc (T.setVm vm₁) hT hW₁⟩) with ⟨v, vm₁, ⟨U', l2, c2, s2⟩, hW₁, X', ⟨g', mk, t, L, e1, e2, hq, h1, hL, h2, h3⟩, st⟩ | ⟨q, vm₁, ⟨U', l2, c2, s2⟩, hW₁, X', ⟨g', mk, t, L, E, ce, e1, e2, hq, hce, hcv, hcl, h1, hL, h2, h3⟩, st⟩
  · dsimp only [Pt.U, Pt.locs, Pt.cells, Pt.slots] at X' e1 e2 h1 h2 h3 st
    subst h1; subst h2; subst h3
    exact Or.inl ⟨v, (T.setVm vm₁).calling g' mk (Value.ref b :: As).toArray, t, U', L, hT, X', hL, e1, e2, hq, st⟩
  · dsimp only [Pt.U, Pt.locs, Pt.cells, Pt.slots] at X' e1 e2 h1 h2 h3 st hcl
    subst h1; subst h2; subst h3
    exact Or.inr ⟨q, (T.setVm vm₁).calling g' mk (Value.ref b :: As).toArray, t, U', L, E, ce, hT, X', hL, e1, e2, hq, hce, hcv, vx_cls hW₁ hcl, st⟩
theorem vx_runSN {y : MethodName} {bytes cc : ByteArray} {maxL nL mc ms n index : Nat} {ret : Option FieldType} {ws : List Cond} {rm : Room} {Pc : Array Value → State → Prop} {Qc : Array Value → State → Outcome → State → Prop} {XC : String → State → State → Prop} {free : Addr → Prop} {Ts : List Cond} {own host : String} {As rest : List Value} {g : JFrame}
    (S : CallFix p m c cc nL s args Ts own) (hM : vx_Met l y ws rm Pc Qc XC mc ms free) (cw : va_CN R s args own index y host bytes maxL ret ws rm mc ms n ∧ (Cond.static y).before args s = true ∧ True) (hp : PreS s H Pc As)
    (hg : g.method = m) (hn : As.length = n) (hsize : g.locals.size = nL) (hstack : g.stack = As.reverse ++ rest) (hW : 2 * g.monitorRoom + (rest.map fun v => v.category).sum ≤ 8) (hdg : decode cc g.pc = .ok (.invokestatic index, 3)) (hf : cells + mc ≤ R.cells ∧ slots + ms ≤ R.slots) :
    vx_Run p l e R s m args below meth c H locs cells slots mc ms g rest (Qc As.toArray) XC free := by
  obtain ⟨⟨⟨hrc, hrs, hfr, hlo, hws, hcw⟩, hcode, hini, hy, hlen, hl⟩, hx1, hx2⟩ := cw
  have hK : vx_Back l R p e below s args y 3 8 (PreOf R mc ms Pc) (PostOf Qc mc ms free) (vx_Post XC mc ms free) := vx_back (bytes := bytes) (maxL := maxL) (ret := ret) hM hp.1 hrc hrs hfr hlo hws hcw (fun a' U hW => word_at hW (Or.inl (by first | rfl | simp [Cond.onTables, Cond.keeps, Cond.steady])) hini)
  obtain ⟨hx, hb, hml, ho, -⟩ := S
  have hPc := hp.2
  intro T hT X
  rcases vx_callSN X hx (bytes := bytes) (maxL := maxL) (ret := ret) ho hl hx1 hini hcode hy hK hg (hsize.trans hml.symm) (argsL := As) (rest := rest) (fun sig h => hn.trans (hlen sig h)) hstack hW (by rw [hb]; exact hdg)
    (fun vm₁ hW₁ => ⟨hf.1, hf.2, hPc (T.setVm vm₁) hT hW₁⟩) with ⟨v, vm₁, ⟨U', l2, c2, s2⟩, hW₁, X', ⟨g', mk, t, L, e1, e2, hq, h1, hL, h2, h3⟩, st⟩ | ⟨q, vm₁, ⟨U', l2, c2, s2⟩, hW₁, X', ⟨g', mk, t, L, E, ce, e1, e2, hq, hce, hcv, hcl, h1, hL, h2, h3⟩, st⟩
  · dsimp only [Pt.U, Pt.locs, Pt.cells, Pt.slots] at X' e1 e2 h1 h2 h3 st
    subst h1; subst h2; subst h3
    exact Or.inl ⟨v, (T.setVm vm₁).calling g' mk As.toArray, t, U', L, hT, X', hL, e1, e2, hq, st⟩
  · dsimp only [Pt.U, Pt.locs, Pt.cells, Pt.slots] at X' e1 e2 h1 h2 h3 st hcl
    subst h1; subst h2; subst h3
    exact Or.inr ⟨q, (T.setVm vm₁).calling g' mk As.toArray, t, U', L, E, ce, hT, X', hL, e1, e2, hq, hce, hcv, vx_cls hW₁ hcl, st⟩
end
/-! ===== END ===== -/
/-! ===== BEGIN calls by an interface of methods that may throw (vx_callIF, vx_runF follow va_callIF, va_runF of this kit) ===== -/
section
variable {p : Program} {l : Launch} {e : Env} {R : Room} {s : State} {m : MethodId} {args : Array Value} {below : List Frame} {meth : Method} {c : Code} {H : Heap} {locs : List Loc} {cells slots : Nat} {Q : State → Prop}
variable {mc ms : Nat} {free : Addr → Prop} {A0 A1 : Nat → Prop} {H0 : Heap} {a : Array Value} {pc : Nat} {ls : Array Slot} {st0 rest : List Value}
def vx_Run5 (p : Program) (l : Launch) (e : Env) (R : Room) (s : State) (m : MethodId) (args : Array Value) (below : List Frame) (meth : Method) (c : Code) (H : Heap) (locs : List Loc) (cells slots mc ms : Nat) (g : JFrame) (rest : List Value) (Qa : State → Outcome → State → Prop) (XC : String → State → State → Prop) (free : Addr → Prop) : Prop :=
  ∀ T : State, T.heap = H → Stand p l e R s m args below meth c T locs cells slots →
    (∃ (v : Option Value) (st₀ t T' : State) (L : List Loc), st₀.heap = H ∧ Stand p l e R s m args below meth c T' (locs ++ L) (cells + mc) (slots + ms) ∧ (∀ q ∈ L, free q.base) ∧ T'.heap = t.heap ∧ T'.vm = t.vm ∧ Qa st₀ (.returned v) t ∧
      Goes p e below T g T' { g with pc := g.pc + 5, stack := v.toList ++ rest }) ∨
    (∃ (q : Addr) (st₀ t T' : State) (L : List Loc) (E : String) (ce : Cell), st₀.heap = H ∧ Stand p l e R s m args below meth c T' (locs ++ L) (cells + mc) (slots + ms) ∧ (∀ z ∈ L, free z.base) ∧ T'.heap = t.heap ∧ T'.vm = t.vm ∧ XC E st₀ t ∧ t.heap[q]? = some ce ∧ ce.vm = .none ∧ s.vm.findClass E = some ce.cls ∧
      Steps p.tables e below (T.setTop g) ((T'.setTop { g with stack := rest }).pushFrame (.throwing q)))
theorem vx_callIF {T : State} (X : Stand p l e R s m args below meth c T locs cells slots) (hexec : p.tables.exec = Jvm.exec) {own C : String} {index count : Nat} {x y : MethodName} {bytes : ByteArray} {maxL : Nat} {ret : Option FieldType}
    (hown : s.vm.findClass own = some m.cls) (hlink : (Cond.methodLink own index x).before args s = true) (hdecl : (Cond.declares x).before args s = true) (hface : (Cond.interfaceMethod x.cls x.cls x.name x.desc).before args s = true)
    (hsel : (Cond.selects C x y).before args s = true) (hinst : (Cond.instanceMethod y).before args s = true) (hpub : (Cond.publicMethod y).before args s = true) (hunh : (Cond.unhidden C x.name x.desc).before args s = true)
    (hcast : (Cond.castable C x.cls).before args s = true) (hcode : (Cond.code y bytes maxL ret).before args s = true) (hx : x.cls ≠ "java/lang/invoke/MethodHandle" ∧ x.cls ≠ "java/lang/invoke/VarHandle")
    {W9 : Nat} {Pre : Pt → Array Value → Prop} {Post : Pt → Array Value → Option Value → Pt → Prop} {PostX : Pt → Array Value → Addr → Pt → Prop} (hK : vx_Back l R p e below s args y 5 W9 Pre Post PostX)
    {b : Addr} {cellB : Cell} {kB : Class} (hcell : T.heap[b]? = some cellB) (hobj : cellB.vm.isStatics = false) (hcls : s.vm.findClass C = some cellB.cls) (hkB : s.vm.classes[cellB.cls]? = some kB)
    {g : JFrame} (hg : g.method = m) (hsize : g.locals.size = c.maxLocals) {argsL rest : List Value} (hlen : ∀ sig, parseMethodDescriptor x.desc = some sig → argsL.length = sig.parameters.length)
    (hstack : g.stack = argsL.reverse ++ .ref b :: rest) (hW : 2 * g.monitorRoom + (rest.map fun v => v.category).sum ≤ W9) (hdg : decode c.code g.pc = .ok (.invokeinterface index count, 5))
    (hpre : ∀ vm₁, s.WarmedH vm₁ → Pre ⟨T.setVm vm₁, locs, cells, slots⟩ (Value.ref b :: argsL).toArray) :
    (∃ (v : Option Value) (vm₁ : Vm) (B : Pt), s.WarmedH vm₁ ∧ Stand p l e R s m args below meth c B.U B.locs B.cells B.slots ∧ Post ⟨T.setVm vm₁, locs, cells, slots⟩ (Value.ref b :: argsL).toArray v B ∧
      ∀ target, Steps p.tables e below (B.U.setTop { g with pc := g.pc + 5, stack := v.toList ++ rest }) target → Steps p.tables e below (T.setTop g) target) ∨
    (∃ (q : Addr) (vm₁ : Vm) (B : Pt), s.WarmedH vm₁ ∧ Stand p l e R s m args below meth c B.U B.locs B.cells B.slots ∧ PostX ⟨T.setVm vm₁, locs, cells, slots⟩ (Value.ref b :: argsL).toArray q B ∧
      Steps p.tables e below (T.setTop g) ((B.U.setTop { g with stack := rest }).pushFrame (.throwing q))) := by
  obtain ⟨r0, r, hn, hrm, hstR, hsigR⟩ := Cond.declares_spec hdecl
  obtain ⟨cL, kL, r1, hcL, hkL, hiL, hfoundL, hn1⟩ := Cond.interfaceMethod_spec hface
  cases hn.symm.trans hn1
  have hr0cls : r0.cls = cL := Option.some.inj ((findClass_of_methodNamed hn).symm.trans hcL)
  obtain ⟨hnameR, hdescR⟩ := name_of_methodNamed hn hrm
  obtain ⟨mk, methM, hnamed, hmethM, -, habM⟩ := Cond.instanceMethod_spec hinst
  obtain ⟨c2, r2, m2, q1, q2, q3, q4, -⟩ := Cond.selects_spec hsel
  cases hcls.symm.trans q1
  cases hfoundL.symm.trans q2
  cases hnamed.symm.trans q3
  have hselP : selectMethod e.platform s.vm cellB.cls r0 = .method mk := by rw [Launch.admits_selectMethod X.admits]; exact q4
  have hpubM : hasFlag methM.accessFlags Acc.public_ = true := Cond.publicMethod_spec hnamed hmethM hpub
  have hway : ((cellB.cls :: s.vm.superclasses cellB.cls).any fun k => (declaredIn s.vm r.name r.desc k).any fun (_, z) => z.isPrivate || z.isStatic) = false := by
    rw [hnameR, hdescR]; exact Cond.unhidden_spec hcls hunh
  obtain ⟨c3, t3, w1, w2, w3⟩ := Cond.castable_spec hcast
  cases hcls.symm.trans w1
  cases hcL.symm.trans w2
  obtain ⟨vm₁, X₁, hstep₁⟩ := X.invokeinterface hexec hown hlink hn hrm hstR (by rw [hr0cls]; exact hkL) hiL hx (a := b) (cell := cellB) (kcell := kB) hcell
    (fun z h => by rw [h] at hobj; cases hobj) hkB (by rw [hr0cls]; exact w3) hselP hmethM hway hpubM habM (g := g) hg (argsL := argsL) (rest := rest) (hlen _ hsigR) hstack hdg
  rcases hK m meth c ⟨T.setVm vm₁, locs, cells, slots⟩ { g with stack := rest } (.invokeinterface index count) mk (Value.ref b :: argsL).toArray X₁ hg hsize hdg hW (X₁.named hnamed) (hpre vm₁ X₁.warmed) with ⟨v, B, X', hpost, hsteps⟩ | ⟨q, B, X', hpost, hsteps⟩
  · exact Or.inl ⟨v, vm₁, B, X₁.warmed, X', hpost, fun target h => hstep₁ _ fun acts => by rw [doInvoke_state]; exact hsteps.trans h⟩
  · exact Or.inr ⟨q, vm₁, B, X₁.warmed, X', hpost, hstep₁ _ fun acts => by rw [doInvoke_state]; exact hsteps⟩
theorem vx_runF {x y : MethodName} {bytes cc : ByteArray} {maxL nL mc ms n index count : Nat} {ret : Option FieldType} {ws : List Cond} {rm : Room} {Pc : Array Value → State → Prop} {Qc : Array Value → State → Outcome → State → Prop} {XC : String → State → State → Prop} {free : Addr → Prop} {Ts : List Cond} {own C : String} {cC : ClassId} {b : Addr} {As rest : List Value} {g : JFrame}
    (hat : ClassAt s C cC) (S : CallFix p m c cc nL s args Ts own) (hM : vx_Met l y ws rm Pc Qc XC mc ms free) (cw : va_CI R s args own C index x y bytes maxL ret ws rm mc ms n) (hp : PreV s H C b Pc As)
    (hg : g.method = m) (hn : As.length = n) (hsize : g.locals.size = nL) (hstack : g.stack = As.reverse ++ .ref b :: rest) (hW : 2 * g.monitorRoom + (rest.map fun v => v.category).sum ≤ 8) (hdg : decode cc g.pc = .ok (.invokeinterface index count, 5)) (hf : cells + mc ≤ R.cells ∧ slots + ms ≤ R.slots) :
    vx_Run5 p l e R s m args below meth c H locs cells slots mc ms g rest (Qc (Value.ref b :: As).toArray) XC free := by
  obtain ⟨hrc, hrs, hfr, hlo, hws, hcw⟩ := cw.back
  have hini := cw.init
  have hK : vx_Back l R p e below s args y 5 8 (PreOf R mc ms Pc) (PostOf Qc mc ms free) (vx_Post XC mc ms free) := vx_back (bytes := bytes) (maxL := maxL) (ret := ret) hM hp.1 hrc hrs hfr hlo hws hcw (fun a' U hW => word_at hW (Or.inl (by first | rfl | simp [Cond.onTables, Cond.keeps, Cond.steady])) hini)
  obtain ⟨hx, hb, hml, ho, -⟩ := S
  obtain ⟨-, ⟨cellB, hcB, hoB, hclB⟩, hPc⟩ := hp
  obtain ⟨hfc, kB, hkB, -⟩ := hat
  cases hfc.symm.trans hclB
  intro T hT X
  rcases vx_callIF X hx (C := C) (bytes := bytes) (maxL := maxL) (ret := ret) ho cw.link cw.decl cw.face cw.sel cw.inst cw.pub cw.unh cw.cast cw.code cw.notMH hK (by rw [hT]; exact hcB) hoB hclB hkB hg (hsize.trans hml.symm) (argsL := As) (rest := rest) (fun sig h => hn.trans (cw.len sig h)) hstack hW (by rw [hb]; exact hdg)
    (fun vm₁ hW₁ => ⟨hf.1, hf.2, hPc (T.setVm vm₁) hT hW₁⟩) with ⟨v, vm₁, ⟨U', l2, c2, s2⟩, hW₁, X', ⟨g', mk, t, L, e1, e2, hq, h1, hL, h2, h3⟩, st⟩ | ⟨q, vm₁, ⟨U', l2, c2, s2⟩, hW₁, X', ⟨g', mk, t, L, E, ce, e1, e2, hq, hce, hcv, hcl, h1, hL, h2, h3⟩, st⟩
  · dsimp only [Pt.U, Pt.locs, Pt.cells, Pt.slots] at X' e1 e2 h1 h2 h3 st
    subst h1; subst h2; subst h3
    exact Or.inl ⟨v, (T.setVm vm₁).calling g' mk (Value.ref b :: As).toArray, t, U', L, hT, X', hL, e1, e2, hq, st⟩
  · dsimp only [Pt.U, Pt.locs, Pt.cells, Pt.slots] at X' e1 e2 h1 h2 h3 st hcl
    subst h1; subst h2; subst h3
    exact Or.inr ⟨q, (T.setVm vm₁).calling g' mk (Value.ref b :: As).toArray, t, U', L, E, ce, hT, X', hL, e1, e2, hq, hce, hcv, vx_cls hW₁ hcl, st⟩
theorem vx_callFv {S SX : Type} {post : S → Prop} {px : SX → Prop} {B : S → State → Prop} {BX : String → SX → State → Prop} {AX : Nat → Prop} (hr : vx_Run5 p l e R s m args below meth c H locs cells slots mc ms (F0 m pc ls st0) rest (va_Qv post B A1 a) (vx_X px BX AX) free) (hS : va_S A0 H0 H locs) (hA : ∀ q, q < H.size → A1 q → A0 q) (hf : ∀ q, free q → A0 q) (hAX : ∀ q, q < H.size → AX q → A0 q)
    (kx : ∀ (E : String) (ce : Cell) (q9 : Addr) (u : SX) (t : State) (H1 : Heap) (locs1 : List Loc), t.heap = H1 → s.vm.Alike t.vm → px u → BX E u t → H.size ≤ H1.size → (∀ q : Nat, q < H.size → ¬ AX q → H1[q]? = H[q]?) → va_S A0 H0 H1 locs1 → H1[q9]? = some ce → ce.vm = .none → s.vm.findClass E = some ce.cls → vx_W p l e R s m args below meth c H1 locs1 (cells + mc) (slots + ms) Q (F0 m pc ls rest) q9)
    (kk : ∀ (u : S) (t : State) (H1 : Heap) (locs1 : List Loc), t.heap = H1 → s.vm.Alike t.vm → post u → B u t → H.size ≤ H1.size → (∀ q : Nat, q < H.size → ¬ A1 q → H1[q]? = H[q]?) → va_S A0 H0 H1 locs1 → W p l e R s m args below meth c H1 locs1 (cells + mc) (slots + ms) Q (F0 m (pc + 5) ls (rest))) : W p l e R s m args below meth c H locs cells slots Q (F0 m pc ls st0) := by
  intro T hT X
  rcases hr T hT X with ⟨v, st₀, t, T', L, h0, X', hL, e1, e2, ⟨⟨u, hv, hp, hb⟩, hF⟩, st⟩ | ⟨q, st₀, t, T', L, E, ce, h0, X', hL, e1, e2, ⟨u, hp, hb, hF⟩, hce, hcv, hcl, st⟩
  · cases hv
    obtain ⟨k1, k2, k3⟩ := vx_keep h0 e1 hS hA hf hL hF
    obtain ⟨t2, a1, b1⟩ := kk u t T'.heap (locs ++ L) e1.symm (by rw [← e2]; exact X'.warmed.alike) hp hb k1 k2 k3 T' rfl X'
    exact ⟨t2, st t2 a1, b1⟩
  · obtain ⟨k1, k2, k3⟩ := vx_keep h0 e1 hS hAX hf hL hF
    obtain ⟨t2, a1, b1⟩ := kx E ce q u t T'.heap (locs ++ L) e1.symm (by rw [← e2]; exact X'.warmed.alike) hp hb k1 k2 k3 (by rw [e1]; exact hce) hcv hcl T' rfl X'
    exact ⟨t2, st.trans a1, b1⟩
theorem vx_callFi {S SX : Type} {post : Int32 → S → Prop} {px : SX → Prop} {B : S → State → Prop} {BX : String → SX → State → Prop} {AX : Nat → Prop} (hr : vx_Run5 p l e R s m args below meth c H locs cells slots mc ms (F0 m pc ls st0) rest (va_Qi post B A1 a) (vx_X px BX AX) free) (hS : va_S A0 H0 H locs) (hA : ∀ q, q < H.size → A1 q → A0 q) (hf : ∀ q, free q → A0 q) (hAX : ∀ q, q < H.size → AX q → A0 q)
    (kx : ∀ (E : String) (ce : Cell) (q9 : Addr) (u : SX) (t : State) (H1 : Heap) (locs1 : List Loc), t.heap = H1 → s.vm.Alike t.vm → px u → BX E u t → H.size ≤ H1.size → (∀ q : Nat, q < H.size → ¬ AX q → H1[q]? = H[q]?) → va_S A0 H0 H1 locs1 → H1[q9]? = some ce → ce.vm = .none → s.vm.findClass E = some ce.cls → vx_W p l e R s m args below meth c H1 locs1 (cells + mc) (slots + ms) Q (F0 m pc ls rest) q9)
    (kk : ∀ (r : Int32) (u : S) (t : State) (H1 : Heap) (locs1 : List Loc), t.heap = H1 → s.vm.Alike t.vm → post r u → B u t → H.size ≤ H1.size → (∀ q : Nat, q < H.size → ¬ A1 q → H1[q]? = H[q]?) → va_S A0 H0 H1 locs1 → W p l e R s m args below meth c H1 locs1 (cells + mc) (slots + ms) Q (F0 m (pc + 5) ls (.int r :: rest))) : W p l e R s m args below meth c H locs cells slots Q (F0 m pc ls st0) := by
  intro T hT X
  rcases hr T hT X with ⟨v, st₀, t, T', L, h0, X', hL, e1, e2, ⟨⟨r, u, hv, hp, hb⟩, hF⟩, st⟩ | ⟨q, st₀, t, T', L, E, ce, h0, X', hL, e1, e2, ⟨u, hp, hb, hF⟩, hce, hcv, hcl, st⟩
  · cases hv
    obtain ⟨k1, k2, k3⟩ := vx_keep h0 e1 hS hA hf hL hF
    obtain ⟨t2, a1, b1⟩ := kk r u t T'.heap (locs ++ L) e1.symm (by rw [← e2]; exact X'.warmed.alike) hp hb k1 k2 k3 T' rfl X'
    exact ⟨t2, st t2 a1, b1⟩
  · obtain ⟨k1, k2, k3⟩ := vx_keep h0 e1 hS hAX hf hL hF
    obtain ⟨t2, a1, b1⟩ := kx E ce q u t T'.heap (locs ++ L) e1.symm (by rw [← e2]; exact X'.warmed.alike) hp hb k1 k2 k3 (by rw [e1]; exact hce) hcv hcl T' rfl X'
    exact ⟨t2, st.trans a1, b1⟩
theorem vx_callFl {S SX : Type} {post : Int64 → S → Prop} {px : SX → Prop} {B : S → State → Prop} {BX : String → SX → State → Prop} {AX : Nat → Prop} (hr : vx_Run5 p l e R s m args below meth c H locs cells slots mc ms (F0 m pc ls st0) rest (va_Ql post B A1 a) (vx_X px BX AX) free) (hS : va_S A0 H0 H locs) (hA : ∀ q, q < H.size → A1 q → A0 q) (hf : ∀ q, free q → A0 q) (hAX : ∀ q, q < H.size → AX q → A0 q)
    (kx : ∀ (E : String) (ce : Cell) (q9 : Addr) (u : SX) (t : State) (H1 : Heap) (locs1 : List Loc), t.heap = H1 → s.vm.Alike t.vm → px u → BX E u t → H.size ≤ H1.size → (∀ q : Nat, q < H.size → ¬ AX q → H1[q]? = H[q]?) → va_S A0 H0 H1 locs1 → H1[q9]? = some ce → ce.vm = .none → s.vm.findClass E = some ce.cls → vx_W p l e R s m args below meth c H1 locs1 (cells + mc) (slots + ms) Q (F0 m pc ls rest) q9)
    (kk : ∀ (r : Int64) (u : S) (t : State) (H1 : Heap) (locs1 : List Loc), t.heap = H1 → s.vm.Alike t.vm → post r u → B u t → H.size ≤ H1.size → (∀ q : Nat, q < H.size → ¬ A1 q → H1[q]? = H[q]?) → va_S A0 H0 H1 locs1 → W p l e R s m args below meth c H1 locs1 (cells + mc) (slots + ms) Q (F0 m (pc + 5) ls (.long r :: rest))) : W p l e R s m args below meth c H locs cells slots Q (F0 m pc ls st0) := by
  intro T hT X
  rcases hr T hT X with ⟨v, st₀, t, T', L, h0, X', hL, e1, e2, ⟨⟨r, u, hv, hp, hb⟩, hF⟩, st⟩ | ⟨q, st₀, t, T', L, E, ce, h0, X', hL, e1, e2, ⟨u, hp, hb, hF⟩, hce, hcv, hcl, st⟩
  · cases hv
    obtain ⟨k1, k2, k3⟩ := vx_keep h0 e1 hS hA hf hL hF
    obtain ⟨t2, a1, b1⟩ := kk r u t T'.heap (locs ++ L) e1.symm (by rw [← e2]; exact X'.warmed.alike) hp hb k1 k2 k3 T' rfl X'
    exact ⟨t2, st t2 a1, b1⟩
  · obtain ⟨k1, k2, k3⟩ := vx_keep h0 e1 hS hAX hf hL hF
    obtain ⟨t2, a1, b1⟩ := kx E ce q u t T'.heap (locs ++ L) e1.symm (by rw [← e2]; exact X'.warmed.alike) hp hb k1 k2 k3 (by rw [e1]; exact hce) hcv hcl T' rfl X'
    exact ⟨t2, st.trans a1, b1⟩
theorem vx_callFf {S SX : Type} {post : UInt32 → S → Prop} {px : SX → Prop} {B : S → State → Prop} {BX : String → SX → State → Prop} {AX : Nat → Prop} (hr : vx_Run5 p l e R s m args below meth c H locs cells slots mc ms (F0 m pc ls st0) rest (va_Qf post B A1 a) (vx_X px BX AX) free) (hS : va_S A0 H0 H locs) (hA : ∀ q, q < H.size → A1 q → A0 q) (hf : ∀ q, free q → A0 q) (hAX : ∀ q, q < H.size → AX q → A0 q)
    (kx : ∀ (E : String) (ce : Cell) (q9 : Addr) (u : SX) (t : State) (H1 : Heap) (locs1 : List Loc), t.heap = H1 → s.vm.Alike t.vm → px u → BX E u t → H.size ≤ H1.size → (∀ q : Nat, q < H.size → ¬ AX q → H1[q]? = H[q]?) → va_S A0 H0 H1 locs1 → H1[q9]? = some ce → ce.vm = .none → s.vm.findClass E = some ce.cls → vx_W p l e R s m args below meth c H1 locs1 (cells + mc) (slots + ms) Q (F0 m pc ls rest) q9)
    (kk : ∀ (r : UInt32) (u : S) (t : State) (H1 : Heap) (locs1 : List Loc), t.heap = H1 → s.vm.Alike t.vm → post r u → B u t → H.size ≤ H1.size → (∀ q : Nat, q < H.size → ¬ A1 q → H1[q]? = H[q]?) → va_S A0 H0 H1 locs1 → W p l e R s m args below meth c H1 locs1 (cells + mc) (slots + ms) Q (F0 m (pc + 5) ls (.float r :: rest))) : W p l e R s m args below meth c H locs cells slots Q (F0 m pc ls st0) := by
  intro T hT X
  rcases hr T hT X with ⟨v, st₀, t, T', L, h0, X', hL, e1, e2, ⟨⟨r, u, hv, hp, hb⟩, hF⟩, st⟩ | ⟨q, st₀, t, T', L, E, ce, h0, X', hL, e1, e2, ⟨u, hp, hb, hF⟩, hce, hcv, hcl, st⟩
  · cases hv
    obtain ⟨k1, k2, k3⟩ := vx_keep h0 e1 hS hA hf hL hF
    obtain ⟨t2, a1, b1⟩ := kk r u t T'.heap (locs ++ L) e1.symm (by rw [← e2]; exact X'.warmed.alike) hp hb k1 k2 k3 T' rfl X'
    exact ⟨t2, st t2 a1, b1⟩
  · obtain ⟨k1, k2, k3⟩ := vx_keep h0 e1 hS hAX hf hL hF
    obtain ⟨t2, a1, b1⟩ := kx E ce q u t T'.heap (locs ++ L) e1.symm (by rw [← e2]; exact X'.warmed.alike) hp hb k1 k2 k3 (by rw [e1]; exact hce) hcv hcl T' rfl X'
    exact ⟨t2, st.trans a1, b1⟩
theorem vx_callFd {S SX : Type} {post : UInt64 → S → Prop} {px : SX → Prop} {B : S → State → Prop} {BX : String → SX → State → Prop} {AX : Nat → Prop} (hr : vx_Run5 p l e R s m args below meth c H locs cells slots mc ms (F0 m pc ls st0) rest (va_Qd post B A1 a) (vx_X px BX AX) free) (hS : va_S A0 H0 H locs) (hA : ∀ q, q < H.size → A1 q → A0 q) (hf : ∀ q, free q → A0 q) (hAX : ∀ q, q < H.size → AX q → A0 q)
    (kx : ∀ (E : String) (ce : Cell) (q9 : Addr) (u : SX) (t : State) (H1 : Heap) (locs1 : List Loc), t.heap = H1 → s.vm.Alike t.vm → px u → BX E u t → H.size ≤ H1.size → (∀ q : Nat, q < H.size → ¬ AX q → H1[q]? = H[q]?) → va_S A0 H0 H1 locs1 → H1[q9]? = some ce → ce.vm = .none → s.vm.findClass E = some ce.cls → vx_W p l e R s m args below meth c H1 locs1 (cells + mc) (slots + ms) Q (F0 m pc ls rest) q9)
    (kk : ∀ (r : UInt64) (u : S) (t : State) (H1 : Heap) (locs1 : List Loc), t.heap = H1 → s.vm.Alike t.vm → post r u → B u t → H.size ≤ H1.size → (∀ q : Nat, q < H.size → ¬ A1 q → H1[q]? = H[q]?) → va_S A0 H0 H1 locs1 → W p l e R s m args below meth c H1 locs1 (cells + mc) (slots + ms) Q (F0 m (pc + 5) ls (.double r :: rest))) : W p l e R s m args below meth c H locs cells slots Q (F0 m pc ls st0) := by
  intro T hT X
  rcases hr T hT X with ⟨v, st₀, t, T', L, h0, X', hL, e1, e2, ⟨⟨r, u, hv, hp, hb⟩, hF⟩, st⟩ | ⟨q, st₀, t, T', L, E, ce, h0, X', hL, e1, e2, ⟨u, hp, hb, hF⟩, hce, hcv, hcl, st⟩
  · cases hv
    obtain ⟨k1, k2, k3⟩ := vx_keep h0 e1 hS hA hf hL hF
    obtain ⟨t2, a1, b1⟩ := kk r u t T'.heap (locs ++ L) e1.symm (by rw [← e2]; exact X'.warmed.alike) hp hb k1 k2 k3 T' rfl X'
    exact ⟨t2, st t2 a1, b1⟩
  · obtain ⟨k1, k2, k3⟩ := vx_keep h0 e1 hS hAX hf hL hF
    obtain ⟨t2, a1, b1⟩ := kx E ce q u t T'.heap (locs ++ L) e1.symm (by rw [← e2]; exact X'.warmed.alike) hp hb k1 k2 k3 (by rw [e1]; exact hce) hcv hcl T' rfl X'
    exact ⟨t2, st.trans a1, b1⟩
end
/-! ===== END ===== -/
/-! ===== BEGIN by an interface, a method with a table of its own that may throw (follows va_callIFW, va_runFW) ===== -/
section
variable {p : Program} {l : Launch} {e : Env} {R : Room} {s : State} {m : MethodId} {args : Array Value} {below : List Frame} {meth : Method} {c : Code} {H : Heap} {locs : List Loc} {cells slots : Nat}
theorem vx_callIFW {T : State} (X : Stand p l e R s m args below meth c T locs cells slots) (hexec : p.tables.exec = Jvm.exec) {own C : String} {index count : Nat} {x y : MethodName} {bytes : ByteArray} {maxL : Nat} {ret : Option FieldType} {hh : List (Nat × Nat × Nat × Nat)}
    (hown : s.vm.findClass own = some m.cls) (hlink : (Cond.methodLink own index x).before args s = true) (hdecl : (Cond.declares x).before args s = true) (hface : (Cond.interfaceMethod x.cls x.cls x.name x.desc).before args s = true)
    (hsel : (Cond.selects C x y).before args s = true) (hinst : (Cond.instanceMethod y).before args s = true) (hpub : (Cond.publicMethod y).before args s = true) (hunh : (Cond.unhidden C x.name x.desc).before args s = true)
    (hcast : (Cond.castable C x.cls).before args s = true) (hcode : (Cond.codeWith y bytes maxL ret hh).before args s = true) (hx : x.cls ≠ "java/lang/invoke/MethodHandle" ∧ x.cls ≠ "java/lang/invoke/VarHandle")
    {W : Nat} {Pre : Pt → Array Value → Prop} {Post : Pt → Array Value → Option Value → Pt → Prop} {PostX : Pt → Array Value → Addr → Pt → Prop} (hK : vx_Back l R p e below s args y 5 W Pre Post PostX)
    {b : Addr} {cellB : Cell} {kB : Class} (hcell : T.heap[b]? = some cellB) (hobj : cellB.vm.isStatics = false) (hcls : s.vm.findClass C = some cellB.cls) (hkB : s.vm.classes[cellB.cls]? = some kB)
    {g : JFrame} (hg : g.method = m) (hsize : g.locals.size = c.maxLocals) {argsL rest : List Value} (hlen : ∀ sig, parseMethodDescriptor x.desc = some sig → argsL.length = sig.parameters.length)
    (hstack : g.stack = argsL.reverse ++ .ref b :: rest) (hW : 2 * g.monitorRoom + (rest.map fun v => v.category).sum ≤ W) (hdg : decode c.code g.pc = .ok (.invokeinterface index count, 5))
    (hpre : ∀ vm₁, s.WarmedH vm₁ → Pre ⟨T.setVm vm₁, locs, cells, slots⟩ (Value.ref b :: argsL).toArray) :
    (∃ (v : Option Value) (vm₁ : Vm) (B : Pt), s.WarmedH vm₁ ∧ Stand p l e R s m args below meth c B.U B.locs B.cells B.slots ∧ Post ⟨T.setVm vm₁, locs, cells, slots⟩ (Value.ref b :: argsL).toArray v B ∧
      ∀ target, Steps p.tables e below (B.U.setTop { g with pc := g.pc + 5, stack := v.toList ++ rest }) target → Steps p.tables e below (T.setTop g) target) ∨
    (∃ (q : Addr) (vm₁ : Vm) (B : Pt), s.WarmedH vm₁ ∧ Stand p l e R s m args below meth c B.U B.locs B.cells B.slots ∧ PostX ⟨T.setVm vm₁, locs, cells, slots⟩ (Value.ref b :: argsL).toArray q B ∧
      Steps p.tables e below (T.setTop g) ((B.U.setTop { g with stack := rest }).pushFrame (.throwing q))) := by
  obtain ⟨r0, r, hn, hrm, hstR, hsigR⟩ := Cond.declares_spec hdecl
  obtain ⟨cL, kL, r1, hcL, hkL, hiL, hfoundL, hn1⟩ := Cond.interfaceMethod_spec hface
  cases hn.symm.trans hn1
  have hr0cls : r0.cls = cL := Option.some.inj ((findClass_of_methodNamed hn).symm.trans hcL)
  obtain ⟨hnameR, hdescR⟩ := name_of_methodNamed hn hrm
  obtain ⟨mk, methM, hnamed, hmethM, -, habM⟩ := Cond.instanceMethod_spec hinst
  obtain ⟨c2, r2, m2, q1, q2, q3, q4, -⟩ := Cond.selects_spec hsel
  cases hcls.symm.trans q1
  cases hfoundL.symm.trans q2
  cases hnamed.symm.trans q3
  have hselP : selectMethod e.platform s.vm cellB.cls r0 = .method mk := by rw [Launch.admits_selectMethod X.admits]; exact q4
  have hpubM : hasFlag methM.accessFlags Acc.public_ = true := Cond.publicMethod_spec hnamed hmethM hpub
  have hway : ((cellB.cls :: s.vm.superclasses cellB.cls).any fun k => (declaredIn s.vm r.name r.desc k).any fun (_, z) => z.isPrivate || z.isStatic) = false := by
    rw [hnameR, hdescR]; exact Cond.unhidden_spec hcls hunh
  obtain ⟨c3, t3, w1, w2, w3⟩ := Cond.castable_spec hcast
  cases hcls.symm.trans w1
  cases hcL.symm.trans w2
  obtain ⟨vm₁, X₁, hstep₁⟩ := X.invokeinterface hexec hown hlink hn hrm hstR (by rw [hr0cls]; exact hkL) hiL hx (a := b) (cell := cellB) (kcell := kB) hcell
    (fun z h => by rw [h] at hobj; cases hobj) hkB (by rw [hr0cls]; exact w3) hselP hmethM hway hpubM habM (g := g) hg (argsL := argsL) (rest := rest) (hlen _ hsigR) hstack hdg
  rcases hK m meth c ⟨T.setVm vm₁, locs, cells, slots⟩ { g with stack := rest } (.invokeinterface index count) mk (Value.ref b :: argsL).toArray X₁ hg hsize hdg hW (X₁.named hnamed) (hpre vm₁ X₁.warmed) with ⟨v, B, X', hpost, hsteps⟩ | ⟨q, B, X', hpost, hsteps⟩
  · exact Or.inl ⟨v, vm₁, B, X₁.warmed, X', hpost, fun target h => hstep₁ _ fun acts => by rw [doInvoke_state]; exact hsteps.trans h⟩
  · exact Or.inr ⟨q, vm₁, B, X₁.warmed, X', hpost, hstep₁ _ fun acts => by rw [doInvoke_state]; exact hsteps⟩
theorem vx_runFW {x y : MethodName} {bytes cc : ByteArray} {maxL nL mc ms n index count : Nat} {ret : Option FieldType} {hh : List (Nat × Nat × Nat × Nat)} {ws : List Cond} {rm : Room} {Pc : Array Value → State → Prop} {Qc : Array Value → State → Outcome → State → Prop} {XC : String → State → State → Prop} {free : Addr → Prop} {Ts : List Cond} {own C : String} {cC : ClassId} {b : Addr} {As rest : List Value} {g : JFrame}
    (hat : ClassAt s C cC) (S : CallFix p m c cc nL s args Ts own) (hM : vx_Met l y ws rm Pc Qc XC mc ms free) (cw : va_CIW R s args own C index x y bytes maxL ret hh ws rm mc ms n) (hp : PreV s H C b Pc As)
    (hg : g.method = m) (hn : As.length = n) (hsize : g.locals.size = nL) (hstack : g.stack = As.reverse ++ .ref b :: rest) (hW : 2 * g.monitorRoom + (rest.map fun v => v.category).sum ≤ 8) (hdg : decode cc g.pc = .ok (.invokeinterface index count, 5)) (hf : cells + mc ≤ R.cells ∧ slots + ms ≤ R.slots) :
    vx_Run5 p l e R s m args below meth c H locs cells slots mc ms g rest (Qc (Value.ref b :: As).toArray) XC free := by
  obtain ⟨hrc, hrs, hfr, hlo, hws, hcw⟩ := cw.back
  have hini := cw.init
  have hK : vx_Back l R p e below s args y 5 8 (PreOf R mc ms Pc) (PostOf Qc mc ms free) (vx_Post XC mc ms free) := vx_backW (hh := hh) (bytes := bytes) (maxL := maxL) (ret := ret) hM hp.1 hrc hrs hfr hlo hws hcw (fun a' U hW => word_at hW (Or.inl (by first | rfl | simp [Cond.onTables, Cond.keeps, Cond.steady])) hini)
  obtain ⟨hx, hb, hml, ho, -⟩ := S
  obtain ⟨-, ⟨cellB, hcB, hoB, hclB⟩, hPc⟩ := hp
  obtain ⟨hfc, kB, hkB, -⟩ := hat
  cases hfc.symm.trans hclB
  intro T hT X
  rcases vx_callIFW X hx (C := C) (hh := hh) (bytes := bytes) (maxL := maxL) (ret := ret) ho cw.link cw.decl cw.face cw.sel cw.inst cw.pub cw.unh cw.cast cw.code cw.notMH hK (by rw [hT]; exact hcB) hoB hclB hkB hg (hsize.trans hml.symm) (argsL := As) (rest := rest) (fun sig h => hn.trans (cw.len sig h)) hstack hW (by rw [hb]; exact hdg)
    (fun vm₁ hW₁ => ⟨hf.1, hf.2, hPc (T.setVm vm₁) hT hW₁⟩) with ⟨v, vm₁, ⟨U', l2, c2, s2⟩, hW₁, X', ⟨g', mk, t, L, e1, e2, hq, h1, hL, h2, h3⟩, st⟩ | ⟨q, vm₁, ⟨U', l2, c2, s2⟩, hW₁, X', ⟨g', mk, t, L, E, ce, e1, e2, hq, hce, hcv, hcl, h1, hL, h2, h3⟩, st⟩
  · dsimp only [Pt.U, Pt.locs, Pt.cells, Pt.slots] at X' e1 e2 h1 h2 h3 st
    subst h1; subst h2; subst h3
    exact Or.inl ⟨v, (T.setVm vm₁).calling g' mk (Value.ref b :: As).toArray, t, U', L, hT, X', hL, e1, e2, hq, st⟩
  · dsimp only [Pt.U, Pt.locs, Pt.cells, Pt.slots] at X' e1 e2 h1 h2 h3 st hcl
    subst h1; subst h2; subst h3
    exact Or.inr ⟨q, (T.setVm vm₁).calling g' mk (Value.ref b :: As).toArray, t, U', L, E, ce, hT, X', hL, e1, e2, hq, hce, hcv, vx_cls hW₁ hcl, st⟩
end
/-! ===== END ===== -/
/-! ===== BEGIN .. of methods that hand back an object of the pool ===== -/
section
variable {p : Program} {l : Launch} {e : Env} {R : Room} {s : State} {m : MethodId} {args : Array Value} {below : List Frame} {meth : Method} {c : Code} {H : Heap} {locs : List Loc} {cells slots : Nat} {Q : State → Prop}
variable {mc ms : Nat} {free : Addr → Prop} {A0 A1 : Nat → Prop} {H0 : Heap} {a : Array Value} {pc : Nat} {ls : Array Slot} {st0 rest : List Value}
theorem vx_callq {S SX : Type} {post : Option Nat → S → Prop} {px : SX → Prop} {B : S → State → Prop} {BX : String → SX → State → Prop} {AX : Nat → Prop} (hr : vx_Run p l e R s m args below meth c H locs cells slots mc ms (F0 m pc ls st0) rest (va_Qq post B A1 a) (vx_X px BX AX) free) (hS : va_S A0 H0 H locs) (hA : ∀ q, q < H.size → A1 q → A0 q) (hf : ∀ q, free q → A0 q) (hAX : ∀ q, q < H.size → AX q → A0 q)
    (kx : ∀ (E : String) (ce : Cell) (q9 : Addr) (u : SX) (t : State) (H1 : Heap) (locs1 : List Loc), t.heap = H1 → s.vm.Alike t.vm → px u → BX E u t → H.size ≤ H1.size → (∀ q : Nat, q < H.size → ¬ AX q → H1[q]? = H[q]?) → va_S A0 H0 H1 locs1 → H1[q9]? = some ce → ce.vm = .none → s.vm.findClass E = some ce.cls → vx_W p l e R s m args below meth c H1 locs1 (cells + mc) (slots + ms) Q (F0 m pc ls rest) q9)
    (kk : ∀ (r : Option Nat) (u : S) (t : State) (H1 : Heap) (locs1 : List Loc), t.heap = H1 → s.vm.Alike t.vm → post r u → B u t → H.size ≤ H1.size → (∀ q : Nat, q < H.size → ¬ A1 q → H1[q]? = H[q]?) → va_S A0 H0 H1 locs1 → W p l e R s m args below meth c H1 locs1 (cells + mc) (slots + ms) Q (F0 m (pc + 3) ls (va_rf r :: rest))) : W p l e R s m args below meth c H locs cells slots Q (F0 m pc ls st0) := by
  intro T hT X
  rcases hr T hT X with ⟨v, st₀, t, T', L, h0, X', hL, e1, e2, ⟨⟨r, u, hv, hp, hb⟩, hF⟩, st⟩ | ⟨q, st₀, t, T', L, E, ce, h0, X', hL, e1, e2, ⟨u, hp, hb, hF⟩, hce, hcv, hcl, st⟩
  · cases hv
    obtain ⟨k1, k2, k3⟩ := vx_keep h0 e1 hS hA hf hL hF
    obtain ⟨t2, a1, b1⟩ := kk r u t T'.heap (locs ++ L) e1.symm (by rw [← e2]; exact X'.warmed.alike) hp hb k1 k2 k3 T' rfl X'
    exact ⟨t2, st t2 a1, b1⟩
  · obtain ⟨k1, k2, k3⟩ := vx_keep h0 e1 hS hAX hf hL hF
    obtain ⟨t2, a1, b1⟩ := kx E ce q u t T'.heap (locs ++ L) e1.symm (by rw [← e2]; exact X'.warmed.alike) hp hb k1 k2 k3 (by rw [e1]; exact hce) hcv hcl T' rfl X'
    exact ⟨t2, st.trans a1, b1⟩
end
/-! ===== END ===== -/
/-! ===== BEGIN .. a constant ===== -/
section
variable {p : Program} {l : Launch} {e : Env} {R : Room} {s : State} {m : MethodId} {args : Array Value} {below : List Frame} {meth : Method} {c : Code} {H : Heap} {locs : List Loc} {cells slots : Nat} {Q : State → Prop}
variable {mc ms : Nat} {free : Addr → Prop} {A0 A1 : Nat → Prop} {H0 : Heap} {a : Array Value} {pc : Nat} {ls : Array Slot} {st0 rest : List Value}
theorem vx_calle {ad : Nat → Nat} {S SX : Type} {post : Option Nat → S → Prop} {px : SX → Prop} {B : S → State → Prop} {BX : String → SX → State → Prop} {AX : Nat → Prop} (hr : vx_Run p l e R s m args below meth c H locs cells slots mc ms (F0 m pc ls st0) rest (va_Qe ad post B A1 a) (vx_X px BX AX) free) (hS : va_S A0 H0 H locs) (hA : ∀ q, q < H.size → A1 q → A0 q) (hf : ∀ q, free q → A0 q) (hAX : ∀ q, q < H.size → AX q → A0 q)
    (kx : ∀ (E : String) (ce : Cell) (q9 : Addr) (u : SX) (t : State) (H1 : Heap) (locs1 : List Loc), t.heap = H1 → s.vm.Alike t.vm → px u → BX E u t → H.size ≤ H1.size → (∀ q : Nat, q < H.size → ¬ AX q → H1[q]? = H[q]?) → va_S A0 H0 H1 locs1 → H1[q9]? = some ce → ce.vm = .none → s.vm.findClass E = some ce.cls → vx_W p l e R s m args below meth c H1 locs1 (cells + mc) (slots + ms) Q (F0 m pc ls rest) q9)
    (kk : ∀ (r : Option Nat) (u : S) (t : State) (H1 : Heap) (locs1 : List Loc), t.heap = H1 → s.vm.Alike t.vm → post r u → B u t → H.size ≤ H1.size → (∀ q : Nat, q < H.size → ¬ A1 q → H1[q]? = H[q]?) → va_S A0 H0 H1 locs1 → W p l e R s m args below meth c H1 locs1 (cells + mc) (slots + ms) Q (F0 m (pc + 3) ls (va_re ad r :: rest))) : W p l e R s m args below meth c H locs cells slots Q (F0 m pc ls st0) := by
  intro T hT X
  rcases hr T hT X with ⟨v, st₀, t, T', L, h0, X', hL, e1, e2, ⟨⟨r, u, hv, hp, hb⟩, hF⟩, st⟩ | ⟨q, st₀, t, T', L, E, ce, h0, X', hL, e1, e2, ⟨u, hp, hb, hF⟩, hce, hcv, hcl, st⟩
  · cases hv
    obtain ⟨k1, k2, k3⟩ := vx_keep h0 e1 hS hA hf hL hF
    obtain ⟨t2, a1, b1⟩ := kk r u t T'.heap (locs ++ L) e1.symm (by rw [← e2]; exact X'.warmed.alike) hp hb k1 k2 k3 T' rfl X'
    exact ⟨t2, st t2 a1, b1⟩
  · obtain ⟨k1, k2, k3⟩ := vx_keep h0 e1 hS hAX hf hL hF
    obtain ⟨t2, a1, b1⟩ := kx E ce q u t T'.heap (locs ++ L) e1.symm (by rw [← e2]; exact X'.warmed.alike) hp hb k1 k2 k3 (by rw [e1]; exact hce) hcv hcl T' rfl X'
    exact ⟨t2, st.trans a1, b1⟩
end
/-! ===== END ===== -/
/-! ===== BEGIN .. by an interface, an object ===== -/
section
variable {p : Program} {l : Launch} {e : Env} {R : Room} {s : State} {m : MethodId} {args : Array Value} {below : List Frame} {meth : Method} {c : Code} {H : Heap} {locs : List Loc} {cells slots : Nat} {Q : State → Prop}
variable {mc ms : Nat} {free : Addr → Prop} {A0 A1 : Nat → Prop} {H0 : Heap} {a : Array Value} {pc : Nat} {ls : Array Slot} {st0 rest : List Value}
theorem vx_callFq {S SX : Type} {post : Option Nat → S → Prop} {px : SX → Prop} {B : S → State → Prop} {BX : String → SX → State → Prop} {AX : Nat → Prop} (hr : vx_Run5 p l e R s m args below meth c H locs cells slots mc ms (F0 m pc ls st0) rest (va_Qq post B A1 a) (vx_X px BX AX) free) (hS : va_S A0 H0 H locs) (hA : ∀ q, q < H.size → A1 q → A0 q) (hf : ∀ q, free q → A0 q) (hAX : ∀ q, q < H.size → AX q → A0 q)
    (kx : ∀ (E : String) (ce : Cell) (q9 : Addr) (u : SX) (t : State) (H1 : Heap) (locs1 : List Loc), t.heap = H1 → s.vm.Alike t.vm → px u → BX E u t → H.size ≤ H1.size → (∀ q : Nat, q < H.size → ¬ AX q → H1[q]? = H[q]?) → va_S A0 H0 H1 locs1 → H1[q9]? = some ce → ce.vm = .none → s.vm.findClass E = some ce.cls → vx_W p l e R s m args below meth c H1 locs1 (cells + mc) (slots + ms) Q (F0 m pc ls rest) q9)
    (kk : ∀ (r : Option Nat) (u : S) (t : State) (H1 : Heap) (locs1 : List Loc), t.heap = H1 → s.vm.Alike t.vm → post r u → B u t → H.size ≤ H1.size → (∀ q : Nat, q < H.size → ¬ A1 q → H1[q]? = H[q]?) → va_S A0 H0 H1 locs1 → W p l e R s m args below meth c H1 locs1 (cells + mc) (slots + ms) Q (F0 m (pc + 5) ls (va_rf r :: rest))) : W p l e R s m args below meth c H locs cells slots Q (F0 m pc ls st0) := by
  intro T hT X
  rcases hr T hT X with ⟨v, st₀, t, T', L, h0, X', hL, e1, e2, ⟨⟨r, u, hv, hp, hb⟩, hF⟩, st⟩ | ⟨q, st₀, t, T', L, E, ce, h0, X', hL, e1, e2, ⟨u, hp, hb, hF⟩, hce, hcv, hcl, st⟩
  · cases hv
    obtain ⟨k1, k2, k3⟩ := vx_keep h0 e1 hS hA hf hL hF
    obtain ⟨t2, a1, b1⟩ := kk r u t T'.heap (locs ++ L) e1.symm (by rw [← e2]; exact X'.warmed.alike) hp hb k1 k2 k3 T' rfl X'
    exact ⟨t2, st t2 a1, b1⟩
  · obtain ⟨k1, k2, k3⟩ := vx_keep h0 e1 hS hAX hf hL hF
    obtain ⟨t2, a1, b1⟩ := kx E ce q u t T'.heap (locs ++ L) e1.symm (by rw [← e2]; exact X'.warmed.alike) hp hb k1 k2 k3 (by rw [e1]; exact hce) hcv hcl T' rfl X'
    exact ⟨t2, st.trans a1, b1⟩
end
/-! ===== END ===== -/
/-! ===== BEGIN .. by an interface, a constant ===== -/
section
variable {p : Program} {l : Launch} {e : Env} {R : Room} {s : State} {m : MethodId} {args : Array Value} {below : List Frame} {meth : Method} {c : Code} {H : Heap} {locs : List Loc} {cells slots : Nat} {Q : State → Prop}
variable {mc ms : Nat} {free : Addr → Prop} {A0 A1 : Nat → Prop} {H0 : Heap} {a : Array Value} {pc : Nat} {ls : Array Slot} {st0 rest : List Value}
theorem vx_callFe {ad : Nat → Nat} {S SX : Type} {post : Option Nat → S → Prop} {px : SX → Prop} {B : S → State → Prop} {BX : String → SX → State → Prop} {AX : Nat → Prop} (hr : vx_Run5 p l e R s m args below meth c H locs cells slots mc ms (F0 m pc ls st0) rest (va_Qe ad post B A1 a) (vx_X px BX AX) free) (hS : va_S A0 H0 H locs) (hA : ∀ q, q < H.size → A1 q → A0 q) (hf : ∀ q, free q → A0 q) (hAX : ∀ q, q < H.size → AX q → A0 q)
    (kx : ∀ (E : String) (ce : Cell) (q9 : Addr) (u : SX) (t : State) (H1 : Heap) (locs1 : List Loc), t.heap = H1 → s.vm.Alike t.vm → px u → BX E u t → H.size ≤ H1.size → (∀ q : Nat, q < H.size → ¬ AX q → H1[q]? = H[q]?) → va_S A0 H0 H1 locs1 → H1[q9]? = some ce → ce.vm = .none → s.vm.findClass E = some ce.cls → vx_W p l e R s m args below meth c H1 locs1 (cells + mc) (slots + ms) Q (F0 m pc ls rest) q9)
    (kk : ∀ (r : Option Nat) (u : S) (t : State) (H1 : Heap) (locs1 : List Loc), t.heap = H1 → s.vm.Alike t.vm → post r u → B u t → H.size ≤ H1.size → (∀ q : Nat, q < H.size → ¬ A1 q → H1[q]? = H[q]?) → va_S A0 H0 H1 locs1 → W p l e R s m args below meth c H1 locs1 (cells + mc) (slots + ms) Q (F0 m (pc + 5) ls (va_re ad r :: rest))) : W p l e R s m args below meth c H locs cells slots Q (F0 m pc ls st0) := by
  intro T hT X
  rcases hr T hT X with ⟨v, st₀, t, T', L, h0, X', hL, e1, e2, ⟨⟨r, u, hv, hp, hb⟩, hF⟩, st⟩ | ⟨q, st₀, t, T', L, E, ce, h0, X', hL, e1, e2, ⟨u, hp, hb, hF⟩, hce, hcv, hcl, st⟩
  · cases hv
    obtain ⟨k1, k2, k3⟩ := vx_keep h0 e1 hS hA hf hL hF
    obtain ⟨t2, a1, b1⟩ := kk r u t T'.heap (locs ++ L) e1.symm (by rw [← e2]; exact X'.warmed.alike) hp hb k1 k2 k3 T' rfl X'
    exact ⟨t2, st t2 a1, b1⟩
  · obtain ⟨k1, k2, k3⟩ := vx_keep h0 e1 hS hAX hf hL hF
    obtain ⟨t2, a1, b1⟩ := kx E ce q u t T'.heap (locs ++ L) e1.symm (by rw [← e2]; exact X'.warmed.alike) hp hb k1 k2 k3 (by rw [e1]; exact hce) hcv hcl T' rfl X'
    exact ⟨t2, st.trans a1, b1⟩
end
/-! ===== END ===== -/
/-! ===== BEGIN what the machine throws by itself: null at a field, at athrow ===== -/
section VXM2
variable {p : Program} {l : Launch} {e : Env} {R : Room} {s : State} {m : MethodId} {args : Array Value} {below : List Frame} {meth : Method} {c : Code} {H : Heap} {locs : List Loc} {cells slots : Nat}
variable {Q : State → Prop} {cc : ByteArray} {pc : Nat} {ls : Array Slot} {rest : List Value}
theorem vx_getfN {D cl tys} {own ref C : String} {T : u_T} {N ci index : Nat} {Ts : List Cond} (hexec : p.tables.exec = Jvm.exec) (hb : c.code = cc) (hts : ∀ w ∈ Ts, w.before args s = true) (hin : ∀ w ∈ u_ws C T N, w ∈ Ts) (hown : s.vm.findClass own = some m.cls) (hK : va_K D cl tys s) (hc : cl[ci]? = some (C, T, N)) (k : Nat) (hk : k < N) (hlink : (Cond.fieldLink own index ref (T k).2.1 (T k).2.2.1).before args s = true) (hsame : ∀ x, s.fieldFound? (T k).1 (T k).2.1 (T k).2.2.1 = some x → s.fieldFound? ref (T k).2.1 (T k).2.2.1 = some x) (hdg : decode cc pc = .ok (.getfield index, 3)) (kk : vx_NoteN p l e R s m args below meth c H locs cells slots Q (F0 m pc ls rest)) : W p l e R s m args below meth c H locs cells slots Q (F0 m pc ls (.null :: rest)) := by
  obtain ⟨hS, hfc, kC, hkC, -⟩ := hK.1 ci _ hc
  obtain ⟨cf, kf, fi, f, hi, -⟩ := hS k hk
  intro U hU X
  obtain ⟨vm', X1, st1⟩ := X.getfieldNull hexec hown hlink (hsame _ hi) (u_facts hfc hkC (u_lays hts hin hk) hi).1 (g := F0 m pc ls (.null :: rest)) rfl (rest := rest) rfl (by rw [hb]; exact hdg)
  obtain ⟨t, st, q⟩ := kk (U.setVm vm') hU X1
  exact ⟨t, st1 t st, q⟩
theorem vx_getfNN {D cl tys} {own ref C host : String} {T : u_T} {N ci index : Nat} {Ts : List Cond} (hexec : p.tables.exec = Jvm.exec) (hb : c.code = cc) (hts : ∀ w ∈ Ts, w.before args s = true) (hin : ∀ w ∈ u_ws C T N, w ∈ Ts) (hown : s.vm.findClass own = some m.cls) (hK : va_K D cl tys s) (hc : cl[ci]? = some (C, T, N)) (k : Nat) (hk : k < N) (hlink : (Cond.fieldLinkNest own index ref (T k).2.1 (T k).2.2.1 host).before args s = true) (hsame : ∀ x, s.fieldFound? (T k).1 (T k).2.1 (T k).2.2.1 = some x → s.fieldFound? ref (T k).2.1 (T k).2.2.1 = some x) (hdg : decode cc pc = .ok (.getfield index, 3)) (kk : vx_NoteN p l e R s m args below meth c H locs cells slots Q (F0 m pc ls rest)) : W p l e R s m args below meth c H locs cells slots Q (F0 m pc ls (.null :: rest)) := by
  obtain ⟨hS, hfc, kC, hkC, -⟩ := hK.1 ci _ hc
  obtain ⟨cf, kf, fi, f, hi, -⟩ := hS k hk
  intro U hU X
  obtain ⟨vm', X1, st1⟩ := X.getfieldNullNest hexec hown hlink (hsame _ hi) (u_facts hfc hkC (u_lays hts hin hk) hi).1 (g := F0 m pc ls (.null :: rest)) rfl (rest := rest) rfl (by rw [hb]; exact hdg)
  obtain ⟨t, st, q⟩ := kk (U.setVm vm') hU X1
  exact ⟨t, st1 t st, q⟩
theorem vx_putfN {D cl tys} {own ref C : String} {T : u_T} {N ci index : Nat} {Ts : List Cond} (hexec : p.tables.exec = Jvm.exec) (hb : c.code = cc) (hts : ∀ w ∈ Ts, w.before args s = true) (hin : ∀ w ∈ u_ws C T N, w ∈ Ts) (hown : s.vm.findClass own = some m.cls) (hK : va_K D cl tys s) (hc : cl[ci]? = some (C, T, N)) (k : Nat) (hk : k < N) (hlink : (Cond.fieldLink own index ref (T k).2.1 (T k).2.2.1).before args s = true) (hsame : ∀ x, s.fieldFound? (T k).1 (T k).2.1 (T k).2.2.1 = some x → s.fieldFound? ref (T k).2.1 (T k).2.2.1 = some x) (hfin : (T k).2.2.2 = false) {v : Value} (hdg : decode cc pc = .ok (.putfield index, 3)) (kk : vx_NoteN p l e R s m args below meth c H locs cells slots Q (F0 m pc ls rest)) : W p l e R s m args below meth c H locs cells slots Q (F0 m pc ls (v :: .null :: rest)) := by
  obtain ⟨hS, hfc, kC, hkC, -⟩ := hK.1 ci _ hc
  obtain ⟨cf, kf, fi, f, hi, -⟩ := hS k hk
  have hlay := hts _ (hin _ (u_in_lay hk))
  unfold u_lay at hlay
  rw [if_neg (by rw [hfin]; decide)] at hlay
  obtain ⟨c9, k9, cf9, kf9, fi9, f9, -, -, hi9, hst9, hnf9, -⟩ := Cond.lays_spec hlay
  cases hi.symm.trans hi9
  intro U hU X
  obtain ⟨vm', X1, st1⟩ := X.putfieldNull hexec hown hlink (hsame _ hi) hst9 hnf9 (g := F0 m pc ls (v :: .null :: rest)) rfl (v := v) (rest := rest) rfl (by rw [hb]; exact hdg)
  obtain ⟨t, st, q⟩ := kk (U.setVm vm') hU X1
  exact ⟨t, st1 t st, q⟩
theorem vx_putfNN {D cl tys} {own ref C host : String} {T : u_T} {N ci index : Nat} {Ts : List Cond} (hexec : p.tables.exec = Jvm.exec) (hb : c.code = cc) (hts : ∀ w ∈ Ts, w.before args s = true) (hin : ∀ w ∈ u_ws C T N, w ∈ Ts) (hown : s.vm.findClass own = some m.cls) (hK : va_K D cl tys s) (hc : cl[ci]? = some (C, T, N)) (k : Nat) (hk : k < N) (hlink : (Cond.fieldLinkNest own index ref (T k).2.1 (T k).2.2.1 host).before args s = true) (hsame : ∀ x, s.fieldFound? (T k).1 (T k).2.1 (T k).2.2.1 = some x → s.fieldFound? ref (T k).2.1 (T k).2.2.1 = some x) (hfin : (T k).2.2.2 = false) {v : Value} (hdg : decode cc pc = .ok (.putfield index, 3)) (kk : vx_NoteN p l e R s m args below meth c H locs cells slots Q (F0 m pc ls rest)) : W p l e R s m args below meth c H locs cells slots Q (F0 m pc ls (v :: .null :: rest)) := by
  obtain ⟨hS, hfc, kC, hkC, -⟩ := hK.1 ci _ hc
  obtain ⟨cf, kf, fi, f, hi, -⟩ := hS k hk
  have hlay := hts _ (hin _ (u_in_lay hk))
  unfold u_lay at hlay
  rw [if_neg (by rw [hfin]; decide)] at hlay
  obtain ⟨c9, k9, cf9, kf9, fi9, f9, -, -, hi9, hst9, hnf9, -⟩ := Cond.lays_spec hlay
  cases hi.symm.trans hi9
  intro U hU X
  obtain ⟨vm', X1, st1⟩ := X.putfieldNullNest hexec hown hlink (hsame _ hi) hst9 hnf9 (g := F0 m pc ls (v :: .null :: rest)) rfl (v := v) (rest := rest) rfl (by rw [hb]; exact hdg)
  obtain ⟨t, st, q⟩ := kk (U.setVm vm') hU X1
  exact ⟨t, st1 t st, q⟩
theorem vx_athrowN (hexec : p.tables.exec = Jvm.exec) (hb : c.code = cc) (hdg : decode cc pc = .ok (.athrow, 1)) (k : vx_NoteN p l e R s m args below meth c H locs cells slots Q (F0 m pc ls rest)) : W p l e R s m args below meth c H locs cells slots Q (F0 m pc ls (.null :: rest)) := by
  intro T hT X
  obtain ⟨t, st, q⟩ := k T hT X
  exact ⟨t, X.athrowNull hexec (g := F0 m pc ls (.null :: rest)) rfl (rest := rest) rfl (by rw [hb]; exact hdg) t st, q⟩
end VXM2
/-! ===== END ===== -/
end
section
/-! throws of an exception whose own constructor reaches super by another index; turned from kit/laws/EXCEPTIONS.to-paste -/
def cx_chA (X : String) (ix : Nat) (rx : ByteArray) : List String → List Cond
  | [] => Bundle.passSAtoms X Bundle.tN ix rx
  | Y :: r => Bundle.passSAtoms X Y ix rx ++ Bundle.chainSAtoms Y r
def cx_oX (own : String) (ic : Nat) (X : String) (ix : Nat) (rx : ByteArray) (names : List String) : List Cond :=
  Bundle.throwableAtoms ++ Bundle.throwableSAtoms ++ cx_chA X ix rx names ++
  [.methodLink own ic (Bundle.initS X), .instantiable X 6, .castable X X, .selects X Bundle.tFill0 Bundle.tFill0, .selects X Bundle.tFill Bundle.tFill,
   .lays X Bundle.tN "cause" "Ljava/lang/Throwable;", .lays X Bundle.tN "stackTrace" Bundle.steD, .lays X Bundle.tN "suppressedExceptions" Bundle.listD, .lays X Bundle.tN "detailMessage" "Ljava/lang/String;",
   .isRef (.static Bundle.tN "UNASSIGNED_STACK" Bundle.steD), .isRef (.static Bundle.tN "SUPPRESSED_SENTINEL" Bundle.listD),
   .fieldLink Bundle.tN 198 Bundle.tN "backtrace" "Ljava/lang/Object;", .lays Bundle.tN Bundle.tN "backtrace" "Ljava/lang/Object;", .lays X Bundle.tN "backtrace" "Ljava/lang/Object;"]
def cx_aX (own : String) (ic : Nat) (X : String) (ix : Nat) (rx : ByteArray) (names : List String) : List Cond := (cx_oX own ic X ix rx names).filter vx_no
theorem cx_chain {args : Array Value} {s : State} {pl : Platform} (hpl : pl.magicAccessors = ({} : Platform).magicAccessors) {top : MethodId} (htop : s.methodNamed? (Bundle.initS Bundle.tN) = some top) {ix : Nat} {rx : ByteArray} (x0 : decode rx 0 = .ok (.aload_n 0, 1)) (x1 : decode rx 1 = .ok (.aload_n 1, 1)) (x2 : decode rx 2 = .ok (.invokespecial ix, 3)) (x5 : decode rx 5 = .ok (.return_, 1)) (names : List String) (X : String) (hX : Bundle.fit X = true) (hn : ∀ n ∈ names, Bundle.fit n = true) (h : ∀ c ∈ cx_chA X ix rx names, c.before args s = true) :
    ∃ (P1 : PassC) (Ps : List PassC), Ps.length = names.length ∧ P1.LinksS pl s ∧ (∀ P, P ∈ Ps → P.LinksS pl s) ∧ s.methodNamed? (Bundle.initS X) = some P1.m ∧ P1.sup = firstOf top (Ps.map (·.toPassT)) ∧ PassesOn top (Ps.map (·.toPassT)) := by
  cases names with
  | nil =>
    obtain ⟨P, L, hm, hs⟩ := PassC.ofS_atoms (args := args) (s := s) hpl (X := X) (Y := Bundle.tN) (Bundle.fit_spec hX).1 (by decide) x0 x1 x2 x5 h
    exact ⟨P, [], rfl, L, fun _ q => (nomatch q), hm, Option.some.inj (hs.symm.trans htop), trivial⟩
  | cons Y r =>
    have h1 : ∀ c ∈ Bundle.passSAtoms X Y ix rx, c.before args s = true := fun c hc => h c (List.mem_append_left _ hc)
    have h2 : ∀ c ∈ Bundle.chainSAtoms Y r, c.before args s = true := fun c hc => h c (List.mem_append_right _ hc)
    obtain ⟨P, L, hm, hs⟩ := PassC.ofS_atoms (args := args) (s := s) hpl (X := X) (Y := Y) (Bundle.fit_spec hX).1 (Bundle.fit_spec (hn Y List.mem_cons_self)).2 x0 x1 x2 x5 h1
    obtain ⟨P2, Ps, e1, e2, e3, e4, e5, e6⟩ := Bundle.chainS (args := args) hpl htop r Y (hn Y List.mem_cons_self) (fun n q => hn n (List.mem_cons_of_mem _ q)) h2
    refine ⟨P, P2 :: Ps, by simp [e1], L, fun Q hQ => ?_, hm, Option.some.inj (hs.symm.trans e4), e5, e6⟩
    rcases List.mem_cons.mp hQ with rfl | q
    · exact e2
    · exact e3 Q q
section CXXA
variable {p : Program} {l : Launch} {e : Env} {R : Room} {s : State} {m₀ : MethodId} {args : Array Value} {below : List Frame} {meth : Method} {c : Code} {W : State} {locs : List Loc} {cells slots : Nat}
set_option maxHeartbeats 1000000 in
theorem cx_ctorX (X : Stand p l e R s m₀ args below meth c W locs cells slots) (hexec : p.tables.exec = Jvm.exec) (htr : e.platform.stackTraces = false) {own cls : String} {names : List String} {ic : Nat}
    {ix : Nat} {rx : ByteArray} (x0 : decode rx 0 = .ok (.aload_n 0, 1)) (x1 : decode rx 1 = .ok (.aload_n 1, 1)) (x2 : decode rx 2 = .ok (.invokespecial ix, 3)) (x5 : decode rx 5 = .ok (.return_, 1))
    (hown : s.vm.findClass own = some m₀.cls) (hcls : Bundle.fit cls = true) (hnames : ∀ n ∈ names, Bundle.fit n = true)
    (h : ∀ a ∈ cx_oX own ic cls ix rx names, a.before args s = true)
    (hlocs : ∀ x ∈ locs, ∀ cell, s.heap[x.base]? = some cell → cell.vm.isStatics = false)
    {a : Addr} {cX : ClassId} {kX : Class} (hfoundX : s.vm.findClass cls = some cX) (hkX : s.vm.classes[cX]? = some kX) (hcell : W.heap[a]? = some (freshCell cX kX)) (hnew : s.heap.size ≤ a)
    {msg : Value} (hmsg : msg.isRef = true)
    {g : JFrame} (hg : g.method = m₀) (hsize : g.locals.size = c.maxLocals) {rest : List Value} (hstack : g.stack = msg :: .ref a :: .ref a :: rest)
    (hd6 : decode c.code g.pc = .ok (.invokespecial ic, 3))
    (hRframes : names.length + 3 < R.frames) (hRlocals : 2 * g.monitorRoom + ((Value.ref a :: rest).map fun v => v.category).sum + (13 * (names.length + 1) + 42) ≤ R.locals) :
    ∃ (V : State) (ce : Cell) (L : List Loc), Stand p l e R s m₀ args below meth c (V.setCell a ce) (locs ++ L) cells slots ∧ (∀ y ∈ L, y.base = a) ∧ a < V.heap.size ∧ ce.cls = cX ∧ ce.vm = .none ∧
      ∀ target, Steps p.tables e below ((V.setCell a ce).setTop { g with stack := .ref a :: rest, pc := g.pc + 3 }) target → Steps p.tables e below (W.setTop g) target := by
  have howns : e.platform.frameOwnsMonitors = true := by rw [X.admits.platform]
  have hfin : e.platform.finalization = false := by rw [X.admits.platform]
  have hpl : e.platform.magicAccessors = ({} : Platform).magicAccessors := by rw [X.admits.platform]
  have a' : ∀ x, x ∈ cx_oX own ic cls ix rx names → x.holds args s none s [] = true := fun x hx => h x hx
  obtain ⟨T, Z0, L, -, Y⟩ := ThrowableC.of_atoms (args := args) howns hfin hpl (fun x hx => h x (by simp [cx_oX, hx]))
  obtain ⟨Z, M, LZ, LM, hnZ⟩ := Init0T.ofS_atoms (args := args) hpl L Y (fun x hx => h x (by simp [cx_oX, hx]))
  obtain ⟨P1, Ps, hlen, L1, hL, hP1m, hlink1, hlink⟩ := cx_chain (args := args) hpl hnZ x0 x1 x2 x5 names cls hcls hnames (fun x hx => h x (by simp [cx_oX, hx]))
  have hfound : s.vm.findClass cls = some P1.m.cls := findClass_of_methodNamed hP1m
  cases Option.some.inj (hfoundX.symm.trans hfound)
  obtain ⟨c1, kX', hc1, hk, hord, -, -, hn6⟩ := Cond.instantiable_spec (a' (.instantiable cls 6) (by simp [cx_oX]))
  cases Option.some.inj (hc1.symm.trans hfound)
  cases Option.some.inj (hkX.symm.trans hk)
  have hsel0 : selectMethod e.platform s.vm P1.m.cls T.fill0 = .method T.fill0 := by
    obtain ⟨c2, r2, m2, q1, q2, q3, q4, -⟩ := Cond.selects_spec (a' (.selects cls Bundle.tFill0 Bundle.tFill0) (by simp [cx_oX]))
    cases Option.some.inj (q1.symm.trans hfound)
    cases Option.some.inj (q2.symm.trans (State.methodFound?_of_named Y.fill0 (by decide)))
    cases Option.some.inj (q3.symm.trans Y.fill0)
    rw [Launch.admits_selectMethod X.admits]; exact q4
  have hselF : selectMethod e.platform s.vm P1.m.cls T.fill = .method T.fill := by
    obtain ⟨c2, r2, m2, q1, q2, q3, q4, -⟩ := Cond.selects_spec (a' (.selects cls Bundle.tFill Bundle.tFill) (by simp [cx_oX]))
    cases Option.some.inj (q1.symm.trans hfound)
    cases Option.some.inj (q2.symm.trans (State.methodFound?_of_named Y.fill (by decide)))
    cases Option.some.inj (q3.symm.trans Y.fill)
    rw [Launch.admits_selectMethod X.admits]; exact q4
  obtain ⟨cellS0, hcS0, hiss⟩ := Y.statics
  obtain ⟨u0, hu0⟩ := Cond.staticRefV Y.unassigned L.unassignedStatic L.statics hcS0 hiss (a' (.isRef (.static Bundle.tN "UNASSIGNED_STACK" Bundle.steD)) (by simp [cx_oX]))
  obtain ⟨sen, hsen⟩ := Cond.staticRefV Y.sentinel L.sentinelStatic L.statics hcS0 hiss (a' (.isRef (.static Bundle.tN "SUPPRESSED_SENTINEL" Bundle.listD)) (by simp [cx_oX]))
  obtain ⟨ci198, i198, fB, hk198, hg198, ha198, hsB, -, hnB, htB, hffB⟩ := Cond.ownField (t := .object "java/lang/Object") Y.found L.cls (by decide +kernel) (a' (.fieldLink Bundle.tN 198 Bundle.tN "backtrace" "Ljava/lang/Object;") (by simp [cx_oX])) (a' (.lays Bundle.tN Bundle.tN "backtrace" "Ljava/lang/Object;") (by simp [cx_oX])) e.platform hpl
  obtain ⟨cellS, hcS', heS, -, hkeep⟩ := X.same.2.2.2.2.2 T.aS cellS0 hcS0
  have hcellS : W.heap[T.aS]? = some cellS := hcS'
  have hout' : ∀ i, (⟨T.aS, i⟩ : Loc) ∉ locs := fun i hmem => by
    have := hlocs _ hmem cellS0 hcS0
    rw [hiss] at this; cases this
  have hknownS : cellS.vm ≠ .unknown := by
    rw [heS]; intro hu
    rw [show cellS0.vm = .unknown from hu] at hiss
    cases hiss
  have hneS : T.aS ≠ a := Nat.ne_of_lt (Nat.lt_of_lt_of_le (Array.getElem?_eq_some_iff.mp hcS0).1 hnew)
  obtain ⟨iM, hffM⟩ := Y.msg
  obtain ⟨tyC, dC, hdC, hdnC⟩ := Cond.laysAt hfound hk Y.cause (a' (.lays cls Bundle.tN "cause" "Ljava/lang/Throwable;") (by simp [cx_oX]))
  obtain ⟨tyS, dS, hdS, hdnS⟩ := Cond.laysAt hfound hk Y.stack (a' (.lays cls Bundle.tN "stackTrace" Bundle.steD) (by simp [cx_oX]))
  obtain ⟨tyP, dP, hdP, hdnP⟩ := Cond.laysAt hfound hk Y.supp (a' (.lays cls Bundle.tN "suppressedExceptions" Bundle.listD) (by simp [cx_oX]))
  obtain ⟨tyM, dM, hdM, hdnM⟩ := Cond.laysAt hfound hk hffM (a' (.lays cls Bundle.tN "detailMessage" "Ljava/lang/String;") (by simp [cx_oX]))
  obtain ⟨tyB, dB, hdB, hdnB⟩ := Cond.laysAt hfound hk hffB (a' (.lays cls Bundle.tN "backtrace" "Ljava/lang/Object;") (by simp [cx_oX]))
  have bC := Cond.laysApart hdB hdC hdnB hdnC (by rw [hnB, Y.causeName]; decide)
  have bS := Cond.laysApart hdB hdS hdnB hdnS (by rw [hnB, Y.stackName]; decide)
  have bP := Cond.laysApart hdB hdP hdnB hdnP (by rw [hnB, Y.suppName]; decide)
  have hskip : SkipFacts T e.platform s (fun u => u) u0 ((preparedCellV T.toThrowableT (freshCell P1.m.cls kX) a u0 sen).withEntry W.cur) :=
    ⟨{ ci198 := ci198, i198 := i198, fBack := fB }, ⟨hk198, hg198, ha198, hsB⟩, by
      have := fresh_default (c := P1.m.cls) tyB
      rw [htB] at this
      simpa [preparedCellV, Cell.setSlot, Cell.withEntry, Array.getElem?_setIfInBounds, bC, bS, bP, bC.symm, bS.symm, bP.symm, defaultValue] using this, fun _ _ => rfl⟩
  obtain ⟨tm, methC, cdC, kC, vm₁, hnC, -, -, -, -, -, -, -, hW₁, st1⟩ := Steps.initColdS (tb := p.tables) (e := e) (below := below) (s := s) (U := W) X.here hexec X.warmed hpl hown (t := Bundle.initS cls) rfl rfl (Bundle.fit_spec hcls).2
    (a' (.methodLink own ic (Bundle.initS cls)) (by simp [cx_oX])) (h (.instanceMethod (Bundle.initS cls)) (by cases names <;> simp [cx_oX, cx_chA, Bundle.passSAtoms])) (bytes := rx) (maxL := 2) (h (.code (Bundle.initS cls) rx 2 none) (by cases names <;> simp [cx_oX, cx_chA, Bundle.passSAtoms]))
    (f := g) hg (a := a) (msg := msg) (rest := .ref a :: rest) hstack hd6
  cases Option.some.inj (hnC.symm.trans hP1m)
  have X₁ := X.noted hW₁
  obtain ⟨vm₂, X₂, st2⟩ := X₁.ctorMessageOffV hexec (g := { g with stack := .ref a :: rest }) hg hsize T L Z LZ M LM (P1 :: Ps)
    (fun P hP => by rcases List.mem_cons.mp hP with rfl | hP; exact L1; exact hL P hP) ⟨hlink1, hlink⟩ (u0 := u0) (sen := sen) (self := a) hmsg (cell := freshCell P1.m.cls kX) (cellS := cellS)
    hcell (fun _ => by simp) (by simp) rfl rfl hsel0 hselF hcellS hneS hknownS (by rw [hkeep _ (hout' _)]; exact hu0) (by rw [hkeep _ (hout' _)]; exact hsen)
    (Takes.of_laid hk hord tyC (by rw [Y.causeType]; rfl)) (Takes.of_laid hk hord tyS (by rw [Y.stackType]; exact fits_refV_array _ u0)) (Takes.of_laid hk hord tyP (by rw [Y.suppType]; exact fits_refV_object _ sen))
    (Takes.of_laid hk hord tyM (by rw [Y.msgType]; exact fits_refV_object _ ⟨msg, hmsg⟩)) Y.objLocals hskip htr [] hd6
    (by simp only [List.length_cons, hlen]; omega) (by simp only [List.length_cons, hlen]; exact hRlocals)
  have hlt : a < ((W.setVm vm₁).setVm vm₂).heap.size := (Array.getElem?_eq_some_iff.mp hcell).1
  refine ⟨(W.setVm vm₁).setVm vm₂, _, _, X₂, fun y hy => ?_, hlt, rfl, rfl, fun target hwalk => st1 _ (fun acts => ?_)⟩
  · simp only [List.mem_cons, List.not_mem_nil, or_false] at hy
    rcases hy with rfl | rfl | rfl | rfl | rfl <;> rfl
  · rw [doInvoke_state]
    exact st2 _ hwalk
end CXXA
section CXXB
variable {p : Program} {l : Launch} {e : Env} {R : Room} {s : State} {m : MethodId} {args : Array Value} {below : List Frame} {meth : Method} {c : Code} {H : Heap} {locs : List Loc} {cells slots : Nat} {Q : State → Prop}
variable {ls : Array Slot} {rest : List Value}
theorem cx_makeX {cc : ByteArray} {pc : Nat} (hexec : p.tables.exec = Jvm.exec) (hb : c.code = cc) (hl : l.stackTraces = false) {own cls text : String} {names : List String} {ik is ic sa : Nat} {A : Nat → Prop}
    {ix : Nat} {rx : ByteArray} (x0 : decode rx 0 = .ok (.aload_n 0, 1)) (x1 : decode rx 1 = .ok (.aload_n 1, 1)) (x2 : decode rx 2 = .ok (.invokespecial ix, 3)) (x5 : decode rx 5 = .ok (.return_, 1))
    (hown : s.vm.findClass own = some m.cls) (hcls : Bundle.fit cls = true) (hnames : ∀ n ∈ names, Bundle.fit n = true)
    (hk : (Cond.classLink own ik cls).before args s = true) (hini : (Cond.initialized cls).before args s = true) (hstr : vk_R own is text sa s) (hat : ∀ w ∈ cx_aX own ic cls ix rx names, w.before args s = true)
    (hgood : ∀ w ∈ Cond.classLink own ik cls :: Cond.initialized cls :: cx_aX own ic cls ix rx names, vx_ot w = true)
    (hU : vx_Zq Bundle.tN "UNASSIGNED_STACK" Bundle.steD A s s.heap) (hN : vx_Zq Bundle.tN "SUPPRESSED_SENTINEL" Bundle.listD A s s.heap) (hS : va_S A s.heap H locs) (hsize : ls.size = c.maxLocals)
    (d0 : decode cc pc = .ok (.new ik, 3)) (d3 : decode cc (pc + 3) = .ok (.dup, 1)) (d4 : decode cc (pc + 4) = .ok (.ldc is, 2)) (d6 : decode cc (pc + 6) = .ok (.invokespecial ic, 3))
    (hRframes : names.length + 3 < R.frames) (hRlocals : (rest.map fun v => v.category).sum + (13 * (names.length + 1) + 43) ≤ R.locals) (hRcells : cells + 1 ≤ R.cells) (hRslots : slots + 6 ≤ R.slots)
    (kk : ∀ (q : Nat) (ce : Cell) (H1 : Heap), H1[q]? = some ce → ce.vm = .none → s.vm.findClass cls = some ce.cls → va_S A s.heap H1 locs → W p l e R s m args below meth c H1 locs (cells + 1) (slots + 6) Q (F0 m (pc + 9) ls (.ref q :: rest))) :
    W p l e R s m args below meth c H locs cells slots Q (F0 m pc ls rest) := by
  intro T hT X
  subst hT
  have htr : e.platform.stackTraces = false := (show e.platform.stackTraces = l.stackTraces by rw [X.admits.platform]).trans hl
  have Y := vx_rebase X (R' := { frames := R.frames, locals := R.locals, cells := 1, slots := 6 }) (Nat.le_refl _) (Nat.le_refl _) hRcells hRslots
  obtain ⟨s', hA'⟩ : ∃ z, z = (T.setVm s.vm).setFrames (.invoking m args :: below) := ⟨_, rfl⟩
  rw [← hA'] at Y
  have hvm : s'.vm = s.vm := by rw [hA']; rfl
  have hhp : s'.heap = T.heap := by rw [hA']; rfl
  have hW0 : s.WarmedH s'.vm := by rw [hvm]; exact State.WarmedH.refl s
  have hat' : ∀ w ∈ cx_aX own ic cls ix rx names, w.before args s' = true := fun w hw => vx_ot_at hW0 hvm.symm (hgood w (List.mem_cons_of_mem _ (List.mem_cons_of_mem _ hw))) (hat w hw)
  have hk' : (Cond.classLink own ik cls).before args s' = true := vx_ot_at hW0 hvm.symm (hgood _ List.mem_cons_self) hk
  have hini' : (Cond.initialized cls).before args s' = true := vx_ot_at hW0 hvm.symm (hgood _ (List.mem_cons_of_mem _ List.mem_cons_self)) hini
  have hU' : vx_Zq Bundle.tN "UNASSIGNED_STACK" Bundle.steD A s' s'.heap := by rw [hhp]; exact vx_Zq.moved hW0.alike (hU.kept hS.2.1)
  have hN' : vx_Zq Bundle.tN "SUPPRESSED_SENTINEL" Bundle.listD A s' s'.heap := by rw [hhp]; exact vx_Zq.moved hW0.alike (hN.kept hS.2.1)
  have h : ∀ w ∈ cx_oX own ic cls ix rx names, w.before args s' = true := vx_own hat' (vx_isRefq hU'.1) (vx_isRefq hN'.1) hU'.2.word hN'.2.word
  have hown' : s'.vm.findClass own = some m.cls := by rw [hvm]; exact hown
  have hins : (Cond.instantiable cls 6).before args s' = true := h _ (by simp [cx_oX])
  obtain ⟨vm₁, cX, kX, hfX, hkX, -, -, X₁, st1⟩ := Y.newCold hexec (own := own) (C := cls) (index := ik) (n := 6) hown' hk' hins hini'
    (g := F0 m pc ls rest) rfl (by rw [hb]; exact d0) (Nat.le_refl _) (Nat.le_refl _)
  generalize hT1 : (T.setVm vm₁).pushCell { cls := cX, slots := kX.instanceTypes.map defaultValue, vm := .none } = T1 at X₁ st1
  have hcat : (Value.ref T.heap.size).category = 1 := rfl
  have hcellA : T1.heap[T.heap.size]? = some (freshCell cX kX) := by rw [← hT1]; exact State.heap_pushCell_size _ _
  have d3' : decode c.code (pc + 3) = .ok (.dup, 1) := by rw [hb]; exact d3
  have d4' : decode c.code (pc + 4) = .ok (.ldc is, 2) := by rw [hb]; exact d4
  have hstr' : vk_R own is text sa s' := vk_R.warm hW0 hstr
  obtain ⟨V, ce, L, Z, hL, hlt, hcl9, hvm9, st⟩ := cx_ctorX X₁ hexec htr (ix := ix) (rx := rx) x0 x1 x2 x5 (own := own) (cls := cls) (names := names) (ic := ic) hown' hcls hnames h (fun x hx => nomatch hx) hfX hkX hcellA (by rw [hhp]; exact Nat.le_refl _) (msg := .ref sa) rfl
    (g := { method := m, pc := pc + 6, locals := ls, stack := .ref sa :: .ref T.heap.size :: .ref T.heap.size :: rest, locked := none }) rfl hsize (rest := rest) rfl
    (by rw [hb]; exact d6) hRframes (by simp only [List.map_cons, List.sum_cons, hcat]; omega)
  have Z0 := Stand.forget (locs := []) Z (fun y hy => by rw [hL y hy, hhp]; exact Nat.le_refl _)
  obtain ⟨f1, f2⟩ := vx_frame Z0.same
  rw [hhp] at f1 f2
  have hcid : s.vm.findClass cls = some ce.cls := by
    rw [hcl9, ← hvm]
    exact hfX
  have hh : (V.setCell T.heap.size ce).heap[T.heap.size]? = some ce := heapAt_setCell_self (s := V) ce hlt
  subst hA'
  have X5 := vx_back9 X Y Z0
  have X6 : Stand p l e R s m args below meth c (V.setCell T.heap.size ce) locs (cells + 1) (slots + 6) := { X5 with same := X5.same.mono (by omega) (by omega) }
  obtain ⟨t, a1, b1⟩ := kk T.heap.size ce (V.setCell T.heap.size ce).heap hh hvm9 hcid ⟨Nat.le_trans hS.1 f1, fun q h1 h2 => (f2 q (Nat.lt_of_lt_of_le h1 hS.1) (fun z hz => nomatch hz)).trans (hS.2.1 q h1 h2), hS.2.2⟩ _ rfl X6
  refine ⟨t, st1 _ ?_, b1⟩
  show Steps p.tables e below (T1.setTop { method := m, pc := pc + 3, locals := ls, stack := .ref T.heap.size :: rest, locked := none }) _
  jvm_step X₁.here [X₁.here.top, hexec, d3', Value.category]
  exact X₁.ldcString hexec (own := own) (text := text) (index := is) (a := sa) hown' hstr'.1 hstr'.2
    (g := { method := m, pc := pc + 4, locals := ls, stack := .ref T.heap.size :: .ref T.heap.size :: rest, locked := none }) rfl d4' _ (st _ a1)
theorem cx_makeXW {cc : ByteArray} {pc : Nat} (hexec : p.tables.exec = Jvm.exec) (hb : c.code = cc) (hl : l.stackTraces = false) {own cls text : String} {names : List String} {ik is ic sa : Nat} {A : Nat → Prop}
    {ix : Nat} {rx : ByteArray} (x0 : decode rx 0 = .ok (.aload_n 0, 1)) (x1 : decode rx 1 = .ok (.aload_n 1, 1)) (x2 : decode rx 2 = .ok (.invokespecial ix, 3)) (x5 : decode rx 5 = .ok (.return_, 1))
    (hown : s.vm.findClass own = some m.cls) (hcls : Bundle.fit cls = true) (hnames : ∀ n ∈ names, Bundle.fit n = true)
    (hk : (Cond.classLink own ik cls).before args s = true) (hini : (Cond.initialized cls).before args s = true) (hstr : vk_R own is text sa s) (hat : ∀ w ∈ cx_aX own ic cls ix rx names, w.before args s = true)
    (hgood : ∀ w ∈ Cond.classLink own ik cls :: Cond.initialized cls :: cx_aX own ic cls ix rx names, vx_ot w = true)
    (hU : vx_Zq Bundle.tN "UNASSIGNED_STACK" Bundle.steD A s s.heap) (hN : vx_Zq Bundle.tN "SUPPRESSED_SENTINEL" Bundle.listD A s s.heap) (hS : va_S A s.heap H locs) (hsize : ls.size = c.maxLocals)
    (d0 : decode cc pc = .ok (.new ik, 3)) (d3 : decode cc (pc + 3) = .ok (.dup, 1)) (d4 : decode cc (pc + 4) = .ok (.ldc_w is, 3)) (d6 : decode cc (pc + 7) = .ok (.invokespecial ic, 3))
    (hRframes : names.length + 3 < R.frames) (hRlocals : (rest.map fun v => v.category).sum + (13 * (names.length + 1) + 43) ≤ R.locals) (hRcells : cells + 1 ≤ R.cells) (hRslots : slots + 6 ≤ R.slots)
    (kk : ∀ (q : Nat) (ce : Cell) (H1 : Heap), H1[q]? = some ce → ce.vm = .none → s.vm.findClass cls = some ce.cls → va_S A s.heap H1 locs → W p l e R s m args below meth c H1 locs (cells + 1) (slots + 6) Q (F0 m (pc + 10) ls (.ref q :: rest))) :
    W p l e R s m args below meth c H locs cells slots Q (F0 m pc ls rest) := by
  intro T hT X
  subst hT
  have htr : e.platform.stackTraces = false := (show e.platform.stackTraces = l.stackTraces by rw [X.admits.platform]).trans hl
  have Y := vx_rebase X (R' := { frames := R.frames, locals := R.locals, cells := 1, slots := 6 }) (Nat.le_refl _) (Nat.le_refl _) hRcells hRslots
  obtain ⟨s', hA'⟩ : ∃ z, z = (T.setVm s.vm).setFrames (.invoking m args :: below) := ⟨_, rfl⟩
  rw [← hA'] at Y
  have hvm : s'.vm = s.vm := by rw [hA']; rfl
  have hhp : s'.heap = T.heap := by rw [hA']; rfl
  have hW0 : s.WarmedH s'.vm := by rw [hvm]; exact State.WarmedH.refl s
  have hat' : ∀ w ∈ cx_aX own ic cls ix rx names, w.before args s' = true := fun w hw => vx_ot_at hW0 hvm.symm (hgood w (List.mem_cons_of_mem _ (List.mem_cons_of_mem _ hw))) (hat w hw)
  have hk' : (Cond.classLink own ik cls).before args s' = true := vx_ot_at hW0 hvm.symm (hgood _ List.mem_cons_self) hk
  have hini' : (Cond.initialized cls).before args s' = true := vx_ot_at hW0 hvm.symm (hgood _ (List.mem_cons_of_mem _ List.mem_cons_self)) hini
  have hU' : vx_Zq Bundle.tN "UNASSIGNED_STACK" Bundle.steD A s' s'.heap := by rw [hhp]; exact vx_Zq.moved hW0.alike (hU.kept hS.2.1)
  have hN' : vx_Zq Bundle.tN "SUPPRESSED_SENTINEL" Bundle.listD A s' s'.heap := by rw [hhp]; exact vx_Zq.moved hW0.alike (hN.kept hS.2.1)
  have h : ∀ w ∈ cx_oX own ic cls ix rx names, w.before args s' = true := vx_own hat' (vx_isRefq hU'.1) (vx_isRefq hN'.1) hU'.2.word hN'.2.word
  have hown' : s'.vm.findClass own = some m.cls := by rw [hvm]; exact hown
  have hins : (Cond.instantiable cls 6).before args s' = true := h _ (by simp [cx_oX])
  obtain ⟨vm₁, cX, kX, hfX, hkX, -, -, X₁, st1⟩ := Y.newCold hexec (own := own) (C := cls) (index := ik) (n := 6) hown' hk' hins hini'
    (g := F0 m pc ls rest) rfl (by rw [hb]; exact d0) (Nat.le_refl _) (Nat.le_refl _)
  generalize hT1 : (T.setVm vm₁).pushCell { cls := cX, slots := kX.instanceTypes.map defaultValue, vm := .none } = T1 at X₁ st1
  have hcat : (Value.ref T.heap.size).category = 1 := rfl
  have hcellA : T1.heap[T.heap.size]? = some (freshCell cX kX) := by rw [← hT1]; exact State.heap_pushCell_size _ _
  have d3' : decode c.code (pc + 3) = .ok (.dup, 1) := by rw [hb]; exact d3
  have d4' : decode c.code (pc + 4) = .ok (.ldc_w is, 3) := by rw [hb]; exact d4
  have hstr' : vk_R own is text sa s' := vk_R.warm hW0 hstr
  obtain ⟨V, ce, L, Z, hL, hlt, hcl9, hvm9, st⟩ := cx_ctorX X₁ hexec htr (ix := ix) (rx := rx) x0 x1 x2 x5 (own := own) (cls := cls) (names := names) (ic := ic) hown' hcls hnames h (fun x hx => nomatch hx) hfX hkX hcellA (by rw [hhp]; exact Nat.le_refl _) (msg := .ref sa) rfl
    (g := { method := m, pc := pc + 7, locals := ls, stack := .ref sa :: .ref T.heap.size :: .ref T.heap.size :: rest, locked := none }) rfl hsize (rest := rest) rfl
    (by rw [hb]; exact d6) hRframes (by simp only [List.map_cons, List.sum_cons, hcat]; omega)
  have Z0 := Stand.forget (locs := []) Z (fun y hy => by rw [hL y hy, hhp]; exact Nat.le_refl _)
  obtain ⟨f1, f2⟩ := vx_frame Z0.same
  rw [hhp] at f1 f2
  have hcid : s.vm.findClass cls = some ce.cls := by
    rw [hcl9, ← hvm]
    exact hfX
  have hh : (V.setCell T.heap.size ce).heap[T.heap.size]? = some ce := heapAt_setCell_self (s := V) ce hlt
  subst hA'
  have X5 := vx_back9 X Y Z0
  have X6 : Stand p l e R s m args below meth c (V.setCell T.heap.size ce) locs (cells + 1) (slots + 6) := { X5 with same := X5.same.mono (by omega) (by omega) }
  obtain ⟨t, a1, b1⟩ := kk T.heap.size ce (V.setCell T.heap.size ce).heap hh hvm9 hcid ⟨Nat.le_trans hS.1 f1, fun q h1 h2 => (f2 q (Nat.lt_of_lt_of_le h1 hS.1) (fun z hz => nomatch hz)).trans (hS.2.1 q h1 h2), hS.2.2⟩ _ rfl X6
  refine ⟨t, st1 _ ?_, b1⟩
  show Steps p.tables e below (T1.setTop { method := m, pc := pc + 3, locals := ls, stack := .ref T.heap.size :: rest, locked := none }) _
  jvm_step X₁.here [X₁.here.top, hexec, d3', Value.category]
  exact X₁.ldcStringW hexec (own := own) (text := text) (index := is) (a := sa) hown' hstr'.1 hstr'.2
    (g := { method := m, pc := pc + 4, locals := ls, stack := .ref T.heap.size :: .ref T.heap.size :: rest, locked := none }) rfl d4' _ (st _ a1)
end CXXB

def strs : List (String × Nat × String) := [("HedgeCommittee$State", 73, "leaves, thorns or taste out of range"), ("HedgeCommittee$State", 84, "no room for another hedge"), ("HedgeCommittee$State", 162, "tone or weight out of range"), ("HedgeCommittee$State", 160, "no room for another motion"), ("HedgeCommittee$Motions", 39, "no such motion"), ("HedgeCommittee$State", 120, "levels out of range"), ("HedgeCommittee$State", 137, "no hedges"), ("HedgeCommittee$State", 142, "the motion is not a tip"), ("HedgeCommittee", 320, "no such hedge"), ("HedgeCommittee", 119, "no hedge at this rank"), ("HedgeCommittee", 322, "no motion at this place"), ("HedgeCommittee", 159, "a main motion has no parent"), ("HedgeCommittee", 324, "no branch contains both motions"), ("HedgeCommittee", 186, "no path leads from one motion to the other"), ("HedgeCommittee", 209, "no such season"), ("HedgeCommittee", 227, "no hedges"), ("HedgeCommittee", 236, "no vote was held"), ("HedgeCommittee", 254, "the text buffer is full"), ("HedgeCommittee", 267, "the text is not a program"), ("HedgeCommittee", 275, "a command fails"), ("HedgeCommittee", 286, "no error position was stored"), ("HedgeCommittee", 288, "no failed command was stored"), ("HedgeCommittee", 302, "no such character"), ("HedgeCommittee", 309, "no call can be undone"), ("HedgeCommittee", 318, "no state was saved"), ("HedgeCommittee$Kind", 49, "hedge # ? ?"), ("HedgeCommittee$Kind", 55, "main ? #"), ("HedgeCommittee$Kind", 58, "amend # ? #"), ("HedgeCommittee$Kind", 61, "prune # ?"), ("HedgeCommittee$Kind", 64, "regrow #"), ("HedgeCommittee$Kind", 67, "vote #"), ("HedgeCommittee$Kind", 70, "season")]
/-! the class's layer: worlds of any cells, methods that may throw -/
section CXA
def isNk : Cond → Bool
  | .fieldLinkNest .. => true
  | .declares _ => true
  | .castable .. => true
  | _ => false
def nw : List Cond := tables_1.filter isNk
theorem nw_t {w : Cond} (h : w ∈ tables_1) (g : isNk w = true) : w ∈ nw := List.mem_filter.mpr ⟨h, g⟩
theorem nw_tab {w : Cond} (hw : w ∈ nw) : w.onTables = true := by
  have g := (List.mem_filter.mp hw).2
  cases w <;> first | rfl | cases g
theorem nw_warm {s U : State} (hW : s.WarmedH U.vm) {w : Cond} (hw : w ∈ nw) (h : va_Nw w s) : va_Nw w U := by
  have g := (List.mem_filter.mp hw).2
  cases w <;> first | exact va_Nw.warmF hW h | exact va_Nw.warmD hW h | exact va_Nw.warmC hW h | cases g
def cZ (A : Nat → Prop) (U : State) (H : Heap) : Prop :=
  (∀ w ∈ nw, va_Nw w U) ∧ (∀ q ∈ strs, ∃ a, vk_R q.1 q.2.1 q.2.2 a U) ∧ vx_Zq Bundle.tN "UNASSIGNED_STACK" Bundle.steD A U H ∧ vx_Zq Bundle.tN "SUPPRESSED_SENTINEL" Bundle.listD A U H ∧ va_AO "HedgeCommittee$State" U ∧ va_Zq "java/util/ArrayList" "DEFAULTCAPACITY_EMPTY_ELEMENTDATA" "[Ljava/lang/Object;" A U H ∧ va_Z "java/lang/String" "COMPACT_STRINGS" "Z" (.int 1) A U H
theorem cZ.to {A B : Nat → Prop} {s U : State} {H0 H : Heap} (h : cZ A s H0) (hS : ∀ q : Nat, q < H0.size → ¬ A q → H[q]? = H0[q]?) (hW : s.WarmedH U.vm) (hAB : ∀ q, B q → A q) : cZ B U H := by
  obtain ⟨h1, h2, h3, h4, h5, h6, h7⟩ := h
  refine ⟨fun w hw => nw_warm hW hw (h1 w hw), fun q hq => ?_, vx_Zq.moved hW.alike ((h3.kept hS).narrow hAB), vx_Zq.moved hW.alike ((h4.kept hS).narrow hAB), va_AO.moved hW.alike h5, va_Zq.moved hW.alike ((h6.kept hS).narrow hAB), va_Z.moved hW.alike ((h7.kept hS).narrow hAB)⟩
  obtain ⟨a, ha⟩ := h2 q hq
  exact ⟨a, ha.warm hW⟩
theorem cZ.same {A : Nat → Prop} {u U : State} {H : Heap} (h : cZ A u H) (hv : U.vm = u.vm) : cZ A U H := by
  obtain ⟨h1, h2, h3, h4, h5, h6, h7⟩ := h
  have ha : u.vm.Alike U.vm := by rw [hv]; exact Vm.Alike.refl _
  refine ⟨fun w hw => va_Nw.same (nw_tab hw) hv.symm (h1 w hw), fun q hq => ?_, vx_Zq.moved ha h3, vx_Zq.moved ha h4, va_AO.moved ha h5, va_Zq.moved ha h6, va_Z.moved ha h7⟩
  obtain ⟨a, hq⟩ := h2 q hq
  exact ⟨a, hq.same hv⟩
def CxX (p : Program) (c : Code) (cc : ByteArray) (s : State) (args : Array Value) (m : MethodId) (D : va_G) (aT : Nat → ClassId) (own : String) : Prop := p.tables.exec = Jvm.exec ∧ c.code = cc ∧ (∀ w ∈ gw, w.before args s = true) ∧ s.vm.findClass own = some m.cls ∧ va_K D vwCl (tyG aT) s
def CxB (D : va_G) (Wd : va_W) (A : Nat → Prop) (H0 H : Heap) (locs : List Loc) : Prop := va_P D vwCl Wd H ∧ va_D A Wd ∧ va_S A H0 H locs
def cxB1 (D : va_G) (aT : Nat → ClassId) (Wd : va_W) (sz : Nat) (U : State) : Prop := U.heap.size = sz ∧ va_P D vwCl Wd U.heap ∧ va_K D vwCl (tyG aT) U ∧ va_D (fun _ => True) Wd ∧ cZ (va_A Wd sz) U U.heap
def cxB2 (D : va_G) (aT : Nat → ClassId) (A : Nat → Prop) (Wd : va_W) (U : State) : Prop := va_P D vwCl Wd U.heap ∧ va_K D vwCl (tyG aT) U ∧ va_D A Wd
def cxX (PX : String → Prop) (A : Nat → Prop) : String → State → State → Prop := vx_X (fun _ : Unit => True) (fun E _ _ => PX E) A
abbrev CxQ : Type := (Nat → Prop) → Array Value → State → Outcome → State → Prop
def qI (D : va_G) (aT : Nat → ClassId) (post : Int32 → va_W → Prop) : CxQ := fun A => va_Qi post (cxB2 D aT A) A
def qV (D : va_G) (aT : Nat → ClassId) (post : va_W → Prop) : CxQ := fun A => va_Qv post (cxB2 D aT A) A
def qL (D : va_G) (aT : Nat → ClassId) (post : Int64 → va_W → Prop) : CxQ := fun A => va_Ql post (cxB2 D aT A) A
def qD (D : va_G) (aT : Nat → ClassId) (post : UInt64 → va_W → Prop) : CxQ := fun A => va_Qd post (cxB2 D aT A) A
def qF (D : va_G) (aT : Nat → ClassId) (post : UInt32 → va_W → Prop) : CxQ := fun A => va_Qf post (cxB2 D aT A) A
/-- an answer that is a reference or null -/
def qR (D : va_G) (aT : Nat → ClassId) (post : Option Nat → va_W → Prop) : CxQ := fun A => va_Qq post (cxB2 D aT A) A
abbrev cxR (fr mc ms lo : Nat) : Room := { frames := fr, cells := mc, slots := ms, locals := lo }
/-- a method: over the world Wd, with the arguments As, it ends as Qk says, or throws as PX says -/
def CxG (l : Launch) (y : MethodName) (b : ByteArray) (L : Nat) (ret : Option FieldType) (fr mc ms lo : Nat) (D : va_G) (aT : Nat → ClassId) (As : List Value) (Wd : va_W) (Qk : CxQ) (PX : String → Prop) : Prop :=
  ∀ sz, vx_Met l y (Cond.code y b L ret :: gw) (cxR fr mc ms lo) (va_Pc As (cxB1 D aT Wd sz)) (Qk (va_A Wd sz)) (cxX PX (va_A Wd sz)) mc ms (va_A Wd sz)
theorem cx_blind {D : va_G} {aT : Nat → ClassId} {Wd : va_W} (As : List Value) (sz : Nat) : FrameBlind (va_Pc As (cxB1 D aT Wd sz)) := fun a U g mk q => by
  obtain ⟨q0, q1, qP, qK, qD, qZ⟩ := q
  exact ⟨q0, q1, qP, va_K.moved (u := U) (U := U.calling g mk a) (Vm.Alike.refl U.vm) qK, qD, cZ.same qZ rfl⟩
theorem CxG.of {l : Launch} {D : va_G} {aT : Nat → ClassId} {y : MethodName} {b : ByteArray} {L : Nat} {ret : Option FieldType} {fr mc ms lo : Nat} {As : List Value} {Wd : va_W} {Qk : CxQ} {PX : String → Prop} (own : String) (hy : plainName y.cls = true) (hcls : y.cls = own) (hL : (lg_sl As).length ≤ L)
    (body : ∀ (p : Program) (e : Env) (s : State) (m : MethodId) (below : List Frame) (meth : Method) (c : Code) (A : Nat → Prop) (ls : Array Slot), CxX p c b s As.toArray m D aT own → c.maxLocals = L → lv_has ls L (lv_args 0 As) → (∀ q, s.heap.size ≤ q → A q) → meth.sig.returnType = ret → meth.locks = false → (∀ x ∈ c.exceptionTable.toList, False) → meth.name = y.name → cZ A s s.heap → CxB D Wd A s.heap s.heap [] →
      W p l e (cxR fr mc ms lo) s m As.toArray below meth c s.heap [] 0 0 (vx_MQ below (Qk A) (cxX PX A) As.toArray s mc ms A) (F0 m 0 ls [])) : CxG l y b L ret fr mc ms lo D aT As Wd Qk PX := by
  intro sz
  refine vx_ofW (cc := b) (maxL := L) (ret := ret) hy rfl ?_
  intro p e s m args below meth c s₁ B hml hex hv
  obtain ⟨rfl, hsz, hP, hK, hD0, hZ⟩ := hv
  have hts := atoms_spec (ws := Cond.code y b L ret :: gw) B.pre
  have hown : s.vm.findClass y.cls = some m.cls := findClass_of_methodNamed B.named
  rw [hcls] at hown
  subst hsz
  have hl := lv_entry As (n := L) hL
  rw [lg_entry_eq]
  exact body p e s m below meth c _ _ ⟨B.exec, B.bytes, fun w hw => hts w (List.mem_cons_of_mem _ hw), hown, hK⟩ hml hl (fun q h => Or.inr h) B.returns B.notSynchronized hex (name_of_methodNamed B.named B.method).1 hZ ⟨hP, hD0.self (sz := s.heap.size), va_S.rf⟩
end CXA
section CXR
variable {p : Program} {l : Launch} {e : Env} {R : Room} {s : State} {m : MethodId} {args : Array Value} {below : List Frame} {meth : Method} {c : Code} {H : Heap} {locs : List Loc} {cells slots : Nat} {Q : State → Prop} {cc : ByteArray} {pc : Nat} {ls : Array Slot} {rest : List Value} {D : va_G} {aT : Nat → ClassId} {Wd : va_W} {A : Nat → Prop} {H0 : Heap} {nL : Nat} {own : String} {a : Nat}
theorem cx_get (C : CxX p c cc s args m D aT own) (hW : CxB D Wd A H0 H locs) (i k : Nat) {ci N index : Nat} {Cn ref : String} {T : u_T} {fs : List Value} {v : Value} (he : Wd[i]? = some (a, .inr (ci, fs))) (hc : vwCl[ci]? = some (Cn, T, N)) (hk : k < N) (hin : ∀ w ∈ u_ws Cn T N, w ∈ gw) (hl : Cond.fieldLink own index ref (T k).2.1 (T k).2.2.1 ∈ gw) (hr : (T k).1 = ref) (hv : fs[k]? = some v) (hdg : decode cc pc = .ok (.getfield index, 3)) (kk : W p l e R s m args below meth c H locs cells slots Q (F0 m (pc + 3) ls (v :: rest))) : W p l e R s m args below meth c H locs cells slots Q (F0 m pc ls (.ref a :: rest)) := by
  obtain ⟨hx, hb, hg, hown, hK⟩ := C
  exact va_get (D := D) (ci := ci) (v := v) (C := Cn) (T := T) (N := N) hx hb hg hin hown hK hW.1 i he hc k hk (hg _ hl) (fun x h9 => by rw [← hr]; exact h9) hv hdg kk
theorem cx_getN (C : CxX p c cc s args m D aT own) (hZ : cZ A s s.heap) (hW : CxB D Wd A H0 H locs) (i k : Nat) {ci N index : Nat} {Cn ref host : String} {T : u_T} {fs : List Value} {v : Value} (he : Wd[i]? = some (a, .inr (ci, fs))) (hc : vwCl[ci]? = some (Cn, T, N)) (hk : k < N) (hin : ∀ w ∈ u_ws Cn T N, w ∈ gw) (hl : Cond.fieldLinkNest own index ref (T k).2.1 (T k).2.2.1 host ∈ nw) (hr : (T k).1 = ref) (hv : fs[k]? = some v) (hdg : decode cc pc = .ok (.getfield index, 3)) (kk : W p l e R s m args below meth c H locs cells slots Q (F0 m (pc + 3) ls (v :: rest))) : W p l e R s m args below meth c H locs cells slots Q (F0 m pc ls (.ref a :: rest)) := by
  obtain ⟨hx, hb, hg, hown, hK⟩ := C
  exact va_getN (D := D) (ci := ci) (v := v) (C := Cn) (T := T) (N := N) hx hb hg hin hown hK hW.1 i he hc k hk (va_Nw.use (nw_tab hl) (hZ.1 _ hl)) (fun x h9 => by rw [← hr]; exact h9) hv hdg kk
theorem cx_put (C : CxX p c cc s args m D aT own) (hW : CxB D Wd A H0 H locs) (i k : Nat) {ci N index : Nat} {Cn ref : String} {T : u_T} {fs : List Value} {v : Value} {ty : FieldType} {W1 : va_W} (he : Wd[i]? = some (a, .inr (ci, fs))) (hc : vwCl[ci]? = some (Cn, T, N)) (hk : k < N) (hin : ∀ w ∈ u_ws Cn T N, w ∈ gw) (ty0 : Nat → FieldType) (hty : ∀ k, k < N → parseFieldDescriptor (T k).2.2.1 = some (ty0 k)) (hnm : ∀ a, a < N → ∀ b, b < N → a ≠ b → (T a).2.1 ≠ (T b).2.1) (hl : Cond.fieldLink own index ref (T k).2.1 (T k).2.2.1 ∈ gw) (hr : (T k).1 = ref) (hfin : (T k).2.2.2 = false) (hd : ty0 k = ty) (hn : narrow ty v = v) (hf : fits ty v = true) (hlen : k < fs.length) (hW1 : Wd.set i (a, .inr (ci, fs.set k v)) = W1) (hdg : decode cc pc = .ok (.putfield index, 3)) (kk : ∀ (H1 : Heap) (locs1 : List Loc), CxB D W1 A H0 H1 locs1 → W p l e R s m args below meth c H1 locs1 cells slots Q (F0 m (pc + 3) ls rest)) : W p l e R s m args below meth c H locs cells slots Q (F0 m pc ls (v :: .ref a :: rest)) := by
  obtain ⟨hx, hb, hg, hown, hK⟩ := C
  refine va_put (D := D) (ci := ci) (v := v) (ty := ty) (C := Cn) (T := T) (N := N) hx hb hg hin ty0 hty hnm hown hK hW.1 hW.2.1 hW.2.2 i he hc k hk (hg _ hl) (fun x h9 => by rw [← hr]; exact h9) hfin (by rw [hty k hk, hd]) hn hf hlen hdg (fun H1 locs1 h1 h2 h3 => ?_)
  rw [hW1] at h1 h2
  exact kk H1 locs1 ⟨h1, h2, h3⟩
theorem cx_putF (C : CxX p c cc s args m D aT own) (hin2 : meth.name = "<init>") (hW : CxB D Wd A H0 H locs) (i k : Nat) {ci N index : Nat} {Cn ref : String} {T : u_T} {fs : List Value} {v : Value} {ty : FieldType} {W1 : va_W} (he : Wd[i]? = some (a, .inr (ci, fs))) (hc : vwCl[ci]? = some (Cn, T, N)) (hk : k < N) (hin : ∀ w ∈ u_ws Cn T N, w ∈ gw) (ty0 : Nat → FieldType) (hty : ∀ k, k < N → parseFieldDescriptor (T k).2.2.1 = some (ty0 k)) (hnm : ∀ a, a < N → ∀ b, b < N → a ≠ b → (T a).2.1 ≠ (T b).2.1) (hl : Cond.fieldLink own index ref (T k).2.1 (T k).2.2.1 ∈ gw) (hr : (T k).1 = ref) (hfin : (T k).2.2.2 = true) (hdecl : (T k).1 = own) (hd : ty0 k = ty) (hn : narrow ty v = v) (hf : fits ty v = true) (hlen : k < fs.length) (hW1 : Wd.set i (a, .inr (ci, fs.set k v)) = W1) (hdg : decode cc pc = .ok (.putfield index, 3)) (kk : ∀ (H1 : Heap) (locs1 : List Loc), CxB D W1 A H0 H1 locs1 → W p l e R s m args below meth c H1 locs1 cells slots Q (F0 m (pc + 3) ls rest)) : W p l e R s m args below meth c H locs cells slots Q (F0 m pc ls (v :: .ref a :: rest)) := by
  obtain ⟨hx, hb, hg, hown, hK⟩ := C
  refine va_putF (D := D) (ci := ci) (v := v) (ty := ty) (C := Cn) (T := T) (N := N) hx hb hg hin ty0 hty hnm hown hK hW.1 hW.2.1 hW.2.2 i he hc k hk (hg _ hl) (fun x h9 => by rw [← hr]; exact h9) hfin hin2 hdecl (by rw [hty k hk, hd]) hn hf hlen hdg (fun H1 locs1 h1 h2 h3 => ?_)
  rw [hW1] at h1 h2
  exact kk H1 locs1 ⟨h1, h2, h3⟩
theorem cx_ald (C : CxX p c cc s args m D aT own) (hW : CxB D Wd A H0 H locs) (i t0 : Nat) {n j : Nat} {f : Nat → Int32} {ty : FieldType} (he : Wd[i]? = some (a, .inl (aT t0, n, .inl f))) (ht : (tyG aT)[t0]? = some (aT t0, ty)) (hc : ty = .int) (hj : j < n) (hn : n < 2 ^ 31) (hdg : decode cc pc = .ok (.iaload, 1)) (kk : W p l e R s m args below meth c H locs cells slots Q (F0 m (pc + 1) ls (.int (f j) :: rest))) : W p l e R s m args below meth c H locs cells slots Q (F0 m pc ls (.int (nI j) :: .ref a :: rest)) := by
  obtain ⟨hx, hb, hg, hown, hK⟩ := C
  subst hc
  refine va_iald (D := D) hx hb hK hW.1 i t0 he ht (vp_in_nI hj (by omega)) hdg ?_
  rw [nI_clamp (by omega)]
  exact kk
theorem cx_ast (C : CxX p c cc s args m D aT own) (hW : CxB D Wd A H0 H locs) (i t0 : Nat) {n j : Nat} {f : Nat → Int32} {x : Int32} {ty : FieldType} {W1 : va_W} (he : Wd[i]? = some (a, .inl (aT t0, n, .inl f))) (ht : (tyG aT)[t0]? = some (aT t0, ty)) (hc : ty = .int) (hj : j < n) (hn : n < 2 ^ 31) (hW1 : Wd.set i (a, .inl (aT t0, n, .inl (upd f j x))) = W1) (hdg : decode cc pc = .ok (.iastore, 1)) (kk : ∀ (H1 : Heap) (locs1 : List Loc), CxB D W1 A H0 H1 locs1 → W p l e R s m args below meth c H1 locs1 cells slots Q (F0 m (pc + 1) ls rest)) : W p l e R s m args below meth c H locs cells slots Q (F0 m pc ls (.int x :: .int (nI j) :: .ref a :: rest)) := by
  obtain ⟨hx, hb, hg, hown, hK⟩ := C
  subst hc
  refine va_iast (D := D) hx hb hK hW.1 hW.2.1 hW.2.2 i t0 he ht (vp_in_nI hj (by omega)) hdg (fun H1 locs1 h1 h2 h3 => ?_)
  rw [nI_clamp (by omega)] at h1 h2
  rw [hW1] at h1 h2
  exact kk H1 locs1 ⟨h1, h2, h3⟩
/-- System.arraycopy of n ints from place 0 to place 0 -/
theorem cx_copy (C : CxX p c cc s args m D aT own) (hml : c.maxLocals = nL) (hls : ls.size = nL) (hW : CxB D Wd A H0 H locs) (i i1 t0 : Nat) {index a0 n n0 n1 : Nat} {f g : Nat → Int32} {ty : FieldType} {W1 : va_W} (he : Wd[i]? = some (a0, .inl (aT t0, n0, .inl f))) (he1 : Wd[i1]? = some (a, .inl (aT t0, n1, .inl g))) (ht : (tyG aT)[t0]? = some (aT t0, ty)) (hc : ty = .int) (h0 : n ≤ n0) (h1 : n ≤ n1) (hn : n < 2 ^ 31) (hlk : Cond.methodLink own index arraycopyName ∈ gw) (hnat : Cond.native arraycopyName ∈ gw) (hstat : Cond.static arraycopyName ∈ gw) (hini : Cond.initialized "java/lang/System" ∈ gw) (hR : 1 ≤ R.frames) (hlo : (rest.map fun v => v.category).sum + (nativeFrameWords "java/lang/System" "arraycopy" 5 + 11) ≤ R.locals) (hW1 : Wd.set i1 (a, .inl (aT t0, n1, .inl (va_cpy f g 0 0 n))) = W1) (hdg : decode cc pc = .ok (.invokestatic index, 3)) (kk : ∀ (H1 : Heap) (locs1 : List Loc), CxB D W1 A H0 H1 locs1 → W p l e R s m args below meth c H1 locs1 cells slots Q (F0 m (pc + 3) ls rest)) : W p l e R s m args below meth c H locs cells slots Q (F0 m pc ls (.int (nI n) :: .int (nI 0) :: .ref a :: .int (nI 0) :: .ref a0 :: rest)) := by
  obtain ⟨hx, hb, hg, hown, hK⟩ := C
  subst hc
  have z0 : (nI 0).toNatClampNeg = 0 := nI_clamp (by omega)
  have zn : (nI n).toNatClampNeg = n := nI_clamp hn
  have neg : ∀ k : Nat, k < 2 ^ 31 → ¬ (nI k) < 0 := fun k hk q => Nat.not_lt_zero _ ((nI_ltI hk (by decide)).mp (show nI k < nI 0 from q))
  refine va_copyi (D := D) hx hb (hml.trans hls.symm) hown (hg _ hlk) (hg _ hnat) (hg _ hstat) (hg _ hini) hK hW.1 hW.2.1 hW.2.2 i i1 t0 t0 he he1 ht ht rfl (neg 0 (by omega)) (neg 0 (by omega)) (neg n hn) (by rw [z0, zn]; omega) (by rw [z0, zn]; omega) (fun _ _ => rfl) hR hlo hdg (fun H1 locs1 h1 h2 h3 => ?_)
  rw [z0, zn, hW1] at h1 h2
  exact kk H1 locs1 ⟨h1, h2, h3⟩
/-- a new object -/
theorem cx_new (C : CxX p c cc s args m D aT own) (hA : ∀ q, H0.size ≤ q → A q) (hW : CxB D Wd A H0 H locs) {ci N index : Nat} {Cn : String} {T : u_T} {fs : List Value} (hc : vwCl[ci]? = some (Cn, T, N)) (hin : ∀ w ∈ u_ws Cn T N, w ∈ gw) (ty : Nat → FieldType) (hty : ∀ k, k < N → parseFieldDescriptor (T k).2.2.1 = some (ty k)) (hcl : Cond.classLink own index Cn ∈ gw) (hinst : Cond.instantiable Cn N ∈ gw) (hini : Cond.initialized Cn ∈ gw) (hfs : ∀ j, j < N → defaultValue (ty j) = vp_V fs j) (hcells : cells + 1 ≤ R.cells) (hslots : slots + N ≤ R.slots) (hdg : decode cc pc = .ok (.new index, 3)) (kk : ∀ (q : Nat) (H1 : Heap), CxB D (Wd ++ [(q, .inr (ci, fs))]) A H0 H1 locs → W p l e R s m args below meth c H1 locs (cells + 1) (slots + N) Q (F0 m (pc + 3) ls (.ref q :: rest))) : W p l e R s m args below meth c H locs cells slots Q (F0 m pc ls rest) := by
  obtain ⟨hx, hb, hg, hown, hK⟩ := C
  exact va_new (D := D) (ci := ci) (fs := fs) (C := Cn) (T := T) (N := N) hx hb hg hin ty hty hown (hg _ hcl) (hg _ hinst) (hg _ hini) hK hW.1 hW.2.1 hW.2.2 hA hc hfs hcells hslots hdg (fun q H1 h1 h2 h3 => kk q H1 ⟨h1, h2, h3⟩)
/-- a new array -/
theorem cx_newa (C : CxX p c cc s args m D aT own) (hA : ∀ q, H0.size ≤ q → A q) (hW : CxB D Wd A H0 H locs) (t0 : Nat) {atype : ArrayType} {ty : FieldType} (harr : Cond.arrayClass (newarray.typeOf atype) ∈ gw) (hty : newarray.typeOf atype = ty) (ht : (tyG aT)[t0]? = some (aT t0, ty)) (hob : ∀ U cA, va_RA U cA ty → U.vm.findClass ("[" ++ ty.toString) = some cA) {n : Nat} {a0 : vp_A} (ha : ∀ cA : ClassId, vp_cell cA a0 = arrV cA n (fun _ => defaultValue ty)) (hn : n < 2 ^ 31) (hbytes : n * componentBytes ty ≤ 536870912) (hcells : cells + 1 ≤ R.cells) (hslots : slots + n ≤ R.slots) (hdg : decode cc pc = .ok (.newarray atype, 2)) (kk : ∀ (q : Nat) (H1 : Heap), CxB D (Wd ++ [(q, .inl (aT t0, a0))]) A H0 H1 locs → W p l e R s m args below meth c H1 locs (cells + 1) (slots + n) Q (F0 m (pc + 2) ls (.ref q :: rest))) : W p l e R s m args below meth c H locs cells slots Q (F0 m pc ls (.int (nI n) :: rest)) := by
  obtain ⟨hx, hb, hg, hown, hK⟩ := C
  have neg : ¬ (nI n) < 0 := fun q => Nat.not_lt_zero _ ((nI_ltI hn (by decide)).mp (show nI n < nI 0 from q))
  refine va_newa (D := D) (ty := ty) hx hb (hg _ harr) hty hK hW.1 hW.2.1 hW.2.2 hA ha neg (nI_clamp hn) hbytes hcells hslots hdg (fun q cA H1 hK1 h1 h2 h3 => ?_)
  have e1 := hob _ _ (hK.2 t0 _ ht).2
  have e2 := hob _ _ (hK1.2 (tyG aT).length (cA, ty) (by rw [List.getElem?_append_right (Nat.le_refl _), Nat.sub_self]; rfl)).2
  have e : cA = aT t0 := Option.some.inj (e2.symm.trans e1)
  subst e
  exact kk q H1 ⟨h1, h2, h3⟩
theorem cx_init (C : CxX p c cc s args m D aT own) (hml : c.maxLocals = nL) (hls : ls.size = nL) {idx : Nat} (h1 : Cond.methodLink own idx objectInit ∈ gw) (h2 : Cond.instanceMethod objectInit ∈ gw) (h3 : Cond.code objectInit ⟨#[0xb1]⟩ 1 none ∈ gw) (hd : decode cc pc = .ok (.invokespecial idx, 3)) (hfr : 1 ≤ R.frames) (hlo : (rest.map fun v => v.category).sum + 12 ≤ R.locals) (kk : W p l e R s m args below meth c H locs cells slots Q (F0 m (pc + 3) ls rest)) : W p l e R s m args below meth c H locs cells slots Q (F0 m pc ls (.ref a :: rest)) := by
  obtain ⟨hx, hb, hg, hown, hK⟩ := C
  exact W.objInit hx hb hown (hg _ h1) (hg _ h2) (hg _ h3) rfl (hls.trans hml.symm) rfl hd hfr (by show 2 * 0 + (rest.map fun v => v.category).sum + 12 ≤ R.locals; omega) kk
theorem cx_cast (C : CxX p c cc s args m D aT own) (hW : CxB D Wd A H0 H locs) (i t0 : Nat) {n j : Nat} {f : Nat → Int32} {x : Int32} {ty : FieldType} {W1 : va_W} (he : Wd[i]? = some (a, .inl (aT t0, n, .inl f))) (ht : (tyG aT)[t0]? = some (aT t0, ty)) (hc : ty = .char) (hj : j < n) (hn : n < 2 ^ 31) (hW1 : Wd.set i (a, .inl (aT t0, n, .inl (upd f j (vp_nar .char x)))) = W1) (hdg : decode cc pc = .ok (.castore, 1)) (kk : ∀ (H1 : Heap) (locs1 : List Loc), CxB D W1 A H0 H1 locs1 → W p l e R s m args below meth c H1 locs1 cells slots Q (F0 m (pc + 1) ls rest)) : W p l e R s m args below meth c H locs cells slots Q (F0 m pc ls (.int x :: .int (nI j) :: .ref a :: rest)) := by
  obtain ⟨hx, hb, hg, hown, hK⟩ := C
  subst hc
  refine va_cast (D := D) hx hb hK hW.1 hW.2.1 hW.2.2 i t0 he ht (vp_in_nI hj (by omega)) hdg (fun H1 locs1 h1 h2 h3 => ?_)
  rw [nI_clamp (by omega)] at h1 h2
  rw [hW1] at h1 h2
  exact kk H1 locs1 ⟨h1, h2, h3⟩
/-- a new row of States -/
theorem cx_newq (C : CxX p c cc s args m D aT own) (hA : ∀ q, H0.size ≤ q → A q) (hZ : cZ A s s.heap) (hW : CxB D Wd A H0 H locs) (t0 : Nat) {index n : Nat} (hk : Cond.classLink own index "HedgeCommittee$State" ∈ gw) (ht : (tyG aT)[t0]? = some (aT t0, .object "HedgeCommittee$State")) (hb2 : n * 4 ≤ 536870912) (hn : n < 2 ^ 31) (hcells : cells + 1 ≤ R.cells) (hslots : slots + n ≤ R.slots) (hle : n ≤ 100) (hdg : decode cc pc = .ok (.anewarray index, 3)) (kk : ∀ (q : Nat) (H1 : Heap), CxB D (Wd ++ [(q, .inl (aT t0, n, .inr (.inr (.inr (.inr (fun _ => none))))))]) A H0 H1 locs → W p l e R s m args below meth c H1 locs (cells + 1) (slots + n) Q (F0 m (pc + 3) ls (.ref q :: rest))) : W p l e R s m args below meth c H locs cells slots Q (F0 m pc ls (.int (nI n) :: rest)) := by
  obtain ⟨hx, hb, hg, hown, hK⟩ := C
  have neg : ¬ (nI n) < 0 := fun q => Nat.not_lt_zero _ ((nI_ltI hn (by decide)).mp (show nI n < nI 0 from q))
  refine va_newq (D := D) (C := "HedgeCommittee$State") hx hb hown (hg _ hk) hZ.2.2.2.2.1 hK hW.1 hW.2.1 hW.2.2 hA neg (nI_clamp hn) hb2 hcells hslots hdg (fun q cA H1 hK1 h1 h2 h3 => ?_)
  obtain ⟨k1, c1, a1, a2, a3, a4⟩ := (hK.2 t0 _ ht).2
  obtain ⟨k2, c2, b1, b2, b3, b4⟩ := (hK1.2 (tyG aT).length (cA, .object "HedgeCommittee$State") (by rw [List.getElem?_append_right (Nat.le_refl _), Nat.sub_self]; rfl)).2
  have e : cA = aT t0 := Option.some.inj (b4.symm.trans a4)
  subst e
  exact kk q H1 ⟨h1, h2, h3⟩
theorem gdS2 {own : String} {idx : Nat} {y : MethodName} {b : ByteArray} {L : Nat} {ret : Option FieldType} (h1 : Cond.methodLink own idx y ∈ gw) (h2 : Cond.static y ∈ gw) (h4 : Cond.initialized y.cls ∈ gw) (h5 : Cond.code y b L ret ∈ gw) : GoodIn gw (va_wsS own idx y (Cond.code y b L ret :: gw)) := by
  intro w hw
  have h : w ∈ gw := by
    unfold va_wsS at hw
    simp only [List.cons_append, List.nil_append, List.mem_cons] at hw
    rcases hw with rfl | rfl | rfl | rfl | hw
    · exact h1
    · exact h2
    · exact h4
    · exact h5
    · exact hw
  exact ⟨h, gw_good w h⟩
theorem gdI {y : MethodName} {b : ByteArray} {L : Nat} {ret : Option FieldType} (h5 : Cond.code y b L ret ∈ gw) : GoodIn gw (Cond.code y b L ret :: gw) := by
  intro w hw
  rcases List.mem_cons.mp hw with rfl | h
  · exact ⟨h5, gw_good _ h5⟩
  · exact ⟨h, gw_good _ h⟩
end CXR

theorem nw_125 : Cond.fieldLinkNest "HedgeCommittee" 106 "HedgeCommittee$Hedges" "leaves" "[I" "HedgeCommittee" ∈ nw := nw_t (tb_1 (List.mem_of_getElem? (i := 59) rfl)) rfl
theorem nw_127 : Cond.fieldLinkNest "HedgeCommittee" 110 "HedgeCommittee$Hedges" "thorns" "[I" "HedgeCommittee" ∈ nw := nw_t (tb_1 (List.mem_of_getElem? (i := 61) rfl)) rfl
theorem nw_130 : Cond.fieldLinkNest "HedgeCommittee" 97 "HedgeCommittee$Hedges" "count" "I" "HedgeCommittee" ∈ nw := nw_t (tb_1 (List.mem_of_getElem? (i := 64) rfl)) rfl
theorem nw_131 : Cond.fieldLinkNest "HedgeCommittee$State" 136 "HedgeCommittee$Hedges" "count" "I" "HedgeCommittee" ∈ nw := nw_t (tb_1 (List.mem_of_getElem? (i := 65) rfl)) rfl
theorem nw_149 : Cond.fieldLinkNest "HedgeCommittee" 150 "HedgeCommittee$Motions" "ids" "[I" "HedgeCommittee" ∈ nw := nw_t (tb_1 (List.mem_of_getElem? (i := 83) rfl)) rfl
theorem nw_151 : Cond.fieldLinkNest "HedgeCommittee$State" 108 "HedgeCommittee$Motions" "tones" "[I" "HedgeCommittee" ∈ nw := nw_t (tb_1 (List.mem_of_getElem? (i := 85) rfl)) rfl
theorem nw_152 : Cond.fieldLinkNest "HedgeCommittee" 136 "HedgeCommittee$Motions" "tones" "[I" "HedgeCommittee" ∈ nw := nw_t (tb_1 (List.mem_of_getElem? (i := 86) rfl)) rfl
theorem nw_154 : Cond.fieldLinkNest "HedgeCommittee$State" 111 "HedgeCommittee$Motions" "weights" "[I" "HedgeCommittee" ∈ nw := nw_t (tb_1 (List.mem_of_getElem? (i := 88) rfl)) rfl
theorem nw_155 : Cond.fieldLinkNest "HedgeCommittee$Trees" 71 "HedgeCommittee$Motions" "weights" "[I" "HedgeCommittee" ∈ nw := nw_t (tb_1 (List.mem_of_getElem? (i := 89) rfl)) rfl
theorem nw_156 : Cond.fieldLinkNest "HedgeCommittee" 153 "HedgeCommittee$Motions" "weights" "[I" "HedgeCommittee" ∈ nw := nw_t (tb_1 (List.mem_of_getElem? (i := 90) rfl)) rfl
theorem nw_158 : Cond.fieldLinkNest "HedgeCommittee$Trees" 37 "HedgeCommittee$Motions" "parents" "[I" "HedgeCommittee" ∈ nw := nw_t (tb_1 (List.mem_of_getElem? (i := 92) rfl)) rfl
theorem nw_159 : Cond.fieldLinkNest "HedgeCommittee$State" 148 "HedgeCommittee$Motions" "parents" "[I" "HedgeCommittee" ∈ nw := nw_t (tb_1 (List.mem_of_getElem? (i := 93) rfl)) rfl
theorem nw_160 : Cond.fieldLinkNest "HedgeCommittee" 156 "HedgeCommittee$Motions" "parents" "[I" "HedgeCommittee" ∈ nw := nw_t (tb_1 (List.mem_of_getElem? (i := 94) rfl)) rfl
theorem nw_162 : Cond.fieldLinkNest "HedgeCommittee$Trees" 50 "HedgeCommittee$Motions" "count" "I" "HedgeCommittee" ∈ nw := nw_t (tb_1 (List.mem_of_getElem? (i := 96) rfl)) rfl
theorem nw_163 : Cond.fieldLinkNest "HedgeCommittee$State" 125 "HedgeCommittee$Motions" "count" "I" "HedgeCommittee" ∈ nw := nw_t (tb_1 (List.mem_of_getElem? (i := 97) rfl)) rfl
theorem nw_164 : Cond.fieldLinkNest "HedgeCommittee" 146 "HedgeCommittee$Motions" "count" "I" "HedgeCommittee" ∈ nw := nw_t (tb_1 (List.mem_of_getElem? (i := 98) rfl)) rfl
theorem nw_180 : Cond.fieldLinkNest "HedgeCommittee" 93 "HedgeCommittee$State" "hedges" "LHedgeCommittee$Hedges;" "HedgeCommittee" ∈ nw := nw_t (tb_1 (List.mem_of_getElem? (i := 114) rfl)) rfl
theorem nw_182 : Cond.fieldLinkNest "HedgeCommittee" 127 "HedgeCommittee$State" "motions" "LHedgeCommittee$Motions;" "HedgeCommittee" ∈ nw := nw_t (tb_1 (List.mem_of_getElem? (i := 116) rfl)) rfl
theorem nw_184 : Cond.fieldLinkNest "HedgeCommittee" 212 "HedgeCommittee$State" "minutes" "[I" "HedgeCommittee" ∈ nw := nw_t (tb_1 (List.mem_of_getElem? (i := 118) rfl)) rfl
theorem nw_186 : Cond.fieldLinkNest "HedgeCommittee" 90 "HedgeCommittee$State" "season" "I" "HedgeCommittee" ∈ nw := nw_t (tb_1 (List.mem_of_getElem? (i := 120) rfl)) rfl
theorem nw_188 : Cond.fieldLinkNest "HedgeCommittee" 233 "HedgeCommittee$State" "votes" "I" "HedgeCommittee" ∈ nw := nw_t (tb_1 (List.mem_of_getElem? (i := 122) rfl)) rfl
theorem nw_190 : Cond.fieldLinkNest "HedgeCommittee" 238 "HedgeCommittee$State" "carriedVotes" "I" "HedgeCommittee" ∈ nw := nw_t (tb_1 (List.mem_of_getElem? (i := 124) rfl)) rfl
theorem nw_196 : Cond.fieldLinkNest "HedgeCommittee" 215 "HedgeCommittee$State" "adopted" "I" "HedgeCommittee" ∈ nw := nw_t (tb_1 (List.mem_of_getElem? (i := 130) rfl)) rfl
theorem nw_231 : Cond.fieldLinkNest "HedgeCommittee" 308 "HedgeCommittee$History" "count" "I" "HedgeCommittee" ∈ nw := nw_t (tb_1 (List.mem_of_getElem? (i := 165) rfl)) rfl
theorem nw_299 : Cond.fieldLinkNest "HedgeCommittee" 277 "HedgeCommittee$Program" "commands" "Ljava/util/ArrayList;" "HedgeCommittee" ∈ nw := nw_t (tb_1 (List.mem_of_getElem? (i := 233) rfl)) rfl
theorem nw_407 : Cond.fieldLinkNest "HedgeCommittee$Hedges" 47 "HedgeCommittee" "LEAVES_GAINED" "[I" "HedgeCommittee" ∈ nw := nw_t (tb_2 (List.mem_of_getElem? (i := 101) rfl)) rfl
theorem nw_561 : Cond.castable "java/lang/IllegalArgumentException" "java/lang/IllegalArgumentException" ∈ nw := nw_t (tb_3 (List.mem_of_getElem? (i := 15) rfl)) rfl
theorem nw_562 : Cond.declares ⟨"java/lang/RuntimeException", "<init>", "()V"⟩ ∈ nw := nw_t (tb_3 (List.mem_of_getElem? (i := 16) rfl)) rfl
theorem nw_563 : Cond.declares ⟨"java/lang/RuntimeException", "<init>", "(Ljava/lang/String;)V"⟩ ∈ nw := nw_t (tb_3 (List.mem_of_getElem? (i := 17) rfl)) rfl
theorem nw_564 : Cond.declares ⟨"java/lang/Exception", "<init>", "()V"⟩ ∈ nw := nw_t (tb_3 (List.mem_of_getElem? (i := 18) rfl)) rfl
theorem nw_565 : Cond.declares ⟨"java/lang/Exception", "<init>", "(Ljava/lang/String;)V"⟩ ∈ nw := nw_t (tb_3 (List.mem_of_getElem? (i := 19) rfl)) rfl
theorem nw_566 : Cond.declares ⟨"java/lang/Throwable", "<init>", "()V"⟩ ∈ nw := nw_t (tb_3 (List.mem_of_getElem? (i := 20) rfl)) rfl
theorem nw_567 : Cond.declares ⟨"java/lang/Throwable", "<init>", "(Ljava/lang/String;)V"⟩ ∈ nw := nw_t (tb_3 (List.mem_of_getElem? (i := 21) rfl)) rfl
theorem nw_637 : Cond.castable "java/lang/IllegalStateException" "java/lang/IllegalStateException" ∈ nw := nw_t (tb_3 (List.mem_of_getElem? (i := 91) rfl)) rfl
theorem nw_705 : Cond.castable "java/util/NoSuchElementException" "java/util/NoSuchElementException" ∈ nw := nw_t (tb_3 (List.mem_of_getElem? (i := 159) rfl)) rfl
theorem nw_814 : Cond.castable "java/lang/ArrayIndexOutOfBoundsException" "java/lang/ArrayIndexOutOfBoundsException" ∈ nw := nw_t (tb_4 (List.mem_of_getElem? (i := 28) rfl)) rfl
theorem nw_815 : Cond.declares ⟨"java/lang/IndexOutOfBoundsException", "<init>", "()V"⟩ ∈ nw := nw_t (tb_4 (List.mem_of_getElem? (i := 29) rfl)) rfl
theorem nw_816 : Cond.declares ⟨"java/lang/IndexOutOfBoundsException", "<init>", "(Ljava/lang/String;)V"⟩ ∈ nw := nw_t (tb_4 (List.mem_of_getElem? (i := 30) rfl)) rfl
theorem nw_837 : Cond.castable "java/lang/IndexOutOfBoundsException" "java/lang/IndexOutOfBoundsException" ∈ nw := nw_t (tb_4 (List.mem_of_getElem? (i := 51) rfl)) rfl
theorem nw_998 : Cond.castable "java/lang/UnsupportedOperationException" "java/lang/UnsupportedOperationException" ∈ nw := nw_t (tb_4 (List.mem_of_getElem? (i := 212) rfl)) rfl
theorem nw_1069 : Cond.castable "java/lang/ArithmeticException" "java/lang/ArithmeticException" ∈ nw := nw_t (tb_5 (List.mem_of_getElem? (i := 43) rfl)) rfl
theorem nw_1197 : Cond.fieldLinkNest "HedgeCommittee" 341 "HedgeCommittee$Command" "kind" "LHedgeCommittee$Kind;" "HedgeCommittee" ∈ nw := nw_t (tb_5 (List.mem_of_getElem? (i := 171) rfl)) rfl
theorem nw_1199 : Cond.fieldLinkNest "HedgeCommittee" 350 "HedgeCommittee$Command" "first" "I" "HedgeCommittee" ∈ nw := nw_t (tb_5 (List.mem_of_getElem? (i := 173) rfl)) rfl
theorem nw_1201 : Cond.fieldLinkNest "HedgeCommittee" 353 "HedgeCommittee$Command" "second" "I" "HedgeCommittee" ∈ nw := nw_t (tb_5 (List.mem_of_getElem? (i := 175) rfl)) rfl
theorem nw_1203 : Cond.fieldLinkNest "HedgeCommittee" 356 "HedgeCommittee$Command" "third" "I" "HedgeCommittee" ∈ nw := nw_t (tb_5 (List.mem_of_getElem? (i := 177) rfl)) rfl
theorem nw_1309 : Cond.declares ⟨"java/lang/Enum", "ordinal", "()I"⟩ ∈ nw := nw_t (tb_6 (List.mem_of_getElem? (i := 43) rfl)) rfl
theorem nw_1385 : Cond.castable "[B" "java/lang/Cloneable" ∈ nw := nw_t (tb_6 (List.mem_of_getElem? (i := 119) rfl)) rfl
theorem nw_2113 : Cond.castable "java/lang/ArrayIndexOutOfBoundsException" "java/lang/IndexOutOfBoundsException" ∈ nw := nw_t (tb_9 (List.mem_of_getElem? (i := 127) rfl)) rfl
theorem nw_2114 : Cond.castable "java/lang/StringIndexOutOfBoundsException" "java/lang/IndexOutOfBoundsException" ∈ nw := nw_t (tb_9 (List.mem_of_getElem? (i := 128) rfl)) rfl
theorem nw_2115 : Cond.castable "HedgeCommittee$State" "java/lang/Object" ∈ nw := nw_t (tb_9 (List.mem_of_getElem? (i := 129) rfl)) rfl
theorem nw_2116 : Cond.castable "HedgeCommittee$Kind" "java/lang/Object" ∈ nw := nw_t (tb_9 (List.mem_of_getElem? (i := 130) rfl)) rfl
theorem nw_2117 : Cond.castable "HedgeCommittee" "java/lang/Object" ∈ nw := nw_t (tb_9 (List.mem_of_getElem? (i := 131) rfl)) rfl
theorem nw_2118 : Cond.castable "HedgeCommittee$Hedges" "java/lang/Object" ∈ nw := nw_t (tb_9 (List.mem_of_getElem? (i := 132) rfl)) rfl
theorem nw_2119 : Cond.castable "HedgeCommittee$Motions" "java/lang/Object" ∈ nw := nw_t (tb_9 (List.mem_of_getElem? (i := 133) rfl)) rfl
theorem nw_2120 : Cond.castable "HedgeCommittee$History" "java/lang/Object" ∈ nw := nw_t (tb_9 (List.mem_of_getElem? (i := 134) rfl)) rfl
theorem nw_2121 : Cond.castable "HedgeCommittee$Trees" "java/lang/Object" ∈ nw := nw_t (tb_9 (List.mem_of_getElem? (i := 135) rfl)) rfl
theorem nw_2122 : Cond.castable "HedgeCommittee$Program" "java/lang/Object" ∈ nw := nw_t (tb_9 (List.mem_of_getElem? (i := 136) rfl)) rfl
theorem nw_2123 : Cond.castable "java/util/ArrayList" "java/lang/Object" ∈ nw := nw_t (tb_9 (List.mem_of_getElem? (i := 137) rfl)) rfl
theorem nw_2124 : Cond.castable "java/lang/StringBuilder" "java/lang/Object" ∈ nw := nw_t (tb_9 (List.mem_of_getElem? (i := 138) rfl)) rfl
theorem nw_2125 : Cond.castable "HedgeCommitteeModel" "java/lang/Object" ∈ nw := nw_t (tb_9 (List.mem_of_getElem? (i := 139) rfl)) rfl
theorem nw_2126 : Cond.castable "java/lang/IllegalArgumentException" "java/lang/Object" ∈ nw := nw_t (tb_9 (List.mem_of_getElem? (i := 140) rfl)) rfl
theorem nw_2127 : Cond.castable "java/lang/IllegalStateException" "java/lang/Object" ∈ nw := nw_t (tb_9 (List.mem_of_getElem? (i := 141) rfl)) rfl
theorem nw_2128 : Cond.castable "java/util/NoSuchElementException" "java/lang/Object" ∈ nw := nw_t (tb_9 (List.mem_of_getElem? (i := 142) rfl)) rfl
theorem nw_2129 : Cond.castable "java/lang/ArrayIndexOutOfBoundsException" "java/lang/Object" ∈ nw := nw_t (tb_9 (List.mem_of_getElem? (i := 143) rfl)) rfl
theorem nw_2130 : Cond.castable "java/lang/IndexOutOfBoundsException" "java/lang/Object" ∈ nw := nw_t (tb_9 (List.mem_of_getElem? (i := 144) rfl)) rfl
theorem nw_2131 : Cond.castable "java/lang/UnsupportedOperationException" "java/lang/Object" ∈ nw := nw_t (tb_9 (List.mem_of_getElem? (i := 145) rfl)) rfl
theorem nw_2132 : Cond.castable "java/lang/ArithmeticException" "java/lang/Object" ∈ nw := nw_t (tb_9 (List.mem_of_getElem? (i := 146) rfl)) rfl
theorem nw_2133 : Cond.castable "HedgeCommittee$Command" "java/lang/Object" ∈ nw := nw_t (tb_9 (List.mem_of_getElem? (i := 147) rfl)) rfl
theorem nw_2134 : Cond.castable "java/lang/StringIndexOutOfBoundsException" "java/lang/Object" ∈ nw := nw_t (tb_9 (List.mem_of_getElem? (i := 148) rfl)) rfl
theorem nw_2135 : Cond.castable "java/lang/String" "java/lang/Object" ∈ nw := nw_t (tb_9 (List.mem_of_getElem? (i := 149) rfl)) rfl
theorem nw_2136 : Cond.castable "java/lang/Throwable" "java/lang/Object" ∈ nw := nw_t (tb_9 (List.mem_of_getElem? (i := 150) rfl)) rfl
theorem nw_2139 : Cond.declares ⟨"java/lang/Object", "getClass", "()Ljava/lang/Class;"⟩ ∈ nw := nw_t (tb_9 (List.mem_of_getElem? (i := 153) rfl)) rfl
theorem nw_2140 : Cond.castable "[I" "java/lang/Object" ∈ nw := nw_t (tb_9 (List.mem_of_getElem? (i := 154) rfl)) rfl
theorem nw_2141 : Cond.castable "[LHedgeCommittee$State;" "java/lang/Object" ∈ nw := nw_t (tb_9 (List.mem_of_getElem? (i := 155) rfl)) rfl
theorem nw_2142 : Cond.castable "[J" "java/lang/Object" ∈ nw := nw_t (tb_9 (List.mem_of_getElem? (i := 156) rfl)) rfl
theorem nw_2143 : Cond.castable "[C" "java/lang/Object" ∈ nw := nw_t (tb_9 (List.mem_of_getElem? (i := 157) rfl)) rfl
theorem nw_2144 : Cond.castable "[B" "java/lang/Object" ∈ nw := nw_t (tb_9 (List.mem_of_getElem? (i := 158) rfl)) rfl
theorem nw_2145 : Cond.castable "[Ljava/lang/Object;" "java/lang/Object" ∈ nw := nw_t (tb_9 (List.mem_of_getElem? (i := 159) rfl)) rfl
theorem nw_2146 : Cond.castable "[D" "java/lang/Object" ∈ nw := nw_t (tb_9 (List.mem_of_getElem? (i := 160) rfl)) rfl
theorem nw_2147 : Cond.castable "[LHedgeCommittee$Kind;" "java/lang/Object" ∈ nw := nw_t (tb_9 (List.mem_of_getElem? (i := 161) rfl)) rfl
theorem nw_2148 : Cond.fieldLinkNest "HedgeCommittee$Program" 54 "HedgeCommittee$Kind" "pattern" "Ljava/lang/String;" "HedgeCommittee" ∈ nw := nw_t (tb_9 (List.mem_of_getElem? (i := 162) rfl)) rfl
theorem inJ0 : ∀ w ∈ u_ws RJ0 TJ0 4, w ∈ gw := List.forall_mem_cons.mpr ⟨gw_819, List.forall_mem_cons.mpr ⟨gw_821, List.forall_mem_cons.mpr ⟨gw_1522, List.forall_mem_cons.mpr ⟨gw_1524, fun _ h => absurd h List.not_mem_nil⟩⟩⟩⟩
theorem inJ4 : ∀ w ∈ u_ws RJ4 TJ4 4, w ∈ gw := List.forall_mem_cons.mpr ⟨gw_336, List.forall_mem_cons.mpr ⟨gw_338, List.forall_mem_cons.mpr ⟨gw_340, List.forall_mem_cons.mpr ⟨gw_342, fun _ h => absurd h List.not_mem_nil⟩⟩⟩⟩
theorem inJx00060 : ∀ w ∈ u_ws RJx00060 TJx00060 6, w ∈ gw := List.forall_mem_cons.mpr ⟨gw_807, List.forall_mem_cons.mpr ⟨gw_808, List.forall_mem_cons.mpr ⟨gw_809, List.forall_mem_cons.mpr ⟨gw_810, List.forall_mem_cons.mpr ⟨gw_811, List.forall_mem_cons.mpr ⟨gw_812, fun _ h => absurd h List.not_mem_nil⟩⟩⟩⟩⟩⟩
theorem inJx7c733 : ∀ w ∈ u_ws RJx7c733 TJx7c733 6, w ∈ gw := List.forall_mem_cons.mpr ⟨gw_1528, List.forall_mem_cons.mpr ⟨gw_1529, List.forall_mem_cons.mpr ⟨gw_1530, List.forall_mem_cons.mpr ⟨gw_1531, List.forall_mem_cons.mpr ⟨gw_1532, List.forall_mem_cons.mpr ⟨gw_1533, fun _ h => absurd h List.not_mem_nil⟩⟩⟩⟩⟩⟩
theorem inJx4a65c : ∀ w ∈ u_ws RJx4a65c TJx4a65c 3, w ∈ gw := List.forall_mem_cons.mpr ⟨gw_292, List.forall_mem_cons.mpr ⟨gw_288, List.forall_mem_cons.mpr ⟨gw_290, fun _ h => absurd h List.not_mem_nil⟩⟩⟩
theorem inX1 : ∀ w ∈ u_ws RX1 TX1 4, w ∈ gw := List.forall_mem_cons.mpr ⟨gw_1204, List.forall_mem_cons.mpr ⟨gw_1206, List.forall_mem_cons.mpr ⟨gw_1208, List.forall_mem_cons.mpr ⟨gw_1210, fun _ h => absurd h List.not_mem_nil⟩⟩⟩⟩
theorem inX2 : ∀ w ∈ u_ws RX2 TX2 4, w ∈ gw := List.forall_mem_cons.mpr ⟨gw_132, List.forall_mem_cons.mpr ⟨gw_134, List.forall_mem_cons.mpr ⟨gw_136, List.forall_mem_cons.mpr ⟨gw_138, fun _ h => absurd h List.not_mem_nil⟩⟩⟩⟩
theorem inX3 : ∀ w ∈ u_ws RX3 TX3 2, w ∈ gw := List.forall_mem_cons.mpr ⟨gw_232, List.forall_mem_cons.mpr ⟨gw_234, fun _ h => absurd h List.not_mem_nil⟩⟩
theorem inX5 : ∀ w ∈ u_ws RX5 TX5 6, w ∈ gw := List.forall_mem_cons.mpr ⟨gw_166, List.forall_mem_cons.mpr ⟨gw_168, List.forall_mem_cons.mpr ⟨gw_170, List.forall_mem_cons.mpr ⟨gw_172, List.forall_mem_cons.mpr ⟨gw_174, List.forall_mem_cons.mpr ⟨gw_176, fun _ h => absurd h List.not_mem_nil⟩⟩⟩⟩⟩⟩
theorem inX6 : ∀ w ∈ u_ws RX6 TX6 5, w ∈ gw := List.forall_mem_cons.mpr ⟨gw_302, List.forall_mem_cons.mpr ⟨gw_304, List.forall_mem_cons.mpr ⟨gw_306, List.forall_mem_cons.mpr ⟨gw_308, List.forall_mem_cons.mpr ⟨gw_310, fun _ h => absurd h List.not_mem_nil⟩⟩⟩⟩⟩
theorem inX7 : ∀ w ∈ u_ws RX7 TX7 11, w ∈ gw := List.forall_mem_cons.mpr ⟨gw_197, List.forall_mem_cons.mpr ⟨gw_199, List.forall_mem_cons.mpr ⟨gw_201, List.forall_mem_cons.mpr ⟨gw_203, List.forall_mem_cons.mpr ⟨gw_205, List.forall_mem_cons.mpr ⟨gw_207, List.forall_mem_cons.mpr ⟨gw_209, List.forall_mem_cons.mpr ⟨gw_211, List.forall_mem_cons.mpr ⟨gw_213, List.forall_mem_cons.mpr ⟨gw_215, List.forall_mem_cons.mpr ⟨gw_217, fun _ h => absurd h List.not_mem_nil⟩⟩⟩⟩⟩⟩⟩⟩⟩⟩⟩
theorem inX8 : ∀ w ∈ u_ws RX8 TX8 6, w ∈ gw := List.forall_mem_cons.mpr ⟨gw_249, List.forall_mem_cons.mpr ⟨gw_251, List.forall_mem_cons.mpr ⟨gw_253, List.forall_mem_cons.mpr ⟨gw_255, List.forall_mem_cons.mpr ⟨gw_257, List.forall_mem_cons.mpr ⟨gw_259, fun _ h => absurd h List.not_mem_nil⟩⟩⟩⟩⟩⟩
theorem inX9 : ∀ w ∈ u_ws RX9 TX9 9, w ∈ gw := List.forall_mem_cons.mpr ⟨gw_355, List.forall_mem_cons.mpr ⟨gw_357, List.forall_mem_cons.mpr ⟨gw_359, List.forall_mem_cons.mpr ⟨gw_361, List.forall_mem_cons.mpr ⟨gw_363, List.forall_mem_cons.mpr ⟨gw_365, List.forall_mem_cons.mpr ⟨gw_367, List.forall_mem_cons.mpr ⟨gw_369, List.forall_mem_cons.mpr ⟨gw_371, fun _ h => absurd h List.not_mem_nil⟩⟩⟩⟩⟩⟩⟩⟩⟩
section CXT
variable {p : Program} {l : Launch} {e : Env} {R : Room} {s : State} {m : MethodId} {args : Array Value} {below : List Frame} {meth : Method} {c : Code} {H : Heap} {locs : List Loc} {cells slots : Nat} {Q : State → Prop} {cc : ByteArray} {pc : Nat} {ls : Array Slot} {rest : List Value} {D : va_G} {aT : Nat → ClassId} {Wd : va_W} {A : Nat → Prop} {H0 : Heap} {nL : Nat} {own : String} {a mc ms : Nat} {PX : String → Prop} {Qc : Array Value → State → Outcome → State → Prop}
/-- the classes between an exception of ours and Throwable -/
def exN : List String := ["java/lang/RuntimeException", "java/lang/Exception"]
def atOk (own : String) (ic : Nat) (X : String) : Prop := ∀ w ∈ Bundle.ownAtoms own ic X exN, w ∈ gw ∨ w ∈ nw ∨ vx_no w = false
theorem gw_g {w : Cond} (h : w ∈ gw) : goodWord w = true := (List.mem_filter.mp h).2
theorem ot_g {w : Cond} (h : w ∈ gw) : vx_ot w = true := by unfold vx_ot; rw [gw_g h, Bool.or_true]
theorem ot_n {w : Cond} (h : w ∈ nw) : vx_ot w = true := by unfold vx_ot; rw [nw_tab h, Bool.true_or]
def atOkX (own : String) (ic : Nat) (X : String) (ix : Nat) (rx : ByteArray) : Prop := ∀ w ∈ cx_oX own ic X ix rx exN, w ∈ gw ∨ w ∈ nw ∨ vx_no w = false
theorem at_splitX {ic ix : Nat} {X : String} {rx : ByteArray} (h : atOkX own ic X ix rx) {w : Cond} (hw : w ∈ cx_aX own ic X ix rx exN) : w ∈ gw ∨ w ∈ nw := by
  obtain ⟨h1, h2⟩ := List.mem_filter.mp hw
  rcases h w h1 with h3 | h3 | h3
  · exact Or.inl h3
  · exact Or.inr h3
  · rw [h3] at h2; cases h2
theorem exN_fit : ∀ n ∈ exN, Bundle.fit n = true := by decide +kernel
theorem at_split {ic : Nat} {X : String} (h : atOk own ic X) {w : Cond} (hw : w ∈ vx_atS own ic X exN) : w ∈ gw ∨ w ∈ nw := by
  obtain ⟨h1, h2⟩ := List.mem_filter.mp hw
  rcases h w h1 with h3 | h3 | h3
  · exact Or.inl h3
  · exact Or.inr h3
  · rw [h3] at h2; cases h2
theorem cx_F (hW : CxB D Wd A s.heap H locs) {t : State} (h1 : H.size ≤ t.heap.size) (h2 : ∀ q : Nat, q < H.size → t.heap[q]? = H[q]?) : va_F A s t :=
  ⟨Nat.le_trans hW.2.2.1 h1, fun q hq hA => (h2 q (Nat.lt_of_lt_of_le hq hW.2.2.1)).trans (hW.2.2.2.1 q hq hA)⟩
theorem cx_throw (C : CxX p c cc s args m D aT own) (hfl : l.stackTraces = false) (hex : ∀ x ∈ c.exceptionTable.toList, False) (hml : c.maxLocals = nL) (hls : ls.size = nL) (hlocks : meth.locks = false) (hZ : cZ A s s.heap) (hW : CxB D Wd A s.heap H locs) {X text : String} {ik is ic : Nat} (hat : atOk own ic X) (hs : (own, is, text) ∈ strs) (hk : Cond.classLink own ik X ∈ gw) (hini : Cond.initialized X ∈ gw) (hcls : Bundle.fit X = true)
    (d0 : decode cc pc = .ok (.new ik, 3)) (d3 : decode cc (pc + 3) = .ok (.dup, 1)) (d4 : decode cc (pc + 4) = .ok (.ldc is, 2)) (d6 : decode cc (pc + 6) = .ok (.invokespecial ic, 3)) (d9 : decode cc (pc + 9) = .ok (.athrow, 1))
    (hR : 6 ≤ R.frames ∧ (rest.map fun v => v.category).sum + 82 ≤ R.locals ∧ cells + 1 ≤ R.cells ∧ slots + 6 ≤ R.slots) (hc : cells + 1 ≤ mc ∧ slots + 6 ≤ ms) (hPX : PX X) : W p l e R s m args below meth c H locs cells slots (vx_MQ below Qc (cxX PX A) args s mc ms A) (F0 m pc ls rest) := by
  obtain ⟨hx, hb, hg, hown, hK⟩ := C
  obtain ⟨sa, hsa⟩ := hZ.2.1 _ hs
  refine vx_throwS (cls := X) (names := exN) (A := A) (XC := cxX PX A) hx hb hfl hown hcls exN_fit (hg _ hk) (hg _ hini) hsa (fun w hw => ?_) (fun w hw => ?_) hZ.2.2.1 hZ.2.2.2.1 hW.2.2 (hls.trans hml.symm) d0 d3 d4 d6 d9 (fun x hx => (hex x hx).elim) (show 2 + 3 < R.frames by omega) (show _ + (13 * (2 + 1) + 43) ≤ R.locals by omega) hR.2.2.1 hR.2.2.2 hlocks (fun t h1 h2 h3 => ⟨(), trivial, hPX, cx_F hW h2 h3⟩) (fun z hz => hW.2.2.2.2 z hz) hc.1 hc.2
  · rcases at_split hat hw with h | h
    · exact hg _ h
    · exact va_Nw.use (nw_tab h) (hZ.1 _ h)
  · rcases List.mem_cons.mp hw with rfl | hw
    · exact ot_g hk
    · rcases List.mem_cons.mp hw with rfl | hw
      · exact ot_g hini
      · rcases at_split hat hw with h | h
        · exact ot_g h
        · exact ot_n h
theorem cx_throwW (C : CxX p c cc s args m D aT own) (hfl : l.stackTraces = false) (hex : ∀ x ∈ c.exceptionTable.toList, False) (hml : c.maxLocals = nL) (hls : ls.size = nL) (hlocks : meth.locks = false) (hZ : cZ A s s.heap) (hW : CxB D Wd A s.heap H locs) {X text : String} {ik is ic : Nat} (hat : atOk own ic X) (hs : (own, is, text) ∈ strs) (hk : Cond.classLink own ik X ∈ gw) (hini : Cond.initialized X ∈ gw) (hcls : Bundle.fit X = true)
    (d0 : decode cc pc = .ok (.new ik, 3)) (d3 : decode cc (pc + 3) = .ok (.dup, 1)) (d4 : decode cc (pc + 4) = .ok (.ldc_w is, 3)) (d7 : decode cc (pc + 7) = .ok (.invokespecial ic, 3)) (d10 : decode cc (pc + 10) = .ok (.athrow, 1))
    (hR : 6 ≤ R.frames ∧ (rest.map fun v => v.category).sum + 82 ≤ R.locals ∧ cells + 1 ≤ R.cells ∧ slots + 6 ≤ R.slots) (hc : cells + 1 ≤ mc ∧ slots + 6 ≤ ms) (hPX : PX X) : W p l e R s m args below meth c H locs cells slots (vx_MQ below Qc (cxX PX A) args s mc ms A) (F0 m pc ls rest) := by
  obtain ⟨hx, hb, hg, hown, hK⟩ := C
  obtain ⟨sa, hsa⟩ := hZ.2.1 _ hs
  refine vx_throwSW (cls := X) (names := exN) (A := A) (XC := cxX PX A) hx hb hfl hown hcls exN_fit (hg _ hk) (hg _ hini) hsa (fun w hw => ?_) (fun w hw => ?_) hZ.2.2.1 hZ.2.2.2.1 hW.2.2 (hls.trans hml.symm) d0 d3 d4 d7 d10 (fun x hx => (hex x hx).elim) (show 2 + 3 < R.frames by omega) (show _ + (13 * (2 + 1) + 43) ≤ R.locals by omega) hR.2.2.1 hR.2.2.2 hlocks (fun t h1 h2 h3 => ⟨(), trivial, hPX, cx_F hW h2 h3⟩) (fun z hz => hW.2.2.2.2 z hz) hc.1 hc.2
  · rcases at_split hat hw with h | h
    · exact hg _ h
    · exact va_Nw.use (nw_tab h) (hZ.1 _ h)
  · rcases List.mem_cons.mp hw with rfl | hw
    · exact ot_g hk
    · rcases List.mem_cons.mp hw with rfl | hw
      · exact ot_g hini
      · rcases at_split hat hw with h | h
        · exact ot_g h
        · exact ot_n h
/-- thrown by a callee, not caught here -/
theorem cx_out (hex : ∀ x ∈ c.exceptionTable.toList, False) (hlocks : meth.locks = false) (hS : va_S A s.heap H locs) {E : String} {ce : Cell} {q9 : Addr} (hcell : H[q9]? = some ce) (hv : ce.vm = .none) (hcl : s.vm.findClass E = some ce.cls) (hc : cells ≤ mc ∧ slots ≤ ms) (hPX : PX E) : vx_W p l e R s m args below meth c H locs cells slots (vx_MQ below Qc (cxX PX A) args s mc ms A) (F0 m pc ls rest) q9 :=
  vx_out (XC := cxX PX A) (fun x hx => (hex x hx).elim) hlocks hcell hv hcl (fun t ht _ => ⟨(), trivial, hPX, hS.F ht⟩) (fun z hz => hS.2.2 z hz) hc.1 hc.2
theorem cx_throwX (C : CxX p c cc s args m D aT own) (hfl : l.stackTraces = false) (hex : ∀ x ∈ c.exceptionTable.toList, False) (hml : c.maxLocals = nL) (hls : ls.size = nL) (hlocks : meth.locks = false) (hZ : cZ A s s.heap) (hW : CxB D Wd A s.heap H locs) {X text : String} {ik is ic ix : Nat} {rx : ByteArray} (x0 : decode rx 0 = .ok (.aload_n 0, 1)) (x1 : decode rx 1 = .ok (.aload_n 1, 1)) (x2 : decode rx 2 = .ok (.invokespecial ix, 3)) (x5 : decode rx 5 = .ok (.return_, 1)) (hat : atOkX own ic X ix rx) (hs : (own, is, text) ∈ strs) (hk : Cond.classLink own ik X ∈ gw) (hini : Cond.initialized X ∈ gw) (hcls : Bundle.fit X = true)
    (d0 : decode cc pc = .ok (.new ik, 3)) (d3 : decode cc (pc + 3) = .ok (.dup, 1)) (d4 : decode cc (pc + 4) = .ok (.ldc is, 2)) (d6 : decode cc (pc + 6) = .ok (.invokespecial ic, 3)) (d9 : decode cc (pc + 9) = .ok (.athrow, 1))
    (hR : 6 ≤ R.frames ∧ (rest.map fun v => v.category).sum + 82 ≤ R.locals ∧ cells + 1 ≤ R.cells ∧ slots + 6 ≤ R.slots) (hc : cells + 1 ≤ mc ∧ slots + 6 ≤ ms) (hPX : PX X) : W p l e R s m args below meth c H locs cells slots (vx_MQ below Qc (cxX PX A) args s mc ms A) (F0 m pc ls rest) := by
  have C' := C
  obtain ⟨hx, hb, hg, hown, hK⟩ := C
  obtain ⟨sa, hsa⟩ := hZ.2.1 _ hs
  refine cx_makeX (cls := X) (names := exN) (A := A) hx hb hfl x0 x1 x2 x5 hown hcls exN_fit (hg _ hk) (hg _ hini) hsa (fun w hw => ?_) (fun w hw => ?_) hZ.2.2.1 hZ.2.2.2.1 hW.2.2 (hls.trans hml.symm) d0 d3 d4 d6 (show 2 + 3 < R.frames by omega) (show _ + (13 * (2 + 1) + 43) ≤ R.locals by omega) hR.2.2.1 hR.2.2.2 (fun q ce H1 h1 h2 h3 hS1 => vx_athrow hx hb d9 (cx_out hex hlocks hS1 h1 h2 h3 hc hPX))
  · rcases at_splitX hat hw with h | h
    · exact hg _ h
    · exact va_Nw.use (nw_tab h) (hZ.1 _ h)
  · rcases List.mem_cons.mp hw with rfl | hw
    · exact ot_g hk
    · rcases List.mem_cons.mp hw with rfl | hw
      · exact ot_g hini
      · rcases at_splitX hat hw with h | h
        · exact ot_g h
        · exact ot_n h
theorem cx_throwXW (C : CxX p c cc s args m D aT own) (hfl : l.stackTraces = false) (hex : ∀ x ∈ c.exceptionTable.toList, False) (hml : c.maxLocals = nL) (hls : ls.size = nL) (hlocks : meth.locks = false) (hZ : cZ A s s.heap) (hW : CxB D Wd A s.heap H locs) {X text : String} {ik is ic ix : Nat} {rx : ByteArray} (x0 : decode rx 0 = .ok (.aload_n 0, 1)) (x1 : decode rx 1 = .ok (.aload_n 1, 1)) (x2 : decode rx 2 = .ok (.invokespecial ix, 3)) (x5 : decode rx 5 = .ok (.return_, 1)) (hat : atOkX own ic X ix rx) (hs : (own, is, text) ∈ strs) (hk : Cond.classLink own ik X ∈ gw) (hini : Cond.initialized X ∈ gw) (hcls : Bundle.fit X = true)
    (d0 : decode cc pc = .ok (.new ik, 3)) (d3 : decode cc (pc + 3) = .ok (.dup, 1)) (d4 : decode cc (pc + 4) = .ok (.ldc_w is, 3)) (d6 : decode cc (pc + 7) = .ok (.invokespecial ic, 3)) (d9 : decode cc (pc + 10) = .ok (.athrow, 1))
    (hR : 6 ≤ R.frames ∧ (rest.map fun v => v.category).sum + 82 ≤ R.locals ∧ cells + 1 ≤ R.cells ∧ slots + 6 ≤ R.slots) (hc : cells + 1 ≤ mc ∧ slots + 6 ≤ ms) (hPX : PX X) : W p l e R s m args below meth c H locs cells slots (vx_MQ below Qc (cxX PX A) args s mc ms A) (F0 m pc ls rest) := by
  have C' := C
  obtain ⟨hx, hb, hg, hown, hK⟩ := C
  obtain ⟨sa, hsa⟩ := hZ.2.1 _ hs
  refine cx_makeXW (cls := X) (names := exN) (A := A) hx hb hfl x0 x1 x2 x5 hown hcls exN_fit (hg _ hk) (hg _ hini) hsa (fun w hw => ?_) (fun w hw => ?_) hZ.2.2.1 hZ.2.2.2.1 hW.2.2 (hls.trans hml.symm) d0 d3 d4 d6 (show 2 + 3 < R.frames by omega) (show _ + (13 * (2 + 1) + 43) ≤ R.locals by omega) hR.2.2.1 hR.2.2.2 (fun q ce H1 h1 h2 h3 hS1 => vx_athrow hx hb d9 (cx_out hex hlocks hS1 h1 h2 h3 hc hPX))
  · rcases at_splitX hat hw with h | h
    · exact hg _ h
    · exact va_Nw.use (nw_tab h) (hZ.1 _ h)
  · rcases List.mem_cons.mp hw with rfl | hw
    · exact ot_g hk
    · rcases List.mem_cons.mp hw with rfl | hw
      · exact ot_g hini
      · rcases at_splitX hat hw with h | h
        · exact ot_g h
        · exact ot_n h
theorem cx_fm {is : List Nat} {w : va_W} (h : is.map (fun i => Wd[i]?) = w.map some) : is.filterMap (fun i => Wd[i]?) = w := by
  have h1 : is.filterMap (fun i => Wd[i]?) = (is.map (fun i => Wd[i]?)).filterMap id := by rw [List.filterMap_map]; rfl
  rw [h1, h, List.filterMap_map]
  show w.filterMap (fun x => some x) = w
  exact List.filterMap_some
theorem cx_sub (C : CxX p c cc s args m D aT own) (hZ : cZ A s s.heap) (hW : CxB D Wd A s.heap H locs) (hA : ∀ q, s.heap.size ≤ q → A q) {Wc : va_W} (is : List Nat) (his : is.map (fun i => Wd[i]?) = Wc.map some) (hnd : va_nd is = true) {U : State} (hU : U.heap = H) (hw : s.WarmedH U.vm) : cxB1 D aT Wc H.size U := by
  obtain ⟨hx, hb, hg, hown, hK⟩ := C
  refine ⟨by rw [hU], by rw [hU]; exact hW.1.sub is (cx_fm his), va_K.moved hw.alike hK, (hW.2.1.sub is hnd his).weaken (fun _ _ _ _ => trivial), ?_⟩
  rw [hU]
  exact cZ.to hZ hW.2.2.2.1 hw (va_free hW.2.1 hW.2.2 hA is his)
section CALLS
variable {y : MethodName} {b : ByteArray} {L : Nat} {ret : Option FieldType} {fr mc1 ms1 lo idx n : Nat} {As st : List Value} {Wc Wr : va_W} {Qk : CxQ} {PX1 : String → Prop} {Cn : String}
theorem cx_runV (C : CxX p c cc s args m D aT own) (hml : c.maxLocals = nL) (hls : ls.size = nL) (hZ : cZ A s s.heap) (hW : CxB D Wd A s.heap H locs) (hA : ∀ q, s.heap.size ≤ q → A q) (hM : CxG l y b L ret fr mc1 ms1 lo D aT (.ref a :: As) Wc Qk PX1)
    (hT : GoodIn gw (wsV own idx Cn y (Cond.code y b L ret :: gw))) (hd : y.cls = Cn ∧ y.cls ≠ "java/lang/invoke/MethodHandle" ∧ y.cls ≠ "java/lang/invoke/VarHandle" ∧ (parseMethodDescriptor y.desc).map (fun d => d.parameters.length) = some n) (hn : As.length = n)
    (hR : fr + 1 ≤ R.frames ∧ 8 + (L + 11) + lo ≤ R.locals) (hcs : cells + mc1 ≤ R.cells ∧ slots + ms1 ≤ R.slots) (is : List Nat) (his : is.map (fun i => Wd[i]?) = Wc.map some) (hnd : va_nd is = true) (r0 ci : Nat) {q : vw_C} {fs : List Value} (hci : vwCl[ci]? = some q) (hq : q.1 = Cn) (hrec : Wd[r0]? = some (a, .inr (ci, fs)))
    (hst : st = As.reverse ++ .ref a :: rest) (hw : (rest.map fun v => v.category).sum ≤ 8) (hdg : decode cc pc = .ok (.invokevirtual idx, 3)) : vx_Run p l e R s m args below meth c H locs cells slots mc1 ms1 (F0 m pc ls st) rest (Qk (va_A Wc H.size) (Value.ref a :: As).toArray) (cxX PX1 (va_A Wc H.size)) (va_A Wc H.size) := by
  have C' := C
  obtain ⟨hx, hb, hg, hown, hK⟩ := C
  subst hst
  subst hq
  exact vx_runV (As := As) (rest := rest) ⟨hx, hb, hml, hown, hg⟩ (hM H.size) (cwV n hg hT rfl rfl rfl hd hR) ⟨cx_blind _ _, va_recv hK hW.1 hci hrec, fun U hU hw => ⟨rfl, cx_sub C' hZ hW hA is his hnd hU hw⟩⟩ rfl hn hls rfl (lv_room hw) hdg hcs
theorem cx_runS (C : CxX p c cc s args m D aT own) (hml : c.maxLocals = nL) (hls : ls.size = nL) (hZ : cZ A s s.heap) (hW : CxB D Wd A s.heap H locs) (hA : ∀ q, s.heap.size ≤ q → A q) (hM : CxG l y b L ret fr mc1 ms1 lo D aT As Wc Qk PX1)
    (hT : GoodIn gw (va_wsS own idx y (Cond.code y b L ret :: gw))) (hd : y.cls ≠ "java/lang/invoke/MethodHandle" ∧ y.cls ≠ "java/lang/invoke/VarHandle" ∧ (parseMethodDescriptor y.desc).map (fun d => d.parameters.length) = some n) (hn : As.length = n)
    (hR : fr + 1 ≤ R.frames ∧ 8 + (L + 11) + lo ≤ R.locals) (hcs : cells + mc1 ≤ R.cells ∧ slots + ms1 ≤ R.slots) (is : List Nat) (his : is.map (fun i => Wd[i]?) = Wc.map some) (hnd : va_nd is = true)
    (hst : st = As.reverse ++ rest) (hw : (rest.map fun v => v.category).sum ≤ 8) (hdg : decode cc pc = .ok (.invokestatic idx, 3)) : vx_Run p l e R s m args below meth c H locs cells slots mc1 ms1 (F0 m pc ls st) rest (Qk (va_A Wc H.size) As.toArray) (cxX PX1 (va_A Wc H.size)) (va_A Wc H.size) := by
  have C' := C
  obtain ⟨hx, hb, hg, hown, hK⟩ := C
  subst hst
  exact vx_runS (As := As) (rest := rest) ⟨hx, hb, hml, hown, hg⟩ (hM H.size) (va_cwS n hg hT rfl rfl rfl hd hR) ⟨cx_blind _ _, fun U hU hw => ⟨rfl, cx_sub C' hZ hW hA is his hnd hU hw⟩⟩ rfl hn hls rfl (lv_room hw) hdg hcs
theorem cx_runI (C : CxX p c cc s args m D aT own) (hml : c.maxLocals = nL) (hls : ls.size = nL) (hZ : cZ A s s.heap) (hW : CxB D Wd A s.heap H locs) (hA : ∀ q, s.heap.size ≤ q → A q) (hM : CxG l y b L none fr mc1 ms1 lo D aT (.ref a :: As) Wc Qk PX1)
    (hT : GoodIn gw (Cond.code y b L none :: gw)) (hini : Cond.initialized y.cls ∈ gw) (hlk : Cond.methodLink own idx y ∈ gw) (hin : Cond.instanceMethod y ∈ gw) (hy : y.name = "<init>") (hd : y.cls ≠ "java/lang/invoke/MethodHandle" ∧ y.cls ≠ "java/lang/invoke/VarHandle" ∧ (parseMethodDescriptor y.desc).map (fun d => d.parameters.length) = some n) (hn : As.length = n)
    (hR : fr + 1 ≤ R.frames ∧ 8 + (L + 11) + lo ≤ R.locals) (hcs : cells + mc1 ≤ R.cells ∧ slots + ms1 ≤ R.slots) (is : List Nat) (his : is.map (fun i => Wd[i]?) = Wc.map some) (hnd : va_nd is = true)
    (hst : st = As.reverse ++ .ref a :: rest) (hw : (rest.map fun v => v.category).sum ≤ 8) (hdg : decode cc pc = .ok (.invokespecial idx, 3)) : vx_Run p l e R s m args below meth c H locs cells slots mc1 ms1 (F0 m pc ls st) rest (Qk (va_A Wc H.size) (Value.ref a :: As).toArray) (cxX PX1 (va_A Wc H.size)) (va_A Wc H.size) := by
  have C' := C
  obtain ⟨hx, hb, hg, hown, hK⟩ := C
  subst hst
  exact vx_runI (As := As) (rest := rest) ⟨hx, hb, hml, hown, hg⟩ (hM H.size) (cwI n hg hT rfl rfl rfl (hg _ hini) (hg _ hlk) (hg _ hin) hy hd hR) ⟨cx_blind _ _, fun U hU hw => ⟨rfl, cx_sub C' hZ hW hA is his hnd hU hw⟩⟩ rfl hn hls rfl (lv_room hw) hdg hcs
/-- behind a call: the rest, and the callee's world -/
theorem cx_back (hW : CxB D Wd A s.heap H locs) (hA : ∀ q, s.heap.size ≤ q → A q) (is isR : List Nat) (his : is.map (fun i => Wd[i]?) = Wc.map some) (hR : isR.map (fun i => Wd[i]?) = Wr.map some) (hn : va_nd isR = true) (hdis : ∀ i ∈ isR, i ∉ is) {W1 : va_W} {t : State} {H1 : Heap} {locs1 : List Loc} (ht : t.heap = H1) (hB : cxB2 D aT (va_A Wc H.size) W1 t) (hk : ∀ q : Nat, q < H.size → ¬ va_A Wc H.size q → H1[q]? = H[q]?) (hS1 : va_S A s.heap H1 locs1) : CxB D (Wr ++ W1) A s.heap H1 locs1 := by
  obtain ⟨hP1, hK1, hD1⟩ := hB
  rw [ht] at hP1
  obtain ⟨h1, h2⟩ := va_join hW.1 hW.2.1 is isR his hR hn hdis hk (va_free hW.2.1 hW.2.2 hA is his) hP1 hD1
  exact ⟨h1, h2, hS1⟩
theorem cx_calli {a' : Array Value} {post : Int32 → va_W → Prop} (hr : vx_Run p l e R s m args below meth c H locs cells slots mc1 ms1 (F0 m pc ls st) rest (qI D aT post (va_A Wc H.size) a') (cxX PX1 (va_A Wc H.size)) (va_A Wc H.size)) (hW : CxB D Wd A s.heap H locs) (hA : ∀ q, s.heap.size ≤ q → A q) (is isR : List Nat) (his : is.map (fun i => Wd[i]?) = Wc.map some) (hR : isR.map (fun i => Wd[i]?) = Wr.map some) (hn : va_nd isR = true) (hdis : ∀ i ∈ isR, i ∉ is)
    (kx : ∀ (E : String) (ce : Cell) (q9 : Addr) (H1 : Heap) (locs1 : List Loc), PX1 E → va_S A s.heap H1 locs1 → H1[q9]? = some ce → ce.vm = .none → s.vm.findClass E = some ce.cls → vx_W p l e R s m args below meth c H1 locs1 (cells + mc1) (slots + ms1) Q (F0 m pc ls rest) q9)
    (kk : ∀ (r : Int32) (W1 : va_W) (H1 : Heap) (locs1 : List Loc), post r W1 → CxB D (Wr ++ W1) A s.heap H1 locs1 → W p l e R s m args below meth c H1 locs1 (cells + mc1) (slots + ms1) Q (F0 m (pc + 3) ls (.int r :: rest))) : W p l e R s m args below meth c H locs cells slots Q (F0 m pc ls st) := by
  have hF := va_free hW.2.1 hW.2.2 hA is his
  exact vx_calli hr hW.2.2 (fun q _ h => hF q h) hF (fun q _ h => hF q h) (fun E ce q9 u t H1 locs1 _ _ _ hPX _ _ hS1 h1 h2 h3 => kx E ce q9 H1 locs1 hPX hS1 h1 h2 h3) (fun r u t H1 locs1 ht _ hp hB _ hk hS1 => kk r u H1 locs1 hp (cx_back hW hA is isR his hR hn hdis ht hB hk hS1))
theorem cx_calll {a' : Array Value} {post : Int64 → va_W → Prop} (hr : vx_Run p l e R s m args below meth c H locs cells slots mc1 ms1 (F0 m pc ls st) rest (qL D aT post (va_A Wc H.size) a') (cxX PX1 (va_A Wc H.size)) (va_A Wc H.size)) (hW : CxB D Wd A s.heap H locs) (hA : ∀ q, s.heap.size ≤ q → A q) (is isR : List Nat) (his : is.map (fun i => Wd[i]?) = Wc.map some) (hR : isR.map (fun i => Wd[i]?) = Wr.map some) (hn : va_nd isR = true) (hdis : ∀ i ∈ isR, i ∉ is)
    (kx : ∀ (E : String) (ce : Cell) (q9 : Addr) (H1 : Heap) (locs1 : List Loc), PX1 E → va_S A s.heap H1 locs1 → H1[q9]? = some ce → ce.vm = .none → s.vm.findClass E = some ce.cls → vx_W p l e R s m args below meth c H1 locs1 (cells + mc1) (slots + ms1) Q (F0 m pc ls rest) q9)
    (kk : ∀ (r : Int64) (W1 : va_W) (H1 : Heap) (locs1 : List Loc), post r W1 → CxB D (Wr ++ W1) A s.heap H1 locs1 → W p l e R s m args below meth c H1 locs1 (cells + mc1) (slots + ms1) Q (F0 m (pc + 3) ls (.long r :: rest))) : W p l e R s m args below meth c H locs cells slots Q (F0 m pc ls st) := by
  have hF := va_free hW.2.1 hW.2.2 hA is his
  exact vx_calll hr hW.2.2 (fun q _ h => hF q h) hF (fun q _ h => hF q h) (fun E ce q9 u t H1 locs1 _ _ _ hPX _ _ hS1 h1 h2 h3 => kx E ce q9 H1 locs1 hPX hS1 h1 h2 h3) (fun r u t H1 locs1 ht _ hp hB _ hk hS1 => kk r u H1 locs1 hp (cx_back hW hA is isR his hR hn hdis ht hB hk hS1))
theorem cx_calld {a' : Array Value} {post : UInt64 → va_W → Prop} (hr : vx_Run p l e R s m args below meth c H locs cells slots mc1 ms1 (F0 m pc ls st) rest (qD D aT post (va_A Wc H.size) a') (cxX PX1 (va_A Wc H.size)) (va_A Wc H.size)) (hW : CxB D Wd A s.heap H locs) (hA : ∀ q, s.heap.size ≤ q → A q) (is isR : List Nat) (his : is.map (fun i => Wd[i]?) = Wc.map some) (hR : isR.map (fun i => Wd[i]?) = Wr.map some) (hn : va_nd isR = true) (hdis : ∀ i ∈ isR, i ∉ is)
    (kx : ∀ (E : String) (ce : Cell) (q9 : Addr) (H1 : Heap) (locs1 : List Loc), PX1 E → va_S A s.heap H1 locs1 → H1[q9]? = some ce → ce.vm = .none → s.vm.findClass E = some ce.cls → vx_W p l e R s m args below meth c H1 locs1 (cells + mc1) (slots + ms1) Q (F0 m pc ls rest) q9)
    (kk : ∀ (r : UInt64) (W1 : va_W) (H1 : Heap) (locs1 : List Loc), post r W1 → CxB D (Wr ++ W1) A s.heap H1 locs1 → W p l e R s m args below meth c H1 locs1 (cells + mc1) (slots + ms1) Q (F0 m (pc + 3) ls (.double r :: rest))) : W p l e R s m args below meth c H locs cells slots Q (F0 m pc ls st) := by
  have hF := va_free hW.2.1 hW.2.2 hA is his
  exact vx_calld hr hW.2.2 (fun q _ h => hF q h) hF (fun q _ h => hF q h) (fun E ce q9 u t H1 locs1 _ _ _ hPX _ _ hS1 h1 h2 h3 => kx E ce q9 H1 locs1 hPX hS1 h1 h2 h3) (fun r u t H1 locs1 ht _ hp hB _ hk hS1 => kk r u H1 locs1 hp (cx_back hW hA is isR his hR hn hdis ht hB hk hS1))
theorem cx_callf {a' : Array Value} {post : UInt32 → va_W → Prop} (hr : vx_Run p l e R s m args below meth c H locs cells slots mc1 ms1 (F0 m pc ls st) rest (qF D aT post (va_A Wc H.size) a') (cxX PX1 (va_A Wc H.size)) (va_A Wc H.size)) (hW : CxB D Wd A s.heap H locs) (hA : ∀ q, s.heap.size ≤ q → A q) (is isR : List Nat) (his : is.map (fun i => Wd[i]?) = Wc.map some) (hR : isR.map (fun i => Wd[i]?) = Wr.map some) (hn : va_nd isR = true) (hdis : ∀ i ∈ isR, i ∉ is)
    (kx : ∀ (E : String) (ce : Cell) (q9 : Addr) (H1 : Heap) (locs1 : List Loc), PX1 E → va_S A s.heap H1 locs1 → H1[q9]? = some ce → ce.vm = .none → s.vm.findClass E = some ce.cls → vx_W p l e R s m args below meth c H1 locs1 (cells + mc1) (slots + ms1) Q (F0 m pc ls rest) q9)
    (kk : ∀ (r : UInt32) (W1 : va_W) (H1 : Heap) (locs1 : List Loc), post r W1 → CxB D (Wr ++ W1) A s.heap H1 locs1 → W p l e R s m args below meth c H1 locs1 (cells + mc1) (slots + ms1) Q (F0 m (pc + 3) ls (.float r :: rest))) : W p l e R s m args below meth c H locs cells slots Q (F0 m pc ls st) := by
  have hF := va_free hW.2.1 hW.2.2 hA is his
  exact vx_callf hr hW.2.2 (fun q _ h => hF q h) hF (fun q _ h => hF q h) (fun E ce q9 u t H1 locs1 _ _ _ hPX _ _ hS1 h1 h2 h3 => kx E ce q9 H1 locs1 hPX hS1 h1 h2 h3) (fun r u t H1 locs1 ht _ hp hB _ hk hS1 => kk r u H1 locs1 hp (cx_back hW hA is isR his hR hn hdis ht hB hk hS1))
theorem cx_callv {a' : Array Value} {post : va_W → Prop} (hr : vx_Run p l e R s m args below meth c H locs cells slots mc1 ms1 (F0 m pc ls st) rest (qV D aT post (va_A Wc H.size) a') (cxX PX1 (va_A Wc H.size)) (va_A Wc H.size)) (hW : CxB D Wd A s.heap H locs) (hA : ∀ q, s.heap.size ≤ q → A q) (is isR : List Nat) (his : is.map (fun i => Wd[i]?) = Wc.map some) (hR : isR.map (fun i => Wd[i]?) = Wr.map some) (hn : va_nd isR = true) (hdis : ∀ i ∈ isR, i ∉ is)
    (kx : ∀ (E : String) (ce : Cell) (q9 : Addr) (H1 : Heap) (locs1 : List Loc), PX1 E → va_S A s.heap H1 locs1 → H1[q9]? = some ce → ce.vm = .none → s.vm.findClass E = some ce.cls → vx_W p l e R s m args below meth c H1 locs1 (cells + mc1) (slots + ms1) Q (F0 m pc ls rest) q9)
    (kk : ∀ (W1 : va_W) (H1 : Heap) (locs1 : List Loc), post W1 → CxB D (Wr ++ W1) A s.heap H1 locs1 → W p l e R s m args below meth c H1 locs1 (cells + mc1) (slots + ms1) Q (F0 m (pc + 3) ls rest)) : W p l e R s m args below meth c H locs cells slots Q (F0 m pc ls st) := by
  have hF := va_free hW.2.1 hW.2.2 hA is his
  exact vx_callv hr hW.2.2 (fun q _ h => hF q h) hF (fun q _ h => hF q h) (fun E ce q9 u t H1 locs1 _ _ _ hPX _ _ hS1 h1 h2 h3 => kx E ce q9 H1 locs1 hPX hS1 h1 h2 h3) (fun u t H1 locs1 ht _ hp hB _ hk hS1 => kk u H1 locs1 hp (cx_back hW hA is isR his hR hn hdis ht hB hk hS1))
theorem cx_callr {a' : Array Value} {post : Option Nat → va_W → Prop} (hr : vx_Run p l e R s m args below meth c H locs cells slots mc1 ms1 (F0 m pc ls st) rest (qR D aT post (va_A Wc H.size) a') (cxX PX1 (va_A Wc H.size)) (va_A Wc H.size)) (hW : CxB D Wd A s.heap H locs) (hA : ∀ q, s.heap.size ≤ q → A q) (is isR : List Nat) (his : is.map (fun i => Wd[i]?) = Wc.map some) (hR : isR.map (fun i => Wd[i]?) = Wr.map some) (hn : va_nd isR = true) (hdis : ∀ i ∈ isR, i ∉ is)
    (kx : ∀ (E : String) (ce : Cell) (q9 : Addr) (H1 : Heap) (locs1 : List Loc), PX1 E → va_S A s.heap H1 locs1 → H1[q9]? = some ce → ce.vm = .none → s.vm.findClass E = some ce.cls → vx_W p l e R s m args below meth c H1 locs1 (cells + mc1) (slots + ms1) Q (F0 m pc ls rest) q9)
    (kk : ∀ (r : Option Nat) (W1 : va_W) (H1 : Heap) (locs1 : List Loc), post r W1 → CxB D (Wr ++ W1) A s.heap H1 locs1 → W p l e R s m args below meth c H1 locs1 (cells + mc1) (slots + ms1) Q (F0 m (pc + 3) ls (va_rf r :: rest))) : W p l e R s m args below meth c H locs cells slots Q (F0 m pc ls st) := by
  have hF := va_free hW.2.1 hW.2.2 hA is his
  exact vx_callq hr hW.2.2 (fun q _ h => hF q h) hF (fun q _ h => hF q h) (fun E ce q9 u t H1 locs1 _ _ _ hPX _ _ hS1 h1 h2 h3 => kx E ce q9 H1 locs1 hPX hS1 h1 h2 h3) (fun r u t H1 locs1 ht _ hp hB _ hk hS1 => kk r u H1 locs1 hp (cx_back hW hA is isR his hR hn hdis ht hB hk hS1))
end CALLS
theorem cx_iret (C : CxX p c cc s args m D aT own) {ty : FieldType} (hr : meth.sig.returnType = some ty) (hlocks : meth.locks = false) {post : Int32 → va_W → Prop} {v : Int32} (hn : narrow ty (.int v) = .int v) (hW : CxB D Wd A s.heap H locs) (hc : cells ≤ mc ∧ slots ≤ ms) (hq : post v Wd) (hdg : decode cc pc = .ok (.ireturn, 1)) : W p l e R s m args below meth c H locs cells slots (vx_MQ below (qI D aT post A) (cxX PX A) args s mc ms A) (F0 m pc ls [.int v]) := by
  obtain ⟨hx, hb, hg, hown, hK⟩ := C
  refine W.widen (k := mc) (n := ms) hc.1 hc.2 (vx_ret ?_)
  exact W.zret (v := v) hx hb hr hn (fun t ht hW' => ⟨⟨v, Wd, rfl, hq, by rw [ht]; exact hW.1, va_K.moved hW'.alike hK, hW.2.1⟩, hW.2.2.F ht⟩) hW.2.2.2.2 hdg hlocks
theorem cx_vret (C : CxX p c cc s args m D aT own) (hr : meth.sig.returnType = none) (hlocks : meth.locks = false) {post : va_W → Prop} (hW : CxB D Wd A s.heap H locs) (hc : cells ≤ mc ∧ slots ≤ ms) (hq : post Wd) (hdg : decode cc pc = .ok (.return_, 1)) : W p l e R s m args below meth c H locs cells slots (vx_MQ below (qV D aT post A) (cxX PX A) args s mc ms A) (F0 m pc ls []) := by
  obtain ⟨hx, hb, hg, hown, hK⟩ := C
  refine W.widen (k := mc) (n := ms) hc.1 hc.2 (vx_ret ?_)
  exact W.vret hx hb hr (fun t ht hW' => ⟨⟨Wd, rfl, hq, by rw [ht]; exact hW.1, va_K.moved hW'.alike hK, hW.2.1⟩, hW.2.2.F ht⟩) hW.2.2.2.2 hdg hlocks
theorem cx_lret (C : CxX p c cc s args m D aT own) (hr : meth.sig.returnType = some .long) (hlocks : meth.locks = false) {post : Int64 → va_W → Prop} {v : Int64} (hW : CxB D Wd A s.heap H locs) (hc : cells ≤ mc ∧ slots ≤ ms) (hq : post v Wd) (hdg : decode cc pc = .ok (.lreturn, 1)) : W p l e R s m args below meth c H locs cells slots (vx_MQ below (qL D aT post A) (cxX PX A) args s mc ms A) (F0 m pc ls [.long v]) := by
  obtain ⟨hx, hb, hg, hown, hK⟩ := C
  refine W.widen (k := mc) (n := ms) hc.1 hc.2 (vx_ret ?_)
  exact W.lret (v := v) hx hb hr (fun t ht hW' => ⟨⟨v, Wd, rfl, hq, by rw [ht]; exact hW.1, va_K.moved hW'.alike hK, hW.2.1⟩, hW.2.2.F ht⟩) hW.2.2.2.2 hdg hlocks
theorem cx_aret (C : CxX p c cc s args m D aT own) {rt : FieldType} (hr : meth.sig.returnType = some rt) (hrt : (∃ n, rt = .object n) ∨ ∃ t, rt = .array t) (hlocks : meth.locks = false) {post : Option Nat → va_W → Prop} (r : Option Nat) (hW : CxB D Wd A s.heap H locs) (hc : cells ≤ mc ∧ slots ≤ ms) (hq : post r Wd) (hdg : decode cc pc = .ok (.areturn, 1)) : W p l e R s m args below meth c H locs cells slots (vx_MQ below (qR D aT post A) (cxX PX A) args s mc ms A) (F0 m pc ls [va_rf r]) := by
  obtain ⟨hx, hb, hg, hown, hK⟩ := C
  refine W.widen (k := mc) (n := ms) hc.1 hc.2 (vx_ret ?_)
  exact W.aret (v := va_rf r) hx hb hr hrt (va_rf_or r) (fun t ht hW' => ⟨⟨r, Wd, rfl, hq, by rw [ht]; exact hW.1, va_K.moved hW'.alike hK, hW.2.1⟩, hW.2.2.F ht⟩) hW.2.2.2.2 hdg hlocks
end CXT

theorem at_T : ∀ w ∈ Bundle.throwableAtoms, w ∈ gw ∨ w ∈ nw ∨ vx_no w = false := List.forall_mem_cons.mpr ⟨Or.inl gw_83, List.forall_mem_cons.mpr ⟨Or.inl gw_581, List.forall_mem_cons.mpr ⟨Or.inl gw_590, List.forall_mem_cons.mpr ⟨Or.inl (by rw [show LibCode.Throwable.Fill.code = prog_37_method_18_code by decide +kernel]; exact gw_599), List.forall_mem_cons.mpr ⟨Or.inl gw_602, List.forall_mem_cons.mpr ⟨Or.inl gw_604, List.forall_mem_cons.mpr ⟨Or.inl gw_582, List.forall_mem_cons.mpr ⟨Or.inl (by rw [show LibCode.Throwable.Init0.code = prog_37_method_1_code by decide +kernel]; exact gw_583), List.forall_mem_cons.mpr ⟨Or.inl gw_110, List.forall_mem_cons.mpr ⟨Or.inl gw_111, List.forall_mem_cons.mpr ⟨Or.inl gw_584, List.forall_mem_cons.mpr ⟨Or.inl gw_589, List.forall_mem_cons.mpr ⟨Or.inl gw_600, List.forall_mem_cons.mpr ⟨Or.inl gw_620, List.forall_mem_cons.mpr ⟨Or.inl gw_571, List.forall_mem_cons.mpr ⟨Or.inl gw_621, List.forall_mem_cons.mpr ⟨Or.inl gw_573, List.forall_mem_cons.mpr ⟨Or.inl gw_622, List.forall_mem_cons.mpr ⟨Or.inl gw_575, List.forall_mem_cons.mpr ⟨Or.inl gw_585, List.forall_mem_cons.mpr ⟨Or.inr (Or.inr (by decide +kernel)), List.forall_mem_cons.mpr ⟨Or.inl gw_587, List.forall_mem_cons.mpr ⟨Or.inr (Or.inr (by decide +kernel)), List.forall_mem_cons.mpr ⟨Or.inl gw_577, fun _ h => absurd h List.not_mem_nil⟩⟩⟩⟩⟩⟩⟩⟩⟩⟩⟩⟩⟩⟩⟩⟩⟩⟩⟩⟩⟩⟩⟩⟩
theorem at_TS : ∀ w ∈ Bundle.throwableSAtoms, w ∈ gw ∨ w ∈ nw ∨ vx_no w = false := List.forall_mem_cons.mpr ⟨Or.inl gw_616, List.forall_mem_cons.mpr ⟨Or.inl (by rw [show LibCode.Throwable.InitS.code = prog_37_method_2_code by decide +kernel]; exact gw_617), List.forall_mem_cons.mpr ⟨Or.inl gw_619, List.forall_mem_cons.mpr ⟨Or.inl gw_577, fun _ h => absurd h List.not_mem_nil⟩⟩⟩⟩
theorem at_RE : ∀ w ∈ Bundle.chainSAtoms "java/lang/RuntimeException" ["java/lang/Exception"], w ∈ gw ∨ w ∈ nw ∨ vx_no w = false := List.forall_mem_append.mpr ⟨List.forall_mem_cons.mpr ⟨Or.inl gw_610, List.forall_mem_cons.mpr ⟨Or.inl (by rw [show Bundle.six = prog_30_method_2_code by decide +kernel]; exact gw_611), List.forall_mem_cons.mpr ⟨Or.inl gw_612, List.forall_mem_cons.mpr ⟨Or.inl gw_613, List.forall_mem_cons.mpr ⟨Or.inr (Or.inl nw_565), fun _ h => absurd h List.not_mem_nil⟩⟩⟩⟩⟩, List.forall_mem_cons.mpr ⟨Or.inl gw_613, List.forall_mem_cons.mpr ⟨Or.inl (by rw [show Bundle.six = prog_22_method_2_code by decide +kernel]; exact gw_614), List.forall_mem_cons.mpr ⟨Or.inl gw_615, List.forall_mem_cons.mpr ⟨Or.inl gw_616, List.forall_mem_cons.mpr ⟨Or.inr (Or.inl nw_567), fun _ h => absurd h List.not_mem_nil⟩⟩⟩⟩⟩⟩
theorem atx_IllegalArgumentException : ∀ w ∈ Bundle.chainSAtoms "java/lang/IllegalArgumentException" exN, w ∈ gw ∨ w ∈ nw ∨ vx_no w = false := List.forall_mem_append.mpr ⟨List.forall_mem_cons.mpr ⟨Or.inl gw_607, List.forall_mem_cons.mpr ⟨Or.inl (by rw [show Bundle.six = prog_23_method_2_code by decide +kernel]; exact gw_608), List.forall_mem_cons.mpr ⟨Or.inl gw_609, List.forall_mem_cons.mpr ⟨Or.inl gw_610, List.forall_mem_cons.mpr ⟨Or.inr (Or.inl nw_563), fun _ h => absurd h List.not_mem_nil⟩⟩⟩⟩⟩, at_RE⟩
theorem aty_IllegalArgumentException {own : String} {ic : Nat} (h : Cond.methodLink own ic (Bundle.initS "java/lang/IllegalArgumentException") ∈ gw) : atOk own ic "java/lang/IllegalArgumentException" := List.forall_mem_append.mpr ⟨List.forall_mem_append.mpr ⟨List.forall_mem_append.mpr ⟨at_T, at_TS⟩, atx_IllegalArgumentException⟩, List.forall_mem_cons.mpr ⟨Or.inl h, List.forall_mem_cons.mpr ⟨Or.inl gw_560, List.forall_mem_cons.mpr ⟨Or.inr (Or.inl nw_561), List.forall_mem_cons.mpr ⟨Or.inl gw_568, List.forall_mem_cons.mpr ⟨Or.inl gw_569, List.forall_mem_cons.mpr ⟨Or.inl gw_570, List.forall_mem_cons.mpr ⟨Or.inl gw_572, List.forall_mem_cons.mpr ⟨Or.inl gw_574, List.forall_mem_cons.mpr ⟨Or.inl gw_576, List.forall_mem_cons.mpr ⟨Or.inr (Or.inr (by decide +kernel)), List.forall_mem_cons.mpr ⟨Or.inr (Or.inr (by decide +kernel)), List.forall_mem_cons.mpr ⟨Or.inl gw_580, List.forall_mem_cons.mpr ⟨Or.inl gw_579, List.forall_mem_cons.mpr ⟨Or.inl gw_578, fun _ h => absurd h List.not_mem_nil⟩⟩⟩⟩⟩⟩⟩⟩⟩⟩⟩⟩⟩⟩⟩
theorem at_X7_IllegalArgumentException : atOk "HedgeCommittee$State" 75 "java/lang/IllegalArgumentException" := aty_IllegalArgumentException gw_606
theorem atx_IllegalStateException : ∀ w ∈ Bundle.chainSAtoms "java/lang/IllegalStateException" exN, w ∈ gw ∨ w ∈ nw ∨ vx_no w = false := List.forall_mem_append.mpr ⟨List.forall_mem_cons.mpr ⟨Or.inl gw_646, List.forall_mem_cons.mpr ⟨Or.inl (by rw [show Bundle.six = prog_24_method_2_code by decide +kernel]; exact gw_647), List.forall_mem_cons.mpr ⟨Or.inl gw_648, List.forall_mem_cons.mpr ⟨Or.inl gw_610, List.forall_mem_cons.mpr ⟨Or.inr (Or.inl nw_563), fun _ h => absurd h List.not_mem_nil⟩⟩⟩⟩⟩, at_RE⟩
theorem aty_IllegalStateException {own : String} {ic : Nat} (h : Cond.methodLink own ic (Bundle.initS "java/lang/IllegalStateException") ∈ gw) : atOk own ic "java/lang/IllegalStateException" := List.forall_mem_append.mpr ⟨List.forall_mem_append.mpr ⟨List.forall_mem_append.mpr ⟨at_T, at_TS⟩, atx_IllegalStateException⟩, List.forall_mem_cons.mpr ⟨Or.inl h, List.forall_mem_cons.mpr ⟨Or.inl gw_636, List.forall_mem_cons.mpr ⟨Or.inr (Or.inl nw_637), List.forall_mem_cons.mpr ⟨Or.inl gw_638, List.forall_mem_cons.mpr ⟨Or.inl gw_594, List.forall_mem_cons.mpr ⟨Or.inl gw_639, List.forall_mem_cons.mpr ⟨Or.inl gw_640, List.forall_mem_cons.mpr ⟨Or.inl gw_641, List.forall_mem_cons.mpr ⟨Or.inl gw_642, List.forall_mem_cons.mpr ⟨Or.inr (Or.inr (by decide +kernel)), List.forall_mem_cons.mpr ⟨Or.inr (Or.inr (by decide +kernel)), List.forall_mem_cons.mpr ⟨Or.inl gw_580, List.forall_mem_cons.mpr ⟨Or.inl gw_579, List.forall_mem_cons.mpr ⟨Or.inl gw_643, fun _ h => absurd h List.not_mem_nil⟩⟩⟩⟩⟩⟩⟩⟩⟩⟩⟩⟩⟩⟩⟩
theorem at_X7_IllegalStateException : atOk "HedgeCommittee$State" 86 "java/lang/IllegalStateException" := aty_IllegalStateException gw_645
theorem atx_NoSuchElementException : ∀ w ∈ cx_chA "java/util/NoSuchElementException" 13 prog_47_method_4_code exN, w ∈ gw ∨ w ∈ nw ∨ vx_no w = false := List.forall_mem_append.mpr ⟨List.forall_mem_cons.mpr ⟨Or.inl gw_714, List.forall_mem_cons.mpr ⟨Or.inl gw_715, List.forall_mem_cons.mpr ⟨Or.inl gw_716, List.forall_mem_cons.mpr ⟨Or.inl gw_610, List.forall_mem_cons.mpr ⟨Or.inr (Or.inl nw_563), fun _ h => absurd h List.not_mem_nil⟩⟩⟩⟩⟩, at_RE⟩
theorem dx_NoSuchElementException_0 : decode prog_47_method_4_code 0 = .ok (.aload_n 0, 1) := by decide +kernel
theorem dx_NoSuchElementException_1 : decode prog_47_method_4_code 1 = .ok (.aload_n 1, 1) := by decide +kernel
theorem dx_NoSuchElementException_2 : decode prog_47_method_4_code 2 = .ok (.invokespecial 13, 3) := by decide +kernel
theorem dx_NoSuchElementException_5 : decode prog_47_method_4_code 5 = .ok (.return_, 1) := by decide +kernel
theorem aty_NoSuchElementException {own : String} {ic : Nat} (h : Cond.methodLink own ic (Bundle.initS "java/util/NoSuchElementException") ∈ gw) : atOkX own ic "java/util/NoSuchElementException" 13 prog_47_method_4_code := List.forall_mem_append.mpr ⟨List.forall_mem_append.mpr ⟨List.forall_mem_append.mpr ⟨at_T, at_TS⟩, atx_NoSuchElementException⟩, List.forall_mem_cons.mpr ⟨Or.inl h, List.forall_mem_cons.mpr ⟨Or.inl gw_704, List.forall_mem_cons.mpr ⟨Or.inr (Or.inl nw_705), List.forall_mem_cons.mpr ⟨Or.inl gw_706, List.forall_mem_cons.mpr ⟨Or.inl gw_598, List.forall_mem_cons.mpr ⟨Or.inl gw_707, List.forall_mem_cons.mpr ⟨Or.inl gw_708, List.forall_mem_cons.mpr ⟨Or.inl gw_709, List.forall_mem_cons.mpr ⟨Or.inl gw_710, List.forall_mem_cons.mpr ⟨Or.inr (Or.inr (by decide +kernel)), List.forall_mem_cons.mpr ⟨Or.inr (Or.inr (by decide +kernel)), List.forall_mem_cons.mpr ⟨Or.inl gw_580, List.forall_mem_cons.mpr ⟨Or.inl gw_579, List.forall_mem_cons.mpr ⟨Or.inl gw_711, fun _ h => absurd h List.not_mem_nil⟩⟩⟩⟩⟩⟩⟩⟩⟩⟩⟩⟩⟩⟩⟩
theorem at_X5_NoSuchElementException : atOkX "HedgeCommittee$Motions" 41 "java/util/NoSuchElementException" 13 prog_47_method_4_code := aty_NoSuchElementException gw_713
theorem atx_IndexOutOfBoundsException : ∀ w ∈ Bundle.chainSAtoms "java/lang/IndexOutOfBoundsException" exN, w ∈ gw ∨ w ∈ nw ∨ vx_no w = false := List.forall_mem_append.mpr ⟨List.forall_mem_cons.mpr ⟨Or.inl gw_804, List.forall_mem_cons.mpr ⟨Or.inl (by rw [show Bundle.six = prog_25_method_2_code by decide +kernel]; exact gw_805), List.forall_mem_cons.mpr ⟨Or.inl gw_806, List.forall_mem_cons.mpr ⟨Or.inl gw_610, List.forall_mem_cons.mpr ⟨Or.inr (Or.inl nw_563), fun _ h => absurd h List.not_mem_nil⟩⟩⟩⟩⟩, at_RE⟩
theorem aty_IndexOutOfBoundsException {own : String} {ic : Nat} (h : Cond.methodLink own ic (Bundle.initS "java/lang/IndexOutOfBoundsException") ∈ gw) : atOk own ic "java/lang/IndexOutOfBoundsException" := List.forall_mem_append.mpr ⟨List.forall_mem_append.mpr ⟨List.forall_mem_append.mpr ⟨at_T, at_TS⟩, atx_IndexOutOfBoundsException⟩, List.forall_mem_cons.mpr ⟨Or.inl h, List.forall_mem_cons.mpr ⟨Or.inl gw_836, List.forall_mem_cons.mpr ⟨Or.inr (Or.inl nw_837), List.forall_mem_cons.mpr ⟨Or.inl gw_838, List.forall_mem_cons.mpr ⟨Or.inl gw_595, List.forall_mem_cons.mpr ⟨Or.inl gw_839, List.forall_mem_cons.mpr ⟨Or.inl gw_840, List.forall_mem_cons.mpr ⟨Or.inl gw_841, List.forall_mem_cons.mpr ⟨Or.inl gw_842, List.forall_mem_cons.mpr ⟨Or.inr (Or.inr (by decide +kernel)), List.forall_mem_cons.mpr ⟨Or.inr (Or.inr (by decide +kernel)), List.forall_mem_cons.mpr ⟨Or.inl gw_580, List.forall_mem_cons.mpr ⟨Or.inl gw_579, List.forall_mem_cons.mpr ⟨Or.inl gw_843, fun _ h => absurd h List.not_mem_nil⟩⟩⟩⟩⟩⟩⟩⟩⟩⟩⟩⟩⟩⟩⟩
theorem at_X9_IndexOutOfBoundsException : atOk "HedgeCommittee" 304 "java/lang/IndexOutOfBoundsException" := aty_IndexOutOfBoundsException gw_845
theorem at_X9_NoSuchElementException : atOkX "HedgeCommittee" 121 "java/util/NoSuchElementException" 13 prog_47_method_4_code := aty_NoSuchElementException gw_864
theorem atx_UnsupportedOperationException : ∀ w ∈ Bundle.chainSAtoms "java/lang/UnsupportedOperationException" exN, w ∈ gw ∨ w ∈ nw ∨ vx_no w = false := List.forall_mem_append.mpr ⟨List.forall_mem_cons.mpr ⟨Or.inl gw_1007, List.forall_mem_cons.mpr ⟨Or.inl (by rw [show Bundle.six = prog_38_method_2_code by decide +kernel]; exact gw_1008), List.forall_mem_cons.mpr ⟨Or.inl gw_1009, List.forall_mem_cons.mpr ⟨Or.inl gw_610, List.forall_mem_cons.mpr ⟨Or.inr (Or.inl nw_563), fun _ h => absurd h List.not_mem_nil⟩⟩⟩⟩⟩, at_RE⟩
theorem aty_UnsupportedOperationException {own : String} {ic : Nat} (h : Cond.methodLink own ic (Bundle.initS "java/lang/UnsupportedOperationException") ∈ gw) : atOk own ic "java/lang/UnsupportedOperationException" := List.forall_mem_append.mpr ⟨List.forall_mem_append.mpr ⟨List.forall_mem_append.mpr ⟨at_T, at_TS⟩, atx_UnsupportedOperationException⟩, List.forall_mem_cons.mpr ⟨Or.inl h, List.forall_mem_cons.mpr ⟨Or.inl gw_997, List.forall_mem_cons.mpr ⟨Or.inr (Or.inl nw_998), List.forall_mem_cons.mpr ⟨Or.inl gw_999, List.forall_mem_cons.mpr ⟨Or.inl gw_597, List.forall_mem_cons.mpr ⟨Or.inl gw_1000, List.forall_mem_cons.mpr ⟨Or.inl gw_1001, List.forall_mem_cons.mpr ⟨Or.inl gw_1002, List.forall_mem_cons.mpr ⟨Or.inl gw_1003, List.forall_mem_cons.mpr ⟨Or.inr (Or.inr (by decide +kernel)), List.forall_mem_cons.mpr ⟨Or.inr (Or.inr (by decide +kernel)), List.forall_mem_cons.mpr ⟨Or.inl gw_580, List.forall_mem_cons.mpr ⟨Or.inl gw_579, List.forall_mem_cons.mpr ⟨Or.inl gw_1004, fun _ h => absurd h List.not_mem_nil⟩⟩⟩⟩⟩⟩⟩⟩⟩⟩⟩⟩⟩⟩⟩
theorem at_X9_UnsupportedOperationException : atOk "HedgeCommittee" 188 "java/lang/UnsupportedOperationException" := aty_UnsupportedOperationException gw_1006
theorem at_X9_IllegalArgumentException : atOk "HedgeCommittee" 211 "java/lang/IllegalArgumentException" := aty_IllegalArgumentException gw_1053
theorem atx_ArithmeticException : ∀ w ∈ Bundle.chainSAtoms "java/lang/ArithmeticException" exN, w ∈ gw ∨ w ∈ nw ∨ vx_no w = false := List.forall_mem_append.mpr ⟨List.forall_mem_cons.mpr ⟨Or.inl gw_1059, List.forall_mem_cons.mpr ⟨Or.inl (by rw [show Bundle.six = prog_16_method_2_code by decide +kernel]; exact gw_1060), List.forall_mem_cons.mpr ⟨Or.inl gw_1061, List.forall_mem_cons.mpr ⟨Or.inl gw_610, List.forall_mem_cons.mpr ⟨Or.inr (Or.inl nw_563), fun _ h => absurd h List.not_mem_nil⟩⟩⟩⟩⟩, at_RE⟩
theorem aty_ArithmeticException {own : String} {ic : Nat} (h : Cond.methodLink own ic (Bundle.initS "java/lang/ArithmeticException") ∈ gw) : atOk own ic "java/lang/ArithmeticException" := List.forall_mem_append.mpr ⟨List.forall_mem_append.mpr ⟨List.forall_mem_append.mpr ⟨at_T, at_TS⟩, atx_ArithmeticException⟩, List.forall_mem_cons.mpr ⟨Or.inl h, List.forall_mem_cons.mpr ⟨Or.inl gw_1058, List.forall_mem_cons.mpr ⟨Or.inr (Or.inl nw_1069), List.forall_mem_cons.mpr ⟨Or.inl gw_1070, List.forall_mem_cons.mpr ⟨Or.inl gw_592, List.forall_mem_cons.mpr ⟨Or.inl gw_1064, List.forall_mem_cons.mpr ⟨Or.inl gw_1065, List.forall_mem_cons.mpr ⟨Or.inl gw_1067, List.forall_mem_cons.mpr ⟨Or.inl gw_1063, List.forall_mem_cons.mpr ⟨Or.inr (Or.inr (by decide +kernel)), List.forall_mem_cons.mpr ⟨Or.inr (Or.inr (by decide +kernel)), List.forall_mem_cons.mpr ⟨Or.inl gw_580, List.forall_mem_cons.mpr ⟨Or.inl gw_579, List.forall_mem_cons.mpr ⟨Or.inl gw_1062, fun _ h => absurd h List.not_mem_nil⟩⟩⟩⟩⟩⟩⟩⟩⟩⟩⟩⟩⟩⟩⟩
theorem at_X9_ArithmeticException : atOk "HedgeCommittee" 229 "java/lang/ArithmeticException" := aty_ArithmeticException gw_1077
theorem at_X9_IllegalStateException : atOk "HedgeCommittee" 256 "java/lang/IllegalStateException" := aty_IllegalStateException gw_1100
end
section
theorem cx_drop {D : va_G} {Wd W1 : va_W} {A : Nat → Prop} {H0 H : Heap} {locs : List Loc} (h : CxB D Wd A H0 H locs) (is : List Nat) (his : is.map (fun i => Wd[i]?) = W1.map some) (hn : va_nd is = true) : CxB D W1 A H0 H locs := ⟨h.1.sub is (cx_fm his), h.2.1.sub is hn his, h.2.2⟩
theorem rg_i {A B : Int64} {a b : Int32} (hA : A.toInt = a.toInt) (hB : B.toInt = b.toInt) (x : Int32) : rgB A B x = decide (a ≤ x ∧ x ≤ b) := by
  unfold rgB
  refine decide_eq_decide.mpr ?_
  rw [Int64.le_iff_toInt_le, Int64.le_iff_toInt_le, Int32.toInt_toInt64, hA, hB, Int32.le_iff_toInt_le, Int32.le_iff_toInt_le]
theorem rg_lo {A B : Int64} {a b : Int32} (hA : A.toInt = a.toInt) (hB : B.toInt = b.toInt) {x : Int32} (h : x < a) : rgB A B x = false := by
  rw [rg_i hA hB]
  exact decide_eq_false (fun q => absurd q.1 (Int32.not_le.mpr h))
theorem rg_hi {A B : Int64} {a b : Int32} (hA : A.toInt = a.toInt) (hB : B.toInt = b.toInt) {x : Int32} (h : b < x) : rgB A B x = false := by
  rw [rg_i hA hB]
  exact decide_eq_false (fun q => absurd q.2 (Int32.not_le.mpr h))
theorem rg_in {A B : Int64} {a b : Int32} (hA : A.toInt = a.toInt) (hB : B.toInt = b.toInt) {x : Int32} (h1 : ¬ x < a) (h2 : ¬ b < x) : rgB A B x = true := by
  rw [rg_i hA hB]
  exact decide_eq_true ⟨Int32.not_lt.mp h1, Int32.not_lt.mp h2⟩
theorem dg_lo {x : Int32} (h : x < 0) : rgB 0 9 x = false := rg_lo (a := 0) (b := 9) (by decide) (by decide) h
theorem dg_hi {x : Int32} (h : nI 9 < x) : rgB 0 9 x = false := rg_hi (a := 0) (b := nI 9) (by decide) (by decide) h
theorem dg_in {x : Int32} (h1 : ¬ x < 0) (h2 : ¬ nI 9 < x) : rgB 0 9 x = true := rg_in (a := 0) (b := nI 9) (by decide) (by decide) h1 h2
theorem dX2_init_0 : decode cX2_init 0 = .ok (.aload_n 0, 1) := by decide +kernel
theorem dX2_init_1 : decode cX2_init 1 = .ok (.invokespecial 3, 3) := by decide +kernel
theorem dX2_init_4 : decode cX2_init 4 = .ok (.aload_n 0, 1) := by decide +kernel
theorem dX2_init_5 : decode cX2_init 5 = .ok (.bipush 6, 2) := by decide +kernel
theorem dX2_init_7 : decode cX2_init 7 = .ok (.newarray .int, 2) := by decide +kernel
theorem dX2_init_9 : decode cX2_init 9 = .ok (.putfield 9, 3) := by decide +kernel
theorem dX2_init_12 : decode cX2_init 12 = .ok (.aload_n 0, 1) := by decide +kernel
theorem dX2_init_13 : decode cX2_init 13 = .ok (.bipush 6, 2) := by decide +kernel
theorem dX2_init_15 : decode cX2_init 15 = .ok (.newarray .int, 2) := by decide +kernel
theorem dX2_init_17 : decode cX2_init 17 = .ok (.putfield 15, 3) := by decide +kernel
theorem dX2_init_20 : decode cX2_init 20 = .ok (.aload_n 0, 1) := by decide +kernel
theorem dX2_init_21 : decode cX2_init 21 = .ok (.bipush 6, 2) := by decide +kernel
theorem dX2_init_23 : decode cX2_init 23 = .ok (.newarray .int, 2) := by decide +kernel
theorem dX2_init_25 : decode cX2_init 25 = .ok (.putfield 18, 3) := by decide +kernel
theorem dX2_init_28 : decode cX2_init 28 = .ok (.aload_n 0, 1) := by decide +kernel
theorem dX2_init_29 : decode cX2_init 29 = .ok (.iconst 0, 1) := by decide +kernel
theorem dX2_init_30 : decode cX2_init 30 = .ok (.putfield 21, 3) := by decide +kernel
theorem dX2_init_33 : decode cX2_init 33 = .ok (.return_, 1) := by decide +kernel
set_option maxHeartbeats 2000000 in
set_option maxRecDepth 20000 in
theorem k_X2_init (l : Launch) (hfl : l.stackTraces = false) (D : va_G) (aT : Nat → ClassId) (a1 : Nat) : CxG l yX2_init cX2_init 1 none 1 3 18 20 D aT [.ref a1] [(a1, .inr (6, [.null, .null, .null, .int (nI 0)]))] (qV D aT (fun W1 => ∃ q_7 : Nat, ∃ q_15 : Nat, ∃ q_23 : Nat, W1 = [(a1, .inr (6, [.ref q_7, .ref q_15, .ref q_23, .int (nI 0)])), (q_7, .inl (aT 0, 6, .inl (fun _ => nI 0))), (q_15, .inl (aT 0, 6, .inl (fun _ => nI 0))), (q_23, .inl (aT 0, 6, .inl (fun _ => nI 0)))])) (fun _ => False) := by
  refine CxG.of RX2 (by decide +kernel) rfl (Nat.le_of_ble_eq_true rfl) ?_
  intro p e s m below meth c A ls C hml hl hA hr hlocks hex hnm hZ hW
  have hl : lv_has ls 1 [(0, .ref a1)] := hl
  have hx := C.1
  have hb := C.2.1
  refine lv_aload_n hx hb dX2_init_0 rfl (lv_at hl 0 rfl) ?_
  refine cx_init C hml hl.1 gw_123 gw_110 gw_111 dX2_init_1 (Nat.le_of_ble_eq_true rfl) (Nat.le_of_ble_eq_true rfl) ?_
  refine lv_aload_n hx hb dX2_init_4 rfl (lv_at hl 0 rfl) ?_
  refine lv_bipush (v := nI 6) hx hb dX2_init_5 (by decide) ?_
  refine cx_newa C hA hW 0 (atype := .int) (a0 := (6, .inl (fun _ => nI 0))) gw_141 rfl rfl (fun _ _ h9 => h9) (fun _ => rfl) (by decide) (Nat.le_of_ble_eq_true rfl) (Nat.le_of_ble_eq_true rfl) (Nat.le_of_ble_eq_true rfl) dX2_init_7 (fun q_7 H hW => ?_)
  have hW : CxB D [(a1, .inr (6, [.null, .null, .null, .int (nI 0)])), (q_7, .inl (aT 0, 6, .inl (fun _ => nI 0)))] A s.heap H _ := hW
  refine cx_putF C hnm hW 0 0 (W1 := [(a1, .inr (6, [.ref q_7, .null, .null, .int (nI 0)])), (q_7, .inl (aT 0, 6, .inl (fun _ => nI 0)))]) rfl rfl (by decide) inX2 tyX2 tyX2_ok nmX2 gw_124 rfl rfl rfl rfl rfl rfl (Nat.le_of_ble_eq_true rfl) rfl dX2_init_9 (fun H locs hW => ?_)
  refine lv_aload_n hx hb dX2_init_12 rfl (lv_at hl 0 rfl) ?_
  refine lv_bipush (v := nI 6) hx hb dX2_init_13 (by decide) ?_
  refine cx_newa C hA hW 0 (atype := .int) (a0 := (6, .inl (fun _ => nI 0))) gw_141 rfl rfl (fun _ _ h9 => h9) (fun _ => rfl) (by decide) (Nat.le_of_ble_eq_true rfl) (Nat.le_of_ble_eq_true rfl) (Nat.le_of_ble_eq_true rfl) dX2_init_15 (fun q_15 H hW => ?_)
  have hW : CxB D [(a1, .inr (6, [.ref q_7, .null, .null, .int (nI 0)])), (q_7, .inl (aT 0, 6, .inl (fun _ => nI 0))), (q_15, .inl (aT 0, 6, .inl (fun _ => nI 0)))] A s.heap H _ := hW
  refine cx_putF C hnm hW 0 1 (W1 := [(a1, .inr (6, [.ref q_7, .ref q_15, .null, .int (nI 0)])), (q_7, .inl (aT 0, 6, .inl (fun _ => nI 0))), (q_15, .inl (aT 0, 6, .inl (fun _ => nI 0)))]) rfl rfl (by decide) inX2 tyX2 tyX2_ok nmX2 gw_126 rfl rfl rfl rfl rfl rfl (Nat.le_of_ble_eq_true rfl) rfl dX2_init_17 (fun H locs hW => ?_)
  refine lv_aload_n hx hb dX2_init_20 rfl (lv_at hl 0 rfl) ?_
  refine lv_bipush (v := nI 6) hx hb dX2_init_21 (by decide) ?_
  refine cx_newa C hA hW 0 (atype := .int) (a0 := (6, .inl (fun _ => nI 0))) gw_141 rfl rfl (fun _ _ h9 => h9) (fun _ => rfl) (by decide) (Nat.le_of_ble_eq_true rfl) (Nat.le_of_ble_eq_true rfl) (Nat.le_of_ble_eq_true rfl) dX2_init_23 (fun q_23 H hW => ?_)
  have hW : CxB D [(a1, .inr (6, [.ref q_7, .ref q_15, .null, .int (nI 0)])), (q_7, .inl (aT 0, 6, .inl (fun _ => nI 0))), (q_15, .inl (aT 0, 6, .inl (fun _ => nI 0))), (q_23, .inl (aT 0, 6, .inl (fun _ => nI 0)))] A s.heap H _ := hW
  refine cx_putF C hnm hW 0 2 (W1 := [(a1, .inr (6, [.ref q_7, .ref q_15, .ref q_23, .int (nI 0)])), (q_7, .inl (aT 0, 6, .inl (fun _ => nI 0))), (q_15, .inl (aT 0, 6, .inl (fun _ => nI 0))), (q_23, .inl (aT 0, 6, .inl (fun _ => nI 0)))]) rfl rfl (by decide) inX2 tyX2 tyX2_ok nmX2 gw_128 rfl rfl rfl rfl rfl rfl (Nat.le_of_ble_eq_true rfl) rfl dX2_init_25 (fun H locs hW => ?_)
  refine lv_aload_n hx hb dX2_init_28 rfl (lv_at hl 0 rfl) ?_
  refine lv_iconst (v := nI 0) hx hb dX2_init_29 (by decide) ?_
  refine cx_put C hW 0 3 (W1 := [(a1, .inr (6, [.ref q_7, .ref q_15, .ref q_23, .int (nI 0)])), (q_7, .inl (aT 0, 6, .inl (fun _ => nI 0))), (q_15, .inl (aT 0, 6, .inl (fun _ => nI 0))), (q_23, .inl (aT 0, 6, .inl (fun _ => nI 0)))]) rfl rfl (by decide) inX2 tyX2 tyX2_ok nmX2 gw_129 rfl rfl rfl rfl rfl (Nat.le_of_ble_eq_true rfl) rfl dX2_init_30 (fun H locs hW => ?_)
  exact cx_vret C hr hlocks hW ⟨Nat.le_of_ble_eq_true rfl, Nat.le_of_ble_eq_true rfl⟩ (⟨_, _, _, rfl⟩) dX2_init_33
theorem dX5_init_0 : decode cX5_init 0 = .ok (.aload_n 0, 1) := by decide +kernel
theorem dX5_init_1 : decode cX5_init 1 = .ok (.invokespecial 3, 3) := by decide +kernel
theorem dX5_init_4 : decode cX5_init 4 = .ok (.aload_n 0, 1) := by decide +kernel
theorem dX5_init_5 : decode cX5_init 5 = .ok (.bipush 12, 2) := by decide +kernel
theorem dX5_init_7 : decode cX5_init 7 = .ok (.newarray .int, 2) := by decide +kernel
theorem dX5_init_9 : decode cX5_init 9 = .ok (.putfield 9, 3) := by decide +kernel
theorem dX5_init_12 : decode cX5_init 12 = .ok (.aload_n 0, 1) := by decide +kernel
theorem dX5_init_13 : decode cX5_init 13 = .ok (.bipush 12, 2) := by decide +kernel
theorem dX5_init_15 : decode cX5_init 15 = .ok (.newarray .int, 2) := by decide +kernel
theorem dX5_init_17 : decode cX5_init 17 = .ok (.putfield 15, 3) := by decide +kernel
theorem dX5_init_20 : decode cX5_init 20 = .ok (.aload_n 0, 1) := by decide +kernel
theorem dX5_init_21 : decode cX5_init 21 = .ok (.bipush 12, 2) := by decide +kernel
theorem dX5_init_23 : decode cX5_init 23 = .ok (.newarray .int, 2) := by decide +kernel
theorem dX5_init_25 : decode cX5_init 25 = .ok (.putfield 18, 3) := by decide +kernel
theorem dX5_init_28 : decode cX5_init 28 = .ok (.aload_n 0, 1) := by decide +kernel
theorem dX5_init_29 : decode cX5_init 29 = .ok (.bipush 12, 2) := by decide +kernel
theorem dX5_init_31 : decode cX5_init 31 = .ok (.newarray .int, 2) := by decide +kernel
theorem dX5_init_33 : decode cX5_init 33 = .ok (.putfield 21, 3) := by decide +kernel
theorem dX5_init_36 : decode cX5_init 36 = .ok (.aload_n 0, 1) := by decide +kernel
theorem dX5_init_37 : decode cX5_init 37 = .ok (.iconst 0, 1) := by decide +kernel
theorem dX5_init_38 : decode cX5_init 38 = .ok (.putfield 24, 3) := by decide +kernel
theorem dX5_init_41 : decode cX5_init 41 = .ok (.aload_n 0, 1) := by decide +kernel
theorem dX5_init_42 : decode cX5_init 42 = .ok (.iconst 0, 1) := by decide +kernel
theorem dX5_init_43 : decode cX5_init 43 = .ok (.putfield 28, 3) := by decide +kernel
theorem dX5_init_46 : decode cX5_init 46 = .ok (.return_, 1) := by decide +kernel
set_option maxHeartbeats 2000000 in
set_option maxRecDepth 20000 in
theorem k_X5_init (l : Launch) (hfl : l.stackTraces = false) (D : va_G) (aT : Nat → ClassId) (a5 : Nat) : CxG l yX5_init cX5_init 1 none 1 4 48 20 D aT [.ref a5] [(a5, .inr (8, [.null, .null, .null, .null, .int (nI 0), .int (nI 0)]))] (qV D aT (fun W1 => ∃ q_7 : Nat, ∃ q_15 : Nat, ∃ q_23 : Nat, ∃ q_31 : Nat, W1 = [(a5, .inr (8, [.ref q_7, .ref q_15, .ref q_23, .ref q_31, .int (nI 0), .int (nI 0)])), (q_7, .inl (aT 0, 12, .inl (fun _ => nI 0))), (q_15, .inl (aT 0, 12, .inl (fun _ => nI 0))), (q_23, .inl (aT 0, 12, .inl (fun _ => nI 0))), (q_31, .inl (aT 0, 12, .inl (fun _ => nI 0)))])) (fun _ => False) := by
  refine CxG.of RX5 (by decide +kernel) rfl (Nat.le_of_ble_eq_true rfl) ?_
  intro p e s m below meth c A ls C hml hl hA hr hlocks hex hnm hZ hW
  have hl : lv_has ls 1 [(0, .ref a5)] := hl
  have hx := C.1
  have hb := C.2.1
  refine lv_aload_n hx hb dX5_init_0 rfl (lv_at hl 0 rfl) ?_
  refine cx_init C hml hl.1 gw_147 gw_110 gw_111 dX5_init_1 (Nat.le_of_ble_eq_true rfl) (Nat.le_of_ble_eq_true rfl) ?_
  refine lv_aload_n hx hb dX5_init_4 rfl (lv_at hl 0 rfl) ?_
  refine lv_bipush (v := nI 12) hx hb dX5_init_5 (by decide) ?_
  refine cx_newa C hA hW 0 (atype := .int) (a0 := (12, .inl (fun _ => nI 0))) gw_141 rfl rfl (fun _ _ h9 => h9) (fun _ => rfl) (by decide) (Nat.le_of_ble_eq_true rfl) (Nat.le_of_ble_eq_true rfl) (Nat.le_of_ble_eq_true rfl) dX5_init_7 (fun q_7 H hW => ?_)
  have hW : CxB D [(a5, .inr (8, [.null, .null, .null, .null, .int (nI 0), .int (nI 0)])), (q_7, .inl (aT 0, 12, .inl (fun _ => nI 0)))] A s.heap H _ := hW
  refine cx_putF C hnm hW 0 0 (W1 := [(a5, .inr (8, [.ref q_7, .null, .null, .null, .int (nI 0), .int (nI 0)])), (q_7, .inl (aT 0, 12, .inl (fun _ => nI 0)))]) rfl rfl (by decide) inX5 tyX5 tyX5_ok nmX5 gw_148 rfl rfl rfl rfl rfl rfl (Nat.le_of_ble_eq_true rfl) rfl dX5_init_9 (fun H locs hW => ?_)
  refine lv_aload_n hx hb dX5_init_12 rfl (lv_at hl 0 rfl) ?_
  refine lv_bipush (v := nI 12) hx hb dX5_init_13 (by decide) ?_
  refine cx_newa C hA hW 0 (atype := .int) (a0 := (12, .inl (fun _ => nI 0))) gw_141 rfl rfl (fun _ _ h9 => h9) (fun _ => rfl) (by decide) (Nat.le_of_ble_eq_true rfl) (Nat.le_of_ble_eq_true rfl) (Nat.le_of_ble_eq_true rfl) dX5_init_15 (fun q_15 H hW => ?_)
  have hW : CxB D [(a5, .inr (8, [.ref q_7, .null, .null, .null, .int (nI 0), .int (nI 0)])), (q_7, .inl (aT 0, 12, .inl (fun _ => nI 0))), (q_15, .inl (aT 0, 12, .inl (fun _ => nI 0)))] A s.heap H _ := hW
  refine cx_putF C hnm hW 0 1 (W1 := [(a5, .inr (8, [.ref q_7, .ref q_15, .null, .null, .int (nI 0), .int (nI 0)])), (q_7, .inl (aT 0, 12, .inl (fun _ => nI 0))), (q_15, .inl (aT 0, 12, .inl (fun _ => nI 0)))]) rfl rfl (by decide) inX5 tyX5 tyX5_ok nmX5 gw_150 rfl rfl rfl rfl rfl rfl (Nat.le_of_ble_eq_true rfl) rfl dX5_init_17 (fun H locs hW => ?_)
  refine lv_aload_n hx hb dX5_init_20 rfl (lv_at hl 0 rfl) ?_
  refine lv_bipush (v := nI 12) hx hb dX5_init_21 (by decide) ?_
  refine cx_newa C hA hW 0 (atype := .int) (a0 := (12, .inl (fun _ => nI 0))) gw_141 rfl rfl (fun _ _ h9 => h9) (fun _ => rfl) (by decide) (Nat.le_of_ble_eq_true rfl) (Nat.le_of_ble_eq_true rfl) (Nat.le_of_ble_eq_true rfl) dX5_init_23 (fun q_23 H hW => ?_)
  have hW : CxB D [(a5, .inr (8, [.ref q_7, .ref q_15, .null, .null, .int (nI 0), .int (nI 0)])), (q_7, .inl (aT 0, 12, .inl (fun _ => nI 0))), (q_15, .inl (aT 0, 12, .inl (fun _ => nI 0))), (q_23, .inl (aT 0, 12, .inl (fun _ => nI 0)))] A s.heap H _ := hW
  refine cx_putF C hnm hW 0 2 (W1 := [(a5, .inr (8, [.ref q_7, .ref q_15, .ref q_23, .null, .int (nI 0), .int (nI 0)])), (q_7, .inl (aT 0, 12, .inl (fun _ => nI 0))), (q_15, .inl (aT 0, 12, .inl (fun _ => nI 0))), (q_23, .inl (aT 0, 12, .inl (fun _ => nI 0)))]) rfl rfl (by decide) inX5 tyX5 tyX5_ok nmX5 gw_153 rfl rfl rfl rfl rfl rfl (Nat.le_of_ble_eq_true rfl) rfl dX5_init_25 (fun H locs hW => ?_)
  refine lv_aload_n hx hb dX5_init_28 rfl (lv_at hl 0 rfl) ?_
  refine lv_bipush (v := nI 12) hx hb dX5_init_29 (by decide) ?_
  refine cx_newa C hA hW 0 (atype := .int) (a0 := (12, .inl (fun _ => nI 0))) gw_141 rfl rfl (fun _ _ h9 => h9) (fun _ => rfl) (by decide) (Nat.le_of_ble_eq_true rfl) (Nat.le_of_ble_eq_true rfl) (Nat.le_of_ble_eq_true rfl) dX5_init_31 (fun q_31 H hW => ?_)
  have hW : CxB D [(a5, .inr (8, [.ref q_7, .ref q_15, .ref q_23, .null, .int (nI 0), .int (nI 0)])), (q_7, .inl (aT 0, 12, .inl (fun _ => nI 0))), (q_15, .inl (aT 0, 12, .inl (fun _ => nI 0))), (q_23, .inl (aT 0, 12, .inl (fun _ => nI 0))), (q_31, .inl (aT 0, 12, .inl (fun _ => nI 0)))] A s.heap H _ := hW
  refine cx_putF C hnm hW 0 3 (W1 := [(a5, .inr (8, [.ref q_7, .ref q_15, .ref q_23, .ref q_31, .int (nI 0), .int (nI 0)])), (q_7, .inl (aT 0, 12, .inl (fun _ => nI 0))), (q_15, .inl (aT 0, 12, .inl (fun _ => nI 0))), (q_23, .inl (aT 0, 12, .inl (fun _ => nI 0))), (q_31, .inl (aT 0, 12, .inl (fun _ => nI 0)))]) rfl rfl (by decide) inX5 tyX5 tyX5_ok nmX5 gw_157 rfl rfl rfl rfl rfl rfl (Nat.le_of_ble_eq_true rfl) rfl dX5_init_33 (fun H locs hW => ?_)
  refine lv_aload_n hx hb dX5_init_36 rfl (lv_at hl 0 rfl) ?_
  refine lv_iconst (v := nI 0) hx hb dX5_init_37 (by decide) ?_
  refine cx_put C hW 0 4 (W1 := [(a5, .inr (8, [.ref q_7, .ref q_15, .ref q_23, .ref q_31, .int (nI 0), .int (nI 0)])), (q_7, .inl (aT 0, 12, .inl (fun _ => nI 0))), (q_15, .inl (aT 0, 12, .inl (fun _ => nI 0))), (q_23, .inl (aT 0, 12, .inl (fun _ => nI 0))), (q_31, .inl (aT 0, 12, .inl (fun _ => nI 0)))]) rfl rfl (by decide) inX5 tyX5 tyX5_ok nmX5 gw_161 rfl rfl rfl rfl rfl (Nat.le_of_ble_eq_true rfl) rfl dX5_init_38 (fun H locs hW => ?_)
  refine lv_aload_n hx hb dX5_init_41 rfl (lv_at hl 0 rfl) ?_
  refine lv_iconst (v := nI 0) hx hb dX5_init_42 (by decide) ?_
  refine cx_put C hW 0 5 (W1 := [(a5, .inr (8, [.ref q_7, .ref q_15, .ref q_23, .ref q_31, .int (nI 0), .int (nI 0)])), (q_7, .inl (aT 0, 12, .inl (fun _ => nI 0))), (q_15, .inl (aT 0, 12, .inl (fun _ => nI 0))), (q_23, .inl (aT 0, 12, .inl (fun _ => nI 0))), (q_31, .inl (aT 0, 12, .inl (fun _ => nI 0)))]) rfl rfl (by decide) inX5 tyX5 tyX5_ok nmX5 gw_165 rfl rfl rfl rfl rfl (Nat.le_of_ble_eq_true rfl) rfl dX5_init_43 (fun H locs hW => ?_)
  exact cx_vret C hr hlocks hW ⟨Nat.le_of_ble_eq_true rfl, Nat.le_of_ble_eq_true rfl⟩ (⟨_, _, _, _, rfl⟩) dX5_init_46
theorem dX7_init_0 : decode cX7_init 0 = .ok (.aload_n 0, 1) := by decide +kernel
theorem dX7_init_1 : decode cX7_init 1 = .ok (.invokespecial 3, 3) := by decide +kernel
theorem dX7_init_4 : decode cX7_init 4 = .ok (.aload_n 0, 1) := by decide +kernel
theorem dX7_init_5 : decode cX7_init 5 = .ok (.new 9, 3) := by decide +kernel
theorem dX7_init_8 : decode cX7_init 8 = .ok (.dup, 1) := by decide +kernel
theorem dX7_init_9 : decode cX7_init 9 = .ok (.invokespecial 11, 3) := by decide +kernel
theorem dX7_init_12 : decode cX7_init 12 = .ok (.putfield 12, 3) := by decide +kernel
theorem dX7_init_15 : decode cX7_init 15 = .ok (.aload_n 0, 1) := by decide +kernel
theorem dX7_init_16 : decode cX7_init 16 = .ok (.new 18, 3) := by decide +kernel
theorem dX7_init_19 : decode cX7_init 19 = .ok (.dup, 1) := by decide +kernel
theorem dX7_init_20 : decode cX7_init 20 = .ok (.invokespecial 20, 3) := by decide +kernel
theorem dX7_init_23 : decode cX7_init 23 = .ok (.putfield 21, 3) := by decide +kernel
theorem dX7_init_26 : decode cX7_init 26 = .ok (.aload_n 0, 1) := by decide +kernel
theorem dX7_init_27 : decode cX7_init 27 = .ok (.iconst 4, 1) := by decide +kernel
theorem dX7_init_28 : decode cX7_init 28 = .ok (.newarray .int, 2) := by decide +kernel
theorem dX7_init_30 : decode cX7_init 30 = .ok (.putfield 25, 3) := by decide +kernel
theorem dX7_init_33 : decode cX7_init 33 = .ok (.aload_n 0, 1) := by decide +kernel
theorem dX7_init_34 : decode cX7_init 34 = .ok (.iconst 0, 1) := by decide +kernel
theorem dX7_init_35 : decode cX7_init 35 = .ok (.putfield 29, 3) := by decide +kernel
theorem dX7_init_38 : decode cX7_init 38 = .ok (.return_, 1) := by decide +kernel
theorem gI_X2_init : GoodIn gw (Cond.code yX2_init cX2_init 1 none :: gw) := gdI gw_122
theorem hI_X2_init : yX2_init.cls ≠ "java/lang/invoke/MethodHandle" ∧ yX2_init.cls ≠ "java/lang/invoke/VarHandle" ∧ (parseMethodDescriptor yX2_init.desc).map (fun d => d.parameters.length) = some 0 := ⟨by decide +kernel, by decide +kernel, by decide +kernel⟩
theorem gI_X5_init : GoodIn gw (Cond.code yX5_init cX5_init 1 none :: gw) := gdI gw_146
theorem hI_X5_init : yX5_init.cls ≠ "java/lang/invoke/MethodHandle" ∧ yX5_init.cls ≠ "java/lang/invoke/VarHandle" ∧ (parseMethodDescriptor yX5_init.desc).map (fun d => d.parameters.length) = some 0 := ⟨by decide +kernel, by decide +kernel, by decide +kernel⟩
set_option maxHeartbeats 2000000 in
set_option maxRecDepth 20000 in
theorem k_X7_init (l : Launch) (hfl : l.stackTraces = false) (D : va_G) (aT : Nat → ClassId) (a0 : Nat) : CxG l yX7_init cX7_init 1 none 2 10 80 40 D aT [.ref a0] [(a0, .inr (10, [.null, .null, .null, .int (nI 0), .int (nI 0), .int (nI 0), .int (nI 0), .int (nI 0), .int (nI 0), .int (nI 0), .int (nI 0)]))] (qV D aT (fun W1 => ∃ q_5 : Nat, ∃ q_7_9 : Nat, ∃ q_15_9 : Nat, ∃ q_23_9 : Nat, ∃ q_16 : Nat, ∃ q_7_20 : Nat, ∃ q_15_20 : Nat, ∃ q_23_20 : Nat, ∃ q_31_20 : Nat, ∃ q_28 : Nat, W1 = [(a0, .inr (10, [.ref q_5, .ref q_16, .ref q_28, .int (nI 0), .int (nI 0), .int (nI 0), .int (nI 0), .int (nI 0), .int (nI 0), .int (nI 0), .int (nI 0)])), (q_5, .inr (6, [.ref q_7_9, .ref q_15_9, .ref q_23_9, .int (nI 0)])), (q_7_9, .inl (aT 0, 6, .inl (fun _ => nI 0))), (q_15_9, .inl (aT 0, 6, .inl (fun _ => nI 0))), (q_23_9, .inl (aT 0, 6, .inl (fun _ => nI 0))), (q_16, .inr (8, [.ref q_7_20, .ref q_15_20, .ref q_23_20, .ref q_31_20, .int (nI 0), .int (nI 0)])), (q_7_20, .inl (aT 0, 12, .inl (fun _ => nI 0))), (q_15_20, .inl (aT 0, 12, .inl (fun _ => nI 0))), (q_23_20, .inl (aT 0, 12, .inl (fun _ => nI 0))), (q_31_20, .inl (aT 0, 12, .inl (fun _ => nI 0))), (q_28, .inl (aT 0, 4, .inl (fun _ => nI 0)))])) (fun _ => False) := by
  refine CxG.of RX7 (by decide +kernel) rfl (Nat.le_of_ble_eq_true rfl) ?_
  intro p e s m below meth c A ls C hml hl hA hr hlocks hex hnm hZ hW
  have hl : lv_has ls 1 [(0, .ref a0)] := hl
  have hx := C.1
  have hb := C.2.1
  refine lv_aload_n hx hb dX7_init_0 rfl (lv_at hl 0 rfl) ?_
  refine cx_init C hml hl.1 gw_117 gw_110 gw_111 dX7_init_1 (Nat.le_of_ble_eq_true rfl) (Nat.le_of_ble_eq_true rfl) ?_
  refine lv_aload_n hx hb dX7_init_4 rfl (lv_at hl 0 rfl) ?_
  refine cx_new C hA hW (ci := 6) (fs := [.null, .null, .null, .int (nI 0)]) rfl inX2 tyX2 tyX2_ok gw_118 gw_119 gw_69 (fun j hj => by rcases (show j = 0 ∨ j = 1 ∨ j = 2 ∨ j = 3 by omega) with rfl | rfl | rfl | rfl <;> rfl) (Nat.le_of_ble_eq_true rfl) (Nat.le_of_ble_eq_true rfl) dX7_init_5 (fun q_5 H hW => ?_)
  have hW : CxB D [(a0, .inr (10, [.null, .null, .null, .int (nI 0), .int (nI 0), .int (nI 0), .int (nI 0), .int (nI 0), .int (nI 0), .int (nI 0), .int (nI 0)])), (q_5, .inr (6, [.null, .null, .null, .int (nI 0)]))] A s.heap H _ := hW
  refine lv_dup hx hb dX7_init_8 rfl ?_
  refine cx_callv (Wr := [(a0, .inr (10, [.null, .null, .null, .int (nI 0), .int (nI 0), .int (nI 0), .int (nI 0), .int (nI 0), .int (nI 0), .int (nI 0), .int (nI 0)]))]) (cx_runI C hml hl.1 hZ hW hA (As := []) (rest := [.ref q_5, .ref a0]) (k_X2_init l hfl D aT q_5) gI_X2_init gw_69 gw_120 gw_121 rfl hI_X2_init rfl ⟨Nat.le_of_ble_eq_true rfl, Nat.le_of_ble_eq_true rfl⟩ ⟨Nat.le_of_ble_eq_true rfl, Nat.le_of_ble_eq_true rfl⟩ [1] rfl (by decide) rfl (Nat.le_of_ble_eq_true rfl) dX7_init_9) hW hA [1] [0] rfl rfl (by decide) (by decide) (fun _ _ _ _ _ h9 => h9.elim) (fun W_9 H locs hq hW => ?_)
  obtain ⟨q_7_9, q_15_9, q_23_9, rfl⟩ := hq
  have hW : CxB D [(a0, .inr (10, [.null, .null, .null, .int (nI 0), .int (nI 0), .int (nI 0), .int (nI 0), .int (nI 0), .int (nI 0), .int (nI 0), .int (nI 0)])), (q_5, .inr (6, [.ref q_7_9, .ref q_15_9, .ref q_23_9, .int (nI 0)])), (q_7_9, .inl (aT 0, 6, .inl (fun _ => nI 0))), (q_15_9, .inl (aT 0, 6, .inl (fun _ => nI 0))), (q_23_9, .inl (aT 0, 6, .inl (fun _ => nI 0)))] A s.heap H _ := hW
  refine cx_putF C hnm hW 0 0 (W1 := [(a0, .inr (10, [.ref q_5, .null, .null, .int (nI 0), .int (nI 0), .int (nI 0), .int (nI 0), .int (nI 0), .int (nI 0), .int (nI 0), .int (nI 0)])), (q_5, .inr (6, [.ref q_7_9, .ref q_15_9, .ref q_23_9, .int (nI 0)])), (q_7_9, .inl (aT 0, 6, .inl (fun _ => nI 0))), (q_15_9, .inl (aT 0, 6, .inl (fun _ => nI 0))), (q_23_9, .inl (aT 0, 6, .inl (fun _ => nI 0)))]) rfl rfl (by decide) inX7 tyX7 tyX7_ok nmX7 gw_179 rfl rfl rfl rfl rfl rfl (Nat.le_of_ble_eq_true rfl) rfl dX7_init_12 (fun H locs hW => ?_)
  refine lv_aload_n hx hb dX7_init_15 rfl (lv_at hl 0 rfl) ?_
  refine cx_new C hA hW (ci := 8) (fs := [.null, .null, .null, .null, .int (nI 0), .int (nI 0)]) rfl inX5 tyX5 tyX5_ok gw_142 gw_143 gw_70 (fun j hj => by rcases (show j = 0 ∨ j = 1 ∨ j = 2 ∨ j = 3 ∨ j = 4 ∨ j = 5 by omega) with rfl | rfl | rfl | rfl | rfl | rfl <;> rfl) (Nat.le_of_ble_eq_true rfl) (Nat.le_of_ble_eq_true rfl) dX7_init_16 (fun q_16 H hW => ?_)
  have hW : CxB D [(a0, .inr (10, [.ref q_5, .null, .null, .int (nI 0), .int (nI 0), .int (nI 0), .int (nI 0), .int (nI 0), .int (nI 0), .int (nI 0), .int (nI 0)])), (q_5, .inr (6, [.ref q_7_9, .ref q_15_9, .ref q_23_9, .int (nI 0)])), (q_7_9, .inl (aT 0, 6, .inl (fun _ => nI 0))), (q_15_9, .inl (aT 0, 6, .inl (fun _ => nI 0))), (q_23_9, .inl (aT 0, 6, .inl (fun _ => nI 0))), (q_16, .inr (8, [.null, .null, .null, .null, .int (nI 0), .int (nI 0)]))] A s.heap H _ := hW
  refine lv_dup hx hb dX7_init_19 rfl ?_
  refine cx_callv (Wr := [(a0, .inr (10, [.ref q_5, .null, .null, .int (nI 0), .int (nI 0), .int (nI 0), .int (nI 0), .int (nI 0), .int (nI 0), .int (nI 0), .int (nI 0)])), (q_5, .inr (6, [.ref q_7_9, .ref q_15_9, .ref q_23_9, .int (nI 0)])), (q_7_9, .inl (aT 0, 6, .inl (fun _ => nI 0))), (q_15_9, .inl (aT 0, 6, .inl (fun _ => nI 0))), (q_23_9, .inl (aT 0, 6, .inl (fun _ => nI 0)))]) (cx_runI C hml hl.1 hZ hW hA (As := []) (rest := [.ref q_16, .ref a0]) (k_X5_init l hfl D aT q_16) gI_X5_init gw_70 gw_144 gw_145 rfl hI_X5_init rfl ⟨Nat.le_of_ble_eq_true rfl, Nat.le_of_ble_eq_true rfl⟩ ⟨Nat.le_of_ble_eq_true rfl, Nat.le_of_ble_eq_true rfl⟩ [5] rfl (by decide) rfl (Nat.le_of_ble_eq_true rfl) dX7_init_20) hW hA [5] [0, 1, 2, 3, 4] rfl rfl (by decide) (by decide) (fun _ _ _ _ _ h9 => h9.elim) (fun W_20 H locs hq hW => ?_)
  obtain ⟨q_7_20, q_15_20, q_23_20, q_31_20, rfl⟩ := hq
  have hW : CxB D [(a0, .inr (10, [.ref q_5, .null, .null, .int (nI 0), .int (nI 0), .int (nI 0), .int (nI 0), .int (nI 0), .int (nI 0), .int (nI 0), .int (nI 0)])), (q_5, .inr (6, [.ref q_7_9, .ref q_15_9, .ref q_23_9, .int (nI 0)])), (q_7_9, .inl (aT 0, 6, .inl (fun _ => nI 0))), (q_15_9, .inl (aT 0, 6, .inl (fun _ => nI 0))), (q_23_9, .inl (aT 0, 6, .inl (fun _ => nI 0))), (q_16, .inr (8, [.ref q_7_20, .ref q_15_20, .ref q_23_20, .ref q_31_20, .int (nI 0), .int (nI 0)])), (q_7_20, .inl (aT 0, 12, .inl (fun _ => nI 0))), (q_15_20, .inl (aT 0, 12, .inl (fun _ => nI 0))), (q_23_20, .inl (aT 0, 12, .inl (fun _ => nI 0))), (q_31_20, .inl (aT 0, 12, .inl (fun _ => nI 0)))] A s.heap H _ := hW
  refine cx_putF C hnm hW 0 1 (W1 := [(a0, .inr (10, [.ref q_5, .ref q_16, .null, .int (nI 0), .int (nI 0), .int (nI 0), .int (nI 0), .int (nI 0), .int (nI 0), .int (nI 0), .int (nI 0)])), (q_5, .inr (6, [.ref q_7_9, .ref q_15_9, .ref q_23_9, .int (nI 0)])), (q_7_9, .inl (aT 0, 6, .inl (fun _ => nI 0))), (q_15_9, .inl (aT 0, 6, .inl (fun _ => nI 0))), (q_23_9, .inl (aT 0, 6, .inl (fun _ => nI 0))), (q_16, .inr (8, [.ref q_7_20, .ref q_15_20, .ref q_23_20, .ref q_31_20, .int (nI 0), .int (nI 0)])), (q_7_20, .inl (aT 0, 12, .inl (fun _ => nI 0))), (q_15_20, .inl (aT 0, 12, .inl (fun _ => nI 0))), (q_23_20, .inl (aT 0, 12, .inl (fun _ => nI 0))), (q_31_20, .inl (aT 0, 12, .inl (fun _ => nI 0)))]) rfl rfl (by decide) inX7 tyX7 tyX7_ok nmX7 gw_181 rfl rfl rfl rfl rfl rfl (Nat.le_of_ble_eq_true rfl) rfl dX7_init_23 (fun H locs hW => ?_)
  refine lv_aload_n hx hb dX7_init_26 rfl (lv_at hl 0 rfl) ?_
  refine lv_iconst (v := nI 4) hx hb dX7_init_27 (by decide) ?_
  refine cx_newa C hA hW 0 (atype := .int) (a0 := (4, .inl (fun _ => nI 0))) gw_141 rfl rfl (fun _ _ h9 => h9) (fun _ => rfl) (by decide) (Nat.le_of_ble_eq_true rfl) (Nat.le_of_ble_eq_true rfl) (Nat.le_of_ble_eq_true rfl) dX7_init_28 (fun q_28 H hW => ?_)
  have hW : CxB D [(a0, .inr (10, [.ref q_5, .ref q_16, .null, .int (nI 0), .int (nI 0), .int (nI 0), .int (nI 0), .int (nI 0), .int (nI 0), .int (nI 0), .int (nI 0)])), (q_5, .inr (6, [.ref q_7_9, .ref q_15_9, .ref q_23_9, .int (nI 0)])), (q_7_9, .inl (aT 0, 6, .inl (fun _ => nI 0))), (q_15_9, .inl (aT 0, 6, .inl (fun _ => nI 0))), (q_23_9, .inl (aT 0, 6, .inl (fun _ => nI 0))), (q_16, .inr (8, [.ref q_7_20, .ref q_15_20, .ref q_23_20, .ref q_31_20, .int (nI 0), .int (nI 0)])), (q_7_20, .inl (aT 0, 12, .inl (fun _ => nI 0))), (q_15_20, .inl (aT 0, 12, .inl (fun _ => nI 0))), (q_23_20, .inl (aT 0, 12, .inl (fun _ => nI 0))), (q_31_20, .inl (aT 0, 12, .inl (fun _ => nI 0))), (q_28, .inl (aT 0, 4, .inl (fun _ => nI 0)))] A s.heap H _ := hW
  refine cx_putF C hnm hW 0 2 (W1 := [(a0, .inr (10, [.ref q_5, .ref q_16, .ref q_28, .int (nI 0), .int (nI 0), .int (nI 0), .int (nI 0), .int (nI 0), .int (nI 0), .int (nI 0), .int (nI 0)])), (q_5, .inr (6, [.ref q_7_9, .ref q_15_9, .ref q_23_9, .int (nI 0)])), (q_7_9, .inl (aT 0, 6, .inl (fun _ => nI 0))), (q_15_9, .inl (aT 0, 6, .inl (fun _ => nI 0))), (q_23_9, .inl (aT 0, 6, .inl (fun _ => nI 0))), (q_16, .inr (8, [.ref q_7_20, .ref q_15_20, .ref q_23_20, .ref q_31_20, .int (nI 0), .int (nI 0)])), (q_7_20, .inl (aT 0, 12, .inl (fun _ => nI 0))), (q_15_20, .inl (aT 0, 12, .inl (fun _ => nI 0))), (q_23_20, .inl (aT 0, 12, .inl (fun _ => nI 0))), (q_31_20, .inl (aT 0, 12, .inl (fun _ => nI 0))), (q_28, .inl (aT 0, 4, .inl (fun _ => nI 0)))]) rfl rfl (by decide) inX7 tyX7 tyX7_ok nmX7 gw_183 rfl rfl rfl rfl rfl rfl (Nat.le_of_ble_eq_true rfl) rfl dX7_init_30 (fun H locs hW => ?_)
  refine lv_aload_n hx hb dX7_init_33 rfl (lv_at hl 0 rfl) ?_
  refine lv_iconst (v := nI 0) hx hb dX7_init_34 (by decide) ?_
  refine cx_put C hW 0 3 (W1 := [(a0, .inr (10, [.ref q_5, .ref q_16, .ref q_28, .int (nI 0), .int (nI 0), .int (nI 0), .int (nI 0), .int (nI 0), .int (nI 0), .int (nI 0), .int (nI 0)])), (q_5, .inr (6, [.ref q_7_9, .ref q_15_9, .ref q_23_9, .int (nI 0)])), (q_7_9, .inl (aT 0, 6, .inl (fun _ => nI 0))), (q_15_9, .inl (aT 0, 6, .inl (fun _ => nI 0))), (q_23_9, .inl (aT 0, 6, .inl (fun _ => nI 0))), (q_16, .inr (8, [.ref q_7_20, .ref q_15_20, .ref q_23_20, .ref q_31_20, .int (nI 0), .int (nI 0)])), (q_7_20, .inl (aT 0, 12, .inl (fun _ => nI 0))), (q_15_20, .inl (aT 0, 12, .inl (fun _ => nI 0))), (q_23_20, .inl (aT 0, 12, .inl (fun _ => nI 0))), (q_31_20, .inl (aT 0, 12, .inl (fun _ => nI 0))), (q_28, .inl (aT 0, 4, .inl (fun _ => nI 0)))]) rfl rfl (by decide) inX7 tyX7 tyX7_ok nmX7 gw_185 rfl rfl rfl rfl rfl (Nat.le_of_ble_eq_true rfl) rfl dX7_init_35 (fun H locs hW => ?_)
  exact cx_vret C hr hlocks hW ⟨Nat.le_of_ble_eq_true rfl, Nat.le_of_ble_eq_true rfl⟩ (⟨_, _, _, _, _, _, _, _, _, _, rfl⟩) dX7_init_38
theorem dX8_init_0 : decode cX8_init 0 = .ok (.aload_n 0, 1) := by decide +kernel
theorem dX8_init_1 : decode cX8_init 1 = .ok (.invokespecial 3, 3) := by decide +kernel
theorem dX8_init_4 : decode cX8_init 4 = .ok (.aload_n 0, 1) := by decide +kernel
theorem dX8_init_5 : decode cX8_init 5 = .ok (.bipush 12, 2) := by decide +kernel
theorem dX8_init_7 : decode cX8_init 7 = .ok (.newarray .int, 2) := by decide +kernel
theorem dX8_init_9 : decode cX8_init 9 = .ok (.putfield 9, 3) := by decide +kernel
theorem dX8_init_12 : decode cX8_init 12 = .ok (.aload_n 0, 1) := by decide +kernel
theorem dX8_init_13 : decode cX8_init 13 = .ok (.bipush 12, 2) := by decide +kernel
theorem dX8_init_15 : decode cX8_init 15 = .ok (.newarray .int, 2) := by decide +kernel
theorem dX8_init_17 : decode cX8_init 17 = .ok (.putfield 15, 3) := by decide +kernel
theorem dX8_init_20 : decode cX8_init 20 = .ok (.aload_n 0, 1) := by decide +kernel
theorem dX8_init_21 : decode cX8_init 21 = .ok (.bipush 12, 2) := by decide +kernel
theorem dX8_init_23 : decode cX8_init 23 = .ok (.newarray .int, 2) := by decide +kernel
theorem dX8_init_25 : decode cX8_init 25 = .ok (.putfield 18, 3) := by decide +kernel
theorem dX8_init_28 : decode cX8_init 28 = .ok (.aload_n 0, 1) := by decide +kernel
theorem dX8_init_29 : decode cX8_init 29 = .ok (.bipush 12, 2) := by decide +kernel
theorem dX8_init_31 : decode cX8_init 31 = .ok (.newarray .int, 2) := by decide +kernel
theorem dX8_init_33 : decode cX8_init 33 = .ok (.putfield 21, 3) := by decide +kernel
theorem dX8_init_36 : decode cX8_init 36 = .ok (.aload_n 0, 1) := by decide +kernel
theorem dX8_init_37 : decode cX8_init 37 = .ok (.bipush 12, 2) := by decide +kernel
theorem dX8_init_39 : decode cX8_init 39 = .ok (.newarray .long, 2) := by decide +kernel
theorem dX8_init_41 : decode cX8_init 41 = .ok (.putfield 24, 3) := by decide +kernel
theorem dX8_init_44 : decode cX8_init 44 = .ok (.aload_n 0, 1) := by decide +kernel
theorem dX8_init_45 : decode cX8_init 45 = .ok (.bipush 12, 2) := by decide +kernel
theorem dX8_init_47 : decode cX8_init 47 = .ok (.newarray .long, 2) := by decide +kernel
theorem dX8_init_49 : decode cX8_init 49 = .ok (.putfield 28, 3) := by decide +kernel
theorem dX8_init_52 : decode cX8_init 52 = .ok (.return_, 1) := by decide +kernel
set_option maxHeartbeats 2000000 in
set_option maxRecDepth 20000 in
theorem k_X8_init (l : Launch) (hfl : l.stackTraces = false) (D : va_G) (aT : Nat → ClassId) (t0 : Nat) : CxG l yX8_init cX8_init 1 none 1 6 72 20 D aT [.ref t0] [(t0, .inr (11, [.null, .null, .null, .null, .null, .null]))] (qV D aT (fun W1 => ∃ q_7 : Nat, ∃ q_15 : Nat, ∃ q_23 : Nat, ∃ q_31 : Nat, ∃ q_39 : Nat, ∃ q_47 : Nat, W1 = [(t0, .inr (11, [.ref q_7, .ref q_15, .ref q_23, .ref q_31, .ref q_39, .ref q_47])), (q_7, .inl (aT 0, 12, .inl (fun _ => nI 0))), (q_15, .inl (aT 0, 12, .inl (fun _ => nI 0))), (q_23, .inl (aT 0, 12, .inl (fun _ => nI 0))), (q_31, .inl (aT 0, 12, .inl (fun _ => nI 0))), (q_39, .inl (aT 2, 12, .inr (.inl (fun _ => 0)))), (q_47, .inl (aT 2, 12, .inr (.inl (fun _ => 0))))])) (fun _ => False) := by
  refine CxG.of RX8 (by decide +kernel) rfl (Nat.le_of_ble_eq_true rfl) ?_
  intro p e s m below meth c A ls C hml hl hA hr hlocks hex hnm hZ hW
  have hl : lv_has ls 1 [(0, .ref t0)] := hl
  have hx := C.1
  have hb := C.2.1
  refine lv_aload_n hx hb dX8_init_0 rfl (lv_at hl 0 rfl) ?_
  refine cx_init C hml hl.1 gw_242 gw_110 gw_111 dX8_init_1 (Nat.le_of_ble_eq_true rfl) (Nat.le_of_ble_eq_true rfl) ?_
  refine lv_aload_n hx hb dX8_init_4 rfl (lv_at hl 0 rfl) ?_
  refine lv_bipush (v := nI 12) hx hb dX8_init_5 (by decide) ?_
  refine cx_newa C hA hW 0 (atype := .int) (a0 := (12, .inl (fun _ => nI 0))) gw_141 rfl rfl (fun _ _ h9 => h9) (fun _ => rfl) (by decide) (Nat.le_of_ble_eq_true rfl) (Nat.le_of_ble_eq_true rfl) (Nat.le_of_ble_eq_true rfl) dX8_init_7 (fun q_7 H hW => ?_)
  have hW : CxB D [(t0, .inr (11, [.null, .null, .null, .null, .null, .null])), (q_7, .inl (aT 0, 12, .inl (fun _ => nI 0)))] A s.heap H _ := hW
  refine cx_putF C hnm hW 0 0 (W1 := [(t0, .inr (11, [.ref q_7, .null, .null, .null, .null, .null])), (q_7, .inl (aT 0, 12, .inl (fun _ => nI 0)))]) rfl rfl (by decide) inX8 tyX8 tyX8_ok nmX8 gw_243 rfl rfl rfl rfl rfl rfl (Nat.le_of_ble_eq_true rfl) rfl dX8_init_9 (fun H locs hW => ?_)
  refine lv_aload_n hx hb dX8_init_12 rfl (lv_at hl 0 rfl) ?_
  refine lv_bipush (v := nI 12) hx hb dX8_init_13 (by decide) ?_
  refine cx_newa C hA hW 0 (atype := .int) (a0 := (12, .inl (fun _ => nI 0))) gw_141 rfl rfl (fun _ _ h9 => h9) (fun _ => rfl) (by decide) (Nat.le_of_ble_eq_true rfl) (Nat.le_of_ble_eq_true rfl) (Nat.le_of_ble_eq_true rfl) dX8_init_15 (fun q_15 H hW => ?_)
  have hW : CxB D [(t0, .inr (11, [.ref q_7, .null, .null, .null, .null, .null])), (q_7, .inl (aT 0, 12, .inl (fun _ => nI 0))), (q_15, .inl (aT 0, 12, .inl (fun _ => nI 0)))] A s.heap H _ := hW
  refine cx_putF C hnm hW 0 1 (W1 := [(t0, .inr (11, [.ref q_7, .ref q_15, .null, .null, .null, .null])), (q_7, .inl (aT 0, 12, .inl (fun _ => nI 0))), (q_15, .inl (aT 0, 12, .inl (fun _ => nI 0)))]) rfl rfl (by decide) inX8 tyX8 tyX8_ok nmX8 gw_244 rfl rfl rfl rfl rfl rfl (Nat.le_of_ble_eq_true rfl) rfl dX8_init_17 (fun H locs hW => ?_)
  refine lv_aload_n hx hb dX8_init_20 rfl (lv_at hl 0 rfl) ?_
  refine lv_bipush (v := nI 12) hx hb dX8_init_21 (by decide) ?_
  refine cx_newa C hA hW 0 (atype := .int) (a0 := (12, .inl (fun _ => nI 0))) gw_141 rfl rfl (fun _ _ h9 => h9) (fun _ => rfl) (by decide) (Nat.le_of_ble_eq_true rfl) (Nat.le_of_ble_eq_true rfl) (Nat.le_of_ble_eq_true rfl) dX8_init_23 (fun q_23 H hW => ?_)
  have hW : CxB D [(t0, .inr (11, [.ref q_7, .ref q_15, .null, .null, .null, .null])), (q_7, .inl (aT 0, 12, .inl (fun _ => nI 0))), (q_15, .inl (aT 0, 12, .inl (fun _ => nI 0))), (q_23, .inl (aT 0, 12, .inl (fun _ => nI 0)))] A s.heap H _ := hW
  refine cx_putF C hnm hW 0 2 (W1 := [(t0, .inr (11, [.ref q_7, .ref q_15, .ref q_23, .null, .null, .null])), (q_7, .inl (aT 0, 12, .inl (fun _ => nI 0))), (q_15, .inl (aT 0, 12, .inl (fun _ => nI 0))), (q_23, .inl (aT 0, 12, .inl (fun _ => nI 0)))]) rfl rfl (by decide) inX8 tyX8 tyX8_ok nmX8 gw_245 rfl rfl rfl rfl rfl rfl (Nat.le_of_ble_eq_true rfl) rfl dX8_init_25 (fun H locs hW => ?_)
  refine lv_aload_n hx hb dX8_init_28 rfl (lv_at hl 0 rfl) ?_
  refine lv_bipush (v := nI 12) hx hb dX8_init_29 (by decide) ?_
  refine cx_newa C hA hW 0 (atype := .int) (a0 := (12, .inl (fun _ => nI 0))) gw_141 rfl rfl (fun _ _ h9 => h9) (fun _ => rfl) (by decide) (Nat.le_of_ble_eq_true rfl) (Nat.le_of_ble_eq_true rfl) (Nat.le_of_ble_eq_true rfl) dX8_init_31 (fun q_31 H hW => ?_)
  have hW : CxB D [(t0, .inr (11, [.ref q_7, .ref q_15, .ref q_23, .null, .null, .null])), (q_7, .inl (aT 0, 12, .inl (fun _ => nI 0))), (q_15, .inl (aT 0, 12, .inl (fun _ => nI 0))), (q_23, .inl (aT 0, 12, .inl (fun _ => nI 0))), (q_31, .inl (aT 0, 12, .inl (fun _ => nI 0)))] A s.heap H _ := hW
  refine cx_putF C hnm hW 0 3 (W1 := [(t0, .inr (11, [.ref q_7, .ref q_15, .ref q_23, .ref q_31, .null, .null])), (q_7, .inl (aT 0, 12, .inl (fun _ => nI 0))), (q_15, .inl (aT 0, 12, .inl (fun _ => nI 0))), (q_23, .inl (aT 0, 12, .inl (fun _ => nI 0))), (q_31, .inl (aT 0, 12, .inl (fun _ => nI 0)))]) rfl rfl (by decide) inX8 tyX8 tyX8_ok nmX8 gw_246 rfl rfl rfl rfl rfl rfl (Nat.le_of_ble_eq_true rfl) rfl dX8_init_33 (fun H locs hW => ?_)
  refine lv_aload_n hx hb dX8_init_36 rfl (lv_at hl 0 rfl) ?_
  refine lv_bipush (v := nI 12) hx hb dX8_init_37 (by decide) ?_
  refine cx_newa C hA hW 2 (atype := .long) (a0 := (12, .inr (.inl (fun _ => 0)))) gw_262 rfl rfl (fun _ _ h9 => h9) (fun _ => rfl) (by decide) (Nat.le_of_ble_eq_true rfl) (Nat.le_of_ble_eq_true rfl) (Nat.le_of_ble_eq_true rfl) dX8_init_39 (fun q_39 H hW => ?_)
  have hW : CxB D [(t0, .inr (11, [.ref q_7, .ref q_15, .ref q_23, .ref q_31, .null, .null])), (q_7, .inl (aT 0, 12, .inl (fun _ => nI 0))), (q_15, .inl (aT 0, 12, .inl (fun _ => nI 0))), (q_23, .inl (aT 0, 12, .inl (fun _ => nI 0))), (q_31, .inl (aT 0, 12, .inl (fun _ => nI 0))), (q_39, .inl (aT 2, 12, .inr (.inl (fun _ => 0))))] A s.heap H _ := hW
  refine cx_putF C hnm hW 0 4 (W1 := [(t0, .inr (11, [.ref q_7, .ref q_15, .ref q_23, .ref q_31, .ref q_39, .null])), (q_7, .inl (aT 0, 12, .inl (fun _ => nI 0))), (q_15, .inl (aT 0, 12, .inl (fun _ => nI 0))), (q_23, .inl (aT 0, 12, .inl (fun _ => nI 0))), (q_31, .inl (aT 0, 12, .inl (fun _ => nI 0))), (q_39, .inl (aT 2, 12, .inr (.inl (fun _ => 0))))]) rfl rfl (by decide) inX8 tyX8 tyX8_ok nmX8 gw_247 rfl rfl rfl rfl rfl rfl (Nat.le_of_ble_eq_true rfl) rfl dX8_init_41 (fun H locs hW => ?_)
  refine lv_aload_n hx hb dX8_init_44 rfl (lv_at hl 0 rfl) ?_
  refine lv_bipush (v := nI 12) hx hb dX8_init_45 (by decide) ?_
  refine cx_newa C hA hW 2 (atype := .long) (a0 := (12, .inr (.inl (fun _ => 0)))) gw_262 rfl rfl (fun _ _ h9 => h9) (fun _ => rfl) (by decide) (Nat.le_of_ble_eq_true rfl) (Nat.le_of_ble_eq_true rfl) (Nat.le_of_ble_eq_true rfl) dX8_init_47 (fun q_47 H hW => ?_)
  have hW : CxB D [(t0, .inr (11, [.ref q_7, .ref q_15, .ref q_23, .ref q_31, .ref q_39, .null])), (q_7, .inl (aT 0, 12, .inl (fun _ => nI 0))), (q_15, .inl (aT 0, 12, .inl (fun _ => nI 0))), (q_23, .inl (aT 0, 12, .inl (fun _ => nI 0))), (q_31, .inl (aT 0, 12, .inl (fun _ => nI 0))), (q_39, .inl (aT 2, 12, .inr (.inl (fun _ => 0)))), (q_47, .inl (aT 2, 12, .inr (.inl (fun _ => 0))))] A s.heap H _ := hW
  refine cx_putF C hnm hW 0 5 (W1 := [(t0, .inr (11, [.ref q_7, .ref q_15, .ref q_23, .ref q_31, .ref q_39, .ref q_47])), (q_7, .inl (aT 0, 12, .inl (fun _ => nI 0))), (q_15, .inl (aT 0, 12, .inl (fun _ => nI 0))), (q_23, .inl (aT 0, 12, .inl (fun _ => nI 0))), (q_31, .inl (aT 0, 12, .inl (fun _ => nI 0))), (q_39, .inl (aT 2, 12, .inr (.inl (fun _ => 0)))), (q_47, .inl (aT 2, 12, .inr (.inl (fun _ => 0))))]) rfl rfl (by decide) inX8 tyX8 tyX8_ok nmX8 gw_248 rfl rfl rfl rfl rfl rfl (Nat.le_of_ble_eq_true rfl) rfl dX8_init_49 (fun H locs hW => ?_)
  exact cx_vret C hr hlocks hW ⟨Nat.le_of_ble_eq_true rfl, Nat.le_of_ble_eq_true rfl⟩ (⟨_, _, _, _, _, _, rfl⟩) dX8_init_52
theorem dX7_isDigit_0 : decode cX7_isDigit 0 = .ok (.iload_n 0, 1) := by decide +kernel
theorem dX7_isDigit_1 : decode cX7_isDigit 1 = .ok (.ifCond .lt 13, 3) := by decide +kernel
theorem dX7_isDigit_4 : decode cX7_isDigit 4 = .ok (.iload_n 0, 1) := by decide +kernel
theorem dX7_isDigit_5 : decode cX7_isDigit 5 = .ok (.bipush 9, 2) := by decide +kernel
theorem dX7_isDigit_7 : decode cX7_isDigit 7 = .ok (.if_icmp .gt 7, 3) := by decide +kernel
theorem dX7_isDigit_10 : decode cX7_isDigit 10 = .ok (.iconst 1, 1) := by decide +kernel
theorem dX7_isDigit_11 : decode cX7_isDigit 11 = .ok (.goto 4, 3) := by decide +kernel
theorem dX7_isDigit_14 : decode cX7_isDigit 14 = .ok (.iconst 0, 1) := by decide +kernel
theorem dX7_isDigit_15 : decode cX7_isDigit 15 = .ok (.ireturn, 1) := by decide +kernel
set_option maxHeartbeats 2000000 in
set_option maxRecDepth 20000 in
theorem k_X7_isDigit (l : Launch) (hfl : l.stackTraces = false) (D : va_G) (aT : Nat → ClassId) (x : Int32) : CxG l yX7_isDigit cX7_isDigit 1 (some (.boolean)) 0 0 0 0 D aT [.int x] [] (qI D aT (fun r W1 => r = bI (rgB 0 9 x) ∧ W1 = [])) (fun _ => False) := by
  refine CxG.of RX7 (by decide +kernel) rfl (Nat.le_of_ble_eq_true rfl) ?_
  intro p e s m below meth c A ls C hml hl hA hr hlocks hex hnm hZ hW
  have hl : lv_has ls 1 [(0, .int x)] := hl
  have hx := C.1
  have hb := C.2.1
  refine lv_iload_n hx hb dX7_isDigit_0 rfl (lv_at hl 0 rfl) ?_
  refine lv_if_lt hx hb (x := x) (tgt := 14) dX7_isDigit_1 (by decide) (fun c_1 => ?_) (fun c_1 => ?_)
  · refine lv_iconst (v := nI 0) hx hb dX7_isDigit_14 (by decide) ?_
    exact cx_iret C hr hlocks (by decide) hW ⟨Nat.le_of_ble_eq_true rfl, Nat.le_of_ble_eq_true rfl⟩ (⟨by rw [dg_lo c_1]; rfl, rfl⟩) dX7_isDigit_15
  · refine lv_iload_n hx hb dX7_isDigit_4 rfl (lv_at hl 0 rfl) ?_
    refine lv_bipush (v := nI 9) hx hb dX7_isDigit_5 (by decide) ?_
    refine lv_icmp_gt hx hb (x := x) (y := (nI 9)) (tgt := 14) dX7_isDigit_7 (by decide) (fun c_7 => ?_) (fun c_7 => ?_)
    · refine lv_iconst (v := nI 0) hx hb dX7_isDigit_14 (by decide) ?_
      exact cx_iret C hr hlocks (by decide) hW ⟨Nat.le_of_ble_eq_true rfl, Nat.le_of_ble_eq_true rfl⟩ (⟨by rw [dg_hi c_7]; rfl, rfl⟩) dX7_isDigit_15
    · refine lv_iconst (v := nI 1) hx hb dX7_isDigit_10 (by decide) ?_
      refine lv_goto (tgt := 15) hx hb dX7_isDigit_11 (by decide) ?_
      exact cx_iret C hr hlocks (by decide) hW ⟨Nat.le_of_ble_eq_true rfl, Nat.le_of_ble_eq_true rfl⟩ (⟨by rw [dg_in c_1 c_7]; rfl, rfl⟩) dX7_isDigit_15
theorem dX2_copyFrom_0 : decode cX2_copyFrom 0 = .ok (.aload_n 1, 1) := by decide +kernel
theorem dX2_copyFrom_1 : decode cX2_copyFrom 1 = .ok (.getfield 9, 3) := by decide +kernel
theorem dX2_copyFrom_4 : decode cX2_copyFrom 4 = .ok (.iconst 0, 1) := by decide +kernel
theorem dX2_copyFrom_5 : decode cX2_copyFrom 5 = .ok (.aload_n 0, 1) := by decide +kernel
theorem dX2_copyFrom_6 : decode cX2_copyFrom 6 = .ok (.getfield 9, 3) := by decide +kernel
theorem dX2_copyFrom_9 : decode cX2_copyFrom 9 = .ok (.iconst 0, 1) := by decide +kernel
theorem dX2_copyFrom_10 : decode cX2_copyFrom 10 = .ok (.bipush 6, 2) := by decide +kernel
theorem dX2_copyFrom_12 : decode cX2_copyFrom 12 = .ok (.invokestatic 25, 3) := by decide +kernel
theorem dX2_copyFrom_15 : decode cX2_copyFrom 15 = .ok (.aload_n 1, 1) := by decide +kernel
theorem dX2_copyFrom_16 : decode cX2_copyFrom 16 = .ok (.getfield 15, 3) := by decide +kernel
theorem dX2_copyFrom_19 : decode cX2_copyFrom 19 = .ok (.iconst 0, 1) := by decide +kernel
theorem dX2_copyFrom_20 : decode cX2_copyFrom 20 = .ok (.aload_n 0, 1) := by decide +kernel
theorem dX2_copyFrom_21 : decode cX2_copyFrom 21 = .ok (.getfield 15, 3) := by decide +kernel
theorem dX2_copyFrom_24 : decode cX2_copyFrom 24 = .ok (.iconst 0, 1) := by decide +kernel
theorem dX2_copyFrom_25 : decode cX2_copyFrom 25 = .ok (.bipush 6, 2) := by decide +kernel
theorem dX2_copyFrom_27 : decode cX2_copyFrom 27 = .ok (.invokestatic 25, 3) := by decide +kernel
theorem dX2_copyFrom_30 : decode cX2_copyFrom 30 = .ok (.aload_n 1, 1) := by decide +kernel
theorem dX2_copyFrom_31 : decode cX2_copyFrom 31 = .ok (.getfield 18, 3) := by decide +kernel
theorem dX2_copyFrom_34 : decode cX2_copyFrom 34 = .ok (.iconst 0, 1) := by decide +kernel
theorem dX2_copyFrom_35 : decode cX2_copyFrom 35 = .ok (.aload_n 0, 1) := by decide +kernel
theorem dX2_copyFrom_36 : decode cX2_copyFrom 36 = .ok (.getfield 18, 3) := by decide +kernel
theorem dX2_copyFrom_39 : decode cX2_copyFrom 39 = .ok (.iconst 0, 1) := by decide +kernel
theorem dX2_copyFrom_40 : decode cX2_copyFrom 40 = .ok (.bipush 6, 2) := by decide +kernel
theorem dX2_copyFrom_42 : decode cX2_copyFrom 42 = .ok (.invokestatic 25, 3) := by decide +kernel
theorem dX2_copyFrom_45 : decode cX2_copyFrom 45 = .ok (.aload_n 0, 1) := by decide +kernel
theorem dX2_copyFrom_46 : decode cX2_copyFrom 46 = .ok (.aload_n 1, 1) := by decide +kernel
theorem dX2_copyFrom_47 : decode cX2_copyFrom 47 = .ok (.getfield 21, 3) := by decide +kernel
theorem dX2_copyFrom_50 : decode cX2_copyFrom 50 = .ok (.putfield 21, 3) := by decide +kernel
theorem dX2_copyFrom_53 : decode cX2_copyFrom 53 = .ok (.return_, 1) := by decide +kernel
set_option maxHeartbeats 2000000 in
set_option maxRecDepth 20000 in
theorem k_X2_copyFrom (l : Launch) (hfl : l.stackTraces = false) (D : va_G) (aT : Nat → ClassId) (a1 : Nat) (a2 : Nat) (a3 : Nat) (a4 : Nat) (b1 : Nat) (b2 : Nat) (b3 : Nat) (b4 : Nat) (f2 : Nat → Int32) (f3 : Nat → Int32) (f4 : Nat → Int32) (g2 : Nat → Int32) (g3 : Nat → Int32) (g4 : Nat → Int32) (na : Int32) (nb : Int32) : CxG l yX2_copyFrom cX2_copyFrom 2 none 1 0 0 60 D aT [.ref b1, .ref a1] [(a1, .inr (6, [.ref a2, .ref a3, .ref a4, .int na])), (a2, .inl (aT 0, 6, .inl f2)), (a3, .inl (aT 0, 6, .inl f3)), (a4, .inl (aT 0, 6, .inl f4)), (b1, .inr (6, [.ref b2, .ref b3, .ref b4, .int nb])), (b2, .inl (aT 0, 6, .inl g2)), (b3, .inl (aT 0, 6, .inl g3)), (b4, .inl (aT 0, 6, .inl g4))] (qV D aT (fun W1 => W1 = [(a1, .inr (6, [.ref a2, .ref a3, .ref a4, .int na])), (a2, .inl (aT 0, 6, .inl f2)), (a3, .inl (aT 0, 6, .inl f3)), (a4, .inl (aT 0, 6, .inl f4)), (b1, .inr (6, [.ref b2, .ref b3, .ref b4, .int na])), (b2, .inl (aT 0, 6, .inl (va_cpy f2 g2 0 0 6))), (b3, .inl (aT 0, 6, .inl (va_cpy f3 g3 0 0 6))), (b4, .inl (aT 0, 6, .inl (va_cpy f4 g4 0 0 6)))])) (fun _ => False) := by
  refine CxG.of RX2 (by decide +kernel) rfl (Nat.le_of_ble_eq_true rfl) ?_
  intro p e s m below meth c A ls C hml hl hA hr hlocks hex hnm hZ hW
  have hl : lv_has ls 2 [(0, .ref b1), (1, .ref a1)] := hl
  have hx := C.1
  have hb := C.2.1
  refine lv_aload_n hx hb dX2_copyFrom_0 rfl (lv_at hl 1 rfl) ?_
  refine cx_get C hW 0 0 rfl rfl (by decide) inX2 gw_124 rfl rfl dX2_copyFrom_1 ?_
  refine lv_iconst (v := nI 0) hx hb dX2_copyFrom_4 (by decide) ?_
  refine lv_aload_n hx hb dX2_copyFrom_5 rfl (lv_at hl 0 rfl) ?_
  refine cx_get C hW 4 0 rfl rfl (by decide) inX2 gw_124 rfl rfl dX2_copyFrom_6 ?_
  refine lv_iconst (v := nI 0) hx hb dX2_copyFrom_9 (by decide) ?_
  refine lv_bipush (v := nI 6) hx hb dX2_copyFrom_10 (by decide) ?_
  refine cx_copy C hml hl.1 hW 1 5 0 (W1 := [(a1, .inr (6, [.ref a2, .ref a3, .ref a4, .int na])), (a2, .inl (aT 0, 6, .inl f2)), (a3, .inl (aT 0, 6, .inl f3)), (a4, .inl (aT 0, 6, .inl f4)), (b1, .inr (6, [.ref b2, .ref b3, .ref b4, .int nb])), (b2, .inl (aT 0, 6, .inl (va_cpy f2 g2 0 0 6))), (b3, .inl (aT 0, 6, .inl g3)), (b4, .inl (aT 0, 6, .inl g4))]) rfl rfl rfl rfl (by decide) (by decide) (by decide) gw_390 gw_392 gw_391 gw_82 (Nat.le_of_ble_eq_true rfl) (Nat.le_of_ble_eq_true rfl) rfl dX2_copyFrom_12 (fun H locs hW => ?_)
  refine lv_aload_n hx hb dX2_copyFrom_15 rfl (lv_at hl 1 rfl) ?_
  refine cx_get C hW 0 1 rfl rfl (by decide) inX2 gw_126 rfl rfl dX2_copyFrom_16 ?_
  refine lv_iconst (v := nI 0) hx hb dX2_copyFrom_19 (by decide) ?_
  refine lv_aload_n hx hb dX2_copyFrom_20 rfl (lv_at hl 0 rfl) ?_
  refine cx_get C hW 4 1 rfl rfl (by decide) inX2 gw_126 rfl rfl dX2_copyFrom_21 ?_
  refine lv_iconst (v := nI 0) hx hb dX2_copyFrom_24 (by decide) ?_
  refine lv_bipush (v := nI 6) hx hb dX2_copyFrom_25 (by decide) ?_
  refine cx_copy C hml hl.1 hW 2 6 0 (W1 := [(a1, .inr (6, [.ref a2, .ref a3, .ref a4, .int na])), (a2, .inl (aT 0, 6, .inl f2)), (a3, .inl (aT 0, 6, .inl f3)), (a4, .inl (aT 0, 6, .inl f4)), (b1, .inr (6, [.ref b2, .ref b3, .ref b4, .int nb])), (b2, .inl (aT 0, 6, .inl (va_cpy f2 g2 0 0 6))), (b3, .inl (aT 0, 6, .inl (va_cpy f3 g3 0 0 6))), (b4, .inl (aT 0, 6, .inl g4))]) rfl rfl rfl rfl (by decide) (by decide) (by decide) gw_390 gw_392 gw_391 gw_82 (Nat.le_of_ble_eq_true rfl) (Nat.le_of_ble_eq_true rfl) rfl dX2_copyFrom_27 (fun H locs hW => ?_)
  refine lv_aload_n hx hb dX2_copyFrom_30 rfl (lv_at hl 1 rfl) ?_
  refine cx_get C hW 0 2 rfl rfl (by decide) inX2 gw_128 rfl rfl dX2_copyFrom_31 ?_
  refine lv_iconst (v := nI 0) hx hb dX2_copyFrom_34 (by decide) ?_
  refine lv_aload_n hx hb dX2_copyFrom_35 rfl (lv_at hl 0 rfl) ?_
  refine cx_get C hW 4 2 rfl rfl (by decide) inX2 gw_128 rfl rfl dX2_copyFrom_36 ?_
  refine lv_iconst (v := nI 0) hx hb dX2_copyFrom_39 (by decide) ?_
  refine lv_bipush (v := nI 6) hx hb dX2_copyFrom_40 (by decide) ?_
  refine cx_copy C hml hl.1 hW 3 7 0 (W1 := [(a1, .inr (6, [.ref a2, .ref a3, .ref a4, .int na])), (a2, .inl (aT 0, 6, .inl f2)), (a3, .inl (aT 0, 6, .inl f3)), (a4, .inl (aT 0, 6, .inl f4)), (b1, .inr (6, [.ref b2, .ref b3, .ref b4, .int nb])), (b2, .inl (aT 0, 6, .inl (va_cpy f2 g2 0 0 6))), (b3, .inl (aT 0, 6, .inl (va_cpy f3 g3 0 0 6))), (b4, .inl (aT 0, 6, .inl (va_cpy f4 g4 0 0 6)))]) rfl rfl rfl rfl (by decide) (by decide) (by decide) gw_390 gw_392 gw_391 gw_82 (Nat.le_of_ble_eq_true rfl) (Nat.le_of_ble_eq_true rfl) rfl dX2_copyFrom_42 (fun H locs hW => ?_)
  refine lv_aload_n hx hb dX2_copyFrom_45 rfl (lv_at hl 0 rfl) ?_
  refine lv_aload_n hx hb dX2_copyFrom_46 rfl (lv_at hl 1 rfl) ?_
  refine cx_get C hW 0 3 rfl rfl (by decide) inX2 gw_129 rfl rfl dX2_copyFrom_47 ?_
  refine cx_put C hW 4 3 (W1 := [(a1, .inr (6, [.ref a2, .ref a3, .ref a4, .int na])), (a2, .inl (aT 0, 6, .inl f2)), (a3, .inl (aT 0, 6, .inl f3)), (a4, .inl (aT 0, 6, .inl f4)), (b1, .inr (6, [.ref b2, .ref b3, .ref b4, .int na])), (b2, .inl (aT 0, 6, .inl (va_cpy f2 g2 0 0 6))), (b3, .inl (aT 0, 6, .inl (va_cpy f3 g3 0 0 6))), (b4, .inl (aT 0, 6, .inl (va_cpy f4 g4 0 0 6)))]) rfl rfl (by decide) inX2 tyX2 tyX2_ok nmX2 gw_129 rfl rfl rfl rfl rfl (Nat.le_of_ble_eq_true rfl) rfl dX2_copyFrom_50 (fun H locs hW => ?_)
  exact cx_vret C hr hlocks hW ⟨Nat.le_of_ble_eq_true rfl, Nat.le_of_ble_eq_true rfl⟩ (rfl) dX2_copyFrom_53
theorem dX5_copyFrom_0 : decode cX5_copyFrom 0 = .ok (.aload_n 1, 1) := by decide +kernel
theorem dX5_copyFrom_1 : decode cX5_copyFrom 1 = .ok (.getfield 9, 3) := by decide +kernel
theorem dX5_copyFrom_4 : decode cX5_copyFrom 4 = .ok (.iconst 0, 1) := by decide +kernel
theorem dX5_copyFrom_5 : decode cX5_copyFrom 5 = .ok (.aload_n 0, 1) := by decide +kernel
theorem dX5_copyFrom_6 : decode cX5_copyFrom 6 = .ok (.getfield 9, 3) := by decide +kernel
theorem dX5_copyFrom_9 : decode cX5_copyFrom 9 = .ok (.iconst 0, 1) := by decide +kernel
theorem dX5_copyFrom_10 : decode cX5_copyFrom 10 = .ok (.bipush 12, 2) := by decide +kernel
theorem dX5_copyFrom_12 : decode cX5_copyFrom 12 = .ok (.invokestatic 31, 3) := by decide +kernel
theorem dX5_copyFrom_15 : decode cX5_copyFrom 15 = .ok (.aload_n 1, 1) := by decide +kernel
theorem dX5_copyFrom_16 : decode cX5_copyFrom 16 = .ok (.getfield 15, 3) := by decide +kernel
theorem dX5_copyFrom_19 : decode cX5_copyFrom 19 = .ok (.iconst 0, 1) := by decide +kernel
theorem dX5_copyFrom_20 : decode cX5_copyFrom 20 = .ok (.aload_n 0, 1) := by decide +kernel
theorem dX5_copyFrom_21 : decode cX5_copyFrom 21 = .ok (.getfield 15, 3) := by decide +kernel
theorem dX5_copyFrom_24 : decode cX5_copyFrom 24 = .ok (.iconst 0, 1) := by decide +kernel
theorem dX5_copyFrom_25 : decode cX5_copyFrom 25 = .ok (.bipush 12, 2) := by decide +kernel
theorem dX5_copyFrom_27 : decode cX5_copyFrom 27 = .ok (.invokestatic 31, 3) := by decide +kernel
theorem dX5_copyFrom_30 : decode cX5_copyFrom 30 = .ok (.aload_n 1, 1) := by decide +kernel
theorem dX5_copyFrom_31 : decode cX5_copyFrom 31 = .ok (.getfield 18, 3) := by decide +kernel
theorem dX5_copyFrom_34 : decode cX5_copyFrom 34 = .ok (.iconst 0, 1) := by decide +kernel
theorem dX5_copyFrom_35 : decode cX5_copyFrom 35 = .ok (.aload_n 0, 1) := by decide +kernel
theorem dX5_copyFrom_36 : decode cX5_copyFrom 36 = .ok (.getfield 18, 3) := by decide +kernel
theorem dX5_copyFrom_39 : decode cX5_copyFrom 39 = .ok (.iconst 0, 1) := by decide +kernel
theorem dX5_copyFrom_40 : decode cX5_copyFrom 40 = .ok (.bipush 12, 2) := by decide +kernel
theorem dX5_copyFrom_42 : decode cX5_copyFrom 42 = .ok (.invokestatic 31, 3) := by decide +kernel
theorem dX5_copyFrom_45 : decode cX5_copyFrom 45 = .ok (.aload_n 1, 1) := by decide +kernel
theorem dX5_copyFrom_46 : decode cX5_copyFrom 46 = .ok (.getfield 21, 3) := by decide +kernel
theorem dX5_copyFrom_49 : decode cX5_copyFrom 49 = .ok (.iconst 0, 1) := by decide +kernel
theorem dX5_copyFrom_50 : decode cX5_copyFrom 50 = .ok (.aload_n 0, 1) := by decide +kernel
theorem dX5_copyFrom_51 : decode cX5_copyFrom 51 = .ok (.getfield 21, 3) := by decide +kernel
theorem dX5_copyFrom_54 : decode cX5_copyFrom 54 = .ok (.iconst 0, 1) := by decide +kernel
theorem dX5_copyFrom_55 : decode cX5_copyFrom 55 = .ok (.bipush 12, 2) := by decide +kernel
theorem dX5_copyFrom_57 : decode cX5_copyFrom 57 = .ok (.invokestatic 31, 3) := by decide +kernel
theorem dX5_copyFrom_60 : decode cX5_copyFrom 60 = .ok (.aload_n 0, 1) := by decide +kernel
theorem dX5_copyFrom_61 : decode cX5_copyFrom 61 = .ok (.aload_n 1, 1) := by decide +kernel
theorem dX5_copyFrom_62 : decode cX5_copyFrom 62 = .ok (.getfield 24, 3) := by decide +kernel
theorem dX5_copyFrom_65 : decode cX5_copyFrom 65 = .ok (.putfield 24, 3) := by decide +kernel
theorem dX5_copyFrom_68 : decode cX5_copyFrom 68 = .ok (.aload_n 0, 1) := by decide +kernel
theorem dX5_copyFrom_69 : decode cX5_copyFrom 69 = .ok (.aload_n 1, 1) := by decide +kernel
theorem dX5_copyFrom_70 : decode cX5_copyFrom 70 = .ok (.getfield 28, 3) := by decide +kernel
theorem dX5_copyFrom_73 : decode cX5_copyFrom 73 = .ok (.putfield 28, 3) := by decide +kernel
theorem dX5_copyFrom_76 : decode cX5_copyFrom 76 = .ok (.return_, 1) := by decide +kernel
set_option maxHeartbeats 2000000 in
set_option maxRecDepth 20000 in
theorem k_X5_copyFrom (l : Launch) (hfl : l.stackTraces = false) (D : va_G) (aT : Nat → ClassId) (a5 : Nat) (a6 : Nat) (a7 : Nat) (a8 : Nat) (a9 : Nat) (b5 : Nat) (b6 : Nat) (b7 : Nat) (b8 : Nat) (b9 : Nat) (f6 : Nat → Int32) (f7 : Nat → Int32) (f8 : Nat → Int32) (f9 : Nat → Int32) (g6 : Nat → Int32) (g7 : Nat → Int32) (g8 : Nat → Int32) (g9 : Nat → Int32) (na : Int32) (ma : Int32) (nb : Int32) (mb : Int32) : CxG l yX5_copyFrom cX5_copyFrom 2 none 1 0 0 60 D aT [.ref b5, .ref a5] [(a5, .inr (8, [.ref a6, .ref a7, .ref a8, .ref a9, .int na, .int ma])), (a6, .inl (aT 0, 12, .inl f6)), (a7, .inl (aT 0, 12, .inl f7)), (a8, .inl (aT 0, 12, .inl f8)), (a9, .inl (aT 0, 12, .inl f9)), (b5, .inr (8, [.ref b6, .ref b7, .ref b8, .ref b9, .int nb, .int mb])), (b6, .inl (aT 0, 12, .inl g6)), (b7, .inl (aT 0, 12, .inl g7)), (b8, .inl (aT 0, 12, .inl g8)), (b9, .inl (aT 0, 12, .inl g9))] (qV D aT (fun W1 => W1 = [(a5, .inr (8, [.ref a6, .ref a7, .ref a8, .ref a9, .int na, .int ma])), (a6, .inl (aT 0, 12, .inl f6)), (a7, .inl (aT 0, 12, .inl f7)), (a8, .inl (aT 0, 12, .inl f8)), (a9, .inl (aT 0, 12, .inl f9)), (b5, .inr (8, [.ref b6, .ref b7, .ref b8, .ref b9, .int na, .int ma])), (b6, .inl (aT 0, 12, .inl (va_cpy f6 g6 0 0 12))), (b7, .inl (aT 0, 12, .inl (va_cpy f7 g7 0 0 12))), (b8, .inl (aT 0, 12, .inl (va_cpy f8 g8 0 0 12))), (b9, .inl (aT 0, 12, .inl (va_cpy f9 g9 0 0 12)))])) (fun _ => False) := by
  refine CxG.of RX5 (by decide +kernel) rfl (Nat.le_of_ble_eq_true rfl) ?_
  intro p e s m below meth c A ls C hml hl hA hr hlocks hex hnm hZ hW
  have hl : lv_has ls 2 [(0, .ref b5), (1, .ref a5)] := hl
  have hx := C.1
  have hb := C.2.1
  refine lv_aload_n hx hb dX5_copyFrom_0 rfl (lv_at hl 1 rfl) ?_
  refine cx_get C hW 0 0 rfl rfl (by decide) inX5 gw_148 rfl rfl dX5_copyFrom_1 ?_
  refine lv_iconst (v := nI 0) hx hb dX5_copyFrom_4 (by decide) ?_
  refine lv_aload_n hx hb dX5_copyFrom_5 rfl (lv_at hl 0 rfl) ?_
  refine cx_get C hW 5 0 rfl rfl (by decide) inX5 gw_148 rfl rfl dX5_copyFrom_6 ?_
  refine lv_iconst (v := nI 0) hx hb dX5_copyFrom_9 (by decide) ?_
  refine lv_bipush (v := nI 12) hx hb dX5_copyFrom_10 (by decide) ?_
  refine cx_copy C hml hl.1 hW 1 6 0 (W1 := [(a5, .inr (8, [.ref a6, .ref a7, .ref a8, .ref a9, .int na, .int ma])), (a6, .inl (aT 0, 12, .inl f6)), (a7, .inl (aT 0, 12, .inl f7)), (a8, .inl (aT 0, 12, .inl f8)), (a9, .inl (aT 0, 12, .inl f9)), (b5, .inr (8, [.ref b6, .ref b7, .ref b8, .ref b9, .int nb, .int mb])), (b6, .inl (aT 0, 12, .inl (va_cpy f6 g6 0 0 12))), (b7, .inl (aT 0, 12, .inl g7)), (b8, .inl (aT 0, 12, .inl g8)), (b9, .inl (aT 0, 12, .inl g9))]) rfl rfl rfl rfl (by decide) (by decide) (by decide) gw_397 gw_392 gw_391 gw_82 (Nat.le_of_ble_eq_true rfl) (Nat.le_of_ble_eq_true rfl) rfl dX5_copyFrom_12 (fun H locs hW => ?_)
  refine lv_aload_n hx hb dX5_copyFrom_15 rfl (lv_at hl 1 rfl) ?_
  refine cx_get C hW 0 1 rfl rfl (by decide) inX5 gw_150 rfl rfl dX5_copyFrom_16 ?_
  refine lv_iconst (v := nI 0) hx hb dX5_copyFrom_19 (by decide) ?_
  refine lv_aload_n hx hb dX5_copyFrom_20 rfl (lv_at hl 0 rfl) ?_
  refine cx_get C hW 5 1 rfl rfl (by decide) inX5 gw_150 rfl rfl dX5_copyFrom_21 ?_
  refine lv_iconst (v := nI 0) hx hb dX5_copyFrom_24 (by decide) ?_
  refine lv_bipush (v := nI 12) hx hb dX5_copyFrom_25 (by decide) ?_
  refine cx_copy C hml hl.1 hW 2 7 0 (W1 := [(a5, .inr (8, [.ref a6, .ref a7, .ref a8, .ref a9, .int na, .int ma])), (a6, .inl (aT 0, 12, .inl f6)), (a7, .inl (aT 0, 12, .inl f7)), (a8, .inl (aT 0, 12, .inl f8)), (a9, .inl (aT 0, 12, .inl f9)), (b5, .inr (8, [.ref b6, .ref b7, .ref b8, .ref b9, .int nb, .int mb])), (b6, .inl (aT 0, 12, .inl (va_cpy f6 g6 0 0 12))), (b7, .inl (aT 0, 12, .inl (va_cpy f7 g7 0 0 12))), (b8, .inl (aT 0, 12, .inl g8)), (b9, .inl (aT 0, 12, .inl g9))]) rfl rfl rfl rfl (by decide) (by decide) (by decide) gw_397 gw_392 gw_391 gw_82 (Nat.le_of_ble_eq_true rfl) (Nat.le_of_ble_eq_true rfl) rfl dX5_copyFrom_27 (fun H locs hW => ?_)
  refine lv_aload_n hx hb dX5_copyFrom_30 rfl (lv_at hl 1 rfl) ?_
  refine cx_get C hW 0 2 rfl rfl (by decide) inX5 gw_153 rfl rfl dX5_copyFrom_31 ?_
  refine lv_iconst (v := nI 0) hx hb dX5_copyFrom_34 (by decide) ?_
  refine lv_aload_n hx hb dX5_copyFrom_35 rfl (lv_at hl 0 rfl) ?_
  refine cx_get C hW 5 2 rfl rfl (by decide) inX5 gw_153 rfl rfl dX5_copyFrom_36 ?_
  refine lv_iconst (v := nI 0) hx hb dX5_copyFrom_39 (by decide) ?_
  refine lv_bipush (v := nI 12) hx hb dX5_copyFrom_40 (by decide) ?_
  refine cx_copy C hml hl.1 hW 3 8 0 (W1 := [(a5, .inr (8, [.ref a6, .ref a7, .ref a8, .ref a9, .int na, .int ma])), (a6, .inl (aT 0, 12, .inl f6)), (a7, .inl (aT 0, 12, .inl f7)), (a8, .inl (aT 0, 12, .inl f8)), (a9, .inl (aT 0, 12, .inl f9)), (b5, .inr (8, [.ref b6, .ref b7, .ref b8, .ref b9, .int nb, .int mb])), (b6, .inl (aT 0, 12, .inl (va_cpy f6 g6 0 0 12))), (b7, .inl (aT 0, 12, .inl (va_cpy f7 g7 0 0 12))), (b8, .inl (aT 0, 12, .inl (va_cpy f8 g8 0 0 12))), (b9, .inl (aT 0, 12, .inl g9))]) rfl rfl rfl rfl (by decide) (by decide) (by decide) gw_397 gw_392 gw_391 gw_82 (Nat.le_of_ble_eq_true rfl) (Nat.le_of_ble_eq_true rfl) rfl dX5_copyFrom_42 (fun H locs hW => ?_)
  refine lv_aload_n hx hb dX5_copyFrom_45 rfl (lv_at hl 1 rfl) ?_
  refine cx_get C hW 0 3 rfl rfl (by decide) inX5 gw_157 rfl rfl dX5_copyFrom_46 ?_
  refine lv_iconst (v := nI 0) hx hb dX5_copyFrom_49 (by decide) ?_
  refine lv_aload_n hx hb dX5_copyFrom_50 rfl (lv_at hl 0 rfl) ?_
  refine cx_get C hW 5 3 rfl rfl (by decide) inX5 gw_157 rfl rfl dX5_copyFrom_51 ?_
  refine lv_iconst (v := nI 0) hx hb dX5_copyFrom_54 (by decide) ?_
  refine lv_bipush (v := nI 12) hx hb dX5_copyFrom_55 (by decide) ?_
  refine cx_copy C hml hl.1 hW 4 9 0 (W1 := [(a5, .inr (8, [.ref a6, .ref a7, .ref a8, .ref a9, .int na, .int ma])), (a6, .inl (aT 0, 12, .inl f6)), (a7, .inl (aT 0, 12, .inl f7)), (a8, .inl (aT 0, 12, .inl f8)), (a9, .inl (aT 0, 12, .inl f9)), (b5, .inr (8, [.ref b6, .ref b7, .ref b8, .ref b9, .int nb, .int mb])), (b6, .inl (aT 0, 12, .inl (va_cpy f6 g6 0 0 12))), (b7, .inl (aT 0, 12, .inl (va_cpy f7 g7 0 0 12))), (b8, .inl (aT 0, 12, .inl (va_cpy f8 g8 0 0 12))), (b9, .inl (aT 0, 12, .inl (va_cpy f9 g9 0 0 12)))]) rfl rfl rfl rfl (by decide) (by decide) (by decide) gw_397 gw_392 gw_391 gw_82 (Nat.le_of_ble_eq_true rfl) (Nat.le_of_ble_eq_true rfl) rfl dX5_copyFrom_57 (fun H locs hW => ?_)
  refine lv_aload_n hx hb dX5_copyFrom_60 rfl (lv_at hl 0 rfl) ?_
  refine lv_aload_n hx hb dX5_copyFrom_61 rfl (lv_at hl 1 rfl) ?_
  refine cx_get C hW 0 4 rfl rfl (by decide) inX5 gw_161 rfl rfl dX5_copyFrom_62 ?_
  refine cx_put C hW 5 4 (W1 := [(a5, .inr (8, [.ref a6, .ref a7, .ref a8, .ref a9, .int na, .int ma])), (a6, .inl (aT 0, 12, .inl f6)), (a7, .inl (aT 0, 12, .inl f7)), (a8, .inl (aT 0, 12, .inl f8)), (a9, .inl (aT 0, 12, .inl f9)), (b5, .inr (8, [.ref b6, .ref b7, .ref b8, .ref b9, .int na, .int mb])), (b6, .inl (aT 0, 12, .inl (va_cpy f6 g6 0 0 12))), (b7, .inl (aT 0, 12, .inl (va_cpy f7 g7 0 0 12))), (b8, .inl (aT 0, 12, .inl (va_cpy f8 g8 0 0 12))), (b9, .inl (aT 0, 12, .inl (va_cpy f9 g9 0 0 12)))]) rfl rfl (by decide) inX5 tyX5 tyX5_ok nmX5 gw_161 rfl rfl rfl rfl rfl (Nat.le_of_ble_eq_true rfl) rfl dX5_copyFrom_65 (fun H locs hW => ?_)
  refine lv_aload_n hx hb dX5_copyFrom_68 rfl (lv_at hl 0 rfl) ?_
  refine lv_aload_n hx hb dX5_copyFrom_69 rfl (lv_at hl 1 rfl) ?_
  refine cx_get C hW 0 5 rfl rfl (by decide) inX5 gw_165 rfl rfl dX5_copyFrom_70 ?_
  refine cx_put C hW 5 5 (W1 := [(a5, .inr (8, [.ref a6, .ref a7, .ref a8, .ref a9, .int na, .int ma])), (a6, .inl (aT 0, 12, .inl f6)), (a7, .inl (aT 0, 12, .inl f7)), (a8, .inl (aT 0, 12, .inl f8)), (a9, .inl (aT 0, 12, .inl f9)), (b5, .inr (8, [.ref b6, .ref b7, .ref b8, .ref b9, .int na, .int ma])), (b6, .inl (aT 0, 12, .inl (va_cpy f6 g6 0 0 12))), (b7, .inl (aT 0, 12, .inl (va_cpy f7 g7 0 0 12))), (b8, .inl (aT 0, 12, .inl (va_cpy f8 g8 0 0 12))), (b9, .inl (aT 0, 12, .inl (va_cpy f9 g9 0 0 12)))]) rfl rfl (by decide) inX5 tyX5 tyX5_ok nmX5 gw_165 rfl rfl rfl rfl rfl (Nat.le_of_ble_eq_true rfl) rfl dX5_copyFrom_73 (fun H locs hW => ?_)
  exact cx_vret C hr hlocks hW ⟨Nat.le_of_ble_eq_true rfl, Nat.le_of_ble_eq_true rfl⟩ (rfl) dX5_copyFrom_76
theorem dX7_copyFrom_0 : decode cX7_copyFrom 0 = .ok (.aload_n 0, 1) := by decide +kernel
theorem dX7_copyFrom_1 : decode cX7_copyFrom 1 = .ok (.getfield 12, 3) := by decide +kernel
theorem dX7_copyFrom_4 : decode cX7_copyFrom 4 = .ok (.aload_n 1, 1) := by decide +kernel
theorem dX7_copyFrom_5 : decode cX7_copyFrom 5 = .ok (.getfield 12, 3) := by decide +kernel
theorem dX7_copyFrom_8 : decode cX7_copyFrom 8 = .ok (.invokevirtual 33, 3) := by decide +kernel
theorem dX7_copyFrom_11 : decode cX7_copyFrom 11 = .ok (.aload_n 0, 1) := by decide +kernel
theorem dX7_copyFrom_12 : decode cX7_copyFrom 12 = .ok (.getfield 21, 3) := by decide +kernel
theorem dX7_copyFrom_15 : decode cX7_copyFrom 15 = .ok (.aload_n 1, 1) := by decide +kernel
theorem dX7_copyFrom_16 : decode cX7_copyFrom 16 = .ok (.getfield 21, 3) := by decide +kernel
theorem dX7_copyFrom_19 : decode cX7_copyFrom 19 = .ok (.invokevirtual 37, 3) := by decide +kernel
theorem dX7_copyFrom_22 : decode cX7_copyFrom 22 = .ok (.aload_n 1, 1) := by decide +kernel
theorem dX7_copyFrom_23 : decode cX7_copyFrom 23 = .ok (.getfield 25, 3) := by decide +kernel
theorem dX7_copyFrom_26 : decode cX7_copyFrom 26 = .ok (.iconst 0, 1) := by decide +kernel
theorem dX7_copyFrom_27 : decode cX7_copyFrom 27 = .ok (.aload_n 0, 1) := by decide +kernel
theorem dX7_copyFrom_28 : decode cX7_copyFrom 28 = .ok (.getfield 25, 3) := by decide +kernel
theorem dX7_copyFrom_31 : decode cX7_copyFrom 31 = .ok (.iconst 0, 1) := by decide +kernel
theorem dX7_copyFrom_32 : decode cX7_copyFrom 32 = .ok (.iconst 4, 1) := by decide +kernel
theorem dX7_copyFrom_33 : decode cX7_copyFrom 33 = .ok (.invokestatic 40, 3) := by decide +kernel
theorem dX7_copyFrom_36 : decode cX7_copyFrom 36 = .ok (.aload_n 0, 1) := by decide +kernel
theorem dX7_copyFrom_37 : decode cX7_copyFrom 37 = .ok (.aload_n 1, 1) := by decide +kernel
theorem dX7_copyFrom_38 : decode cX7_copyFrom 38 = .ok (.getfield 29, 3) := by decide +kernel
theorem dX7_copyFrom_41 : decode cX7_copyFrom 41 = .ok (.putfield 29, 3) := by decide +kernel
theorem dX7_copyFrom_44 : decode cX7_copyFrom 44 = .ok (.aload_n 0, 1) := by decide +kernel
theorem dX7_copyFrom_45 : decode cX7_copyFrom 45 = .ok (.aload_n 1, 1) := by decide +kernel
theorem dX7_copyFrom_46 : decode cX7_copyFrom 46 = .ok (.getfield 46, 3) := by decide +kernel
theorem dX7_copyFrom_49 : decode cX7_copyFrom 49 = .ok (.putfield 46, 3) := by decide +kernel
theorem dX7_copyFrom_52 : decode cX7_copyFrom 52 = .ok (.aload_n 0, 1) := by decide +kernel
theorem dX7_copyFrom_53 : decode cX7_copyFrom 53 = .ok (.aload_n 1, 1) := by decide +kernel
theorem dX7_copyFrom_54 : decode cX7_copyFrom 54 = .ok (.getfield 49, 3) := by decide +kernel
theorem dX7_copyFrom_57 : decode cX7_copyFrom 57 = .ok (.putfield 49, 3) := by decide +kernel
theorem dX7_copyFrom_60 : decode cX7_copyFrom 60 = .ok (.aload_n 0, 1) := by decide +kernel
theorem dX7_copyFrom_61 : decode cX7_copyFrom 61 = .ok (.aload_n 1, 1) := by decide +kernel
theorem dX7_copyFrom_62 : decode cX7_copyFrom 62 = .ok (.getfield 52, 3) := by decide +kernel
theorem dX7_copyFrom_65 : decode cX7_copyFrom 65 = .ok (.putfield 52, 3) := by decide +kernel
theorem dX7_copyFrom_68 : decode cX7_copyFrom 68 = .ok (.aload_n 0, 1) := by decide +kernel
theorem dX7_copyFrom_69 : decode cX7_copyFrom 69 = .ok (.aload_n 1, 1) := by decide +kernel
theorem dX7_copyFrom_70 : decode cX7_copyFrom 70 = .ok (.getfield 55, 3) := by decide +kernel
theorem dX7_copyFrom_73 : decode cX7_copyFrom 73 = .ok (.putfield 55, 3) := by decide +kernel
theorem dX7_copyFrom_76 : decode cX7_copyFrom 76 = .ok (.aload_n 0, 1) := by decide +kernel
theorem dX7_copyFrom_77 : decode cX7_copyFrom 77 = .ok (.aload_n 1, 1) := by decide +kernel
theorem dX7_copyFrom_78 : decode cX7_copyFrom 78 = .ok (.getfield 58, 3) := by decide +kernel
theorem dX7_copyFrom_81 : decode cX7_copyFrom 81 = .ok (.putfield 58, 3) := by decide +kernel
theorem dX7_copyFrom_84 : decode cX7_copyFrom 84 = .ok (.aload_n 0, 1) := by decide +kernel
theorem dX7_copyFrom_85 : decode cX7_copyFrom 85 = .ok (.aload_n 1, 1) := by decide +kernel
theorem dX7_copyFrom_86 : decode cX7_copyFrom 86 = .ok (.getfield 61, 3) := by decide +kernel
theorem dX7_copyFrom_89 : decode cX7_copyFrom 89 = .ok (.putfield 61, 3) := by decide +kernel
theorem dX7_copyFrom_92 : decode cX7_copyFrom 92 = .ok (.aload_n 0, 1) := by decide +kernel
theorem dX7_copyFrom_93 : decode cX7_copyFrom 93 = .ok (.aload_n 1, 1) := by decide +kernel
theorem dX7_copyFrom_94 : decode cX7_copyFrom 94 = .ok (.getfield 64, 3) := by decide +kernel
theorem dX7_copyFrom_97 : decode cX7_copyFrom 97 = .ok (.putfield 64, 3) := by decide +kernel
theorem dX7_copyFrom_100 : decode cX7_copyFrom 100 = .ok (.return_, 1) := by decide +kernel
theorem gV_X7_X2_copyFrom_33 : GoodIn gw (wsV RX7 33 RX2 yX2_copyFrom (Cond.code yX2_copyFrom cX2_copyFrom 2 (none) :: gw)) := gdV gw_386 gw_387 gw_388 gw_69 gw_389
theorem hV_X2_copyFrom : yX2_copyFrom.cls = RX2 ∧ yX2_copyFrom.cls ≠ "java/lang/invoke/MethodHandle" ∧ yX2_copyFrom.cls ≠ "java/lang/invoke/VarHandle" ∧ (parseMethodDescriptor yX2_copyFrom.desc).map (fun d => d.parameters.length) = some 1 := ⟨rfl, by decide +kernel, by decide +kernel, by decide +kernel⟩
theorem gV_X7_X5_copyFrom_37 : GoodIn gw (wsV RX7 37 RX5 yX5_copyFrom (Cond.code yX5_copyFrom cX5_copyFrom 2 (none) :: gw)) := gdV gw_393 gw_394 gw_395 gw_70 gw_396
theorem hV_X5_copyFrom : yX5_copyFrom.cls = RX5 ∧ yX5_copyFrom.cls ≠ "java/lang/invoke/MethodHandle" ∧ yX5_copyFrom.cls ≠ "java/lang/invoke/VarHandle" ∧ (parseMethodDescriptor yX5_copyFrom.desc).map (fun d => d.parameters.length) = some 1 := ⟨rfl, by decide +kernel, by decide +kernel, by decide +kernel⟩
set_option maxHeartbeats 2000000 in
set_option maxRecDepth 20000 in
theorem k_X7_copyFrom (l : Launch) (hfl : l.stackTraces = false) (D : va_G) (aT : Nat → ClassId) (a0 : Nat) (a1 : Nat) (a2 : Nat) (a3 : Nat) (a4 : Nat) (a5 : Nat) (a6 : Nat) (a7 : Nat) (a8 : Nat) (a9 : Nat) (a10 : Nat) (f2 : Nat → Int32) (f3 : Nat → Int32) (f4 : Nat → Int32) (f6 : Nat → Int32) (f7 : Nat → Int32) (f8 : Nat → Int32) (f9 : Nat → Int32) (f10 : Nat → Int32) (x0 : Int32) (x1 : Int32) (x2 : Int32) (x3 : Int32) (x4 : Int32) (x5 : Int32) (x6 : Int32) (x7 : Int32) (x8 : Int32) (x9 : Int32) (x10 : Int32) (b0 : Nat) (b1 : Nat) (b2 : Nat) (b3 : Nat) (b4 : Nat) (b5 : Nat) (b6 : Nat) (b7 : Nat) (b8 : Nat) (b9 : Nat) (b10 : Nat) (g2 : Nat → Int32) (g3 : Nat → Int32) (g4 : Nat → Int32) (g6 : Nat → Int32) (g7 : Nat → Int32) (g8 : Nat → Int32) (g9 : Nat → Int32) (g10 : Nat → Int32) (y0 : Int32) (y1 : Int32) (y2 : Int32) (y3 : Int32) (y4 : Int32) (y5 : Int32) (y6 : Int32) (y7 : Int32) (y8 : Int32) (y9 : Int32) (y10 : Int32) : CxG l yX7_copyFrom cX7_copyFrom 2 none 2 0 0 81 D aT [.ref b0, .ref a0] [(a0, .inr (10, [.ref a1, .ref a5, .ref a10, .int x0, .int x1, .int x2, .int x3, .int x4, .int x5, .int x6, .int x7])), (a1, .inr (6, [.ref a2, .ref a3, .ref a4, .int x8])), (a2, .inl (aT 0, 6, .inl f2)), (a3, .inl (aT 0, 6, .inl f3)), (a4, .inl (aT 0, 6, .inl f4)), (a5, .inr (8, [.ref a6, .ref a7, .ref a8, .ref a9, .int x9, .int x10])), (a6, .inl (aT 0, 12, .inl f6)), (a7, .inl (aT 0, 12, .inl f7)), (a8, .inl (aT 0, 12, .inl f8)), (a9, .inl (aT 0, 12, .inl f9)), (a10, .inl (aT 0, 4, .inl f10)), (b0, .inr (10, [.ref b1, .ref b5, .ref b10, .int y0, .int y1, .int y2, .int y3, .int y4, .int y5, .int y6, .int y7])), (b1, .inr (6, [.ref b2, .ref b3, .ref b4, .int y8])), (b2, .inl (aT 0, 6, .inl g2)), (b3, .inl (aT 0, 6, .inl g3)), (b4, .inl (aT 0, 6, .inl g4)), (b5, .inr (8, [.ref b6, .ref b7, .ref b8, .ref b9, .int y9, .int y10])), (b6, .inl (aT 0, 12, .inl g6)), (b7, .inl (aT 0, 12, .inl g7)), (b8, .inl (aT 0, 12, .inl g8)), (b9, .inl (aT 0, 12, .inl g9)), (b10, .inl (aT 0, 4, .inl g10))] (qV D aT (fun W1 => W1 = [(a0, .inr (10, [.ref a1, .ref a5, .ref a10, .int x0, .int x1, .int x2, .int x3, .int x4, .int x5, .int x6, .int x7])), (a10, .inl (aT 0, 4, .inl f10)), (b0, .inr (10, [.ref b1, .ref b5, .ref b10, .int x0, .int x1, .int x2, .int x3, .int x4, .int x5, .int x6, .int x7])), (b10, .inl (aT 0, 4, .inl (va_cpy f10 g10 0 0 4))), (a1, .inr (6, [.ref a2, .ref a3, .ref a4, .int x8])), (a2, .inl (aT 0, 6, .inl f2)), (a3, .inl (aT 0, 6, .inl f3)), (a4, .inl (aT 0, 6, .inl f4)), (b1, .inr (6, [.ref b2, .ref b3, .ref b4, .int x8])), (b2, .inl (aT 0, 6, .inl (va_cpy f2 g2 0 0 6))), (b3, .inl (aT 0, 6, .inl (va_cpy f3 g3 0 0 6))), (b4, .inl (aT 0, 6, .inl (va_cpy f4 g4 0 0 6))), (a5, .inr (8, [.ref a6, .ref a7, .ref a8, .ref a9, .int x9, .int x10])), (a6, .inl (aT 0, 12, .inl f6)), (a7, .inl (aT 0, 12, .inl f7)), (a8, .inl (aT 0, 12, .inl f8)), (a9, .inl (aT 0, 12, .inl f9)), (b5, .inr (8, [.ref b6, .ref b7, .ref b8, .ref b9, .int x9, .int x10])), (b6, .inl (aT 0, 12, .inl (va_cpy f6 g6 0 0 12))), (b7, .inl (aT 0, 12, .inl (va_cpy f7 g7 0 0 12))), (b8, .inl (aT 0, 12, .inl (va_cpy f8 g8 0 0 12))), (b9, .inl (aT 0, 12, .inl (va_cpy f9 g9 0 0 12)))])) (fun _ => False) := by
  refine CxG.of RX7 (by decide +kernel) rfl (Nat.le_of_ble_eq_true rfl) ?_
  intro p e s m below meth c A ls C hml hl hA hr hlocks hex hnm hZ hW
  have hl : lv_has ls 2 [(0, .ref b0), (1, .ref a0)] := hl
  have hx := C.1
  have hb := C.2.1
  refine lv_aload_n hx hb dX7_copyFrom_0 rfl (lv_at hl 0 rfl) ?_
  refine cx_get C hW 11 0 rfl rfl (by decide) inX7 gw_179 rfl rfl dX7_copyFrom_1 ?_
  refine lv_aload_n hx hb dX7_copyFrom_4 rfl (lv_at hl 1 rfl) ?_
  refine cx_get C hW 0 0 rfl rfl (by decide) inX7 gw_179 rfl rfl dX7_copyFrom_5 ?_
  refine cx_callv (Wr := [(a0, .inr (10, [.ref a1, .ref a5, .ref a10, .int x0, .int x1, .int x2, .int x3, .int x4, .int x5, .int x6, .int x7])), (a5, .inr (8, [.ref a6, .ref a7, .ref a8, .ref a9, .int x9, .int x10])), (a6, .inl (aT 0, 12, .inl f6)), (a7, .inl (aT 0, 12, .inl f7)), (a8, .inl (aT 0, 12, .inl f8)), (a9, .inl (aT 0, 12, .inl f9)), (a10, .inl (aT 0, 4, .inl f10)), (b0, .inr (10, [.ref b1, .ref b5, .ref b10, .int y0, .int y1, .int y2, .int y3, .int y4, .int y5, .int y6, .int y7])), (b5, .inr (8, [.ref b6, .ref b7, .ref b8, .ref b9, .int y9, .int y10])), (b6, .inl (aT 0, 12, .inl g6)), (b7, .inl (aT 0, 12, .inl g7)), (b8, .inl (aT 0, 12, .inl g8)), (b9, .inl (aT 0, 12, .inl g9)), (b10, .inl (aT 0, 4, .inl g10))]) (cx_runV C hml hl.1 hZ hW hA (As := [.ref a1]) (rest := []) (k_X2_copyFrom l hfl D aT a1 a2 a3 a4 b1 b2 b3 b4 f2 f3 f4 g2 g3 g4 x8 y8) gV_X7_X2_copyFrom_33 hV_X2_copyFrom rfl ⟨Nat.le_of_ble_eq_true rfl, Nat.le_of_ble_eq_true rfl⟩ ⟨Nat.le_of_ble_eq_true rfl, Nat.le_of_ble_eq_true rfl⟩ [1, 2, 3, 4, 12, 13, 14, 15] rfl (by decide) 12 6 rfl rfl rfl rfl (Nat.le_of_ble_eq_true rfl) dX7_copyFrom_8) hW hA [1, 2, 3, 4, 12, 13, 14, 15] [0, 5, 6, 7, 8, 9, 10, 11, 16, 17, 18, 19, 20, 21] rfl rfl (by decide) (by decide) (fun _ _ _ _ _ h9 => h9.elim) (fun W_8 H locs hq hW => ?_)
  subst hq
  have hW : CxB D [(a0, .inr (10, [.ref a1, .ref a5, .ref a10, .int x0, .int x1, .int x2, .int x3, .int x4, .int x5, .int x6, .int x7])), (a5, .inr (8, [.ref a6, .ref a7, .ref a8, .ref a9, .int x9, .int x10])), (a6, .inl (aT 0, 12, .inl f6)), (a7, .inl (aT 0, 12, .inl f7)), (a8, .inl (aT 0, 12, .inl f8)), (a9, .inl (aT 0, 12, .inl f9)), (a10, .inl (aT 0, 4, .inl f10)), (b0, .inr (10, [.ref b1, .ref b5, .ref b10, .int y0, .int y1, .int y2, .int y3, .int y4, .int y5, .int y6, .int y7])), (b5, .inr (8, [.ref b6, .ref b7, .ref b8, .ref b9, .int y9, .int y10])), (b6, .inl (aT 0, 12, .inl g6)), (b7, .inl (aT 0, 12, .inl g7)), (b8, .inl (aT 0, 12, .inl g8)), (b9, .inl (aT 0, 12, .inl g9)), (b10, .inl (aT 0, 4, .inl g10)), (a1, .inr (6, [.ref a2, .ref a3, .ref a4, .int x8])), (a2, .inl (aT 0, 6, .inl f2)), (a3, .inl (aT 0, 6, .inl f3)), (a4, .inl (aT 0, 6, .inl f4)), (b1, .inr (6, [.ref b2, .ref b3, .ref b4, .int x8])), (b2, .inl (aT 0, 6, .inl (va_cpy f2 g2 0 0 6))), (b3, .inl (aT 0, 6, .inl (va_cpy f3 g3 0 0 6))), (b4, .inl (aT 0, 6, .inl (va_cpy f4 g4 0 0 6)))] A s.heap H _ := hW
  refine lv_aload_n hx hb dX7_copyFrom_11 rfl (lv_at hl 0 rfl) ?_
  refine cx_get C hW 7 1 rfl rfl (by decide) inX7 gw_181 rfl rfl dX7_copyFrom_12 ?_
  refine lv_aload_n hx hb dX7_copyFrom_15 rfl (lv_at hl 1 rfl) ?_
  refine cx_get C hW 0 1 rfl rfl (by decide) inX7 gw_181 rfl rfl dX7_copyFrom_16 ?_
  refine cx_callv (Wr := [(a0, .inr (10, [.ref a1, .ref a5, .ref a10, .int x0, .int x1, .int x2, .int x3, .int x4, .int x5, .int x6, .int x7])), (a10, .inl (aT 0, 4, .inl f10)), (b0, .inr (10, [.ref b1, .ref b5, .ref b10, .int y0, .int y1, .int y2, .int y3, .int y4, .int y5, .int y6, .int y7])), (b10, .inl (aT 0, 4, .inl g10)), (a1, .inr (6, [.ref a2, .ref a3, .ref a4, .int x8])), (a2, .inl (aT 0, 6, .inl f2)), (a3, .inl (aT 0, 6, .inl f3)), (a4, .inl (aT 0, 6, .inl f4)), (b1, .inr (6, [.ref b2, .ref b3, .ref b4, .int x8])), (b2, .inl (aT 0, 6, .inl (va_cpy f2 g2 0 0 6))), (b3, .inl (aT 0, 6, .inl (va_cpy f3 g3 0 0 6))), (b4, .inl (aT 0, 6, .inl (va_cpy f4 g4 0 0 6)))]) (cx_runV C hml hl.1 hZ hW hA (As := [.ref a5]) (rest := []) (k_X5_copyFrom l hfl D aT a5 a6 a7 a8 a9 b5 b6 b7 b8 b9 f6 f7 f8 f9 g6 g7 g8 g9 x9 x10 y9 y10) gV_X7_X5_copyFrom_37 hV_X5_copyFrom rfl ⟨Nat.le_of_ble_eq_true rfl, Nat.le_of_ble_eq_true rfl⟩ ⟨Nat.le_of_ble_eq_true rfl, Nat.le_of_ble_eq_true rfl⟩ [1, 2, 3, 4, 5, 8, 9, 10, 11, 12] rfl (by decide) 8 8 rfl rfl rfl rfl (Nat.le_of_ble_eq_true rfl) dX7_copyFrom_19) hW hA [1, 2, 3, 4, 5, 8, 9, 10, 11, 12] [0, 6, 7, 13, 14, 15, 16, 17, 18, 19, 20, 21] rfl rfl (by decide) (by decide) (fun _ _ _ _ _ h9 => h9.elim) (fun W_19 H locs hq hW => ?_)
  subst hq
  have hW : CxB D [(a0, .inr (10, [.ref a1, .ref a5, .ref a10, .int x0, .int x1, .int x2, .int x3, .int x4, .int x5, .int x6, .int x7])), (a10, .inl (aT 0, 4, .inl f10)), (b0, .inr (10, [.ref b1, .ref b5, .ref b10, .int y0, .int y1, .int y2, .int y3, .int y4, .int y5, .int y6, .int y7])), (b10, .inl (aT 0, 4, .inl g10)), (a1, .inr (6, [.ref a2, .ref a3, .ref a4, .int x8])), (a2, .inl (aT 0, 6, .inl f2)), (a3, .inl (aT 0, 6, .inl f3)), (a4, .inl (aT 0, 6, .inl f4)), (b1, .inr (6, [.ref b2, .ref b3, .ref b4, .int x8])), (b2, .inl (aT 0, 6, .inl (va_cpy f2 g2 0 0 6))), (b3, .inl (aT 0, 6, .inl (va_cpy f3 g3 0 0 6))), (b4, .inl (aT 0, 6, .inl (va_cpy f4 g4 0 0 6))), (a5, .inr (8, [.ref a6, .ref a7, .ref a8, .ref a9, .int x9, .int x10])), (a6, .inl (aT 0, 12, .inl f6)), (a7, .inl (aT 0, 12, .inl f7)), (a8, .inl (aT 0, 12, .inl f8)), (a9, .inl (aT 0, 12, .inl f9)), (b5, .inr (8, [.ref b6, .ref b7, .ref b8, .ref b9, .int x9, .int x10])), (b6, .inl (aT 0, 12, .inl (va_cpy f6 g6 0 0 12))), (b7, .inl (aT 0, 12, .inl (va_cpy f7 g7 0 0 12))), (b8, .inl (aT 0, 12, .inl (va_cpy f8 g8 0 0 12))), (b9, .inl (aT 0, 12, .inl (va_cpy f9 g9 0 0 12)))] A s.heap H _ := hW
  refine lv_aload_n hx hb dX7_copyFrom_22 rfl (lv_at hl 1 rfl) ?_
  refine cx_get C hW 0 2 rfl rfl (by decide) inX7 gw_183 rfl rfl dX7_copyFrom_23 ?_
  refine lv_iconst (v := nI 0) hx hb dX7_copyFrom_26 (by decide) ?_
  refine lv_aload_n hx hb dX7_copyFrom_27 rfl (lv_at hl 0 rfl) ?_
  refine cx_get C hW 2 2 rfl rfl (by decide) inX7 gw_183 rfl rfl dX7_copyFrom_28 ?_
  refine lv_iconst (v := nI 0) hx hb dX7_copyFrom_31 (by decide) ?_
  refine lv_iconst (v := nI 4) hx hb dX7_copyFrom_32 (by decide) ?_
  refine cx_copy C hml hl.1 hW 1 3 0 (W1 := [(a0, .inr (10, [.ref a1, .ref a5, .ref a10, .int x0, .int x1, .int x2, .int x3, .int x4, .int x5, .int x6, .int x7])), (a10, .inl (aT 0, 4, .inl f10)), (b0, .inr (10, [.ref b1, .ref b5, .ref b10, .int y0, .int y1, .int y2, .int y3, .int y4, .int y5, .int y6, .int y7])), (b10, .inl (aT 0, 4, .inl (va_cpy f10 g10 0 0 4))), (a1, .inr (6, [.ref a2, .ref a3, .ref a4, .int x8])), (a2, .inl (aT 0, 6, .inl f2)), (a3, .inl (aT 0, 6, .inl f3)), (a4, .inl (aT 0, 6, .inl f4)), (b1, .inr (6, [.ref b2, .ref b3, .ref b4, .int x8])), (b2, .inl (aT 0, 6, .inl (va_cpy f2 g2 0 0 6))), (b3, .inl (aT 0, 6, .inl (va_cpy f3 g3 0 0 6))), (b4, .inl (aT 0, 6, .inl (va_cpy f4 g4 0 0 6))), (a5, .inr (8, [.ref a6, .ref a7, .ref a8, .ref a9, .int x9, .int x10])), (a6, .inl (aT 0, 12, .inl f6)), (a7, .inl (aT 0, 12, .inl f7)), (a8, .inl (aT 0, 12, .inl f8)), (a9, .inl (aT 0, 12, .inl f9)), (b5, .inr (8, [.ref b6, .ref b7, .ref b8, .ref b9, .int x9, .int x10])), (b6, .inl (aT 0, 12, .inl (va_cpy f6 g6 0 0 12))), (b7, .inl (aT 0, 12, .inl (va_cpy f7 g7 0 0 12))), (b8, .inl (aT 0, 12, .inl (va_cpy f8 g8 0 0 12))), (b9, .inl (aT 0, 12, .inl (va_cpy f9 g9 0 0 12)))]) rfl rfl rfl rfl (by decide) (by decide) (by decide) gw_398 gw_392 gw_391 gw_82 (Nat.le_of_ble_eq_true rfl) (Nat.le_of_ble_eq_true rfl) rfl dX7_copyFrom_33 (fun H locs hW => ?_)
  refine lv_aload_n hx hb dX7_copyFrom_36 rfl (lv_at hl 0 rfl) ?_
  refine lv_aload_n hx hb dX7_copyFrom_37 rfl (lv_at hl 1 rfl) ?_
  refine cx_get C hW 0 3 rfl rfl (by decide) inX7 gw_185 rfl rfl dX7_copyFrom_38 ?_
  refine cx_put C hW 2 3 (W1 := [(a0, .inr (10, [.ref a1, .ref a5, .ref a10, .int x0, .int x1, .int x2, .int x3, .int x4, .int x5, .int x6, .int x7])), (a10, .inl (aT 0, 4, .inl f10)), (b0, .inr (10, [.ref b1, .ref b5, .ref b10, .int x0, .int y1, .int y2, .int y3, .int y4, .int y5, .int y6, .int y7])), (b10, .inl (aT 0, 4, .inl (va_cpy f10 g10 0 0 4))), (a1, .inr (6, [.ref a2, .ref a3, .ref a4, .int x8])), (a2, .inl (aT 0, 6, .inl f2)), (a3, .inl (aT 0, 6, .inl f3)), (a4, .inl (aT 0, 6, .inl f4)), (b1, .inr (6, [.ref b2, .ref b3, .ref b4, .int x8])), (b2, .inl (aT 0, 6, .inl (va_cpy f2 g2 0 0 6))), (b3, .inl (aT 0, 6, .inl (va_cpy f3 g3 0 0 6))), (b4, .inl (aT 0, 6, .inl (va_cpy f4 g4 0 0 6))), (a5, .inr (8, [.ref a6, .ref a7, .ref a8, .ref a9, .int x9, .int x10])), (a6, .inl (aT 0, 12, .inl f6)), (a7, .inl (aT 0, 12, .inl f7)), (a8, .inl (aT 0, 12, .inl f8)), (a9, .inl (aT 0, 12, .inl f9)), (b5, .inr (8, [.ref b6, .ref b7, .ref b8, .ref b9, .int x9, .int x10])), (b6, .inl (aT 0, 12, .inl (va_cpy f6 g6 0 0 12))), (b7, .inl (aT 0, 12, .inl (va_cpy f7 g7 0 0 12))), (b8, .inl (aT 0, 12, .inl (va_cpy f8 g8 0 0 12))), (b9, .inl (aT 0, 12, .inl (va_cpy f9 g9 0 0 12)))]) rfl rfl (by decide) inX7 tyX7 tyX7_ok nmX7 gw_185 rfl rfl rfl rfl rfl (Nat.le_of_ble_eq_true rfl) rfl dX7_copyFrom_41 (fun H locs hW => ?_)
  refine lv_aload_n hx hb dX7_copyFrom_44 rfl (lv_at hl 0 rfl) ?_
  refine lv_aload_n hx hb dX7_copyFrom_45 rfl (lv_at hl 1 rfl) ?_
  refine cx_get C hW 0 4 rfl rfl (by decide) inX7 gw_187 rfl rfl dX7_copyFrom_46 ?_
  refine cx_put C hW 2 4 (W1 := [(a0, .inr (10, [.ref a1, .ref a5, .ref a10, .int x0, .int x1, .int x2, .int x3, .int x4, .int x5, .int x6, .int x7])), (a10, .inl (aT 0, 4, .inl f10)), (b0, .inr (10, [.ref b1, .ref b5, .ref b10, .int x0, .int x1, .int y2, .int y3, .int y4, .int y5, .int y6, .int y7])), (b10, .inl (aT 0, 4, .inl (va_cpy f10 g10 0 0 4))), (a1, .inr (6, [.ref a2, .ref a3, .ref a4, .int x8])), (a2, .inl (aT 0, 6, .inl f2)), (a3, .inl (aT 0, 6, .inl f3)), (a4, .inl (aT 0, 6, .inl f4)), (b1, .inr (6, [.ref b2, .ref b3, .ref b4, .int x8])), (b2, .inl (aT 0, 6, .inl (va_cpy f2 g2 0 0 6))), (b3, .inl (aT 0, 6, .inl (va_cpy f3 g3 0 0 6))), (b4, .inl (aT 0, 6, .inl (va_cpy f4 g4 0 0 6))), (a5, .inr (8, [.ref a6, .ref a7, .ref a8, .ref a9, .int x9, .int x10])), (a6, .inl (aT 0, 12, .inl f6)), (a7, .inl (aT 0, 12, .inl f7)), (a8, .inl (aT 0, 12, .inl f8)), (a9, .inl (aT 0, 12, .inl f9)), (b5, .inr (8, [.ref b6, .ref b7, .ref b8, .ref b9, .int x9, .int x10])), (b6, .inl (aT 0, 12, .inl (va_cpy f6 g6 0 0 12))), (b7, .inl (aT 0, 12, .inl (va_cpy f7 g7 0 0 12))), (b8, .inl (aT 0, 12, .inl (va_cpy f8 g8 0 0 12))), (b9, .inl (aT 0, 12, .inl (va_cpy f9 g9 0 0 12)))]) rfl rfl (by decide) inX7 tyX7 tyX7_ok nmX7 gw_187 rfl rfl rfl rfl rfl (Nat.le_of_ble_eq_true rfl) rfl dX7_copyFrom_49 (fun H locs hW => ?_)
  refine lv_aload_n hx hb dX7_copyFrom_52 rfl (lv_at hl 0 rfl) ?_
  refine lv_aload_n hx hb dX7_copyFrom_53 rfl (lv_at hl 1 rfl) ?_
  refine cx_get C hW 0 5 rfl rfl (by decide) inX7 gw_189 rfl rfl dX7_copyFrom_54 ?_
  refine cx_put C hW 2 5 (W1 := [(a0, .inr (10, [.ref a1, .ref a5, .ref a10, .int x0, .int x1, .int x2, .int x3, .int x4, .int x5, .int x6, .int x7])), (a10, .inl (aT 0, 4, .inl f10)), (b0, .inr (10, [.ref b1, .ref b5, .ref b10, .int x0, .int x1, .int x2, .int y3, .int y4, .int y5, .int y6, .int y7])), (b10, .inl (aT 0, 4, .inl (va_cpy f10 g10 0 0 4))), (a1, .inr (6, [.ref a2, .ref a3, .ref a4, .int x8])), (a2, .inl (aT 0, 6, .inl f2)), (a3, .inl (aT 0, 6, .inl f3)), (a4, .inl (aT 0, 6, .inl f4)), (b1, .inr (6, [.ref b2, .ref b3, .ref b4, .int x8])), (b2, .inl (aT 0, 6, .inl (va_cpy f2 g2 0 0 6))), (b3, .inl (aT 0, 6, .inl (va_cpy f3 g3 0 0 6))), (b4, .inl (aT 0, 6, .inl (va_cpy f4 g4 0 0 6))), (a5, .inr (8, [.ref a6, .ref a7, .ref a8, .ref a9, .int x9, .int x10])), (a6, .inl (aT 0, 12, .inl f6)), (a7, .inl (aT 0, 12, .inl f7)), (a8, .inl (aT 0, 12, .inl f8)), (a9, .inl (aT 0, 12, .inl f9)), (b5, .inr (8, [.ref b6, .ref b7, .ref b8, .ref b9, .int x9, .int x10])), (b6, .inl (aT 0, 12, .inl (va_cpy f6 g6 0 0 12))), (b7, .inl (aT 0, 12, .inl (va_cpy f7 g7 0 0 12))), (b8, .inl (aT 0, 12, .inl (va_cpy f8 g8 0 0 12))), (b9, .inl (aT 0, 12, .inl (va_cpy f9 g9 0 0 12)))]) rfl rfl (by decide) inX7 tyX7 tyX7_ok nmX7 gw_189 rfl rfl rfl rfl rfl (Nat.le_of_ble_eq_true rfl) rfl dX7_copyFrom_57 (fun H locs hW => ?_)
  refine lv_aload_n hx hb dX7_copyFrom_60 rfl (lv_at hl 0 rfl) ?_
  refine lv_aload_n hx hb dX7_copyFrom_61 rfl (lv_at hl 1 rfl) ?_
  refine cx_get C hW 0 6 rfl rfl (by decide) inX7 gw_191 rfl rfl dX7_copyFrom_62 ?_
  refine cx_put C hW 2 6 (W1 := [(a0, .inr (10, [.ref a1, .ref a5, .ref a10, .int x0, .int x1, .int x2, .int x3, .int x4, .int x5, .int x6, .int x7])), (a10, .inl (aT 0, 4, .inl f10)), (b0, .inr (10, [.ref b1, .ref b5, .ref b10, .int x0, .int x1, .int x2, .int x3, .int y4, .int y5, .int y6, .int y7])), (b10, .inl (aT 0, 4, .inl (va_cpy f10 g10 0 0 4))), (a1, .inr (6, [.ref a2, .ref a3, .ref a4, .int x8])), (a2, .inl (aT 0, 6, .inl f2)), (a3, .inl (aT 0, 6, .inl f3)), (a4, .inl (aT 0, 6, .inl f4)), (b1, .inr (6, [.ref b2, .ref b3, .ref b4, .int x8])), (b2, .inl (aT 0, 6, .inl (va_cpy f2 g2 0 0 6))), (b3, .inl (aT 0, 6, .inl (va_cpy f3 g3 0 0 6))), (b4, .inl (aT 0, 6, .inl (va_cpy f4 g4 0 0 6))), (a5, .inr (8, [.ref a6, .ref a7, .ref a8, .ref a9, .int x9, .int x10])), (a6, .inl (aT 0, 12, .inl f6)), (a7, .inl (aT 0, 12, .inl f7)), (a8, .inl (aT 0, 12, .inl f8)), (a9, .inl (aT 0, 12, .inl f9)), (b5, .inr (8, [.ref b6, .ref b7, .ref b8, .ref b9, .int x9, .int x10])), (b6, .inl (aT 0, 12, .inl (va_cpy f6 g6 0 0 12))), (b7, .inl (aT 0, 12, .inl (va_cpy f7 g7 0 0 12))), (b8, .inl (aT 0, 12, .inl (va_cpy f8 g8 0 0 12))), (b9, .inl (aT 0, 12, .inl (va_cpy f9 g9 0 0 12)))]) rfl rfl (by decide) inX7 tyX7 tyX7_ok nmX7 gw_191 rfl rfl rfl rfl rfl (Nat.le_of_ble_eq_true rfl) rfl dX7_copyFrom_65 (fun H locs hW => ?_)
  refine lv_aload_n hx hb dX7_copyFrom_68 rfl (lv_at hl 0 rfl) ?_
  refine lv_aload_n hx hb dX7_copyFrom_69 rfl (lv_at hl 1 rfl) ?_
  refine cx_get C hW 0 7 rfl rfl (by decide) inX7 gw_192 rfl rfl dX7_copyFrom_70 ?_
  refine cx_put C hW 2 7 (W1 := [(a0, .inr (10, [.ref a1, .ref a5, .ref a10, .int x0, .int x1, .int x2, .int x3, .int x4, .int x5, .int x6, .int x7])), (a10, .inl (aT 0, 4, .inl f10)), (b0, .inr (10, [.ref b1, .ref b5, .ref b10, .int x0, .int x1, .int x2, .int x3, .int x4, .int y5, .int y6, .int y7])), (b10, .inl (aT 0, 4, .inl (va_cpy f10 g10 0 0 4))), (a1, .inr (6, [.ref a2, .ref a3, .ref a4, .int x8])), (a2, .inl (aT 0, 6, .inl f2)), (a3, .inl (aT 0, 6, .inl f3)), (a4, .inl (aT 0, 6, .inl f4)), (b1, .inr (6, [.ref b2, .ref b3, .ref b4, .int x8])), (b2, .inl (aT 0, 6, .inl (va_cpy f2 g2 0 0 6))), (b3, .inl (aT 0, 6, .inl (va_cpy f3 g3 0 0 6))), (b4, .inl (aT 0, 6, .inl (va_cpy f4 g4 0 0 6))), (a5, .inr (8, [.ref a6, .ref a7, .ref a8, .ref a9, .int x9, .int x10])), (a6, .inl (aT 0, 12, .inl f6)), (a7, .inl (aT 0, 12, .inl f7)), (a8, .inl (aT 0, 12, .inl f8)), (a9, .inl (aT 0, 12, .inl f9)), (b5, .inr (8, [.ref b6, .ref b7, .ref b8, .ref b9, .int x9, .int x10])), (b6, .inl (aT 0, 12, .inl (va_cpy f6 g6 0 0 12))), (b7, .inl (aT 0, 12, .inl (va_cpy f7 g7 0 0 12))), (b8, .inl (aT 0, 12, .inl (va_cpy f8 g8 0 0 12))), (b9, .inl (aT 0, 12, .inl (va_cpy f9 g9 0 0 12)))]) rfl rfl (by decide) inX7 tyX7 tyX7_ok nmX7 gw_192 rfl rfl rfl rfl rfl (Nat.le_of_ble_eq_true rfl) rfl dX7_copyFrom_73 (fun H locs hW => ?_)
  refine lv_aload_n hx hb dX7_copyFrom_76 rfl (lv_at hl 0 rfl) ?_
  refine lv_aload_n hx hb dX7_copyFrom_77 rfl (lv_at hl 1 rfl) ?_
  refine cx_get C hW 0 8 rfl rfl (by decide) inX7 gw_193 rfl rfl dX7_copyFrom_78 ?_
  refine cx_put C hW 2 8 (W1 := [(a0, .inr (10, [.ref a1, .ref a5, .ref a10, .int x0, .int x1, .int x2, .int x3, .int x4, .int x5, .int x6, .int x7])), (a10, .inl (aT 0, 4, .inl f10)), (b0, .inr (10, [.ref b1, .ref b5, .ref b10, .int x0, .int x1, .int x2, .int x3, .int x4, .int x5, .int y6, .int y7])), (b10, .inl (aT 0, 4, .inl (va_cpy f10 g10 0 0 4))), (a1, .inr (6, [.ref a2, .ref a3, .ref a4, .int x8])), (a2, .inl (aT 0, 6, .inl f2)), (a3, .inl (aT 0, 6, .inl f3)), (a4, .inl (aT 0, 6, .inl f4)), (b1, .inr (6, [.ref b2, .ref b3, .ref b4, .int x8])), (b2, .inl (aT 0, 6, .inl (va_cpy f2 g2 0 0 6))), (b3, .inl (aT 0, 6, .inl (va_cpy f3 g3 0 0 6))), (b4, .inl (aT 0, 6, .inl (va_cpy f4 g4 0 0 6))), (a5, .inr (8, [.ref a6, .ref a7, .ref a8, .ref a9, .int x9, .int x10])), (a6, .inl (aT 0, 12, .inl f6)), (a7, .inl (aT 0, 12, .inl f7)), (a8, .inl (aT 0, 12, .inl f8)), (a9, .inl (aT 0, 12, .inl f9)), (b5, .inr (8, [.ref b6, .ref b7, .ref b8, .ref b9, .int x9, .int x10])), (b6, .inl (aT 0, 12, .inl (va_cpy f6 g6 0 0 12))), (b7, .inl (aT 0, 12, .inl (va_cpy f7 g7 0 0 12))), (b8, .inl (aT 0, 12, .inl (va_cpy f8 g8 0 0 12))), (b9, .inl (aT 0, 12, .inl (va_cpy f9 g9 0 0 12)))]) rfl rfl (by decide) inX7 tyX7 tyX7_ok nmX7 gw_193 rfl rfl rfl rfl rfl (Nat.le_of_ble_eq_true rfl) rfl dX7_copyFrom_81 (fun H locs hW => ?_)
  refine lv_aload_n hx hb dX7_copyFrom_84 rfl (lv_at hl 0 rfl) ?_
  refine lv_aload_n hx hb dX7_copyFrom_85 rfl (lv_at hl 1 rfl) ?_
  refine cx_get C hW 0 9 rfl rfl (by decide) inX7 gw_194 rfl rfl dX7_copyFrom_86 ?_
  refine cx_put C hW 2 9 (W1 := [(a0, .inr (10, [.ref a1, .ref a5, .ref a10, .int x0, .int x1, .int x2, .int x3, .int x4, .int x5, .int x6, .int x7])), (a10, .inl (aT 0, 4, .inl f10)), (b0, .inr (10, [.ref b1, .ref b5, .ref b10, .int x0, .int x1, .int x2, .int x3, .int x4, .int x5, .int x6, .int y7])), (b10, .inl (aT 0, 4, .inl (va_cpy f10 g10 0 0 4))), (a1, .inr (6, [.ref a2, .ref a3, .ref a4, .int x8])), (a2, .inl (aT 0, 6, .inl f2)), (a3, .inl (aT 0, 6, .inl f3)), (a4, .inl (aT 0, 6, .inl f4)), (b1, .inr (6, [.ref b2, .ref b3, .ref b4, .int x8])), (b2, .inl (aT 0, 6, .inl (va_cpy f2 g2 0 0 6))), (b3, .inl (aT 0, 6, .inl (va_cpy f3 g3 0 0 6))), (b4, .inl (aT 0, 6, .inl (va_cpy f4 g4 0 0 6))), (a5, .inr (8, [.ref a6, .ref a7, .ref a8, .ref a9, .int x9, .int x10])), (a6, .inl (aT 0, 12, .inl f6)), (a7, .inl (aT 0, 12, .inl f7)), (a8, .inl (aT 0, 12, .inl f8)), (a9, .inl (aT 0, 12, .inl f9)), (b5, .inr (8, [.ref b6, .ref b7, .ref b8, .ref b9, .int x9, .int x10])), (b6, .inl (aT 0, 12, .inl (va_cpy f6 g6 0 0 12))), (b7, .inl (aT 0, 12, .inl (va_cpy f7 g7 0 0 12))), (b8, .inl (aT 0, 12, .inl (va_cpy f8 g8 0 0 12))), (b9, .inl (aT 0, 12, .inl (va_cpy f9 g9 0 0 12)))]) rfl rfl (by decide) inX7 tyX7 tyX7_ok nmX7 gw_194 rfl rfl rfl rfl rfl (Nat.le_of_ble_eq_true rfl) rfl dX7_copyFrom_89 (fun H locs hW => ?_)
  refine lv_aload_n hx hb dX7_copyFrom_92 rfl (lv_at hl 0 rfl) ?_
  refine lv_aload_n hx hb dX7_copyFrom_93 rfl (lv_at hl 1 rfl) ?_
  refine cx_get C hW 0 10 rfl rfl (by decide) inX7 gw_195 rfl rfl dX7_copyFrom_94 ?_
  refine cx_put C hW 2 10 (W1 := [(a0, .inr (10, [.ref a1, .ref a5, .ref a10, .int x0, .int x1, .int x2, .int x3, .int x4, .int x5, .int x6, .int x7])), (a10, .inl (aT 0, 4, .inl f10)), (b0, .inr (10, [.ref b1, .ref b5, .ref b10, .int x0, .int x1, .int x2, .int x3, .int x4, .int x5, .int x6, .int x7])), (b10, .inl (aT 0, 4, .inl (va_cpy f10 g10 0 0 4))), (a1, .inr (6, [.ref a2, .ref a3, .ref a4, .int x8])), (a2, .inl (aT 0, 6, .inl f2)), (a3, .inl (aT 0, 6, .inl f3)), (a4, .inl (aT 0, 6, .inl f4)), (b1, .inr (6, [.ref b2, .ref b3, .ref b4, .int x8])), (b2, .inl (aT 0, 6, .inl (va_cpy f2 g2 0 0 6))), (b3, .inl (aT 0, 6, .inl (va_cpy f3 g3 0 0 6))), (b4, .inl (aT 0, 6, .inl (va_cpy f4 g4 0 0 6))), (a5, .inr (8, [.ref a6, .ref a7, .ref a8, .ref a9, .int x9, .int x10])), (a6, .inl (aT 0, 12, .inl f6)), (a7, .inl (aT 0, 12, .inl f7)), (a8, .inl (aT 0, 12, .inl f8)), (a9, .inl (aT 0, 12, .inl f9)), (b5, .inr (8, [.ref b6, .ref b7, .ref b8, .ref b9, .int x9, .int x10])), (b6, .inl (aT 0, 12, .inl (va_cpy f6 g6 0 0 12))), (b7, .inl (aT 0, 12, .inl (va_cpy f7 g7 0 0 12))), (b8, .inl (aT 0, 12, .inl (va_cpy f8 g8 0 0 12))), (b9, .inl (aT 0, 12, .inl (va_cpy f9 g9 0 0 12)))]) rfl rfl (by decide) inX7 tyX7 tyX7_ok nmX7 gw_195 rfl rfl rfl rfl rfl (Nat.le_of_ble_eq_true rfl) rfl dX7_copyFrom_97 (fun H locs hW => ?_)
  exact cx_vret C hr hlocks hW ⟨Nat.le_of_ble_eq_true rfl, Nat.le_of_ble_eq_true rfl⟩ (rfl) dX7_copyFrom_100
end
