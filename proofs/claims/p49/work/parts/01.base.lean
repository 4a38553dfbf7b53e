theorem tb_1 {w : Cond} (h : w ∈ tables_1_1) : w ∈ tables_1 := by unfold tables_1; exact List.mem_append_left _ h
theorem tb_2 {w : Cond} (h : w ∈ tables_1_2) : w ∈ tables_1 := by unfold tables_1; exact List.mem_append_right _ (List.mem_append_left _ h)
theorem tb_3 {w : Cond} (h : w ∈ tables_1_3) : w ∈ tables_1 := by unfold tables_1; exact List.mem_append_right _ (List.mem_append_right _ (List.mem_append_left _ h))
theorem tb_4 {w : Cond} (h : w ∈ tables_1_4) : w ∈ tables_1 := by unfold tables_1; exact List.mem_append_right _ (List.mem_append_right _ (List.mem_append_right _ (List.mem_append_left _ h)))
theorem tb_5 {w : Cond} (h : w ∈ tables_1_5) : w ∈ tables_1 := by unfold tables_1; exact List.mem_append_right _ (List.mem_append_right _ (List.mem_append_right _ (List.mem_append_right _ (List.mem_append_left _ h))))
theorem tb_6 {w : Cond} (h : w ∈ tables_1_6) : w ∈ tables_1 := by unfold tables_1; exact List.mem_append_right _ (List.mem_append_right _ (List.mem_append_right _ (List.mem_append_right _ (List.mem_append_right _ (List.mem_append_left _ h)))))
theorem tb_7 {w : Cond} (h : w ∈ tables_1_7) : w ∈ tables_1 := by unfold tables_1; exact List.mem_append_right _ (List.mem_append_right _ (List.mem_append_right _ (List.mem_append_right _ (List.mem_append_right _ (List.mem_append_right _ (List.mem_append_left _ h))))))
theorem tb_8 {w : Cond} (h : w ∈ tables_1_8) : w ∈ tables_1 := by unfold tables_1; exact List.mem_append_right _ (List.mem_append_right _ (List.mem_append_right _ (List.mem_append_right _ (List.mem_append_right _ (List.mem_append_right _ (List.mem_append_right _ (List.mem_append_left _ h)))))))
theorem tb_9 {w : Cond} (h : w ∈ tables_1_9) : w ∈ tables_1 := by unfold tables_1; exact List.mem_append_right _ (List.mem_append_right _ (List.mem_append_right _ (List.mem_append_right _ (List.mem_append_right _ (List.mem_append_right _ (List.mem_append_right _ (List.mem_append_right _ (h))))))))
/-- a private method of a class that the tables say can be made, by its rows of tables_1 -/
def lw_okq (q : MethodName × Nat) : Prop := (q.1.cls ≠ "java/lang/invoke/MethodHandle" ∧ q.1.cls ≠ "java/lang/invoke/VarHandle") ∧ Cond.instantiable q.1.cls q.2 ∈ tables_1 ∧ Cond.privateMethod q.1 ∈ tables_1 ∧ Cond.instanceMethod q.1 ∈ tables_1
theorem lw_i0 : Cond.instantiable "HedgeCommittee$History" 2 ∈ tables_1 := tb_1 (List.mem_of_getElem? (i := 155) rfl)
theorem lw_i1 : Cond.instantiable "HedgeCommittee$Trees" 6 ∈ tables_1 := tb_1 (List.mem_of_getElem? (i := 172) rfl)
theorem lw_i2 : Cond.instantiable "java/lang/Throwable" 6 ∈ tables_1 := tb_3 (List.mem_of_getElem? (i := 57) rfl)
theorem lw_i3 : Cond.instantiable "HedgeCommittee$State" 11 ∈ tables_1 := tb_1 (List.mem_of_getElem? (i := 47) rfl)
theorem lw_i4 : Cond.instantiable "HedgeCommittee" 9 ∈ tables_1 := tb_1 (List.mem_of_getElem? (i := 39) rfl)
theorem lw_i5 : Cond.instantiable "HedgeCommittee$Hedges" 4 ∈ tables_1 := tb_1 (List.mem_of_getElem? (i := 53) rfl)
theorem lw_i6 : Cond.instantiable "HedgeCommittee$Motions" 6 ∈ tables_1 := tb_1 (List.mem_of_getElem? (i := 77) rfl)
theorem lw_i7 : Cond.instantiable "HedgeCommittee$Program" 5 ∈ tables_1 := tb_1 (List.mem_of_getElem? (i := 198) rfl)
theorem lw_i8 : Cond.instantiable "java/util/ArrayList" 3 ∈ tables_1 := tb_1 (List.mem_of_getElem? (i := 204) rfl)
theorem lw_i9 : Cond.instantiable "HedgeCommitteeModel" 26 ∈ tables_1 := tb_7 (List.mem_of_getElem? (i := 112) rfl)
theorem lw_p0 : lw_okq (⟨"HedgeCommittee$History", "forgetOldest", "()V"⟩, 2) := ⟨⟨by decide +kernel, by decide +kernel⟩, lw_i0, tb_2 (List.mem_of_getElem? (i := 114) rfl), tb_2 (List.mem_of_getElem? (i := 115) rfl)⟩
theorem lw_p1 : lw_okq (⟨"HedgeCommittee$Trees", "farthestFrom", "(LHedgeCommittee$Motions;II)I"⟩, 6) := ⟨⟨by decide +kernel, by decide +kernel⟩, lw_i1, tb_2 (List.mem_of_getElem? (i := 210) rfl), tb_2 (List.mem_of_getElem? (i := 211) rfl)⟩
theorem lw_p2 : lw_okq (⟨"java/lang/Throwable", "fillInStackTrace", "(I)Ljava/lang/Throwable;"⟩, 6) := ⟨⟨by decide +kernel, by decide +kernel⟩, lw_i2, tb_3 (List.mem_of_getElem? (i := 55) rfl), tb_3 (List.mem_of_getElem? (i := 56) rfl)⟩
theorem lw_p3 : lw_okq (⟨"HedgeCommittee$State", "requireRoom", "()V"⟩, 11) := ⟨⟨by decide +kernel, by decide +kernel⟩, lw_i3, tb_3 (List.mem_of_getElem? (i := 125) rfl), tb_3 (List.mem_of_getElem? (i := 126) rfl)⟩
theorem lw_p4 : lw_okq (⟨"HedgeCommittee$State", "begin", "(III)I"⟩, 11) := ⟨⟨by decide +kernel, by decide +kernel⟩, lw_i3, tb_3 (List.mem_of_getElem? (i := 134) rfl), tb_3 (List.mem_of_getElem? (i := 135) rfl)⟩
theorem lw_p5 : lw_okq (⟨"HedgeCommittee$State", "bookOutcome", "(CII)V"⟩, 11) := ⟨⟨by decide +kernel, by decide +kernel⟩, lw_i3, tb_4 (List.mem_of_getElem? (i := 7) rfl), tb_4 (List.mem_of_getElem? (i := 8) rfl)⟩
theorem lw_p6 : lw_okq (⟨"HedgeCommittee", "requireHedge", "(I)V"⟩, 9) := ⟨⟨by decide +kernel, by decide +kernel⟩, lw_i4, tb_4 (List.mem_of_getElem? (i := 42) rfl), tb_4 (List.mem_of_getElem? (i := 43) rfl)⟩
theorem lw_p7 : lw_okq (⟨"HedgeCommittee$Hedges", "rankOf", "(I)I"⟩, 4) := ⟨⟨by decide +kernel, by decide +kernel⟩, lw_i5, tb_4 (List.mem_of_getElem? (i := 84) rfl), tb_4 (List.mem_of_getElem? (i := 85) rfl)⟩
theorem lw_p8 : lw_okq (⟨"HedgeCommittee", "requirePosition", "(I)V"⟩, 9) := ⟨⟨by decide +kernel, by decide +kernel⟩, lw_i4, tb_4 (List.mem_of_getElem? (i := 116) rfl), tb_4 (List.mem_of_getElem? (i := 117) rfl)⟩
theorem lw_p9 : lw_okq (⟨"HedgeCommittee$Motions", "rankOf", "(I)I"⟩, 6) := ⟨⟨by decide +kernel, by decide +kernel⟩, lw_i6, tb_4 (List.mem_of_getElem? (i := 189) rfl), tb_4 (List.mem_of_getElem? (i := 190) rfl)⟩
theorem lw_p10 : lw_okq (⟨"HedgeCommittee", "idOfCommon", "(I)I"⟩, 9) := ⟨⟨by decide +kernel, by decide +kernel⟩, lw_i4, tb_4 (List.mem_of_getElem? (i := 207) rfl), tb_4 (List.mem_of_getElem? (i := 208) rfl)⟩
theorem lw_p11 : lw_okq (⟨"HedgeCommittee$Program", "readCommand", "()Z"⟩, 5) := ⟨⟨by decide +kernel, by decide +kernel⟩, lw_i7, tb_5 (List.mem_of_getElem? (i := 95) rfl), tb_5 (List.mem_of_getElem? (i := 96) rfl)⟩
theorem lw_p12 : lw_okq (⟨"HedgeCommittee$Program", "kindAhead", "()LHedgeCommittee$Kind;"⟩, 5) := ⟨⟨by decide +kernel, by decide +kernel⟩, lw_i7, tb_5 (List.mem_of_getElem? (i := 99) rfl), tb_5 (List.mem_of_getElem? (i := 100) rfl)⟩
theorem lw_p13 : lw_okq (⟨"HedgeCommittee$Program", "digitAhead", "()Z"⟩, 5) := ⟨⟨by decide +kernel, by decide +kernel⟩, lw_i7, tb_5 (List.mem_of_getElem? (i := 153) rfl), tb_5 (List.mem_of_getElem? (i := 154) rfl)⟩
theorem lw_p14 : lw_okq (⟨"HedgeCommittee$Program", "readDigits", "(Z)I"⟩, 5) := ⟨⟨by decide +kernel, by decide +kernel⟩, lw_i7, tb_5 (List.mem_of_getElem? (i := 157) rfl), tb_5 (List.mem_of_getElem? (i := 158) rfl)⟩
theorem lw_p15 : lw_okq (⟨"HedgeCommittee$Program", "readSign", "(C)Z"⟩, 5) := ⟨⟨by decide +kernel, by decide +kernel⟩, lw_i7, tb_5 (List.mem_of_getElem? (i := 161) rfl), tb_5 (List.mem_of_getElem? (i := 162) rfl)⟩
theorem lw_p16 : lw_okq (⟨"java/util/ArrayList", "add", "(Ljava/lang/Object;[Ljava/lang/Object;I)V"⟩, 3) := ⟨⟨by decide +kernel, by decide +kernel⟩, lw_i8, tb_5 (List.mem_of_getElem? (i := 192) rfl), tb_5 (List.mem_of_getElem? (i := 193) rfl)⟩
theorem lw_p17 : lw_okq (⟨"java/util/ArrayList", "grow", "()[Ljava/lang/Object;"⟩, 3) := ⟨⟨by decide +kernel, by decide +kernel⟩, lw_i8, tb_5 (List.mem_of_getElem? (i := 196) rfl), tb_5 (List.mem_of_getElem? (i := 197) rfl)⟩
theorem lw_p18 : lw_okq (⟨"java/util/ArrayList", "grow", "(I)[Ljava/lang/Object;"⟩, 3) := ⟨⟨by decide +kernel, by decide +kernel⟩, lw_i8, tb_5 (List.mem_of_getElem? (i := 200) rfl), tb_5 (List.mem_of_getElem? (i := 201) rfl)⟩
theorem lw_p19 : lw_okq (⟨"HedgeCommittee", "firstFailure", "()I"⟩, 9) := ⟨⟨by decide +kernel, by decide +kernel⟩, lw_i4, tb_6 (List.mem_of_getElem? (i := 15) rfl), tb_6 (List.mem_of_getElem? (i := 16) rfl)⟩
theorem lw_p20 : lw_okq (⟨"HedgeCommittee", "succeeds", "(LHedgeCommittee$Command;)Z"⟩, 9) := ⟨⟨by decide +kernel, by decide +kernel⟩, lw_i4, tb_6 (List.mem_of_getElem? (i := 36) rfl), tb_6 (List.mem_of_getElem? (i := 37) rfl)⟩
theorem lw_p21 : lw_okq (⟨"HedgeCommitteeModel", "starts", "()V"⟩, 26) := ⟨⟨by decide +kernel, by decide +kernel⟩, lw_i9, tb_7 (List.mem_of_getElem? (i := 205) rfl), tb_7 (List.mem_of_getElem? (i := 206) rfl)⟩
theorem lw_p22 : lw_okq (⟨"HedgeCommitteeModel", "hedgeIt", "(III)I"⟩, 26) := ⟨⟨by decide +kernel, by decide +kernel⟩, lw_i9, tb_7 (List.mem_of_getElem? (i := 209) rfl), tb_7 (List.mem_of_getElem? (i := 210) rfl)⟩
theorem lw_p23 : lw_okq (⟨"HedgeCommitteeModel", "throwing", "(I)I"⟩, 26) := ⟨⟨by decide +kernel, by decide +kernel⟩, lw_i9, tb_7 (List.mem_of_getElem? (i := 218) rfl), tb_7 (List.mem_of_getElem? (i := 219) rfl)⟩
theorem lw_p24 : lw_okq (⟨"HedgeCommitteeModel", "changed", "(I)I"⟩, 26) := ⟨⟨by decide +kernel, by decide +kernel⟩, lw_i9, tb_7 (List.mem_of_getElem? (i := 225) rfl), tb_7 (List.mem_of_getElem? (i := 226) rfl)⟩
theorem lw_p25 : lw_okq (⟨"HedgeCommitteeModel", "mainIt", "(II)I"⟩, 26) := ⟨⟨by decide +kernel, by decide +kernel⟩, lw_i9, tb_7 (List.mem_of_getElem? (i := 233) rfl), tb_7 (List.mem_of_getElem? (i := 234) rfl)⟩
theorem lw_p26 : lw_okq (⟨"HedgeCommitteeModel", "adds", "(III)I"⟩, 26) := ⟨⟨by decide +kernel, by decide +kernel⟩, lw_i9, tb_7 (List.mem_of_getElem? (i := 238) rfl), tb_7 (List.mem_of_getElem? (i := 239) rfl)⟩
theorem lw_p27 : lw_okq (⟨"HedgeCommitteeModel", "amendIt", "(III)I"⟩, 26) := ⟨⟨by decide +kernel, by decide +kernel⟩, lw_i9, tb_8 (List.mem_of_getElem? (i := 6) rfl), tb_8 (List.mem_of_getElem? (i := 7) rfl)⟩
theorem lw_p28 : lw_okq (⟨"HedgeCommitteeModel", "find", "(I)I"⟩, 26) := ⟨⟨by decide +kernel, by decide +kernel⟩, lw_i9, tb_8 (List.mem_of_getElem? (i := 10) rfl), tb_8 (List.mem_of_getElem? (i := 11) rfl)⟩
theorem lw_p29 : lw_okq (⟨"HedgeCommitteeModel", "of", "(II)I"⟩, 26) := ⟨⟨by decide +kernel, by decide +kernel⟩, lw_i9, tb_8 (List.mem_of_getElem? (i := 14) rfl), tb_8 (List.mem_of_getElem? (i := 15) rfl)⟩
theorem lw_p30 : lw_okq (⟨"HedgeCommitteeModel", "pruneIt", "(II)I"⟩, 26) := ⟨⟨by decide +kernel, by decide +kernel⟩, lw_i9, tb_8 (List.mem_of_getElem? (i := 22) rfl), tb_8 (List.mem_of_getElem? (i := 23) rfl)⟩
theorem lw_p31 : lw_okq (⟨"HedgeCommitteeModel", "deep", "(I)I"⟩, 26) := ⟨⟨by decide +kernel, by decide +kernel⟩, lw_i9, tb_8 (List.mem_of_getElem? (i := 26) rfl), tb_8 (List.mem_of_getElem? (i := 27) rfl)⟩
theorem lw_p32 : lw_okq (⟨"HedgeCommitteeModel", "above", "(I)I"⟩, 26) := ⟨⟨by decide +kernel, by decide +kernel⟩, lw_i9, tb_8 (List.mem_of_getElem? (i := 30) rfl), tb_8 (List.mem_of_getElem? (i := 31) rfl)⟩
theorem lw_p33 : lw_okq (⟨"HedgeCommitteeModel", "isIn", "(II)Z"⟩, 26) := ⟨⟨by decide +kernel, by decide +kernel⟩, lw_i9, tb_8 (List.mem_of_getElem? (i := 34) rfl), tb_8 (List.mem_of_getElem? (i := 35) rfl)⟩
theorem lw_p34 : lw_okq (⟨"HedgeCommitteeModel", "drops", "(I)V"⟩, 26) := ⟨⟨by decide +kernel, by decide +kernel⟩, lw_i9, tb_8 (List.mem_of_getElem? (i := 38) rfl), tb_8 (List.mem_of_getElem? (i := 39) rfl)⟩
theorem lw_p35 : lw_okq (⟨"HedgeCommitteeModel", "regrowIt", "(I)I"⟩, 26) := ⟨⟨by decide +kernel, by decide +kernel⟩, lw_i9, tb_8 (List.mem_of_getElem? (i := 46) rfl), tb_8 (List.mem_of_getElem? (i := 47) rfl)⟩
theorem lw_p36 : lw_okq (⟨"HedgeCommitteeModel", "lastTipAt", "(I)I"⟩, 26) := ⟨⟨by decide +kernel, by decide +kernel⟩, lw_i9, tb_8 (List.mem_of_getElem? (i := 50) rfl), tb_8 (List.mem_of_getElem? (i := 51) rfl)⟩
theorem lw_p37 : lw_okq (⟨"HedgeCommitteeModel", "isTipAt", "(I)Z"⟩, 26) := ⟨⟨by decide +kernel, by decide +kernel⟩, lw_i9, tb_8 (List.mem_of_getElem? (i := 54) rfl), tb_8 (List.mem_of_getElem? (i := 55) rfl)⟩
theorem lw_p38 : lw_okq (⟨"HedgeCommitteeModel", "voteIt", "(I)I"⟩, 26) := ⟨⟨by decide +kernel, by decide +kernel⟩, lw_i9, tb_8 (List.mem_of_getElem? (i := 63) rfl), tb_8 (List.mem_of_getElem? (i := 64) rfl)⟩
theorem lw_p39 : lw_okq (⟨"HedgeCommitteeModel", "vetoes", "(II)Z"⟩, 26) := ⟨⟨by decide +kernel, by decide +kernel⟩, lw_i9, tb_8 (List.mem_of_getElem? (i := 67) rfl), tb_8 (List.mem_of_getElem? (i := 68) rfl)⟩
theorem lw_p40 : lw_okq (⟨"HedgeCommitteeModel", "far", "(II)I"⟩, 26) := ⟨⟨by decide +kernel, by decide +kernel⟩, lw_i9, tb_8 (List.mem_of_getElem? (i := 71) rfl), tb_8 (List.mem_of_getElem? (i := 72) rfl)⟩
theorem lw_p41 : lw_okq (⟨"HedgeCommitteeModel", "favour", "(I)I"⟩, 26) := ⟨⟨by decide +kernel, by decide +kernel⟩, lw_i9, tb_8 (List.mem_of_getElem? (i := 78) rfl), tb_8 (List.mem_of_getElem? (i := 79) rfl)⟩
theorem lw_p42 : lw_okq (⟨"HedgeCommitteeModel", "leavesAll", "()I"⟩, 26) := ⟨⟨by decide +kernel, by decide +kernel⟩, lw_i9, tb_8 (List.mem_of_getElem? (i := 82) rfl), tb_8 (List.mem_of_getElem? (i := 83) rfl)⟩
theorem lw_p43 : lw_okq (⟨"HedgeCommitteeModel", "carries", "(I)V"⟩, 26) := ⟨⟨by decide +kernel, by decide +kernel⟩, lw_i9, tb_8 (List.mem_of_getElem? (i := 86) rfl), tb_8 (List.mem_of_getElem? (i := 87) rfl)⟩
theorem lw_p44 : lw_okq (⟨"HedgeCommitteeModel", "seasonIt", "()I"⟩, 26) := ⟨⟨by decide +kernel, by decide +kernel⟩, lw_i9, tb_8 (List.mem_of_getElem? (i := 94) rfl), tb_8 (List.mem_of_getElem? (i := 95) rfl)⟩
theorem lw_p45 : lw_okq (⟨"HedgeCommitteeModel", "isHedge", "(I)Z"⟩, 26) := ⟨⟨by decide +kernel, by decide +kernel⟩, lw_i9, tb_8 (List.mem_of_getElem? (i := 107) rfl), tb_8 (List.mem_of_getElem? (i := 108) rfl)⟩
theorem lw_p46 : lw_okq (⟨"HedgeCommitteeModel", "isHedgeAhead", "(II)Z"⟩, 26) := ⟨⟨by decide +kernel, by decide +kernel⟩, lw_i9, tb_8 (List.mem_of_getElem? (i := 119) rfl), tb_8 (List.mem_of_getElem? (i := 120) rfl)⟩
theorem lw_p47 : lw_okq (⟨"HedgeCommitteeModel", "ofMotion", "(II)I"⟩, 26) := ⟨⟨by decide +kernel, by decide +kernel⟩, lw_i9, tb_8 (List.mem_of_getElem? (i := 143) rfl), tb_8 (List.mem_of_getElem? (i := 144) rfl)⟩
theorem lw_p48 : lw_okq (⟨"HedgeCommitteeModel", "isMotionAhead", "(II)Z"⟩, 26) := ⟨⟨by decide +kernel, by decide +kernel⟩, lw_i9, tb_8 (List.mem_of_getElem? (i := 175) rfl), tb_8 (List.mem_of_getElem? (i := 176) rfl)⟩
theorem lw_p49 : lw_okq (⟨"HedgeCommitteeModel", "common", "(II)I"⟩, 26) := ⟨⟨by decide +kernel, by decide +kernel⟩, lw_i9, tb_8 (List.mem_of_getElem? (i := 183) rfl), tb_8 (List.mem_of_getElem? (i := 184) rfl)⟩
theorem lw_p50 : lw_okq (⟨"HedgeCommitteeModel", "steps", "(II)I"⟩, 26) := ⟨⟨by decide +kernel, by decide +kernel⟩, lw_i9, tb_8 (List.mem_of_getElem? (i := 196) rfl), tb_8 (List.mem_of_getElem? (i := 197) rfl)⟩
theorem lw_p51 : lw_okq (⟨"HedgeCommitteeModel", "measures", "()V"⟩, 26) := ⟨⟨by decide +kernel, by decide +kernel⟩, lw_i9, tb_8 (List.mem_of_getElem? (i := 213) rfl), tb_8 (List.mem_of_getElem? (i := 214) rfl)⟩
theorem lw_p52 : lw_okq (⟨"HedgeCommitteeModel", "readCommand", "()V"⟩, 26) := ⟨⟨by decide +kernel, by decide +kernel⟩, lw_i9, tb_9 (List.mem_of_getElem? (i := 28) rfl), tb_9 (List.mem_of_getElem? (i := 29) rfl)⟩
theorem lw_p53 : lw_okq (⟨"HedgeCommitteeModel", "likeness", "(I)I"⟩, 26) := ⟨⟨by decide +kernel, by decide +kernel⟩, lw_i9, tb_9 (List.mem_of_getElem? (i := 32) rfl), tb_9 (List.mem_of_getElem? (i := 33) rfl)⟩
theorem lw_p54 : lw_okq (⟨"HedgeCommitteeModel", "readArguments", "(II)V"⟩, 26) := ⟨⟨by decide +kernel, by decide +kernel⟩, lw_i9, tb_9 (List.mem_of_getElem? (i := 36) rfl), tb_9 (List.mem_of_getElem? (i := 37) rfl)⟩
theorem lw_p55 : lw_okq (⟨"HedgeCommitteeModel", "digit", "()I"⟩, 26) := ⟨⟨by decide +kernel, by decide +kernel⟩, lw_i9, tb_9 (List.mem_of_getElem? (i := 40) rfl), tb_9 (List.mem_of_getElem? (i := 41) rfl)⟩
theorem lw_p56 : lw_okq (⟨"HedgeCommitteeModel", "here", "()I"⟩, 26) := ⟨⟨by decide +kernel, by decide +kernel⟩, lw_i9, tb_9 (List.mem_of_getElem? (i := 44) rfl), tb_9 (List.mem_of_getElem? (i := 45) rfl)⟩
theorem lw_p57 : lw_okq (⟨"HedgeCommitteeModel", "number", "()I"⟩, 26) := ⟨⟨by decide +kernel, by decide +kernel⟩, lw_i9, tb_9 (List.mem_of_getElem? (i := 50) rfl), tb_9 (List.mem_of_getElem? (i := 51) rfl)⟩
theorem lw_p58 : lw_okq (⟨"HedgeCommitteeModel", "digitBehind", "()I"⟩, 26) := ⟨⟨by decide +kernel, by decide +kernel⟩, lw_i9, tb_9 (List.mem_of_getElem? (i := 54) rfl), tb_9 (List.mem_of_getElem? (i := 55) rfl)⟩
theorem lw_p59 : lw_okq (⟨"HedgeCommitteeModel", "expects", "(I)V"⟩, 26) := ⟨⟨by decide +kernel, by decide +kernel⟩, lw_i9, tb_9 (List.mem_of_getElem? (i := 58) rfl), tb_9 (List.mem_of_getElem? (i := 59) rfl)⟩
theorem lw_p60 : lw_okq (⟨"HedgeCommitteeModel", "numberBehind", "()I"⟩, 26) := ⟨⟨by decide +kernel, by decide +kernel⟩, lw_i9, tb_9 (List.mem_of_getElem? (i := 62) rfl), tb_9 (List.mem_of_getElem? (i := 63) rfl)⟩
theorem lw_p61 : lw_okq (⟨"HedgeCommitteeModel", "does", "(I)V"⟩, 26) := ⟨⟨by decide +kernel, by decide +kernel⟩, lw_i9, tb_9 (List.mem_of_getElem? (i := 66) rfl), tb_9 (List.mem_of_getElem? (i := 67) rfl)⟩
theorem lw_p62 : lw_okq (⟨"HedgeCommitteeModel", "writesWhole", "(I)V"⟩, 26) := ⟨⟨by decide +kernel, by decide +kernel⟩, lw_i9, tb_9 (List.mem_of_getElem? (i := 82) rfl), tb_9 (List.mem_of_getElem? (i := 83) rfl)⟩
theorem lw_p63 : lw_okq (⟨"HedgeCommitteeModel", "sign", "(I)V"⟩, 26) := ⟨⟨by decide +kernel, by decide +kernel⟩, lw_i9, tb_9 (List.mem_of_getElem? (i := 86) rfl), tb_9 (List.mem_of_getElem? (i := 87) rfl)⟩
theorem lw_p64 : lw_okq (⟨"HedgeCommitteeModel", "childFrom", "(II)I"⟩, 26) := ⟨⟨by decide +kernel, by decide +kernel⟩, lw_i9, tb_9 (List.mem_of_getElem? (i := 90) rfl), tb_9 (List.mem_of_getElem? (i := 91) rfl)⟩
theorem lw_p65 : lw_okq (⟨"HedgeCommitteeModel", "next", "(II)I"⟩, 26) := ⟨⟨by decide +kernel, by decide +kernel⟩, lw_i9, tb_9 (List.mem_of_getElem? (i := 94) rfl), tb_9 (List.mem_of_getElem? (i := 95) rfl)⟩
def lw_privs_0 : List (MethodName × Nat) := [(⟨"HedgeCommittee$History", "forgetOldest", "()V"⟩, 2), (⟨"HedgeCommittee$Trees", "farthestFrom", "(LHedgeCommittee$Motions;II)I"⟩, 6), (⟨"java/lang/Throwable", "fillInStackTrace", "(I)Ljava/lang/Throwable;"⟩, 6), (⟨"HedgeCommittee$State", "requireRoom", "()V"⟩, 11), (⟨"HedgeCommittee$State", "begin", "(III)I"⟩, 11), (⟨"HedgeCommittee$State", "bookOutcome", "(CII)V"⟩, 11), (⟨"HedgeCommittee", "requireHedge", "(I)V"⟩, 9), (⟨"HedgeCommittee$Hedges", "rankOf", "(I)I"⟩, 4), (⟨"HedgeCommittee", "requirePosition", "(I)V"⟩, 9), (⟨"HedgeCommittee$Motions", "rankOf", "(I)I"⟩, 6), (⟨"HedgeCommittee", "idOfCommon", "(I)I"⟩, 9)]
theorem lw_r0 : ∀ q ∈ lw_privs_0, lw_okq q := List.forall_mem_cons.mpr ⟨lw_p0, List.forall_mem_cons.mpr ⟨lw_p1, List.forall_mem_cons.mpr ⟨lw_p2, List.forall_mem_cons.mpr ⟨lw_p3, List.forall_mem_cons.mpr ⟨lw_p4, List.forall_mem_cons.mpr ⟨lw_p5, List.forall_mem_cons.mpr ⟨lw_p6, List.forall_mem_cons.mpr ⟨lw_p7, List.forall_mem_cons.mpr ⟨lw_p8, List.forall_mem_cons.mpr ⟨lw_p9, List.forall_mem_cons.mpr ⟨lw_p10, fun _ h => absurd h List.not_mem_nil⟩⟩⟩⟩⟩⟩⟩⟩⟩⟩⟩
def lw_privs_1 : List (MethodName × Nat) := [(⟨"HedgeCommittee$Program", "readCommand", "()Z"⟩, 5), (⟨"HedgeCommittee$Program", "kindAhead", "()LHedgeCommittee$Kind;"⟩, 5), (⟨"HedgeCommittee$Program", "digitAhead", "()Z"⟩, 5), (⟨"HedgeCommittee$Program", "readDigits", "(Z)I"⟩, 5), (⟨"HedgeCommittee$Program", "readSign", "(C)Z"⟩, 5), (⟨"java/util/ArrayList", "add", "(Ljava/lang/Object;[Ljava/lang/Object;I)V"⟩, 3), (⟨"java/util/ArrayList", "grow", "()[Ljava/lang/Object;"⟩, 3), (⟨"java/util/ArrayList", "grow", "(I)[Ljava/lang/Object;"⟩, 3), (⟨"HedgeCommittee", "firstFailure", "()I"⟩, 9), (⟨"HedgeCommittee", "succeeds", "(LHedgeCommittee$Command;)Z"⟩, 9), (⟨"HedgeCommitteeModel", "starts", "()V"⟩, 26)]
theorem lw_r1 : ∀ q ∈ lw_privs_1, lw_okq q := List.forall_mem_cons.mpr ⟨lw_p11, List.forall_mem_cons.mpr ⟨lw_p12, List.forall_mem_cons.mpr ⟨lw_p13, List.forall_mem_cons.mpr ⟨lw_p14, List.forall_mem_cons.mpr ⟨lw_p15, List.forall_mem_cons.mpr ⟨lw_p16, List.forall_mem_cons.mpr ⟨lw_p17, List.forall_mem_cons.mpr ⟨lw_p18, List.forall_mem_cons.mpr ⟨lw_p19, List.forall_mem_cons.mpr ⟨lw_p20, List.forall_mem_cons.mpr ⟨lw_p21, fun _ h => absurd h List.not_mem_nil⟩⟩⟩⟩⟩⟩⟩⟩⟩⟩⟩
def lw_privs_2 : List (MethodName × Nat) := [(⟨"HedgeCommitteeModel", "hedgeIt", "(III)I"⟩, 26), (⟨"HedgeCommitteeModel", "throwing", "(I)I"⟩, 26), (⟨"HedgeCommitteeModel", "changed", "(I)I"⟩, 26), (⟨"HedgeCommitteeModel", "mainIt", "(II)I"⟩, 26), (⟨"HedgeCommitteeModel", "adds", "(III)I"⟩, 26), (⟨"HedgeCommitteeModel", "amendIt", "(III)I"⟩, 26), (⟨"HedgeCommitteeModel", "find", "(I)I"⟩, 26), (⟨"HedgeCommitteeModel", "of", "(II)I"⟩, 26), (⟨"HedgeCommitteeModel", "pruneIt", "(II)I"⟩, 26), (⟨"HedgeCommitteeModel", "deep", "(I)I"⟩, 26), (⟨"HedgeCommitteeModel", "above", "(I)I"⟩, 26)]
theorem lw_r2 : ∀ q ∈ lw_privs_2, lw_okq q := List.forall_mem_cons.mpr ⟨lw_p22, List.forall_mem_cons.mpr ⟨lw_p23, List.forall_mem_cons.mpr ⟨lw_p24, List.forall_mem_cons.mpr ⟨lw_p25, List.forall_mem_cons.mpr ⟨lw_p26, List.forall_mem_cons.mpr ⟨lw_p27, List.forall_mem_cons.mpr ⟨lw_p28, List.forall_mem_cons.mpr ⟨lw_p29, List.forall_mem_cons.mpr ⟨lw_p30, List.forall_mem_cons.mpr ⟨lw_p31, List.forall_mem_cons.mpr ⟨lw_p32, fun _ h => absurd h List.not_mem_nil⟩⟩⟩⟩⟩⟩⟩⟩⟩⟩⟩
def lw_privs_3 : List (MethodName × Nat) := [(⟨"HedgeCommitteeModel", "isIn", "(II)Z"⟩, 26), (⟨"HedgeCommitteeModel", "drops", "(I)V"⟩, 26), (⟨"HedgeCommitteeModel", "regrowIt", "(I)I"⟩, 26), (⟨"HedgeCommitteeModel", "lastTipAt", "(I)I"⟩, 26), (⟨"HedgeCommitteeModel", "isTipAt", "(I)Z"⟩, 26), (⟨"HedgeCommitteeModel", "voteIt", "(I)I"⟩, 26), (⟨"HedgeCommitteeModel", "vetoes", "(II)Z"⟩, 26), (⟨"HedgeCommitteeModel", "far", "(II)I"⟩, 26), (⟨"HedgeCommitteeModel", "favour", "(I)I"⟩, 26), (⟨"HedgeCommitteeModel", "leavesAll", "()I"⟩, 26), (⟨"HedgeCommitteeModel", "carries", "(I)V"⟩, 26)]
theorem lw_r3 : ∀ q ∈ lw_privs_3, lw_okq q := List.forall_mem_cons.mpr ⟨lw_p33, List.forall_mem_cons.mpr ⟨lw_p34, List.forall_mem_cons.mpr ⟨lw_p35, List.forall_mem_cons.mpr ⟨lw_p36, List.forall_mem_cons.mpr ⟨lw_p37, List.forall_mem_cons.mpr ⟨lw_p38, List.forall_mem_cons.mpr ⟨lw_p39, List.forall_mem_cons.mpr ⟨lw_p40, List.forall_mem_cons.mpr ⟨lw_p41, List.forall_mem_cons.mpr ⟨lw_p42, List.forall_mem_cons.mpr ⟨lw_p43, fun _ h => absurd h List.not_mem_nil⟩⟩⟩⟩⟩⟩⟩⟩⟩⟩⟩
def lw_privs_4 : List (MethodName × Nat) := [(⟨"HedgeCommitteeModel", "seasonIt", "()I"⟩, 26), (⟨"HedgeCommitteeModel", "isHedge", "(I)Z"⟩, 26), (⟨"HedgeCommitteeModel", "isHedgeAhead", "(II)Z"⟩, 26), (⟨"HedgeCommitteeModel", "ofMotion", "(II)I"⟩, 26), (⟨"HedgeCommitteeModel", "isMotionAhead", "(II)Z"⟩, 26), (⟨"HedgeCommitteeModel", "common", "(II)I"⟩, 26), (⟨"HedgeCommitteeModel", "steps", "(II)I"⟩, 26), (⟨"HedgeCommitteeModel", "measures", "()V"⟩, 26), (⟨"HedgeCommitteeModel", "readCommand", "()V"⟩, 26), (⟨"HedgeCommitteeModel", "likeness", "(I)I"⟩, 26), (⟨"HedgeCommitteeModel", "readArguments", "(II)V"⟩, 26)]
theorem lw_r4 : ∀ q ∈ lw_privs_4, lw_okq q := List.forall_mem_cons.mpr ⟨lw_p44, List.forall_mem_cons.mpr ⟨lw_p45, List.forall_mem_cons.mpr ⟨lw_p46, List.forall_mem_cons.mpr ⟨lw_p47, List.forall_mem_cons.mpr ⟨lw_p48, List.forall_mem_cons.mpr ⟨lw_p49, List.forall_mem_cons.mpr ⟨lw_p50, List.forall_mem_cons.mpr ⟨lw_p51, List.forall_mem_cons.mpr ⟨lw_p52, List.forall_mem_cons.mpr ⟨lw_p53, List.forall_mem_cons.mpr ⟨lw_p54, fun _ h => absurd h List.not_mem_nil⟩⟩⟩⟩⟩⟩⟩⟩⟩⟩⟩
def lw_privs_5 : List (MethodName × Nat) := [(⟨"HedgeCommitteeModel", "digit", "()I"⟩, 26), (⟨"HedgeCommitteeModel", "here", "()I"⟩, 26), (⟨"HedgeCommitteeModel", "number", "()I"⟩, 26), (⟨"HedgeCommitteeModel", "digitBehind", "()I"⟩, 26), (⟨"HedgeCommitteeModel", "expects", "(I)V"⟩, 26), (⟨"HedgeCommitteeModel", "numberBehind", "()I"⟩, 26), (⟨"HedgeCommitteeModel", "does", "(I)V"⟩, 26), (⟨"HedgeCommitteeModel", "writesWhole", "(I)V"⟩, 26), (⟨"HedgeCommitteeModel", "sign", "(I)V"⟩, 26), (⟨"HedgeCommitteeModel", "childFrom", "(II)I"⟩, 26), (⟨"HedgeCommitteeModel", "next", "(II)I"⟩, 26)]
theorem lw_r5 : ∀ q ∈ lw_privs_5, lw_okq q := List.forall_mem_cons.mpr ⟨lw_p55, List.forall_mem_cons.mpr ⟨lw_p56, List.forall_mem_cons.mpr ⟨lw_p57, List.forall_mem_cons.mpr ⟨lw_p58, List.forall_mem_cons.mpr ⟨lw_p59, List.forall_mem_cons.mpr ⟨lw_p60, List.forall_mem_cons.mpr ⟨lw_p61, List.forall_mem_cons.mpr ⟨lw_p62, List.forall_mem_cons.mpr ⟨lw_p63, List.forall_mem_cons.mpr ⟨lw_p64, List.forall_mem_cons.mpr ⟨lw_p65, fun _ h => absurd h List.not_mem_nil⟩⟩⟩⟩⟩⟩⟩⟩⟩⟩⟩
def lw_privs : List (MethodName × Nat) := lw_privs_0 ++ lw_privs_1 ++ lw_privs_2 ++ lw_privs_3 ++ lw_privs_4 ++ lw_privs_5
theorem lw_privs_ok : ∀ q ∈ lw_privs, lw_okq q := by
  unfold lw_privs
  intro q h
  simp only [List.mem_append] at h
  rcases h with ((((h | h) | h) | h) | h) | h
  · exact lw_r0 q h
  · exact lw_r1 q h
  · exact lw_r2 q h
  · exact lw_r3 q h
  · exact lw_r4 q h
  · exact lw_r5 q h
/-- private methods of the class above, on a StringBuilder -/
def lw_sbw : List Cond := [.selects "java/lang/StringBuilder" ⟨"java/lang/AbstractStringBuilder", "appendNull", "()Ljava/lang/AbstractStringBuilder;"⟩ ⟨"java/lang/AbstractStringBuilder", "appendNull", "()Ljava/lang/AbstractStringBuilder;"⟩, .selects "java/lang/StringBuilder" ⟨"java/lang/AbstractStringBuilder", "ensureCapacityInternal", "(I)V"⟩ ⟨"java/lang/AbstractStringBuilder", "ensureCapacityInternal", "(I)V"⟩, .selects "java/lang/StringBuilder" ⟨"java/lang/AbstractStringBuilder", "newCapacity", "(I)I"⟩ ⟨"java/lang/AbstractStringBuilder", "newCapacity", "(I)I"⟩, .selects "java/lang/StringBuilder" ⟨"java/lang/AbstractStringBuilder", "putStringAt", "(ILjava/lang/String;)V"⟩ ⟨"java/lang/AbstractStringBuilder", "putStringAt", "(ILjava/lang/String;)V"⟩, .selects "java/lang/StringBuilder" ⟨"java/lang/AbstractStringBuilder", "inflateIfNeededFor", "(Ljava/lang/String;)V"⟩ ⟨"java/lang/AbstractStringBuilder", "inflateIfNeededFor", "(Ljava/lang/String;)V"⟩, .selects "java/lang/StringBuilder" ⟨"java/lang/AbstractStringBuilder", "inflate", "()V"⟩ ⟨"java/lang/AbstractStringBuilder", "inflate", "()V"⟩]
def lw_tbl0 : List Cond := k2_sels lw_privs ++ tables_1
def lw_tbl : List Cond := lw_sbw ++ lw_tbl0
def RX0 : String := "HedgeCommittee$1"
def TX0 : u_T := fun k => match k with
  | _ => ("", "", "", false)
def tyX0 : Nat → FieldType := fun k => match k with
  | _ => .int
abbrev wsX00 : List Cond := u_ws RX0 TX0 0
theorem nmX0 : ∀ a, a < 0 → ∀ b, b < 0 → a ≠ b → (TX0 a).2.1 ≠ (TX0 b).2.1 := by decide +kernel
theorem tyX0_ok : ∀ k, k < 0 → parseFieldDescriptor (TX0 k).2.2.1 = some (tyX0 k) := by decide +kernel
def RX1 : String := "HedgeCommittee$Command"
def TX1 : u_T := fun k => match k with
  | 0 => ("HedgeCommittee$Command", "kind", "LHedgeCommittee$Kind;", true)
  | 1 => ("HedgeCommittee$Command", "first", "I", true)
  | 2 => ("HedgeCommittee$Command", "second", "I", true)
  | _ => ("HedgeCommittee$Command", "third", "I", true)
def tyX1 : Nat → FieldType := fun k => match k with
  | 0 => .object "HedgeCommittee$Kind"
  | 1 => .int
  | 2 => .int
  | _ => .int
abbrev wsX10 : List Cond := u_ws RX1 TX1 4
theorem nmX1 : ∀ a, a < 4 → ∀ b, b < 4 → a ≠ b → (TX1 a).2.1 ≠ (TX1 b).2.1 := by decide +kernel
theorem tyX1_ok : ∀ k, k < 4 → parseFieldDescriptor (TX1 k).2.2.1 = some (tyX1 k) := by decide +kernel
abbrev cX1_init : ByteArray := prog_3_method_1_code
def yX1_init : MethodName := ⟨RX1, "<init>", "(LHedgeCommittee$Kind;III)V"⟩
def RX2 : String := "HedgeCommittee$Hedges"
def TX2 : u_T := fun k => match k with
  | 0 => ("HedgeCommittee$Hedges", "leaves", "[I", true)
  | 1 => ("HedgeCommittee$Hedges", "thorns", "[I", true)
  | 2 => ("HedgeCommittee$Hedges", "tastes", "[I", true)
  | _ => ("HedgeCommittee$Hedges", "count", "I", false)
def tyX2 : Nat → FieldType := fun k => match k with
  | 0 => .array .int
  | 1 => .array .int
  | 2 => .array .int
  | _ => .int
abbrev wsX20 : List Cond := u_ws RX2 TX2 4
theorem nmX2 : ∀ a, a < 4 → ∀ b, b < 4 → a ≠ b → (TX2 a).2.1 ≠ (TX2 b).2.1 := by decide +kernel
theorem tyX2_ok : ∀ k, k < 4 → parseFieldDescriptor (TX2 k).2.2.1 = some (tyX2 k) := by decide +kernel
abbrev cX2_init : ByteArray := prog_4_method_1_code
def yX2_init : MethodName := ⟨RX2, "<init>", "()V"⟩
abbrev cX2_copyFrom : ByteArray := prog_4_method_2_code
def yX2_copyFrom : MethodName := ⟨RX2, "copyFrom", "(LHedgeCommittee$Hedges;)V"⟩
abbrev cX2_has : ByteArray := prog_4_method_3_code
def yX2_has : MethodName := ⟨RX2, "has", "(I)Z"⟩
abbrev cX2_isFull : ByteArray := prog_4_method_4_code
def yX2_isFull : MethodName := ⟨RX2, "isFull", "()Z"⟩
abbrev cX2_add : ByteArray := prog_4_method_5_code
def yX2_add : MethodName := ⟨RX2, "add", "(III)I"⟩
abbrev cX2_difference : ByteArray := prog_4_method_6_code
def yX2_difference : MethodName := ⟨RX2, "difference", "(II)I"⟩
abbrev cX2_vetoes : ByteArray := prog_4_method_7_code
def yX2_vetoes : MethodName := ⟨RX2, "vetoes", "(II)Z"⟩
abbrev cX2_leavesFor : ByteArray := prog_4_method_8_code
def yX2_leavesFor : MethodName := ⟨RX2, "leavesFor", "(I)I"⟩
abbrev cX2_totalLeaves : ByteArray := prog_4_method_9_code
def yX2_totalLeaves : MethodName := ⟨RX2, "totalLeaves", "()I"⟩
abbrev cX2_decideOn : ByteArray := prog_4_method_10_code
def yX2_decideOn : MethodName := ⟨RX2, "decideOn", "(I)C"⟩
abbrev cX2_meet : ByteArray := prog_4_method_11_code
def yX2_meet : MethodName := ⟨RX2, "meet", "(I)V"⟩
abbrev cX2_ranksBefore : ByteArray := prog_4_method_12_code
def yX2_ranksBefore : MethodName := ⟨RX2, "ranksBefore", "(II)Z"⟩
abbrev cX2_atRank : ByteArray := prog_4_method_13_code
def yX2_atRank : MethodName := ⟨RX2, "atRank", "(I)I"⟩
abbrev cX2_rankOf : ByteArray := prog_4_method_14_code
def yX2_rankOf : MethodName := ⟨RX2, "rankOf", "(I)I"⟩
def RX3 : String := "HedgeCommittee$History"
def TX3 : u_T := fun k => match k with
  | 0 => ("HedgeCommittee$History", "states", "[LHedgeCommittee$State;", true)
  | _ => ("HedgeCommittee$History", "count", "I", false)
def tyX3 : Nat → FieldType := fun k => match k with
  | 0 => .array (.object "HedgeCommittee$State")
  | _ => .int
abbrev wsX30 : List Cond := u_ws RX3 TX3 2
theorem nmX3 : ∀ a, a < 2 → ∀ b, b < 2 → a ≠ b → (TX3 a).2.1 ≠ (TX3 b).2.1 := by decide +kernel
theorem tyX3_ok : ∀ k, k < 2 → parseFieldDescriptor (TX3 k).2.2.1 = some (tyX3 k) := by decide +kernel
abbrev cX3_init : ByteArray := prog_5_method_1_code
def yX3_init : MethodName := ⟨RX3, "<init>", "()V"⟩
abbrev cX3_note : ByteArray := prog_5_method_2_code
def yX3_note : MethodName := ⟨RX3, "note", "(LHedgeCommittee$State;)V"⟩
abbrev cX3_bringBackNoted : ByteArray := prog_5_method_3_code
def yX3_bringBackNoted : MethodName := ⟨RX3, "bringBackNoted", "(LHedgeCommittee$State;)V"⟩
abbrev cX3_keepNoted : ByteArray := prog_5_method_4_code
def yX3_keepNoted : MethodName := ⟨RX3, "keepNoted", "()V"⟩
abbrev cX3_forgetOldest : ByteArray := prog_5_method_5_code
def yX3_forgetOldest : MethodName := ⟨RX3, "forgetOldest", "()V"⟩
abbrev cX3_takeBack : ByteArray := prog_5_method_6_code
def yX3_takeBack : MethodName := ⟨RX3, "takeBack", "(LHedgeCommittee$State;)I"⟩
def RX4 : String := "HedgeCommittee$Kind"
def TX4 : u_T := fun k => match k with
  | _ => ("", "", "", false)
def tyX4 : Nat → FieldType := fun k => match k with
  | _ => .int
abbrev wsX40 : List Cond := u_ws RX4 TX4 0
theorem nmX4 : ∀ a, a < 0 → ∀ b, b < 0 → a ≠ b → (TX4 a).2.1 ≠ (TX4 b).2.1 := by decide +kernel
theorem tyX4_ok : ∀ k, k < 0 → parseFieldDescriptor (TX4 k).2.2.1 = some (tyX4 k) := by decide +kernel
def RX5 : String := "HedgeCommittee$Motions"
def TX5 : u_T := fun k => match k with
  | 0 => ("HedgeCommittee$Motions", "ids", "[I", true)
  | 1 => ("HedgeCommittee$Motions", "tones", "[I", true)
  | 2 => ("HedgeCommittee$Motions", "weights", "[I", true)
  | 3 => ("HedgeCommittee$Motions", "parents", "[I", true)
  | 4 => ("HedgeCommittee$Motions", "count", "I", false)
  | _ => ("HedgeCommittee$Motions", "nextId", "I", false)
def tyX5 : Nat → FieldType := fun k => match k with
  | 0 => .array .int
  | 1 => .array .int
  | 2 => .array .int
  | 3 => .array .int
  | 4 => .int
  | _ => .int
abbrev wsX50 : List Cond := u_ws RX5 TX5 6
theorem nmX5 : ∀ a, a < 6 → ∀ b, b < 6 → a ≠ b → (TX5 a).2.1 ≠ (TX5 b).2.1 := by decide +kernel
theorem tyX5_ok : ∀ k, k < 6 → parseFieldDescriptor (TX5 k).2.2.1 = some (tyX5 k) := by decide +kernel
abbrev cX5_init : ByteArray := prog_7_method_1_code
def yX5_init : MethodName := ⟨RX5, "<init>", "()V"⟩
abbrev cX5_copyFrom : ByteArray := prog_7_method_2_code
def yX5_copyFrom : MethodName := ⟨RX5, "copyFrom", "(LHedgeCommittee$Motions;)V"⟩
abbrev cX5_isFull : ByteArray := prog_7_method_3_code
def yX5_isFull : MethodName := ⟨RX5, "isFull", "()Z"⟩
abbrev cX5_require : ByteArray := prog_7_method_4_code
def yX5_require : MethodName := ⟨RX5, "require", "(I)I"⟩
abbrev cX5_add : ByteArray := prog_7_method_5_code
def yX5_add : MethodName := ⟨RX5, "add", "(III)I"⟩
abbrev cX5_removeTip : ByteArray := prog_7_method_6_code
def yX5_removeTip : MethodName := ⟨RX5, "removeTip", "(I)V"⟩
abbrev cX5_hasAmendments : ByteArray := prog_7_method_7_code
def yX5_hasAmendments : MethodName := ⟨RX5, "hasAmendments", "(I)Z"⟩
abbrev cX5_depthOf : ByteArray := prog_7_method_8_code
def yX5_depthOf : MethodName := ⟨RX5, "depthOf", "(I)I"⟩
abbrev cX5_isInBranch : ByteArray := prog_7_method_9_code
def yX5_isInBranch : MethodName := ⟨RX5, "isInBranch", "(II)Z"⟩
abbrev cX5_sizeOfBranch : ByteArray := prog_7_method_10_code
def yX5_sizeOfBranch : MethodName := ⟨RX5, "sizeOfBranch", "(I)I"⟩
abbrev cX5_lastTipOf : ByteArray := prog_7_method_11_code
def yX5_lastTipOf : MethodName := ⟨RX5, "lastTipOf", "(I)I"⟩
abbrev cX5_totalWeight : ByteArray := prog_7_method_12_code
def yX5_totalWeight : MethodName := ⟨RX5, "totalWeight", "()I"⟩
abbrev cX5_ranksBefore : ByteArray := prog_7_method_13_code
def yX5_ranksBefore : MethodName := ⟨RX5, "ranksBefore", "(II)Z"⟩
abbrev cX5_atRank : ByteArray := prog_7_method_14_code
def yX5_atRank : MethodName := ⟨RX5, "atRank", "(I)I"⟩
abbrev cX5_rankOf : ByteArray := prog_7_method_15_code
def yX5_rankOf : MethodName := ⟨RX5, "rankOf", "(I)I"⟩
def RX6 : String := "HedgeCommittee$Program"
def TX6 : u_T := fun k => match k with
  | 0 => ("HedgeCommittee$Program", "text", "[C", true)
  | 1 => ("HedgeCommittee$Program", "arguments", "[I", true)
  | 2 => ("HedgeCommittee$Program", "commands", "Ljava/util/ArrayList;", true)
  | 3 => ("HedgeCommittee$Program", "length", "I", false)
  | _ => ("HedgeCommittee$Program", "at", "I", false)
def tyX6 : Nat → FieldType := fun k => match k with
  | 0 => .array .char
  | 1 => .array .int
  | 2 => .object "java/util/ArrayList"
  | 3 => .int
  | _ => .int
abbrev wsX60 : List Cond := u_ws RX6 TX6 5
theorem nmX6 : ∀ a, a < 5 → ∀ b, b < 5 → a ≠ b → (TX6 a).2.1 ≠ (TX6 b).2.1 := by decide +kernel
theorem tyX6_ok : ∀ k, k < 5 → parseFieldDescriptor (TX6 k).2.2.1 = some (tyX6 k) := by decide +kernel
abbrev cX6_init : ByteArray := prog_8_method_1_code
def yX6_init : MethodName := ⟨RX6, "<init>", "()V"⟩
abbrev cX6_isFull : ByteArray := prog_8_method_2_code
def yX6_isFull : MethodName := ⟨RX6, "isFull", "()Z"⟩
abbrev cX6_put : ByteArray := prog_8_method_3_code
def yX6_put : MethodName := ⟨RX6, "put", "(C)I"⟩
abbrev cX6_empty : ByteArray := prog_8_method_4_code
def yX6_empty : MethodName := ⟨RX6, "empty", "()V"⟩
abbrev cX6_parse : ByteArray := prog_8_method_5_code
def yX6_parse : MethodName := ⟨RX6, "parse", "()I"⟩
abbrev cX6_readCommand : ByteArray := prog_8_method_6_code
def yX6_readCommand : MethodName := ⟨RX6, "readCommand", "()Z"⟩
abbrev cX6_kindAhead : ByteArray := prog_8_method_7_code
def yX6_kindAhead : MethodName := ⟨RX6, "kindAhead", "()LHedgeCommittee$Kind;"⟩
abbrev cX6_readSign : ByteArray := prog_8_method_8_code
def yX6_readSign : MethodName := ⟨RX6, "readSign", "(C)Z"⟩
abbrev cX6_digitAhead : ByteArray := prog_8_method_9_code
def yX6_digitAhead : MethodName := ⟨RX6, "digitAhead", "()Z"⟩
abbrev cX6_readDigits : ByteArray := prog_8_method_10_code
def yX6_readDigits : MethodName := ⟨RX6, "readDigits", "(Z)I"⟩
def RX7 : String := "HedgeCommittee$State"
def TX7 : u_T := fun k => match k with
  | 0 => ("HedgeCommittee$State", "hedges", "LHedgeCommittee$Hedges;", true)
  | 1 => ("HedgeCommittee$State", "motions", "LHedgeCommittee$Motions;", true)
  | 2 => ("HedgeCommittee$State", "minutes", "[I", true)
  | 3 => ("HedgeCommittee$State", "season", "I", false)
  | 4 => ("HedgeCommittee$State", "votes", "I", false)
  | 5 => ("HedgeCommittee$State", "carriedVotes", "I", false)
  | 6 => ("HedgeCommittee$State", "begun", "I", false)
  | 7 => ("HedgeCommittee$State", "pruned", "I", false)
  | 8 => ("HedgeCommittee$State", "rejected", "I", false)
  | 9 => ("HedgeCommittee$State", "vetoed", "I", false)
  | _ => ("HedgeCommittee$State", "adopted", "I", false)
def tyX7 : Nat → FieldType := fun k => match k with
  | 0 => .object "HedgeCommittee$Hedges"
  | 1 => .object "HedgeCommittee$Motions"
  | 2 => .array .int
  | 3 => .int
  | 4 => .int
  | 5 => .int
  | 6 => .int
  | 7 => .int
  | 8 => .int
  | 9 => .int
  | _ => .int
abbrev wsX70 : List Cond := u_ws RX7 TX7 11
theorem nmX7 : ∀ a, a < 11 → ∀ b, b < 11 → a ≠ b → (TX7 a).2.1 ≠ (TX7 b).2.1 := by decide +kernel
theorem tyX7_ok : ∀ k, k < 11 → parseFieldDescriptor (TX7 k).2.2.1 = some (tyX7 k) := by decide +kernel
abbrev cX7_init : ByteArray := prog_9_method_1_code
def yX7_init : MethodName := ⟨RX7, "<init>", "()V"⟩
abbrev cX7_copyFrom : ByteArray := prog_9_method_2_code
def yX7_copyFrom : MethodName := ⟨RX7, "copyFrom", "(LHedgeCommittee$State;)V"⟩
abbrev cX7_accountedWeight : ByteArray := prog_9_method_3_code
def yX7_accountedWeight : MethodName := ⟨RX7, "accountedWeight", "()I"⟩
abbrev cX7_newHedge : ByteArray := prog_9_method_4_code
def yX7_newHedge : MethodName := ⟨RX7, "newHedge", "(III)I"⟩
abbrev cX7_newMain : ByteArray := prog_9_method_5_code
def yX7_newMain : MethodName := ⟨RX7, "newMain", "(II)I"⟩
abbrev cX7_newAmendment : ByteArray := prog_9_method_6_code
def yX7_newAmendment : MethodName := ⟨RX7, "newAmendment", "(III)I"⟩
abbrev cX7_growTip : ByteArray := prog_9_method_7_code
def yX7_growTip : MethodName := ⟨RX7, "growTip", "(I)I"⟩
abbrev cX7_cutBack : ByteArray := prog_9_method_8_code
def yX7_cutBack : MethodName := ⟨RX7, "cutBack", "(II)I"⟩
abbrev cX7_holdVote : ByteArray := prog_9_method_9_code
def yX7_holdVote : MethodName := ⟨RX7, "holdVote", "(I)C"⟩
abbrev cX7_bookOutcome : ByteArray := prog_9_method_10_code
def yX7_bookOutcome : MethodName := ⟨RX7, "bookOutcome", "(CII)V"⟩
abbrev cX7_beginNextSeason : ByteArray := prog_9_method_11_code
def yX7_beginNextSeason : MethodName := ⟨RX7, "beginNextSeason", "()V"⟩
abbrev cX7_begin : ByteArray := prog_9_method_12_code
def yX7_begin : MethodName := ⟨RX7, "begin", "(III)I"⟩
abbrev cX7_requireRoom : ByteArray := prog_9_method_13_code
def yX7_requireRoom : MethodName := ⟨RX7, "requireRoom", "()V"⟩
abbrev cX7_requireToneAndWeight : ByteArray := prog_9_method_14_code
def yX7_requireToneAndWeight : MethodName := ⟨RX7, "requireToneAndWeight", "(II)V"⟩
abbrev cX7_isDigit : ByteArray := prog_9_method_15_code
def yX7_isDigit : MethodName := ⟨RX7, "isDigit", "(I)Z"⟩
def RX8 : String := "HedgeCommittee$Trees"
def TX8 : u_T := fun k => match k with
  | 0 => ("HedgeCommittee$Trees", "rowOfOne", "[I", true)
  | 1 => ("HedgeCommittee$Trees", "rowOfOther", "[I", true)
  | 2 => ("HedgeCommittee$Trees", "heights", "[I", true)
  | 3 => ("HedgeCommittee$Trees", "distances", "[I", true)
  | 4 => ("HedgeCommittee$Trees", "with", "[J", true)
  | _ => ("HedgeCommittee$Trees", "without", "[J", true)
def tyX8 : Nat → FieldType := fun k => match k with
  | 0 => .array .int
  | 1 => .array .int
  | 2 => .array .int
  | 3 => .array .int
  | 4 => .array .long
  | _ => .array .long
abbrev wsX80 : List Cond := u_ws RX8 TX8 6
theorem nmX8 : ∀ a, a < 6 → ∀ b, b < 6 → a ≠ b → (TX8 a).2.1 ≠ (TX8 b).2.1 := by decide +kernel
theorem tyX8_ok : ∀ k, k < 6 → parseFieldDescriptor (TX8 k).2.2.1 = some (tyX8 k) := by decide +kernel
abbrev cX8_init : ByteArray := prog_10_method_1_code
def yX8_init : MethodName := ⟨RX8, "<init>", "()V"⟩
abbrev cX8_commonByClimbing : ByteArray := prog_10_method_2_code
def yX8_commonByClimbing : MethodName := ⟨RX8, "commonByClimbing", "(LHedgeCommittee$Motions;II)I"⟩
abbrev cX8_commonByRows : ByteArray := prog_10_method_3_code
def yX8_commonByRows : MethodName := ⟨RX8, "commonByRows", "(LHedgeCommittee$Motions;II)I"⟩
abbrev cX8_fillRow : ByteArray := prog_10_method_4_code
def yX8_fillRow : MethodName := ⟨RX8, "fillRow", "(LHedgeCommittee$Motions;I[I)I"⟩
abbrev cX8_longestByHeights : ByteArray := prog_10_method_5_code
def yX8_longestByHeights : MethodName := ⟨RX8, "longestByHeights", "(LHedgeCommittee$Motions;I)I"⟩
abbrev cX8_longestBySweeps : ByteArray := prog_10_method_6_code
def yX8_longestBySweeps : MethodName := ⟨RX8, "longestBySweeps", "(LHedgeCommittee$Motions;I)I"⟩
abbrev cX8_farthestFrom : ByteArray := prog_10_method_7_code
def yX8_farthestFrom : MethodName := ⟨RX8, "farthestFrom", "(LHedgeCommittee$Motions;II)I"⟩
abbrev cX8_bestByBranches : ByteArray := prog_10_method_8_code
def yX8_bestByBranches : MethodName := ⟨RX8, "bestByBranches", "(LHedgeCommittee$Motions;)J"⟩
abbrev cX8_bestBySets : ByteArray := prog_10_method_9_code
def yX8_bestBySets : MethodName := ⟨RX8, "bestBySets", "(LHedgeCommittee$Motions;)J"⟩
abbrev cX8_isGood : ByteArray := prog_10_method_10_code
def yX8_isGood : MethodName := ⟨RX8, "isGood", "(LHedgeCommittee$Motions;I)Z"⟩
abbrev cX8_worthOf : ByteArray := prog_10_method_11_code
def yX8_worthOf : MethodName := ⟨RX8, "worthOf", "(LHedgeCommittee$Motions;I)J"⟩
abbrev cX8_countGoodSets : ByteArray := prog_10_method_12_code
def yX8_countGoodSets : MethodName := ⟨RX8, "countGoodSets", "(LHedgeCommittee$Motions;)I"⟩
abbrev cX8_agreeOnPaths : ByteArray := prog_10_method_13_code
def yX8_agreeOnPaths : MethodName := ⟨RX8, "agreeOnPaths", "(LHedgeCommittee$Motions;)Z"⟩
abbrev cX8_agreeOnCommonMotions : ByteArray := prog_10_method_14_code
def yX8_agreeOnCommonMotions : MethodName := ⟨RX8, "agreeOnCommonMotions", "(LHedgeCommittee$Motions;)Z"⟩
def RX9 : String := "HedgeCommittee"
def TX9 : u_T := fun k => match k with
  | 0 => ("HedgeCommittee", "state", "LHedgeCommittee$State;", true)
  | 1 => ("HedgeCommittee", "saved", "LHedgeCommittee$State;", true)
  | 2 => ("HedgeCommittee", "history", "LHedgeCommittee$History;", true)
  | 3 => ("HedgeCommittee", "trees", "LHedgeCommittee$Trees;", true)
  | 4 => ("HedgeCommittee", "program", "LHedgeCommittee$Program;", true)
  | 5 => ("HedgeCommittee", "output", "Ljava/lang/StringBuilder;", true)
  | 6 => ("HedgeCommittee", "hasSaved", "Z", false)
  | 7 => ("HedgeCommittee", "lastErrorPosition", "I", false)
  | _ => ("HedgeCommittee", "lastFailedCommand", "I", false)
def tyX9 : Nat → FieldType := fun k => match k with
  | 0 => .object "HedgeCommittee$State"
  | 1 => .object "HedgeCommittee$State"
  | 2 => .object "HedgeCommittee$History"
  | 3 => .object "HedgeCommittee$Trees"
  | 4 => .object "HedgeCommittee$Program"
  | 5 => .object "java/lang/StringBuilder"
  | 6 => .boolean
  | 7 => .int
  | _ => .int
abbrev wsX90 : List Cond := u_ws RX9 TX9 9
theorem nmX9 : ∀ a, a < 9 → ∀ b, b < 9 → a ≠ b → (TX9 a).2.1 ≠ (TX9 b).2.1 := by decide +kernel
theorem tyX9_ok : ∀ k, k < 9 → parseFieldDescriptor (TX9 k).2.2.1 = some (tyX9 k) := by decide +kernel
abbrev cX9_init : ByteArray := prog_1_method_1_code
def yX9_init : MethodName := ⟨RX9, "<init>", "()V"⟩
abbrev cX9_addHedge : ByteArray := prog_1_method_2_code
def yX9_addHedge : MethodName := ⟨RX9, "addHedge", "(III)I"⟩
abbrev cX9_propose : ByteArray := prog_1_method_3_code
def yX9_propose : MethodName := ⟨RX9, "propose", "(II)I"⟩
abbrev cX9_amend : ByteArray := prog_1_method_4_code
def yX9_amend : MethodName := ⟨RX9, "amend", "(III)I"⟩
abbrev cX9_prune : ByteArray := prog_1_method_5_code
def yX9_prune : MethodName := ⟨RX9, "prune", "(II)I"⟩
abbrev cX9_regrow : ByteArray := prog_1_method_6_code
def yX9_regrow : MethodName := ⟨RX9, "regrow", "(I)I"⟩
abbrev cX9_vote : ByteArray := prog_1_method_7_code
def yX9_vote : MethodName := ⟨RX9, "vote", "(I)C"⟩
abbrev cX9_passSeason : ByteArray := prog_1_method_8_code
def yX9_passSeason : MethodName := ⟨RX9, "passSeason", "()I"⟩
abbrev cX9_hedgeCount : ByteArray := prog_1_method_9_code
def yX9_hedgeCount : MethodName := ⟨RX9, "hedgeCount", "()I"⟩
abbrev cX9_leaves : ByteArray := prog_1_method_10_code
def yX9_leaves : MethodName := ⟨RX9, "leaves", "(I)I"⟩
abbrev cX9_thorns : ByteArray := prog_1_method_11_code
def yX9_thorns : MethodName := ⟨RX9, "thorns", "(I)I"⟩
abbrev cX9_hedgeAtRank : ByteArray := prog_1_method_12_code
def yX9_hedgeAtRank : MethodName := ⟨RX9, "hedgeAtRank", "(I)I"⟩
abbrev cX9_leavesInFavour : ByteArray := prog_1_method_13_code
def yX9_leavesInFavour : MethodName := ⟨RX9, "leavesInFavour", "(I)I"⟩
abbrev cX9_wouldVeto : ByteArray := prog_1_method_14_code
def yX9_wouldVeto : MethodName := ⟨RX9, "wouldVeto", "(II)Z"⟩
abbrev cX9_motionCount : ByteArray := prog_1_method_15_code
def yX9_motionCount : MethodName := ⟨RX9, "motionCount", "()I"⟩
abbrev cX9_motionAt : ByteArray := prog_1_method_16_code
def yX9_motionAt : MethodName := ⟨RX9, "motionAt", "(I)I"⟩
abbrev cX9_tone : ByteArray := prog_1_method_17_code
def yX9_tone : MethodName := ⟨RX9, "tone", "(I)I"⟩
abbrev cX9_weight : ByteArray := prog_1_method_18_code
def yX9_weight : MethodName := ⟨RX9, "weight", "(I)I"⟩
abbrev cX9_parent : ByteArray := prog_1_method_19_code
def yX9_parent : MethodName := ⟨RX9, "parent", "(I)I"⟩
abbrev cX9_depth : ByteArray := prog_1_method_20_code
def yX9_depth : MethodName := ⟨RX9, "depth", "(I)I"⟩
abbrev cX9_isTip : ByteArray := prog_1_method_21_code
def yX9_isTip : MethodName := ⟨RX9, "isTip", "(I)Z"⟩
abbrev cX9_branchSize : ByteArray := prog_1_method_22_code
def yX9_branchSize : MethodName := ⟨RX9, "branchSize", "(I)I"⟩
abbrev cX9_lastTip : ByteArray := prog_1_method_23_code
def yX9_lastTip : MethodName := ⟨RX9, "lastTip", "(I)I"⟩
abbrev cX9_motionAtRank : ByteArray := prog_1_method_24_code
def yX9_motionAtRank : MethodName := ⟨RX9, "motionAtRank", "(I)I"⟩
abbrev cX9_commonMotion : ByteArray := prog_1_method_25_code
def yX9_commonMotion : MethodName := ⟨RX9, "commonMotion", "(II)I"⟩
abbrev cX9_commonMotionByRows : ByteArray := prog_1_method_26_code
def yX9_commonMotionByRows : MethodName := ⟨RX9, "commonMotionByRows", "(II)I"⟩
abbrev cX9_pathSize : ByteArray := prog_1_method_27_code
def yX9_pathSize : MethodName := ⟨RX9, "pathSize", "(II)I"⟩
abbrev cX9_longestPath : ByteArray := prog_1_method_28_code
def yX9_longestPath : MethodName := ⟨RX9, "longestPath", "(I)I"⟩
abbrev cX9_longestPathBySweeps : ByteArray := prog_1_method_29_code
def yX9_longestPathBySweeps : MethodName := ⟨RX9, "longestPathBySweeps", "(I)I"⟩
abbrev cX9_bestWorth : ByteArray := prog_1_method_30_code
def yX9_bestWorth : MethodName := ⟨RX9, "bestWorth", "()I"⟩
abbrev cX9_bestWorthBySets : ByteArray := prog_1_method_31_code
def yX9_bestWorthBySets : MethodName := ⟨RX9, "bestWorthBySets", "()I"⟩
abbrev cX9_goodSets : ByteArray := prog_1_method_32_code
def yX9_goodSets : MethodName := ⟨RX9, "goodSets", "()I"⟩
abbrev cX9_season : ByteArray := prog_1_method_33_code
def yX9_season : MethodName := ⟨RX9, "season", "()I"⟩
abbrev cX9_minutesIn : ByteArray := prog_1_method_34_code
def yX9_minutesIn : MethodName := ⟨RX9, "minutesIn", "(I)I"⟩
abbrev cX9_adoptedWeight : ByteArray := prog_1_method_35_code
def yX9_adoptedWeight : MethodName := ⟨RX9, "adoptedWeight", "()I"⟩
abbrev cX9_weightTotal : ByteArray := prog_1_method_36_code
def yX9_weightTotal : MethodName := ⟨RX9, "weightTotal", "()I"⟩
abbrev cX9_weightByAccounts : ByteArray := prog_1_method_37_code
def yX9_weightByAccounts : MethodName := ⟨RX9, "weightByAccounts", "()I"⟩
abbrev cX9_meanLeaves : ByteArray := prog_1_method_38_code
def yX9_meanLeaves : MethodName := ⟨RX9, "meanLeaves", "()D"⟩
abbrev cX9_carriedShare : ByteArray := prog_1_method_39_code
def yX9_carriedShare : MethodName := ⟨RX9, "carriedShare", "()F"⟩
abbrev cX9_isConsistent : ByteArray := prog_1_method_40_code
def yX9_isConsistent : MethodName := ⟨RX9, "isConsistent", "()Z"⟩
abbrev cX9_append : ByteArray := prog_1_method_41_code
def yX9_append : MethodName := ⟨RX9, "append", "(C)I"⟩
abbrev cX9_run : ByteArray := prog_1_method_42_code
def yX9_run : MethodName := ⟨RX9, "run", "()I"⟩
abbrev cX9_errorPosition : ByteArray := prog_1_method_43_code
def yX9_errorPosition : MethodName := ⟨RX9, "errorPosition", "()I"⟩
abbrev cX9_failedCommand : ByteArray := prog_1_method_44_code
def yX9_failedCommand : MethodName := ⟨RX9, "failedCommand", "()I"⟩
abbrev cX9_writeBranch : ByteArray := prog_1_method_45_code
def yX9_writeBranch : MethodName := ⟨RX9, "writeBranch", "(I)I"⟩
abbrev cX9_outputAt : ByteArray := prog_1_method_46_code
def yX9_outputAt : MethodName := ⟨RX9, "outputAt", "(I)C"⟩
abbrev cX9_undo : ByteArray := prog_1_method_47_code
def yX9_undo : MethodName := ⟨RX9, "undo", "()I"⟩
abbrev cX9_save : ByteArray := prog_1_method_48_code
def yX9_save : MethodName := ⟨RX9, "save", "()V"⟩
abbrev cX9_restore : ByteArray := prog_1_method_49_code
def yX9_restore : MethodName := ⟨RX9, "restore", "()V"⟩
abbrev cX9_requireHedge : ByteArray := prog_1_method_50_code
def yX9_requireHedge : MethodName := ⟨RX9, "requireHedge", "(I)V"⟩
abbrev cX9_requirePosition : ByteArray := prog_1_method_51_code
def yX9_requirePosition : MethodName := ⟨RX9, "requirePosition", "(I)V"⟩
abbrev cX9_idOfCommon : ByteArray := prog_1_method_52_code
def yX9_idOfCommon : MethodName := ⟨RX9, "idOfCommon", "(I)I"⟩
abbrev cX9_firstFailure : ByteArray := prog_1_method_53_code
def yX9_firstFailure : MethodName := ⟨RX9, "firstFailure", "()I"⟩
abbrev cX9_succeeds : ByteArray := prog_1_method_54_code
def yX9_succeeds : MethodName := ⟨RX9, "succeeds", "(LHedgeCommittee$Command;)Z"⟩
abbrev cX9_writePart : ByteArray := prog_1_method_55_code
def yX9_writePart : MethodName := ⟨RX9, "writePart", "(LHedgeCommittee$Motions;IILjava/lang/StringBuilder;)V"⟩
def RX10 : String := "HedgeCommitteeModel"
def TX10 : u_T := fun k => match k with
  | 0 => ("HedgeCommitteeModel", "m", "[I", true)
  | 1 => ("HedgeCommitteeModel", "aside", "[I", true)
  | 2 => ("HedgeCommitteeModel", "saved", "[I", true)
  | 3 => ("HedgeCommitteeModel", "isSaved", "Z", false)
  | 4 => ("HedgeCommitteeModel", "past", "[I", true)
  | 5 => ("HedgeCommitteeModel", "changes", "I", false)
  | 6 => ("HedgeCommitteeModel", "errorAt", "I", false)
  | 7 => ("HedgeCommitteeModel", "failed", "I", false)
  | 8 => ("HedgeCommitteeModel", "thrown", "I", false)
  | 9 => ("HedgeCommitteeModel", "input", "[I", true)
  | 10 => ("HedgeCommitteeModel", "inputMany", "I", false)
  | 11 => ("HedgeCommitteeModel", "with", "[I", true)
  | 12 => ("HedgeCommitteeModel", "without", "[I", true)
  | 13 => ("HedgeCommitteeModel", "setsWith", "[I", true)
  | 14 => ("HedgeCommitteeModel", "setsWithout", "[I", true)
  | 15 => ("HedgeCommitteeModel", "worthAll", "I", false)
  | 16 => ("HedgeCommitteeModel", "setsAll", "I", false)
  | 17 => ("HedgeCommitteeModel", "letters", "[C", true)
  | 18 => ("HedgeCommitteeModel", "begins0", "[I", true)
  | 19 => ("HedgeCommitteeModel", "commands", "[I", true)
  | 20 => ("HedgeCommitteeModel", "commandMany", "I", false)
  | 21 => ("HedgeCommitteeModel", "place0", "I", false)
  | 22 => ("HedgeCommitteeModel", "size0", "I", false)
  | 23 => ("HedgeCommitteeModel", "isWrong", "Z", false)
  | 24 => ("HedgeCommitteeModel", "line", "[I", true)
  | _ => ("HedgeCommitteeModel", "lineMany", "I", false)
def tyX10 : Nat → FieldType := fun k => match k with
  | 0 => .array .int
  | 1 => .array .int
  | 2 => .array .int
  | 3 => .boolean
  | 4 => .array .int
  | 5 => .int
  | 6 => .int
  | 7 => .int
  | 8 => .int
  | 9 => .array .int
  | 10 => .int
  | 11 => .array .int
  | 12 => .array .int
  | 13 => .array .int
  | 14 => .array .int
  | 15 => .int
  | 16 => .int
  | 17 => .array .char
  | 18 => .array .int
  | 19 => .array .int
  | 20 => .int
  | 21 => .int
  | 22 => .int
  | 23 => .boolean
  | 24 => .array .int
  | _ => .int
abbrev wsX100 : List Cond := u_ws RX10 TX10 26
theorem nmX10 : ∀ a, a < 26 → ∀ b, b < 26 → a ≠ b → (TX10 a).2.1 ≠ (TX10 b).2.1 := by decide +kernel
theorem tyX10_ok : ∀ k, k < 26 → parseFieldDescriptor (TX10 k).2.2.1 = some (tyX10 k) := by decide +kernel
abbrev cX10_init : ByteArray := prog_12_method_1_code
def yX10_init : MethodName := ⟨RX10, "<init>", "()V"⟩
abbrev cX10_thrown : ByteArray := prog_12_method_2_code
def yX10_thrown : MethodName := ⟨RX10, "thrown", "()I"⟩
abbrev cX10_throwing : ByteArray := prog_12_method_3_code
def yX10_throwing : MethodName := ⟨RX10, "throwing", "(I)I"⟩
abbrev cX10_in : ByteArray := prog_12_method_4_code
def yX10_in : MethodName := ⟨RX10, "in", "(JJJ)Z"⟩
abbrev cX10_starts : ByteArray := prog_12_method_5_code
def yX10_starts : MethodName := ⟨RX10, "starts", "()V"⟩
abbrev cX10_changed : ByteArray := prog_12_method_6_code
def yX10_changed : MethodName := ⟨RX10, "changed", "(I)I"⟩
abbrev cX10_hedgeAt : ByteArray := prog_12_method_7_code
def yX10_hedgeAt : MethodName := ⟨RX10, "hedgeAt", "(I)I"⟩
abbrev cX10_isHedge : ByteArray := prog_12_method_8_code
def yX10_isHedge : MethodName := ⟨RX10, "isHedge", "(I)Z"⟩
abbrev cX10_of : ByteArray := prog_12_method_9_code
def yX10_of : MethodName := ⟨RX10, "of", "(II)I"⟩
abbrev cX10_find : ByteArray := prog_12_method_10_code
def yX10_find : MethodName := ⟨RX10, "find", "(I)I"⟩
abbrev cX10_above : ByteArray := prog_12_method_11_code
def yX10_above : MethodName := ⟨RX10, "above", "(I)I"⟩
abbrev cX10_deep : ByteArray := prog_12_method_12_code
def yX10_deep : MethodName := ⟨RX10, "deep", "(I)I"⟩
abbrev cX10_isTipAt : ByteArray := prog_12_method_13_code
def yX10_isTipAt : MethodName := ⟨RX10, "isTipAt", "(I)Z"⟩
abbrev cX10_isIn : ByteArray := prog_12_method_14_code
def yX10_isIn : MethodName := ⟨RX10, "isIn", "(II)Z"⟩
abbrev cX10_lastTipAt : ByteArray := prog_12_method_15_code
def yX10_lastTipAt : MethodName := ⟨RX10, "lastTipAt", "(I)I"⟩
abbrev cX10_far : ByteArray := prog_12_method_16_code
def yX10_far : MethodName := ⟨RX10, "far", "(II)I"⟩
abbrev cX10_vetoes : ByteArray := prog_12_method_17_code
def yX10_vetoes : MethodName := ⟨RX10, "vetoes", "(II)Z"⟩
abbrev cX10_favour : ByteArray := prog_12_method_18_code
def yX10_favour : MethodName := ⟨RX10, "favour", "(I)I"⟩
abbrev cX10_leavesAll : ByteArray := prog_12_method_19_code
def yX10_leavesAll : MethodName := ⟨RX10, "leavesAll", "()I"⟩
abbrev cX10_drops : ByteArray := prog_12_method_20_code
def yX10_drops : MethodName := ⟨RX10, "drops", "(I)V"⟩
abbrev cX10_adds : ByteArray := prog_12_method_21_code
def yX10_adds : MethodName := ⟨RX10, "adds", "(III)I"⟩
abbrev cX10_hedgeIt : ByteArray := prog_12_method_22_code
def yX10_hedgeIt : MethodName := ⟨RX10, "hedgeIt", "(III)I"⟩
abbrev cX10_addHedge : ByteArray := prog_12_method_23_code
def yX10_addHedge : MethodName := ⟨RX10, "addHedge", "(III)I"⟩
abbrev cX10_mainIt : ByteArray := prog_12_method_24_code
def yX10_mainIt : MethodName := ⟨RX10, "mainIt", "(II)I"⟩
abbrev cX10_propose : ByteArray := prog_12_method_25_code
def yX10_propose : MethodName := ⟨RX10, "propose", "(II)I"⟩
abbrev cX10_amendIt : ByteArray := prog_12_method_26_code
def yX10_amendIt : MethodName := ⟨RX10, "amendIt", "(III)I"⟩
abbrev cX10_amend : ByteArray := prog_12_method_27_code
def yX10_amend : MethodName := ⟨RX10, "amend", "(III)I"⟩
abbrev cX10_pruneIt : ByteArray := prog_12_method_28_code
def yX10_pruneIt : MethodName := ⟨RX10, "pruneIt", "(II)I"⟩
abbrev cX10_prune : ByteArray := prog_12_method_29_code
def yX10_prune : MethodName := ⟨RX10, "prune", "(II)I"⟩
abbrev cX10_regrowIt : ByteArray := prog_12_method_30_code
def yX10_regrowIt : MethodName := ⟨RX10, "regrowIt", "(I)I"⟩
abbrev cX10_regrow : ByteArray := prog_12_method_31_code
def yX10_regrow : MethodName := ⟨RX10, "regrow", "(I)I"⟩
abbrev cX10_carries : ByteArray := prog_12_method_32_code
def yX10_carries : MethodName := ⟨RX10, "carries", "(I)V"⟩
abbrev cX10_voteIt : ByteArray := prog_12_method_33_code
def yX10_voteIt : MethodName := ⟨RX10, "voteIt", "(I)I"⟩
abbrev cX10_vote : ByteArray := prog_12_method_34_code
def yX10_vote : MethodName := ⟨RX10, "vote", "(I)C"⟩
abbrev cX10_seasonIt : ByteArray := prog_12_method_35_code
def yX10_seasonIt : MethodName := ⟨RX10, "seasonIt", "()I"⟩
abbrev cX10_passSeason : ByteArray := prog_12_method_36_code
def yX10_passSeason : MethodName := ⟨RX10, "passSeason", "()I"⟩
abbrev cX10_hedgeCount : ByteArray := prog_12_method_37_code
def yX10_hedgeCount : MethodName := ⟨RX10, "hedgeCount", "()I"⟩
abbrev cX10_leaves : ByteArray := prog_12_method_38_code
def yX10_leaves : MethodName := ⟨RX10, "leaves", "(I)I"⟩
abbrev cX10_thorns : ByteArray := prog_12_method_39_code
def yX10_thorns : MethodName := ⟨RX10, "thorns", "(I)I"⟩
abbrev cX10_isHedgeAhead : ByteArray := prog_12_method_40_code
def yX10_isHedgeAhead : MethodName := ⟨RX10, "isHedgeAhead", "(II)Z"⟩
abbrev cX10_hedgeAtRank : ByteArray := prog_12_method_41_code
def yX10_hedgeAtRank : MethodName := ⟨RX10, "hedgeAtRank", "(I)I"⟩
abbrev cX10_leavesInFavour : ByteArray := prog_12_method_42_code
def yX10_leavesInFavour : MethodName := ⟨RX10, "leavesInFavour", "(I)I"⟩
abbrev cX10_wouldVeto : ByteArray := prog_12_method_43_code
def yX10_wouldVeto : MethodName := ⟨RX10, "wouldVeto", "(II)Z"⟩
abbrev cX10_motionCount : ByteArray := prog_12_method_44_code
def yX10_motionCount : MethodName := ⟨RX10, "motionCount", "()I"⟩
abbrev cX10_motionAt : ByteArray := prog_12_method_45_code
def yX10_motionAt : MethodName := ⟨RX10, "motionAt", "(I)I"⟩
abbrev cX10_ofMotion : ByteArray := prog_12_method_46_code
def yX10_ofMotion : MethodName := ⟨RX10, "ofMotion", "(II)I"⟩
abbrev cX10_tone : ByteArray := prog_12_method_47_code
def yX10_tone : MethodName := ⟨RX10, "tone", "(I)I"⟩
abbrev cX10_weight : ByteArray := prog_12_method_48_code
def yX10_weight : MethodName := ⟨RX10, "weight", "(I)I"⟩
abbrev cX10_parent : ByteArray := prog_12_method_49_code
def yX10_parent : MethodName := ⟨RX10, "parent", "(I)I"⟩
abbrev cX10_depth : ByteArray := prog_12_method_50_code
def yX10_depth : MethodName := ⟨RX10, "depth", "(I)I"⟩
abbrev cX10_isTip : ByteArray := prog_12_method_51_code
def yX10_isTip : MethodName := ⟨RX10, "isTip", "(I)Z"⟩
abbrev cX10_branchSize : ByteArray := prog_12_method_52_code
def yX10_branchSize : MethodName := ⟨RX10, "branchSize", "(I)I"⟩
abbrev cX10_lastTip : ByteArray := prog_12_method_53_code
def yX10_lastTip : MethodName := ⟨RX10, "lastTip", "(I)I"⟩
abbrev cX10_isMotionAhead : ByteArray := prog_12_method_54_code
def yX10_isMotionAhead : MethodName := ⟨RX10, "isMotionAhead", "(II)Z"⟩
abbrev cX10_motionAtRank : ByteArray := prog_12_method_55_code
def yX10_motionAtRank : MethodName := ⟨RX10, "motionAtRank", "(I)I"⟩
abbrev cX10_common : ByteArray := prog_12_method_56_code
def yX10_common : MethodName := ⟨RX10, "common", "(II)I"⟩
abbrev cX10_commonMotion : ByteArray := prog_12_method_57_code
def yX10_commonMotion : MethodName := ⟨RX10, "commonMotion", "(II)I"⟩
abbrev cX10_commonMotionByRows : ByteArray := prog_12_method_58_code
def yX10_commonMotionByRows : MethodName := ⟨RX10, "commonMotionByRows", "(II)I"⟩
abbrev cX10_steps : ByteArray := prog_12_method_59_code
def yX10_steps : MethodName := ⟨RX10, "steps", "(II)I"⟩
abbrev cX10_pathSize : ByteArray := prog_12_method_60_code
def yX10_pathSize : MethodName := ⟨RX10, "pathSize", "(II)I"⟩
abbrev cX10_longestPath : ByteArray := prog_12_method_61_code
def yX10_longestPath : MethodName := ⟨RX10, "longestPath", "(I)I"⟩
abbrev cX10_longestPathBySweeps : ByteArray := prog_12_method_62_code
def yX10_longestPathBySweeps : MethodName := ⟨RX10, "longestPathBySweeps", "(I)I"⟩
abbrev cX10_measures : ByteArray := prog_12_method_63_code
def yX10_measures : MethodName := ⟨RX10, "measures", "()V"⟩
abbrev cX10_bestWorth : ByteArray := prog_12_method_64_code
def yX10_bestWorth : MethodName := ⟨RX10, "bestWorth", "()I"⟩
abbrev cX10_bestWorthBySets : ByteArray := prog_12_method_65_code
def yX10_bestWorthBySets : MethodName := ⟨RX10, "bestWorthBySets", "()I"⟩
abbrev cX10_goodSets : ByteArray := prog_12_method_66_code
def yX10_goodSets : MethodName := ⟨RX10, "goodSets", "()I"⟩
abbrev cX10_season : ByteArray := prog_12_method_67_code
def yX10_season : MethodName := ⟨RX10, "season", "()I"⟩
abbrev cX10_minutesIn : ByteArray := prog_12_method_68_code
def yX10_minutesIn : MethodName := ⟨RX10, "minutesIn", "(I)I"⟩
abbrev cX10_adoptedWeight : ByteArray := prog_12_method_69_code
def yX10_adoptedWeight : MethodName := ⟨RX10, "adoptedWeight", "()I"⟩
abbrev cX10_weightTotal : ByteArray := prog_12_method_70_code
def yX10_weightTotal : MethodName := ⟨RX10, "weightTotal", "()I"⟩
abbrev cX10_weightByAccounts : ByteArray := prog_12_method_71_code
def yX10_weightByAccounts : MethodName := ⟨RX10, "weightByAccounts", "()I"⟩
abbrev cX10_meanLeaves : ByteArray := prog_12_method_72_code
def yX10_meanLeaves : MethodName := ⟨RX10, "meanLeaves", "()D"⟩
abbrev cX10_carriedShare : ByteArray := prog_12_method_73_code
def yX10_carriedShare : MethodName := ⟨RX10, "carriedShare", "()F"⟩
abbrev cX10_isConsistent : ByteArray := prog_12_method_74_code
def yX10_isConsistent : MethodName := ⟨RX10, "isConsistent", "()Z"⟩
abbrev cX10_append : ByteArray := prog_12_method_75_code
def yX10_append : MethodName := ⟨RX10, "append", "(C)I"⟩
abbrev cX10_here : ByteArray := prog_12_method_76_code
def yX10_here : MethodName := ⟨RX10, "here", "()I"⟩
abbrev cX10_expects : ByteArray := prog_12_method_77_code
def yX10_expects : MethodName := ⟨RX10, "expects", "(I)V"⟩
abbrev cX10_digit : ByteArray := prog_12_method_78_code
def yX10_digit : MethodName := ⟨RX10, "digit", "()I"⟩
abbrev cX10_number : ByteArray := prog_12_method_79_code
def yX10_number : MethodName := ⟨RX10, "number", "()I"⟩
abbrev cX10_digitBehind : ByteArray := prog_12_method_80_code
def yX10_digitBehind : MethodName := ⟨RX10, "digitBehind", "()I"⟩
abbrev cX10_numberBehind : ByteArray := prog_12_method_81_code
def yX10_numberBehind : MethodName := ⟨RX10, "numberBehind", "()I"⟩
abbrev cX10_likeness : ByteArray := prog_12_method_82_code
def yX10_likeness : MethodName := ⟨RX10, "likeness", "(I)I"⟩
abbrev cX10_readArguments : ByteArray := prog_12_method_83_code
def yX10_readArguments : MethodName := ⟨RX10, "readArguments", "(II)V"⟩
abbrev cX10_readCommand : ByteArray := prog_12_method_84_code
def yX10_readCommand : MethodName := ⟨RX10, "readCommand", "()V"⟩
abbrev cX10_does : ByteArray := prog_12_method_85_code
def yX10_does : MethodName := ⟨RX10, "does", "(I)V"⟩
abbrev cX10_run : ByteArray := prog_12_method_86_code
def yX10_run : MethodName := ⟨RX10, "run", "()I"⟩
abbrev cX10_errorPosition : ByteArray := prog_12_method_87_code
def yX10_errorPosition : MethodName := ⟨RX10, "errorPosition", "()I"⟩
abbrev cX10_failedCommand : ByteArray := prog_12_method_88_code
def yX10_failedCommand : MethodName := ⟨RX10, "failedCommand", "()I"⟩
abbrev cX10_sign : ByteArray := prog_12_method_89_code
def yX10_sign : MethodName := ⟨RX10, "sign", "(I)V"⟩
abbrev cX10_writesWhole : ByteArray := prog_12_method_90_code
def yX10_writesWhole : MethodName := ⟨RX10, "writesWhole", "(I)V"⟩
abbrev cX10_childFrom : ByteArray := prog_12_method_91_code
def yX10_childFrom : MethodName := ⟨RX10, "childFrom", "(II)I"⟩
abbrev cX10_writeBranch : ByteArray := prog_12_method_92_code
def yX10_writeBranch : MethodName := ⟨RX10, "writeBranch", "(I)I"⟩
abbrev cX10_next : ByteArray := prog_12_method_93_code
def yX10_next : MethodName := ⟨RX10, "next", "(II)I"⟩
abbrev cX10_outputAt : ByteArray := prog_12_method_94_code
def yX10_outputAt : MethodName := ⟨RX10, "outputAt", "(I)C"⟩
abbrev cX10_undo : ByteArray := prog_12_method_95_code
def yX10_undo : MethodName := ⟨RX10, "undo", "()I"⟩
abbrev cX10_save : ByteArray := prog_12_method_96_code
def yX10_save : MethodName := ⟨RX10, "save", "()V"⟩
abbrev cX10_restore : ByteArray := prog_12_method_97_code
def yX10_restore : MethodName := ⟨RX10, "restore", "()V"⟩
def RJx145de : String := "java/io/Serializable"
def TJx145de : u_T := fun k => match k with
  | _ => ("", "", "", false)
def tyJx145de : Nat → FieldType := fun k => match k with
  | _ => .int
abbrev wsJx145de0 : List Cond := u_ws RJx145de TJx145de 0
theorem nmJx145de : ∀ a, a < 0 → ∀ b, b < 0 → a ≠ b → (TJx145de a).2.1 ≠ (TJx145de b).2.1 := by decide +kernel
theorem tyJx145de_ok : ∀ k, k < 0 → parseFieldDescriptor (TJx145de k).2.2.1 = some (tyJx145de k) := by decide +kernel
def RJ5 : String := "java/lang/AbstractStringBuilder"
def TJ5 : u_T := fun k => match k with
  | _ => ("", "", "", false)
def tyJ5 : Nat → FieldType := fun k => match k with
  | _ => .int
abbrev wsJ50 : List Cond := u_ws RJ5 TJ5 0
theorem nmJ5 : ∀ a, a < 0 → ∀ b, b < 0 → a ≠ b → (TJ5 a).2.1 ≠ (TJ5 b).2.1 := by decide +kernel
theorem tyJ5_ok : ∀ k, k < 0 → parseFieldDescriptor (TJ5 k).2.2.1 = some (tyJ5 k) := by decide +kernel
abbrev cJ5_init_d00df : ByteArray := prog_14_method_2_code
def yJ5_init_d00df : MethodName := ⟨RJ5, "<init>", "(I)V"⟩
abbrev cJ5_length_8abf5 : ByteArray := prog_14_method_6_code
def yJ5_length_8abf5 : MethodName := ⟨RJ5, "length", "()I"⟩
abbrev cJ5_ensureCapacityInternal_d00df : ByteArray := prog_14_method_9_code
def yJ5_ensureCapacityInternal_d00df : MethodName := ⟨RJ5, "ensureCapacityInternal", "(I)V"⟩
abbrev cJ5_newCapacity_0f7a4 : ByteArray := prog_14_method_10_code
def yJ5_newCapacity_0f7a4 : MethodName := ⟨RJ5, "newCapacity", "(I)I"⟩
abbrev cJ5_inflate_da8c8 : ByteArray := prog_14_method_11_code
def yJ5_inflate_da8c8 : MethodName := ⟨RJ5, "inflate", "()V"⟩
abbrev cJ5_setLength_d00df : ByteArray := prog_14_method_13_code
def yJ5_setLength_d00df : MethodName := ⟨RJ5, "setLength", "(I)V"⟩
abbrev cJ5_charAt_5068e : ByteArray := prog_14_method_14_code
def yJ5_charAt_5068e : MethodName := ⟨RJ5, "charAt", "(I)C"⟩
abbrev cJ5_append_cf1ce : ByteArray := prog_14_method_22_code
def yJ5_append_cf1ce : MethodName := ⟨RJ5, "append", "(Ljava/lang/String;)Ljava/lang/AbstractStringBuilder;"⟩
abbrev cJ5_appendNull_278bc : ByteArray := prog_14_method_26_code
def yJ5_appendNull_278bc : MethodName := ⟨RJ5, "appendNull", "()Ljava/lang/AbstractStringBuilder;"⟩
abbrev cJ5_append_3fe6f : ByteArray := prog_14_method_31_code
def yJ5_append_3fe6f : MethodName := ⟨RJ5, "append", "(C)Ljava/lang/AbstractStringBuilder;"⟩
abbrev cJ5_append_c97b9 : ByteArray := prog_14_method_32_code
def yJ5_append_c97b9 : MethodName := ⟨RJ5, "append", "(I)Ljava/lang/AbstractStringBuilder;"⟩
abbrev cJ5_getValue_6d5f1 : ByteArray := prog_14_method_64_code
def yJ5_getValue_6d5f1 : MethodName := ⟨RJ5, "getValue", "()[B"⟩
abbrev cJ5_isLatin1_aae02 : ByteArray := prog_14_method_68_code
def yJ5_isLatin1_aae02 : MethodName := ⟨RJ5, "isLatin1", "()Z"⟩
abbrev cJ5_inflateIfNeededFor_a7421 : ByteArray := prog_14_method_71_code
def yJ5_inflateIfNeededFor_a7421 : MethodName := ⟨RJ5, "inflateIfNeededFor", "(Ljava/lang/String;)V"⟩
abbrev cJ5_putStringAt_47b60 : ByteArray := prog_14_method_73_code
def yJ5_putStringAt_47b60 : MethodName := ⟨RJ5, "putStringAt", "(ILjava/lang/String;)V"⟩
def RJx2cfe8 : String := "java/lang/Appendable"
def TJx2cfe8 : u_T := fun k => match k with
  | _ => ("", "", "", false)
def tyJx2cfe8 : Nat → FieldType := fun k => match k with
  | _ => .int
abbrev wsJx2cfe80 : List Cond := u_ws RJx2cfe8 TJx2cfe8 0
theorem nmJx2cfe8 : ∀ a, a < 0 → ∀ b, b < 0 → a ≠ b → (TJx2cfe8 a).2.1 ≠ (TJx2cfe8 b).2.1 := by decide +kernel
theorem tyJx2cfe8_ok : ∀ k, k < 0 → parseFieldDescriptor (TJx2cfe8 k).2.2.1 = some (tyJx2cfe8 k) := by decide +kernel
def RJx00060 : String := "java/lang/ArrayIndexOutOfBoundsException"
def TJx00060 : u_T := fun k => match k with
  | 0 => ("java/lang/Throwable", "backtrace", "Ljava/lang/Object;", false)
  | 1 => ("java/lang/Throwable", "detailMessage", "Ljava/lang/String;", false)
  | 2 => ("java/lang/Throwable", "cause", "Ljava/lang/Throwable;", false)
  | 3 => ("java/lang/Throwable", "stackTrace", "[Ljava/lang/StackTraceElement;", false)
  | 4 => ("java/lang/Throwable", "depth", "I", false)
  | _ => ("java/lang/Throwable", "suppressedExceptions", "Ljava/util/List;", false)
def tyJx00060 : Nat → FieldType := fun k => match k with
  | 0 => .object "java/lang/Object"
  | 1 => .object "java/lang/String"
  | 2 => .object "java/lang/Throwable"
  | 3 => .array (.object "java/lang/StackTraceElement")
  | 4 => .int
  | _ => .object "java/util/List"
abbrev wsJx000600 : List Cond := u_ws RJx00060 TJx00060 6
theorem nmJx00060 : ∀ a, a < 6 → ∀ b, b < 6 → a ≠ b → (TJx00060 a).2.1 ≠ (TJx00060 b).2.1 := by decide +kernel
theorem tyJx00060_ok : ∀ k, k < 6 → parseFieldDescriptor (TJx00060 k).2.2.1 = some (tyJx00060 k) := by decide +kernel
abbrev cJx00060_init_a7421 : ByteArray := prog_17_method_2_code
def yJx00060_init_a7421 : MethodName := ⟨RJx00060, "<init>", "(Ljava/lang/String;)V"⟩
abbrev cJx00060_init_d00df : ByteArray := prog_17_method_3_code
def yJx00060_init_d00df : MethodName := ⟨RJx00060, "<init>", "(I)V"⟩
def RJx9f9b0 : String := "java/lang/CharSequence"
def TJx9f9b0 : u_T := fun k => match k with
  | _ => ("", "", "", false)
def tyJx9f9b0 : Nat → FieldType := fun k => match k with
  | _ => .int
abbrev wsJx9f9b00 : List Cond := u_ws RJx9f9b0 TJx9f9b0 0
theorem nmJx9f9b0 : ∀ a, a < 0 → ∀ b, b < 0 → a ≠ b → (TJx9f9b0 a).2.1 ≠ (TJx9f9b0 b).2.1 := by decide +kernel
theorem tyJx9f9b0_ok : ∀ k, k < 0 → parseFieldDescriptor (TJx9f9b0 k).2.2.1 = some (tyJx9f9b0 k) := by decide +kernel
def RJx8e188 : String := "java/lang/Cloneable"
def TJx8e188 : u_T := fun k => match k with
  | _ => ("", "", "", false)
def tyJx8e188 : Nat → FieldType := fun k => match k with
  | _ => .int
abbrev wsJx8e1880 : List Cond := u_ws RJx8e188 TJx8e188 0
theorem nmJx8e188 : ∀ a, a < 0 → ∀ b, b < 0 → a ≠ b → (TJx8e188 a).2.1 ≠ (TJx8e188 b).2.1 := by decide +kernel
theorem tyJx8e188_ok : ∀ k, k < 0 → parseFieldDescriptor (TJx8e188 k).2.2.1 = some (tyJx8e188 k) := by decide +kernel
def RJxb160c : String := "java/lang/Comparable"
def TJxb160c : u_T := fun k => match k with
  | _ => ("", "", "", false)
def tyJxb160c : Nat → FieldType := fun k => match k with
  | _ => .int
abbrev wsJxb160c0 : List Cond := u_ws RJxb160c TJxb160c 0
theorem nmJxb160c : ∀ a, a < 0 → ∀ b, b < 0 → a ≠ b → (TJxb160c a).2.1 ≠ (TJxb160c b).2.1 := by decide +kernel
theorem tyJxb160c_ok : ∀ k, k < 0 → parseFieldDescriptor (TJxb160c k).2.2.1 = some (tyJxb160c k) := by decide +kernel
def RJx29ce0 : String := "java/lang/Enum"
def TJx29ce0 : u_T := fun k => match k with
  | _ => ("", "", "", false)
def tyJx29ce0 : Nat → FieldType := fun k => match k with
  | _ => .int
abbrev wsJx29ce00 : List Cond := u_ws RJx29ce0 TJx29ce0 0
theorem nmJx29ce0 : ∀ a, a < 0 → ∀ b, b < 0 → a ≠ b → (TJx29ce0 a).2.1 ≠ (TJx29ce0 b).2.1 := by decide +kernel
theorem tyJx29ce0_ok : ∀ k, k < 0 → parseFieldDescriptor (TJx29ce0 k).2.2.1 = some (tyJx29ce0 k) := by decide +kernel
abbrev cJx29ce0_ordinal_8abf5 : ByteArray := prog_21_method_2_code
def yJx29ce0_ordinal_8abf5 : MethodName := ⟨RJx29ce0, "ordinal", "()I"⟩
def RJ6 : String := "java/lang/Integer"
def TJ6 : u_T := fun k => match k with
  | _ => ("", "", "", false)
def tyJ6 : Nat → FieldType := fun k => match k with
  | _ => .int
abbrev wsJ60 : List Cond := u_ws RJ6 TJ6 0
theorem nmJ6 : ∀ a, a < 0 → ∀ b, b < 0 → a ≠ b → (TJ6 a).2.1 ≠ (TJ6 b).2.1 := by decide +kernel
theorem tyJ6_ok : ∀ k, k < 0 → parseFieldDescriptor (TJ6 k).2.2.1 = some (tyJ6 k) := by decide +kernel
abbrev cJ6_getChars_ba4f3 : ByteArray := prog_26_method_12_code
def yJ6_getChars_ba4f3 : MethodName := ⟨RJ6, "getChars", "(II[B)I"⟩
abbrev cJ6_stringSize_0f7a4 : ByteArray := prog_26_method_13_code
def yJ6_stringSize_0f7a4 : MethodName := ⟨RJ6, "stringSize", "(I)I"⟩
def RJxab1ab : String := "java/lang/Iterable"
def TJxab1ab : u_T := fun k => match k with
  | _ => ("", "", "", false)
def tyJxab1ab : Nat → FieldType := fun k => match k with
  | _ => .int
abbrev wsJxab1ab0 : List Cond := u_ws RJxab1ab TJxab1ab 0
theorem nmJxab1ab : ∀ a, a < 0 → ∀ b, b < 0 → a ≠ b → (TJxab1ab a).2.1 ≠ (TJxab1ab b).2.1 := by decide +kernel
theorem tyJxab1ab_ok : ∀ k, k < 0 → parseFieldDescriptor (TJxab1ab k).2.2.1 = some (tyJxab1ab k) := by decide +kernel
def RJ9 : String := "java/lang/Math"
def TJ9 : u_T := fun k => match k with
  | _ => ("", "", "", false)
def tyJ9 : Nat → FieldType := fun k => match k with
  | _ => .int
abbrev wsJ90 : List Cond := u_ws RJ9 TJ9 0
theorem nmJ9 : ∀ a, a < 0 → ∀ b, b < 0 → a ≠ b → (TJ9 a).2.1 ≠ (TJ9 b).2.1 := by decide +kernel
theorem tyJ9_ok : ∀ k, k < 0 → parseFieldDescriptor (TJ9 k).2.2.1 = some (tyJ9 k) := by decide +kernel
abbrev cJ9_abs_0f7a4 : ByteArray := prog_28_method_59_code
def yJ9_abs_0f7a4 : MethodName := ⟨RJ9, "abs", "(I)I"⟩
abbrev cJ9_max_7cf53 : ByteArray := prog_28_method_65_code
def yJ9_max_7cf53 : MethodName := ⟨RJ9, "max", "(II)I"⟩
abbrev cJ9_max_f86c9 : ByteArray := prog_28_method_66_code
def yJ9_max_f86c9 : MethodName := ⟨RJ9, "max", "(JJ)J"⟩
abbrev cJ9_min_7cf53 : ByteArray := prog_28_method_69_code
def yJ9_min_7cf53 : MethodName := ⟨RJ9, "min", "(II)I"⟩
def RJxd2413 : String := "java/lang/Number"
def TJxd2413 : u_T := fun k => match k with
  | _ => ("", "", "", false)
def tyJxd2413 : Nat → FieldType := fun k => match k with
  | _ => .int
abbrev wsJxd24130 : List Cond := u_ws RJxd2413 TJxd2413 0
theorem nmJxd2413 : ∀ a, a < 0 → ∀ b, b < 0 → a ≠ b → (TJxd2413 a).2.1 ≠ (TJxd2413 b).2.1 := by decide +kernel
theorem tyJxd2413_ok : ∀ k, k < 0 → parseFieldDescriptor (TJxd2413 k).2.2.1 = some (tyJxd2413 k) := by decide +kernel
def RJ0 : String := "java/lang/String"
def TJ0 : u_T := fun k => match k with
  | 0 => ("java/lang/String", "value", "[B", true)
  | 1 => ("java/lang/String", "coder", "B", true)
  | 2 => ("java/lang/String", "hash", "I", false)
  | _ => ("java/lang/String", "hashIsZero", "Z", false)
def tyJ0 : Nat → FieldType := fun k => match k with
  | 0 => .array .byte
  | 1 => .byte
  | 2 => .int
  | _ => .boolean
abbrev wsJ00 : List Cond := u_ws RJ0 TJ0 4
theorem nmJ0 : ∀ a, a < 4 → ∀ b, b < 4 → a ≠ b → (TJ0 a).2.1 ≠ (TJ0 b).2.1 := by decide +kernel
theorem tyJ0_ok : ∀ k, k < 4 → parseFieldDescriptor (TJ0 k).2.2.1 = some (tyJ0 k) := by decide +kernel
abbrev cJ0_init_81219 : ByteArray := prog_31_method_53_code
def yJ0_init_81219 : MethodName := ⟨RJ0, "<init>", "(Ljava/lang/StringBuilder;)V"⟩
abbrev cJ0_length_8abf5 : ByteArray := prog_31_method_54_code
def yJ0_length_8abf5 : MethodName := ⟨RJ0, "length", "()I"⟩
abbrev cJ0_charAt_5068e : ByteArray := prog_31_method_56_code
def yJ0_charAt_5068e : MethodName := ⟨RJ0, "charAt", "(I)C"⟩
abbrev cJ0_getBytes_840e7 : ByteArray := prog_31_method_147_code
def yJ0_getBytes_840e7 : MethodName := ⟨RJ0, "getBytes", "([BIB)V"⟩
abbrev cJ0_init_db425 : ByteArray := prog_31_method_150_code
def yJ0_init_db425 : MethodName := ⟨RJ0, "<init>", "(Ljava/lang/AbstractStringBuilder;Ljava/lang/Void;)V"⟩
abbrev cJ0_coder_7d493 : ByteArray := prog_31_method_152_code
def yJ0_coder_7d493 : MethodName := ⟨RJ0, "coder", "()B"⟩
abbrev cJ0_isLatin1_aae02 : ByteArray := prog_31_method_154_code
def yJ0_isLatin1_aae02 : MethodName := ⟨RJ0, "isLatin1", "()Z"⟩
abbrev cJ0_checkIndex_df160 : ByteArray := prog_31_method_155_code
def yJ0_checkIndex_df160 : MethodName := ⟨RJ0, "checkIndex", "(II)V"⟩
abbrev cJ0_checkBoundsOffCount_cabcc : ByteArray := prog_31_method_157_code
def yJ0_checkBoundsOffCount_cabcc : MethodName := ⟨RJ0, "checkBoundsOffCount", "(III)I"⟩
abbrev cJ0_checkBoundsBeginEnd_23922 : ByteArray := prog_31_method_158_code
def yJ0_checkBoundsBeginEnd_23922 : MethodName := ⟨RJ0, "checkBoundsBeginEnd", "(III)V"⟩
def RJ4 : String := "java/lang/StringBuilder"
def TJ4 : u_T := fun k => match k with
  | 0 => ("java/lang/AbstractStringBuilder", "value", "[B", false)
  | 1 => ("java/lang/AbstractStringBuilder", "coder", "B", false)
  | 2 => ("java/lang/AbstractStringBuilder", "maybeLatin1", "Z", false)
  | _ => ("java/lang/AbstractStringBuilder", "count", "I", false)
def tyJ4 : Nat → FieldType := fun k => match k with
  | 0 => .array .byte
  | 1 => .byte
  | 2 => .boolean
  | _ => .int
abbrev wsJ40 : List Cond := u_ws RJ4 TJ4 4
theorem nmJ4 : ∀ a, a < 4 → ∀ b, b < 4 → a ≠ b → (TJ4 a).2.1 ≠ (TJ4 b).2.1 := by decide +kernel
theorem tyJ4_ok : ∀ k, k < 4 → parseFieldDescriptor (TJ4 k).2.2.1 = some (tyJ4 k) := by decide +kernel
abbrev cJ4_init_da8c8 : ByteArray := prog_32_method_1_code
def yJ4_init_da8c8 : MethodName := ⟨RJ4, "<init>", "()V"⟩
abbrev cJ4_append_15ec4 : ByteArray := prog_32_method_7_code
def yJ4_append_15ec4 : MethodName := ⟨RJ4, "append", "(Ljava/lang/String;)Ljava/lang/StringBuilder;"⟩
abbrev cJ4_append_cf468 : ByteArray := prog_32_method_14_code
def yJ4_append_cf468 : MethodName := ⟨RJ4, "append", "(C)Ljava/lang/StringBuilder;"⟩
abbrev cJ4_append_bf812 : ByteArray := prog_32_method_15_code
def yJ4_append_bf812 : MethodName := ⟨RJ4, "append", "(I)Ljava/lang/StringBuilder;"⟩
abbrev cJ4_toString_0e30d : ByteArray := prog_32_method_42_code
def yJ4_toString_0e30d : MethodName := ⟨RJ4, "toString", "()Ljava/lang/String;"⟩
abbrev cJ4_charAt_5068e : ByteArray := prog_32_method_88_code
def yJ4_charAt_5068e : MethodName := ⟨RJ4, "charAt", "(I)C"⟩
abbrev cJ4_setLength_d00df : ByteArray := prog_32_method_89_code
def yJ4_setLength_d00df : MethodName := ⟨RJ4, "setLength", "(I)V"⟩
abbrev cJ4_length_8abf5 : ByteArray := prog_32_method_93_code
def yJ4_length_8abf5 : MethodName := ⟨RJ4, "length", "()I"⟩
def RJx7c733 : String := "java/lang/StringIndexOutOfBoundsException"
def TJx7c733 : u_T := fun k => match k with
  | 0 => ("java/lang/Throwable", "backtrace", "Ljava/lang/Object;", false)
  | 1 => ("java/lang/Throwable", "detailMessage", "Ljava/lang/String;", false)
  | 2 => ("java/lang/Throwable", "cause", "Ljava/lang/Throwable;", false)
  | 3 => ("java/lang/Throwable", "stackTrace", "[Ljava/lang/StackTraceElement;", false)
  | 4 => ("java/lang/Throwable", "depth", "I", false)
  | _ => ("java/lang/Throwable", "suppressedExceptions", "Ljava/util/List;", false)
def tyJx7c733 : Nat → FieldType := fun k => match k with
  | 0 => .object "java/lang/Object"
  | 1 => .object "java/lang/String"
  | 2 => .object "java/lang/Throwable"
  | 3 => .array (.object "java/lang/StackTraceElement")
  | 4 => .int
  | _ => .object "java/util/List"
abbrev wsJx7c7330 : List Cond := u_ws RJx7c733 TJx7c733 6
theorem nmJx7c733 : ∀ a, a < 6 → ∀ b, b < 6 → a ≠ b → (TJx7c733 a).2.1 ≠ (TJx7c733 b).2.1 := by decide +kernel
theorem tyJx7c733_ok : ∀ k, k < 6 → parseFieldDescriptor (TJx7c733 k).2.2.1 = some (tyJx7c733 k) := by decide +kernel
abbrev cJx7c733_init_d00df : ByteArray := prog_33_method_3_code
def yJx7c733_init_d00df : MethodName := ⟨RJx7c733, "<init>", "(I)V"⟩
def RJ1 : String := "java/lang/StringLatin1"
def TJ1 : u_T := fun k => match k with
  | _ => ("", "", "", false)
def tyJ1 : Nat → FieldType := fun k => match k with
  | _ => .int
abbrev wsJ10 : List Cond := u_ws RJ1 TJ1 0
theorem nmJ1 : ∀ a, a < 0 → ∀ b, b < 0 → a ≠ b → (TJ1 a).2.1 ≠ (TJ1 b).2.1 := by decide +kernel
theorem tyJ1_ok : ∀ k, k < 0 → parseFieldDescriptor (TJ1 k).2.2.1 = some (tyJ1 k) := by decide +kernel
abbrev cJ1_charAt_3b067 : ByteArray := prog_34_method_2_code
def yJ1_charAt_3b067 : MethodName := ⟨RJ1, "charAt", "([BI)C"⟩
abbrev cJ1_canEncode_fc78d : ByteArray := prog_34_method_3_code
def yJ1_canEncode_fc78d : MethodName := ⟨RJ1, "canEncode", "(C)Z"⟩
abbrev cJ1_fillNull_b72d1 : ByteArray := prog_34_method_48_code
def yJ1_fillNull_b72d1 : MethodName := ⟨RJ1, "fillNull", "([BII)V"⟩
abbrev cJ1_inflate_0e8fd : ByteArray := prog_34_method_50_code
def yJ1_inflate_0e8fd : MethodName := ⟨RJ1, "inflate", "([BI[BII)V"⟩
def RJ2 : String := "java/lang/StringUTF16"
def TJ2 : u_T := fun k => match k with
  | _ => ("", "", "", false)
def tyJ2 : Nat → FieldType := fun k => match k with
  | _ => .int
abbrev wsJ20 : List Cond := u_ws RJ2 TJ2 0
theorem nmJ2 : ∀ a, a < 0 → ∀ b, b < 0 → a ≠ b → (TJ2 a).2.1 ≠ (TJ2 b).2.1 := by decide +kernel
theorem tyJ2_ok : ∀ k, k < 0 → parseFieldDescriptor (TJ2 k).2.2.1 = some (tyJ2 k) := by decide +kernel
abbrev cJ2_newBytesFor_77867 : ByteArray := prog_35_method_2_code
def yJ2_newBytesFor_77867 : MethodName := ⟨RJ2, "newBytesFor", "(I)[B"⟩
abbrev cJ2_newBytesLength_0f7a4 : ByteArray := prog_35_method_3_code
def yJ2_newBytesLength_0f7a4 : MethodName := ⟨RJ2, "newBytesLength", "(I)I"⟩
abbrev cJ2_putChar_b72d1 : ByteArray := prog_35_method_4_code
def yJ2_putChar_b72d1 : MethodName := ⟨RJ2, "putChar", "([BII)V"⟩
abbrev cJ2_getChar_3b067 : ByteArray := prog_35_method_5_code
def yJ2_getChar_3b067 : MethodName := ⟨RJ2, "getChar", "([BI)C"⟩
abbrev cJ2_length_9d52b : ByteArray := prog_35_method_6_code
def yJ2_length_9d52b : MethodName := ⟨RJ2, "length", "([B)I"⟩
abbrev cJ2_coderFromArrayLen_85cad : ByteArray := prog_35_method_15_code
def yJ2_coderFromArrayLen_85cad : MethodName := ⟨RJ2, "coderFromArrayLen", "([BI)B"⟩
abbrev cJ2_compress_39247 : ByteArray := prog_35_method_17_code
def yJ2_compress_39247 : MethodName := ⟨RJ2, "compress", "([BII)[B"⟩
abbrev cJ2_compress_5af95 : ByteArray := prog_35_method_22_code
def yJ2_compress_5af95 : MethodName := ⟨RJ2, "compress", "([BI[BII)I"⟩
abbrev cJ2_fillNull_b72d1 : ByteArray := prog_35_method_70_code
def yJ2_fillNull_b72d1 : MethodName := ⟨RJ2, "fillNull", "([BII)V"⟩
abbrev cJ2_putCharSB_b72d1 : ByteArray := prog_35_method_71_code
def yJ2_putCharSB_b72d1 : MethodName := ⟨RJ2, "putCharSB", "([BII)V"⟩
abbrev cJ2_getChars_46870 : ByteArray := prog_35_method_77_code
def yJ2_getChars_46870 : MethodName := ⟨RJ2, "getChars", "(III[B)I"⟩
abbrev cJ2_putCharsAt_cd4e5 : ByteArray := prog_35_method_81_code
def yJ2_putCharsAt_cd4e5 : MethodName := ⟨RJ2, "putCharsAt", "([BICCCC)I"⟩
abbrev cJ2_charAt_3b067 : ByteArray := prog_35_method_83_code
def yJ2_charAt_3b067 : MethodName := ⟨RJ2, "charAt", "([BI)C"⟩
abbrev cJ2_inflate_0e8fd : ByteArray := prog_35_method_86_code
def yJ2_inflate_0e8fd : MethodName := ⟨RJ2, "inflate", "([BI[BII)V"⟩
abbrev cJ2_getChars_ba4f3 : ByteArray := prog_35_method_89_code
def yJ2_getChars_ba4f3 : MethodName := ⟨RJ2, "getChars", "(II[B)I"⟩
abbrev cJ2_checkIndex_2214a : ByteArray := prog_35_method_91_code
def yJ2_checkIndex_2214a : MethodName := ⟨RJ2, "checkIndex", "(I[B)V"⟩
abbrev cJ2_checkBoundsBeginEnd_d044e : ByteArray := prog_35_method_93_code
def yJ2_checkBoundsBeginEnd_d044e : MethodName := ⟨RJ2, "checkBoundsBeginEnd", "(II[B)V"⟩
abbrev cJ2_checkBoundsOffCount_d044e : ByteArray := prog_35_method_94_code
def yJ2_checkBoundsOffCount_d044e : MethodName := ⟨RJ2, "checkBoundsOffCount", "(II[B)V"⟩
def RJ10 : String := "java/lang/System"
def TJ10 : u_T := fun k => match k with
  | _ => ("", "", "", false)
def tyJ10 : Nat → FieldType := fun k => match k with
  | _ => .int
abbrev wsJ100 : List Cond := u_ws RJ10 TJ10 0
theorem nmJ10 : ∀ a, a < 0 → ∀ b, b < 0 → a ≠ b → (TJ10 a).2.1 ≠ (TJ10 b).2.1 := by decide +kernel
theorem tyJ10_ok : ∀ k, k < 0 → parseFieldDescriptor (TJ10 k).2.2.1 = some (tyJ10 k) := by decide +kernel
def RJxfd54e : String := "java/lang/constant/Constable"
def TJxfd54e : u_T := fun k => match k with
  | _ => ("", "", "", false)
def tyJxfd54e : Nat → FieldType := fun k => match k with
  | _ => .int
abbrev wsJxfd54e0 : List Cond := u_ws RJxfd54e TJxfd54e 0
theorem nmJxfd54e : ∀ a, a < 0 → ∀ b, b < 0 → a ≠ b → (TJxfd54e a).2.1 ≠ (TJxfd54e b).2.1 := by decide +kernel
theorem tyJxfd54e_ok : ∀ k, k < 0 → parseFieldDescriptor (TJxfd54e k).2.2.1 = some (tyJxfd54e k) := by decide +kernel
def RJx3cf43 : String := "java/lang/constant/ConstantDesc"
def TJx3cf43 : u_T := fun k => match k with
  | _ => ("", "", "", false)
def tyJx3cf43 : Nat → FieldType := fun k => match k with
  | _ => .int
abbrev wsJx3cf430 : List Cond := u_ws RJx3cf43 TJx3cf43 0
theorem nmJx3cf43 : ∀ a, a < 0 → ∀ b, b < 0 → a ≠ b → (TJx3cf43 a).2.1 ≠ (TJx3cf43 b).2.1 := by decide +kernel
theorem tyJx3cf43_ok : ∀ k, k < 0 → parseFieldDescriptor (TJx3cf43 k).2.2.1 = some (tyJx3cf43 k) := by decide +kernel
def RJxa1e45 : String := "java/util/AbstractCollection"
def TJxa1e45 : u_T := fun k => match k with
  | _ => ("", "", "", false)
def tyJxa1e45 : Nat → FieldType := fun k => match k with
  | _ => .int
abbrev wsJxa1e450 : List Cond := u_ws RJxa1e45 TJxa1e45 0
theorem nmJxa1e45 : ∀ a, a < 0 → ∀ b, b < 0 → a ≠ b → (TJxa1e45 a).2.1 ≠ (TJxa1e45 b).2.1 := by decide +kernel
theorem tyJxa1e45_ok : ∀ k, k < 0 → parseFieldDescriptor (TJxa1e45 k).2.2.1 = some (tyJxa1e45 k) := by decide +kernel
abbrev cJxa1e45_init_da8c8 : ByteArray := prog_41_method_1_code
def yJxa1e45_init_da8c8 : MethodName := ⟨RJxa1e45, "<init>", "()V"⟩
def RJxc12de : String := "java/util/AbstractList"
def TJxc12de : u_T := fun k => match k with
  | _ => ("", "", "", false)
def tyJxc12de : Nat → FieldType := fun k => match k with
  | _ => .int
abbrev wsJxc12de0 : List Cond := u_ws RJxc12de TJxc12de 0
theorem nmJxc12de : ∀ a, a < 0 → ∀ b, b < 0 → a ≠ b → (TJxc12de a).2.1 ≠ (TJxc12de b).2.1 := by decide +kernel
theorem tyJxc12de_ok : ∀ k, k < 0 → parseFieldDescriptor (TJxc12de k).2.2.1 = some (tyJxc12de k) := by decide +kernel
abbrev cJxc12de_init_da8c8 : ByteArray := prog_42_method_1_code
def yJxc12de_init_da8c8 : MethodName := ⟨RJxc12de, "<init>", "()V"⟩
def RJx4a65c : String := "java/util/ArrayList"
def TJx4a65c : u_T := fun k => match k with
  | 0 => ("java/util/AbstractList", "modCount", "I", false)
  | 1 => ("java/util/ArrayList", "elementData", "[Ljava/lang/Object;", false)
  | _ => ("java/util/ArrayList", "size", "I", false)
def tyJx4a65c : Nat → FieldType := fun k => match k with
  | 0 => .int
  | 1 => .array (.object "java/lang/Object")
  | _ => .int
abbrev wsJx4a65c0 : List Cond := u_ws RJx4a65c TJx4a65c 3
theorem nmJx4a65c : ∀ a, a < 3 → ∀ b, b < 3 → a ≠ b → (TJx4a65c a).2.1 ≠ (TJx4a65c b).2.1 := by decide +kernel
theorem tyJx4a65c_ok : ∀ k, k < 3 → parseFieldDescriptor (TJx4a65c k).2.2.1 = some (tyJx4a65c k) := by decide +kernel
abbrev cJx4a65c_init_da8c8 : ByteArray := prog_43_method_2_code
def yJx4a65c_init_da8c8 : MethodName := ⟨RJx4a65c, "<init>", "()V"⟩
abbrev cJx4a65c_grow_92f84 : ByteArray := prog_43_method_6_code
def yJx4a65c_grow_92f84 : MethodName := ⟨RJx4a65c, "grow", "(I)[Ljava/lang/Object;"⟩
abbrev cJx4a65c_grow_d5877 : ByteArray := prog_43_method_7_code
def yJx4a65c_grow_d5877 : MethodName := ⟨RJx4a65c, "grow", "()[Ljava/lang/Object;"⟩
abbrev cJx4a65c_size_8abf5 : ByteArray := prog_43_method_8_code
def yJx4a65c_size_8abf5 : MethodName := ⟨RJx4a65c, "size", "()I"⟩
abbrev cJx4a65c_elementData_915e3 : ByteArray := prog_43_method_18_code
def yJx4a65c_elementData_915e3 : MethodName := ⟨RJx4a65c, "elementData", "(I)Ljava/lang/Object;"⟩
abbrev cJx4a65c_get_915e3 : ByteArray := prog_43_method_20_code
def yJx4a65c_get_915e3 : MethodName := ⟨RJx4a65c, "get", "(I)Ljava/lang/Object;"⟩
abbrev cJx4a65c_add_72be8 : ByteArray := prog_43_method_24_code
def yJx4a65c_add_72be8 : MethodName := ⟨RJx4a65c, "add", "(Ljava/lang/Object;[Ljava/lang/Object;I)V"⟩
abbrev cJx4a65c_add_9ea2d : ByteArray := prog_43_method_25_code
def yJx4a65c_add_9ea2d : MethodName := ⟨RJx4a65c, "add", "(Ljava/lang/Object;)Z"⟩
abbrev cJx4a65c_clear_da8c8 : ByteArray := prog_43_method_40_code
def yJx4a65c_clear_da8c8 : MethodName := ⟨RJx4a65c, "clear", "()V"⟩
def RJ7 : String := "java/util/Arrays"
def TJ7 : u_T := fun k => match k with
  | _ => ("", "", "", false)
def tyJ7 : Nat → FieldType := fun k => match k with
  | _ => .int
abbrev wsJ70 : List Cond := u_ws RJ7 TJ7 0
theorem nmJ7 : ∀ a, a < 0 → ∀ b, b < 0 → a ≠ b → (TJ7 a).2.1 ≠ (TJ7 b).2.1 := by decide +kernel
theorem tyJ7_ok : ∀ k, k < 0 → parseFieldDescriptor (TJ7 k).2.2.1 = some (tyJ7 k) := by decide +kernel
abbrev cJ7_rangeCheck_23922 : ByteArray := prog_44_method_30_code
def yJ7_rangeCheck_23922 : MethodName := ⟨RJ7, "rangeCheck", "(III)V"⟩
abbrev cJ7_fill_d0a16 : ByteArray := prog_44_method_101_code
def yJ7_fill_d0a16 : MethodName := ⟨RJ7, "fill", "([JJ)V"⟩
abbrev cJ7_fill_53178 : ByteArray := prog_44_method_103_code
def yJ7_fill_53178 : MethodName := ⟨RJ7, "fill", "([II)V"⟩
abbrev cJ7_fill_eb02e : ByteArray := prog_44_method_110_code
def yJ7_fill_eb02e : MethodName := ⟨RJ7, "fill", "([BIIB)V"⟩
abbrev cJ7_copyOf_1904c : ByteArray := prog_44_method_119_code
def yJ7_copyOf_1904c : MethodName := ⟨RJ7, "copyOf", "([Ljava/lang/Object;I)[Ljava/lang/Object;"⟩
abbrev cJ7_copyOf_6403c : ByteArray := prog_44_method_120_code
def yJ7_copyOf_6403c : MethodName := ⟨RJ7, "copyOf", "([Ljava/lang/Object;ILjava/lang/Class;)[Ljava/lang/Object;"⟩
abbrev cJ7_copyOf_9075b : ByteArray := prog_44_method_121_code
def yJ7_copyOf_9075b : MethodName := ⟨RJ7, "copyOf", "([BI)[B"⟩
abbrev cJ7_checkLength_df160 : ByteArray := prog_44_method_131_code
def yJ7_checkLength_df160 : MethodName := ⟨RJ7, "checkLength", "(II)V"⟩
abbrev cJ7_copyOfRange_39247 : ByteArray := prog_44_method_132_code
def yJ7_copyOfRange_39247 : MethodName := ⟨RJ7, "copyOfRange", "([BII)[B"⟩
abbrev cJ7_copyOfRangeByte_39247 : ByteArray := prog_44_method_133_code
def yJ7_copyOfRangeByte_39247 : MethodName := ⟨RJ7, "copyOfRangeByte", "([BII)[B"⟩
def RJx5ef63 : String := "java/util/Collection"
def TJx5ef63 : u_T := fun k => match k with
  | _ => ("", "", "", false)
def tyJx5ef63 : Nat → FieldType := fun k => match k with
  | _ => .int
abbrev wsJx5ef630 : List Cond := u_ws RJx5ef63 TJx5ef63 0
theorem nmJx5ef63 : ∀ a, a < 0 → ∀ b, b < 0 → a ≠ b → (TJx5ef63 a).2.1 ≠ (TJx5ef63 b).2.1 := by decide +kernel
theorem tyJx5ef63_ok : ∀ k, k < 0 → parseFieldDescriptor (TJx5ef63 k).2.2.1 = some (tyJx5ef63 k) := by decide +kernel
def RJxbd725 : String := "java/util/List"
def TJxbd725 : u_T := fun k => match k with
  | _ => ("", "", "", false)
def tyJxbd725 : Nat → FieldType := fun k => match k with
  | _ => .int
abbrev wsJxbd7250 : List Cond := u_ws RJxbd725 TJxbd725 0
theorem nmJxbd725 : ∀ a, a < 0 → ∀ b, b < 0 → a ≠ b → (TJxbd725 a).2.1 ≠ (TJxbd725 b).2.1 := by decide +kernel
theorem tyJxbd725_ok : ∀ k, k < 0 → parseFieldDescriptor (TJxbd725 k).2.2.1 = some (tyJxbd725 k) := by decide +kernel
def RJ15 : String := "java/util/Objects"
def TJ15 : u_T := fun k => match k with
  | _ => ("", "", "", false)
def tyJ15 : Nat → FieldType := fun k => match k with
  | _ => .int
abbrev wsJ150 : List Cond := u_ws RJ15 TJ15 0
theorem nmJ15 : ∀ a, a < 0 → ∀ b, b < 0 → a ≠ b → (TJ15 a).2.1 ≠ (TJ15 b).2.1 := by decide +kernel
theorem tyJ15_ok : ∀ k, k < 0 → parseFieldDescriptor (TJ15 k).2.2.1 = some (tyJ15 k) := by decide +kernel
abbrev cJ15_checkIndex_7cf53 : ByteArray := prog_48_method_17_code
def yJ15_checkIndex_7cf53 : MethodName := ⟨RJ15, "checkIndex", "(II)I"⟩
def RJxf0a74 : String := "java/util/RandomAccess"
def TJxf0a74 : u_T := fun k => match k with
  | _ => ("", "", "", false)
def tyJxf0a74 : Nat → FieldType := fun k => match k with
  | _ => .int
abbrev wsJxf0a740 : List Cond := u_ws RJxf0a74 TJxf0a74 0
theorem nmJxf0a74 : ∀ a, a < 0 → ∀ b, b < 0 → a ≠ b → (TJxf0a74 a).2.1 ≠ (TJxf0a74 b).2.1 := by decide +kernel
theorem tyJxf0a74_ok : ∀ k, k < 0 → parseFieldDescriptor (TJxf0a74 k).2.2.1 = some (tyJxf0a74 k) := by decide +kernel
def RJxa66e6 : String := "java/util/SequencedCollection"
def TJxa66e6 : u_T := fun k => match k with
  | _ => ("", "", "", false)
def tyJxa66e6 : Nat → FieldType := fun k => match k with
  | _ => .int
abbrev wsJxa66e60 : List Cond := u_ws RJxa66e6 TJxa66e6 0
theorem nmJxa66e6 : ∀ a, a < 0 → ∀ b, b < 0 → a ≠ b → (TJxa66e6 a).2.1 ≠ (TJxa66e6 b).2.1 := by decide +kernel
theorem tyJxa66e6_ok : ∀ k, k < 0 → parseFieldDescriptor (TJxa66e6 k).2.2.1 = some (tyJxa66e6 k) := by decide +kernel
def RJ8 : String := "jdk/internal/util/ArraysSupport"
def TJ8 : u_T := fun k => match k with
  | _ => ("", "", "", false)
def tyJ8 : Nat → FieldType := fun k => match k with
  | _ => .int
abbrev wsJ80 : List Cond := u_ws RJ8 TJ8 0
theorem nmJ8 : ∀ a, a < 0 → ∀ b, b < 0 → a ≠ b → (TJ8 a).2.1 ≠ (TJ8 b).2.1 := by decide +kernel
theorem tyJ8_ok : ∀ k, k < 0 → parseFieldDescriptor (TJ8 k).2.2.1 = some (tyJ8 k) := by decide +kernel
abbrev cJ8_newLength_cabcc : ByteArray := prog_51_method_27_code
def yJ8_newLength_cabcc : MethodName := ⟨RJ8, "newLength", "(III)I"⟩
abbrev cJ8_hugeLength_7cf53 : ByteArray := prog_51_method_28_code
def yJ8_hugeLength_7cf53 : MethodName := ⟨RJ8, "hugeLength", "(II)I"⟩
def RJ3 : String := "jdk/internal/util/Preconditions"
def TJ3 : u_T := fun k => match k with
  | _ => ("", "", "", false)
def tyJ3 : Nat → FieldType := fun k => match k with
  | _ => .int
abbrev wsJ30 : List Cond := u_ws RJ3 TJ3 0
theorem nmJ3 : ∀ a, a < 0 → ∀ b, b < 0 → a ≠ b → (TJ3 a).2.1 ≠ (TJ3 b).2.1 := by decide +kernel
theorem tyJ3_ok : ∀ k, k < 0 → parseFieldDescriptor (TJ3 k).2.2.1 = some (tyJ3 k) := by decide +kernel
abbrev cJ3_checkIndex_8e157 : ByteArray := prog_52_method_11_code
def yJ3_checkIndex_8e157 : MethodName := ⟨RJ3, "checkIndex", "(IILjava/util/function/BiFunction;)I"⟩
abbrev cJ3_checkFromToIndex_8c36e : ByteArray := prog_52_method_12_code
def yJ3_checkFromToIndex_8c36e : MethodName := ⟨RJ3, "checkFromToIndex", "(IIILjava/util/function/BiFunction;)I"⟩
abbrev cJ3_checkFromIndexSize_8c36e : ByteArray := prog_52_method_13_code
def yJ3_checkFromIndexSize_8c36e : MethodName := ⟨RJ3, "checkFromIndexSize", "(IIILjava/util/function/BiFunction;)I"⟩
def RL : String := "HedgeCommitteeLaw"
abbrev cL_addHedge : ByteArray := method_3_code
def yL_addHedge : MethodName := ⟨RL, "addHedge", "(LHedgeCommittee;III[J)I"⟩
abbrev cL_propose : ByteArray := method_4_code
def yL_propose : MethodName := ⟨RL, "propose", "(LHedgeCommittee;II[J)I"⟩
abbrev cL_amend : ByteArray := method_5_code
def yL_amend : MethodName := ⟨RL, "amend", "(LHedgeCommittee;III[J)I"⟩
abbrev cL_prune : ByteArray := method_6_code
def yL_prune : MethodName := ⟨RL, "prune", "(LHedgeCommittee;II[J)I"⟩
abbrev cL_regrow : ByteArray := method_7_code
def yL_regrow : MethodName := ⟨RL, "regrow", "(LHedgeCommittee;I[J)I"⟩
abbrev cL_vote : ByteArray := method_8_code
def yL_vote : MethodName := ⟨RL, "vote", "(LHedgeCommittee;I[J)I"⟩
abbrev cL_leaves : ByteArray := method_9_code
def yL_leaves : MethodName := ⟨RL, "leaves", "(LHedgeCommittee;I[J)I"⟩
abbrev cL_thorns : ByteArray := method_10_code
def yL_thorns : MethodName := ⟨RL, "thorns", "(LHedgeCommittee;I[J)I"⟩
abbrev cL_hedgeAtRank : ByteArray := method_11_code
def yL_hedgeAtRank : MethodName := ⟨RL, "hedgeAtRank", "(LHedgeCommittee;I[J)I"⟩
abbrev cL_leavesInFavour : ByteArray := method_12_code
def yL_leavesInFavour : MethodName := ⟨RL, "leavesInFavour", "(LHedgeCommittee;I[J)I"⟩
abbrev cL_wouldVeto : ByteArray := method_13_code
def yL_wouldVeto : MethodName := ⟨RL, "wouldVeto", "(LHedgeCommittee;II[J)I"⟩
abbrev cL_motionAt : ByteArray := method_14_code
def yL_motionAt : MethodName := ⟨RL, "motionAt", "(LHedgeCommittee;I[J)I"⟩
abbrev cL_tone : ByteArray := method_15_code
def yL_tone : MethodName := ⟨RL, "tone", "(LHedgeCommittee;I[J)I"⟩
abbrev cL_weight : ByteArray := method_16_code
def yL_weight : MethodName := ⟨RL, "weight", "(LHedgeCommittee;I[J)I"⟩
abbrev cL_parent : ByteArray := method_17_code
def yL_parent : MethodName := ⟨RL, "parent", "(LHedgeCommittee;I[J)I"⟩
abbrev cL_depth : ByteArray := method_18_code
def yL_depth : MethodName := ⟨RL, "depth", "(LHedgeCommittee;I[J)I"⟩
abbrev cL_isTip : ByteArray := method_19_code
def yL_isTip : MethodName := ⟨RL, "isTip", "(LHedgeCommittee;I[J)I"⟩
abbrev cL_branchSize : ByteArray := method_20_code
def yL_branchSize : MethodName := ⟨RL, "branchSize", "(LHedgeCommittee;I[J)I"⟩
abbrev cL_lastTip : ByteArray := method_21_code
def yL_lastTip : MethodName := ⟨RL, "lastTip", "(LHedgeCommittee;I[J)I"⟩
abbrev cL_motionAtRank : ByteArray := method_22_code
def yL_motionAtRank : MethodName := ⟨RL, "motionAtRank", "(LHedgeCommittee;I[J)I"⟩
abbrev cL_commonMotion : ByteArray := method_23_code
def yL_commonMotion : MethodName := ⟨RL, "commonMotion", "(LHedgeCommittee;II[J)I"⟩
abbrev cL_commonMotionByRows : ByteArray := method_24_code
def yL_commonMotionByRows : MethodName := ⟨RL, "commonMotionByRows", "(LHedgeCommittee;II[J)I"⟩
abbrev cL_pathSize : ByteArray := method_25_code
def yL_pathSize : MethodName := ⟨RL, "pathSize", "(LHedgeCommittee;II[J)I"⟩
abbrev cL_longestPath : ByteArray := method_26_code
def yL_longestPath : MethodName := ⟨RL, "longestPath", "(LHedgeCommittee;I[J)I"⟩
abbrev cL_longestPathBySweeps : ByteArray := method_27_code
def yL_longestPathBySweeps : MethodName := ⟨RL, "longestPathBySweeps", "(LHedgeCommittee;I[J)I"⟩
abbrev cL_minutesIn : ByteArray := method_28_code
def yL_minutesIn : MethodName := ⟨RL, "minutesIn", "(LHedgeCommittee;I[J)I"⟩
abbrev cL_meanLeaves : ByteArray := method_29_code
def yL_meanLeaves : MethodName := ⟨RL, "meanLeaves", "(LHedgeCommittee;[D)I"⟩
abbrev cL_carriedShare : ByteArray := method_30_code
def yL_carriedShare : MethodName := ⟨RL, "carriedShare", "(LHedgeCommittee;[D)I"⟩
abbrev cL_append : ByteArray := method_31_code
def yL_append : MethodName := ⟨RL, "append", "(LHedgeCommittee;C[J)I"⟩
abbrev cL_run : ByteArray := method_32_code
def yL_run : MethodName := ⟨RL, "run", "(LHedgeCommittee;[J)I"⟩
abbrev cL_errorPosition : ByteArray := method_33_code
def yL_errorPosition : MethodName := ⟨RL, "errorPosition", "(LHedgeCommittee;[J)I"⟩
abbrev cL_failedCommand : ByteArray := method_34_code
def yL_failedCommand : MethodName := ⟨RL, "failedCommand", "(LHedgeCommittee;[J)I"⟩
abbrev cL_writeBranch : ByteArray := method_35_code
def yL_writeBranch : MethodName := ⟨RL, "writeBranch", "(LHedgeCommittee;I[J)I"⟩
abbrev cL_outputAt : ByteArray := method_36_code
def yL_outputAt : MethodName := ⟨RL, "outputAt", "(LHedgeCommittee;I[J)I"⟩
abbrev cL_undo : ByteArray := method_37_code
def yL_undo : MethodName := ⟨RL, "undo", "(LHedgeCommittee;[J)I"⟩
abbrev cL_restore : ByteArray := method_38_code
def yL_restore : MethodName := ⟨RL, "restore", "(LHedgeCommittee;)I"⟩
abbrev cL_law : ByteArray := code
def yL_law : MethodName := ⟨RL, "law", "([I)Z"⟩

abbrev vwCl : List vw_C := [(RJ0, TJ0, 4), (RJ4, TJ4, 4), (RJx00060, TJx00060, 6), (RJx7c733, TJx7c733, 6), (RJx4a65c, TJx4a65c, 3), (RX1, TX1, 4), (RX2, TX2, 4), (RX3, TX3, 2), (RX5, TX5, 6), (RX6, TX6, 5), (RX7, TX7, 11), (RX8, TX8, 6), (RX9, TX9, 9), (RX10, TX10, 26)]
/-- the good words of the tables -/
def gw : List Cond := lw_tbl.filter goodWord
theorem gw_t {w : Cond} (h : w ∈ tables_1) (g : goodWord w = true) : w ∈ gw := List.mem_filter.mpr ⟨List.mem_append_right _ (List.mem_append_right _ h), g⟩
theorem gw_p {q : MethodName × Nat} (h : q ∈ lw_privs) (g : goodWord (.selects q.1.cls q.1 q.1) = true) : Cond.selects q.1.cls q.1 q.1 ∈ gw := List.mem_filter.mpr ⟨List.mem_append_right _ (List.mem_append_left _ (List.mem_map.mpr ⟨q, h, rfl⟩)), g⟩
theorem gw_sb0 : Cond.selects "java/lang/StringBuilder" ⟨"java/lang/AbstractStringBuilder", "appendNull", "()Ljava/lang/AbstractStringBuilder;"⟩ ⟨"java/lang/AbstractStringBuilder", "appendNull", "()Ljava/lang/AbstractStringBuilder;"⟩ ∈ gw := List.mem_filter.mpr ⟨List.mem_append_left _ (List.mem_of_getElem? (i := 0) rfl), rfl⟩
theorem gw_sb1 : Cond.selects "java/lang/StringBuilder" ⟨"java/lang/AbstractStringBuilder", "ensureCapacityInternal", "(I)V"⟩ ⟨"java/lang/AbstractStringBuilder", "ensureCapacityInternal", "(I)V"⟩ ∈ gw := List.mem_filter.mpr ⟨List.mem_append_left _ (List.mem_of_getElem? (i := 1) rfl), rfl⟩
theorem gw_sb2 : Cond.selects "java/lang/StringBuilder" ⟨"java/lang/AbstractStringBuilder", "newCapacity", "(I)I"⟩ ⟨"java/lang/AbstractStringBuilder", "newCapacity", "(I)I"⟩ ∈ gw := List.mem_filter.mpr ⟨List.mem_append_left _ (List.mem_of_getElem? (i := 2) rfl), rfl⟩
theorem gw_sb3 : Cond.selects "java/lang/StringBuilder" ⟨"java/lang/AbstractStringBuilder", "putStringAt", "(ILjava/lang/String;)V"⟩ ⟨"java/lang/AbstractStringBuilder", "putStringAt", "(ILjava/lang/String;)V"⟩ ∈ gw := List.mem_filter.mpr ⟨List.mem_append_left _ (List.mem_of_getElem? (i := 3) rfl), rfl⟩
theorem gw_sb4 : Cond.selects "java/lang/StringBuilder" ⟨"java/lang/AbstractStringBuilder", "inflateIfNeededFor", "(Ljava/lang/String;)V"⟩ ⟨"java/lang/AbstractStringBuilder", "inflateIfNeededFor", "(Ljava/lang/String;)V"⟩ ∈ gw := List.mem_filter.mpr ⟨List.mem_append_left _ (List.mem_of_getElem? (i := 4) rfl), rfl⟩
theorem gw_sb5 : Cond.selects "java/lang/StringBuilder" ⟨"java/lang/AbstractStringBuilder", "inflate", "()V"⟩ ⟨"java/lang/AbstractStringBuilder", "inflate", "()V"⟩ ∈ gw := List.mem_filter.mpr ⟨List.mem_append_left _ (List.mem_of_getElem? (i := 5) rfl), rfl⟩
theorem gw_good : ∀ w ∈ gw, (w.onTables && w.keeps) = true ∨ ∃ ty, w = .arrayClass ty := fun _ h => good_of_word (List.mem_filter.mp h).2
theorem gw_0 : Cond.selects "HedgeCommittee$History" ⟨"HedgeCommittee$History", "forgetOldest", "()V"⟩ ⟨"HedgeCommittee$History", "forgetOldest", "()V"⟩ ∈ gw := gw_p (q := (⟨"HedgeCommittee$History", "forgetOldest", "()V"⟩, 2)) (by unfold lw_privs; exact (List.mem_append_left _ (List.mem_append_left _ (List.mem_append_left _ (List.mem_append_left _ (List.mem_append_left _ (List.mem_of_getElem? (l := lw_privs_0) (i := 0) rfl))))))) rfl
theorem gw_1 : Cond.selects "HedgeCommittee$Trees" ⟨"HedgeCommittee$Trees", "farthestFrom", "(LHedgeCommittee$Motions;II)I"⟩ ⟨"HedgeCommittee$Trees", "farthestFrom", "(LHedgeCommittee$Motions;II)I"⟩ ∈ gw := gw_p (q := (⟨"HedgeCommittee$Trees", "farthestFrom", "(LHedgeCommittee$Motions;II)I"⟩, 6)) (by unfold lw_privs; exact (List.mem_append_left _ (List.mem_append_left _ (List.mem_append_left _ (List.mem_append_left _ (List.mem_append_left _ (List.mem_of_getElem? (l := lw_privs_0) (i := 1) rfl))))))) rfl
theorem gw_3 : Cond.selects "HedgeCommittee$State" ⟨"HedgeCommittee$State", "requireRoom", "()V"⟩ ⟨"HedgeCommittee$State", "requireRoom", "()V"⟩ ∈ gw := gw_p (q := (⟨"HedgeCommittee$State", "requireRoom", "()V"⟩, 11)) (by unfold lw_privs; exact (List.mem_append_left _ (List.mem_append_left _ (List.mem_append_left _ (List.mem_append_left _ (List.mem_append_left _ (List.mem_of_getElem? (l := lw_privs_0) (i := 3) rfl))))))) rfl
theorem gw_4 : Cond.selects "HedgeCommittee$State" ⟨"HedgeCommittee$State", "begin", "(III)I"⟩ ⟨"HedgeCommittee$State", "begin", "(III)I"⟩ ∈ gw := gw_p (q := (⟨"HedgeCommittee$State", "begin", "(III)I"⟩, 11)) (by unfold lw_privs; exact (List.mem_append_left _ (List.mem_append_left _ (List.mem_append_left _ (List.mem_append_left _ (List.mem_append_left _ (List.mem_of_getElem? (l := lw_privs_0) (i := 4) rfl))))))) rfl
theorem gw_5 : Cond.selects "HedgeCommittee$State" ⟨"HedgeCommittee$State", "bookOutcome", "(CII)V"⟩ ⟨"HedgeCommittee$State", "bookOutcome", "(CII)V"⟩ ∈ gw := gw_p (q := (⟨"HedgeCommittee$State", "bookOutcome", "(CII)V"⟩, 11)) (by unfold lw_privs; exact (List.mem_append_left _ (List.mem_append_left _ (List.mem_append_left _ (List.mem_append_left _ (List.mem_append_left _ (List.mem_of_getElem? (l := lw_privs_0) (i := 5) rfl))))))) rfl
theorem gw_6 : Cond.selects "HedgeCommittee" ⟨"HedgeCommittee", "requireHedge", "(I)V"⟩ ⟨"HedgeCommittee", "requireHedge", "(I)V"⟩ ∈ gw := gw_p (q := (⟨"HedgeCommittee", "requireHedge", "(I)V"⟩, 9)) (by unfold lw_privs; exact (List.mem_append_left _ (List.mem_append_left _ (List.mem_append_left _ (List.mem_append_left _ (List.mem_append_left _ (List.mem_of_getElem? (l := lw_privs_0) (i := 6) rfl))))))) rfl
theorem gw_7 : Cond.selects "HedgeCommittee$Hedges" ⟨"HedgeCommittee$Hedges", "rankOf", "(I)I"⟩ ⟨"HedgeCommittee$Hedges", "rankOf", "(I)I"⟩ ∈ gw := gw_p (q := (⟨"HedgeCommittee$Hedges", "rankOf", "(I)I"⟩, 4)) (by unfold lw_privs; exact (List.mem_append_left _ (List.mem_append_left _ (List.mem_append_left _ (List.mem_append_left _ (List.mem_append_left _ (List.mem_of_getElem? (l := lw_privs_0) (i := 7) rfl))))))) rfl
theorem gw_8 : Cond.selects "HedgeCommittee" ⟨"HedgeCommittee", "requirePosition", "(I)V"⟩ ⟨"HedgeCommittee", "requirePosition", "(I)V"⟩ ∈ gw := gw_p (q := (⟨"HedgeCommittee", "requirePosition", "(I)V"⟩, 9)) (by unfold lw_privs; exact (List.mem_append_left _ (List.mem_append_left _ (List.mem_append_left _ (List.mem_append_left _ (List.mem_append_left _ (List.mem_of_getElem? (l := lw_privs_0) (i := 8) rfl))))))) rfl
theorem gw_9 : Cond.selects "HedgeCommittee$Motions" ⟨"HedgeCommittee$Motions", "rankOf", "(I)I"⟩ ⟨"HedgeCommittee$Motions", "rankOf", "(I)I"⟩ ∈ gw := gw_p (q := (⟨"HedgeCommittee$Motions", "rankOf", "(I)I"⟩, 6)) (by unfold lw_privs; exact (List.mem_append_left _ (List.mem_append_left _ (List.mem_append_left _ (List.mem_append_left _ (List.mem_append_left _ (List.mem_of_getElem? (l := lw_privs_0) (i := 9) rfl))))))) rfl
theorem gw_10 : Cond.selects "HedgeCommittee" ⟨"HedgeCommittee", "idOfCommon", "(I)I"⟩ ⟨"HedgeCommittee", "idOfCommon", "(I)I"⟩ ∈ gw := gw_p (q := (⟨"HedgeCommittee", "idOfCommon", "(I)I"⟩, 9)) (by unfold lw_privs; exact (List.mem_append_left _ (List.mem_append_left _ (List.mem_append_left _ (List.mem_append_left _ (List.mem_append_left _ (List.mem_of_getElem? (l := lw_privs_0) (i := 10) rfl))))))) rfl
theorem gw_11 : Cond.selects "HedgeCommittee$Program" ⟨"HedgeCommittee$Program", "readCommand", "()Z"⟩ ⟨"HedgeCommittee$Program", "readCommand", "()Z"⟩ ∈ gw := gw_p (q := (⟨"HedgeCommittee$Program", "readCommand", "()Z"⟩, 5)) (by unfold lw_privs; exact (List.mem_append_left _ (List.mem_append_left _ (List.mem_append_left _ (List.mem_append_left _ (List.mem_append_right _ (List.mem_of_getElem? (l := lw_privs_1) (i := 0) rfl))))))) rfl
theorem gw_12 : Cond.selects "HedgeCommittee$Program" ⟨"HedgeCommittee$Program", "kindAhead", "()LHedgeCommittee$Kind;"⟩ ⟨"HedgeCommittee$Program", "kindAhead", "()LHedgeCommittee$Kind;"⟩ ∈ gw := gw_p (q := (⟨"HedgeCommittee$Program", "kindAhead", "()LHedgeCommittee$Kind;"⟩, 5)) (by unfold lw_privs; exact (List.mem_append_left _ (List.mem_append_left _ (List.mem_append_left _ (List.mem_append_left _ (List.mem_append_right _ (List.mem_of_getElem? (l := lw_privs_1) (i := 1) rfl))))))) rfl
theorem gw_13 : Cond.selects "HedgeCommittee$Program" ⟨"HedgeCommittee$Program", "digitAhead", "()Z"⟩ ⟨"HedgeCommittee$Program", "digitAhead", "()Z"⟩ ∈ gw := gw_p (q := (⟨"HedgeCommittee$Program", "digitAhead", "()Z"⟩, 5)) (by unfold lw_privs; exact (List.mem_append_left _ (List.mem_append_left _ (List.mem_append_left _ (List.mem_append_left _ (List.mem_append_right _ (List.mem_of_getElem? (l := lw_privs_1) (i := 2) rfl))))))) rfl
theorem gw_14 : Cond.selects "HedgeCommittee$Program" ⟨"HedgeCommittee$Program", "readDigits", "(Z)I"⟩ ⟨"HedgeCommittee$Program", "readDigits", "(Z)I"⟩ ∈ gw := gw_p (q := (⟨"HedgeCommittee$Program", "readDigits", "(Z)I"⟩, 5)) (by unfold lw_privs; exact (List.mem_append_left _ (List.mem_append_left _ (List.mem_append_left _ (List.mem_append_left _ (List.mem_append_right _ (List.mem_of_getElem? (l := lw_privs_1) (i := 3) rfl))))))) rfl
theorem gw_15 : Cond.selects "HedgeCommittee$Program" ⟨"HedgeCommittee$Program", "readSign", "(C)Z"⟩ ⟨"HedgeCommittee$Program", "readSign", "(C)Z"⟩ ∈ gw := gw_p (q := (⟨"HedgeCommittee$Program", "readSign", "(C)Z"⟩, 5)) (by unfold lw_privs; exact (List.mem_append_left _ (List.mem_append_left _ (List.mem_append_left _ (List.mem_append_left _ (List.mem_append_right _ (List.mem_of_getElem? (l := lw_privs_1) (i := 4) rfl))))))) rfl
theorem gw_16 : Cond.selects "java/util/ArrayList" ⟨"java/util/ArrayList", "add", "(Ljava/lang/Object;[Ljava/lang/Object;I)V"⟩ ⟨"java/util/ArrayList", "add", "(Ljava/lang/Object;[Ljava/lang/Object;I)V"⟩ ∈ gw := gw_p (q := (⟨"java/util/ArrayList", "add", "(Ljava/lang/Object;[Ljava/lang/Object;I)V"⟩, 3)) (by unfold lw_privs; exact (List.mem_append_left _ (List.mem_append_left _ (List.mem_append_left _ (List.mem_append_left _ (List.mem_append_right _ (List.mem_of_getElem? (l := lw_privs_1) (i := 5) rfl))))))) rfl
theorem gw_17 : Cond.selects "java/util/ArrayList" ⟨"java/util/ArrayList", "grow", "()[Ljava/lang/Object;"⟩ ⟨"java/util/ArrayList", "grow", "()[Ljava/lang/Object;"⟩ ∈ gw := gw_p (q := (⟨"java/util/ArrayList", "grow", "()[Ljava/lang/Object;"⟩, 3)) (by unfold lw_privs; exact (List.mem_append_left _ (List.mem_append_left _ (List.mem_append_left _ (List.mem_append_left _ (List.mem_append_right _ (List.mem_of_getElem? (l := lw_privs_1) (i := 6) rfl))))))) rfl
theorem gw_18 : Cond.selects "java/util/ArrayList" ⟨"java/util/ArrayList", "grow", "(I)[Ljava/lang/Object;"⟩ ⟨"java/util/ArrayList", "grow", "(I)[Ljava/lang/Object;"⟩ ∈ gw := gw_p (q := (⟨"java/util/ArrayList", "grow", "(I)[Ljava/lang/Object;"⟩, 3)) (by unfold lw_privs; exact (List.mem_append_left _ (List.mem_append_left _ (List.mem_append_left _ (List.mem_append_left _ (List.mem_append_right _ (List.mem_of_getElem? (l := lw_privs_1) (i := 7) rfl))))))) rfl
theorem gw_19 : Cond.selects "HedgeCommittee" ⟨"HedgeCommittee", "firstFailure", "()I"⟩ ⟨"HedgeCommittee", "firstFailure", "()I"⟩ ∈ gw := gw_p (q := (⟨"HedgeCommittee", "firstFailure", "()I"⟩, 9)) (by unfold lw_privs; exact (List.mem_append_left _ (List.mem_append_left _ (List.mem_append_left _ (List.mem_append_left _ (List.mem_append_right _ (List.mem_of_getElem? (l := lw_privs_1) (i := 8) rfl))))))) rfl
theorem gw_20 : Cond.selects "HedgeCommittee" ⟨"HedgeCommittee", "succeeds", "(LHedgeCommittee$Command;)Z"⟩ ⟨"HedgeCommittee", "succeeds", "(LHedgeCommittee$Command;)Z"⟩ ∈ gw := gw_p (q := (⟨"HedgeCommittee", "succeeds", "(LHedgeCommittee$Command;)Z"⟩, 9)) (by unfold lw_privs; exact (List.mem_append_left _ (List.mem_append_left _ (List.mem_append_left _ (List.mem_append_left _ (List.mem_append_right _ (List.mem_of_getElem? (l := lw_privs_1) (i := 9) rfl))))))) rfl
theorem gw_21 : Cond.selects "HedgeCommitteeModel" ⟨"HedgeCommitteeModel", "starts", "()V"⟩ ⟨"HedgeCommitteeModel", "starts", "()V"⟩ ∈ gw := gw_p (q := (⟨"HedgeCommitteeModel", "starts", "()V"⟩, 26)) (by unfold lw_privs; exact (List.mem_append_left _ (List.mem_append_left _ (List.mem_append_left _ (List.mem_append_left _ (List.mem_append_right _ (List.mem_of_getElem? (l := lw_privs_1) (i := 10) rfl))))))) rfl
theorem gw_22 : Cond.selects "HedgeCommitteeModel" ⟨"HedgeCommitteeModel", "hedgeIt", "(III)I"⟩ ⟨"HedgeCommitteeModel", "hedgeIt", "(III)I"⟩ ∈ gw := gw_p (q := (⟨"HedgeCommitteeModel", "hedgeIt", "(III)I"⟩, 26)) (by unfold lw_privs; exact (List.mem_append_left _ (List.mem_append_left _ (List.mem_append_left _ (List.mem_append_right _ (List.mem_of_getElem? (l := lw_privs_2) (i := 0) rfl)))))) rfl
theorem gw_23 : Cond.selects "HedgeCommitteeModel" ⟨"HedgeCommitteeModel", "throwing", "(I)I"⟩ ⟨"HedgeCommitteeModel", "throwing", "(I)I"⟩ ∈ gw := gw_p (q := (⟨"HedgeCommitteeModel", "throwing", "(I)I"⟩, 26)) (by unfold lw_privs; exact (List.mem_append_left _ (List.mem_append_left _ (List.mem_append_left _ (List.mem_append_right _ (List.mem_of_getElem? (l := lw_privs_2) (i := 1) rfl)))))) rfl
theorem gw_24 : Cond.selects "HedgeCommitteeModel" ⟨"HedgeCommitteeModel", "changed", "(I)I"⟩ ⟨"HedgeCommitteeModel", "changed", "(I)I"⟩ ∈ gw := gw_p (q := (⟨"HedgeCommitteeModel", "changed", "(I)I"⟩, 26)) (by unfold lw_privs; exact (List.mem_append_left _ (List.mem_append_left _ (List.mem_append_left _ (List.mem_append_right _ (List.mem_of_getElem? (l := lw_privs_2) (i := 2) rfl)))))) rfl
theorem gw_25 : Cond.selects "HedgeCommitteeModel" ⟨"HedgeCommitteeModel", "mainIt", "(II)I"⟩ ⟨"HedgeCommitteeModel", "mainIt", "(II)I"⟩ ∈ gw := gw_p (q := (⟨"HedgeCommitteeModel", "mainIt", "(II)I"⟩, 26)) (by unfold lw_privs; exact (List.mem_append_left _ (List.mem_append_left _ (List.mem_append_left _ (List.mem_append_right _ (List.mem_of_getElem? (l := lw_privs_2) (i := 3) rfl)))))) rfl
theorem gw_26 : Cond.selects "HedgeCommitteeModel" ⟨"HedgeCommitteeModel", "adds", "(III)I"⟩ ⟨"HedgeCommitteeModel", "adds", "(III)I"⟩ ∈ gw := gw_p (q := (⟨"HedgeCommitteeModel", "adds", "(III)I"⟩, 26)) (by unfold lw_privs; exact (List.mem_append_left _ (List.mem_append_left _ (List.mem_append_left _ (List.mem_append_right _ (List.mem_of_getElem? (l := lw_privs_2) (i := 4) rfl)))))) rfl
theorem gw_27 : Cond.selects "HedgeCommitteeModel" ⟨"HedgeCommitteeModel", "amendIt", "(III)I"⟩ ⟨"HedgeCommitteeModel", "amendIt", "(III)I"⟩ ∈ gw := gw_p (q := (⟨"HedgeCommitteeModel", "amendIt", "(III)I"⟩, 26)) (by unfold lw_privs; exact (List.mem_append_left _ (List.mem_append_left _ (List.mem_append_left _ (List.mem_append_right _ (List.mem_of_getElem? (l := lw_privs_2) (i := 5) rfl)))))) rfl
theorem gw_28 : Cond.selects "HedgeCommitteeModel" ⟨"HedgeCommitteeModel", "find", "(I)I"⟩ ⟨"HedgeCommitteeModel", "find", "(I)I"⟩ ∈ gw := gw_p (q := (⟨"HedgeCommitteeModel", "find", "(I)I"⟩, 26)) (by unfold lw_privs; exact (List.mem_append_left _ (List.mem_append_left _ (List.mem_append_left _ (List.mem_append_right _ (List.mem_of_getElem? (l := lw_privs_2) (i := 6) rfl)))))) rfl
theorem gw_29 : Cond.selects "HedgeCommitteeModel" ⟨"HedgeCommitteeModel", "of", "(II)I"⟩ ⟨"HedgeCommitteeModel", "of", "(II)I"⟩ ∈ gw := gw_p (q := (⟨"HedgeCommitteeModel", "of", "(II)I"⟩, 26)) (by unfold lw_privs; exact (List.mem_append_left _ (List.mem_append_left _ (List.mem_append_left _ (List.mem_append_right _ (List.mem_of_getElem? (l := lw_privs_2) (i := 7) rfl)))))) rfl
theorem gw_30 : Cond.selects "HedgeCommitteeModel" ⟨"HedgeCommitteeModel", "pruneIt", "(II)I"⟩ ⟨"HedgeCommitteeModel", "pruneIt", "(II)I"⟩ ∈ gw := gw_p (q := (⟨"HedgeCommitteeModel", "pruneIt", "(II)I"⟩, 26)) (by unfold lw_privs; exact (List.mem_append_left _ (List.mem_append_left _ (List.mem_append_left _ (List.mem_append_right _ (List.mem_of_getElem? (l := lw_privs_2) (i := 8) rfl)))))) rfl
theorem gw_31 : Cond.selects "HedgeCommitteeModel" ⟨"HedgeCommitteeModel", "deep", "(I)I"⟩ ⟨"HedgeCommitteeModel", "deep", "(I)I"⟩ ∈ gw := gw_p (q := (⟨"HedgeCommitteeModel", "deep", "(I)I"⟩, 26)) (by unfold lw_privs; exact (List.mem_append_left _ (List.mem_append_left _ (List.mem_append_left _ (List.mem_append_right _ (List.mem_of_getElem? (l := lw_privs_2) (i := 9) rfl)))))) rfl
theorem gw_32 : Cond.selects "HedgeCommitteeModel" ⟨"HedgeCommitteeModel", "above", "(I)I"⟩ ⟨"HedgeCommitteeModel", "above", "(I)I"⟩ ∈ gw := gw_p (q := (⟨"HedgeCommitteeModel", "above", "(I)I"⟩, 26)) (by unfold lw_privs; exact (List.mem_append_left _ (List.mem_append_left _ (List.mem_append_left _ (List.mem_append_right _ (List.mem_of_getElem? (l := lw_privs_2) (i := 10) rfl)))))) rfl
theorem gw_33 : Cond.selects "HedgeCommitteeModel" ⟨"HedgeCommitteeModel", "isIn", "(II)Z"⟩ ⟨"HedgeCommitteeModel", "isIn", "(II)Z"⟩ ∈ gw := gw_p (q := (⟨"HedgeCommitteeModel", "isIn", "(II)Z"⟩, 26)) (by unfold lw_privs; exact (List.mem_append_left _ (List.mem_append_left _ (List.mem_append_right _ (List.mem_of_getElem? (l := lw_privs_3) (i := 0) rfl))))) rfl
theorem gw_34 : Cond.selects "HedgeCommitteeModel" ⟨"HedgeCommitteeModel", "drops", "(I)V"⟩ ⟨"HedgeCommitteeModel", "drops", "(I)V"⟩ ∈ gw := gw_p (q := (⟨"HedgeCommitteeModel", "drops", "(I)V"⟩, 26)) (by unfold lw_privs; exact (List.mem_append_left _ (List.mem_append_left _ (List.mem_append_right _ (List.mem_of_getElem? (l := lw_privs_3) (i := 1) rfl))))) rfl
theorem gw_35 : Cond.selects "HedgeCommitteeModel" ⟨"HedgeCommitteeModel", "regrowIt", "(I)I"⟩ ⟨"HedgeCommitteeModel", "regrowIt", "(I)I"⟩ ∈ gw := gw_p (q := (⟨"HedgeCommitteeModel", "regrowIt", "(I)I"⟩, 26)) (by unfold lw_privs; exact (List.mem_append_left _ (List.mem_append_left _ (List.mem_append_right _ (List.mem_of_getElem? (l := lw_privs_3) (i := 2) rfl))))) rfl
theorem gw_36 : Cond.selects "HedgeCommitteeModel" ⟨"HedgeCommitteeModel", "lastTipAt", "(I)I"⟩ ⟨"HedgeCommitteeModel", "lastTipAt", "(I)I"⟩ ∈ gw := gw_p (q := (⟨"HedgeCommitteeModel", "lastTipAt", "(I)I"⟩, 26)) (by unfold lw_privs; exact (List.mem_append_left _ (List.mem_append_left _ (List.mem_append_right _ (List.mem_of_getElem? (l := lw_privs_3) (i := 3) rfl))))) rfl
theorem gw_37 : Cond.selects "HedgeCommitteeModel" ⟨"HedgeCommitteeModel", "isTipAt", "(I)Z"⟩ ⟨"HedgeCommitteeModel", "isTipAt", "(I)Z"⟩ ∈ gw := gw_p (q := (⟨"HedgeCommitteeModel", "isTipAt", "(I)Z"⟩, 26)) (by unfold lw_privs; exact (List.mem_append_left _ (List.mem_append_left _ (List.mem_append_right _ (List.mem_of_getElem? (l := lw_privs_3) (i := 4) rfl))))) rfl
theorem gw_38 : Cond.selects "HedgeCommitteeModel" ⟨"HedgeCommitteeModel", "voteIt", "(I)I"⟩ ⟨"HedgeCommitteeModel", "voteIt", "(I)I"⟩ ∈ gw := gw_p (q := (⟨"HedgeCommitteeModel", "voteIt", "(I)I"⟩, 26)) (by unfold lw_privs; exact (List.mem_append_left _ (List.mem_append_left _ (List.mem_append_right _ (List.mem_of_getElem? (l := lw_privs_3) (i := 5) rfl))))) rfl
theorem gw_39 : Cond.selects "HedgeCommitteeModel" ⟨"HedgeCommitteeModel", "vetoes", "(II)Z"⟩ ⟨"HedgeCommitteeModel", "vetoes", "(II)Z"⟩ ∈ gw := gw_p (q := (⟨"HedgeCommitteeModel", "vetoes", "(II)Z"⟩, 26)) (by unfold lw_privs; exact (List.mem_append_left _ (List.mem_append_left _ (List.mem_append_right _ (List.mem_of_getElem? (l := lw_privs_3) (i := 6) rfl))))) rfl
theorem gw_40 : Cond.selects "HedgeCommitteeModel" ⟨"HedgeCommitteeModel", "far", "(II)I"⟩ ⟨"HedgeCommitteeModel", "far", "(II)I"⟩ ∈ gw := gw_p (q := (⟨"HedgeCommitteeModel", "far", "(II)I"⟩, 26)) (by unfold lw_privs; exact (List.mem_append_left _ (List.mem_append_left _ (List.mem_append_right _ (List.mem_of_getElem? (l := lw_privs_3) (i := 7) rfl))))) rfl
theorem gw_41 : Cond.selects "HedgeCommitteeModel" ⟨"HedgeCommitteeModel", "favour", "(I)I"⟩ ⟨"HedgeCommitteeModel", "favour", "(I)I"⟩ ∈ gw := gw_p (q := (⟨"HedgeCommitteeModel", "favour", "(I)I"⟩, 26)) (by unfold lw_privs; exact (List.mem_append_left _ (List.mem_append_left _ (List.mem_append_right _ (List.mem_of_getElem? (l := lw_privs_3) (i := 8) rfl))))) rfl
theorem gw_42 : Cond.selects "HedgeCommitteeModel" ⟨"HedgeCommitteeModel", "leavesAll", "()I"⟩ ⟨"HedgeCommitteeModel", "leavesAll", "()I"⟩ ∈ gw := gw_p (q := (⟨"HedgeCommitteeModel", "leavesAll", "()I"⟩, 26)) (by unfold lw_privs; exact (List.mem_append_left _ (List.mem_append_left _ (List.mem_append_right _ (List.mem_of_getElem? (l := lw_privs_3) (i := 9) rfl))))) rfl
theorem gw_43 : Cond.selects "HedgeCommitteeModel" ⟨"HedgeCommitteeModel", "carries", "(I)V"⟩ ⟨"HedgeCommitteeModel", "carries", "(I)V"⟩ ∈ gw := gw_p (q := (⟨"HedgeCommitteeModel", "carries", "(I)V"⟩, 26)) (by unfold lw_privs; exact (List.mem_append_left _ (List.mem_append_left _ (List.mem_append_right _ (List.mem_of_getElem? (l := lw_privs_3) (i := 10) rfl))))) rfl
theorem gw_44 : Cond.selects "HedgeCommitteeModel" ⟨"HedgeCommitteeModel", "seasonIt", "()I"⟩ ⟨"HedgeCommitteeModel", "seasonIt", "()I"⟩ ∈ gw := gw_p (q := (⟨"HedgeCommitteeModel", "seasonIt", "()I"⟩, 26)) (by unfold lw_privs; exact (List.mem_append_left _ (List.mem_append_right _ (List.mem_of_getElem? (l := lw_privs_4) (i := 0) rfl)))) rfl
theorem gw_45 : Cond.selects "HedgeCommitteeModel" ⟨"HedgeCommitteeModel", "isHedge", "(I)Z"⟩ ⟨"HedgeCommitteeModel", "isHedge", "(I)Z"⟩ ∈ gw := gw_p (q := (⟨"HedgeCommitteeModel", "isHedge", "(I)Z"⟩, 26)) (by unfold lw_privs; exact (List.mem_append_left _ (List.mem_append_right _ (List.mem_of_getElem? (l := lw_privs_4) (i := 1) rfl)))) rfl
theorem gw_46 : Cond.selects "HedgeCommitteeModel" ⟨"HedgeCommitteeModel", "isHedgeAhead", "(II)Z"⟩ ⟨"HedgeCommitteeModel", "isHedgeAhead", "(II)Z"⟩ ∈ gw := gw_p (q := (⟨"HedgeCommitteeModel", "isHedgeAhead", "(II)Z"⟩, 26)) (by unfold lw_privs; exact (List.mem_append_left _ (List.mem_append_right _ (List.mem_of_getElem? (l := lw_privs_4) (i := 2) rfl)))) rfl
theorem gw_47 : Cond.selects "HedgeCommitteeModel" ⟨"HedgeCommitteeModel", "ofMotion", "(II)I"⟩ ⟨"HedgeCommitteeModel", "ofMotion", "(II)I"⟩ ∈ gw := gw_p (q := (⟨"HedgeCommitteeModel", "ofMotion", "(II)I"⟩, 26)) (by unfold lw_privs; exact (List.mem_append_left _ (List.mem_append_right _ (List.mem_of_getElem? (l := lw_privs_4) (i := 3) rfl)))) rfl
theorem gw_48 : Cond.selects "HedgeCommitteeModel" ⟨"HedgeCommitteeModel", "isMotionAhead", "(II)Z"⟩ ⟨"HedgeCommitteeModel", "isMotionAhead", "(II)Z"⟩ ∈ gw := gw_p (q := (⟨"HedgeCommitteeModel", "isMotionAhead", "(II)Z"⟩, 26)) (by unfold lw_privs; exact (List.mem_append_left _ (List.mem_append_right _ (List.mem_of_getElem? (l := lw_privs_4) (i := 4) rfl)))) rfl
theorem gw_49 : Cond.selects "HedgeCommitteeModel" ⟨"HedgeCommitteeModel", "common", "(II)I"⟩ ⟨"HedgeCommitteeModel", "common", "(II)I"⟩ ∈ gw := gw_p (q := (⟨"HedgeCommitteeModel", "common", "(II)I"⟩, 26)) (by unfold lw_privs; exact (List.mem_append_left _ (List.mem_append_right _ (List.mem_of_getElem? (l := lw_privs_4) (i := 5) rfl)))) rfl
theorem gw_50 : Cond.selects "HedgeCommitteeModel" ⟨"HedgeCommitteeModel", "steps", "(II)I"⟩ ⟨"HedgeCommitteeModel", "steps", "(II)I"⟩ ∈ gw := gw_p (q := (⟨"HedgeCommitteeModel", "steps", "(II)I"⟩, 26)) (by unfold lw_privs; exact (List.mem_append_left _ (List.mem_append_right _ (List.mem_of_getElem? (l := lw_privs_4) (i := 6) rfl)))) rfl
theorem gw_51 : Cond.selects "HedgeCommitteeModel" ⟨"HedgeCommitteeModel", "measures", "()V"⟩ ⟨"HedgeCommitteeModel", "measures", "()V"⟩ ∈ gw := gw_p (q := (⟨"HedgeCommitteeModel", "measures", "()V"⟩, 26)) (by unfold lw_privs; exact (List.mem_append_left _ (List.mem_append_right _ (List.mem_of_getElem? (l := lw_privs_4) (i := 7) rfl)))) rfl
theorem gw_52 : Cond.selects "HedgeCommitteeModel" ⟨"HedgeCommitteeModel", "readCommand", "()V"⟩ ⟨"HedgeCommitteeModel", "readCommand", "()V"⟩ ∈ gw := gw_p (q := (⟨"HedgeCommitteeModel", "readCommand", "()V"⟩, 26)) (by unfold lw_privs; exact (List.mem_append_left _ (List.mem_append_right _ (List.mem_of_getElem? (l := lw_privs_4) (i := 8) rfl)))) rfl
theorem gw_53 : Cond.selects "HedgeCommitteeModel" ⟨"HedgeCommitteeModel", "likeness", "(I)I"⟩ ⟨"HedgeCommitteeModel", "likeness", "(I)I"⟩ ∈ gw := gw_p (q := (⟨"HedgeCommitteeModel", "likeness", "(I)I"⟩, 26)) (by unfold lw_privs; exact (List.mem_append_left _ (List.mem_append_right _ (List.mem_of_getElem? (l := lw_privs_4) (i := 9) rfl)))) rfl
theorem gw_54 : Cond.selects "HedgeCommitteeModel" ⟨"HedgeCommitteeModel", "readArguments", "(II)V"⟩ ⟨"HedgeCommitteeModel", "readArguments", "(II)V"⟩ ∈ gw := gw_p (q := (⟨"HedgeCommitteeModel", "readArguments", "(II)V"⟩, 26)) (by unfold lw_privs; exact (List.mem_append_left _ (List.mem_append_right _ (List.mem_of_getElem? (l := lw_privs_4) (i := 10) rfl)))) rfl
theorem gw_55 : Cond.selects "HedgeCommitteeModel" ⟨"HedgeCommitteeModel", "digit", "()I"⟩ ⟨"HedgeCommitteeModel", "digit", "()I"⟩ ∈ gw := gw_p (q := (⟨"HedgeCommitteeModel", "digit", "()I"⟩, 26)) (by unfold lw_privs; exact (List.mem_append_right _ (List.mem_of_getElem? (l := lw_privs_5) (i := 0) rfl))) rfl
theorem gw_56 : Cond.selects "HedgeCommitteeModel" ⟨"HedgeCommitteeModel", "here", "()I"⟩ ⟨"HedgeCommitteeModel", "here", "()I"⟩ ∈ gw := gw_p (q := (⟨"HedgeCommitteeModel", "here", "()I"⟩, 26)) (by unfold lw_privs; exact (List.mem_append_right _ (List.mem_of_getElem? (l := lw_privs_5) (i := 1) rfl))) rfl
theorem gw_57 : Cond.selects "HedgeCommitteeModel" ⟨"HedgeCommitteeModel", "number", "()I"⟩ ⟨"HedgeCommitteeModel", "number", "()I"⟩ ∈ gw := gw_p (q := (⟨"HedgeCommitteeModel", "number", "()I"⟩, 26)) (by unfold lw_privs; exact (List.mem_append_right _ (List.mem_of_getElem? (l := lw_privs_5) (i := 2) rfl))) rfl
theorem gw_58 : Cond.selects "HedgeCommitteeModel" ⟨"HedgeCommitteeModel", "digitBehind", "()I"⟩ ⟨"HedgeCommitteeModel", "digitBehind", "()I"⟩ ∈ gw := gw_p (q := (⟨"HedgeCommitteeModel", "digitBehind", "()I"⟩, 26)) (by unfold lw_privs; exact (List.mem_append_right _ (List.mem_of_getElem? (l := lw_privs_5) (i := 3) rfl))) rfl
theorem gw_59 : Cond.selects "HedgeCommitteeModel" ⟨"HedgeCommitteeModel", "expects", "(I)V"⟩ ⟨"HedgeCommitteeModel", "expects", "(I)V"⟩ ∈ gw := gw_p (q := (⟨"HedgeCommitteeModel", "expects", "(I)V"⟩, 26)) (by unfold lw_privs; exact (List.mem_append_right _ (List.mem_of_getElem? (l := lw_privs_5) (i := 4) rfl))) rfl
theorem gw_60 : Cond.selects "HedgeCommitteeModel" ⟨"HedgeCommitteeModel", "numberBehind", "()I"⟩ ⟨"HedgeCommitteeModel", "numberBehind", "()I"⟩ ∈ gw := gw_p (q := (⟨"HedgeCommitteeModel", "numberBehind", "()I"⟩, 26)) (by unfold lw_privs; exact (List.mem_append_right _ (List.mem_of_getElem? (l := lw_privs_5) (i := 5) rfl))) rfl
theorem gw_61 : Cond.selects "HedgeCommitteeModel" ⟨"HedgeCommitteeModel", "does", "(I)V"⟩ ⟨"HedgeCommitteeModel", "does", "(I)V"⟩ ∈ gw := gw_p (q := (⟨"HedgeCommitteeModel", "does", "(I)V"⟩, 26)) (by unfold lw_privs; exact (List.mem_append_right _ (List.mem_of_getElem? (l := lw_privs_5) (i := 6) rfl))) rfl
theorem gw_62 : Cond.selects "HedgeCommitteeModel" ⟨"HedgeCommitteeModel", "writesWhole", "(I)V"⟩ ⟨"HedgeCommitteeModel", "writesWhole", "(I)V"⟩ ∈ gw := gw_p (q := (⟨"HedgeCommitteeModel", "writesWhole", "(I)V"⟩, 26)) (by unfold lw_privs; exact (List.mem_append_right _ (List.mem_of_getElem? (l := lw_privs_5) (i := 7) rfl))) rfl
theorem gw_63 : Cond.selects "HedgeCommitteeModel" ⟨"HedgeCommitteeModel", "sign", "(I)V"⟩ ⟨"HedgeCommitteeModel", "sign", "(I)V"⟩ ∈ gw := gw_p (q := (⟨"HedgeCommitteeModel", "sign", "(I)V"⟩, 26)) (by unfold lw_privs; exact (List.mem_append_right _ (List.mem_of_getElem? (l := lw_privs_5) (i := 8) rfl))) rfl
theorem gw_64 : Cond.selects "HedgeCommitteeModel" ⟨"HedgeCommitteeModel", "childFrom", "(II)I"⟩ ⟨"HedgeCommitteeModel", "childFrom", "(II)I"⟩ ∈ gw := gw_p (q := (⟨"HedgeCommitteeModel", "childFrom", "(II)I"⟩, 26)) (by unfold lw_privs; exact (List.mem_append_right _ (List.mem_of_getElem? (l := lw_privs_5) (i := 9) rfl))) rfl
theorem gw_65 : Cond.selects "HedgeCommitteeModel" ⟨"HedgeCommitteeModel", "next", "(II)I"⟩ ⟨"HedgeCommitteeModel", "next", "(II)I"⟩ ∈ gw := gw_p (q := (⟨"HedgeCommitteeModel", "next", "(II)I"⟩, 26)) (by unfold lw_privs; exact (List.mem_append_right _ (List.mem_of_getElem? (l := lw_privs_5) (i := 10) rfl))) rfl
theorem gw_66 : Cond.initialized "HedgeCommitteeLaw" ∈ gw := gw_t (tb_1 (List.mem_of_getElem? (i := 0) rfl)) rfl
theorem gw_67 : Cond.initialized "HedgeCommittee" ∈ gw := gw_t (tb_1 (List.mem_of_getElem? (i := 1) rfl)) rfl
theorem gw_68 : Cond.initialized "HedgeCommittee$State" ∈ gw := gw_t (tb_1 (List.mem_of_getElem? (i := 2) rfl)) rfl
theorem gw_69 : Cond.initialized "HedgeCommittee$Hedges" ∈ gw := gw_t (tb_1 (List.mem_of_getElem? (i := 3) rfl)) rfl
theorem gw_70 : Cond.initialized "HedgeCommittee$Motions" ∈ gw := gw_t (tb_1 (List.mem_of_getElem? (i := 4) rfl)) rfl
theorem gw_71 : Cond.initialized "HedgeCommittee$History" ∈ gw := gw_t (tb_1 (List.mem_of_getElem? (i := 5) rfl)) rfl
theorem gw_72 : Cond.initialized "HedgeCommittee$Trees" ∈ gw := gw_t (tb_1 (List.mem_of_getElem? (i := 6) rfl)) rfl
theorem gw_73 : Cond.initialized "HedgeCommittee$Program" ∈ gw := gw_t (tb_1 (List.mem_of_getElem? (i := 7) rfl)) rfl
theorem gw_74 : Cond.initialized "java/util/AbstractCollection" ∈ gw := gw_t (tb_1 (List.mem_of_getElem? (i := 8) rfl)) rfl
theorem gw_75 : Cond.initialized "java/util/AbstractList" ∈ gw := gw_t (tb_1 (List.mem_of_getElem? (i := 9) rfl)) rfl
theorem gw_76 : Cond.initialized "java/util/ArrayList" ∈ gw := gw_t (tb_1 (List.mem_of_getElem? (i := 10) rfl)) rfl
theorem gw_77 : Cond.initialized "java/lang/AbstractStringBuilder" ∈ gw := gw_t (tb_1 (List.mem_of_getElem? (i := 11) rfl)) rfl
theorem gw_78 : Cond.initialized "java/lang/StringBuilder" ∈ gw := gw_t (tb_1 (List.mem_of_getElem? (i := 12) rfl)) rfl
theorem gw_79 : Cond.initialized "java/lang/String" ∈ gw := gw_t (tb_1 (List.mem_of_getElem? (i := 13) rfl)) rfl
theorem gw_81 : Cond.initialized "HedgeCommitteeModel" ∈ gw := gw_t (tb_1 (List.mem_of_getElem? (i := 15) rfl)) rfl
theorem gw_82 : Cond.initialized "java/lang/System" ∈ gw := gw_t (tb_1 (List.mem_of_getElem? (i := 16) rfl)) rfl
theorem gw_83 : Cond.initialized "java/lang/Throwable" ∈ gw := gw_t (tb_1 (List.mem_of_getElem? (i := 17) rfl)) rfl
theorem gw_86 : Cond.initialized "java/lang/IllegalArgumentException" ∈ gw := gw_t (tb_1 (List.mem_of_getElem? (i := 20) rfl)) rfl
theorem gw_87 : Cond.initialized "java/lang/IllegalStateException" ∈ gw := gw_t (tb_1 (List.mem_of_getElem? (i := 21) rfl)) rfl
theorem gw_88 : Cond.initialized "java/util/NoSuchElementException" ∈ gw := gw_t (tb_1 (List.mem_of_getElem? (i := 22) rfl)) rfl
theorem gw_89 : Cond.initialized "java/lang/Math" ∈ gw := gw_t (tb_1 (List.mem_of_getElem? (i := 23) rfl)) rfl
theorem gw_90 : Cond.initialized "java/lang/IndexOutOfBoundsException" ∈ gw := gw_t (tb_1 (List.mem_of_getElem? (i := 24) rfl)) rfl
theorem gw_92 : Cond.initialized "java/lang/UnsupportedOperationException" ∈ gw := gw_t (tb_1 (List.mem_of_getElem? (i := 26) rfl)) rfl
theorem gw_93 : Cond.initialized "java/util/Arrays" ∈ gw := gw_t (tb_1 (List.mem_of_getElem? (i := 27) rfl)) rfl
theorem gw_94 : Cond.initialized "java/lang/ArithmeticException" ∈ gw := gw_t (tb_1 (List.mem_of_getElem? (i := 28) rfl)) rfl
theorem gw_95 : Cond.initialized "java/lang/StringLatin1" ∈ gw := gw_t (tb_1 (List.mem_of_getElem? (i := 29) rfl)) rfl
theorem gw_96 : Cond.initialized "jdk/internal/util/Preconditions" ∈ gw := gw_t (tb_1 (List.mem_of_getElem? (i := 30) rfl)) rfl
theorem gw_97 : Cond.initialized "HedgeCommittee$Command" ∈ gw := gw_t (tb_1 (List.mem_of_getElem? (i := 31) rfl)) rfl
theorem gw_98 : Cond.initialized "jdk/internal/util/ArraysSupport" ∈ gw := gw_t (tb_1 (List.mem_of_getElem? (i := 32) rfl)) rfl
theorem gw_99 : Cond.initialized "java/util/Objects" ∈ gw := gw_t (tb_1 (List.mem_of_getElem? (i := 33) rfl)) rfl
theorem gw_103 : Cond.initialized "java/lang/Integer" ∈ gw := gw_t (tb_1 (List.mem_of_getElem? (i := 37) rfl)) rfl
theorem gw_104 : Cond.classLink "HedgeCommitteeLaw" 8 "HedgeCommittee" ∈ gw := gw_t (tb_1 (List.mem_of_getElem? (i := 38) rfl)) rfl
theorem gw_105 : Cond.instantiable "HedgeCommittee" 9 ∈ gw := gw_t (tb_1 (List.mem_of_getElem? (i := 39) rfl)) rfl
theorem gw_106 : Cond.methodLink "HedgeCommitteeLaw" 139 ⟨"HedgeCommittee", "<init>", "()V"⟩ ∈ gw := gw_t (tb_1 (List.mem_of_getElem? (i := 40) rfl)) rfl
theorem gw_107 : Cond.instanceMethod ⟨"HedgeCommittee", "<init>", "()V"⟩ ∈ gw := gw_t (tb_1 (List.mem_of_getElem? (i := 41) rfl)) rfl
theorem gw_108 : Cond.code ⟨"HedgeCommittee", "<init>", "()V"⟩ prog_1_method_1_code 1 none ∈ gw := gw_t (tb_1 (List.mem_of_getElem? (i := 42) rfl)) rfl
theorem gw_109 : Cond.methodLink "HedgeCommittee" 1 ⟨"java/lang/Object", "<init>", "()V"⟩ ∈ gw := gw_t (tb_1 (List.mem_of_getElem? (i := 43) rfl)) rfl
theorem gw_110 : Cond.instanceMethod ⟨"java/lang/Object", "<init>", "()V"⟩ ∈ gw := gw_t (tb_1 (List.mem_of_getElem? (i := 44) rfl)) rfl
theorem gw_111 : Cond.code ⟨"java/lang/Object", "<init>", "()V"⟩ object_method_1_code 1 none ∈ gw := gw_t (tb_1 (List.mem_of_getElem? (i := 45) rfl)) rfl
theorem gw_112 : Cond.classLink "HedgeCommittee" 7 "HedgeCommittee$State" ∈ gw := gw_t (tb_1 (List.mem_of_getElem? (i := 46) rfl)) rfl
theorem gw_113 : Cond.instantiable "HedgeCommittee$State" 11 ∈ gw := gw_t (tb_1 (List.mem_of_getElem? (i := 47) rfl)) rfl
theorem gw_114 : Cond.methodLink "HedgeCommittee" 9 ⟨"HedgeCommittee$State", "<init>", "()V"⟩ ∈ gw := gw_t (tb_1 (List.mem_of_getElem? (i := 48) rfl)) rfl
theorem gw_115 : Cond.instanceMethod ⟨"HedgeCommittee$State", "<init>", "()V"⟩ ∈ gw := gw_t (tb_1 (List.mem_of_getElem? (i := 49) rfl)) rfl
theorem gw_116 : Cond.code ⟨"HedgeCommittee$State", "<init>", "()V"⟩ prog_9_method_1_code 1 none ∈ gw := gw_t (tb_1 (List.mem_of_getElem? (i := 50) rfl)) rfl
theorem gw_117 : Cond.methodLink "HedgeCommittee$State" 3 ⟨"java/lang/Object", "<init>", "()V"⟩ ∈ gw := gw_t (tb_1 (List.mem_of_getElem? (i := 51) rfl)) rfl
theorem gw_118 : Cond.classLink "HedgeCommittee$State" 9 "HedgeCommittee$Hedges" ∈ gw := gw_t (tb_1 (List.mem_of_getElem? (i := 52) rfl)) rfl
theorem gw_119 : Cond.instantiable "HedgeCommittee$Hedges" 4 ∈ gw := gw_t (tb_1 (List.mem_of_getElem? (i := 53) rfl)) rfl
theorem gw_120 : Cond.methodLink "HedgeCommittee$State" 11 ⟨"HedgeCommittee$Hedges", "<init>", "()V"⟩ ∈ gw := gw_t (tb_1 (List.mem_of_getElem? (i := 54) rfl)) rfl
theorem gw_121 : Cond.instanceMethod ⟨"HedgeCommittee$Hedges", "<init>", "()V"⟩ ∈ gw := gw_t (tb_1 (List.mem_of_getElem? (i := 55) rfl)) rfl
theorem gw_122 : Cond.code ⟨"HedgeCommittee$Hedges", "<init>", "()V"⟩ prog_4_method_1_code 1 none ∈ gw := gw_t (tb_1 (List.mem_of_getElem? (i := 56) rfl)) rfl
theorem gw_123 : Cond.methodLink "HedgeCommittee$Hedges" 3 ⟨"java/lang/Object", "<init>", "()V"⟩ ∈ gw := gw_t (tb_1 (List.mem_of_getElem? (i := 57) rfl)) rfl
theorem gw_124 : Cond.fieldLink "HedgeCommittee$Hedges" 9 "HedgeCommittee$Hedges" "leaves" "[I" ∈ gw := gw_t (tb_1 (List.mem_of_getElem? (i := 58) rfl)) rfl
theorem gw_126 : Cond.fieldLink "HedgeCommittee$Hedges" 15 "HedgeCommittee$Hedges" "thorns" "[I" ∈ gw := gw_t (tb_1 (List.mem_of_getElem? (i := 60) rfl)) rfl
theorem gw_128 : Cond.fieldLink "HedgeCommittee$Hedges" 18 "HedgeCommittee$Hedges" "tastes" "[I" ∈ gw := gw_t (tb_1 (List.mem_of_getElem? (i := 62) rfl)) rfl
theorem gw_129 : Cond.fieldLink "HedgeCommittee$Hedges" 21 "HedgeCommittee$Hedges" "count" "I" ∈ gw := gw_t (tb_1 (List.mem_of_getElem? (i := 63) rfl)) rfl
theorem gw_132 : Cond.laysFinal "HedgeCommittee$Hedges" "HedgeCommittee$Hedges" "leaves" "[I" ∈ gw := gw_t (tb_1 (List.mem_of_getElem? (i := 66) rfl)) rfl
theorem gw_134 : Cond.laysFinal "HedgeCommittee$Hedges" "HedgeCommittee$Hedges" "thorns" "[I" ∈ gw := gw_t (tb_1 (List.mem_of_getElem? (i := 68) rfl)) rfl
theorem gw_136 : Cond.laysFinal "HedgeCommittee$Hedges" "HedgeCommittee$Hedges" "tastes" "[I" ∈ gw := gw_t (tb_1 (List.mem_of_getElem? (i := 70) rfl)) rfl
theorem gw_138 : Cond.lays "HedgeCommittee$Hedges" "HedgeCommittee$Hedges" "count" "I" ∈ gw := gw_t (tb_1 (List.mem_of_getElem? (i := 72) rfl)) rfl
theorem gw_141 : Cond.arrayClass .int ∈ gw := gw_t (tb_1 (List.mem_of_getElem? (i := 75) rfl)) (by decide +kernel)
theorem gw_142 : Cond.classLink "HedgeCommittee$State" 18 "HedgeCommittee$Motions" ∈ gw := gw_t (tb_1 (List.mem_of_getElem? (i := 76) rfl)) rfl
theorem gw_143 : Cond.instantiable "HedgeCommittee$Motions" 6 ∈ gw := gw_t (tb_1 (List.mem_of_getElem? (i := 77) rfl)) rfl
theorem gw_144 : Cond.methodLink "HedgeCommittee$State" 20 ⟨"HedgeCommittee$Motions", "<init>", "()V"⟩ ∈ gw := gw_t (tb_1 (List.mem_of_getElem? (i := 78) rfl)) rfl
theorem gw_145 : Cond.instanceMethod ⟨"HedgeCommittee$Motions", "<init>", "()V"⟩ ∈ gw := gw_t (tb_1 (List.mem_of_getElem? (i := 79) rfl)) rfl
theorem gw_146 : Cond.code ⟨"HedgeCommittee$Motions", "<init>", "()V"⟩ prog_7_method_1_code 1 none ∈ gw := gw_t (tb_1 (List.mem_of_getElem? (i := 80) rfl)) rfl
theorem gw_147 : Cond.methodLink "HedgeCommittee$Motions" 3 ⟨"java/lang/Object", "<init>", "()V"⟩ ∈ gw := gw_t (tb_1 (List.mem_of_getElem? (i := 81) rfl)) rfl
theorem gw_148 : Cond.fieldLink "HedgeCommittee$Motions" 9 "HedgeCommittee$Motions" "ids" "[I" ∈ gw := gw_t (tb_1 (List.mem_of_getElem? (i := 82) rfl)) rfl
theorem gw_150 : Cond.fieldLink "HedgeCommittee$Motions" 15 "HedgeCommittee$Motions" "tones" "[I" ∈ gw := gw_t (tb_1 (List.mem_of_getElem? (i := 84) rfl)) rfl
theorem gw_153 : Cond.fieldLink "HedgeCommittee$Motions" 18 "HedgeCommittee$Motions" "weights" "[I" ∈ gw := gw_t (tb_1 (List.mem_of_getElem? (i := 87) rfl)) rfl
theorem gw_157 : Cond.fieldLink "HedgeCommittee$Motions" 21 "HedgeCommittee$Motions" "parents" "[I" ∈ gw := gw_t (tb_1 (List.mem_of_getElem? (i := 91) rfl)) rfl
theorem gw_161 : Cond.fieldLink "HedgeCommittee$Motions" 24 "HedgeCommittee$Motions" "count" "I" ∈ gw := gw_t (tb_1 (List.mem_of_getElem? (i := 95) rfl)) rfl
theorem gw_165 : Cond.fieldLink "HedgeCommittee$Motions" 28 "HedgeCommittee$Motions" "nextId" "I" ∈ gw := gw_t (tb_1 (List.mem_of_getElem? (i := 99) rfl)) rfl
theorem gw_166 : Cond.laysFinal "HedgeCommittee$Motions" "HedgeCommittee$Motions" "ids" "[I" ∈ gw := gw_t (tb_1 (List.mem_of_getElem? (i := 100) rfl)) rfl
theorem gw_168 : Cond.laysFinal "HedgeCommittee$Motions" "HedgeCommittee$Motions" "tones" "[I" ∈ gw := gw_t (tb_1 (List.mem_of_getElem? (i := 102) rfl)) rfl
theorem gw_170 : Cond.laysFinal "HedgeCommittee$Motions" "HedgeCommittee$Motions" "weights" "[I" ∈ gw := gw_t (tb_1 (List.mem_of_getElem? (i := 104) rfl)) rfl
theorem gw_172 : Cond.laysFinal "HedgeCommittee$Motions" "HedgeCommittee$Motions" "parents" "[I" ∈ gw := gw_t (tb_1 (List.mem_of_getElem? (i := 106) rfl)) rfl
theorem gw_174 : Cond.lays "HedgeCommittee$Motions" "HedgeCommittee$Motions" "count" "I" ∈ gw := gw_t (tb_1 (List.mem_of_getElem? (i := 108) rfl)) rfl
theorem gw_176 : Cond.lays "HedgeCommittee$Motions" "HedgeCommittee$Motions" "nextId" "I" ∈ gw := gw_t (tb_1 (List.mem_of_getElem? (i := 110) rfl)) rfl
theorem gw_179 : Cond.fieldLink "HedgeCommittee$State" 12 "HedgeCommittee$State" "hedges" "LHedgeCommittee$Hedges;" ∈ gw := gw_t (tb_1 (List.mem_of_getElem? (i := 113) rfl)) rfl
theorem gw_181 : Cond.fieldLink "HedgeCommittee$State" 21 "HedgeCommittee$State" "motions" "LHedgeCommittee$Motions;" ∈ gw := gw_t (tb_1 (List.mem_of_getElem? (i := 115) rfl)) rfl
theorem gw_183 : Cond.fieldLink "HedgeCommittee$State" 25 "HedgeCommittee$State" "minutes" "[I" ∈ gw := gw_t (tb_1 (List.mem_of_getElem? (i := 117) rfl)) rfl
theorem gw_185 : Cond.fieldLink "HedgeCommittee$State" 29 "HedgeCommittee$State" "season" "I" ∈ gw := gw_t (tb_1 (List.mem_of_getElem? (i := 119) rfl)) rfl
theorem gw_187 : Cond.fieldLink "HedgeCommittee$State" 46 "HedgeCommittee$State" "votes" "I" ∈ gw := gw_t (tb_1 (List.mem_of_getElem? (i := 121) rfl)) rfl
theorem gw_189 : Cond.fieldLink "HedgeCommittee$State" 49 "HedgeCommittee$State" "carriedVotes" "I" ∈ gw := gw_t (tb_1 (List.mem_of_getElem? (i := 123) rfl)) rfl
theorem gw_191 : Cond.fieldLink "HedgeCommittee$State" 52 "HedgeCommittee$State" "begun" "I" ∈ gw := gw_t (tb_1 (List.mem_of_getElem? (i := 125) rfl)) rfl
theorem gw_192 : Cond.fieldLink "HedgeCommittee$State" 55 "HedgeCommittee$State" "pruned" "I" ∈ gw := gw_t (tb_1 (List.mem_of_getElem? (i := 126) rfl)) rfl
theorem gw_193 : Cond.fieldLink "HedgeCommittee$State" 58 "HedgeCommittee$State" "rejected" "I" ∈ gw := gw_t (tb_1 (List.mem_of_getElem? (i := 127) rfl)) rfl
theorem gw_194 : Cond.fieldLink "HedgeCommittee$State" 61 "HedgeCommittee$State" "vetoed" "I" ∈ gw := gw_t (tb_1 (List.mem_of_getElem? (i := 128) rfl)) rfl
theorem gw_195 : Cond.fieldLink "HedgeCommittee$State" 64 "HedgeCommittee$State" "adopted" "I" ∈ gw := gw_t (tb_1 (List.mem_of_getElem? (i := 129) rfl)) rfl
theorem gw_197 : Cond.laysFinal "HedgeCommittee$State" "HedgeCommittee$State" "hedges" "LHedgeCommittee$Hedges;" ∈ gw := gw_t (tb_1 (List.mem_of_getElem? (i := 131) rfl)) rfl
theorem gw_199 : Cond.laysFinal "HedgeCommittee$State" "HedgeCommittee$State" "motions" "LHedgeCommittee$Motions;" ∈ gw := gw_t (tb_1 (List.mem_of_getElem? (i := 133) rfl)) rfl
theorem gw_201 : Cond.laysFinal "HedgeCommittee$State" "HedgeCommittee$State" "minutes" "[I" ∈ gw := gw_t (tb_1 (List.mem_of_getElem? (i := 135) rfl)) rfl
theorem gw_203 : Cond.lays "HedgeCommittee$State" "HedgeCommittee$State" "season" "I" ∈ gw := gw_t (tb_1 (List.mem_of_getElem? (i := 137) rfl)) rfl
theorem gw_205 : Cond.lays "HedgeCommittee$State" "HedgeCommittee$State" "votes" "I" ∈ gw := gw_t (tb_1 (List.mem_of_getElem? (i := 139) rfl)) rfl
theorem gw_207 : Cond.lays "HedgeCommittee$State" "HedgeCommittee$State" "carriedVotes" "I" ∈ gw := gw_t (tb_1 (List.mem_of_getElem? (i := 141) rfl)) rfl
theorem gw_209 : Cond.lays "HedgeCommittee$State" "HedgeCommittee$State" "begun" "I" ∈ gw := gw_t (tb_1 (List.mem_of_getElem? (i := 143) rfl)) rfl
theorem gw_211 : Cond.lays "HedgeCommittee$State" "HedgeCommittee$State" "pruned" "I" ∈ gw := gw_t (tb_1 (List.mem_of_getElem? (i := 145) rfl)) rfl
theorem gw_213 : Cond.lays "HedgeCommittee$State" "HedgeCommittee$State" "rejected" "I" ∈ gw := gw_t (tb_1 (List.mem_of_getElem? (i := 147) rfl)) rfl
theorem gw_215 : Cond.lays "HedgeCommittee$State" "HedgeCommittee$State" "vetoed" "I" ∈ gw := gw_t (tb_1 (List.mem_of_getElem? (i := 149) rfl)) rfl
theorem gw_217 : Cond.lays "HedgeCommittee$State" "HedgeCommittee$State" "adopted" "I" ∈ gw := gw_t (tb_1 (List.mem_of_getElem? (i := 151) rfl)) rfl
theorem gw_220 : Cond.classLink "HedgeCommittee" 19 "HedgeCommittee$History" ∈ gw := gw_t (tb_1 (List.mem_of_getElem? (i := 154) rfl)) rfl
theorem gw_221 : Cond.instantiable "HedgeCommittee$History" 2 ∈ gw := gw_t (tb_1 (List.mem_of_getElem? (i := 155) rfl)) rfl
theorem gw_222 : Cond.methodLink "HedgeCommittee" 21 ⟨"HedgeCommittee$History", "<init>", "()V"⟩ ∈ gw := gw_t (tb_1 (List.mem_of_getElem? (i := 156) rfl)) rfl
theorem gw_223 : Cond.instanceMethod ⟨"HedgeCommittee$History", "<init>", "()V"⟩ ∈ gw := gw_t (tb_1 (List.mem_of_getElem? (i := 157) rfl)) rfl
theorem gw_224 : Cond.code ⟨"HedgeCommittee$History", "<init>", "()V"⟩ prog_5_method_1_code 2 none ∈ gw := gw_t (tb_1 (List.mem_of_getElem? (i := 158) rfl)) rfl
theorem gw_225 : Cond.methodLink "HedgeCommittee$History" 3 ⟨"java/lang/Object", "<init>", "()V"⟩ ∈ gw := gw_t (tb_1 (List.mem_of_getElem? (i := 159) rfl)) rfl
theorem gw_226 : Cond.classLink "HedgeCommittee$History" 9 "HedgeCommittee$State" ∈ gw := gw_t (tb_1 (List.mem_of_getElem? (i := 160) rfl)) rfl
theorem gw_228 : Cond.methodLink "HedgeCommittee$History" 17 ⟨"HedgeCommittee$State", "<init>", "()V"⟩ ∈ gw := gw_t (tb_1 (List.mem_of_getElem? (i := 162) rfl)) rfl
theorem gw_229 : Cond.fieldLink "HedgeCommittee$History" 11 "HedgeCommittee$History" "states" "[LHedgeCommittee$State;" ∈ gw := gw_t (tb_1 (List.mem_of_getElem? (i := 163) rfl)) rfl
theorem gw_230 : Cond.fieldLink "HedgeCommittee$History" 18 "HedgeCommittee$History" "count" "I" ∈ gw := gw_t (tb_1 (List.mem_of_getElem? (i := 164) rfl)) rfl
theorem gw_232 : Cond.laysFinal "HedgeCommittee$History" "HedgeCommittee$History" "states" "[LHedgeCommittee$State;" ∈ gw := gw_t (tb_1 (List.mem_of_getElem? (i := 166) rfl)) rfl
theorem gw_234 : Cond.lays "HedgeCommittee$History" "HedgeCommittee$History" "count" "I" ∈ gw := gw_t (tb_1 (List.mem_of_getElem? (i := 168) rfl)) rfl
theorem gw_237 : Cond.classLink "HedgeCommittee" 26 "HedgeCommittee$Trees" ∈ gw := gw_t (tb_1 (List.mem_of_getElem? (i := 171) rfl)) rfl
theorem gw_238 : Cond.instantiable "HedgeCommittee$Trees" 6 ∈ gw := gw_t (tb_1 (List.mem_of_getElem? (i := 172) rfl)) rfl
theorem gw_239 : Cond.methodLink "HedgeCommittee" 28 ⟨"HedgeCommittee$Trees", "<init>", "()V"⟩ ∈ gw := gw_t (tb_1 (List.mem_of_getElem? (i := 173) rfl)) rfl
theorem gw_240 : Cond.instanceMethod ⟨"HedgeCommittee$Trees", "<init>", "()V"⟩ ∈ gw := gw_t (tb_1 (List.mem_of_getElem? (i := 174) rfl)) rfl
theorem gw_241 : Cond.code ⟨"HedgeCommittee$Trees", "<init>", "()V"⟩ prog_10_method_1_code 1 none ∈ gw := gw_t (tb_1 (List.mem_of_getElem? (i := 175) rfl)) rfl
theorem gw_242 : Cond.methodLink "HedgeCommittee$Trees" 3 ⟨"java/lang/Object", "<init>", "()V"⟩ ∈ gw := gw_t (tb_1 (List.mem_of_getElem? (i := 176) rfl)) rfl
theorem gw_243 : Cond.fieldLink "HedgeCommittee$Trees" 9 "HedgeCommittee$Trees" "rowOfOne" "[I" ∈ gw := gw_t (tb_1 (List.mem_of_getElem? (i := 177) rfl)) rfl
theorem gw_244 : Cond.fieldLink "HedgeCommittee$Trees" 15 "HedgeCommittee$Trees" "rowOfOther" "[I" ∈ gw := gw_t (tb_1 (List.mem_of_getElem? (i := 178) rfl)) rfl
theorem gw_245 : Cond.fieldLink "HedgeCommittee$Trees" 18 "HedgeCommittee$Trees" "heights" "[I" ∈ gw := gw_t (tb_1 (List.mem_of_getElem? (i := 179) rfl)) rfl
theorem gw_246 : Cond.fieldLink "HedgeCommittee$Trees" 21 "HedgeCommittee$Trees" "distances" "[I" ∈ gw := gw_t (tb_1 (List.mem_of_getElem? (i := 180) rfl)) rfl
theorem gw_247 : Cond.fieldLink "HedgeCommittee$Trees" 24 "HedgeCommittee$Trees" "with" "[J" ∈ gw := gw_t (tb_1 (List.mem_of_getElem? (i := 181) rfl)) rfl
theorem gw_248 : Cond.fieldLink "HedgeCommittee$Trees" 28 "HedgeCommittee$Trees" "without" "[J" ∈ gw := gw_t (tb_1 (List.mem_of_getElem? (i := 182) rfl)) rfl
theorem gw_249 : Cond.laysFinal "HedgeCommittee$Trees" "HedgeCommittee$Trees" "rowOfOne" "[I" ∈ gw := gw_t (tb_1 (List.mem_of_getElem? (i := 183) rfl)) rfl
theorem gw_251 : Cond.laysFinal "HedgeCommittee$Trees" "HedgeCommittee$Trees" "rowOfOther" "[I" ∈ gw := gw_t (tb_1 (List.mem_of_getElem? (i := 185) rfl)) rfl
theorem gw_253 : Cond.laysFinal "HedgeCommittee$Trees" "HedgeCommittee$Trees" "heights" "[I" ∈ gw := gw_t (tb_1 (List.mem_of_getElem? (i := 187) rfl)) rfl
theorem gw_255 : Cond.laysFinal "HedgeCommittee$Trees" "HedgeCommittee$Trees" "distances" "[I" ∈ gw := gw_t (tb_1 (List.mem_of_getElem? (i := 189) rfl)) rfl
theorem gw_257 : Cond.laysFinal "HedgeCommittee$Trees" "HedgeCommittee$Trees" "with" "[J" ∈ gw := gw_t (tb_1 (List.mem_of_getElem? (i := 191) rfl)) rfl
theorem gw_259 : Cond.laysFinal "HedgeCommittee$Trees" "HedgeCommittee$Trees" "without" "[J" ∈ gw := gw_t (tb_1 (List.mem_of_getElem? (i := 193) rfl)) rfl
theorem gw_262 : Cond.arrayClass .long ∈ gw := gw_t (tb_1 (List.mem_of_getElem? (i := 196) rfl)) (by decide +kernel)
theorem gw_263 : Cond.classLink "HedgeCommittee" 33 "HedgeCommittee$Program" ∈ gw := gw_t (tb_1 (List.mem_of_getElem? (i := 197) rfl)) rfl
theorem gw_264 : Cond.instantiable "HedgeCommittee$Program" 5 ∈ gw := gw_t (tb_1 (List.mem_of_getElem? (i := 198) rfl)) rfl
theorem gw_265 : Cond.methodLink "HedgeCommittee" 35 ⟨"HedgeCommittee$Program", "<init>", "()V"⟩ ∈ gw := gw_t (tb_1 (List.mem_of_getElem? (i := 199) rfl)) rfl
theorem gw_266 : Cond.instanceMethod ⟨"HedgeCommittee$Program", "<init>", "()V"⟩ ∈ gw := gw_t (tb_1 (List.mem_of_getElem? (i := 200) rfl)) rfl
theorem gw_267 : Cond.code ⟨"HedgeCommittee$Program", "<init>", "()V"⟩ prog_8_method_1_code 1 none ∈ gw := gw_t (tb_1 (List.mem_of_getElem? (i := 201) rfl)) rfl
theorem gw_268 : Cond.methodLink "HedgeCommittee$Program" 3 ⟨"java/lang/Object", "<init>", "()V"⟩ ∈ gw := gw_t (tb_1 (List.mem_of_getElem? (i := 202) rfl)) rfl
theorem gw_269 : Cond.classLink "HedgeCommittee$Program" 19 "java/util/ArrayList" ∈ gw := gw_t (tb_1 (List.mem_of_getElem? (i := 203) rfl)) rfl
theorem gw_270 : Cond.instantiable "java/util/ArrayList" 3 ∈ gw := gw_t (tb_1 (List.mem_of_getElem? (i := 204) rfl)) rfl
theorem gw_271 : Cond.methodLink "HedgeCommittee$Program" 21 ⟨"java/util/ArrayList", "<init>", "()V"⟩ ∈ gw := gw_t (tb_1 (List.mem_of_getElem? (i := 205) rfl)) rfl
theorem gw_272 : Cond.instanceMethod ⟨"java/util/ArrayList", "<init>", "()V"⟩ ∈ gw := gw_t (tb_1 (List.mem_of_getElem? (i := 206) rfl)) rfl
theorem gw_273 : Cond.code ⟨"java/util/ArrayList", "<init>", "()V"⟩ prog_43_method_2_code 1 none ∈ gw := gw_t (tb_1 (List.mem_of_getElem? (i := 207) rfl)) rfl
theorem gw_274 : Cond.methodLink "java/util/ArrayList" 1 ⟨"java/util/AbstractList", "<init>", "()V"⟩ ∈ gw := gw_t (tb_1 (List.mem_of_getElem? (i := 208) rfl)) rfl
theorem gw_275 : Cond.instanceMethod ⟨"java/util/AbstractList", "<init>", "()V"⟩ ∈ gw := gw_t (tb_1 (List.mem_of_getElem? (i := 209) rfl)) rfl
theorem gw_276 : Cond.code ⟨"java/util/AbstractList", "<init>", "()V"⟩ prog_42_method_1_code 1 none ∈ gw := gw_t (tb_1 (List.mem_of_getElem? (i := 210) rfl)) rfl
theorem gw_277 : Cond.methodLink "java/util/AbstractList" 1 ⟨"java/util/AbstractCollection", "<init>", "()V"⟩ ∈ gw := gw_t (tb_1 (List.mem_of_getElem? (i := 211) rfl)) rfl
theorem gw_278 : Cond.instanceMethod ⟨"java/util/AbstractCollection", "<init>", "()V"⟩ ∈ gw := gw_t (tb_1 (List.mem_of_getElem? (i := 212) rfl)) rfl
theorem gw_279 : Cond.code ⟨"java/util/AbstractCollection", "<init>", "()V"⟩ prog_41_method_1_code 1 none ∈ gw := gw_t (tb_1 (List.mem_of_getElem? (i := 213) rfl)) rfl
theorem gw_280 : Cond.methodLink "java/util/AbstractCollection" 1 ⟨"java/lang/Object", "<init>", "()V"⟩ ∈ gw := gw_t (tb_1 (List.mem_of_getElem? (i := 214) rfl)) rfl
theorem gw_281 : Cond.fieldLink "java/util/ArrayList" 39 "java/util/ArrayList" "DEFAULTCAPACITY_EMPTY_ELEMENTDATA" "[Ljava/lang/Object;" ∈ gw := gw_t (tb_1 (List.mem_of_getElem? (i := 215) rfl)) rfl
theorem gw_283 : Cond.fieldLink "java/util/ArrayList" 9 "java/util/ArrayList" "elementData" "[Ljava/lang/Object;" ∈ gw := gw_t (tb_1 (List.mem_of_getElem? (i := 217) rfl)) rfl
theorem gw_284 : Cond.fieldLink "java/util/ArrayList" 48 "java/util/ArrayList" "size" "I" ∈ gw := gw_t (tb_1 (List.mem_of_getElem? (i := 218) rfl)) rfl
theorem gw_285 : Cond.fieldLink "java/util/AbstractList" 7 "java/util/AbstractList" "modCount" "I" ∈ gw := gw_t (tb_1 (List.mem_of_getElem? (i := 219) rfl)) rfl
theorem gw_286 : Cond.fieldLink "java/util/ArrayList" 63 "java/util/ArrayList" "modCount" "I" ∈ gw := gw_t (tb_1 (List.mem_of_getElem? (i := 220) rfl)) rfl
theorem gw_288 : Cond.lays "java/util/ArrayList" "java/util/ArrayList" "elementData" "[Ljava/lang/Object;" ∈ gw := gw_t (tb_1 (List.mem_of_getElem? (i := 222) rfl)) rfl
theorem gw_290 : Cond.lays "java/util/ArrayList" "java/util/ArrayList" "size" "I" ∈ gw := gw_t (tb_1 (List.mem_of_getElem? (i := 224) rfl)) rfl
theorem gw_292 : Cond.lays "java/util/ArrayList" "java/util/AbstractList" "modCount" "I" ∈ gw := gw_t (tb_1 (List.mem_of_getElem? (i := 226) rfl)) rfl
theorem gw_295 : Cond.arrayClass .char ∈ gw := gw_t (tb_1 (List.mem_of_getElem? (i := 229) rfl)) (by decide +kernel)
theorem gw_296 : Cond.fieldLink "HedgeCommittee$Program" 9 "HedgeCommittee$Program" "text" "[C" ∈ gw := gw_t (tb_1 (List.mem_of_getElem? (i := 230) rfl)) rfl
theorem gw_297 : Cond.fieldLink "HedgeCommittee$Program" 15 "HedgeCommittee$Program" "arguments" "[I" ∈ gw := gw_t (tb_1 (List.mem_of_getElem? (i := 231) rfl)) rfl
theorem gw_298 : Cond.fieldLink "HedgeCommittee$Program" 22 "HedgeCommittee$Program" "commands" "Ljava/util/ArrayList;" ∈ gw := gw_t (tb_1 (List.mem_of_getElem? (i := 232) rfl)) rfl
theorem gw_300 : Cond.fieldLink "HedgeCommittee$Program" 26 "HedgeCommittee$Program" "length" "I" ∈ gw := gw_t (tb_1 (List.mem_of_getElem? (i := 234) rfl)) rfl
theorem gw_301 : Cond.fieldLink "HedgeCommittee$Program" 30 "HedgeCommittee$Program" "at" "I" ∈ gw := gw_t (tb_1 (List.mem_of_getElem? (i := 235) rfl)) rfl
theorem gw_302 : Cond.laysFinal "HedgeCommittee$Program" "HedgeCommittee$Program" "text" "[C" ∈ gw := gw_t (tb_1 (List.mem_of_getElem? (i := 236) rfl)) rfl
theorem gw_304 : Cond.laysFinal "HedgeCommittee$Program" "HedgeCommittee$Program" "arguments" "[I" ∈ gw := gw_t (tb_1 (List.mem_of_getElem? (i := 238) rfl)) rfl
theorem gw_306 : Cond.laysFinal "HedgeCommittee$Program" "HedgeCommittee$Program" "commands" "Ljava/util/ArrayList;" ∈ gw := gw_t (tb_2 (List.mem_of_getElem? (i := 0) rfl)) rfl
theorem gw_308 : Cond.lays "HedgeCommittee$Program" "HedgeCommittee$Program" "length" "I" ∈ gw := gw_t (tb_2 (List.mem_of_getElem? (i := 2) rfl)) rfl
theorem gw_310 : Cond.lays "HedgeCommittee$Program" "HedgeCommittee$Program" "at" "I" ∈ gw := gw_t (tb_2 (List.mem_of_getElem? (i := 4) rfl)) rfl
theorem gw_313 : Cond.classLink "HedgeCommittee" 40 "java/lang/StringBuilder" ∈ gw := gw_t (tb_2 (List.mem_of_getElem? (i := 7) rfl)) rfl
theorem gw_314 : Cond.instantiable "java/lang/StringBuilder" 4 ∈ gw := gw_t (tb_2 (List.mem_of_getElem? (i := 8) rfl)) rfl
theorem gw_315 : Cond.methodLink "HedgeCommittee" 42 ⟨"java/lang/StringBuilder", "<init>", "()V"⟩ ∈ gw := gw_t (tb_2 (List.mem_of_getElem? (i := 9) rfl)) rfl
theorem gw_316 : Cond.instanceMethod ⟨"java/lang/StringBuilder", "<init>", "()V"⟩ ∈ gw := gw_t (tb_2 (List.mem_of_getElem? (i := 10) rfl)) rfl
theorem gw_317 : Cond.code ⟨"java/lang/StringBuilder", "<init>", "()V"⟩ prog_32_method_1_code 1 none ∈ gw := gw_t (tb_2 (List.mem_of_getElem? (i := 11) rfl)) rfl
theorem gw_318 : Cond.methodLink "java/lang/StringBuilder" 1 ⟨"java/lang/AbstractStringBuilder", "<init>", "(I)V"⟩ ∈ gw := gw_t (tb_2 (List.mem_of_getElem? (i := 12) rfl)) rfl
theorem gw_319 : Cond.instanceMethod ⟨"java/lang/AbstractStringBuilder", "<init>", "(I)V"⟩ ∈ gw := gw_t (tb_2 (List.mem_of_getElem? (i := 13) rfl)) rfl
theorem gw_320 : Cond.code ⟨"java/lang/AbstractStringBuilder", "<init>", "(I)V"⟩ prog_14_method_2_code 2 none ∈ gw := gw_t (tb_2 (List.mem_of_getElem? (i := 14) rfl)) rfl
theorem gw_321 : Cond.methodLink "java/lang/AbstractStringBuilder" 3 ⟨"java/lang/Object", "<init>", "()V"⟩ ∈ gw := gw_t (tb_2 (List.mem_of_getElem? (i := 15) rfl)) rfl
theorem gw_322 : Cond.fieldLink "java/lang/AbstractStringBuilder" 18 "java/lang/String" "COMPACT_STRINGS" "Z" ∈ gw := gw_t (tb_2 (List.mem_of_getElem? (i := 16) rfl)) rfl
theorem gw_331 : Cond.fieldLink "java/lang/AbstractStringBuilder" 15 "java/lang/AbstractStringBuilder" "value" "[B" ∈ gw := gw_t (tb_2 (List.mem_of_getElem? (i := 25) rfl)) rfl
theorem gw_332 : Cond.fieldLink "java/lang/AbstractStringBuilder" 22 "java/lang/AbstractStringBuilder" "coder" "B" ∈ gw := gw_t (tb_2 (List.mem_of_getElem? (i := 26) rfl)) rfl
theorem gw_333 : Cond.fieldLink "java/lang/AbstractStringBuilder" 73 "java/lang/AbstractStringBuilder" "maybeLatin1" "Z" ∈ gw := gw_t (tb_2 (List.mem_of_getElem? (i := 27) rfl)) rfl
theorem gw_335 : Cond.fieldLink "java/lang/AbstractStringBuilder" 79 "java/lang/AbstractStringBuilder" "count" "I" ∈ gw := gw_t (tb_2 (List.mem_of_getElem? (i := 29) rfl)) rfl
theorem gw_336 : Cond.lays "java/lang/StringBuilder" "java/lang/AbstractStringBuilder" "value" "[B" ∈ gw := gw_t (tb_2 (List.mem_of_getElem? (i := 30) rfl)) rfl
theorem gw_338 : Cond.lays "java/lang/StringBuilder" "java/lang/AbstractStringBuilder" "coder" "B" ∈ gw := gw_t (tb_2 (List.mem_of_getElem? (i := 32) rfl)) rfl
theorem gw_340 : Cond.lays "java/lang/StringBuilder" "java/lang/AbstractStringBuilder" "maybeLatin1" "Z" ∈ gw := gw_t (tb_2 (List.mem_of_getElem? (i := 34) rfl)) rfl
theorem gw_342 : Cond.lays "java/lang/StringBuilder" "java/lang/AbstractStringBuilder" "count" "I" ∈ gw := gw_t (tb_2 (List.mem_of_getElem? (i := 36) rfl)) rfl
theorem gw_344 : Cond.superclass "java/lang/StringBuilder" "java/lang/AbstractStringBuilder" ∈ gw := gw_t (tb_2 (List.mem_of_getElem? (i := 38) rfl)) rfl
theorem gw_345 : Cond.arrayClass .byte ∈ gw := gw_t (tb_2 (List.mem_of_getElem? (i := 39) rfl)) (by decide +kernel)
theorem gw_346 : Cond.fieldLink "HedgeCommittee" 10 "HedgeCommittee" "state" "LHedgeCommittee$State;" ∈ gw := gw_t (tb_2 (List.mem_of_getElem? (i := 40) rfl)) rfl
theorem gw_347 : Cond.fieldLink "HedgeCommittee" 16 "HedgeCommittee" "saved" "LHedgeCommittee$State;" ∈ gw := gw_t (tb_2 (List.mem_of_getElem? (i := 41) rfl)) rfl
theorem gw_348 : Cond.fieldLink "HedgeCommittee" 22 "HedgeCommittee" "history" "LHedgeCommittee$History;" ∈ gw := gw_t (tb_2 (List.mem_of_getElem? (i := 42) rfl)) rfl
theorem gw_349 : Cond.fieldLink "HedgeCommittee" 29 "HedgeCommittee" "trees" "LHedgeCommittee$Trees;" ∈ gw := gw_t (tb_2 (List.mem_of_getElem? (i := 43) rfl)) rfl
theorem gw_350 : Cond.fieldLink "HedgeCommittee" 36 "HedgeCommittee" "program" "LHedgeCommittee$Program;" ∈ gw := gw_t (tb_2 (List.mem_of_getElem? (i := 44) rfl)) rfl
theorem gw_351 : Cond.fieldLink "HedgeCommittee" 43 "HedgeCommittee" "output" "Ljava/lang/StringBuilder;" ∈ gw := gw_t (tb_2 (List.mem_of_getElem? (i := 45) rfl)) rfl
theorem gw_352 : Cond.fieldLink "HedgeCommittee" 47 "HedgeCommittee" "hasSaved" "Z" ∈ gw := gw_t (tb_2 (List.mem_of_getElem? (i := 46) rfl)) rfl
theorem gw_353 : Cond.fieldLink "HedgeCommittee" 51 "HedgeCommittee" "lastErrorPosition" "I" ∈ gw := gw_t (tb_2 (List.mem_of_getElem? (i := 47) rfl)) rfl
theorem gw_354 : Cond.fieldLink "HedgeCommittee" 55 "HedgeCommittee" "lastFailedCommand" "I" ∈ gw := gw_t (tb_2 (List.mem_of_getElem? (i := 48) rfl)) rfl
theorem gw_355 : Cond.laysFinal "HedgeCommittee" "HedgeCommittee" "state" "LHedgeCommittee$State;" ∈ gw := gw_t (tb_2 (List.mem_of_getElem? (i := 49) rfl)) rfl
theorem gw_357 : Cond.laysFinal "HedgeCommittee" "HedgeCommittee" "saved" "LHedgeCommittee$State;" ∈ gw := gw_t (tb_2 (List.mem_of_getElem? (i := 51) rfl)) rfl
theorem gw_359 : Cond.laysFinal "HedgeCommittee" "HedgeCommittee" "history" "LHedgeCommittee$History;" ∈ gw := gw_t (tb_2 (List.mem_of_getElem? (i := 53) rfl)) rfl
theorem gw_361 : Cond.laysFinal "HedgeCommittee" "HedgeCommittee" "trees" "LHedgeCommittee$Trees;" ∈ gw := gw_t (tb_2 (List.mem_of_getElem? (i := 55) rfl)) rfl
theorem gw_363 : Cond.laysFinal "HedgeCommittee" "HedgeCommittee" "program" "LHedgeCommittee$Program;" ∈ gw := gw_t (tb_2 (List.mem_of_getElem? (i := 57) rfl)) rfl
theorem gw_365 : Cond.laysFinal "HedgeCommittee" "HedgeCommittee" "output" "Ljava/lang/StringBuilder;" ∈ gw := gw_t (tb_2 (List.mem_of_getElem? (i := 59) rfl)) rfl
theorem gw_367 : Cond.lays "HedgeCommittee" "HedgeCommittee" "hasSaved" "Z" ∈ gw := gw_t (tb_2 (List.mem_of_getElem? (i := 61) rfl)) rfl
theorem gw_369 : Cond.lays "HedgeCommittee" "HedgeCommittee" "lastErrorPosition" "I" ∈ gw := gw_t (tb_2 (List.mem_of_getElem? (i := 63) rfl)) rfl
theorem gw_371 : Cond.lays "HedgeCommittee" "HedgeCommittee" "lastFailedCommand" "I" ∈ gw := gw_t (tb_2 (List.mem_of_getElem? (i := 65) rfl)) rfl
theorem gw_374 : Cond.methodLink "HedgeCommitteeLaw" 166 ⟨"HedgeCommittee", "passSeason", "()I"⟩ ∈ gw := gw_t (tb_2 (List.mem_of_getElem? (i := 68) rfl)) rfl
theorem gw_375 : Cond.instanceMethod ⟨"HedgeCommittee", "passSeason", "()I"⟩ ∈ gw := gw_t (tb_2 (List.mem_of_getElem? (i := 69) rfl)) rfl
theorem gw_376 : Cond.selects "HedgeCommittee" ⟨"HedgeCommittee", "passSeason", "()I"⟩ ⟨"HedgeCommittee", "passSeason", "()I"⟩ ∈ gw := gw_t (tb_2 (List.mem_of_getElem? (i := 70) rfl)) rfl
theorem gw_377 : Cond.code ⟨"HedgeCommittee", "passSeason", "()I"⟩ prog_1_method_8_code 1 (some .int) ∈ gw := gw_t (tb_2 (List.mem_of_getElem? (i := 71) rfl)) rfl
theorem gw_378 : Cond.methodLink "HedgeCommittee" 58 ⟨"HedgeCommittee$History", "note", "(LHedgeCommittee$State;)V"⟩ ∈ gw := gw_t (tb_2 (List.mem_of_getElem? (i := 72) rfl)) rfl
theorem gw_379 : Cond.instanceMethod ⟨"HedgeCommittee$History", "note", "(LHedgeCommittee$State;)V"⟩ ∈ gw := gw_t (tb_2 (List.mem_of_getElem? (i := 73) rfl)) rfl
theorem gw_380 : Cond.selects "HedgeCommittee$History" ⟨"HedgeCommittee$History", "note", "(LHedgeCommittee$State;)V"⟩ ⟨"HedgeCommittee$History", "note", "(LHedgeCommittee$State;)V"⟩ ∈ gw := gw_t (tb_2 (List.mem_of_getElem? (i := 74) rfl)) rfl
theorem gw_381 : Cond.code ⟨"HedgeCommittee$History", "note", "(LHedgeCommittee$State;)V"⟩ prog_5_method_2_code 2 none ∈ gw := gw_t (tb_2 (List.mem_of_getElem? (i := 75) rfl)) rfl
theorem gw_382 : Cond.methodLink "HedgeCommittee$History" 22 ⟨"HedgeCommittee$State", "copyFrom", "(LHedgeCommittee$State;)V"⟩ ∈ gw := gw_t (tb_2 (List.mem_of_getElem? (i := 76) rfl)) rfl
theorem gw_383 : Cond.instanceMethod ⟨"HedgeCommittee$State", "copyFrom", "(LHedgeCommittee$State;)V"⟩ ∈ gw := gw_t (tb_2 (List.mem_of_getElem? (i := 77) rfl)) rfl
theorem gw_384 : Cond.selects "HedgeCommittee$State" ⟨"HedgeCommittee$State", "copyFrom", "(LHedgeCommittee$State;)V"⟩ ⟨"HedgeCommittee$State", "copyFrom", "(LHedgeCommittee$State;)V"⟩ ∈ gw := gw_t (tb_2 (List.mem_of_getElem? (i := 78) rfl)) rfl
theorem gw_385 : Cond.code ⟨"HedgeCommittee$State", "copyFrom", "(LHedgeCommittee$State;)V"⟩ prog_9_method_2_code 2 none ∈ gw := gw_t (tb_2 (List.mem_of_getElem? (i := 79) rfl)) rfl
theorem gw_386 : Cond.methodLink "HedgeCommittee$State" 33 ⟨"HedgeCommittee$Hedges", "copyFrom", "(LHedgeCommittee$Hedges;)V"⟩ ∈ gw := gw_t (tb_2 (List.mem_of_getElem? (i := 80) rfl)) rfl
theorem gw_387 : Cond.instanceMethod ⟨"HedgeCommittee$Hedges", "copyFrom", "(LHedgeCommittee$Hedges;)V"⟩ ∈ gw := gw_t (tb_2 (List.mem_of_getElem? (i := 81) rfl)) rfl
theorem gw_388 : Cond.selects "HedgeCommittee$Hedges" ⟨"HedgeCommittee$Hedges", "copyFrom", "(LHedgeCommittee$Hedges;)V"⟩ ⟨"HedgeCommittee$Hedges", "copyFrom", "(LHedgeCommittee$Hedges;)V"⟩ ∈ gw := gw_t (tb_2 (List.mem_of_getElem? (i := 82) rfl)) rfl
theorem gw_389 : Cond.code ⟨"HedgeCommittee$Hedges", "copyFrom", "(LHedgeCommittee$Hedges;)V"⟩ prog_4_method_2_code 2 none ∈ gw := gw_t (tb_2 (List.mem_of_getElem? (i := 83) rfl)) rfl
theorem gw_390 : Cond.methodLink "HedgeCommittee$Hedges" 25 ⟨"java/lang/System", "arraycopy", "(Ljava/lang/Object;ILjava/lang/Object;II)V"⟩ ∈ gw := gw_t (tb_2 (List.mem_of_getElem? (i := 84) rfl)) rfl
theorem gw_391 : Cond.static ⟨"java/lang/System", "arraycopy", "(Ljava/lang/Object;ILjava/lang/Object;II)V"⟩ ∈ gw := gw_t (tb_2 (List.mem_of_getElem? (i := 85) rfl)) rfl
theorem gw_392 : Cond.native ⟨"java/lang/System", "arraycopy", "(Ljava/lang/Object;ILjava/lang/Object;II)V"⟩ ∈ gw := gw_t (tb_2 (List.mem_of_getElem? (i := 86) rfl)) (by decide +kernel)
theorem gw_393 : Cond.methodLink "HedgeCommittee$State" 37 ⟨"HedgeCommittee$Motions", "copyFrom", "(LHedgeCommittee$Motions;)V"⟩ ∈ gw := gw_t (tb_2 (List.mem_of_getElem? (i := 87) rfl)) rfl
theorem gw_394 : Cond.instanceMethod ⟨"HedgeCommittee$Motions", "copyFrom", "(LHedgeCommittee$Motions;)V"⟩ ∈ gw := gw_t (tb_2 (List.mem_of_getElem? (i := 88) rfl)) rfl
theorem gw_395 : Cond.selects "HedgeCommittee$Motions" ⟨"HedgeCommittee$Motions", "copyFrom", "(LHedgeCommittee$Motions;)V"⟩ ⟨"HedgeCommittee$Motions", "copyFrom", "(LHedgeCommittee$Motions;)V"⟩ ∈ gw := gw_t (tb_2 (List.mem_of_getElem? (i := 89) rfl)) rfl
theorem gw_396 : Cond.code ⟨"HedgeCommittee$Motions", "copyFrom", "(LHedgeCommittee$Motions;)V"⟩ prog_7_method_2_code 2 none ∈ gw := gw_t (tb_2 (List.mem_of_getElem? (i := 90) rfl)) rfl
theorem gw_397 : Cond.methodLink "HedgeCommittee$Motions" 31 ⟨"java/lang/System", "arraycopy", "(Ljava/lang/Object;ILjava/lang/Object;II)V"⟩ ∈ gw := gw_t (tb_2 (List.mem_of_getElem? (i := 91) rfl)) rfl
theorem gw_398 : Cond.methodLink "HedgeCommittee$State" 40 ⟨"java/lang/System", "arraycopy", "(Ljava/lang/Object;ILjava/lang/Object;II)V"⟩ ∈ gw := gw_t (tb_2 (List.mem_of_getElem? (i := 92) rfl)) rfl
theorem gw_399 : Cond.methodLink "HedgeCommittee" 87 ⟨"HedgeCommittee$State", "beginNextSeason", "()V"⟩ ∈ gw := gw_t (tb_2 (List.mem_of_getElem? (i := 93) rfl)) rfl
theorem gw_400 : Cond.instanceMethod ⟨"HedgeCommittee$State", "beginNextSeason", "()V"⟩ ∈ gw := gw_t (tb_2 (List.mem_of_getElem? (i := 94) rfl)) rfl
theorem gw_401 : Cond.selects "HedgeCommittee$State" ⟨"HedgeCommittee$State", "beginNextSeason", "()V"⟩ ⟨"HedgeCommittee$State", "beginNextSeason", "()V"⟩ ∈ gw := gw_t (tb_2 (List.mem_of_getElem? (i := 95) rfl)) rfl
theorem gw_402 : Cond.code ⟨"HedgeCommittee$State", "beginNextSeason", "()V"⟩ prog_9_method_11_code 1 none ∈ gw := gw_t (tb_2 (List.mem_of_getElem? (i := 96) rfl)) rfl
theorem gw_403 : Cond.methodLink "HedgeCommittee$State" 155 ⟨"HedgeCommittee$Hedges", "meet", "(I)V"⟩ ∈ gw := gw_t (tb_2 (List.mem_of_getElem? (i := 97) rfl)) rfl
theorem gw_404 : Cond.instanceMethod ⟨"HedgeCommittee$Hedges", "meet", "(I)V"⟩ ∈ gw := gw_t (tb_2 (List.mem_of_getElem? (i := 98) rfl)) rfl
theorem gw_405 : Cond.selects "HedgeCommittee$Hedges" ⟨"HedgeCommittee$Hedges", "meet", "(I)V"⟩ ⟨"HedgeCommittee$Hedges", "meet", "(I)V"⟩ ∈ gw := gw_t (tb_2 (List.mem_of_getElem? (i := 99) rfl)) rfl
theorem gw_406 : Cond.code ⟨"HedgeCommittee$Hedges", "meet", "(I)V"⟩ prog_4_method_11_code 4 none ∈ gw := gw_t (tb_2 (List.mem_of_getElem? (i := 100) rfl)) rfl
theorem gw_409 : Cond.methodLink "HedgeCommittee$Hedges" 50 ⟨"java/lang/Math", "min", "(II)I"⟩ ∈ gw := gw_t (tb_2 (List.mem_of_getElem? (i := 103) rfl)) rfl
theorem gw_410 : Cond.static ⟨"java/lang/Math", "min", "(II)I"⟩ ∈ gw := gw_t (tb_2 (List.mem_of_getElem? (i := 104) rfl)) rfl
theorem gw_411 : Cond.code ⟨"java/lang/Math", "min", "(II)I"⟩ prog_28_method_69_code 2 (some .int) ∈ gw := gw_t (tb_2 (List.mem_of_getElem? (i := 105) rfl)) rfl
theorem gw_412 : Cond.methodLink "HedgeCommittee$Hedges" 55 ⟨"java/lang/Math", "max", "(II)I"⟩ ∈ gw := gw_t (tb_2 (List.mem_of_getElem? (i := 106) rfl)) rfl
theorem gw_413 : Cond.static ⟨"java/lang/Math", "max", "(II)I"⟩ ∈ gw := gw_t (tb_2 (List.mem_of_getElem? (i := 107) rfl)) rfl
theorem gw_414 : Cond.code ⟨"java/lang/Math", "max", "(II)I"⟩ prog_28_method_65_code 2 (some .int) ∈ gw := gw_t (tb_2 (List.mem_of_getElem? (i := 108) rfl)) rfl
theorem gw_415 : Cond.methodLink "HedgeCommittee" 66 ⟨"HedgeCommittee$History", "keepNoted", "()V"⟩ ∈ gw := gw_t (tb_2 (List.mem_of_getElem? (i := 109) rfl)) rfl
theorem gw_416 : Cond.instanceMethod ⟨"HedgeCommittee$History", "keepNoted", "()V"⟩ ∈ gw := gw_t (tb_2 (List.mem_of_getElem? (i := 110) rfl)) rfl
theorem gw_417 : Cond.selects "HedgeCommittee$History" ⟨"HedgeCommittee$History", "keepNoted", "()V"⟩ ⟨"HedgeCommittee$History", "keepNoted", "()V"⟩ ∈ gw := gw_t (tb_2 (List.mem_of_getElem? (i := 111) rfl)) rfl
theorem gw_418 : Cond.code ⟨"HedgeCommittee$History", "keepNoted", "()V"⟩ prog_5_method_4_code 1 none ∈ gw := gw_t (tb_2 (List.mem_of_getElem? (i := 112) rfl)) rfl
theorem gw_419 : Cond.methodLink "HedgeCommittee$History" 26 ⟨"HedgeCommittee$History", "forgetOldest", "()V"⟩ ∈ gw := gw_t (tb_2 (List.mem_of_getElem? (i := 113) rfl)) rfl
theorem gw_421 : Cond.instanceMethod ⟨"HedgeCommittee$History", "forgetOldest", "()V"⟩ ∈ gw := gw_t (tb_2 (List.mem_of_getElem? (i := 115) rfl)) rfl
theorem gw_422 : Cond.code ⟨"HedgeCommittee$History", "forgetOldest", "()V"⟩ prog_5_method_5_code 3 none ∈ gw := gw_t (tb_2 (List.mem_of_getElem? (i := 116) rfl)) rfl
theorem gw_423 : Cond.methodLink "HedgeCommitteeLaw" 170 ⟨"HedgeCommittee", "hedgeCount", "()I"⟩ ∈ gw := gw_t (tb_2 (List.mem_of_getElem? (i := 117) rfl)) rfl
theorem gw_424 : Cond.instanceMethod ⟨"HedgeCommittee", "hedgeCount", "()I"⟩ ∈ gw := gw_t (tb_2 (List.mem_of_getElem? (i := 118) rfl)) rfl
theorem gw_425 : Cond.selects "HedgeCommittee" ⟨"HedgeCommittee", "hedgeCount", "()I"⟩ ⟨"HedgeCommittee", "hedgeCount", "()I"⟩ ∈ gw := gw_t (tb_2 (List.mem_of_getElem? (i := 119) rfl)) rfl
theorem gw_426 : Cond.code ⟨"HedgeCommittee", "hedgeCount", "()I"⟩ prog_1_method_9_code 1 (some .int) ∈ gw := gw_t (tb_2 (List.mem_of_getElem? (i := 120) rfl)) rfl
theorem gw_427 : Cond.methodLink "HedgeCommitteeLaw" 189 ⟨"HedgeCommittee", "motionCount", "()I"⟩ ∈ gw := gw_t (tb_2 (List.mem_of_getElem? (i := 121) rfl)) rfl
theorem gw_428 : Cond.instanceMethod ⟨"HedgeCommittee", "motionCount", "()I"⟩ ∈ gw := gw_t (tb_2 (List.mem_of_getElem? (i := 122) rfl)) rfl
theorem gw_429 : Cond.selects "HedgeCommittee" ⟨"HedgeCommittee", "motionCount", "()I"⟩ ⟨"HedgeCommittee", "motionCount", "()I"⟩ ∈ gw := gw_t (tb_2 (List.mem_of_getElem? (i := 123) rfl)) rfl
theorem gw_430 : Cond.code ⟨"HedgeCommittee", "motionCount", "()I"⟩ prog_1_method_15_code 1 (some .int) ∈ gw := gw_t (tb_2 (List.mem_of_getElem? (i := 124) rfl)) rfl
theorem gw_431 : Cond.methodLink "HedgeCommitteeLaw" 235 ⟨"HedgeCommittee", "bestWorth", "()I"⟩ ∈ gw := gw_t (tb_2 (List.mem_of_getElem? (i := 125) rfl)) rfl
theorem gw_432 : Cond.instanceMethod ⟨"HedgeCommittee", "bestWorth", "()I"⟩ ∈ gw := gw_t (tb_2 (List.mem_of_getElem? (i := 126) rfl)) rfl
theorem gw_433 : Cond.selects "HedgeCommittee" ⟨"HedgeCommittee", "bestWorth", "()I"⟩ ⟨"HedgeCommittee", "bestWorth", "()I"⟩ ∈ gw := gw_t (tb_2 (List.mem_of_getElem? (i := 127) rfl)) rfl
theorem gw_434 : Cond.code ⟨"HedgeCommittee", "bestWorth", "()I"⟩ prog_1_method_30_code 1 (some .int) ∈ gw := gw_t (tb_2 (List.mem_of_getElem? (i := 128) rfl)) rfl
theorem gw_435 : Cond.methodLink "HedgeCommittee" 196 ⟨"HedgeCommittee$Trees", "bestByBranches", "(LHedgeCommittee$Motions;)J"⟩ ∈ gw := gw_t (tb_2 (List.mem_of_getElem? (i := 129) rfl)) rfl
theorem gw_436 : Cond.instanceMethod ⟨"HedgeCommittee$Trees", "bestByBranches", "(LHedgeCommittee$Motions;)J"⟩ ∈ gw := gw_t (tb_2 (List.mem_of_getElem? (i := 130) rfl)) rfl
theorem gw_437 : Cond.selects "HedgeCommittee$Trees" ⟨"HedgeCommittee$Trees", "bestByBranches", "(LHedgeCommittee$Motions;)J"⟩ ⟨"HedgeCommittee$Trees", "bestByBranches", "(LHedgeCommittee$Motions;)J"⟩ ∈ gw := gw_t (tb_2 (List.mem_of_getElem? (i := 131) rfl)) rfl
theorem gw_438 : Cond.code ⟨"HedgeCommittee$Trees", "bestByBranches", "(LHedgeCommittee$Motions;)J"⟩ prog_10_method_8_code 8 (some .long) ∈ gw := gw_t (tb_2 (List.mem_of_getElem? (i := 132) rfl)) rfl
theorem gw_439 : Cond.methodLink "HedgeCommittee$Trees" 68 ⟨"java/util/Arrays", "fill", "([JJ)V"⟩ ∈ gw := gw_t (tb_2 (List.mem_of_getElem? (i := 133) rfl)) rfl
theorem gw_440 : Cond.static ⟨"java/util/Arrays", "fill", "([JJ)V"⟩ ∈ gw := gw_t (tb_2 (List.mem_of_getElem? (i := 134) rfl)) rfl
theorem gw_441 : Cond.code ⟨"java/util/Arrays", "fill", "([JJ)V"⟩ prog_44_method_101_code 5 none ∈ gw := gw_t (tb_2 (List.mem_of_getElem? (i := 135) rfl)) rfl
theorem gw_442 : Cond.methodLink "HedgeCommittee$Trees" 74 ⟨"java/lang/Math", "max", "(JJ)J"⟩ ∈ gw := gw_t (tb_2 (List.mem_of_getElem? (i := 136) rfl)) rfl
theorem gw_443 : Cond.static ⟨"java/lang/Math", "max", "(JJ)J"⟩ ∈ gw := gw_t (tb_2 (List.mem_of_getElem? (i := 137) rfl)) rfl
theorem gw_444 : Cond.code ⟨"java/lang/Math", "max", "(JJ)J"⟩ prog_28_method_66_code 4 (some .long) ∈ gw := gw_t (tb_2 (List.mem_of_getElem? (i := 138) rfl)) rfl
theorem gw_445 : Cond.methodLink "HedgeCommitteeLaw" 239 ⟨"HedgeCommittee", "bestWorthBySets", "()I"⟩ ∈ gw := gw_t (tb_2 (List.mem_of_getElem? (i := 139) rfl)) rfl
theorem gw_446 : Cond.instanceMethod ⟨"HedgeCommittee", "bestWorthBySets", "()I"⟩ ∈ gw := gw_t (tb_2 (List.mem_of_getElem? (i := 140) rfl)) rfl
theorem gw_447 : Cond.selects "HedgeCommittee" ⟨"HedgeCommittee", "bestWorthBySets", "()I"⟩ ⟨"HedgeCommittee", "bestWorthBySets", "()I"⟩ ∈ gw := gw_t (tb_2 (List.mem_of_getElem? (i := 141) rfl)) rfl
theorem gw_448 : Cond.code ⟨"HedgeCommittee", "bestWorthBySets", "()I"⟩ prog_1_method_31_code 1 (some .int) ∈ gw := gw_t (tb_2 (List.mem_of_getElem? (i := 142) rfl)) rfl
theorem gw_449 : Cond.methodLink "HedgeCommittee" 200 ⟨"HedgeCommittee$Trees", "bestBySets", "(LHedgeCommittee$Motions;)J"⟩ ∈ gw := gw_t (tb_2 (List.mem_of_getElem? (i := 143) rfl)) rfl
theorem gw_450 : Cond.instanceMethod ⟨"HedgeCommittee$Trees", "bestBySets", "(LHedgeCommittee$Motions;)J"⟩ ∈ gw := gw_t (tb_2 (List.mem_of_getElem? (i := 144) rfl)) rfl
theorem gw_451 : Cond.selects "HedgeCommittee$Trees" ⟨"HedgeCommittee$Trees", "bestBySets", "(LHedgeCommittee$Motions;)J"⟩ ⟨"HedgeCommittee$Trees", "bestBySets", "(LHedgeCommittee$Motions;)J"⟩ ∈ gw := gw_t (tb_2 (List.mem_of_getElem? (i := 145) rfl)) rfl
theorem gw_452 : Cond.code ⟨"HedgeCommittee$Trees", "bestBySets", "(LHedgeCommittee$Motions;)J"⟩ prog_10_method_9_code 6 (some .long) ∈ gw := gw_t (tb_2 (List.mem_of_getElem? (i := 146) rfl)) rfl
theorem gw_453 : Cond.methodLink "HedgeCommittee$Trees" 77 ⟨"HedgeCommittee$Trees", "isGood", "(LHedgeCommittee$Motions;I)Z"⟩ ∈ gw := gw_t (tb_2 (List.mem_of_getElem? (i := 147) rfl)) rfl
theorem gw_454 : Cond.static ⟨"HedgeCommittee$Trees", "isGood", "(LHedgeCommittee$Motions;I)Z"⟩ ∈ gw := gw_t (tb_2 (List.mem_of_getElem? (i := 148) rfl)) rfl
theorem gw_455 : Cond.code ⟨"HedgeCommittee$Trees", "isGood", "(LHedgeCommittee$Motions;I)Z"⟩ prog_10_method_10_code 4 (some .boolean) ∈ gw := gw_t (tb_2 (List.mem_of_getElem? (i := 149) rfl)) rfl
theorem gw_456 : Cond.methodLink "HedgeCommittee$Trees" 81 ⟨"HedgeCommittee$Trees", "worthOf", "(LHedgeCommittee$Motions;I)J"⟩ ∈ gw := gw_t (tb_2 (List.mem_of_getElem? (i := 150) rfl)) rfl
theorem gw_457 : Cond.static ⟨"HedgeCommittee$Trees", "worthOf", "(LHedgeCommittee$Motions;I)J"⟩ ∈ gw := gw_t (tb_2 (List.mem_of_getElem? (i := 151) rfl)) rfl
theorem gw_458 : Cond.code ⟨"HedgeCommittee$Trees", "worthOf", "(LHedgeCommittee$Motions;I)J"⟩ prog_10_method_11_code 5 (some .long) ∈ gw := gw_t (tb_2 (List.mem_of_getElem? (i := 152) rfl)) rfl
theorem gw_459 : Cond.methodLink "HedgeCommitteeLaw" 243 ⟨"HedgeCommittee", "goodSets", "()I"⟩ ∈ gw := gw_t (tb_2 (List.mem_of_getElem? (i := 153) rfl)) rfl
theorem gw_460 : Cond.instanceMethod ⟨"HedgeCommittee", "goodSets", "()I"⟩ ∈ gw := gw_t (tb_2 (List.mem_of_getElem? (i := 154) rfl)) rfl
theorem gw_461 : Cond.selects "HedgeCommittee" ⟨"HedgeCommittee", "goodSets", "()I"⟩ ⟨"HedgeCommittee", "goodSets", "()I"⟩ ∈ gw := gw_t (tb_2 (List.mem_of_getElem? (i := 155) rfl)) rfl
theorem gw_462 : Cond.code ⟨"HedgeCommittee", "goodSets", "()I"⟩ prog_1_method_32_code 1 (some .int) ∈ gw := gw_t (tb_2 (List.mem_of_getElem? (i := 156) rfl)) rfl
theorem gw_463 : Cond.methodLink "HedgeCommittee" 203 ⟨"HedgeCommittee$Trees", "countGoodSets", "(LHedgeCommittee$Motions;)I"⟩ ∈ gw := gw_t (tb_2 (List.mem_of_getElem? (i := 157) rfl)) rfl
theorem gw_464 : Cond.instanceMethod ⟨"HedgeCommittee$Trees", "countGoodSets", "(LHedgeCommittee$Motions;)I"⟩ ∈ gw := gw_t (tb_2 (List.mem_of_getElem? (i := 158) rfl)) rfl
theorem gw_465 : Cond.selects "HedgeCommittee$Trees" ⟨"HedgeCommittee$Trees", "countGoodSets", "(LHedgeCommittee$Motions;)I"⟩ ⟨"HedgeCommittee$Trees", "countGoodSets", "(LHedgeCommittee$Motions;)I"⟩ ∈ gw := gw_t (tb_2 (List.mem_of_getElem? (i := 159) rfl)) rfl
theorem gw_466 : Cond.code ⟨"HedgeCommittee$Trees", "countGoodSets", "(LHedgeCommittee$Motions;)I"⟩ prog_10_method_12_code 8 (some .int) ∈ gw := gw_t (tb_2 (List.mem_of_getElem? (i := 160) rfl)) rfl
theorem gw_467 : Cond.methodLink "HedgeCommitteeLaw" 247 ⟨"HedgeCommittee", "season", "()I"⟩ ∈ gw := gw_t (tb_2 (List.mem_of_getElem? (i := 161) rfl)) rfl
theorem gw_468 : Cond.instanceMethod ⟨"HedgeCommittee", "season", "()I"⟩ ∈ gw := gw_t (tb_2 (List.mem_of_getElem? (i := 162) rfl)) rfl
theorem gw_469 : Cond.selects "HedgeCommittee" ⟨"HedgeCommittee", "season", "()I"⟩ ⟨"HedgeCommittee", "season", "()I"⟩ ∈ gw := gw_t (tb_2 (List.mem_of_getElem? (i := 163) rfl)) rfl
theorem gw_470 : Cond.code ⟨"HedgeCommittee", "season", "()I"⟩ prog_1_method_33_code 1 (some .int) ∈ gw := gw_t (tb_2 (List.mem_of_getElem? (i := 164) rfl)) rfl
theorem gw_471 : Cond.methodLink "HedgeCommitteeLaw" 254 ⟨"HedgeCommittee", "adoptedWeight", "()I"⟩ ∈ gw := gw_t (tb_2 (List.mem_of_getElem? (i := 165) rfl)) rfl
theorem gw_472 : Cond.instanceMethod ⟨"HedgeCommittee", "adoptedWeight", "()I"⟩ ∈ gw := gw_t (tb_2 (List.mem_of_getElem? (i := 166) rfl)) rfl
theorem gw_473 : Cond.selects "HedgeCommittee" ⟨"HedgeCommittee", "adoptedWeight", "()I"⟩ ⟨"HedgeCommittee", "adoptedWeight", "()I"⟩ ∈ gw := gw_t (tb_2 (List.mem_of_getElem? (i := 167) rfl)) rfl
theorem gw_474 : Cond.code ⟨"HedgeCommittee", "adoptedWeight", "()I"⟩ prog_1_method_35_code 1 (some .int) ∈ gw := gw_t (tb_2 (List.mem_of_getElem? (i := 168) rfl)) rfl
theorem gw_475 : Cond.methodLink "HedgeCommitteeLaw" 258 ⟨"HedgeCommittee", "weightTotal", "()I"⟩ ∈ gw := gw_t (tb_2 (List.mem_of_getElem? (i := 169) rfl)) rfl
theorem gw_476 : Cond.instanceMethod ⟨"HedgeCommittee", "weightTotal", "()I"⟩ ∈ gw := gw_t (tb_2 (List.mem_of_getElem? (i := 170) rfl)) rfl
theorem gw_477 : Cond.selects "HedgeCommittee" ⟨"HedgeCommittee", "weightTotal", "()I"⟩ ⟨"HedgeCommittee", "weightTotal", "()I"⟩ ∈ gw := gw_t (tb_2 (List.mem_of_getElem? (i := 171) rfl)) rfl
theorem gw_478 : Cond.code ⟨"HedgeCommittee", "weightTotal", "()I"⟩ prog_1_method_36_code 1 (some .int) ∈ gw := gw_t (tb_2 (List.mem_of_getElem? (i := 172) rfl)) rfl
theorem gw_479 : Cond.methodLink "HedgeCommittee" 218 ⟨"HedgeCommittee$Motions", "totalWeight", "()I"⟩ ∈ gw := gw_t (tb_2 (List.mem_of_getElem? (i := 173) rfl)) rfl
theorem gw_480 : Cond.instanceMethod ⟨"HedgeCommittee$Motions", "totalWeight", "()I"⟩ ∈ gw := gw_t (tb_2 (List.mem_of_getElem? (i := 174) rfl)) rfl
theorem gw_481 : Cond.selects "HedgeCommittee$Motions" ⟨"HedgeCommittee$Motions", "totalWeight", "()I"⟩ ⟨"HedgeCommittee$Motions", "totalWeight", "()I"⟩ ∈ gw := gw_t (tb_2 (List.mem_of_getElem? (i := 175) rfl)) rfl
theorem gw_482 : Cond.code ⟨"HedgeCommittee$Motions", "totalWeight", "()I"⟩ prog_7_method_12_code 3 (some .int) ∈ gw := gw_t (tb_2 (List.mem_of_getElem? (i := 176) rfl)) rfl
theorem gw_483 : Cond.methodLink "HedgeCommitteeLaw" 262 ⟨"HedgeCommittee", "weightByAccounts", "()I"⟩ ∈ gw := gw_t (tb_2 (List.mem_of_getElem? (i := 177) rfl)) rfl
theorem gw_484 : Cond.instanceMethod ⟨"HedgeCommittee", "weightByAccounts", "()I"⟩ ∈ gw := gw_t (tb_2 (List.mem_of_getElem? (i := 178) rfl)) rfl
theorem gw_485 : Cond.selects "HedgeCommittee" ⟨"HedgeCommittee", "weightByAccounts", "()I"⟩ ⟨"HedgeCommittee", "weightByAccounts", "()I"⟩ ∈ gw := gw_t (tb_2 (List.mem_of_getElem? (i := 179) rfl)) rfl
theorem gw_486 : Cond.code ⟨"HedgeCommittee", "weightByAccounts", "()I"⟩ prog_1_method_37_code 1 (some .int) ∈ gw := gw_t (tb_2 (List.mem_of_getElem? (i := 180) rfl)) rfl
theorem gw_487 : Cond.methodLink "HedgeCommittee" 222 ⟨"HedgeCommittee$State", "accountedWeight", "()I"⟩ ∈ gw := gw_t (tb_2 (List.mem_of_getElem? (i := 181) rfl)) rfl
theorem gw_488 : Cond.instanceMethod ⟨"HedgeCommittee$State", "accountedWeight", "()I"⟩ ∈ gw := gw_t (tb_2 (List.mem_of_getElem? (i := 182) rfl)) rfl
theorem gw_489 : Cond.selects "HedgeCommittee$State" ⟨"HedgeCommittee$State", "accountedWeight", "()I"⟩ ⟨"HedgeCommittee$State", "accountedWeight", "()I"⟩ ∈ gw := gw_t (tb_2 (List.mem_of_getElem? (i := 183) rfl)) rfl
theorem gw_490 : Cond.code ⟨"HedgeCommittee$State", "accountedWeight", "()I"⟩ prog_9_method_3_code 1 (some .int) ∈ gw := gw_t (tb_2 (List.mem_of_getElem? (i := 184) rfl)) rfl
theorem gw_491 : Cond.methodLink "HedgeCommitteeLaw" 273 ⟨"HedgeCommittee", "isConsistent", "()Z"⟩ ∈ gw := gw_t (tb_2 (List.mem_of_getElem? (i := 185) rfl)) rfl
theorem gw_492 : Cond.instanceMethod ⟨"HedgeCommittee", "isConsistent", "()Z"⟩ ∈ gw := gw_t (tb_2 (List.mem_of_getElem? (i := 186) rfl)) rfl
theorem gw_493 : Cond.selects "HedgeCommittee" ⟨"HedgeCommittee", "isConsistent", "()Z"⟩ ⟨"HedgeCommittee", "isConsistent", "()Z"⟩ ∈ gw := gw_t (tb_2 (List.mem_of_getElem? (i := 187) rfl)) rfl
theorem gw_494 : Cond.code ⟨"HedgeCommittee", "isConsistent", "()Z"⟩ prog_1_method_40_code 2 (some .boolean) ∈ gw := gw_t (tb_2 (List.mem_of_getElem? (i := 188) rfl)) rfl
theorem gw_495 : Cond.methodLink "HedgeCommittee" 241 ⟨"HedgeCommittee$Trees", "agreeOnPaths", "(LHedgeCommittee$Motions;)Z"⟩ ∈ gw := gw_t (tb_2 (List.mem_of_getElem? (i := 189) rfl)) rfl
theorem gw_496 : Cond.instanceMethod ⟨"HedgeCommittee$Trees", "agreeOnPaths", "(LHedgeCommittee$Motions;)Z"⟩ ∈ gw := gw_t (tb_2 (List.mem_of_getElem? (i := 190) rfl)) rfl
theorem gw_497 : Cond.selects "HedgeCommittee$Trees" ⟨"HedgeCommittee$Trees", "agreeOnPaths", "(LHedgeCommittee$Motions;)Z"⟩ ⟨"HedgeCommittee$Trees", "agreeOnPaths", "(LHedgeCommittee$Motions;)Z"⟩ ∈ gw := gw_t (tb_2 (List.mem_of_getElem? (i := 191) rfl)) rfl
theorem gw_498 : Cond.code ⟨"HedgeCommittee$Trees", "agreeOnPaths", "(LHedgeCommittee$Motions;)Z"⟩ prog_10_method_13_code 3 (some .boolean) ∈ gw := gw_t (tb_2 (List.mem_of_getElem? (i := 192) rfl)) rfl
theorem gw_499 : Cond.methodLink "HedgeCommittee$Trees" 85 ⟨"HedgeCommittee$Trees", "longestByHeights", "(LHedgeCommittee$Motions;I)I"⟩ ∈ gw := gw_t (tb_2 (List.mem_of_getElem? (i := 193) rfl)) rfl
theorem gw_500 : Cond.instanceMethod ⟨"HedgeCommittee$Trees", "longestByHeights", "(LHedgeCommittee$Motions;I)I"⟩ ∈ gw := gw_t (tb_2 (List.mem_of_getElem? (i := 194) rfl)) rfl
theorem gw_501 : Cond.selects "HedgeCommittee$Trees" ⟨"HedgeCommittee$Trees", "longestByHeights", "(LHedgeCommittee$Motions;I)I"⟩ ⟨"HedgeCommittee$Trees", "longestByHeights", "(LHedgeCommittee$Motions;I)I"⟩ ∈ gw := gw_t (tb_2 (List.mem_of_getElem? (i := 195) rfl)) rfl
theorem gw_502 : Cond.code ⟨"HedgeCommittee$Trees", "longestByHeights", "(LHedgeCommittee$Motions;I)I"⟩ prog_10_method_5_code 7 (some .int) ∈ gw := gw_t (tb_2 (List.mem_of_getElem? (i := 196) rfl)) rfl
theorem gw_503 : Cond.methodLink "HedgeCommittee$Trees" 44 ⟨"java/util/Arrays", "fill", "([II)V"⟩ ∈ gw := gw_t (tb_2 (List.mem_of_getElem? (i := 197) rfl)) rfl
theorem gw_504 : Cond.static ⟨"java/util/Arrays", "fill", "([II)V"⟩ ∈ gw := gw_t (tb_2 (List.mem_of_getElem? (i := 198) rfl)) rfl
theorem gw_505 : Cond.code ⟨"java/util/Arrays", "fill", "([II)V"⟩ prog_44_method_103_code 4 none ∈ gw := gw_t (tb_2 (List.mem_of_getElem? (i := 199) rfl)) rfl
theorem gw_506 : Cond.methodLink "HedgeCommittee$Trees" 54 ⟨"HedgeCommittee$Motions", "isInBranch", "(II)Z"⟩ ∈ gw := gw_t (tb_2 (List.mem_of_getElem? (i := 200) rfl)) rfl
theorem gw_507 : Cond.instanceMethod ⟨"HedgeCommittee$Motions", "isInBranch", "(II)Z"⟩ ∈ gw := gw_t (tb_2 (List.mem_of_getElem? (i := 201) rfl)) rfl
theorem gw_508 : Cond.selects "HedgeCommittee$Motions" ⟨"HedgeCommittee$Motions", "isInBranch", "(II)Z"⟩ ⟨"HedgeCommittee$Motions", "isInBranch", "(II)Z"⟩ ∈ gw := gw_t (tb_2 (List.mem_of_getElem? (i := 202) rfl)) rfl
theorem gw_509 : Cond.code ⟨"HedgeCommittee$Motions", "isInBranch", "(II)Z"⟩ prog_7_method_9_code 5 (some .boolean) ∈ gw := gw_t (tb_2 (List.mem_of_getElem? (i := 203) rfl)) rfl
theorem gw_510 : Cond.methodLink "HedgeCommittee$Trees" 58 ⟨"java/lang/Math", "max", "(II)I"⟩ ∈ gw := gw_t (tb_2 (List.mem_of_getElem? (i := 204) rfl)) rfl
theorem gw_511 : Cond.methodLink "HedgeCommittee$Trees" 89 ⟨"HedgeCommittee$Trees", "longestBySweeps", "(LHedgeCommittee$Motions;I)I"⟩ ∈ gw := gw_t (tb_2 (List.mem_of_getElem? (i := 205) rfl)) rfl
theorem gw_512 : Cond.instanceMethod ⟨"HedgeCommittee$Trees", "longestBySweeps", "(LHedgeCommittee$Motions;I)I"⟩ ∈ gw := gw_t (tb_2 (List.mem_of_getElem? (i := 206) rfl)) rfl
theorem gw_513 : Cond.selects "HedgeCommittee$Trees" ⟨"HedgeCommittee$Trees", "longestBySweeps", "(LHedgeCommittee$Motions;I)I"⟩ ⟨"HedgeCommittee$Trees", "longestBySweeps", "(LHedgeCommittee$Motions;I)I"⟩ ∈ gw := gw_t (tb_2 (List.mem_of_getElem? (i := 207) rfl)) rfl
theorem gw_514 : Cond.code ⟨"HedgeCommittee$Trees", "longestBySweeps", "(LHedgeCommittee$Motions;I)I"⟩ prog_10_method_6_code 5 (some .int) ∈ gw := gw_t (tb_2 (List.mem_of_getElem? (i := 208) rfl)) rfl
theorem gw_515 : Cond.methodLink "HedgeCommittee$Trees" 64 ⟨"HedgeCommittee$Trees", "farthestFrom", "(LHedgeCommittee$Motions;II)I"⟩ ∈ gw := gw_t (tb_2 (List.mem_of_getElem? (i := 209) rfl)) rfl
theorem gw_517 : Cond.instanceMethod ⟨"HedgeCommittee$Trees", "farthestFrom", "(LHedgeCommittee$Motions;II)I"⟩ ∈ gw := gw_t (tb_2 (List.mem_of_getElem? (i := 211) rfl)) rfl
theorem gw_518 : Cond.code ⟨"HedgeCommittee$Trees", "farthestFrom", "(LHedgeCommittee$Motions;II)I"⟩ prog_10_method_7_code 8 (some .int) ∈ gw := gw_t (tb_2 (List.mem_of_getElem? (i := 212) rfl)) rfl
theorem gw_519 : Cond.methodLink "HedgeCommittee" 245 ⟨"HedgeCommittee$Trees", "agreeOnCommonMotions", "(LHedgeCommittee$Motions;)Z"⟩ ∈ gw := gw_t (tb_2 (List.mem_of_getElem? (i := 213) rfl)) rfl
theorem gw_520 : Cond.instanceMethod ⟨"HedgeCommittee$Trees", "agreeOnCommonMotions", "(LHedgeCommittee$Motions;)Z"⟩ ∈ gw := gw_t (tb_2 (List.mem_of_getElem? (i := 214) rfl)) rfl
theorem gw_521 : Cond.selects "HedgeCommittee$Trees" ⟨"HedgeCommittee$Trees", "agreeOnCommonMotions", "(LHedgeCommittee$Motions;)Z"⟩ ⟨"HedgeCommittee$Trees", "agreeOnCommonMotions", "(LHedgeCommittee$Motions;)Z"⟩ ∈ gw := gw_t (tb_2 (List.mem_of_getElem? (i := 215) rfl)) rfl
theorem gw_522 : Cond.code ⟨"HedgeCommittee$Trees", "agreeOnCommonMotions", "(LHedgeCommittee$Motions;)Z"⟩ prog_10_method_14_code 4 (some .boolean) ∈ gw := gw_t (tb_2 (List.mem_of_getElem? (i := 216) rfl)) rfl
theorem gw_523 : Cond.methodLink "HedgeCommittee$Trees" 92 ⟨"HedgeCommittee$Trees", "commonByClimbing", "(LHedgeCommittee$Motions;II)I"⟩ ∈ gw := gw_t (tb_2 (List.mem_of_getElem? (i := 217) rfl)) rfl
theorem gw_524 : Cond.instanceMethod ⟨"HedgeCommittee$Trees", "commonByClimbing", "(LHedgeCommittee$Motions;II)I"⟩ ∈ gw := gw_t (tb_2 (List.mem_of_getElem? (i := 218) rfl)) rfl
theorem gw_525 : Cond.selects "HedgeCommittee$Trees" ⟨"HedgeCommittee$Trees", "commonByClimbing", "(LHedgeCommittee$Motions;II)I"⟩ ⟨"HedgeCommittee$Trees", "commonByClimbing", "(LHedgeCommittee$Motions;II)I"⟩ ∈ gw := gw_t (tb_2 (List.mem_of_getElem? (i := 219) rfl)) rfl
theorem gw_526 : Cond.code ⟨"HedgeCommittee$Trees", "commonByClimbing", "(LHedgeCommittee$Motions;II)I"⟩ prog_10_method_2_code 9 (some .int) ∈ gw := gw_t (tb_2 (List.mem_of_getElem? (i := 220) rfl)) rfl
theorem gw_527 : Cond.methodLink "HedgeCommittee$Trees" 31 ⟨"HedgeCommittee$Motions", "depthOf", "(I)I"⟩ ∈ gw := gw_t (tb_2 (List.mem_of_getElem? (i := 221) rfl)) rfl
theorem gw_528 : Cond.instanceMethod ⟨"HedgeCommittee$Motions", "depthOf", "(I)I"⟩ ∈ gw := gw_t (tb_2 (List.mem_of_getElem? (i := 222) rfl)) rfl
theorem gw_529 : Cond.selects "HedgeCommittee$Motions" ⟨"HedgeCommittee$Motions", "depthOf", "(I)I"⟩ ⟨"HedgeCommittee$Motions", "depthOf", "(I)I"⟩ ∈ gw := gw_t (tb_2 (List.mem_of_getElem? (i := 223) rfl)) rfl
theorem gw_530 : Cond.code ⟨"HedgeCommittee$Motions", "depthOf", "(I)I"⟩ prog_7_method_8_code 4 (some .int) ∈ gw := gw_t (tb_2 (List.mem_of_getElem? (i := 224) rfl)) rfl
theorem gw_531 : Cond.methodLink "HedgeCommittee$Trees" 95 ⟨"HedgeCommittee$Trees", "commonByRows", "(LHedgeCommittee$Motions;II)I"⟩ ∈ gw := gw_t (tb_2 (List.mem_of_getElem? (i := 225) rfl)) rfl
theorem gw_532 : Cond.instanceMethod ⟨"HedgeCommittee$Trees", "commonByRows", "(LHedgeCommittee$Motions;II)I"⟩ ∈ gw := gw_t (tb_2 (List.mem_of_getElem? (i := 226) rfl)) rfl
theorem gw_533 : Cond.selects "HedgeCommittee$Trees" ⟨"HedgeCommittee$Trees", "commonByRows", "(LHedgeCommittee$Motions;II)I"⟩ ⟨"HedgeCommittee$Trees", "commonByRows", "(LHedgeCommittee$Motions;II)I"⟩ ∈ gw := gw_t (tb_2 (List.mem_of_getElem? (i := 227) rfl)) rfl
theorem gw_534 : Cond.code ⟨"HedgeCommittee$Trees", "commonByRows", "(LHedgeCommittee$Motions;II)I"⟩ prog_10_method_3_code 8 (some .int) ∈ gw := gw_t (tb_2 (List.mem_of_getElem? (i := 228) rfl)) rfl
theorem gw_535 : Cond.methodLink "HedgeCommittee$Trees" 40 ⟨"HedgeCommittee$Trees", "fillRow", "(LHedgeCommittee$Motions;I[I)I"⟩ ∈ gw := gw_t (tb_2 (List.mem_of_getElem? (i := 229) rfl)) rfl
theorem gw_536 : Cond.static ⟨"HedgeCommittee$Trees", "fillRow", "(LHedgeCommittee$Motions;I[I)I"⟩ ∈ gw := gw_t (tb_2 (List.mem_of_getElem? (i := 230) rfl)) rfl
theorem gw_537 : Cond.code ⟨"HedgeCommittee$Trees", "fillRow", "(LHedgeCommittee$Motions;I[I)I"⟩ prog_10_method_4_code 6 (some .int) ∈ gw := gw_t (tb_2 (List.mem_of_getElem? (i := 231) rfl)) rfl
theorem gw_538 : Cond.methodLink "HedgeCommitteeLaw" 301 ⟨"HedgeCommittee", "save", "()V"⟩ ∈ gw := gw_t (tb_2 (List.mem_of_getElem? (i := 232) rfl)) rfl
theorem gw_539 : Cond.instanceMethod ⟨"HedgeCommittee", "save", "()V"⟩ ∈ gw := gw_t (tb_2 (List.mem_of_getElem? (i := 233) rfl)) rfl
theorem gw_540 : Cond.selects "HedgeCommittee" ⟨"HedgeCommittee", "save", "()V"⟩ ⟨"HedgeCommittee", "save", "()V"⟩ ∈ gw := gw_t (tb_2 (List.mem_of_getElem? (i := 234) rfl)) rfl
theorem gw_541 : Cond.code ⟨"HedgeCommittee", "save", "()V"⟩ prog_1_method_48_code 1 none ∈ gw := gw_t (tb_2 (List.mem_of_getElem? (i := 235) rfl)) rfl
theorem gw_542 : Cond.methodLink "HedgeCommittee" 315 ⟨"HedgeCommittee$State", "copyFrom", "(LHedgeCommittee$State;)V"⟩ ∈ gw := gw_t (tb_2 (List.mem_of_getElem? (i := 236) rfl)) rfl
theorem gw_543 : Cond.methodLink "HedgeCommitteeLaw" 143 ⟨"HedgeCommitteeLaw", "addHedge", "(LHedgeCommittee;III[J)I"⟩ ∈ gw := gw_t (tb_2 (List.mem_of_getElem? (i := 237) rfl)) rfl
theorem gw_544 : Cond.static ⟨"HedgeCommitteeLaw", "addHedge", "(LHedgeCommittee;III[J)I"⟩ ∈ gw := gw_t (tb_2 (List.mem_of_getElem? (i := 238) rfl)) rfl
theorem gw_545 : Cond.codeWith ⟨"HedgeCommitteeLaw", "addHedge", "(LHedgeCommittee;III[J)I"⟩ method_3_code 6 (some .int) [(0, 12, 15, 13), (0, 12, 19, 15)] ∈ gw := gw_t (tb_2 (List.mem_of_getElem? (i := 239) rfl)) rfl
theorem gw_546 : Cond.classLink "HedgeCommitteeLaw" 13 "java/lang/IllegalArgumentException" ∈ gw := gw_t (tb_3 (List.mem_of_getElem? (i := 0) rfl)) rfl
theorem gw_547 : Cond.classLink "HedgeCommitteeLaw" 15 "java/lang/IllegalStateException" ∈ gw := gw_t (tb_3 (List.mem_of_getElem? (i := 1) rfl)) rfl
theorem gw_548 : Cond.methodLink "HedgeCommitteeLaw" 7 ⟨"HedgeCommittee", "addHedge", "(III)I"⟩ ∈ gw := gw_t (tb_3 (List.mem_of_getElem? (i := 2) rfl)) rfl
theorem gw_549 : Cond.instanceMethod ⟨"HedgeCommittee", "addHedge", "(III)I"⟩ ∈ gw := gw_t (tb_3 (List.mem_of_getElem? (i := 3) rfl)) rfl
theorem gw_550 : Cond.selects "HedgeCommittee" ⟨"HedgeCommittee", "addHedge", "(III)I"⟩ ⟨"HedgeCommittee", "addHedge", "(III)I"⟩ ∈ gw := gw_t (tb_3 (List.mem_of_getElem? (i := 4) rfl)) rfl
theorem gw_551 : Cond.code ⟨"HedgeCommittee", "addHedge", "(III)I"⟩ prog_1_method_2_code 5 (some .int) ∈ gw := gw_t (tb_3 (List.mem_of_getElem? (i := 5) rfl)) rfl
theorem gw_552 : Cond.methodLink "HedgeCommittee" 62 ⟨"HedgeCommittee$State", "newHedge", "(III)I"⟩ ∈ gw := gw_t (tb_3 (List.mem_of_getElem? (i := 6) rfl)) rfl
theorem gw_553 : Cond.instanceMethod ⟨"HedgeCommittee$State", "newHedge", "(III)I"⟩ ∈ gw := gw_t (tb_3 (List.mem_of_getElem? (i := 7) rfl)) rfl
theorem gw_554 : Cond.selects "HedgeCommittee$State" ⟨"HedgeCommittee$State", "newHedge", "(III)I"⟩ ⟨"HedgeCommittee$State", "newHedge", "(III)I"⟩ ∈ gw := gw_t (tb_3 (List.mem_of_getElem? (i := 8) rfl)) rfl
theorem gw_555 : Cond.code ⟨"HedgeCommittee$State", "newHedge", "(III)I"⟩ prog_9_method_4_code 4 (some .int) ∈ gw := gw_t (tb_3 (List.mem_of_getElem? (i := 9) rfl)) rfl
theorem gw_556 : Cond.methodLink "HedgeCommittee$State" 67 ⟨"HedgeCommittee$State", "isDigit", "(I)Z"⟩ ∈ gw := gw_t (tb_3 (List.mem_of_getElem? (i := 10) rfl)) rfl
theorem gw_557 : Cond.static ⟨"HedgeCommittee$State", "isDigit", "(I)Z"⟩ ∈ gw := gw_t (tb_3 (List.mem_of_getElem? (i := 11) rfl)) rfl
theorem gw_558 : Cond.code ⟨"HedgeCommittee$State", "isDigit", "(I)Z"⟩ prog_9_method_15_code 1 (some .boolean) ∈ gw := gw_t (tb_3 (List.mem_of_getElem? (i := 12) rfl)) rfl
theorem gw_559 : Cond.classLink "HedgeCommittee$State" 71 "java/lang/IllegalArgumentException" ∈ gw := gw_t (tb_3 (List.mem_of_getElem? (i := 13) rfl)) rfl
theorem gw_560 : Cond.instantiable "java/lang/IllegalArgumentException" 6 ∈ gw := gw_t (tb_3 (List.mem_of_getElem? (i := 14) rfl)) rfl
theorem gw_568 : Cond.selects "java/lang/IllegalArgumentException" ⟨"java/lang/Throwable", "fillInStackTrace", "(I)Ljava/lang/Throwable;"⟩ ⟨"java/lang/Throwable", "fillInStackTrace", "(I)Ljava/lang/Throwable;"⟩ ∈ gw := gw_t (tb_3 (List.mem_of_getElem? (i := 22) rfl)) rfl
theorem gw_569 : Cond.selects "java/lang/IllegalArgumentException" ⟨"java/lang/Throwable", "fillInStackTrace", "()Ljava/lang/Throwable;"⟩ ⟨"java/lang/Throwable", "fillInStackTrace", "()Ljava/lang/Throwable;"⟩ ∈ gw := gw_t (tb_3 (List.mem_of_getElem? (i := 23) rfl)) rfl
theorem gw_570 : Cond.lays "java/lang/IllegalArgumentException" "java/lang/Throwable" "cause" "Ljava/lang/Throwable;" ∈ gw := gw_t (tb_3 (List.mem_of_getElem? (i := 24) rfl)) rfl
theorem gw_571 : Cond.lays "java/lang/Throwable" "java/lang/Throwable" "cause" "Ljava/lang/Throwable;" ∈ gw := gw_t (tb_3 (List.mem_of_getElem? (i := 25) rfl)) rfl
theorem gw_572 : Cond.lays "java/lang/IllegalArgumentException" "java/lang/Throwable" "stackTrace" "[Ljava/lang/StackTraceElement;" ∈ gw := gw_t (tb_3 (List.mem_of_getElem? (i := 26) rfl)) rfl
theorem gw_573 : Cond.lays "java/lang/Throwable" "java/lang/Throwable" "stackTrace" "[Ljava/lang/StackTraceElement;" ∈ gw := gw_t (tb_3 (List.mem_of_getElem? (i := 27) rfl)) rfl
theorem gw_574 : Cond.lays "java/lang/IllegalArgumentException" "java/lang/Throwable" "suppressedExceptions" "Ljava/util/List;" ∈ gw := gw_t (tb_3 (List.mem_of_getElem? (i := 28) rfl)) rfl
theorem gw_575 : Cond.lays "java/lang/Throwable" "java/lang/Throwable" "suppressedExceptions" "Ljava/util/List;" ∈ gw := gw_t (tb_3 (List.mem_of_getElem? (i := 29) rfl)) rfl
theorem gw_576 : Cond.lays "java/lang/IllegalArgumentException" "java/lang/Throwable" "detailMessage" "Ljava/lang/String;" ∈ gw := gw_t (tb_3 (List.mem_of_getElem? (i := 30) rfl)) rfl
theorem gw_577 : Cond.lays "java/lang/Throwable" "java/lang/Throwable" "detailMessage" "Ljava/lang/String;" ∈ gw := gw_t (tb_3 (List.mem_of_getElem? (i := 31) rfl)) rfl
theorem gw_578 : Cond.lays "java/lang/IllegalArgumentException" "java/lang/Throwable" "backtrace" "Ljava/lang/Object;" ∈ gw := gw_t (tb_3 (List.mem_of_getElem? (i := 32) rfl)) rfl
theorem gw_579 : Cond.lays "java/lang/Throwable" "java/lang/Throwable" "backtrace" "Ljava/lang/Object;" ∈ gw := gw_t (tb_3 (List.mem_of_getElem? (i := 33) rfl)) rfl
theorem gw_580 : Cond.fieldLink "java/lang/Throwable" 198 "java/lang/Throwable" "backtrace" "Ljava/lang/Object;" ∈ gw := gw_t (tb_3 (List.mem_of_getElem? (i := 34) rfl)) rfl
theorem gw_581 : Cond.superclass "java/lang/Throwable" "java/lang/Object" ∈ gw := gw_t (tb_3 (List.mem_of_getElem? (i := 35) rfl)) rfl
theorem gw_582 : Cond.instanceMethod ⟨"java/lang/Throwable", "<init>", "()V"⟩ ∈ gw := gw_t (tb_3 (List.mem_of_getElem? (i := 36) rfl)) rfl
theorem gw_583 : Cond.code ⟨"java/lang/Throwable", "<init>", "()V"⟩ prog_37_method_1_code 1 none ∈ gw := gw_t (tb_3 (List.mem_of_getElem? (i := 37) rfl)) rfl
theorem gw_584 : Cond.methodLink "java/lang/Throwable" 1 ⟨"java/lang/Object", "<init>", "()V"⟩ ∈ gw := gw_t (tb_3 (List.mem_of_getElem? (i := 38) rfl)) rfl
theorem gw_585 : Cond.fieldLink "java/lang/Throwable" 13 "java/lang/Throwable" "UNASSIGNED_STACK" "[Ljava/lang/StackTraceElement;" ∈ gw := gw_t (tb_3 (List.mem_of_getElem? (i := 39) rfl)) rfl
theorem gw_587 : Cond.fieldLink "java/lang/Throwable" 20 "java/lang/Throwable" "SUPPRESSED_SENTINEL" "Ljava/util/List;" ∈ gw := gw_t (tb_3 (List.mem_of_getElem? (i := 41) rfl)) rfl
theorem gw_589 : Cond.methodLink "java/lang/Throwable" 27 ⟨"java/lang/Throwable", "fillInStackTrace", "()Ljava/lang/Throwable;"⟩ ∈ gw := gw_t (tb_3 (List.mem_of_getElem? (i := 43) rfl)) rfl
theorem gw_590 : Cond.instanceMethod ⟨"java/lang/Throwable", "fillInStackTrace", "()Ljava/lang/Throwable;"⟩ ∈ gw := gw_t (tb_3 (List.mem_of_getElem? (i := 44) rfl)) rfl
theorem gw_592 : Cond.selects "java/lang/ArithmeticException" ⟨"java/lang/Throwable", "fillInStackTrace", "()Ljava/lang/Throwable;"⟩ ⟨"java/lang/Throwable", "fillInStackTrace", "()Ljava/lang/Throwable;"⟩ ∈ gw := gw_t (tb_3 (List.mem_of_getElem? (i := 46) rfl)) rfl
theorem gw_594 : Cond.selects "java/lang/IllegalStateException" ⟨"java/lang/Throwable", "fillInStackTrace", "()Ljava/lang/Throwable;"⟩ ⟨"java/lang/Throwable", "fillInStackTrace", "()Ljava/lang/Throwable;"⟩ ∈ gw := gw_t (tb_3 (List.mem_of_getElem? (i := 48) rfl)) rfl
theorem gw_595 : Cond.selects "java/lang/IndexOutOfBoundsException" ⟨"java/lang/Throwable", "fillInStackTrace", "()Ljava/lang/Throwable;"⟩ ⟨"java/lang/Throwable", "fillInStackTrace", "()Ljava/lang/Throwable;"⟩ ∈ gw := gw_t (tb_3 (List.mem_of_getElem? (i := 49) rfl)) rfl
theorem gw_597 : Cond.selects "java/lang/UnsupportedOperationException" ⟨"java/lang/Throwable", "fillInStackTrace", "()Ljava/lang/Throwable;"⟩ ⟨"java/lang/Throwable", "fillInStackTrace", "()Ljava/lang/Throwable;"⟩ ∈ gw := gw_t (tb_3 (List.mem_of_getElem? (i := 51) rfl)) rfl
theorem gw_598 : Cond.selects "java/util/NoSuchElementException" ⟨"java/lang/Throwable", "fillInStackTrace", "()Ljava/lang/Throwable;"⟩ ⟨"java/lang/Throwable", "fillInStackTrace", "()Ljava/lang/Throwable;"⟩ ∈ gw := gw_t (tb_3 (List.mem_of_getElem? (i := 52) rfl)) rfl
theorem gw_599 : Cond.codeSync ⟨"java/lang/Throwable", "fillInStackTrace", "()Ljava/lang/Throwable;"⟩ prog_37_method_18_code 1 (some (.object "java/lang/Throwable")) ∈ gw := gw_t (tb_3 (List.mem_of_getElem? (i := 53) rfl)) rfl
theorem gw_600 : Cond.methodLink "java/lang/Throwable" 202 ⟨"java/lang/Throwable", "fillInStackTrace", "(I)Ljava/lang/Throwable;"⟩ ∈ gw := gw_t (tb_3 (List.mem_of_getElem? (i := 54) rfl)) rfl
theorem gw_602 : Cond.instanceMethod ⟨"java/lang/Throwable", "fillInStackTrace", "(I)Ljava/lang/Throwable;"⟩ ∈ gw := gw_t (tb_3 (List.mem_of_getElem? (i := 56) rfl)) rfl
theorem gw_604 : Cond.native ⟨"java/lang/Throwable", "fillInStackTrace", "(I)Ljava/lang/Throwable;"⟩ ∈ gw := gw_t (tb_3 (List.mem_of_getElem? (i := 58) rfl)) (by decide +kernel)
theorem gw_606 : Cond.methodLink "HedgeCommittee$State" 75 ⟨"java/lang/IllegalArgumentException", "<init>", "(Ljava/lang/String;)V"⟩ ∈ gw := gw_t (tb_3 (List.mem_of_getElem? (i := 60) rfl)) rfl
theorem gw_607 : Cond.instanceMethod ⟨"java/lang/IllegalArgumentException", "<init>", "(Ljava/lang/String;)V"⟩ ∈ gw := gw_t (tb_3 (List.mem_of_getElem? (i := 61) rfl)) rfl
theorem gw_608 : Cond.code ⟨"java/lang/IllegalArgumentException", "<init>", "(Ljava/lang/String;)V"⟩ prog_23_method_2_code 2 none ∈ gw := gw_t (tb_3 (List.mem_of_getElem? (i := 62) rfl)) rfl
theorem gw_609 : Cond.methodLink "java/lang/IllegalArgumentException" 7 ⟨"java/lang/RuntimeException", "<init>", "(Ljava/lang/String;)V"⟩ ∈ gw := gw_t (tb_3 (List.mem_of_getElem? (i := 63) rfl)) rfl
theorem gw_610 : Cond.instanceMethod ⟨"java/lang/RuntimeException", "<init>", "(Ljava/lang/String;)V"⟩ ∈ gw := gw_t (tb_3 (List.mem_of_getElem? (i := 64) rfl)) rfl
theorem gw_611 : Cond.code ⟨"java/lang/RuntimeException", "<init>", "(Ljava/lang/String;)V"⟩ prog_30_method_2_code 2 none ∈ gw := gw_t (tb_3 (List.mem_of_getElem? (i := 65) rfl)) rfl
theorem gw_612 : Cond.methodLink "java/lang/RuntimeException" 7 ⟨"java/lang/Exception", "<init>", "(Ljava/lang/String;)V"⟩ ∈ gw := gw_t (tb_3 (List.mem_of_getElem? (i := 66) rfl)) rfl
theorem gw_613 : Cond.instanceMethod ⟨"java/lang/Exception", "<init>", "(Ljava/lang/String;)V"⟩ ∈ gw := gw_t (tb_3 (List.mem_of_getElem? (i := 67) rfl)) rfl
theorem gw_614 : Cond.code ⟨"java/lang/Exception", "<init>", "(Ljava/lang/String;)V"⟩ prog_22_method_2_code 2 none ∈ gw := gw_t (tb_3 (List.mem_of_getElem? (i := 68) rfl)) rfl
theorem gw_615 : Cond.methodLink "java/lang/Exception" 7 ⟨"java/lang/Throwable", "<init>", "(Ljava/lang/String;)V"⟩ ∈ gw := gw_t (tb_3 (List.mem_of_getElem? (i := 69) rfl)) rfl
theorem gw_616 : Cond.instanceMethod ⟨"java/lang/Throwable", "<init>", "(Ljava/lang/String;)V"⟩ ∈ gw := gw_t (tb_3 (List.mem_of_getElem? (i := 70) rfl)) rfl
theorem gw_617 : Cond.code ⟨"java/lang/Throwable", "<init>", "(Ljava/lang/String;)V"⟩ prog_37_method_2_code 2 none ∈ gw := gw_t (tb_3 (List.mem_of_getElem? (i := 71) rfl)) rfl
theorem gw_619 : Cond.fieldLink "java/lang/Throwable" 31 "java/lang/Throwable" "detailMessage" "Ljava/lang/String;" ∈ gw := gw_t (tb_3 (List.mem_of_getElem? (i := 73) rfl)) rfl
theorem gw_620 : Cond.fieldLink "java/lang/Throwable" 7 "java/lang/Throwable" "cause" "Ljava/lang/Throwable;" ∈ gw := gw_t (tb_3 (List.mem_of_getElem? (i := 74) rfl)) rfl
theorem gw_621 : Cond.fieldLink "java/lang/Throwable" 17 "java/lang/Throwable" "stackTrace" "[Ljava/lang/StackTraceElement;" ∈ gw := gw_t (tb_3 (List.mem_of_getElem? (i := 75) rfl)) rfl
theorem gw_622 : Cond.fieldLink "java/lang/Throwable" 24 "java/lang/Throwable" "suppressedExceptions" "Ljava/util/List;" ∈ gw := gw_t (tb_3 (List.mem_of_getElem? (i := 76) rfl)) rfl
theorem gw_631 : Cond.methodLink "HedgeCommittee$State" 78 ⟨"HedgeCommittee$Hedges", "isFull", "()Z"⟩ ∈ gw := gw_t (tb_3 (List.mem_of_getElem? (i := 85) rfl)) rfl
theorem gw_632 : Cond.instanceMethod ⟨"HedgeCommittee$Hedges", "isFull", "()Z"⟩ ∈ gw := gw_t (tb_3 (List.mem_of_getElem? (i := 86) rfl)) rfl
theorem gw_633 : Cond.selects "HedgeCommittee$Hedges" ⟨"HedgeCommittee$Hedges", "isFull", "()Z"⟩ ⟨"HedgeCommittee$Hedges", "isFull", "()Z"⟩ ∈ gw := gw_t (tb_3 (List.mem_of_getElem? (i := 87) rfl)) rfl
theorem gw_634 : Cond.code ⟨"HedgeCommittee$Hedges", "isFull", "()Z"⟩ prog_4_method_4_code 1 (some .boolean) ∈ gw := gw_t (tb_3 (List.mem_of_getElem? (i := 88) rfl)) rfl
theorem gw_635 : Cond.classLink "HedgeCommittee$State" 82 "java/lang/IllegalStateException" ∈ gw := gw_t (tb_3 (List.mem_of_getElem? (i := 89) rfl)) rfl
theorem gw_636 : Cond.instantiable "java/lang/IllegalStateException" 6 ∈ gw := gw_t (tb_3 (List.mem_of_getElem? (i := 90) rfl)) rfl
theorem gw_638 : Cond.selects "java/lang/IllegalStateException" ⟨"java/lang/Throwable", "fillInStackTrace", "(I)Ljava/lang/Throwable;"⟩ ⟨"java/lang/Throwable", "fillInStackTrace", "(I)Ljava/lang/Throwable;"⟩ ∈ gw := gw_t (tb_3 (List.mem_of_getElem? (i := 92) rfl)) rfl
theorem gw_639 : Cond.lays "java/lang/IllegalStateException" "java/lang/Throwable" "cause" "Ljava/lang/Throwable;" ∈ gw := gw_t (tb_3 (List.mem_of_getElem? (i := 93) rfl)) rfl
theorem gw_640 : Cond.lays "java/lang/IllegalStateException" "java/lang/Throwable" "stackTrace" "[Ljava/lang/StackTraceElement;" ∈ gw := gw_t (tb_3 (List.mem_of_getElem? (i := 94) rfl)) rfl
theorem gw_641 : Cond.lays "java/lang/IllegalStateException" "java/lang/Throwable" "suppressedExceptions" "Ljava/util/List;" ∈ gw := gw_t (tb_3 (List.mem_of_getElem? (i := 95) rfl)) rfl
theorem gw_642 : Cond.lays "java/lang/IllegalStateException" "java/lang/Throwable" "detailMessage" "Ljava/lang/String;" ∈ gw := gw_t (tb_3 (List.mem_of_getElem? (i := 96) rfl)) rfl
theorem gw_643 : Cond.lays "java/lang/IllegalStateException" "java/lang/Throwable" "backtrace" "Ljava/lang/Object;" ∈ gw := gw_t (tb_3 (List.mem_of_getElem? (i := 97) rfl)) rfl
theorem gw_645 : Cond.methodLink "HedgeCommittee$State" 86 ⟨"java/lang/IllegalStateException", "<init>", "(Ljava/lang/String;)V"⟩ ∈ gw := gw_t (tb_3 (List.mem_of_getElem? (i := 99) rfl)) rfl
theorem gw_646 : Cond.instanceMethod ⟨"java/lang/IllegalStateException", "<init>", "(Ljava/lang/String;)V"⟩ ∈ gw := gw_t (tb_3 (List.mem_of_getElem? (i := 100) rfl)) rfl
theorem gw_647 : Cond.code ⟨"java/lang/IllegalStateException", "<init>", "(Ljava/lang/String;)V"⟩ prog_24_method_2_code 2 none ∈ gw := gw_t (tb_3 (List.mem_of_getElem? (i := 101) rfl)) rfl
theorem gw_648 : Cond.methodLink "java/lang/IllegalStateException" 7 ⟨"java/lang/RuntimeException", "<init>", "(Ljava/lang/String;)V"⟩ ∈ gw := gw_t (tb_3 (List.mem_of_getElem? (i := 102) rfl)) rfl
theorem gw_651 : Cond.methodLink "HedgeCommittee$State" 87 ⟨"HedgeCommittee$Hedges", "add", "(III)I"⟩ ∈ gw := gw_t (tb_3 (List.mem_of_getElem? (i := 105) rfl)) rfl
theorem gw_652 : Cond.instanceMethod ⟨"HedgeCommittee$Hedges", "add", "(III)I"⟩ ∈ gw := gw_t (tb_3 (List.mem_of_getElem? (i := 106) rfl)) rfl
theorem gw_653 : Cond.selects "HedgeCommittee$Hedges" ⟨"HedgeCommittee$Hedges", "add", "(III)I"⟩ ⟨"HedgeCommittee$Hedges", "add", "(III)I"⟩ ∈ gw := gw_t (tb_3 (List.mem_of_getElem? (i := 107) rfl)) rfl
theorem gw_654 : Cond.code ⟨"HedgeCommittee$Hedges", "add", "(III)I"⟩ prog_4_method_5_code 5 (some .int) ∈ gw := gw_t (tb_3 (List.mem_of_getElem? (i := 108) rfl)) rfl
theorem gw_655 : Cond.methodLink "HedgeCommitteeLaw" 149 ⟨"HedgeCommitteeLaw", "propose", "(LHedgeCommittee;II[J)I"⟩ ∈ gw := gw_t (tb_3 (List.mem_of_getElem? (i := 109) rfl)) rfl
theorem gw_656 : Cond.static ⟨"HedgeCommitteeLaw", "propose", "(LHedgeCommittee;II[J)I"⟩ ∈ gw := gw_t (tb_3 (List.mem_of_getElem? (i := 110) rfl)) rfl
theorem gw_657 : Cond.codeWith ⟨"HedgeCommitteeLaw", "propose", "(LHedgeCommittee;II[J)I"⟩ method_4_code 5 (some .int) [(0, 10, 13, 13), (0, 10, 17, 15)] ∈ gw := gw_t (tb_3 (List.mem_of_getElem? (i := 111) rfl)) rfl
theorem gw_658 : Cond.methodLink "HedgeCommitteeLaw" 17 ⟨"HedgeCommittee", "propose", "(II)I"⟩ ∈ gw := gw_t (tb_3 (List.mem_of_getElem? (i := 112) rfl)) rfl
theorem gw_659 : Cond.instanceMethod ⟨"HedgeCommittee", "propose", "(II)I"⟩ ∈ gw := gw_t (tb_3 (List.mem_of_getElem? (i := 113) rfl)) rfl
theorem gw_660 : Cond.selects "HedgeCommittee" ⟨"HedgeCommittee", "propose", "(II)I"⟩ ⟨"HedgeCommittee", "propose", "(II)I"⟩ ∈ gw := gw_t (tb_3 (List.mem_of_getElem? (i := 114) rfl)) rfl
theorem gw_661 : Cond.code ⟨"HedgeCommittee", "propose", "(II)I"⟩ prog_1_method_3_code 4 (some .int) ∈ gw := gw_t (tb_3 (List.mem_of_getElem? (i := 115) rfl)) rfl
theorem gw_662 : Cond.methodLink "HedgeCommittee" 69 ⟨"HedgeCommittee$State", "newMain", "(II)I"⟩ ∈ gw := gw_t (tb_3 (List.mem_of_getElem? (i := 116) rfl)) rfl
theorem gw_663 : Cond.instanceMethod ⟨"HedgeCommittee$State", "newMain", "(II)I"⟩ ∈ gw := gw_t (tb_3 (List.mem_of_getElem? (i := 117) rfl)) rfl
theorem gw_664 : Cond.selects "HedgeCommittee$State" ⟨"HedgeCommittee$State", "newMain", "(II)I"⟩ ⟨"HedgeCommittee$State", "newMain", "(II)I"⟩ ∈ gw := gw_t (tb_3 (List.mem_of_getElem? (i := 118) rfl)) rfl
theorem gw_665 : Cond.code ⟨"HedgeCommittee$State", "newMain", "(II)I"⟩ prog_9_method_5_code 3 (some .int) ∈ gw := gw_t (tb_3 (List.mem_of_getElem? (i := 119) rfl)) rfl
theorem gw_666 : Cond.methodLink "HedgeCommittee$State" 91 ⟨"HedgeCommittee$State", "requireToneAndWeight", "(II)V"⟩ ∈ gw := gw_t (tb_3 (List.mem_of_getElem? (i := 120) rfl)) rfl
theorem gw_667 : Cond.static ⟨"HedgeCommittee$State", "requireToneAndWeight", "(II)V"⟩ ∈ gw := gw_t (tb_3 (List.mem_of_getElem? (i := 121) rfl)) rfl
theorem gw_668 : Cond.code ⟨"HedgeCommittee$State", "requireToneAndWeight", "(II)V"⟩ prog_9_method_14_code 2 none ∈ gw := gw_t (tb_3 (List.mem_of_getElem? (i := 122) rfl)) rfl
theorem gw_670 : Cond.methodLink "HedgeCommittee$State" 95 ⟨"HedgeCommittee$State", "requireRoom", "()V"⟩ ∈ gw := gw_t (tb_3 (List.mem_of_getElem? (i := 124) rfl)) rfl
theorem gw_672 : Cond.instanceMethod ⟨"HedgeCommittee$State", "requireRoom", "()V"⟩ ∈ gw := gw_t (tb_3 (List.mem_of_getElem? (i := 126) rfl)) rfl
theorem gw_673 : Cond.code ⟨"HedgeCommittee$State", "requireRoom", "()V"⟩ prog_9_method_13_code 1 none ∈ gw := gw_t (tb_3 (List.mem_of_getElem? (i := 127) rfl)) rfl
theorem gw_674 : Cond.methodLink "HedgeCommittee$State" 159 ⟨"HedgeCommittee$Motions", "isFull", "()Z"⟩ ∈ gw := gw_t (tb_3 (List.mem_of_getElem? (i := 128) rfl)) rfl
theorem gw_675 : Cond.instanceMethod ⟨"HedgeCommittee$Motions", "isFull", "()Z"⟩ ∈ gw := gw_t (tb_3 (List.mem_of_getElem? (i := 129) rfl)) rfl
theorem gw_676 : Cond.selects "HedgeCommittee$Motions" ⟨"HedgeCommittee$Motions", "isFull", "()Z"⟩ ⟨"HedgeCommittee$Motions", "isFull", "()Z"⟩ ∈ gw := gw_t (tb_3 (List.mem_of_getElem? (i := 130) rfl)) rfl
theorem gw_677 : Cond.code ⟨"HedgeCommittee$Motions", "isFull", "()Z"⟩ prog_7_method_3_code 1 (some .boolean) ∈ gw := gw_t (tb_3 (List.mem_of_getElem? (i := 131) rfl)) rfl
theorem gw_679 : Cond.methodLink "HedgeCommittee$State" 98 ⟨"HedgeCommittee$State", "begin", "(III)I"⟩ ∈ gw := gw_t (tb_3 (List.mem_of_getElem? (i := 133) rfl)) rfl
theorem gw_681 : Cond.instanceMethod ⟨"HedgeCommittee$State", "begin", "(III)I"⟩ ∈ gw := gw_t (tb_3 (List.mem_of_getElem? (i := 135) rfl)) rfl
theorem gw_682 : Cond.code ⟨"HedgeCommittee$State", "begin", "(III)I"⟩ prog_9_method_12_code 4 (some .int) ∈ gw := gw_t (tb_3 (List.mem_of_getElem? (i := 136) rfl)) rfl
theorem gw_683 : Cond.methodLink "HedgeCommittee$State" 158 ⟨"HedgeCommittee$Motions", "add", "(III)I"⟩ ∈ gw := gw_t (tb_3 (List.mem_of_getElem? (i := 137) rfl)) rfl
theorem gw_684 : Cond.instanceMethod ⟨"HedgeCommittee$Motions", "add", "(III)I"⟩ ∈ gw := gw_t (tb_3 (List.mem_of_getElem? (i := 138) rfl)) rfl
theorem gw_685 : Cond.selects "HedgeCommittee$Motions" ⟨"HedgeCommittee$Motions", "add", "(III)I"⟩ ⟨"HedgeCommittee$Motions", "add", "(III)I"⟩ ∈ gw := gw_t (tb_3 (List.mem_of_getElem? (i := 139) rfl)) rfl
theorem gw_686 : Cond.code ⟨"HedgeCommittee$Motions", "add", "(III)I"⟩ prog_7_method_5_code 5 (some .int) ∈ gw := gw_t (tb_3 (List.mem_of_getElem? (i := 140) rfl)) rfl
theorem gw_687 : Cond.methodLink "HedgeCommitteeLaw" 153 ⟨"HedgeCommitteeLaw", "amend", "(LHedgeCommittee;III[J)I"⟩ ∈ gw := gw_t (tb_3 (List.mem_of_getElem? (i := 141) rfl)) rfl
theorem gw_688 : Cond.static ⟨"HedgeCommitteeLaw", "amend", "(LHedgeCommittee;III[J)I"⟩ ∈ gw := gw_t (tb_3 (List.mem_of_getElem? (i := 142) rfl)) rfl
theorem gw_689 : Cond.codeWith ⟨"HedgeCommitteeLaw", "amend", "(LHedgeCommittee;III[J)I"⟩ method_5_code 6 (some .int) [(0, 12, 15, 24), (0, 12, 19, 13), (0, 12, 23, 15)] ∈ gw := gw_t (tb_3 (List.mem_of_getElem? (i := 143) rfl)) rfl
theorem gw_690 : Cond.classLink "HedgeCommitteeLaw" 24 "java/util/NoSuchElementException" ∈ gw := gw_t (tb_3 (List.mem_of_getElem? (i := 144) rfl)) rfl
theorem gw_691 : Cond.methodLink "HedgeCommitteeLaw" 21 ⟨"HedgeCommittee", "amend", "(III)I"⟩ ∈ gw := gw_t (tb_3 (List.mem_of_getElem? (i := 145) rfl)) rfl
theorem gw_692 : Cond.instanceMethod ⟨"HedgeCommittee", "amend", "(III)I"⟩ ∈ gw := gw_t (tb_3 (List.mem_of_getElem? (i := 146) rfl)) rfl
theorem gw_693 : Cond.selects "HedgeCommittee" ⟨"HedgeCommittee", "amend", "(III)I"⟩ ⟨"HedgeCommittee", "amend", "(III)I"⟩ ∈ gw := gw_t (tb_3 (List.mem_of_getElem? (i := 147) rfl)) rfl
theorem gw_694 : Cond.code ⟨"HedgeCommittee", "amend", "(III)I"⟩ prog_1_method_4_code 5 (some .int) ∈ gw := gw_t (tb_3 (List.mem_of_getElem? (i := 148) rfl)) rfl
theorem gw_695 : Cond.methodLink "HedgeCommittee" 73 ⟨"HedgeCommittee$State", "newAmendment", "(III)I"⟩ ∈ gw := gw_t (tb_3 (List.mem_of_getElem? (i := 149) rfl)) rfl
theorem gw_696 : Cond.instanceMethod ⟨"HedgeCommittee$State", "newAmendment", "(III)I"⟩ ∈ gw := gw_t (tb_3 (List.mem_of_getElem? (i := 150) rfl)) rfl
theorem gw_697 : Cond.selects "HedgeCommittee$State" ⟨"HedgeCommittee$State", "newAmendment", "(III)I"⟩ ⟨"HedgeCommittee$State", "newAmendment", "(III)I"⟩ ∈ gw := gw_t (tb_3 (List.mem_of_getElem? (i := 151) rfl)) rfl
theorem gw_698 : Cond.code ⟨"HedgeCommittee$State", "newAmendment", "(III)I"⟩ prog_9_method_6_code 5 (some .int) ∈ gw := gw_t (tb_3 (List.mem_of_getElem? (i := 152) rfl)) rfl
theorem gw_699 : Cond.methodLink "HedgeCommittee$State" 101 ⟨"HedgeCommittee$Motions", "require", "(I)I"⟩ ∈ gw := gw_t (tb_3 (List.mem_of_getElem? (i := 153) rfl)) rfl
theorem gw_700 : Cond.instanceMethod ⟨"HedgeCommittee$Motions", "require", "(I)I"⟩ ∈ gw := gw_t (tb_3 (List.mem_of_getElem? (i := 154) rfl)) rfl
theorem gw_701 : Cond.selects "HedgeCommittee$Motions" ⟨"HedgeCommittee$Motions", "require", "(I)I"⟩ ⟨"HedgeCommittee$Motions", "require", "(I)I"⟩ ∈ gw := gw_t (tb_3 (List.mem_of_getElem? (i := 155) rfl)) rfl
theorem gw_702 : Cond.code ⟨"HedgeCommittee$Motions", "require", "(I)I"⟩ prog_7_method_4_code 3 (some .int) ∈ gw := gw_t (tb_3 (List.mem_of_getElem? (i := 156) rfl)) rfl
theorem gw_703 : Cond.classLink "HedgeCommittee$Motions" 37 "java/util/NoSuchElementException" ∈ gw := gw_t (tb_3 (List.mem_of_getElem? (i := 157) rfl)) rfl
theorem gw_704 : Cond.instantiable "java/util/NoSuchElementException" 6 ∈ gw := gw_t (tb_3 (List.mem_of_getElem? (i := 158) rfl)) rfl
theorem gw_706 : Cond.selects "java/util/NoSuchElementException" ⟨"java/lang/Throwable", "fillInStackTrace", "(I)Ljava/lang/Throwable;"⟩ ⟨"java/lang/Throwable", "fillInStackTrace", "(I)Ljava/lang/Throwable;"⟩ ∈ gw := gw_t (tb_3 (List.mem_of_getElem? (i := 160) rfl)) rfl
theorem gw_707 : Cond.lays "java/util/NoSuchElementException" "java/lang/Throwable" "cause" "Ljava/lang/Throwable;" ∈ gw := gw_t (tb_3 (List.mem_of_getElem? (i := 161) rfl)) rfl
theorem gw_708 : Cond.lays "java/util/NoSuchElementException" "java/lang/Throwable" "stackTrace" "[Ljava/lang/StackTraceElement;" ∈ gw := gw_t (tb_3 (List.mem_of_getElem? (i := 162) rfl)) rfl
theorem gw_709 : Cond.lays "java/util/NoSuchElementException" "java/lang/Throwable" "suppressedExceptions" "Ljava/util/List;" ∈ gw := gw_t (tb_3 (List.mem_of_getElem? (i := 163) rfl)) rfl
theorem gw_710 : Cond.lays "java/util/NoSuchElementException" "java/lang/Throwable" "detailMessage" "Ljava/lang/String;" ∈ gw := gw_t (tb_3 (List.mem_of_getElem? (i := 164) rfl)) rfl
theorem gw_711 : Cond.lays "java/util/NoSuchElementException" "java/lang/Throwable" "backtrace" "Ljava/lang/Object;" ∈ gw := gw_t (tb_3 (List.mem_of_getElem? (i := 165) rfl)) rfl
theorem gw_713 : Cond.methodLink "HedgeCommittee$Motions" 41 ⟨"java/util/NoSuchElementException", "<init>", "(Ljava/lang/String;)V"⟩ ∈ gw := gw_t (tb_3 (List.mem_of_getElem? (i := 167) rfl)) rfl
theorem gw_714 : Cond.instanceMethod ⟨"java/util/NoSuchElementException", "<init>", "(Ljava/lang/String;)V"⟩ ∈ gw := gw_t (tb_3 (List.mem_of_getElem? (i := 168) rfl)) rfl
theorem gw_715 : Cond.code ⟨"java/util/NoSuchElementException", "<init>", "(Ljava/lang/String;)V"⟩ prog_47_method_4_code 2 none ∈ gw := gw_t (tb_3 (List.mem_of_getElem? (i := 169) rfl)) rfl
theorem gw_716 : Cond.methodLink "java/util/NoSuchElementException" 13 ⟨"java/lang/RuntimeException", "<init>", "(Ljava/lang/String;)V"⟩ ∈ gw := gw_t (tb_3 (List.mem_of_getElem? (i := 170) rfl)) rfl
theorem gw_719 : Cond.methodLink "HedgeCommitteeLaw" 156 ⟨"HedgeCommitteeLaw", "prune", "(LHedgeCommittee;II[J)I"⟩ ∈ gw := gw_t (tb_3 (List.mem_of_getElem? (i := 173) rfl)) rfl
theorem gw_720 : Cond.static ⟨"HedgeCommitteeLaw", "prune", "(LHedgeCommittee;II[J)I"⟩ ∈ gw := gw_t (tb_3 (List.mem_of_getElem? (i := 174) rfl)) rfl
theorem gw_721 : Cond.codeWith ⟨"HedgeCommitteeLaw", "prune", "(LHedgeCommittee;II[J)I"⟩ method_6_code 5 (some .int) [(0, 10, 13, 24), (0, 10, 17, 13)] ∈ gw := gw_t (tb_3 (List.mem_of_getElem? (i := 175) rfl)) rfl
theorem gw_722 : Cond.methodLink "HedgeCommitteeLaw" 26 ⟨"HedgeCommittee", "prune", "(II)I"⟩ ∈ gw := gw_t (tb_3 (List.mem_of_getElem? (i := 176) rfl)) rfl
theorem gw_723 : Cond.instanceMethod ⟨"HedgeCommittee", "prune", "(II)I"⟩ ∈ gw := gw_t (tb_3 (List.mem_of_getElem? (i := 177) rfl)) rfl
theorem gw_724 : Cond.selects "HedgeCommittee" ⟨"HedgeCommittee", "prune", "(II)I"⟩ ⟨"HedgeCommittee", "prune", "(II)I"⟩ ∈ gw := gw_t (tb_3 (List.mem_of_getElem? (i := 178) rfl)) rfl
theorem gw_725 : Cond.code ⟨"HedgeCommittee", "prune", "(II)I"⟩ prog_1_method_5_code 4 (some .int) ∈ gw := gw_t (tb_3 (List.mem_of_getElem? (i := 179) rfl)) rfl
theorem gw_726 : Cond.methodLink "HedgeCommittee" 76 ⟨"HedgeCommittee$State", "cutBack", "(II)I"⟩ ∈ gw := gw_t (tb_3 (List.mem_of_getElem? (i := 180) rfl)) rfl
theorem gw_727 : Cond.instanceMethod ⟨"HedgeCommittee$State", "cutBack", "(II)I"⟩ ∈ gw := gw_t (tb_3 (List.mem_of_getElem? (i := 181) rfl)) rfl
theorem gw_728 : Cond.selects "HedgeCommittee$State" ⟨"HedgeCommittee$State", "cutBack", "(II)I"⟩ ⟨"HedgeCommittee$State", "cutBack", "(II)I"⟩ ∈ gw := gw_t (tb_3 (List.mem_of_getElem? (i := 182) rfl)) rfl
theorem gw_729 : Cond.code ⟨"HedgeCommittee$State", "cutBack", "(II)I"⟩ prog_9_method_8_code 7 (some .int) ∈ gw := gw_t (tb_3 (List.mem_of_getElem? (i := 183) rfl)) rfl
theorem gw_731 : Cond.methodLink "HedgeCommittee$State" 122 ⟨"HedgeCommittee$Motions", "depthOf", "(I)I"⟩ ∈ gw := gw_t (tb_3 (List.mem_of_getElem? (i := 185) rfl)) rfl
theorem gw_732 : Cond.methodLink "HedgeCommittee$State" 128 ⟨"HedgeCommittee$Motions", "isInBranch", "(II)Z"⟩ ∈ gw := gw_t (tb_3 (List.mem_of_getElem? (i := 186) rfl)) rfl
theorem gw_733 : Cond.methodLink "HedgeCommittee$State" 132 ⟨"HedgeCommittee$Motions", "removeTip", "(I)V"⟩ ∈ gw := gw_t (tb_3 (List.mem_of_getElem? (i := 187) rfl)) rfl
theorem gw_734 : Cond.instanceMethod ⟨"HedgeCommittee$Motions", "removeTip", "(I)V"⟩ ∈ gw := gw_t (tb_3 (List.mem_of_getElem? (i := 188) rfl)) rfl
theorem gw_735 : Cond.selects "HedgeCommittee$Motions" ⟨"HedgeCommittee$Motions", "removeTip", "(I)V"⟩ ⟨"HedgeCommittee$Motions", "removeTip", "(I)V"⟩ ∈ gw := gw_t (tb_3 (List.mem_of_getElem? (i := 189) rfl)) rfl
theorem gw_736 : Cond.code ⟨"HedgeCommittee$Motions", "removeTip", "(I)V"⟩ prog_7_method_6_code 3 none ∈ gw := gw_t (tb_3 (List.mem_of_getElem? (i := 190) rfl)) rfl
theorem gw_737 : Cond.methodLink "HedgeCommitteeLaw" 159 ⟨"HedgeCommitteeLaw", "regrow", "(LHedgeCommittee;I[J)I"⟩ ∈ gw := gw_t (tb_3 (List.mem_of_getElem? (i := 191) rfl)) rfl
theorem gw_738 : Cond.static ⟨"HedgeCommitteeLaw", "regrow", "(LHedgeCommittee;I[J)I"⟩ ∈ gw := gw_t (tb_3 (List.mem_of_getElem? (i := 192) rfl)) rfl
theorem gw_739 : Cond.codeWith ⟨"HedgeCommitteeLaw", "regrow", "(LHedgeCommittee;I[J)I"⟩ method_7_code 4 (some .int) [(0, 9, 12, 24), (0, 9, 15, 15)] ∈ gw := gw_t (tb_3 (List.mem_of_getElem? (i := 193) rfl)) rfl
theorem gw_740 : Cond.methodLink "HedgeCommitteeLaw" 29 ⟨"HedgeCommittee", "regrow", "(I)I"⟩ ∈ gw := gw_t (tb_3 (List.mem_of_getElem? (i := 194) rfl)) rfl
theorem gw_741 : Cond.instanceMethod ⟨"HedgeCommittee", "regrow", "(I)I"⟩ ∈ gw := gw_t (tb_3 (List.mem_of_getElem? (i := 195) rfl)) rfl
theorem gw_742 : Cond.selects "HedgeCommittee" ⟨"HedgeCommittee", "regrow", "(I)I"⟩ ⟨"HedgeCommittee", "regrow", "(I)I"⟩ ∈ gw := gw_t (tb_3 (List.mem_of_getElem? (i := 196) rfl)) rfl
theorem gw_743 : Cond.code ⟨"HedgeCommittee", "regrow", "(I)I"⟩ prog_1_method_6_code 3 (some .int) ∈ gw := gw_t (tb_3 (List.mem_of_getElem? (i := 197) rfl)) rfl
theorem gw_744 : Cond.methodLink "HedgeCommittee" 79 ⟨"HedgeCommittee$State", "growTip", "(I)I"⟩ ∈ gw := gw_t (tb_3 (List.mem_of_getElem? (i := 198) rfl)) rfl
theorem gw_745 : Cond.instanceMethod ⟨"HedgeCommittee$State", "growTip", "(I)I"⟩ ∈ gw := gw_t (tb_3 (List.mem_of_getElem? (i := 199) rfl)) rfl
theorem gw_746 : Cond.selects "HedgeCommittee$State" ⟨"HedgeCommittee$State", "growTip", "(I)I"⟩ ⟨"HedgeCommittee$State", "growTip", "(I)I"⟩ ∈ gw := gw_t (tb_3 (List.mem_of_getElem? (i := 200) rfl)) rfl
theorem gw_747 : Cond.code ⟨"HedgeCommittee$State", "growTip", "(I)I"⟩ prog_9_method_7_code 4 (some .int) ∈ gw := gw_t (tb_3 (List.mem_of_getElem? (i := 201) rfl)) rfl
theorem gw_748 : Cond.methodLink "HedgeCommittee$State" 105 ⟨"HedgeCommittee$Motions", "lastTipOf", "(I)I"⟩ ∈ gw := gw_t (tb_3 (List.mem_of_getElem? (i := 202) rfl)) rfl
theorem gw_749 : Cond.instanceMethod ⟨"HedgeCommittee$Motions", "lastTipOf", "(I)I"⟩ ∈ gw := gw_t (tb_3 (List.mem_of_getElem? (i := 203) rfl)) rfl
theorem gw_750 : Cond.selects "HedgeCommittee$Motions" ⟨"HedgeCommittee$Motions", "lastTipOf", "(I)I"⟩ ⟨"HedgeCommittee$Motions", "lastTipOf", "(I)I"⟩ ∈ gw := gw_t (tb_3 (List.mem_of_getElem? (i := 204) rfl)) rfl
theorem gw_751 : Cond.code ⟨"HedgeCommittee$Motions", "lastTipOf", "(I)I"⟩ prog_7_method_11_code 3 (some .int) ∈ gw := gw_t (tb_3 (List.mem_of_getElem? (i := 205) rfl)) rfl
theorem gw_752 : Cond.methodLink "HedgeCommittee$Motions" 44 ⟨"HedgeCommittee$Motions", "isInBranch", "(II)Z"⟩ ∈ gw := gw_t (tb_3 (List.mem_of_getElem? (i := 206) rfl)) rfl
theorem gw_753 : Cond.methodLink "HedgeCommittee$Motions" 48 ⟨"HedgeCommittee$Motions", "hasAmendments", "(I)Z"⟩ ∈ gw := gw_t (tb_3 (List.mem_of_getElem? (i := 207) rfl)) rfl
theorem gw_754 : Cond.instanceMethod ⟨"HedgeCommittee$Motions", "hasAmendments", "(I)Z"⟩ ∈ gw := gw_t (tb_3 (List.mem_of_getElem? (i := 208) rfl)) rfl
theorem gw_755 : Cond.selects "HedgeCommittee$Motions" ⟨"HedgeCommittee$Motions", "hasAmendments", "(I)Z"⟩ ⟨"HedgeCommittee$Motions", "hasAmendments", "(I)Z"⟩ ∈ gw := gw_t (tb_3 (List.mem_of_getElem? (i := 209) rfl)) rfl
theorem gw_756 : Cond.code ⟨"HedgeCommittee$Motions", "hasAmendments", "(I)Z"⟩ prog_7_method_7_code 3 (some .boolean) ∈ gw := gw_t (tb_3 (List.mem_of_getElem? (i := 210) rfl)) rfl
theorem gw_757 : Cond.methodLink "HedgeCommittee$State" 114 ⟨"java/lang/Math", "max", "(II)I"⟩ ∈ gw := gw_t (tb_3 (List.mem_of_getElem? (i := 211) rfl)) rfl
theorem gw_758 : Cond.methodLink "HedgeCommitteeLaw" 163 ⟨"HedgeCommitteeLaw", "vote", "(LHedgeCommittee;I[J)I"⟩ ∈ gw := gw_t (tb_3 (List.mem_of_getElem? (i := 212) rfl)) rfl
theorem gw_759 : Cond.static ⟨"HedgeCommitteeLaw", "vote", "(LHedgeCommittee;I[J)I"⟩ ∈ gw := gw_t (tb_3 (List.mem_of_getElem? (i := 213) rfl)) rfl
theorem gw_760 : Cond.codeWith ⟨"HedgeCommitteeLaw", "vote", "(LHedgeCommittee;I[J)I"⟩ method_8_code 4 (some .int) [(0, 9, 12, 24), (0, 9, 15, 15)] ∈ gw := gw_t (tb_3 (List.mem_of_getElem? (i := 214) rfl)) rfl
theorem gw_761 : Cond.methodLink "HedgeCommitteeLaw" 33 ⟨"HedgeCommittee", "vote", "(I)C"⟩ ∈ gw := gw_t (tb_3 (List.mem_of_getElem? (i := 215) rfl)) rfl
theorem gw_762 : Cond.instanceMethod ⟨"HedgeCommittee", "vote", "(I)C"⟩ ∈ gw := gw_t (tb_3 (List.mem_of_getElem? (i := 216) rfl)) rfl
theorem gw_763 : Cond.selects "HedgeCommittee" ⟨"HedgeCommittee", "vote", "(I)C"⟩ ⟨"HedgeCommittee", "vote", "(I)C"⟩ ∈ gw := gw_t (tb_3 (List.mem_of_getElem? (i := 217) rfl)) rfl
theorem gw_764 : Cond.code ⟨"HedgeCommittee", "vote", "(I)C"⟩ prog_1_method_7_code 3 (some .char) ∈ gw := gw_t (tb_3 (List.mem_of_getElem? (i := 218) rfl)) rfl
theorem gw_765 : Cond.methodLink "HedgeCommittee" 83 ⟨"HedgeCommittee$State", "holdVote", "(I)C"⟩ ∈ gw := gw_t (tb_3 (List.mem_of_getElem? (i := 219) rfl)) rfl
theorem gw_766 : Cond.instanceMethod ⟨"HedgeCommittee$State", "holdVote", "(I)C"⟩ ∈ gw := gw_t (tb_3 (List.mem_of_getElem? (i := 220) rfl)) rfl
theorem gw_767 : Cond.selects "HedgeCommittee$State" ⟨"HedgeCommittee$State", "holdVote", "(I)C"⟩ ⟨"HedgeCommittee$State", "holdVote", "(I)C"⟩ ∈ gw := gw_t (tb_3 (List.mem_of_getElem? (i := 221) rfl)) rfl
theorem gw_768 : Cond.code ⟨"HedgeCommittee$State", "holdVote", "(I)C"⟩ prog_9_method_9_code 4 (some .char) ∈ gw := gw_t (tb_3 (List.mem_of_getElem? (i := 222) rfl)) rfl
theorem gw_770 : Cond.methodLink "HedgeCommittee$State" 139 ⟨"HedgeCommittee$Motions", "hasAmendments", "(I)Z"⟩ ∈ gw := gw_t (tb_3 (List.mem_of_getElem? (i := 224) rfl)) rfl
theorem gw_772 : Cond.methodLink "HedgeCommittee$State" 144 ⟨"HedgeCommittee$Hedges", "decideOn", "(I)C"⟩ ∈ gw := gw_t (tb_3 (List.mem_of_getElem? (i := 226) rfl)) rfl
theorem gw_773 : Cond.instanceMethod ⟨"HedgeCommittee$Hedges", "decideOn", "(I)C"⟩ ∈ gw := gw_t (tb_3 (List.mem_of_getElem? (i := 227) rfl)) rfl
theorem gw_774 : Cond.selects "HedgeCommittee$Hedges" ⟨"HedgeCommittee$Hedges", "decideOn", "(I)C"⟩ ⟨"HedgeCommittee$Hedges", "decideOn", "(I)C"⟩ ∈ gw := gw_t (tb_3 (List.mem_of_getElem? (i := 228) rfl)) rfl
theorem gw_775 : Cond.code ⟨"HedgeCommittee$Hedges", "decideOn", "(I)C"⟩ prog_4_method_10_code 4 (some .char) ∈ gw := gw_t (tb_3 (List.mem_of_getElem? (i := 229) rfl)) rfl
theorem gw_776 : Cond.methodLink "HedgeCommittee$Hedges" 35 ⟨"HedgeCommittee$Hedges", "vetoes", "(II)Z"⟩ ∈ gw := gw_t (tb_3 (List.mem_of_getElem? (i := 230) rfl)) rfl
theorem gw_777 : Cond.instanceMethod ⟨"HedgeCommittee$Hedges", "vetoes", "(II)Z"⟩ ∈ gw := gw_t (tb_3 (List.mem_of_getElem? (i := 231) rfl)) rfl
theorem gw_778 : Cond.selects "HedgeCommittee$Hedges" ⟨"HedgeCommittee$Hedges", "vetoes", "(II)Z"⟩ ⟨"HedgeCommittee$Hedges", "vetoes", "(II)Z"⟩ ∈ gw := gw_t (tb_3 (List.mem_of_getElem? (i := 232) rfl)) rfl
theorem gw_779 : Cond.code ⟨"HedgeCommittee$Hedges", "vetoes", "(II)Z"⟩ prog_4_method_7_code 3 (some .boolean) ∈ gw := gw_t (tb_3 (List.mem_of_getElem? (i := 233) rfl)) rfl
theorem gw_780 : Cond.methodLink "HedgeCommittee$Hedges" 31 ⟨"HedgeCommittee$Hedges", "difference", "(II)I"⟩ ∈ gw := gw_t (tb_3 (List.mem_of_getElem? (i := 234) rfl)) rfl
theorem gw_781 : Cond.instanceMethod ⟨"HedgeCommittee$Hedges", "difference", "(II)I"⟩ ∈ gw := gw_t (tb_3 (List.mem_of_getElem? (i := 235) rfl)) rfl
theorem gw_782 : Cond.selects "HedgeCommittee$Hedges" ⟨"HedgeCommittee$Hedges", "difference", "(II)I"⟩ ⟨"HedgeCommittee$Hedges", "difference", "(II)I"⟩ ∈ gw := gw_t (tb_3 (List.mem_of_getElem? (i := 236) rfl)) rfl
theorem gw_783 : Cond.code ⟨"HedgeCommittee$Hedges", "difference", "(II)I"⟩ prog_4_method_6_code 4 (some .int) ∈ gw := gw_t (tb_3 (List.mem_of_getElem? (i := 237) rfl)) rfl
theorem gw_784 : Cond.methodLink "HedgeCommittee$Hedges" 39 ⟨"HedgeCommittee$Hedges", "leavesFor", "(I)I"⟩ ∈ gw := gw_t (tb_3 (List.mem_of_getElem? (i := 238) rfl)) rfl
theorem gw_785 : Cond.instanceMethod ⟨"HedgeCommittee$Hedges", "leavesFor", "(I)I"⟩ ∈ gw := gw_t (tb_3 (List.mem_of_getElem? (i := 239) rfl)) rfl
theorem gw_786 : Cond.selects "HedgeCommittee$Hedges" ⟨"HedgeCommittee$Hedges", "leavesFor", "(I)I"⟩ ⟨"HedgeCommittee$Hedges", "leavesFor", "(I)I"⟩ ∈ gw := gw_t (tb_4 (List.mem_of_getElem? (i := 0) rfl)) rfl
theorem gw_787 : Cond.code ⟨"HedgeCommittee$Hedges", "leavesFor", "(I)I"⟩ prog_4_method_8_code 4 (some .int) ∈ gw := gw_t (tb_4 (List.mem_of_getElem? (i := 1) rfl)) rfl
theorem gw_788 : Cond.methodLink "HedgeCommittee$Hedges" 43 ⟨"HedgeCommittee$Hedges", "totalLeaves", "()I"⟩ ∈ gw := gw_t (tb_4 (List.mem_of_getElem? (i := 2) rfl)) rfl
theorem gw_789 : Cond.instanceMethod ⟨"HedgeCommittee$Hedges", "totalLeaves", "()I"⟩ ∈ gw := gw_t (tb_4 (List.mem_of_getElem? (i := 3) rfl)) rfl
theorem gw_790 : Cond.selects "HedgeCommittee$Hedges" ⟨"HedgeCommittee$Hedges", "totalLeaves", "()I"⟩ ⟨"HedgeCommittee$Hedges", "totalLeaves", "()I"⟩ ∈ gw := gw_t (tb_4 (List.mem_of_getElem? (i := 4) rfl)) rfl
theorem gw_791 : Cond.code ⟨"HedgeCommittee$Hedges", "totalLeaves", "()I"⟩ prog_4_method_9_code 3 (some .int) ∈ gw := gw_t (tb_4 (List.mem_of_getElem? (i := 5) rfl)) rfl
theorem gw_792 : Cond.methodLink "HedgeCommittee$State" 151 ⟨"HedgeCommittee$State", "bookOutcome", "(CII)V"⟩ ∈ gw := gw_t (tb_4 (List.mem_of_getElem? (i := 6) rfl)) rfl
theorem gw_794 : Cond.instanceMethod ⟨"HedgeCommittee$State", "bookOutcome", "(CII)V"⟩ ∈ gw := gw_t (tb_4 (List.mem_of_getElem? (i := 8) rfl)) rfl
theorem gw_795 : Cond.code ⟨"HedgeCommittee$State", "bookOutcome", "(CII)V"⟩ prog_9_method_10_code 4 none ∈ gw := gw_t (tb_4 (List.mem_of_getElem? (i := 9) rfl)) rfl
theorem gw_796 : Cond.methodLink "HedgeCommitteeLaw" 174 ⟨"HedgeCommitteeLaw", "leaves", "(LHedgeCommittee;I[J)I"⟩ ∈ gw := gw_t (tb_4 (List.mem_of_getElem? (i := 10) rfl)) rfl
theorem gw_797 : Cond.static ⟨"HedgeCommitteeLaw", "leaves", "(LHedgeCommittee;I[J)I"⟩ ∈ gw := gw_t (tb_4 (List.mem_of_getElem? (i := 11) rfl)) rfl
theorem gw_798 : Cond.codeWith ⟨"HedgeCommitteeLaw", "leaves", "(LHedgeCommittee;I[J)I"⟩ method_9_code 4 (some .int) [(0, 9, 12, 40)] ∈ gw := gw_t (tb_4 (List.mem_of_getElem? (i := 12) rfl)) rfl
theorem gw_799 : Cond.classLink "HedgeCommitteeLaw" 40 "java/lang/IndexOutOfBoundsException" ∈ gw := gw_t (tb_4 (List.mem_of_getElem? (i := 13) rfl)) rfl
theorem gw_800 : Cond.instantiable "java/lang/ArrayIndexOutOfBoundsException" 6 ∈ gw := gw_t (tb_4 (List.mem_of_getElem? (i := 14) rfl)) rfl
theorem gw_804 : Cond.instanceMethod ⟨"java/lang/IndexOutOfBoundsException", "<init>", "(Ljava/lang/String;)V"⟩ ∈ gw := gw_t (tb_4 (List.mem_of_getElem? (i := 18) rfl)) rfl
theorem gw_805 : Cond.code ⟨"java/lang/IndexOutOfBoundsException", "<init>", "(Ljava/lang/String;)V"⟩ prog_25_method_2_code 2 none ∈ gw := gw_t (tb_4 (List.mem_of_getElem? (i := 19) rfl)) rfl
theorem gw_806 : Cond.methodLink "java/lang/IndexOutOfBoundsException" 7 ⟨"java/lang/RuntimeException", "<init>", "(Ljava/lang/String;)V"⟩ ∈ gw := gw_t (tb_4 (List.mem_of_getElem? (i := 20) rfl)) rfl
theorem gw_807 : Cond.lays "java/lang/ArrayIndexOutOfBoundsException" "java/lang/Throwable" "backtrace" "Ljava/lang/Object;" ∈ gw := gw_t (tb_4 (List.mem_of_getElem? (i := 21) rfl)) rfl
theorem gw_808 : Cond.lays "java/lang/ArrayIndexOutOfBoundsException" "java/lang/Throwable" "detailMessage" "Ljava/lang/String;" ∈ gw := gw_t (tb_4 (List.mem_of_getElem? (i := 22) rfl)) rfl
theorem gw_809 : Cond.lays "java/lang/ArrayIndexOutOfBoundsException" "java/lang/Throwable" "cause" "Ljava/lang/Throwable;" ∈ gw := gw_t (tb_4 (List.mem_of_getElem? (i := 23) rfl)) rfl
theorem gw_810 : Cond.lays "java/lang/ArrayIndexOutOfBoundsException" "java/lang/Throwable" "stackTrace" "[Ljava/lang/StackTraceElement;" ∈ gw := gw_t (tb_4 (List.mem_of_getElem? (i := 24) rfl)) rfl
theorem gw_811 : Cond.lays "java/lang/ArrayIndexOutOfBoundsException" "java/lang/Throwable" "depth" "I" ∈ gw := gw_t (tb_4 (List.mem_of_getElem? (i := 25) rfl)) rfl
theorem gw_812 : Cond.lays "java/lang/ArrayIndexOutOfBoundsException" "java/lang/Throwable" "suppressedExceptions" "Ljava/util/List;" ∈ gw := gw_t (tb_4 (List.mem_of_getElem? (i := 26) rfl)) rfl
theorem gw_818 : Cond.instantiable "java/lang/String" 4 ∈ gw := gw_t (tb_4 (List.mem_of_getElem? (i := 32) rfl)) rfl
theorem gw_819 : Cond.laysFinal "java/lang/String" "java/lang/String" "value" "[B" ∈ gw := gw_t (tb_4 (List.mem_of_getElem? (i := 33) rfl)) rfl
theorem gw_821 : Cond.laysFinal "java/lang/String" "java/lang/String" "coder" "B" ∈ gw := gw_t (tb_4 (List.mem_of_getElem? (i := 35) rfl)) rfl
theorem gw_823 : Cond.methodLink "HedgeCommitteeLaw" 37 ⟨"HedgeCommittee", "leaves", "(I)I"⟩ ∈ gw := gw_t (tb_4 (List.mem_of_getElem? (i := 37) rfl)) rfl
theorem gw_824 : Cond.instanceMethod ⟨"HedgeCommittee", "leaves", "(I)I"⟩ ∈ gw := gw_t (tb_4 (List.mem_of_getElem? (i := 38) rfl)) rfl
theorem gw_825 : Cond.selects "HedgeCommittee" ⟨"HedgeCommittee", "leaves", "(I)I"⟩ ⟨"HedgeCommittee", "leaves", "(I)I"⟩ ∈ gw := gw_t (tb_4 (List.mem_of_getElem? (i := 39) rfl)) rfl
theorem gw_826 : Cond.code ⟨"HedgeCommittee", "leaves", "(I)I"⟩ prog_1_method_10_code 2 (some .int) ∈ gw := gw_t (tb_4 (List.mem_of_getElem? (i := 40) rfl)) rfl
theorem gw_827 : Cond.methodLink "HedgeCommittee" 102 ⟨"HedgeCommittee", "requireHedge", "(I)V"⟩ ∈ gw := gw_t (tb_4 (List.mem_of_getElem? (i := 41) rfl)) rfl
theorem gw_829 : Cond.instanceMethod ⟨"HedgeCommittee", "requireHedge", "(I)V"⟩ ∈ gw := gw_t (tb_4 (List.mem_of_getElem? (i := 43) rfl)) rfl
theorem gw_830 : Cond.code ⟨"HedgeCommittee", "requireHedge", "(I)V"⟩ prog_1_method_50_code 2 none ∈ gw := gw_t (tb_4 (List.mem_of_getElem? (i := 44) rfl)) rfl
theorem gw_831 : Cond.methodLink "HedgeCommittee" 113 ⟨"HedgeCommittee$Hedges", "has", "(I)Z"⟩ ∈ gw := gw_t (tb_4 (List.mem_of_getElem? (i := 45) rfl)) rfl
theorem gw_832 : Cond.instanceMethod ⟨"HedgeCommittee$Hedges", "has", "(I)Z"⟩ ∈ gw := gw_t (tb_4 (List.mem_of_getElem? (i := 46) rfl)) rfl
theorem gw_833 : Cond.selects "HedgeCommittee$Hedges" ⟨"HedgeCommittee$Hedges", "has", "(I)Z"⟩ ⟨"HedgeCommittee$Hedges", "has", "(I)Z"⟩ ∈ gw := gw_t (tb_4 (List.mem_of_getElem? (i := 47) rfl)) rfl
theorem gw_834 : Cond.code ⟨"HedgeCommittee$Hedges", "has", "(I)Z"⟩ prog_4_method_3_code 2 (some .boolean) ∈ gw := gw_t (tb_4 (List.mem_of_getElem? (i := 48) rfl)) rfl
theorem gw_835 : Cond.classLink "HedgeCommittee" 300 "java/lang/IndexOutOfBoundsException" ∈ gw := gw_t (tb_4 (List.mem_of_getElem? (i := 49) rfl)) rfl
theorem gw_836 : Cond.instantiable "java/lang/IndexOutOfBoundsException" 6 ∈ gw := gw_t (tb_4 (List.mem_of_getElem? (i := 50) rfl)) rfl
theorem gw_838 : Cond.selects "java/lang/IndexOutOfBoundsException" ⟨"java/lang/Throwable", "fillInStackTrace", "(I)Ljava/lang/Throwable;"⟩ ⟨"java/lang/Throwable", "fillInStackTrace", "(I)Ljava/lang/Throwable;"⟩ ∈ gw := gw_t (tb_4 (List.mem_of_getElem? (i := 52) rfl)) rfl
theorem gw_839 : Cond.lays "java/lang/IndexOutOfBoundsException" "java/lang/Throwable" "cause" "Ljava/lang/Throwable;" ∈ gw := gw_t (tb_4 (List.mem_of_getElem? (i := 53) rfl)) rfl
theorem gw_840 : Cond.lays "java/lang/IndexOutOfBoundsException" "java/lang/Throwable" "stackTrace" "[Ljava/lang/StackTraceElement;" ∈ gw := gw_t (tb_4 (List.mem_of_getElem? (i := 54) rfl)) rfl
theorem gw_841 : Cond.lays "java/lang/IndexOutOfBoundsException" "java/lang/Throwable" "suppressedExceptions" "Ljava/util/List;" ∈ gw := gw_t (tb_4 (List.mem_of_getElem? (i := 55) rfl)) rfl
theorem gw_842 : Cond.lays "java/lang/IndexOutOfBoundsException" "java/lang/Throwable" "detailMessage" "Ljava/lang/String;" ∈ gw := gw_t (tb_4 (List.mem_of_getElem? (i := 56) rfl)) rfl
theorem gw_843 : Cond.lays "java/lang/IndexOutOfBoundsException" "java/lang/Throwable" "backtrace" "Ljava/lang/Object;" ∈ gw := gw_t (tb_4 (List.mem_of_getElem? (i := 57) rfl)) rfl
theorem gw_845 : Cond.methodLink "HedgeCommittee" 304 ⟨"java/lang/IndexOutOfBoundsException", "<init>", "(Ljava/lang/String;)V"⟩ ∈ gw := gw_t (tb_4 (List.mem_of_getElem? (i := 59) rfl)) rfl
theorem gw_848 : Cond.methodLink "HedgeCommitteeLaw" 177 ⟨"HedgeCommitteeLaw", "thorns", "(LHedgeCommittee;I[J)I"⟩ ∈ gw := gw_t (tb_4 (List.mem_of_getElem? (i := 62) rfl)) rfl
theorem gw_849 : Cond.static ⟨"HedgeCommitteeLaw", "thorns", "(LHedgeCommittee;I[J)I"⟩ ∈ gw := gw_t (tb_4 (List.mem_of_getElem? (i := 63) rfl)) rfl
theorem gw_850 : Cond.codeWith ⟨"HedgeCommitteeLaw", "thorns", "(LHedgeCommittee;I[J)I"⟩ method_10_code 4 (some .int) [(0, 9, 12, 40)] ∈ gw := gw_t (tb_4 (List.mem_of_getElem? (i := 64) rfl)) rfl
theorem gw_851 : Cond.methodLink "HedgeCommitteeLaw" 42 ⟨"HedgeCommittee", "thorns", "(I)I"⟩ ∈ gw := gw_t (tb_4 (List.mem_of_getElem? (i := 65) rfl)) rfl
theorem gw_852 : Cond.instanceMethod ⟨"HedgeCommittee", "thorns", "(I)I"⟩ ∈ gw := gw_t (tb_4 (List.mem_of_getElem? (i := 66) rfl)) rfl
theorem gw_853 : Cond.selects "HedgeCommittee" ⟨"HedgeCommittee", "thorns", "(I)I"⟩ ⟨"HedgeCommittee", "thorns", "(I)I"⟩ ∈ gw := gw_t (tb_4 (List.mem_of_getElem? (i := 67) rfl)) rfl
theorem gw_854 : Cond.code ⟨"HedgeCommittee", "thorns", "(I)I"⟩ prog_1_method_11_code 2 (some .int) ∈ gw := gw_t (tb_4 (List.mem_of_getElem? (i := 68) rfl)) rfl
theorem gw_855 : Cond.methodLink "HedgeCommitteeLaw" 180 ⟨"HedgeCommitteeLaw", "hedgeAtRank", "(LHedgeCommittee;I[J)I"⟩ ∈ gw := gw_t (tb_4 (List.mem_of_getElem? (i := 69) rfl)) rfl
theorem gw_856 : Cond.static ⟨"HedgeCommitteeLaw", "hedgeAtRank", "(LHedgeCommittee;I[J)I"⟩ ∈ gw := gw_t (tb_4 (List.mem_of_getElem? (i := 70) rfl)) rfl
theorem gw_857 : Cond.codeWith ⟨"HedgeCommitteeLaw", "hedgeAtRank", "(LHedgeCommittee;I[J)I"⟩ method_11_code 4 (some .int) [(0, 9, 12, 24)] ∈ gw := gw_t (tb_4 (List.mem_of_getElem? (i := 71) rfl)) rfl
theorem gw_858 : Cond.methodLink "HedgeCommitteeLaw" 45 ⟨"HedgeCommittee", "hedgeAtRank", "(I)I"⟩ ∈ gw := gw_t (tb_4 (List.mem_of_getElem? (i := 72) rfl)) rfl
theorem gw_859 : Cond.instanceMethod ⟨"HedgeCommittee", "hedgeAtRank", "(I)I"⟩ ∈ gw := gw_t (tb_4 (List.mem_of_getElem? (i := 73) rfl)) rfl
theorem gw_860 : Cond.selects "HedgeCommittee" ⟨"HedgeCommittee", "hedgeAtRank", "(I)I"⟩ ⟨"HedgeCommittee", "hedgeAtRank", "(I)I"⟩ ∈ gw := gw_t (tb_4 (List.mem_of_getElem? (i := 74) rfl)) rfl
theorem gw_861 : Cond.code ⟨"HedgeCommittee", "hedgeAtRank", "(I)I"⟩ prog_1_method_12_code 2 (some .int) ∈ gw := gw_t (tb_4 (List.mem_of_getElem? (i := 75) rfl)) rfl
theorem gw_862 : Cond.classLink "HedgeCommittee" 117 "java/util/NoSuchElementException" ∈ gw := gw_t (tb_4 (List.mem_of_getElem? (i := 76) rfl)) rfl
theorem gw_864 : Cond.methodLink "HedgeCommittee" 121 ⟨"java/util/NoSuchElementException", "<init>", "(Ljava/lang/String;)V"⟩ ∈ gw := gw_t (tb_4 (List.mem_of_getElem? (i := 78) rfl)) rfl
theorem gw_865 : Cond.methodLink "HedgeCommittee" 124 ⟨"HedgeCommittee$Hedges", "atRank", "(I)I"⟩ ∈ gw := gw_t (tb_4 (List.mem_of_getElem? (i := 79) rfl)) rfl
theorem gw_866 : Cond.instanceMethod ⟨"HedgeCommittee$Hedges", "atRank", "(I)I"⟩ ∈ gw := gw_t (tb_4 (List.mem_of_getElem? (i := 80) rfl)) rfl
theorem gw_867 : Cond.selects "HedgeCommittee$Hedges" ⟨"HedgeCommittee$Hedges", "atRank", "(I)I"⟩ ⟨"HedgeCommittee$Hedges", "atRank", "(I)I"⟩ ∈ gw := gw_t (tb_4 (List.mem_of_getElem? (i := 81) rfl)) rfl
theorem gw_868 : Cond.code ⟨"HedgeCommittee$Hedges", "atRank", "(I)I"⟩ prog_4_method_13_code 4 (some .int) ∈ gw := gw_t (tb_4 (List.mem_of_getElem? (i := 82) rfl)) rfl
theorem gw_869 : Cond.methodLink "HedgeCommittee$Hedges" 58 ⟨"HedgeCommittee$Hedges", "rankOf", "(I)I"⟩ ∈ gw := gw_t (tb_4 (List.mem_of_getElem? (i := 83) rfl)) rfl
theorem gw_871 : Cond.instanceMethod ⟨"HedgeCommittee$Hedges", "rankOf", "(I)I"⟩ ∈ gw := gw_t (tb_4 (List.mem_of_getElem? (i := 85) rfl)) rfl
theorem gw_872 : Cond.code ⟨"HedgeCommittee$Hedges", "rankOf", "(I)I"⟩ prog_4_method_14_code 4 (some .int) ∈ gw := gw_t (tb_4 (List.mem_of_getElem? (i := 86) rfl)) rfl
theorem gw_873 : Cond.methodLink "HedgeCommittee$Hedges" 61 ⟨"HedgeCommittee$Hedges", "ranksBefore", "(II)Z"⟩ ∈ gw := gw_t (tb_4 (List.mem_of_getElem? (i := 87) rfl)) rfl
theorem gw_874 : Cond.instanceMethod ⟨"HedgeCommittee$Hedges", "ranksBefore", "(II)Z"⟩ ∈ gw := gw_t (tb_4 (List.mem_of_getElem? (i := 88) rfl)) rfl
theorem gw_875 : Cond.selects "HedgeCommittee$Hedges" ⟨"HedgeCommittee$Hedges", "ranksBefore", "(II)Z"⟩ ⟨"HedgeCommittee$Hedges", "ranksBefore", "(II)Z"⟩ ∈ gw := gw_t (tb_4 (List.mem_of_getElem? (i := 89) rfl)) rfl
theorem gw_876 : Cond.code ⟨"HedgeCommittee$Hedges", "ranksBefore", "(II)Z"⟩ prog_4_method_12_code 3 (some .boolean) ∈ gw := gw_t (tb_4 (List.mem_of_getElem? (i := 90) rfl)) rfl
theorem gw_877 : Cond.methodLink "HedgeCommitteeLaw" 183 ⟨"HedgeCommitteeLaw", "leavesInFavour", "(LHedgeCommittee;I[J)I"⟩ ∈ gw := gw_t (tb_4 (List.mem_of_getElem? (i := 91) rfl)) rfl
theorem gw_878 : Cond.static ⟨"HedgeCommitteeLaw", "leavesInFavour", "(LHedgeCommittee;I[J)I"⟩ ∈ gw := gw_t (tb_4 (List.mem_of_getElem? (i := 92) rfl)) rfl
theorem gw_879 : Cond.codeWith ⟨"HedgeCommitteeLaw", "leavesInFavour", "(LHedgeCommittee;I[J)I"⟩ method_12_code 4 (some .int) [(0, 9, 12, 24)] ∈ gw := gw_t (tb_4 (List.mem_of_getElem? (i := 93) rfl)) rfl
theorem gw_880 : Cond.methodLink "HedgeCommitteeLaw" 48 ⟨"HedgeCommittee", "leavesInFavour", "(I)I"⟩ ∈ gw := gw_t (tb_4 (List.mem_of_getElem? (i := 94) rfl)) rfl
theorem gw_881 : Cond.instanceMethod ⟨"HedgeCommittee", "leavesInFavour", "(I)I"⟩ ∈ gw := gw_t (tb_4 (List.mem_of_getElem? (i := 95) rfl)) rfl
theorem gw_882 : Cond.selects "HedgeCommittee" ⟨"HedgeCommittee", "leavesInFavour", "(I)I"⟩ ⟨"HedgeCommittee", "leavesInFavour", "(I)I"⟩ ∈ gw := gw_t (tb_4 (List.mem_of_getElem? (i := 96) rfl)) rfl
theorem gw_883 : Cond.code ⟨"HedgeCommittee", "leavesInFavour", "(I)I"⟩ prog_1_method_13_code 3 (some .int) ∈ gw := gw_t (tb_4 (List.mem_of_getElem? (i := 97) rfl)) rfl
theorem gw_884 : Cond.methodLink "HedgeCommittee" 131 ⟨"HedgeCommittee$Motions", "require", "(I)I"⟩ ∈ gw := gw_t (tb_4 (List.mem_of_getElem? (i := 98) rfl)) rfl
theorem gw_885 : Cond.methodLink "HedgeCommittee" 139 ⟨"HedgeCommittee$Hedges", "leavesFor", "(I)I"⟩ ∈ gw := gw_t (tb_4 (List.mem_of_getElem? (i := 99) rfl)) rfl
theorem gw_886 : Cond.methodLink "HedgeCommitteeLaw" 186 ⟨"HedgeCommitteeLaw", "wouldVeto", "(LHedgeCommittee;II[J)I"⟩ ∈ gw := gw_t (tb_4 (List.mem_of_getElem? (i := 100) rfl)) rfl
theorem gw_887 : Cond.static ⟨"HedgeCommitteeLaw", "wouldVeto", "(LHedgeCommittee;II[J)I"⟩ ∈ gw := gw_t (tb_4 (List.mem_of_getElem? (i := 101) rfl)) rfl
theorem gw_888 : Cond.codeWith ⟨"HedgeCommitteeLaw", "wouldVeto", "(LHedgeCommittee;II[J)I"⟩ method_13_code 5 (some .int) [(0, 17, 20, 40), (0, 17, 24, 24)] ∈ gw := gw_t (tb_4 (List.mem_of_getElem? (i := 102) rfl)) rfl
theorem gw_889 : Cond.methodLink "HedgeCommitteeLaw" 51 ⟨"HedgeCommittee", "wouldVeto", "(II)Z"⟩ ∈ gw := gw_t (tb_4 (List.mem_of_getElem? (i := 103) rfl)) rfl
theorem gw_890 : Cond.instanceMethod ⟨"HedgeCommittee", "wouldVeto", "(II)Z"⟩ ∈ gw := gw_t (tb_4 (List.mem_of_getElem? (i := 104) rfl)) rfl
theorem gw_891 : Cond.selects "HedgeCommittee" ⟨"HedgeCommittee", "wouldVeto", "(II)Z"⟩ ⟨"HedgeCommittee", "wouldVeto", "(II)Z"⟩ ∈ gw := gw_t (tb_4 (List.mem_of_getElem? (i := 105) rfl)) rfl
theorem gw_892 : Cond.code ⟨"HedgeCommittee", "wouldVeto", "(II)Z"⟩ prog_1_method_14_code 4 (some .boolean) ∈ gw := gw_t (tb_4 (List.mem_of_getElem? (i := 106) rfl)) rfl
theorem gw_893 : Cond.methodLink "HedgeCommittee" 142 ⟨"HedgeCommittee$Hedges", "vetoes", "(II)Z"⟩ ∈ gw := gw_t (tb_4 (List.mem_of_getElem? (i := 107) rfl)) rfl
theorem gw_894 : Cond.methodLink "HedgeCommitteeLaw" 193 ⟨"HedgeCommitteeLaw", "motionAt", "(LHedgeCommittee;I[J)I"⟩ ∈ gw := gw_t (tb_4 (List.mem_of_getElem? (i := 108) rfl)) rfl
theorem gw_895 : Cond.static ⟨"HedgeCommitteeLaw", "motionAt", "(LHedgeCommittee;I[J)I"⟩ ∈ gw := gw_t (tb_4 (List.mem_of_getElem? (i := 109) rfl)) rfl
theorem gw_896 : Cond.codeWith ⟨"HedgeCommitteeLaw", "motionAt", "(LHedgeCommittee;I[J)I"⟩ method_14_code 4 (some .int) [(0, 9, 12, 40)] ∈ gw := gw_t (tb_4 (List.mem_of_getElem? (i := 110) rfl)) rfl
theorem gw_897 : Cond.methodLink "HedgeCommitteeLaw" 55 ⟨"HedgeCommittee", "motionAt", "(I)I"⟩ ∈ gw := gw_t (tb_4 (List.mem_of_getElem? (i := 111) rfl)) rfl
theorem gw_898 : Cond.instanceMethod ⟨"HedgeCommittee", "motionAt", "(I)I"⟩ ∈ gw := gw_t (tb_4 (List.mem_of_getElem? (i := 112) rfl)) rfl
theorem gw_899 : Cond.selects "HedgeCommittee" ⟨"HedgeCommittee", "motionAt", "(I)I"⟩ ⟨"HedgeCommittee", "motionAt", "(I)I"⟩ ∈ gw := gw_t (tb_4 (List.mem_of_getElem? (i := 113) rfl)) rfl
theorem gw_900 : Cond.code ⟨"HedgeCommittee", "motionAt", "(I)I"⟩ prog_1_method_16_code 2 (some .int) ∈ gw := gw_t (tb_4 (List.mem_of_getElem? (i := 114) rfl)) rfl
theorem gw_901 : Cond.methodLink "HedgeCommittee" 147 ⟨"HedgeCommittee", "requirePosition", "(I)V"⟩ ∈ gw := gw_t (tb_4 (List.mem_of_getElem? (i := 115) rfl)) rfl
theorem gw_903 : Cond.instanceMethod ⟨"HedgeCommittee", "requirePosition", "(I)V"⟩ ∈ gw := gw_t (tb_4 (List.mem_of_getElem? (i := 117) rfl)) rfl
theorem gw_904 : Cond.code ⟨"HedgeCommittee", "requirePosition", "(I)V"⟩ prog_1_method_51_code 2 none ∈ gw := gw_t (tb_4 (List.mem_of_getElem? (i := 118) rfl)) rfl
theorem gw_906 : Cond.methodLink "HedgeCommitteeLaw" 196 ⟨"HedgeCommitteeLaw", "tone", "(LHedgeCommittee;I[J)I"⟩ ∈ gw := gw_t (tb_4 (List.mem_of_getElem? (i := 120) rfl)) rfl
theorem gw_907 : Cond.static ⟨"HedgeCommitteeLaw", "tone", "(LHedgeCommittee;I[J)I"⟩ ∈ gw := gw_t (tb_4 (List.mem_of_getElem? (i := 121) rfl)) rfl
theorem gw_908 : Cond.codeWith ⟨"HedgeCommitteeLaw", "tone", "(LHedgeCommittee;I[J)I"⟩ method_15_code 4 (some .int) [(0, 9, 12, 24)] ∈ gw := gw_t (tb_4 (List.mem_of_getElem? (i := 122) rfl)) rfl
theorem gw_909 : Cond.methodLink "HedgeCommitteeLaw" 58 ⟨"HedgeCommittee", "tone", "(I)I"⟩ ∈ gw := gw_t (tb_4 (List.mem_of_getElem? (i := 123) rfl)) rfl
theorem gw_910 : Cond.instanceMethod ⟨"HedgeCommittee", "tone", "(I)I"⟩ ∈ gw := gw_t (tb_4 (List.mem_of_getElem? (i := 124) rfl)) rfl
theorem gw_911 : Cond.selects "HedgeCommittee" ⟨"HedgeCommittee", "tone", "(I)I"⟩ ⟨"HedgeCommittee", "tone", "(I)I"⟩ ∈ gw := gw_t (tb_4 (List.mem_of_getElem? (i := 125) rfl)) rfl
theorem gw_912 : Cond.code ⟨"HedgeCommittee", "tone", "(I)I"⟩ prog_1_method_17_code 2 (some .int) ∈ gw := gw_t (tb_4 (List.mem_of_getElem? (i := 126) rfl)) rfl
theorem gw_913 : Cond.methodLink "HedgeCommitteeLaw" 199 ⟨"HedgeCommitteeLaw", "weight", "(LHedgeCommittee;I[J)I"⟩ ∈ gw := gw_t (tb_4 (List.mem_of_getElem? (i := 127) rfl)) rfl
theorem gw_914 : Cond.static ⟨"HedgeCommitteeLaw", "weight", "(LHedgeCommittee;I[J)I"⟩ ∈ gw := gw_t (tb_4 (List.mem_of_getElem? (i := 128) rfl)) rfl
theorem gw_915 : Cond.codeWith ⟨"HedgeCommitteeLaw", "weight", "(LHedgeCommittee;I[J)I"⟩ method_16_code 4 (some .int) [(0, 9, 12, 24)] ∈ gw := gw_t (tb_4 (List.mem_of_getElem? (i := 129) rfl)) rfl
theorem gw_916 : Cond.methodLink "HedgeCommitteeLaw" 61 ⟨"HedgeCommittee", "weight", "(I)I"⟩ ∈ gw := gw_t (tb_4 (List.mem_of_getElem? (i := 130) rfl)) rfl
theorem gw_917 : Cond.instanceMethod ⟨"HedgeCommittee", "weight", "(I)I"⟩ ∈ gw := gw_t (tb_4 (List.mem_of_getElem? (i := 131) rfl)) rfl
theorem gw_918 : Cond.selects "HedgeCommittee" ⟨"HedgeCommittee", "weight", "(I)I"⟩ ⟨"HedgeCommittee", "weight", "(I)I"⟩ ∈ gw := gw_t (tb_4 (List.mem_of_getElem? (i := 132) rfl)) rfl
theorem gw_919 : Cond.code ⟨"HedgeCommittee", "weight", "(I)I"⟩ prog_1_method_18_code 2 (some .int) ∈ gw := gw_t (tb_4 (List.mem_of_getElem? (i := 133) rfl)) rfl
theorem gw_920 : Cond.methodLink "HedgeCommitteeLaw" 202 ⟨"HedgeCommitteeLaw", "parent", "(LHedgeCommittee;I[J)I"⟩ ∈ gw := gw_t (tb_4 (List.mem_of_getElem? (i := 134) rfl)) rfl
theorem gw_921 : Cond.static ⟨"HedgeCommitteeLaw", "parent", "(LHedgeCommittee;I[J)I"⟩ ∈ gw := gw_t (tb_4 (List.mem_of_getElem? (i := 135) rfl)) rfl
theorem gw_922 : Cond.codeWith ⟨"HedgeCommitteeLaw", "parent", "(LHedgeCommittee;I[J)I"⟩ method_17_code 4 (some .int) [(0, 9, 12, 24)] ∈ gw := gw_t (tb_4 (List.mem_of_getElem? (i := 136) rfl)) rfl
theorem gw_923 : Cond.methodLink "HedgeCommitteeLaw" 64 ⟨"HedgeCommittee", "parent", "(I)I"⟩ ∈ gw := gw_t (tb_4 (List.mem_of_getElem? (i := 137) rfl)) rfl
theorem gw_924 : Cond.instanceMethod ⟨"HedgeCommittee", "parent", "(I)I"⟩ ∈ gw := gw_t (tb_4 (List.mem_of_getElem? (i := 138) rfl)) rfl
theorem gw_925 : Cond.selects "HedgeCommittee" ⟨"HedgeCommittee", "parent", "(I)I"⟩ ⟨"HedgeCommittee", "parent", "(I)I"⟩ ∈ gw := gw_t (tb_4 (List.mem_of_getElem? (i := 139) rfl)) rfl
theorem gw_926 : Cond.code ⟨"HedgeCommittee", "parent", "(I)I"⟩ prog_1_method_19_code 3 (some .int) ∈ gw := gw_t (tb_4 (List.mem_of_getElem? (i := 140) rfl)) rfl
theorem gw_928 : Cond.methodLink "HedgeCommitteeLaw" 205 ⟨"HedgeCommitteeLaw", "depth", "(LHedgeCommittee;I[J)I"⟩ ∈ gw := gw_t (tb_4 (List.mem_of_getElem? (i := 142) rfl)) rfl
theorem gw_929 : Cond.static ⟨"HedgeCommitteeLaw", "depth", "(LHedgeCommittee;I[J)I"⟩ ∈ gw := gw_t (tb_4 (List.mem_of_getElem? (i := 143) rfl)) rfl
theorem gw_930 : Cond.codeWith ⟨"HedgeCommitteeLaw", "depth", "(LHedgeCommittee;I[J)I"⟩ method_18_code 4 (some .int) [(0, 9, 12, 24)] ∈ gw := gw_t (tb_4 (List.mem_of_getElem? (i := 144) rfl)) rfl
theorem gw_931 : Cond.methodLink "HedgeCommitteeLaw" 67 ⟨"HedgeCommittee", "depth", "(I)I"⟩ ∈ gw := gw_t (tb_4 (List.mem_of_getElem? (i := 145) rfl)) rfl
theorem gw_932 : Cond.instanceMethod ⟨"HedgeCommittee", "depth", "(I)I"⟩ ∈ gw := gw_t (tb_4 (List.mem_of_getElem? (i := 146) rfl)) rfl
theorem gw_933 : Cond.selects "HedgeCommittee" ⟨"HedgeCommittee", "depth", "(I)I"⟩ ⟨"HedgeCommittee", "depth", "(I)I"⟩ ∈ gw := gw_t (tb_4 (List.mem_of_getElem? (i := 147) rfl)) rfl
theorem gw_934 : Cond.code ⟨"HedgeCommittee", "depth", "(I)I"⟩ prog_1_method_20_code 2 (some .int) ∈ gw := gw_t (tb_4 (List.mem_of_getElem? (i := 148) rfl)) rfl
theorem gw_935 : Cond.methodLink "HedgeCommittee" 161 ⟨"HedgeCommittee$Motions", "depthOf", "(I)I"⟩ ∈ gw := gw_t (tb_4 (List.mem_of_getElem? (i := 149) rfl)) rfl
theorem gw_936 : Cond.methodLink "HedgeCommitteeLaw" 208 ⟨"HedgeCommitteeLaw", "isTip", "(LHedgeCommittee;I[J)I"⟩ ∈ gw := gw_t (tb_4 (List.mem_of_getElem? (i := 150) rfl)) rfl
theorem gw_937 : Cond.static ⟨"HedgeCommitteeLaw", "isTip", "(LHedgeCommittee;I[J)I"⟩ ∈ gw := gw_t (tb_4 (List.mem_of_getElem? (i := 151) rfl)) rfl
theorem gw_938 : Cond.codeWith ⟨"HedgeCommitteeLaw", "isTip", "(LHedgeCommittee;I[J)I"⟩ method_19_code 4 (some .int) [(0, 16, 19, 24)] ∈ gw := gw_t (tb_4 (List.mem_of_getElem? (i := 152) rfl)) rfl
theorem gw_939 : Cond.methodLink "HedgeCommitteeLaw" 70 ⟨"HedgeCommittee", "isTip", "(I)Z"⟩ ∈ gw := gw_t (tb_4 (List.mem_of_getElem? (i := 153) rfl)) rfl
theorem gw_940 : Cond.instanceMethod ⟨"HedgeCommittee", "isTip", "(I)Z"⟩ ∈ gw := gw_t (tb_4 (List.mem_of_getElem? (i := 154) rfl)) rfl
theorem gw_941 : Cond.selects "HedgeCommittee" ⟨"HedgeCommittee", "isTip", "(I)Z"⟩ ⟨"HedgeCommittee", "isTip", "(I)Z"⟩ ∈ gw := gw_t (tb_4 (List.mem_of_getElem? (i := 155) rfl)) rfl
theorem gw_942 : Cond.code ⟨"HedgeCommittee", "isTip", "(I)Z"⟩ prog_1_method_21_code 2 (some .boolean) ∈ gw := gw_t (tb_4 (List.mem_of_getElem? (i := 156) rfl)) rfl
theorem gw_943 : Cond.methodLink "HedgeCommittee" 164 ⟨"HedgeCommittee$Motions", "hasAmendments", "(I)Z"⟩ ∈ gw := gw_t (tb_4 (List.mem_of_getElem? (i := 157) rfl)) rfl
theorem gw_944 : Cond.methodLink "HedgeCommitteeLaw" 211 ⟨"HedgeCommitteeLaw", "branchSize", "(LHedgeCommittee;I[J)I"⟩ ∈ gw := gw_t (tb_4 (List.mem_of_getElem? (i := 158) rfl)) rfl
theorem gw_945 : Cond.static ⟨"HedgeCommitteeLaw", "branchSize", "(LHedgeCommittee;I[J)I"⟩ ∈ gw := gw_t (tb_4 (List.mem_of_getElem? (i := 159) rfl)) rfl
theorem gw_946 : Cond.codeWith ⟨"HedgeCommitteeLaw", "branchSize", "(LHedgeCommittee;I[J)I"⟩ method_20_code 4 (some .int) [(0, 9, 12, 24)] ∈ gw := gw_t (tb_4 (List.mem_of_getElem? (i := 160) rfl)) rfl
theorem gw_947 : Cond.methodLink "HedgeCommitteeLaw" 74 ⟨"HedgeCommittee", "branchSize", "(I)I"⟩ ∈ gw := gw_t (tb_4 (List.mem_of_getElem? (i := 161) rfl)) rfl
theorem gw_948 : Cond.instanceMethod ⟨"HedgeCommittee", "branchSize", "(I)I"⟩ ∈ gw := gw_t (tb_4 (List.mem_of_getElem? (i := 162) rfl)) rfl
theorem gw_949 : Cond.selects "HedgeCommittee" ⟨"HedgeCommittee", "branchSize", "(I)I"⟩ ⟨"HedgeCommittee", "branchSize", "(I)I"⟩ ∈ gw := gw_t (tb_4 (List.mem_of_getElem? (i := 163) rfl)) rfl
theorem gw_950 : Cond.code ⟨"HedgeCommittee", "branchSize", "(I)I"⟩ prog_1_method_22_code 2 (some .int) ∈ gw := gw_t (tb_4 (List.mem_of_getElem? (i := 164) rfl)) rfl
theorem gw_951 : Cond.methodLink "HedgeCommittee" 167 ⟨"HedgeCommittee$Motions", "sizeOfBranch", "(I)I"⟩ ∈ gw := gw_t (tb_4 (List.mem_of_getElem? (i := 165) rfl)) rfl
theorem gw_952 : Cond.instanceMethod ⟨"HedgeCommittee$Motions", "sizeOfBranch", "(I)I"⟩ ∈ gw := gw_t (tb_4 (List.mem_of_getElem? (i := 166) rfl)) rfl
theorem gw_953 : Cond.selects "HedgeCommittee$Motions" ⟨"HedgeCommittee$Motions", "sizeOfBranch", "(I)I"⟩ ⟨"HedgeCommittee$Motions", "sizeOfBranch", "(I)I"⟩ ∈ gw := gw_t (tb_4 (List.mem_of_getElem? (i := 167) rfl)) rfl
theorem gw_954 : Cond.code ⟨"HedgeCommittee$Motions", "sizeOfBranch", "(I)I"⟩ prog_7_method_10_code 4 (some .int) ∈ gw := gw_t (tb_4 (List.mem_of_getElem? (i := 168) rfl)) rfl
theorem gw_955 : Cond.methodLink "HedgeCommitteeLaw" 214 ⟨"HedgeCommitteeLaw", "lastTip", "(LHedgeCommittee;I[J)I"⟩ ∈ gw := gw_t (tb_4 (List.mem_of_getElem? (i := 169) rfl)) rfl
theorem gw_956 : Cond.static ⟨"HedgeCommitteeLaw", "lastTip", "(LHedgeCommittee;I[J)I"⟩ ∈ gw := gw_t (tb_4 (List.mem_of_getElem? (i := 170) rfl)) rfl
theorem gw_957 : Cond.codeWith ⟨"HedgeCommitteeLaw", "lastTip", "(LHedgeCommittee;I[J)I"⟩ method_21_code 4 (some .int) [(0, 9, 12, 24)] ∈ gw := gw_t (tb_4 (List.mem_of_getElem? (i := 171) rfl)) rfl
theorem gw_958 : Cond.methodLink "HedgeCommitteeLaw" 77 ⟨"HedgeCommittee", "lastTip", "(I)I"⟩ ∈ gw := gw_t (tb_4 (List.mem_of_getElem? (i := 172) rfl)) rfl
theorem gw_959 : Cond.instanceMethod ⟨"HedgeCommittee", "lastTip", "(I)I"⟩ ∈ gw := gw_t (tb_4 (List.mem_of_getElem? (i := 173) rfl)) rfl
theorem gw_960 : Cond.selects "HedgeCommittee" ⟨"HedgeCommittee", "lastTip", "(I)I"⟩ ⟨"HedgeCommittee", "lastTip", "(I)I"⟩ ∈ gw := gw_t (tb_4 (List.mem_of_getElem? (i := 174) rfl)) rfl
theorem gw_961 : Cond.code ⟨"HedgeCommittee", "lastTip", "(I)I"⟩ prog_1_method_23_code 3 (some .int) ∈ gw := gw_t (tb_4 (List.mem_of_getElem? (i := 175) rfl)) rfl
theorem gw_962 : Cond.methodLink "HedgeCommittee" 170 ⟨"HedgeCommittee$Motions", "lastTipOf", "(I)I"⟩ ∈ gw := gw_t (tb_4 (List.mem_of_getElem? (i := 176) rfl)) rfl
theorem gw_963 : Cond.methodLink "HedgeCommitteeLaw" 217 ⟨"HedgeCommitteeLaw", "motionAtRank", "(LHedgeCommittee;I[J)I"⟩ ∈ gw := gw_t (tb_4 (List.mem_of_getElem? (i := 177) rfl)) rfl
theorem gw_964 : Cond.static ⟨"HedgeCommitteeLaw", "motionAtRank", "(LHedgeCommittee;I[J)I"⟩ ∈ gw := gw_t (tb_4 (List.mem_of_getElem? (i := 178) rfl)) rfl
theorem gw_965 : Cond.codeWith ⟨"HedgeCommitteeLaw", "motionAtRank", "(LHedgeCommittee;I[J)I"⟩ method_22_code 4 (some .int) [(0, 9, 12, 40)] ∈ gw := gw_t (tb_4 (List.mem_of_getElem? (i := 179) rfl)) rfl
theorem gw_966 : Cond.methodLink "HedgeCommitteeLaw" 80 ⟨"HedgeCommittee", "motionAtRank", "(I)I"⟩ ∈ gw := gw_t (tb_4 (List.mem_of_getElem? (i := 180) rfl)) rfl
theorem gw_967 : Cond.instanceMethod ⟨"HedgeCommittee", "motionAtRank", "(I)I"⟩ ∈ gw := gw_t (tb_4 (List.mem_of_getElem? (i := 181) rfl)) rfl
theorem gw_968 : Cond.selects "HedgeCommittee" ⟨"HedgeCommittee", "motionAtRank", "(I)I"⟩ ⟨"HedgeCommittee", "motionAtRank", "(I)I"⟩ ∈ gw := gw_t (tb_4 (List.mem_of_getElem? (i := 182) rfl)) rfl
theorem gw_969 : Cond.code ⟨"HedgeCommittee", "motionAtRank", "(I)I"⟩ prog_1_method_24_code 2 (some .int) ∈ gw := gw_t (tb_4 (List.mem_of_getElem? (i := 183) rfl)) rfl
theorem gw_970 : Cond.methodLink "HedgeCommittee" 173 ⟨"HedgeCommittee$Motions", "atRank", "(I)I"⟩ ∈ gw := gw_t (tb_4 (List.mem_of_getElem? (i := 184) rfl)) rfl
theorem gw_971 : Cond.instanceMethod ⟨"HedgeCommittee$Motions", "atRank", "(I)I"⟩ ∈ gw := gw_t (tb_4 (List.mem_of_getElem? (i := 185) rfl)) rfl
theorem gw_972 : Cond.selects "HedgeCommittee$Motions" ⟨"HedgeCommittee$Motions", "atRank", "(I)I"⟩ ⟨"HedgeCommittee$Motions", "atRank", "(I)I"⟩ ∈ gw := gw_t (tb_4 (List.mem_of_getElem? (i := 186) rfl)) rfl
theorem gw_973 : Cond.code ⟨"HedgeCommittee$Motions", "atRank", "(I)I"⟩ prog_7_method_14_code 4 (some .int) ∈ gw := gw_t (tb_4 (List.mem_of_getElem? (i := 187) rfl)) rfl
theorem gw_974 : Cond.methodLink "HedgeCommittee$Motions" 56 ⟨"HedgeCommittee$Motions", "rankOf", "(I)I"⟩ ∈ gw := gw_t (tb_4 (List.mem_of_getElem? (i := 188) rfl)) rfl
theorem gw_976 : Cond.instanceMethod ⟨"HedgeCommittee$Motions", "rankOf", "(I)I"⟩ ∈ gw := gw_t (tb_4 (List.mem_of_getElem? (i := 190) rfl)) rfl
theorem gw_977 : Cond.code ⟨"HedgeCommittee$Motions", "rankOf", "(I)I"⟩ prog_7_method_15_code 4 (some .int) ∈ gw := gw_t (tb_4 (List.mem_of_getElem? (i := 191) rfl)) rfl
theorem gw_978 : Cond.methodLink "HedgeCommittee$Motions" 59 ⟨"HedgeCommittee$Motions", "ranksBefore", "(II)Z"⟩ ∈ gw := gw_t (tb_4 (List.mem_of_getElem? (i := 192) rfl)) rfl
theorem gw_979 : Cond.instanceMethod ⟨"HedgeCommittee$Motions", "ranksBefore", "(II)Z"⟩ ∈ gw := gw_t (tb_4 (List.mem_of_getElem? (i := 193) rfl)) rfl
theorem gw_980 : Cond.selects "HedgeCommittee$Motions" ⟨"HedgeCommittee$Motions", "ranksBefore", "(II)Z"⟩ ⟨"HedgeCommittee$Motions", "ranksBefore", "(II)Z"⟩ ∈ gw := gw_t (tb_4 (List.mem_of_getElem? (i := 194) rfl)) rfl
theorem gw_981 : Cond.code ⟨"HedgeCommittee$Motions", "ranksBefore", "(II)Z"⟩ prog_7_method_13_code 5 (some .boolean) ∈ gw := gw_t (tb_4 (List.mem_of_getElem? (i := 195) rfl)) rfl
theorem gw_982 : Cond.methodLink "HedgeCommittee$Motions" 52 ⟨"HedgeCommittee$Motions", "depthOf", "(I)I"⟩ ∈ gw := gw_t (tb_4 (List.mem_of_getElem? (i := 196) rfl)) rfl
theorem gw_983 : Cond.methodLink "HedgeCommitteeLaw" 220 ⟨"HedgeCommitteeLaw", "commonMotion", "(LHedgeCommittee;II[J)I"⟩ ∈ gw := gw_t (tb_4 (List.mem_of_getElem? (i := 197) rfl)) rfl
theorem gw_984 : Cond.static ⟨"HedgeCommitteeLaw", "commonMotion", "(LHedgeCommittee;II[J)I"⟩ ∈ gw := gw_t (tb_4 (List.mem_of_getElem? (i := 198) rfl)) rfl
theorem gw_985 : Cond.codeWith ⟨"HedgeCommitteeLaw", "commonMotion", "(LHedgeCommittee;II[J)I"⟩ method_23_code 5 (some .int) [(0, 10, 13, 24), (0, 10, 17, 86)] ∈ gw := gw_t (tb_4 (List.mem_of_getElem? (i := 199) rfl)) rfl
theorem gw_986 : Cond.classLink "HedgeCommitteeLaw" 86 "java/lang/UnsupportedOperationException" ∈ gw := gw_t (tb_4 (List.mem_of_getElem? (i := 200) rfl)) rfl
theorem gw_987 : Cond.methodLink "HedgeCommitteeLaw" 83 ⟨"HedgeCommittee", "commonMotion", "(II)I"⟩ ∈ gw := gw_t (tb_4 (List.mem_of_getElem? (i := 201) rfl)) rfl
theorem gw_988 : Cond.instanceMethod ⟨"HedgeCommittee", "commonMotion", "(II)I"⟩ ∈ gw := gw_t (tb_4 (List.mem_of_getElem? (i := 202) rfl)) rfl
theorem gw_989 : Cond.selects "HedgeCommittee" ⟨"HedgeCommittee", "commonMotion", "(II)I"⟩ ⟨"HedgeCommittee", "commonMotion", "(II)I"⟩ ∈ gw := gw_t (tb_4 (List.mem_of_getElem? (i := 203) rfl)) rfl
theorem gw_990 : Cond.code ⟨"HedgeCommittee", "commonMotion", "(II)I"⟩ prog_1_method_25_code 5 (some .int) ∈ gw := gw_t (tb_4 (List.mem_of_getElem? (i := 204) rfl)) rfl
theorem gw_991 : Cond.methodLink "HedgeCommittee" 174 ⟨"HedgeCommittee$Trees", "commonByClimbing", "(LHedgeCommittee$Motions;II)I"⟩ ∈ gw := gw_t (tb_4 (List.mem_of_getElem? (i := 205) rfl)) rfl
theorem gw_992 : Cond.methodLink "HedgeCommittee" 178 ⟨"HedgeCommittee", "idOfCommon", "(I)I"⟩ ∈ gw := gw_t (tb_4 (List.mem_of_getElem? (i := 206) rfl)) rfl
theorem gw_994 : Cond.instanceMethod ⟨"HedgeCommittee", "idOfCommon", "(I)I"⟩ ∈ gw := gw_t (tb_4 (List.mem_of_getElem? (i := 208) rfl)) rfl
theorem gw_995 : Cond.code ⟨"HedgeCommittee", "idOfCommon", "(I)I"⟩ prog_1_method_52_code 2 (some .int) ∈ gw := gw_t (tb_4 (List.mem_of_getElem? (i := 209) rfl)) rfl
theorem gw_996 : Cond.classLink "HedgeCommittee" 184 "java/lang/UnsupportedOperationException" ∈ gw := gw_t (tb_4 (List.mem_of_getElem? (i := 210) rfl)) rfl
theorem gw_997 : Cond.instantiable "java/lang/UnsupportedOperationException" 6 ∈ gw := gw_t (tb_4 (List.mem_of_getElem? (i := 211) rfl)) rfl
theorem gw_999 : Cond.selects "java/lang/UnsupportedOperationException" ⟨"java/lang/Throwable", "fillInStackTrace", "(I)Ljava/lang/Throwable;"⟩ ⟨"java/lang/Throwable", "fillInStackTrace", "(I)Ljava/lang/Throwable;"⟩ ∈ gw := gw_t (tb_4 (List.mem_of_getElem? (i := 213) rfl)) rfl
theorem gw_1000 : Cond.lays "java/lang/UnsupportedOperationException" "java/lang/Throwable" "cause" "Ljava/lang/Throwable;" ∈ gw := gw_t (tb_4 (List.mem_of_getElem? (i := 214) rfl)) rfl
theorem gw_1001 : Cond.lays "java/lang/UnsupportedOperationException" "java/lang/Throwable" "stackTrace" "[Ljava/lang/StackTraceElement;" ∈ gw := gw_t (tb_4 (List.mem_of_getElem? (i := 215) rfl)) rfl
theorem gw_1002 : Cond.lays "java/lang/UnsupportedOperationException" "java/lang/Throwable" "suppressedExceptions" "Ljava/util/List;" ∈ gw := gw_t (tb_4 (List.mem_of_getElem? (i := 216) rfl)) rfl
theorem gw_1003 : Cond.lays "java/lang/UnsupportedOperationException" "java/lang/Throwable" "detailMessage" "Ljava/lang/String;" ∈ gw := gw_t (tb_4 (List.mem_of_getElem? (i := 217) rfl)) rfl
theorem gw_1004 : Cond.lays "java/lang/UnsupportedOperationException" "java/lang/Throwable" "backtrace" "Ljava/lang/Object;" ∈ gw := gw_t (tb_4 (List.mem_of_getElem? (i := 218) rfl)) rfl
theorem gw_1006 : Cond.methodLink "HedgeCommittee" 188 ⟨"java/lang/UnsupportedOperationException", "<init>", "(Ljava/lang/String;)V"⟩ ∈ gw := gw_t (tb_4 (List.mem_of_getElem? (i := 220) rfl)) rfl
theorem gw_1007 : Cond.instanceMethod ⟨"java/lang/UnsupportedOperationException", "<init>", "(Ljava/lang/String;)V"⟩ ∈ gw := gw_t (tb_4 (List.mem_of_getElem? (i := 221) rfl)) rfl
theorem gw_1008 : Cond.code ⟨"java/lang/UnsupportedOperationException", "<init>", "(Ljava/lang/String;)V"⟩ prog_38_method_2_code 2 none ∈ gw := gw_t (tb_4 (List.mem_of_getElem? (i := 222) rfl)) rfl
theorem gw_1009 : Cond.methodLink "java/lang/UnsupportedOperationException" 7 ⟨"java/lang/RuntimeException", "<init>", "(Ljava/lang/String;)V"⟩ ∈ gw := gw_t (tb_4 (List.mem_of_getElem? (i := 223) rfl)) rfl
theorem gw_1012 : Cond.methodLink "HedgeCommitteeLaw" 223 ⟨"HedgeCommitteeLaw", "commonMotionByRows", "(LHedgeCommittee;II[J)I"⟩ ∈ gw := gw_t (tb_4 (List.mem_of_getElem? (i := 226) rfl)) rfl
theorem gw_1013 : Cond.static ⟨"HedgeCommitteeLaw", "commonMotionByRows", "(LHedgeCommittee;II[J)I"⟩ ∈ gw := gw_t (tb_4 (List.mem_of_getElem? (i := 227) rfl)) rfl
theorem gw_1014 : Cond.codeWith ⟨"HedgeCommitteeLaw", "commonMotionByRows", "(LHedgeCommittee;II[J)I"⟩ method_24_code 5 (some .int) [(0, 10, 13, 24), (0, 10, 17, 86)] ∈ gw := gw_t (tb_4 (List.mem_of_getElem? (i := 228) rfl)) rfl
theorem gw_1015 : Cond.methodLink "HedgeCommitteeLaw" 88 ⟨"HedgeCommittee", "commonMotionByRows", "(II)I"⟩ ∈ gw := gw_t (tb_4 (List.mem_of_getElem? (i := 229) rfl)) rfl
theorem gw_1016 : Cond.instanceMethod ⟨"HedgeCommittee", "commonMotionByRows", "(II)I"⟩ ∈ gw := gw_t (tb_4 (List.mem_of_getElem? (i := 230) rfl)) rfl
theorem gw_1017 : Cond.selects "HedgeCommittee" ⟨"HedgeCommittee", "commonMotionByRows", "(II)I"⟩ ⟨"HedgeCommittee", "commonMotionByRows", "(II)I"⟩ ∈ gw := gw_t (tb_4 (List.mem_of_getElem? (i := 231) rfl)) rfl
theorem gw_1018 : Cond.code ⟨"HedgeCommittee", "commonMotionByRows", "(II)I"⟩ prog_1_method_26_code 5 (some .int) ∈ gw := gw_t (tb_4 (List.mem_of_getElem? (i := 232) rfl)) rfl
theorem gw_1019 : Cond.methodLink "HedgeCommittee" 181 ⟨"HedgeCommittee$Trees", "commonByRows", "(LHedgeCommittee$Motions;II)I"⟩ ∈ gw := gw_t (tb_4 (List.mem_of_getElem? (i := 233) rfl)) rfl
theorem gw_1020 : Cond.methodLink "HedgeCommitteeLaw" 226 ⟨"HedgeCommitteeLaw", "pathSize", "(LHedgeCommittee;II[J)I"⟩ ∈ gw := gw_t (tb_4 (List.mem_of_getElem? (i := 234) rfl)) rfl
theorem gw_1021 : Cond.static ⟨"HedgeCommitteeLaw", "pathSize", "(LHedgeCommittee;II[J)I"⟩ ∈ gw := gw_t (tb_4 (List.mem_of_getElem? (i := 235) rfl)) rfl
theorem gw_1022 : Cond.codeWith ⟨"HedgeCommitteeLaw", "pathSize", "(LHedgeCommittee;II[J)I"⟩ method_25_code 5 (some .int) [(0, 10, 13, 24), (0, 10, 17, 86)] ∈ gw := gw_t (tb_4 (List.mem_of_getElem? (i := 236) rfl)) rfl
theorem gw_1023 : Cond.methodLink "HedgeCommitteeLaw" 91 ⟨"HedgeCommittee", "pathSize", "(II)I"⟩ ∈ gw := gw_t (tb_4 (List.mem_of_getElem? (i := 237) rfl)) rfl
theorem gw_1024 : Cond.instanceMethod ⟨"HedgeCommittee", "pathSize", "(II)I"⟩ ∈ gw := gw_t (tb_4 (List.mem_of_getElem? (i := 238) rfl)) rfl
theorem gw_1025 : Cond.selects "HedgeCommittee" ⟨"HedgeCommittee", "pathSize", "(II)I"⟩ ⟨"HedgeCommittee", "pathSize", "(II)I"⟩ ∈ gw := gw_t (tb_4 (List.mem_of_getElem? (i := 239) rfl)) rfl
theorem gw_1026 : Cond.code ⟨"HedgeCommittee", "pathSize", "(II)I"⟩ prog_1_method_27_code 7 (some .int) ∈ gw := gw_t (tb_5 (List.mem_of_getElem? (i := 0) rfl)) rfl
theorem gw_1028 : Cond.methodLink "HedgeCommitteeLaw" 229 ⟨"HedgeCommitteeLaw", "longestPath", "(LHedgeCommittee;I[J)I"⟩ ∈ gw := gw_t (tb_5 (List.mem_of_getElem? (i := 2) rfl)) rfl
theorem gw_1029 : Cond.static ⟨"HedgeCommitteeLaw", "longestPath", "(LHedgeCommittee;I[J)I"⟩ ∈ gw := gw_t (tb_5 (List.mem_of_getElem? (i := 3) rfl)) rfl
theorem gw_1030 : Cond.codeWith ⟨"HedgeCommitteeLaw", "longestPath", "(LHedgeCommittee;I[J)I"⟩ method_26_code 4 (some .int) [(0, 9, 12, 24)] ∈ gw := gw_t (tb_5 (List.mem_of_getElem? (i := 4) rfl)) rfl
theorem gw_1031 : Cond.methodLink "HedgeCommitteeLaw" 94 ⟨"HedgeCommittee", "longestPath", "(I)I"⟩ ∈ gw := gw_t (tb_5 (List.mem_of_getElem? (i := 5) rfl)) rfl
theorem gw_1032 : Cond.instanceMethod ⟨"HedgeCommittee", "longestPath", "(I)I"⟩ ∈ gw := gw_t (tb_5 (List.mem_of_getElem? (i := 6) rfl)) rfl
theorem gw_1033 : Cond.selects "HedgeCommittee" ⟨"HedgeCommittee", "longestPath", "(I)I"⟩ ⟨"HedgeCommittee", "longestPath", "(I)I"⟩ ∈ gw := gw_t (tb_5 (List.mem_of_getElem? (i := 7) rfl)) rfl
theorem gw_1034 : Cond.code ⟨"HedgeCommittee", "longestPath", "(I)I"⟩ prog_1_method_28_code 2 (some .int) ∈ gw := gw_t (tb_5 (List.mem_of_getElem? (i := 8) rfl)) rfl
theorem gw_1035 : Cond.methodLink "HedgeCommittee" 189 ⟨"HedgeCommittee$Trees", "longestByHeights", "(LHedgeCommittee$Motions;I)I"⟩ ∈ gw := gw_t (tb_5 (List.mem_of_getElem? (i := 9) rfl)) rfl
theorem gw_1036 : Cond.methodLink "HedgeCommitteeLaw" 232 ⟨"HedgeCommitteeLaw", "longestPathBySweeps", "(LHedgeCommittee;I[J)I"⟩ ∈ gw := gw_t (tb_5 (List.mem_of_getElem? (i := 10) rfl)) rfl
theorem gw_1037 : Cond.static ⟨"HedgeCommitteeLaw", "longestPathBySweeps", "(LHedgeCommittee;I[J)I"⟩ ∈ gw := gw_t (tb_5 (List.mem_of_getElem? (i := 11) rfl)) rfl
theorem gw_1038 : Cond.codeWith ⟨"HedgeCommitteeLaw", "longestPathBySweeps", "(LHedgeCommittee;I[J)I"⟩ method_27_code 4 (some .int) [(0, 9, 12, 24)] ∈ gw := gw_t (tb_5 (List.mem_of_getElem? (i := 12) rfl)) rfl
theorem gw_1039 : Cond.methodLink "HedgeCommitteeLaw" 97 ⟨"HedgeCommittee", "longestPathBySweeps", "(I)I"⟩ ∈ gw := gw_t (tb_5 (List.mem_of_getElem? (i := 13) rfl)) rfl
theorem gw_1040 : Cond.instanceMethod ⟨"HedgeCommittee", "longestPathBySweeps", "(I)I"⟩ ∈ gw := gw_t (tb_5 (List.mem_of_getElem? (i := 14) rfl)) rfl
theorem gw_1041 : Cond.selects "HedgeCommittee" ⟨"HedgeCommittee", "longestPathBySweeps", "(I)I"⟩ ⟨"HedgeCommittee", "longestPathBySweeps", "(I)I"⟩ ∈ gw := gw_t (tb_5 (List.mem_of_getElem? (i := 15) rfl)) rfl
theorem gw_1042 : Cond.code ⟨"HedgeCommittee", "longestPathBySweeps", "(I)I"⟩ prog_1_method_29_code 2 (some .int) ∈ gw := gw_t (tb_5 (List.mem_of_getElem? (i := 16) rfl)) rfl
theorem gw_1043 : Cond.methodLink "HedgeCommittee" 193 ⟨"HedgeCommittee$Trees", "longestBySweeps", "(LHedgeCommittee$Motions;I)I"⟩ ∈ gw := gw_t (tb_5 (List.mem_of_getElem? (i := 17) rfl)) rfl
theorem gw_1044 : Cond.methodLink "HedgeCommitteeLaw" 251 ⟨"HedgeCommitteeLaw", "minutesIn", "(LHedgeCommittee;I[J)I"⟩ ∈ gw := gw_t (tb_5 (List.mem_of_getElem? (i := 18) rfl)) rfl
theorem gw_1045 : Cond.static ⟨"HedgeCommitteeLaw", "minutesIn", "(LHedgeCommittee;I[J)I"⟩ ∈ gw := gw_t (tb_5 (List.mem_of_getElem? (i := 19) rfl)) rfl
theorem gw_1046 : Cond.codeWith ⟨"HedgeCommitteeLaw", "minutesIn", "(LHedgeCommittee;I[J)I"⟩ method_28_code 4 (some .int) [(0, 9, 12, 13)] ∈ gw := gw_t (tb_5 (List.mem_of_getElem? (i := 20) rfl)) rfl
theorem gw_1047 : Cond.methodLink "HedgeCommitteeLaw" 100 ⟨"HedgeCommittee", "minutesIn", "(I)I"⟩ ∈ gw := gw_t (tb_5 (List.mem_of_getElem? (i := 21) rfl)) rfl
theorem gw_1048 : Cond.instanceMethod ⟨"HedgeCommittee", "minutesIn", "(I)I"⟩ ∈ gw := gw_t (tb_5 (List.mem_of_getElem? (i := 22) rfl)) rfl
theorem gw_1049 : Cond.selects "HedgeCommittee" ⟨"HedgeCommittee", "minutesIn", "(I)I"⟩ ⟨"HedgeCommittee", "minutesIn", "(I)I"⟩ ∈ gw := gw_t (tb_5 (List.mem_of_getElem? (i := 23) rfl)) rfl
theorem gw_1050 : Cond.code ⟨"HedgeCommittee", "minutesIn", "(I)I"⟩ prog_1_method_34_code 2 (some .int) ∈ gw := gw_t (tb_5 (List.mem_of_getElem? (i := 24) rfl)) rfl
theorem gw_1051 : Cond.classLink "HedgeCommittee" 207 "java/lang/IllegalArgumentException" ∈ gw := gw_t (tb_5 (List.mem_of_getElem? (i := 25) rfl)) rfl
theorem gw_1053 : Cond.methodLink "HedgeCommittee" 211 ⟨"java/lang/IllegalArgumentException", "<init>", "(Ljava/lang/String;)V"⟩ ∈ gw := gw_t (tb_5 (List.mem_of_getElem? (i := 27) rfl)) rfl
theorem gw_1054 : Cond.methodLink "HedgeCommitteeLaw" 266 ⟨"HedgeCommitteeLaw", "meanLeaves", "(LHedgeCommittee;[D)I"⟩ ∈ gw := gw_t (tb_5 (List.mem_of_getElem? (i := 28) rfl)) rfl
theorem gw_1055 : Cond.static ⟨"HedgeCommitteeLaw", "meanLeaves", "(LHedgeCommittee;[D)I"⟩ ∈ gw := gw_t (tb_5 (List.mem_of_getElem? (i := 29) rfl)) rfl
theorem gw_1056 : Cond.codeWith ⟨"HedgeCommitteeLaw", "meanLeaves", "(LHedgeCommittee;[D)I"⟩ method_29_code 3 (some .int) [(0, 7, 10, 107)] ∈ gw := gw_t (tb_5 (List.mem_of_getElem? (i := 30) rfl)) rfl
theorem gw_1057 : Cond.classLink "HedgeCommitteeLaw" 107 "java/lang/ArithmeticException" ∈ gw := gw_t (tb_5 (List.mem_of_getElem? (i := 31) rfl)) rfl
theorem gw_1058 : Cond.instantiable "java/lang/ArithmeticException" 6 ∈ gw := gw_t (tb_5 (List.mem_of_getElem? (i := 32) rfl)) rfl
theorem gw_1059 : Cond.instanceMethod ⟨"java/lang/ArithmeticException", "<init>", "(Ljava/lang/String;)V"⟩ ∈ gw := gw_t (tb_5 (List.mem_of_getElem? (i := 33) rfl)) rfl
theorem gw_1060 : Cond.code ⟨"java/lang/ArithmeticException", "<init>", "(Ljava/lang/String;)V"⟩ prog_16_method_2_code 2 none ∈ gw := gw_t (tb_5 (List.mem_of_getElem? (i := 34) rfl)) rfl
theorem gw_1061 : Cond.methodLink "java/lang/ArithmeticException" 7 ⟨"java/lang/RuntimeException", "<init>", "(Ljava/lang/String;)V"⟩ ∈ gw := gw_t (tb_5 (List.mem_of_getElem? (i := 35) rfl)) rfl
theorem gw_1062 : Cond.lays "java/lang/ArithmeticException" "java/lang/Throwable" "backtrace" "Ljava/lang/Object;" ∈ gw := gw_t (tb_5 (List.mem_of_getElem? (i := 36) rfl)) rfl
theorem gw_1063 : Cond.lays "java/lang/ArithmeticException" "java/lang/Throwable" "detailMessage" "Ljava/lang/String;" ∈ gw := gw_t (tb_5 (List.mem_of_getElem? (i := 37) rfl)) rfl
theorem gw_1064 : Cond.lays "java/lang/ArithmeticException" "java/lang/Throwable" "cause" "Ljava/lang/Throwable;" ∈ gw := gw_t (tb_5 (List.mem_of_getElem? (i := 38) rfl)) rfl
theorem gw_1065 : Cond.lays "java/lang/ArithmeticException" "java/lang/Throwable" "stackTrace" "[Ljava/lang/StackTraceElement;" ∈ gw := gw_t (tb_5 (List.mem_of_getElem? (i := 39) rfl)) rfl
theorem gw_1067 : Cond.lays "java/lang/ArithmeticException" "java/lang/Throwable" "suppressedExceptions" "Ljava/util/List;" ∈ gw := gw_t (tb_5 (List.mem_of_getElem? (i := 41) rfl)) rfl
theorem gw_1070 : Cond.selects "java/lang/ArithmeticException" ⟨"java/lang/Throwable", "fillInStackTrace", "(I)Ljava/lang/Throwable;"⟩ ⟨"java/lang/Throwable", "fillInStackTrace", "(I)Ljava/lang/Throwable;"⟩ ∈ gw := gw_t (tb_5 (List.mem_of_getElem? (i := 44) rfl)) rfl
theorem gw_1071 : Cond.methodLink "HedgeCommitteeLaw" 103 ⟨"HedgeCommittee", "meanLeaves", "()D"⟩ ∈ gw := gw_t (tb_5 (List.mem_of_getElem? (i := 45) rfl)) rfl
theorem gw_1072 : Cond.instanceMethod ⟨"HedgeCommittee", "meanLeaves", "()D"⟩ ∈ gw := gw_t (tb_5 (List.mem_of_getElem? (i := 46) rfl)) rfl
theorem gw_1073 : Cond.selects "HedgeCommittee" ⟨"HedgeCommittee", "meanLeaves", "()D"⟩ ⟨"HedgeCommittee", "meanLeaves", "()D"⟩ ∈ gw := gw_t (tb_5 (List.mem_of_getElem? (i := 47) rfl)) rfl
theorem gw_1074 : Cond.code ⟨"HedgeCommittee", "meanLeaves", "()D"⟩ prog_1_method_38_code 1 (some .double) ∈ gw := gw_t (tb_5 (List.mem_of_getElem? (i := 48) rfl)) rfl
theorem gw_1075 : Cond.classLink "HedgeCommittee" 225 "java/lang/ArithmeticException" ∈ gw := gw_t (tb_5 (List.mem_of_getElem? (i := 49) rfl)) rfl
theorem gw_1077 : Cond.methodLink "HedgeCommittee" 229 ⟨"java/lang/ArithmeticException", "<init>", "(Ljava/lang/String;)V"⟩ ∈ gw := gw_t (tb_5 (List.mem_of_getElem? (i := 51) rfl)) rfl
theorem gw_1078 : Cond.methodLink "HedgeCommittee" 230 ⟨"HedgeCommittee$Hedges", "totalLeaves", "()I"⟩ ∈ gw := gw_t (tb_5 (List.mem_of_getElem? (i := 52) rfl)) rfl
theorem gw_1079 : Cond.methodLink "HedgeCommitteeLaw" 270 ⟨"HedgeCommitteeLaw", "carriedShare", "(LHedgeCommittee;[D)I"⟩ ∈ gw := gw_t (tb_5 (List.mem_of_getElem? (i := 53) rfl)) rfl
theorem gw_1080 : Cond.static ⟨"HedgeCommitteeLaw", "carriedShare", "(LHedgeCommittee;[D)I"⟩ ∈ gw := gw_t (tb_5 (List.mem_of_getElem? (i := 54) rfl)) rfl
theorem gw_1081 : Cond.codeWith ⟨"HedgeCommitteeLaw", "carriedShare", "(LHedgeCommittee;[D)I"⟩ method_30_code 3 (some .int) [(0, 8, 11, 107)] ∈ gw := gw_t (tb_5 (List.mem_of_getElem? (i := 55) rfl)) rfl
theorem gw_1082 : Cond.methodLink "HedgeCommitteeLaw" 109 ⟨"HedgeCommittee", "carriedShare", "()F"⟩ ∈ gw := gw_t (tb_5 (List.mem_of_getElem? (i := 56) rfl)) rfl
theorem gw_1083 : Cond.instanceMethod ⟨"HedgeCommittee", "carriedShare", "()F"⟩ ∈ gw := gw_t (tb_5 (List.mem_of_getElem? (i := 57) rfl)) rfl
theorem gw_1084 : Cond.selects "HedgeCommittee" ⟨"HedgeCommittee", "carriedShare", "()F"⟩ ⟨"HedgeCommittee", "carriedShare", "()F"⟩ ∈ gw := gw_t (tb_5 (List.mem_of_getElem? (i := 58) rfl)) rfl
theorem gw_1085 : Cond.code ⟨"HedgeCommittee", "carriedShare", "()F"⟩ prog_1_method_39_code 1 (some .float) ∈ gw := gw_t (tb_5 (List.mem_of_getElem? (i := 59) rfl)) rfl
theorem gw_1087 : Cond.methodLink "HedgeCommitteeLaw" 278 ⟨"HedgeCommitteeLaw", "append", "(LHedgeCommittee;C[J)I"⟩ ∈ gw := gw_t (tb_5 (List.mem_of_getElem? (i := 61) rfl)) rfl
theorem gw_1088 : Cond.static ⟨"HedgeCommitteeLaw", "append", "(LHedgeCommittee;C[J)I"⟩ ∈ gw := gw_t (tb_5 (List.mem_of_getElem? (i := 62) rfl)) rfl
theorem gw_1089 : Cond.codeWith ⟨"HedgeCommitteeLaw", "append", "(LHedgeCommittee;C[J)I"⟩ method_31_code 4 (some .int) [(0, 9, 12, 15)] ∈ gw := gw_t (tb_5 (List.mem_of_getElem? (i := 63) rfl)) rfl
theorem gw_1090 : Cond.methodLink "HedgeCommitteeLaw" 113 ⟨"HedgeCommittee", "append", "(C)I"⟩ ∈ gw := gw_t (tb_5 (List.mem_of_getElem? (i := 64) rfl)) rfl
theorem gw_1091 : Cond.instanceMethod ⟨"HedgeCommittee", "append", "(C)I"⟩ ∈ gw := gw_t (tb_5 (List.mem_of_getElem? (i := 65) rfl)) rfl
theorem gw_1092 : Cond.selects "HedgeCommittee" ⟨"HedgeCommittee", "append", "(C)I"⟩ ⟨"HedgeCommittee", "append", "(C)I"⟩ ∈ gw := gw_t (tb_5 (List.mem_of_getElem? (i := 66) rfl)) rfl
theorem gw_1093 : Cond.code ⟨"HedgeCommittee", "append", "(C)I"⟩ prog_1_method_41_code 2 (some .int) ∈ gw := gw_t (tb_5 (List.mem_of_getElem? (i := 67) rfl)) rfl
theorem gw_1094 : Cond.methodLink "HedgeCommittee" 248 ⟨"HedgeCommittee$Program", "isFull", "()Z"⟩ ∈ gw := gw_t (tb_5 (List.mem_of_getElem? (i := 68) rfl)) rfl
theorem gw_1095 : Cond.instanceMethod ⟨"HedgeCommittee$Program", "isFull", "()Z"⟩ ∈ gw := gw_t (tb_5 (List.mem_of_getElem? (i := 69) rfl)) rfl
theorem gw_1096 : Cond.selects "HedgeCommittee$Program" ⟨"HedgeCommittee$Program", "isFull", "()Z"⟩ ⟨"HedgeCommittee$Program", "isFull", "()Z"⟩ ∈ gw := gw_t (tb_5 (List.mem_of_getElem? (i := 70) rfl)) rfl
theorem gw_1097 : Cond.code ⟨"HedgeCommittee$Program", "isFull", "()Z"⟩ prog_8_method_2_code 1 (some .boolean) ∈ gw := gw_t (tb_5 (List.mem_of_getElem? (i := 71) rfl)) rfl
theorem gw_1098 : Cond.classLink "HedgeCommittee" 252 "java/lang/IllegalStateException" ∈ gw := gw_t (tb_5 (List.mem_of_getElem? (i := 72) rfl)) rfl
theorem gw_1100 : Cond.methodLink "HedgeCommittee" 256 ⟨"java/lang/IllegalStateException", "<init>", "(Ljava/lang/String;)V"⟩ ∈ gw := gw_t (tb_5 (List.mem_of_getElem? (i := 74) rfl)) rfl
theorem gw_1101 : Cond.methodLink "HedgeCommittee" 257 ⟨"HedgeCommittee$Program", "put", "(C)I"⟩ ∈ gw := gw_t (tb_5 (List.mem_of_getElem? (i := 75) rfl)) rfl
theorem gw_1102 : Cond.instanceMethod ⟨"HedgeCommittee$Program", "put", "(C)I"⟩ ∈ gw := gw_t (tb_5 (List.mem_of_getElem? (i := 76) rfl)) rfl
theorem gw_1103 : Cond.selects "HedgeCommittee$Program" ⟨"HedgeCommittee$Program", "put", "(C)I"⟩ ⟨"HedgeCommittee$Program", "put", "(C)I"⟩ ∈ gw := gw_t (tb_5 (List.mem_of_getElem? (i := 77) rfl)) rfl
theorem gw_1104 : Cond.code ⟨"HedgeCommittee$Program", "put", "(C)I"⟩ prog_8_method_3_code 2 (some .int) ∈ gw := gw_t (tb_5 (List.mem_of_getElem? (i := 78) rfl)) rfl
theorem gw_1105 : Cond.methodLink "HedgeCommitteeLaw" 282 ⟨"HedgeCommitteeLaw", "run", "(LHedgeCommittee;[J)I"⟩ ∈ gw := gw_t (tb_5 (List.mem_of_getElem? (i := 79) rfl)) rfl
theorem gw_1106 : Cond.static ⟨"HedgeCommitteeLaw", "run", "(LHedgeCommittee;[J)I"⟩ ∈ gw := gw_t (tb_5 (List.mem_of_getElem? (i := 80) rfl)) rfl
theorem gw_1107 : Cond.codeWith ⟨"HedgeCommitteeLaw", "run", "(LHedgeCommittee;[J)I"⟩ method_32_code 3 (some .int) [(0, 8, 11, 13), (0, 8, 14, 86)] ∈ gw := gw_t (tb_5 (List.mem_of_getElem? (i := 81) rfl)) rfl
theorem gw_1108 : Cond.methodLink "HedgeCommitteeLaw" 117 ⟨"HedgeCommittee", "run", "()I"⟩ ∈ gw := gw_t (tb_5 (List.mem_of_getElem? (i := 82) rfl)) rfl
theorem gw_1109 : Cond.instanceMethod ⟨"HedgeCommittee", "run", "()I"⟩ ∈ gw := gw_t (tb_5 (List.mem_of_getElem? (i := 83) rfl)) rfl
theorem gw_1110 : Cond.selects "HedgeCommittee" ⟨"HedgeCommittee", "run", "()I"⟩ ⟨"HedgeCommittee", "run", "()I"⟩ ∈ gw := gw_t (tb_5 (List.mem_of_getElem? (i := 84) rfl)) rfl
theorem gw_1111 : Cond.code ⟨"HedgeCommittee", "run", "()I"⟩ prog_1_method_42_code 3 (some .int) ∈ gw := gw_t (tb_5 (List.mem_of_getElem? (i := 85) rfl)) rfl
theorem gw_1112 : Cond.methodLink "HedgeCommittee" 261 ⟨"HedgeCommittee$Program", "parse", "()I"⟩ ∈ gw := gw_t (tb_5 (List.mem_of_getElem? (i := 86) rfl)) rfl
theorem gw_1113 : Cond.instanceMethod ⟨"HedgeCommittee$Program", "parse", "()I"⟩ ∈ gw := gw_t (tb_5 (List.mem_of_getElem? (i := 87) rfl)) rfl
theorem gw_1114 : Cond.selects "HedgeCommittee$Program" ⟨"HedgeCommittee$Program", "parse", "()I"⟩ ⟨"HedgeCommittee$Program", "parse", "()I"⟩ ∈ gw := gw_t (tb_5 (List.mem_of_getElem? (i := 88) rfl)) rfl
theorem gw_1115 : Cond.code ⟨"HedgeCommittee$Program", "parse", "()I"⟩ prog_8_method_5_code 2 (some .int) ∈ gw := gw_t (tb_5 (List.mem_of_getElem? (i := 89) rfl)) rfl
theorem gw_1116 : Cond.methodLink "HedgeCommittee$Program" 33 ⟨"java/util/ArrayList", "clear", "()V"⟩ ∈ gw := gw_t (tb_5 (List.mem_of_getElem? (i := 90) rfl)) rfl
theorem gw_1117 : Cond.instanceMethod ⟨"java/util/ArrayList", "clear", "()V"⟩ ∈ gw := gw_t (tb_5 (List.mem_of_getElem? (i := 91) rfl)) rfl
theorem gw_1118 : Cond.selects "java/util/ArrayList" ⟨"java/util/ArrayList", "clear", "()V"⟩ ⟨"java/util/ArrayList", "clear", "()V"⟩ ∈ gw := gw_t (tb_5 (List.mem_of_getElem? (i := 92) rfl)) rfl
theorem gw_1119 : Cond.code ⟨"java/util/ArrayList", "clear", "()V"⟩ prog_43_method_40_code 4 none ∈ gw := gw_t (tb_5 (List.mem_of_getElem? (i := 93) rfl)) rfl
theorem gw_1120 : Cond.methodLink "HedgeCommittee$Program" 36 ⟨"HedgeCommittee$Program", "readCommand", "()Z"⟩ ∈ gw := gw_t (tb_5 (List.mem_of_getElem? (i := 94) rfl)) rfl
theorem gw_1122 : Cond.instanceMethod ⟨"HedgeCommittee$Program", "readCommand", "()Z"⟩ ∈ gw := gw_t (tb_5 (List.mem_of_getElem? (i := 96) rfl)) rfl
theorem gw_1123 : Cond.code ⟨"HedgeCommittee$Program", "readCommand", "()Z"⟩ prog_8_method_6_code 5 (some .boolean) ∈ gw := gw_t (tb_5 (List.mem_of_getElem? (i := 97) rfl)) rfl
theorem gw_1124 : Cond.methodLink "HedgeCommittee$Program" 44 ⟨"HedgeCommittee$Program", "kindAhead", "()LHedgeCommittee$Kind;"⟩ ∈ gw := gw_t (tb_5 (List.mem_of_getElem? (i := 98) rfl)) rfl
theorem gw_1126 : Cond.instanceMethod ⟨"HedgeCommittee$Program", "kindAhead", "()LHedgeCommittee$Kind;"⟩ ∈ gw := gw_t (tb_5 (List.mem_of_getElem? (i := 100) rfl)) rfl
theorem gw_1127 : Cond.code ⟨"HedgeCommittee$Program", "kindAhead", "()LHedgeCommittee$Kind;"⟩ prog_8_method_7_code 5 (some (.object "HedgeCommittee$Kind")) ∈ gw := gw_t (tb_5 (List.mem_of_getElem? (i := 101) rfl)) rfl
theorem gw_1128 : Cond.fieldLink "HedgeCommittee$Program" 85 "HedgeCommittee$Program" "KINDS" "[LHedgeCommittee$Kind;" ∈ gw := gw_t (tb_5 (List.mem_of_getElem? (i := 102) rfl)) rfl
theorem gw_1130 : Cond.methodLink "HedgeCommittee$Program" 65 ⟨"java/lang/String", "charAt", "(I)C"⟩ ∈ gw := gw_t (tb_5 (List.mem_of_getElem? (i := 104) rfl)) rfl
theorem gw_1131 : Cond.instanceMethod ⟨"java/lang/String", "charAt", "(I)C"⟩ ∈ gw := gw_t (tb_5 (List.mem_of_getElem? (i := 105) rfl)) rfl
theorem gw_1132 : Cond.selects "java/lang/String" ⟨"java/lang/String", "charAt", "(I)C"⟩ ⟨"java/lang/String", "charAt", "(I)C"⟩ ∈ gw := gw_t (tb_5 (List.mem_of_getElem? (i := 106) rfl)) rfl
theorem gw_1133 : Cond.code ⟨"java/lang/String", "charAt", "(I)C"⟩ prog_31_method_56_code 2 (some .char) ∈ gw := gw_t (tb_5 (List.mem_of_getElem? (i := 107) rfl)) rfl
theorem gw_1134 : Cond.methodLink "java/lang/String" 492 ⟨"java/lang/String", "isLatin1", "()Z"⟩ ∈ gw := gw_t (tb_5 (List.mem_of_getElem? (i := 108) rfl)) rfl
theorem gw_1135 : Cond.instanceMethod ⟨"java/lang/String", "isLatin1", "()Z"⟩ ∈ gw := gw_t (tb_5 (List.mem_of_getElem? (i := 109) rfl)) rfl
theorem gw_1136 : Cond.selects "java/lang/String" ⟨"java/lang/String", "isLatin1", "()Z"⟩ ⟨"java/lang/String", "isLatin1", "()Z"⟩ ∈ gw := gw_t (tb_5 (List.mem_of_getElem? (i := 110) rfl)) rfl
theorem gw_1137 : Cond.code ⟨"java/lang/String", "isLatin1", "()Z"⟩ prog_31_method_154_code 1 (some .boolean) ∈ gw := gw_t (tb_5 (List.mem_of_getElem? (i := 111) rfl)) rfl
theorem gw_1138 : Cond.fieldLink "java/lang/String" 38 "java/lang/String" "COMPACT_STRINGS" "Z" ∈ gw := gw_t (tb_5 (List.mem_of_getElem? (i := 112) rfl)) rfl
theorem gw_1139 : Cond.methodLink "java/lang/String" 495 ⟨"java/lang/StringLatin1", "charAt", "([BI)C"⟩ ∈ gw := gw_t (tb_5 (List.mem_of_getElem? (i := 113) rfl)) rfl
theorem gw_1140 : Cond.static ⟨"java/lang/StringLatin1", "charAt", "([BI)C"⟩ ∈ gw := gw_t (tb_5 (List.mem_of_getElem? (i := 114) rfl)) rfl
theorem gw_1141 : Cond.code ⟨"java/lang/StringLatin1", "charAt", "([BI)C"⟩ prog_34_method_2_code 2 (some .char) ∈ gw := gw_t (tb_5 (List.mem_of_getElem? (i := 115) rfl)) rfl
theorem gw_1142 : Cond.methodLink "java/lang/StringLatin1" 9 ⟨"java/lang/String", "checkIndex", "(II)V"⟩ ∈ gw := gw_t (tb_5 (List.mem_of_getElem? (i := 116) rfl)) rfl
theorem gw_1143 : Cond.static ⟨"java/lang/String", "checkIndex", "(II)V"⟩ ∈ gw := gw_t (tb_5 (List.mem_of_getElem? (i := 117) rfl)) rfl
theorem gw_1144 : Cond.code ⟨"java/lang/String", "checkIndex", "(II)V"⟩ prog_31_method_155_code 2 none ∈ gw := gw_t (tb_5 (List.mem_of_getElem? (i := 118) rfl)) rfl
theorem gw_1145 : Cond.fieldLink "java/lang/String" 1053 "jdk/internal/util/Preconditions" "SIOOBE_FORMATTER" "Ljava/util/function/BiFunction;" ∈ gw := gw_t (tb_5 (List.mem_of_getElem? (i := 119) rfl)) rfl
theorem gw_1147 : Cond.methodLink "java/lang/String" 1059 ⟨"jdk/internal/util/Preconditions", "checkIndex", "(IILjava/util/function/BiFunction;)I"⟩ ∈ gw := gw_t (tb_5 (List.mem_of_getElem? (i := 121) rfl)) rfl
theorem gw_1148 : Cond.static ⟨"jdk/internal/util/Preconditions", "checkIndex", "(IILjava/util/function/BiFunction;)I"⟩ ∈ gw := gw_t (tb_5 (List.mem_of_getElem? (i := 122) rfl)) rfl
theorem gw_1149 : Cond.code ⟨"jdk/internal/util/Preconditions", "checkIndex", "(IILjava/util/function/BiFunction;)I"⟩ prog_52_method_11_code 3 (some .int) ∈ gw := gw_t (tb_5 (List.mem_of_getElem? (i := 123) rfl)) rfl
theorem gw_1169 : Cond.methodLink "HedgeCommittee$Program" 48 ⟨"java/util/Arrays", "fill", "([II)V"⟩ ∈ gw := gw_t (tb_5 (List.mem_of_getElem? (i := 143) rfl)) rfl
theorem gw_1170 : Cond.methodLink "HedgeCommittee$Program" 60 ⟨"java/lang/String", "length", "()I"⟩ ∈ gw := gw_t (tb_5 (List.mem_of_getElem? (i := 144) rfl)) rfl
theorem gw_1171 : Cond.instanceMethod ⟨"java/lang/String", "length", "()I"⟩ ∈ gw := gw_t (tb_5 (List.mem_of_getElem? (i := 145) rfl)) rfl
theorem gw_1172 : Cond.selects "java/lang/String" ⟨"java/lang/String", "length", "()I"⟩ ⟨"java/lang/String", "length", "()I"⟩ ∈ gw := gw_t (tb_5 (List.mem_of_getElem? (i := 146) rfl)) rfl
theorem gw_1173 : Cond.code ⟨"java/lang/String", "length", "()I"⟩ prog_31_method_54_code 1 (some .int) ∈ gw := gw_t (tb_5 (List.mem_of_getElem? (i := 147) rfl)) rfl
theorem gw_1174 : Cond.methodLink "java/lang/String" 335 ⟨"java/lang/String", "coder", "()B"⟩ ∈ gw := gw_t (tb_5 (List.mem_of_getElem? (i := 148) rfl)) rfl
theorem gw_1175 : Cond.instanceMethod ⟨"java/lang/String", "coder", "()B"⟩ ∈ gw := gw_t (tb_5 (List.mem_of_getElem? (i := 149) rfl)) rfl
theorem gw_1176 : Cond.selects "java/lang/String" ⟨"java/lang/String", "coder", "()B"⟩ ⟨"java/lang/String", "coder", "()B"⟩ ∈ gw := gw_t (tb_5 (List.mem_of_getElem? (i := 150) rfl)) rfl
theorem gw_1177 : Cond.code ⟨"java/lang/String", "coder", "()B"⟩ prog_31_method_152_code 1 (some .byte) ∈ gw := gw_t (tb_5 (List.mem_of_getElem? (i := 151) rfl)) rfl
theorem gw_1178 : Cond.methodLink "HedgeCommittee$Program" 69 ⟨"HedgeCommittee$Program", "digitAhead", "()Z"⟩ ∈ gw := gw_t (tb_5 (List.mem_of_getElem? (i := 152) rfl)) rfl
theorem gw_1180 : Cond.instanceMethod ⟨"HedgeCommittee$Program", "digitAhead", "()Z"⟩ ∈ gw := gw_t (tb_5 (List.mem_of_getElem? (i := 154) rfl)) rfl
theorem gw_1181 : Cond.code ⟨"HedgeCommittee$Program", "digitAhead", "()Z"⟩ prog_8_method_9_code 1 (some .boolean) ∈ gw := gw_t (tb_5 (List.mem_of_getElem? (i := 155) rfl)) rfl
theorem gw_1182 : Cond.methodLink "HedgeCommittee$Program" 72 ⟨"HedgeCommittee$Program", "readDigits", "(Z)I"⟩ ∈ gw := gw_t (tb_5 (List.mem_of_getElem? (i := 156) rfl)) rfl
theorem gw_1184 : Cond.instanceMethod ⟨"HedgeCommittee$Program", "readDigits", "(Z)I"⟩ ∈ gw := gw_t (tb_5 (List.mem_of_getElem? (i := 158) rfl)) rfl
theorem gw_1185 : Cond.code ⟨"HedgeCommittee$Program", "readDigits", "(Z)I"⟩ prog_8_method_10_code 3 (some .int) ∈ gw := gw_t (tb_5 (List.mem_of_getElem? (i := 159) rfl)) rfl
theorem gw_1186 : Cond.methodLink "HedgeCommittee$Program" 40 ⟨"HedgeCommittee$Program", "readSign", "(C)Z"⟩ ∈ gw := gw_t (tb_5 (List.mem_of_getElem? (i := 160) rfl)) rfl
theorem gw_1188 : Cond.instanceMethod ⟨"HedgeCommittee$Program", "readSign", "(C)Z"⟩ ∈ gw := gw_t (tb_5 (List.mem_of_getElem? (i := 162) rfl)) rfl
theorem gw_1189 : Cond.code ⟨"HedgeCommittee$Program", "readSign", "(C)Z"⟩ prog_8_method_8_code 2 (some .boolean) ∈ gw := gw_t (tb_5 (List.mem_of_getElem? (i := 163) rfl)) rfl
theorem gw_1190 : Cond.classLink "HedgeCommittee$Program" 76 "HedgeCommittee$Command" ∈ gw := gw_t (tb_5 (List.mem_of_getElem? (i := 164) rfl)) rfl
theorem gw_1191 : Cond.instantiable "HedgeCommittee$Command" 4 ∈ gw := gw_t (tb_5 (List.mem_of_getElem? (i := 165) rfl)) rfl
theorem gw_1192 : Cond.methodLink "HedgeCommittee$Program" 78 ⟨"HedgeCommittee$Command", "<init>", "(LHedgeCommittee$Kind;III)V"⟩ ∈ gw := gw_t (tb_5 (List.mem_of_getElem? (i := 166) rfl)) rfl
theorem gw_1193 : Cond.instanceMethod ⟨"HedgeCommittee$Command", "<init>", "(LHedgeCommittee$Kind;III)V"⟩ ∈ gw := gw_t (tb_5 (List.mem_of_getElem? (i := 167) rfl)) rfl
theorem gw_1194 : Cond.code ⟨"HedgeCommittee$Command", "<init>", "(LHedgeCommittee$Kind;III)V"⟩ prog_3_method_1_code 5 none ∈ gw := gw_t (tb_5 (List.mem_of_getElem? (i := 168) rfl)) rfl
theorem gw_1195 : Cond.methodLink "HedgeCommittee$Command" 1 ⟨"java/lang/Object", "<init>", "()V"⟩ ∈ gw := gw_t (tb_5 (List.mem_of_getElem? (i := 169) rfl)) rfl
theorem gw_1196 : Cond.fieldLink "HedgeCommittee$Command" 7 "HedgeCommittee$Command" "kind" "LHedgeCommittee$Kind;" ∈ gw := gw_t (tb_5 (List.mem_of_getElem? (i := 170) rfl)) rfl
theorem gw_1198 : Cond.fieldLink "HedgeCommittee$Command" 13 "HedgeCommittee$Command" "first" "I" ∈ gw := gw_t (tb_5 (List.mem_of_getElem? (i := 172) rfl)) rfl
theorem gw_1200 : Cond.fieldLink "HedgeCommittee$Command" 17 "HedgeCommittee$Command" "second" "I" ∈ gw := gw_t (tb_5 (List.mem_of_getElem? (i := 174) rfl)) rfl
theorem gw_1202 : Cond.fieldLink "HedgeCommittee$Command" 20 "HedgeCommittee$Command" "third" "I" ∈ gw := gw_t (tb_5 (List.mem_of_getElem? (i := 176) rfl)) rfl
theorem gw_1204 : Cond.laysFinal "HedgeCommittee$Command" "HedgeCommittee$Command" "kind" "LHedgeCommittee$Kind;" ∈ gw := gw_t (tb_5 (List.mem_of_getElem? (i := 178) rfl)) rfl
theorem gw_1206 : Cond.laysFinal "HedgeCommittee$Command" "HedgeCommittee$Command" "first" "I" ∈ gw := gw_t (tb_5 (List.mem_of_getElem? (i := 180) rfl)) rfl
theorem gw_1208 : Cond.laysFinal "HedgeCommittee$Command" "HedgeCommittee$Command" "second" "I" ∈ gw := gw_t (tb_5 (List.mem_of_getElem? (i := 182) rfl)) rfl
theorem gw_1210 : Cond.laysFinal "HedgeCommittee$Command" "HedgeCommittee$Command" "third" "I" ∈ gw := gw_t (tb_5 (List.mem_of_getElem? (i := 184) rfl)) rfl
theorem gw_1213 : Cond.methodLink "HedgeCommittee$Program" 81 ⟨"java/util/ArrayList", "add", "(Ljava/lang/Object;)Z"⟩ ∈ gw := gw_t (tb_5 (List.mem_of_getElem? (i := 187) rfl)) rfl
theorem gw_1214 : Cond.instanceMethod ⟨"java/util/ArrayList", "add", "(Ljava/lang/Object;)Z"⟩ ∈ gw := gw_t (tb_5 (List.mem_of_getElem? (i := 188) rfl)) rfl
theorem gw_1215 : Cond.selects "java/util/ArrayList" ⟨"java/util/ArrayList", "add", "(Ljava/lang/Object;)Z"⟩ ⟨"java/util/ArrayList", "add", "(Ljava/lang/Object;)Z"⟩ ∈ gw := gw_t (tb_5 (List.mem_of_getElem? (i := 189) rfl)) rfl
theorem gw_1216 : Cond.code ⟨"java/util/ArrayList", "add", "(Ljava/lang/Object;)Z"⟩ prog_43_method_25_code 2 (some .boolean) ∈ gw := gw_t (tb_5 (List.mem_of_getElem? (i := 190) rfl)) rfl
theorem gw_1217 : Cond.methodLink "java/util/ArrayList" 131 ⟨"java/util/ArrayList", "add", "(Ljava/lang/Object;[Ljava/lang/Object;I)V"⟩ ∈ gw := gw_t (tb_5 (List.mem_of_getElem? (i := 191) rfl)) rfl
theorem gw_1219 : Cond.instanceMethod ⟨"java/util/ArrayList", "add", "(Ljava/lang/Object;[Ljava/lang/Object;I)V"⟩ ∈ gw := gw_t (tb_5 (List.mem_of_getElem? (i := 193) rfl)) rfl
theorem gw_1220 : Cond.code ⟨"java/util/ArrayList", "add", "(Ljava/lang/Object;[Ljava/lang/Object;I)V"⟩ prog_43_method_24_code 4 none ∈ gw := gw_t (tb_5 (List.mem_of_getElem? (i := 194) rfl)) rfl
theorem gw_1221 : Cond.methodLink "java/util/ArrayList" 129 ⟨"java/util/ArrayList", "grow", "()[Ljava/lang/Object;"⟩ ∈ gw := gw_t (tb_5 (List.mem_of_getElem? (i := 195) rfl)) rfl
theorem gw_1223 : Cond.instanceMethod ⟨"java/util/ArrayList", "grow", "()[Ljava/lang/Object;"⟩ ∈ gw := gw_t (tb_5 (List.mem_of_getElem? (i := 197) rfl)) rfl
theorem gw_1224 : Cond.code ⟨"java/util/ArrayList", "grow", "()[Ljava/lang/Object;"⟩ prog_43_method_7_code 1 (some (.array (.object "java/lang/Object"))) ∈ gw := gw_t (tb_5 (List.mem_of_getElem? (i := 198) rfl)) rfl
theorem gw_1225 : Cond.methodLink "java/util/ArrayList" 69 ⟨"java/util/ArrayList", "grow", "(I)[Ljava/lang/Object;"⟩ ∈ gw := gw_t (tb_5 (List.mem_of_getElem? (i := 199) rfl)) rfl
theorem gw_1227 : Cond.instanceMethod ⟨"java/util/ArrayList", "grow", "(I)[Ljava/lang/Object;"⟩ ∈ gw := gw_t (tb_5 (List.mem_of_getElem? (i := 201) rfl)) rfl
theorem gw_1228 : Cond.code ⟨"java/util/ArrayList", "grow", "(I)[Ljava/lang/Object;"⟩ prog_43_method_6_code 4 (some (.array (.object "java/lang/Object"))) ∈ gw := gw_t (tb_5 (List.mem_of_getElem? (i := 202) rfl)) rfl
theorem gw_1230 : Cond.static ⟨"jdk/internal/util/ArraysSupport", "newLength", "(III)I"⟩ ∈ gw := gw_t (tb_5 (List.mem_of_getElem? (i := 204) rfl)) rfl
theorem gw_1231 : Cond.code ⟨"jdk/internal/util/ArraysSupport", "newLength", "(III)I"⟩ prog_51_method_27_code 4 (some .int) ∈ gw := gw_t (tb_5 (List.mem_of_getElem? (i := 205) rfl)) rfl
theorem gw_1232 : Cond.methodLink "jdk/internal/util/ArraysSupport" 194 ⟨"java/lang/Math", "max", "(II)I"⟩ ∈ gw := gw_t (tb_5 (List.mem_of_getElem? (i := 206) rfl)) rfl
theorem gw_1233 : Cond.constant "jdk/internal/util/ArraysSupport" 200 (2147483639 : Int32) ∈ gw := gw_t (tb_5 (List.mem_of_getElem? (i := 207) rfl)) (by decide +kernel)
theorem gw_1271 : Cond.methodLink "java/util/Arrays" 304 ⟨"java/lang/Math", "min", "(II)I"⟩ ∈ gw := gw_t (tb_6 (List.mem_of_getElem? (i := 5) rfl)) rfl
theorem gw_1272 : Cond.methodLink "java/util/Arrays" 150 ⟨"java/lang/System", "arraycopy", "(Ljava/lang/Object;ILjava/lang/Object;II)V"⟩ ∈ gw := gw_t (tb_6 (List.mem_of_getElem? (i := 6) rfl)) rfl
theorem gw_1273 : Cond.methodLink "java/util/ArrayList" 79 ⟨"java/lang/Math", "max", "(II)I"⟩ ∈ gw := gw_t (tb_6 (List.mem_of_getElem? (i := 7) rfl)) rfl
theorem gw_1274 : Cond.classLink "java/util/ArrayList" 7 "java/lang/Object" ∈ gw := gw_t (tb_6 (List.mem_of_getElem? (i := 8) rfl)) rfl
theorem gw_1275 : Cond.methodLink "HedgeCommittee" 264 ⟨"HedgeCommittee$Program", "empty", "()V"⟩ ∈ gw := gw_t (tb_6 (List.mem_of_getElem? (i := 9) rfl)) rfl
theorem gw_1276 : Cond.instanceMethod ⟨"HedgeCommittee$Program", "empty", "()V"⟩ ∈ gw := gw_t (tb_6 (List.mem_of_getElem? (i := 10) rfl)) rfl
theorem gw_1277 : Cond.selects "HedgeCommittee$Program" ⟨"HedgeCommittee$Program", "empty", "()V"⟩ ⟨"HedgeCommittee$Program", "empty", "()V"⟩ ∈ gw := gw_t (tb_6 (List.mem_of_getElem? (i := 11) rfl)) rfl
theorem gw_1278 : Cond.code ⟨"HedgeCommittee$Program", "empty", "()V"⟩ prog_8_method_4_code 1 none ∈ gw := gw_t (tb_6 (List.mem_of_getElem? (i := 12) rfl)) rfl
theorem gw_1280 : Cond.methodLink "HedgeCommittee" 269 ⟨"HedgeCommittee", "firstFailure", "()I"⟩ ∈ gw := gw_t (tb_6 (List.mem_of_getElem? (i := 14) rfl)) rfl
theorem gw_1282 : Cond.instanceMethod ⟨"HedgeCommittee", "firstFailure", "()I"⟩ ∈ gw := gw_t (tb_6 (List.mem_of_getElem? (i := 16) rfl)) rfl
theorem gw_1283 : Cond.code ⟨"HedgeCommittee", "firstFailure", "()I"⟩ prog_1_method_53_code 2 (some .int) ∈ gw := gw_t (tb_6 (List.mem_of_getElem? (i := 17) rfl)) rfl
theorem gw_1284 : Cond.methodLink "HedgeCommittee" 281 ⟨"java/util/ArrayList", "size", "()I"⟩ ∈ gw := gw_t (tb_6 (List.mem_of_getElem? (i := 18) rfl)) rfl
theorem gw_1285 : Cond.instanceMethod ⟨"java/util/ArrayList", "size", "()I"⟩ ∈ gw := gw_t (tb_6 (List.mem_of_getElem? (i := 19) rfl)) rfl
theorem gw_1286 : Cond.selects "java/util/ArrayList" ⟨"java/util/ArrayList", "size", "()I"⟩ ⟨"java/util/ArrayList", "size", "()I"⟩ ∈ gw := gw_t (tb_6 (List.mem_of_getElem? (i := 20) rfl)) rfl
theorem gw_1287 : Cond.code ⟨"java/util/ArrayList", "size", "()I"⟩ prog_43_method_8_code 1 (some .int) ∈ gw := gw_t (tb_6 (List.mem_of_getElem? (i := 21) rfl)) rfl
theorem gw_1288 : Cond.methodLink "HedgeCommittee" 326 ⟨"java/util/ArrayList", "get", "(I)Ljava/lang/Object;"⟩ ∈ gw := gw_t (tb_6 (List.mem_of_getElem? (i := 22) rfl)) rfl
theorem gw_1289 : Cond.instanceMethod ⟨"java/util/ArrayList", "get", "(I)Ljava/lang/Object;"⟩ ∈ gw := gw_t (tb_6 (List.mem_of_getElem? (i := 23) rfl)) rfl
theorem gw_1290 : Cond.selects "java/util/ArrayList" ⟨"java/util/ArrayList", "get", "(I)Ljava/lang/Object;"⟩ ⟨"java/util/ArrayList", "get", "(I)Ljava/lang/Object;"⟩ ∈ gw := gw_t (tb_6 (List.mem_of_getElem? (i := 24) rfl)) rfl
theorem gw_1291 : Cond.code ⟨"java/util/ArrayList", "get", "(I)Ljava/lang/Object;"⟩ prog_43_method_20_code 2 (some (.object "java/lang/Object")) ∈ gw := gw_t (tb_6 (List.mem_of_getElem? (i := 25) rfl)) rfl
theorem gw_1292 : Cond.methodLink "java/util/ArrayList" 118 ⟨"java/util/Objects", "checkIndex", "(II)I"⟩ ∈ gw := gw_t (tb_6 (List.mem_of_getElem? (i := 26) rfl)) rfl
theorem gw_1293 : Cond.static ⟨"java/util/Objects", "checkIndex", "(II)I"⟩ ∈ gw := gw_t (tb_6 (List.mem_of_getElem? (i := 27) rfl)) rfl
theorem gw_1294 : Cond.code ⟨"java/util/Objects", "checkIndex", "(II)I"⟩ prog_48_method_17_code 2 (some .int) ∈ gw := gw_t (tb_6 (List.mem_of_getElem? (i := 28) rfl)) rfl
theorem gw_1295 : Cond.methodLink "java/util/Objects" 105 ⟨"jdk/internal/util/Preconditions", "checkIndex", "(IILjava/util/function/BiFunction;)I"⟩ ∈ gw := gw_t (tb_6 (List.mem_of_getElem? (i := 29) rfl)) rfl
theorem gw_1296 : Cond.methodLink "java/util/ArrayList" 123 ⟨"java/util/ArrayList", "elementData", "(I)Ljava/lang/Object;"⟩ ∈ gw := gw_t (tb_6 (List.mem_of_getElem? (i := 30) rfl)) rfl
theorem gw_1297 : Cond.instanceMethod ⟨"java/util/ArrayList", "elementData", "(I)Ljava/lang/Object;"⟩ ∈ gw := gw_t (tb_6 (List.mem_of_getElem? (i := 31) rfl)) rfl
theorem gw_1298 : Cond.selects "java/util/ArrayList" ⟨"java/util/ArrayList", "elementData", "(I)Ljava/lang/Object;"⟩ ⟨"java/util/ArrayList", "elementData", "(I)Ljava/lang/Object;"⟩ ∈ gw := gw_t (tb_6 (List.mem_of_getElem? (i := 32) rfl)) rfl
theorem gw_1299 : Cond.code ⟨"java/util/ArrayList", "elementData", "(I)Ljava/lang/Object;"⟩ prog_43_method_18_code 2 (some (.object "java/lang/Object")) ∈ gw := gw_t (tb_6 (List.mem_of_getElem? (i := 33) rfl)) rfl
theorem gw_1300 : Cond.classLink "HedgeCommittee" 330 "HedgeCommittee$Command" ∈ gw := gw_t (tb_6 (List.mem_of_getElem? (i := 34) rfl)) rfl
theorem gw_1301 : Cond.methodLink "HedgeCommittee" 332 ⟨"HedgeCommittee", "succeeds", "(LHedgeCommittee$Command;)Z"⟩ ∈ gw := gw_t (tb_6 (List.mem_of_getElem? (i := 35) rfl)) rfl
theorem gw_1303 : Cond.instanceMethod ⟨"HedgeCommittee", "succeeds", "(LHedgeCommittee$Command;)Z"⟩ ∈ gw := gw_t (tb_6 (List.mem_of_getElem? (i := 37) rfl)) rfl
theorem gw_1304 : Cond.codeWith ⟨"HedgeCommittee", "succeeds", "(LHedgeCommittee$Command;)Z"⟩ prog_1_method_54_code 3 (some .boolean) [(0, 174, 175, 117), (0, 174, 178, 207), (0, 174, 181, 252)] ∈ gw := gw_t (tb_6 (List.mem_of_getElem? (i := 38) rfl)) rfl
theorem gw_1305 : Cond.fieldLink "HedgeCommittee" 336 "HedgeCommittee$1" "$SwitchMap$HedgeCommittee$Kind" "[I" ∈ gw := gw_t (tb_6 (List.mem_of_getElem? (i := 39) rfl)) rfl
theorem gw_1307 : Cond.methodLink "HedgeCommittee" 345 ⟨"HedgeCommittee$Kind", "ordinal", "()I"⟩ ∈ gw := gw_t (tb_6 (List.mem_of_getElem? (i := 41) rfl)) rfl
theorem gw_1308 : Cond.sameMethod "HedgeCommittee$Kind" "java/lang/Enum" "ordinal" "()I" ∈ gw := gw_t (tb_6 (List.mem_of_getElem? (i := 42) rfl)) rfl
theorem gw_1310 : Cond.selects "HedgeCommittee$Kind" ⟨"HedgeCommittee$Kind", "ordinal", "()I"⟩ ⟨"java/lang/Enum", "ordinal", "()I"⟩ ∈ gw := gw_t (tb_6 (List.mem_of_getElem? (i := 44) rfl)) rfl
theorem gw_1311 : Cond.instanceMethod ⟨"java/lang/Enum", "ordinal", "()I"⟩ ∈ gw := gw_t (tb_6 (List.mem_of_getElem? (i := 45) rfl)) rfl
theorem gw_1312 : Cond.code ⟨"java/lang/Enum", "ordinal", "()I"⟩ prog_21_method_2_code 1 (some .int) ∈ gw := gw_t (tb_6 (List.mem_of_getElem? (i := 46) rfl)) rfl
theorem gw_1313 : Cond.methodLink "HedgeCommittee" 272 ⟨"HedgeCommittee$History", "bringBackNoted", "(LHedgeCommittee$State;)V"⟩ ∈ gw := gw_t (tb_6 (List.mem_of_getElem? (i := 47) rfl)) rfl
theorem gw_1314 : Cond.instanceMethod ⟨"HedgeCommittee$History", "bringBackNoted", "(LHedgeCommittee$State;)V"⟩ ∈ gw := gw_t (tb_6 (List.mem_of_getElem? (i := 48) rfl)) rfl
theorem gw_1315 : Cond.selects "HedgeCommittee$History" ⟨"HedgeCommittee$History", "bringBackNoted", "(LHedgeCommittee$State;)V"⟩ ⟨"HedgeCommittee$History", "bringBackNoted", "(LHedgeCommittee$State;)V"⟩ ∈ gw := gw_t (tb_6 (List.mem_of_getElem? (i := 49) rfl)) rfl
theorem gw_1316 : Cond.code ⟨"HedgeCommittee$History", "bringBackNoted", "(LHedgeCommittee$State;)V"⟩ prog_5_method_3_code 2 none ∈ gw := gw_t (tb_6 (List.mem_of_getElem? (i := 50) rfl)) rfl
theorem gw_1318 : Cond.methodLink "HedgeCommitteeLaw" 286 ⟨"HedgeCommitteeLaw", "errorPosition", "(LHedgeCommittee;[J)I"⟩ ∈ gw := gw_t (tb_6 (List.mem_of_getElem? (i := 52) rfl)) rfl
theorem gw_1319 : Cond.static ⟨"HedgeCommitteeLaw", "errorPosition", "(LHedgeCommittee;[J)I"⟩ ∈ gw := gw_t (tb_6 (List.mem_of_getElem? (i := 53) rfl)) rfl
theorem gw_1320 : Cond.codeWith ⟨"HedgeCommitteeLaw", "errorPosition", "(LHedgeCommittee;[J)I"⟩ method_33_code 3 (some .int) [(0, 8, 11, 24)] ∈ gw := gw_t (tb_6 (List.mem_of_getElem? (i := 54) rfl)) rfl
theorem gw_1321 : Cond.methodLink "HedgeCommitteeLaw" 121 ⟨"HedgeCommittee", "errorPosition", "()I"⟩ ∈ gw := gw_t (tb_6 (List.mem_of_getElem? (i := 55) rfl)) rfl
theorem gw_1322 : Cond.instanceMethod ⟨"HedgeCommittee", "errorPosition", "()I"⟩ ∈ gw := gw_t (tb_6 (List.mem_of_getElem? (i := 56) rfl)) rfl
theorem gw_1323 : Cond.selects "HedgeCommittee" ⟨"HedgeCommittee", "errorPosition", "()I"⟩ ⟨"HedgeCommittee", "errorPosition", "()I"⟩ ∈ gw := gw_t (tb_6 (List.mem_of_getElem? (i := 57) rfl)) rfl
theorem gw_1324 : Cond.code ⟨"HedgeCommittee", "errorPosition", "()I"⟩ prog_1_method_43_code 1 (some .int) ∈ gw := gw_t (tb_6 (List.mem_of_getElem? (i := 58) rfl)) rfl
theorem gw_1326 : Cond.methodLink "HedgeCommitteeLaw" 289 ⟨"HedgeCommitteeLaw", "failedCommand", "(LHedgeCommittee;[J)I"⟩ ∈ gw := gw_t (tb_6 (List.mem_of_getElem? (i := 60) rfl)) rfl
theorem gw_1327 : Cond.static ⟨"HedgeCommitteeLaw", "failedCommand", "(LHedgeCommittee;[J)I"⟩ ∈ gw := gw_t (tb_6 (List.mem_of_getElem? (i := 61) rfl)) rfl
theorem gw_1328 : Cond.codeWith ⟨"HedgeCommitteeLaw", "failedCommand", "(LHedgeCommittee;[J)I"⟩ method_34_code 3 (some .int) [(0, 8, 11, 24)] ∈ gw := gw_t (tb_6 (List.mem_of_getElem? (i := 62) rfl)) rfl
theorem gw_1329 : Cond.methodLink "HedgeCommitteeLaw" 124 ⟨"HedgeCommittee", "failedCommand", "()I"⟩ ∈ gw := gw_t (tb_6 (List.mem_of_getElem? (i := 63) rfl)) rfl
theorem gw_1330 : Cond.instanceMethod ⟨"HedgeCommittee", "failedCommand", "()I"⟩ ∈ gw := gw_t (tb_6 (List.mem_of_getElem? (i := 64) rfl)) rfl
theorem gw_1331 : Cond.selects "HedgeCommittee" ⟨"HedgeCommittee", "failedCommand", "()I"⟩ ⟨"HedgeCommittee", "failedCommand", "()I"⟩ ∈ gw := gw_t (tb_6 (List.mem_of_getElem? (i := 65) rfl)) rfl
theorem gw_1332 : Cond.code ⟨"HedgeCommittee", "failedCommand", "()I"⟩ prog_1_method_44_code 1 (some .int) ∈ gw := gw_t (tb_6 (List.mem_of_getElem? (i := 66) rfl)) rfl
theorem gw_1334 : Cond.methodLink "HedgeCommitteeLaw" 292 ⟨"HedgeCommitteeLaw", "writeBranch", "(LHedgeCommittee;I[J)I"⟩ ∈ gw := gw_t (tb_6 (List.mem_of_getElem? (i := 68) rfl)) rfl
theorem gw_1335 : Cond.static ⟨"HedgeCommitteeLaw", "writeBranch", "(LHedgeCommittee;I[J)I"⟩ ∈ gw := gw_t (tb_6 (List.mem_of_getElem? (i := 69) rfl)) rfl
theorem gw_1336 : Cond.codeWith ⟨"HedgeCommitteeLaw", "writeBranch", "(LHedgeCommittee;I[J)I"⟩ method_35_code 4 (some .int) [(0, 9, 12, 24)] ∈ gw := gw_t (tb_6 (List.mem_of_getElem? (i := 70) rfl)) rfl
theorem gw_1337 : Cond.methodLink "HedgeCommitteeLaw" 127 ⟨"HedgeCommittee", "writeBranch", "(I)I"⟩ ∈ gw := gw_t (tb_6 (List.mem_of_getElem? (i := 71) rfl)) rfl
theorem gw_1338 : Cond.instanceMethod ⟨"HedgeCommittee", "writeBranch", "(I)I"⟩ ∈ gw := gw_t (tb_6 (List.mem_of_getElem? (i := 72) rfl)) rfl
theorem gw_1339 : Cond.selects "HedgeCommittee" ⟨"HedgeCommittee", "writeBranch", "(I)I"⟩ ⟨"HedgeCommittee", "writeBranch", "(I)I"⟩ ∈ gw := gw_t (tb_6 (List.mem_of_getElem? (i := 73) rfl)) rfl
theorem gw_1340 : Cond.code ⟨"HedgeCommittee", "writeBranch", "(I)I"⟩ prog_1_method_45_code 3 (some .int) ∈ gw := gw_t (tb_6 (List.mem_of_getElem? (i := 74) rfl)) rfl
theorem gw_1341 : Cond.methodLink "HedgeCommittee" 290 ⟨"java/lang/StringBuilder", "setLength", "(I)V"⟩ ∈ gw := gw_t (tb_6 (List.mem_of_getElem? (i := 75) rfl)) rfl
theorem gw_1342 : Cond.instanceMethod ⟨"java/lang/StringBuilder", "setLength", "(I)V"⟩ ∈ gw := gw_t (tb_6 (List.mem_of_getElem? (i := 76) rfl)) rfl
theorem gw_1343 : Cond.selects "java/lang/StringBuilder" ⟨"java/lang/StringBuilder", "setLength", "(I)V"⟩ ⟨"java/lang/StringBuilder", "setLength", "(I)V"⟩ ∈ gw := gw_t (tb_6 (List.mem_of_getElem? (i := 77) rfl)) rfl
theorem gw_1344 : Cond.code ⟨"java/lang/StringBuilder", "setLength", "(I)V"⟩ prog_32_method_89_code 2 none ∈ gw := gw_t (tb_6 (List.mem_of_getElem? (i := 78) rfl)) rfl
theorem gw_1345 : Cond.methodLink "java/lang/StringBuilder" 333 ⟨"java/lang/AbstractStringBuilder", "setLength", "(I)V"⟩ ∈ gw := gw_t (tb_6 (List.mem_of_getElem? (i := 79) rfl)) rfl
theorem gw_1346 : Cond.instanceMethod ⟨"java/lang/AbstractStringBuilder", "setLength", "(I)V"⟩ ∈ gw := gw_t (tb_6 (List.mem_of_getElem? (i := 80) rfl)) rfl
theorem gw_1347 : Cond.code ⟨"java/lang/AbstractStringBuilder", "setLength", "(I)V"⟩ prog_14_method_13_code 2 none ∈ gw := gw_t (tb_6 (List.mem_of_getElem? (i := 81) rfl)) rfl
theorem gw_1349 : Cond.instantiable "java/lang/StringIndexOutOfBoundsException" 6 ∈ gw := gw_t (tb_6 (List.mem_of_getElem? (i := 83) rfl)) rfl
theorem gw_1367 : Cond.methodLink "java/lang/AbstractStringBuilder" 100 ⟨"java/lang/AbstractStringBuilder", "ensureCapacityInternal", "(I)V"⟩ ∈ gw := gw_t (tb_6 (List.mem_of_getElem? (i := 101) rfl)) rfl
theorem gw_1369 : Cond.instanceMethod ⟨"java/lang/AbstractStringBuilder", "ensureCapacityInternal", "(I)V"⟩ ∈ gw := gw_t (tb_6 (List.mem_of_getElem? (i := 103) rfl)) rfl
theorem gw_1370 : Cond.code ⟨"java/lang/AbstractStringBuilder", "ensureCapacityInternal", "(I)V"⟩ prog_14_method_9_code 3 none ∈ gw := gw_t (tb_6 (List.mem_of_getElem? (i := 104) rfl)) rfl
theorem gw_1371 : Cond.methodLink "java/lang/AbstractStringBuilder" 104 ⟨"java/lang/AbstractStringBuilder", "newCapacity", "(I)I"⟩ ∈ gw := gw_t (tb_6 (List.mem_of_getElem? (i := 105) rfl)) rfl
theorem gw_1373 : Cond.instanceMethod ⟨"java/lang/AbstractStringBuilder", "newCapacity", "(I)I"⟩ ∈ gw := gw_t (tb_6 (List.mem_of_getElem? (i := 107) rfl)) rfl
theorem gw_1374 : Cond.code ⟨"java/lang/AbstractStringBuilder", "newCapacity", "(I)I"⟩ prog_14_method_10_code 6 (some .int) ∈ gw := gw_t (tb_6 (List.mem_of_getElem? (i := 108) rfl)) rfl
theorem gw_1375 : Cond.methodLink "java/lang/AbstractStringBuilder" 114 ⟨"jdk/internal/util/ArraysSupport", "newLength", "(III)I"⟩ ∈ gw := gw_t (tb_6 (List.mem_of_getElem? (i := 109) rfl)) rfl
theorem gw_1376 : Cond.constant "java/lang/AbstractStringBuilder" 39 (2147483647 : Int32) ∈ gw := gw_t (tb_6 (List.mem_of_getElem? (i := 110) rfl)) (by decide +kernel)
theorem gw_1377 : Cond.methodLink "java/lang/AbstractStringBuilder" 108 ⟨"java/util/Arrays", "copyOf", "([BI)[B"⟩ ∈ gw := gw_t (tb_6 (List.mem_of_getElem? (i := 111) rfl)) rfl
theorem gw_1378 : Cond.static ⟨"java/util/Arrays", "copyOf", "([BI)[B"⟩ ∈ gw := gw_t (tb_6 (List.mem_of_getElem? (i := 112) rfl)) rfl
theorem gw_1379 : Cond.code ⟨"java/util/Arrays", "copyOf", "([BI)[B"⟩ prog_44_method_121_code 3 (some (.array .byte)) ∈ gw := gw_t (tb_6 (List.mem_of_getElem? (i := 113) rfl)) rfl
theorem gw_1387 : Cond.methodLink "java/lang/AbstractStringBuilder" 83 ⟨"java/lang/AbstractStringBuilder", "isLatin1", "()Z"⟩ ∈ gw := gw_t (tb_6 (List.mem_of_getElem? (i := 121) rfl)) rfl
theorem gw_1388 : Cond.instanceMethod ⟨"java/lang/AbstractStringBuilder", "isLatin1", "()Z"⟩ ∈ gw := gw_t (tb_6 (List.mem_of_getElem? (i := 122) rfl)) rfl
theorem gw_1389 : Cond.sameMethod "java/lang/AbstractStringBuilder" "java/lang/AbstractStringBuilder" "isLatin1" "()Z" ∈ gw := gw_t (tb_6 (List.mem_of_getElem? (i := 123) rfl)) rfl
theorem gw_1390 : Cond.selects "java/lang/StringBuilder" ⟨"java/lang/AbstractStringBuilder", "isLatin1", "()Z"⟩ ⟨"java/lang/AbstractStringBuilder", "isLatin1", "()Z"⟩ ∈ gw := gw_t (tb_6 (List.mem_of_getElem? (i := 124) rfl)) rfl
theorem gw_1391 : Cond.code ⟨"java/lang/AbstractStringBuilder", "isLatin1", "()Z"⟩ prog_14_method_68_code 1 (some .boolean) ∈ gw := gw_t (tb_6 (List.mem_of_getElem? (i := 125) rfl)) rfl
theorem gw_1443 : Cond.instanceMethod ⟨"java/lang/StringBuilder", "append", "(I)Ljava/lang/StringBuilder;"⟩ ∈ gw := gw_t (tb_6 (List.mem_of_getElem? (i := 177) rfl)) rfl
theorem gw_1444 : Cond.selects "java/lang/StringBuilder" ⟨"java/lang/StringBuilder", "append", "(I)Ljava/lang/StringBuilder;"⟩ ⟨"java/lang/StringBuilder", "append", "(I)Ljava/lang/StringBuilder;"⟩ ∈ gw := gw_t (tb_6 (List.mem_of_getElem? (i := 178) rfl)) rfl
theorem gw_1445 : Cond.code ⟨"java/lang/StringBuilder", "append", "(I)Ljava/lang/StringBuilder;"⟩ prog_32_method_15_code 2 (some (.object "java/lang/StringBuilder")) ∈ gw := gw_t (tb_6 (List.mem_of_getElem? (i := 179) rfl)) rfl
theorem gw_1446 : Cond.methodLink "java/lang/StringBuilder" 53 ⟨"java/lang/AbstractStringBuilder", "append", "(I)Ljava/lang/AbstractStringBuilder;"⟩ ∈ gw := gw_t (tb_6 (List.mem_of_getElem? (i := 180) rfl)) rfl
theorem gw_1447 : Cond.instanceMethod ⟨"java/lang/AbstractStringBuilder", "append", "(I)Ljava/lang/AbstractStringBuilder;"⟩ ∈ gw := gw_t (tb_6 (List.mem_of_getElem? (i := 181) rfl)) rfl
theorem gw_1448 : Cond.code ⟨"java/lang/AbstractStringBuilder", "append", "(I)Ljava/lang/AbstractStringBuilder;"⟩ prog_14_method_32_code 4 (some (.object "java/lang/AbstractStringBuilder")) ∈ gw := gw_t (tb_6 (List.mem_of_getElem? (i := 182) rfl)) rfl
theorem gw_1449 : Cond.methodLink "java/lang/AbstractStringBuilder" 245 ⟨"java/lang/Integer", "stringSize", "(I)I"⟩ ∈ gw := gw_t (tb_6 (List.mem_of_getElem? (i := 183) rfl)) rfl
theorem gw_1450 : Cond.static ⟨"java/lang/Integer", "stringSize", "(I)I"⟩ ∈ gw := gw_t (tb_6 (List.mem_of_getElem? (i := 184) rfl)) rfl
theorem gw_1451 : Cond.code ⟨"java/lang/Integer", "stringSize", "(I)I"⟩ prog_26_method_13_code 4 (some .int) ∈ gw := gw_t (tb_6 (List.mem_of_getElem? (i := 185) rfl)) rfl
theorem gw_1452 : Cond.methodLink "java/lang/AbstractStringBuilder" 248 ⟨"java/lang/Integer", "getChars", "(II[B)I"⟩ ∈ gw := gw_t (tb_6 (List.mem_of_getElem? (i := 186) rfl)) rfl
theorem gw_1453 : Cond.static ⟨"java/lang/Integer", "getChars", "(II[B)I"⟩ ∈ gw := gw_t (tb_6 (List.mem_of_getElem? (i := 187) rfl)) rfl
theorem gw_1454 : Cond.code ⟨"java/lang/Integer", "getChars", "(II[B)I"⟩ prog_26_method_12_code 7 (some .int) ∈ gw := gw_t (tb_6 (List.mem_of_getElem? (i := 188) rfl)) rfl
theorem gw_1455 : Cond.fieldLink "java/lang/Integer" 83 "java/lang/Integer" "DigitOnes" "[B" ∈ gw := gw_t (tb_6 (List.mem_of_getElem? (i := 189) rfl)) rfl
theorem gw_1457 : Cond.fieldLink "java/lang/Integer" 87 "java/lang/Integer" "DigitTens" "[B" ∈ gw := gw_t (tb_6 (List.mem_of_getElem? (i := 191) rfl)) rfl
theorem gw_1485 : Cond.instanceMethod ⟨"java/lang/AbstractStringBuilder", "length", "()I"⟩ ∈ gw := gw_t (tb_6 (List.mem_of_getElem? (i := 219) rfl)) rfl
theorem gw_1486 : Cond.sameMethod "java/lang/AbstractStringBuilder" "java/lang/AbstractStringBuilder" "length" "()I" ∈ gw := gw_t (tb_6 (List.mem_of_getElem? (i := 220) rfl)) rfl
theorem gw_1488 : Cond.instanceMethod ⟨"java/lang/StringBuilder", "length", "()I"⟩ ∈ gw := gw_t (tb_6 (List.mem_of_getElem? (i := 222) rfl)) rfl
theorem gw_1489 : Cond.code ⟨"java/lang/StringBuilder", "length", "()I"⟩ prog_32_method_93_code 1 (some .int) ∈ gw := gw_t (tb_6 (List.mem_of_getElem? (i := 223) rfl)) rfl
theorem gw_1490 : Cond.methodLink "java/lang/StringBuilder" 343 ⟨"java/lang/AbstractStringBuilder", "length", "()I"⟩ ∈ gw := gw_t (tb_6 (List.mem_of_getElem? (i := 224) rfl)) rfl
theorem gw_1491 : Cond.code ⟨"java/lang/AbstractStringBuilder", "length", "()I"⟩ prog_14_method_6_code 1 (some .int) ∈ gw := gw_t (tb_6 (List.mem_of_getElem? (i := 225) rfl)) rfl
theorem gw_1520 : Cond.fieldLink "java/lang/String" 9 "java/lang/String" "value" "[B" ∈ gw := gw_t (tb_7 (List.mem_of_getElem? (i := 14) rfl)) rfl
theorem gw_1521 : Cond.fieldLink "java/lang/String" 15 "java/lang/String" "coder" "B" ∈ gw := gw_t (tb_7 (List.mem_of_getElem? (i := 15) rfl)) rfl
theorem gw_1522 : Cond.lays "java/lang/String" "java/lang/String" "hash" "I" ∈ gw := gw_t (tb_7 (List.mem_of_getElem? (i := 16) rfl)) rfl
theorem gw_1524 : Cond.lays "java/lang/String" "java/lang/String" "hashIsZero" "Z" ∈ gw := gw_t (tb_7 (List.mem_of_getElem? (i := 18) rfl)) rfl
theorem gw_1528 : Cond.lays "java/lang/StringIndexOutOfBoundsException" "java/lang/Throwable" "backtrace" "Ljava/lang/Object;" ∈ gw := gw_t (tb_7 (List.mem_of_getElem? (i := 22) rfl)) rfl
theorem gw_1529 : Cond.lays "java/lang/StringIndexOutOfBoundsException" "java/lang/Throwable" "detailMessage" "Ljava/lang/String;" ∈ gw := gw_t (tb_7 (List.mem_of_getElem? (i := 23) rfl)) rfl
theorem gw_1530 : Cond.lays "java/lang/StringIndexOutOfBoundsException" "java/lang/Throwable" "cause" "Ljava/lang/Throwable;" ∈ gw := gw_t (tb_7 (List.mem_of_getElem? (i := 24) rfl)) rfl
theorem gw_1531 : Cond.lays "java/lang/StringIndexOutOfBoundsException" "java/lang/Throwable" "stackTrace" "[Ljava/lang/StackTraceElement;" ∈ gw := gw_t (tb_7 (List.mem_of_getElem? (i := 25) rfl)) rfl
theorem gw_1532 : Cond.lays "java/lang/StringIndexOutOfBoundsException" "java/lang/Throwable" "depth" "I" ∈ gw := gw_t (tb_7 (List.mem_of_getElem? (i := 26) rfl)) rfl
theorem gw_1533 : Cond.lays "java/lang/StringIndexOutOfBoundsException" "java/lang/Throwable" "suppressedExceptions" "Ljava/util/List;" ∈ gw := gw_t (tb_7 (List.mem_of_getElem? (i := 27) rfl)) rfl
theorem gw_1561 : Cond.methodLink "HedgeCommittee" 293 ⟨"HedgeCommittee", "writePart", "(LHedgeCommittee$Motions;IILjava/lang/StringBuilder;)V"⟩ ∈ gw := gw_t (tb_7 (List.mem_of_getElem? (i := 55) rfl)) rfl
theorem gw_1562 : Cond.static ⟨"HedgeCommittee", "writePart", "(LHedgeCommittee$Motions;IILjava/lang/StringBuilder;)V"⟩ ∈ gw := gw_t (tb_7 (List.mem_of_getElem? (i := 56) rfl)) rfl
theorem gw_1563 : Cond.code ⟨"HedgeCommittee", "writePart", "(LHedgeCommittee$Motions;IILjava/lang/StringBuilder;)V"⟩ prog_1_method_55_code 6 none ∈ gw := gw_t (tb_7 (List.mem_of_getElem? (i := 57) rfl)) rfl
theorem gw_1564 : Cond.methodLink "HedgeCommittee" 359 ⟨"java/lang/StringBuilder", "append", "(I)Ljava/lang/StringBuilder;"⟩ ∈ gw := gw_t (tb_7 (List.mem_of_getElem? (i := 58) rfl)) rfl
theorem gw_1565 : Cond.methodLink "HedgeCommittee" 363 ⟨"java/lang/StringBuilder", "append", "(C)Ljava/lang/StringBuilder;"⟩ ∈ gw := gw_t (tb_7 (List.mem_of_getElem? (i := 59) rfl)) rfl
theorem gw_1566 : Cond.instanceMethod ⟨"java/lang/StringBuilder", "append", "(C)Ljava/lang/StringBuilder;"⟩ ∈ gw := gw_t (tb_7 (List.mem_of_getElem? (i := 60) rfl)) rfl
theorem gw_1567 : Cond.selects "java/lang/StringBuilder" ⟨"java/lang/StringBuilder", "append", "(C)Ljava/lang/StringBuilder;"⟩ ⟨"java/lang/StringBuilder", "append", "(C)Ljava/lang/StringBuilder;"⟩ ∈ gw := gw_t (tb_7 (List.mem_of_getElem? (i := 61) rfl)) rfl
theorem gw_1568 : Cond.code ⟨"java/lang/StringBuilder", "append", "(C)Ljava/lang/StringBuilder;"⟩ prog_32_method_14_code 2 (some (.object "java/lang/StringBuilder")) ∈ gw := gw_t (tb_7 (List.mem_of_getElem? (i := 62) rfl)) rfl
theorem gw_1569 : Cond.methodLink "java/lang/StringBuilder" 50 ⟨"java/lang/AbstractStringBuilder", "append", "(C)Ljava/lang/AbstractStringBuilder;"⟩ ∈ gw := gw_t (tb_7 (List.mem_of_getElem? (i := 63) rfl)) rfl
theorem gw_1570 : Cond.instanceMethod ⟨"java/lang/AbstractStringBuilder", "append", "(C)Ljava/lang/AbstractStringBuilder;"⟩ ∈ gw := gw_t (tb_7 (List.mem_of_getElem? (i := 64) rfl)) rfl
theorem gw_1571 : Cond.code ⟨"java/lang/AbstractStringBuilder", "append", "(C)Ljava/lang/AbstractStringBuilder;"⟩ prog_14_method_31_code 2 (some (.object "java/lang/AbstractStringBuilder")) ∈ gw := gw_t (tb_7 (List.mem_of_getElem? (i := 65) rfl)) rfl
theorem gw_1572 : Cond.methodLink "java/lang/AbstractStringBuilder" 191 ⟨"java/lang/StringLatin1", "canEncode", "(C)Z"⟩ ∈ gw := gw_t (tb_7 (List.mem_of_getElem? (i := 66) rfl)) rfl
theorem gw_1573 : Cond.static ⟨"java/lang/StringLatin1", "canEncode", "(C)Z"⟩ ∈ gw := gw_t (tb_7 (List.mem_of_getElem? (i := 67) rfl)) rfl
theorem gw_1574 : Cond.code ⟨"java/lang/StringLatin1", "canEncode", "(C)Z"⟩ prog_34_method_3_code 1 (some .boolean) ∈ gw := gw_t (tb_7 (List.mem_of_getElem? (i := 68) rfl)) rfl
theorem gw_1578 : Cond.methodLink "HedgeCommittee" 297 ⟨"java/lang/StringBuilder", "length", "()I"⟩ ∈ gw := gw_t (tb_7 (List.mem_of_getElem? (i := 72) rfl)) rfl
theorem gw_1579 : Cond.methodLink "HedgeCommitteeLaw" 295 ⟨"HedgeCommitteeLaw", "outputAt", "(LHedgeCommittee;I[J)I"⟩ ∈ gw := gw_t (tb_7 (List.mem_of_getElem? (i := 73) rfl)) rfl
theorem gw_1580 : Cond.static ⟨"HedgeCommitteeLaw", "outputAt", "(LHedgeCommittee;I[J)I"⟩ ∈ gw := gw_t (tb_7 (List.mem_of_getElem? (i := 74) rfl)) rfl
theorem gw_1581 : Cond.codeWith ⟨"HedgeCommitteeLaw", "outputAt", "(LHedgeCommittee;I[J)I"⟩ method_36_code 4 (some .int) [(0, 9, 12, 40)] ∈ gw := gw_t (tb_7 (List.mem_of_getElem? (i := 75) rfl)) rfl
theorem gw_1582 : Cond.methodLink "HedgeCommitteeLaw" 130 ⟨"HedgeCommittee", "outputAt", "(I)C"⟩ ∈ gw := gw_t (tb_7 (List.mem_of_getElem? (i := 76) rfl)) rfl
theorem gw_1583 : Cond.instanceMethod ⟨"HedgeCommittee", "outputAt", "(I)C"⟩ ∈ gw := gw_t (tb_7 (List.mem_of_getElem? (i := 77) rfl)) rfl
theorem gw_1584 : Cond.selects "HedgeCommittee" ⟨"HedgeCommittee", "outputAt", "(I)C"⟩ ⟨"HedgeCommittee", "outputAt", "(I)C"⟩ ∈ gw := gw_t (tb_7 (List.mem_of_getElem? (i := 78) rfl)) rfl
theorem gw_1585 : Cond.code ⟨"HedgeCommittee", "outputAt", "(I)C"⟩ prog_1_method_46_code 2 (some .char) ∈ gw := gw_t (tb_7 (List.mem_of_getElem? (i := 79) rfl)) rfl
theorem gw_1587 : Cond.methodLink "HedgeCommittee" 305 ⟨"java/lang/StringBuilder", "charAt", "(I)C"⟩ ∈ gw := gw_t (tb_7 (List.mem_of_getElem? (i := 81) rfl)) rfl
theorem gw_1588 : Cond.instanceMethod ⟨"java/lang/StringBuilder", "charAt", "(I)C"⟩ ∈ gw := gw_t (tb_7 (List.mem_of_getElem? (i := 82) rfl)) rfl
theorem gw_1589 : Cond.selects "java/lang/StringBuilder" ⟨"java/lang/StringBuilder", "charAt", "(I)C"⟩ ⟨"java/lang/StringBuilder", "charAt", "(I)C"⟩ ∈ gw := gw_t (tb_7 (List.mem_of_getElem? (i := 83) rfl)) rfl
theorem gw_1590 : Cond.code ⟨"java/lang/StringBuilder", "charAt", "(I)C"⟩ prog_32_method_88_code 2 (some .char) ∈ gw := gw_t (tb_7 (List.mem_of_getElem? (i := 84) rfl)) rfl
theorem gw_1591 : Cond.methodLink "java/lang/StringBuilder" 329 ⟨"java/lang/AbstractStringBuilder", "charAt", "(I)C"⟩ ∈ gw := gw_t (tb_7 (List.mem_of_getElem? (i := 85) rfl)) rfl
theorem gw_1592 : Cond.instanceMethod ⟨"java/lang/AbstractStringBuilder", "charAt", "(I)C"⟩ ∈ gw := gw_t (tb_7 (List.mem_of_getElem? (i := 86) rfl)) rfl
theorem gw_1593 : Cond.code ⟨"java/lang/AbstractStringBuilder", "charAt", "(I)C"⟩ prog_14_method_14_code 5 (some .char) ∈ gw := gw_t (tb_7 (List.mem_of_getElem? (i := 87) rfl)) rfl
theorem gw_1594 : Cond.methodLink "java/lang/AbstractStringBuilder" 138 ⟨"java/lang/Math", "min", "(II)I"⟩ ∈ gw := gw_t (tb_7 (List.mem_of_getElem? (i := 88) rfl)) rfl
theorem gw_1595 : Cond.methodLink "java/lang/AbstractStringBuilder" 144 ⟨"java/lang/String", "checkIndex", "(II)V"⟩ ∈ gw := gw_t (tb_7 (List.mem_of_getElem? (i := 89) rfl)) rfl
theorem gw_1597 : Cond.methodLink "HedgeCommitteeLaw" 298 ⟨"HedgeCommitteeLaw", "undo", "(LHedgeCommittee;[J)I"⟩ ∈ gw := gw_t (tb_7 (List.mem_of_getElem? (i := 91) rfl)) rfl
theorem gw_1598 : Cond.static ⟨"HedgeCommitteeLaw", "undo", "(LHedgeCommittee;[J)I"⟩ ∈ gw := gw_t (tb_7 (List.mem_of_getElem? (i := 92) rfl)) rfl
theorem gw_1599 : Cond.codeWith ⟨"HedgeCommitteeLaw", "undo", "(LHedgeCommittee;[J)I"⟩ method_37_code 3 (some .int) [(0, 8, 11, 15)] ∈ gw := gw_t (tb_7 (List.mem_of_getElem? (i := 93) rfl)) rfl
theorem gw_1600 : Cond.methodLink "HedgeCommitteeLaw" 133 ⟨"HedgeCommittee", "undo", "()I"⟩ ∈ gw := gw_t (tb_7 (List.mem_of_getElem? (i := 94) rfl)) rfl
theorem gw_1601 : Cond.instanceMethod ⟨"HedgeCommittee", "undo", "()I"⟩ ∈ gw := gw_t (tb_7 (List.mem_of_getElem? (i := 95) rfl)) rfl
theorem gw_1602 : Cond.selects "HedgeCommittee" ⟨"HedgeCommittee", "undo", "()I"⟩ ⟨"HedgeCommittee", "undo", "()I"⟩ ∈ gw := gw_t (tb_7 (List.mem_of_getElem? (i := 96) rfl)) rfl
theorem gw_1603 : Cond.code ⟨"HedgeCommittee", "undo", "()I"⟩ prog_1_method_47_code 1 (some .int) ∈ gw := gw_t (tb_7 (List.mem_of_getElem? (i := 97) rfl)) rfl
theorem gw_1605 : Cond.methodLink "HedgeCommittee" 311 ⟨"HedgeCommittee$History", "takeBack", "(LHedgeCommittee$State;)I"⟩ ∈ gw := gw_t (tb_7 (List.mem_of_getElem? (i := 99) rfl)) rfl
theorem gw_1606 : Cond.instanceMethod ⟨"HedgeCommittee$History", "takeBack", "(LHedgeCommittee$State;)I"⟩ ∈ gw := gw_t (tb_7 (List.mem_of_getElem? (i := 100) rfl)) rfl
theorem gw_1607 : Cond.selects "HedgeCommittee$History" ⟨"HedgeCommittee$History", "takeBack", "(LHedgeCommittee$State;)I"⟩ ⟨"HedgeCommittee$History", "takeBack", "(LHedgeCommittee$State;)I"⟩ ∈ gw := gw_t (tb_7 (List.mem_of_getElem? (i := 101) rfl)) rfl
theorem gw_1608 : Cond.code ⟨"HedgeCommittee$History", "takeBack", "(LHedgeCommittee$State;)I"⟩ prog_5_method_6_code 2 (some .int) ∈ gw := gw_t (tb_7 (List.mem_of_getElem? (i := 102) rfl)) rfl
theorem gw_1609 : Cond.methodLink "HedgeCommitteeLaw" 305 ⟨"HedgeCommitteeLaw", "restore", "(LHedgeCommittee;)I"⟩ ∈ gw := gw_t (tb_7 (List.mem_of_getElem? (i := 103) rfl)) rfl
theorem gw_1610 : Cond.static ⟨"HedgeCommitteeLaw", "restore", "(LHedgeCommittee;)I"⟩ ∈ gw := gw_t (tb_7 (List.mem_of_getElem? (i := 104) rfl)) rfl
theorem gw_1611 : Cond.codeWith ⟨"HedgeCommitteeLaw", "restore", "(LHedgeCommittee;)I"⟩ method_38_code 2 (some .int) [(0, 4, 7, 15)] ∈ gw := gw_t (tb_7 (List.mem_of_getElem? (i := 105) rfl)) rfl
theorem gw_1612 : Cond.methodLink "HedgeCommitteeLaw" 136 ⟨"HedgeCommittee", "restore", "()V"⟩ ∈ gw := gw_t (tb_7 (List.mem_of_getElem? (i := 106) rfl)) rfl
theorem gw_1613 : Cond.instanceMethod ⟨"HedgeCommittee", "restore", "()V"⟩ ∈ gw := gw_t (tb_7 (List.mem_of_getElem? (i := 107) rfl)) rfl
theorem gw_1614 : Cond.selects "HedgeCommittee" ⟨"HedgeCommittee", "restore", "()V"⟩ ⟨"HedgeCommittee", "restore", "()V"⟩ ∈ gw := gw_t (tb_7 (List.mem_of_getElem? (i := 108) rfl)) rfl
theorem gw_1615 : Cond.code ⟨"HedgeCommittee", "restore", "()V"⟩ prog_1_method_49_code 1 none ∈ gw := gw_t (tb_7 (List.mem_of_getElem? (i := 109) rfl)) rfl
theorem gw_1617 : Cond.classLink "HedgeCommitteeLaw" 140 "HedgeCommitteeModel" ∈ gw := gw_t (tb_7 (List.mem_of_getElem? (i := 111) rfl)) rfl
theorem gw_1618 : Cond.instantiable "HedgeCommitteeModel" 26 ∈ gw := gw_t (tb_7 (List.mem_of_getElem? (i := 112) rfl)) rfl
theorem gw_1619 : Cond.methodLink "HedgeCommitteeLaw" 142 ⟨"HedgeCommitteeModel", "<init>", "()V"⟩ ∈ gw := gw_t (tb_7 (List.mem_of_getElem? (i := 113) rfl)) rfl
theorem gw_1620 : Cond.instanceMethod ⟨"HedgeCommitteeModel", "<init>", "()V"⟩ ∈ gw := gw_t (tb_7 (List.mem_of_getElem? (i := 114) rfl)) rfl
theorem gw_1621 : Cond.code ⟨"HedgeCommitteeModel", "<init>", "()V"⟩ prog_12_method_1_code 1 none ∈ gw := gw_t (tb_7 (List.mem_of_getElem? (i := 115) rfl)) rfl
theorem gw_1622 : Cond.methodLink "HedgeCommitteeModel" 1 ⟨"java/lang/Object", "<init>", "()V"⟩ ∈ gw := gw_t (tb_7 (List.mem_of_getElem? (i := 116) rfl)) rfl
theorem gw_1623 : Cond.fieldLink "HedgeCommitteeModel" 9 "HedgeCommitteeModel" "m" "[I" ∈ gw := gw_t (tb_7 (List.mem_of_getElem? (i := 117) rfl)) rfl
theorem gw_1624 : Cond.fieldLink "HedgeCommitteeModel" 13 "HedgeCommitteeModel" "aside" "[I" ∈ gw := gw_t (tb_7 (List.mem_of_getElem? (i := 118) rfl)) rfl
theorem gw_1625 : Cond.fieldLink "HedgeCommitteeModel" 16 "HedgeCommitteeModel" "saved" "[I" ∈ gw := gw_t (tb_7 (List.mem_of_getElem? (i := 119) rfl)) rfl
theorem gw_1626 : Cond.fieldLink "HedgeCommitteeModel" 273 "HedgeCommitteeModel" "isSaved" "Z" ∈ gw := gw_t (tb_7 (List.mem_of_getElem? (i := 120) rfl)) rfl
theorem gw_1627 : Cond.fieldLink "HedgeCommitteeModel" 19 "HedgeCommitteeModel" "past" "[I" ∈ gw := gw_t (tb_7 (List.mem_of_getElem? (i := 121) rfl)) rfl
theorem gw_1628 : Cond.fieldLink "HedgeCommitteeModel" 60 "HedgeCommitteeModel" "changes" "I" ∈ gw := gw_t (tb_7 (List.mem_of_getElem? (i := 122) rfl)) rfl
theorem gw_1629 : Cond.fieldLink "HedgeCommitteeModel" 22 "HedgeCommitteeModel" "errorAt" "I" ∈ gw := gw_t (tb_7 (List.mem_of_getElem? (i := 123) rfl)) rfl
theorem gw_1630 : Cond.fieldLink "HedgeCommitteeModel" 26 "HedgeCommitteeModel" "failed" "I" ∈ gw := gw_t (tb_7 (List.mem_of_getElem? (i := 124) rfl)) rfl
theorem gw_1631 : Cond.fieldLink "HedgeCommitteeModel" 57 "HedgeCommitteeModel" "thrown" "I" ∈ gw := gw_t (tb_7 (List.mem_of_getElem? (i := 125) rfl)) rfl
theorem gw_1632 : Cond.fieldLink "HedgeCommitteeModel" 29 "HedgeCommitteeModel" "input" "[I" ∈ gw := gw_t (tb_7 (List.mem_of_getElem? (i := 126) rfl)) rfl
theorem gw_1633 : Cond.fieldLink "HedgeCommitteeModel" 207 "HedgeCommitteeModel" "inputMany" "I" ∈ gw := gw_t (tb_7 (List.mem_of_getElem? (i := 127) rfl)) rfl
theorem gw_1634 : Cond.fieldLink "HedgeCommitteeModel" 32 "HedgeCommitteeModel" "with" "[I" ∈ gw := gw_t (tb_7 (List.mem_of_getElem? (i := 128) rfl)) rfl
theorem gw_1635 : Cond.fieldLink "HedgeCommitteeModel" 35 "HedgeCommitteeModel" "without" "[I" ∈ gw := gw_t (tb_7 (List.mem_of_getElem? (i := 129) rfl)) rfl
theorem gw_1636 : Cond.fieldLink "HedgeCommitteeModel" 38 "HedgeCommitteeModel" "setsWith" "[I" ∈ gw := gw_t (tb_7 (List.mem_of_getElem? (i := 130) rfl)) rfl
theorem gw_1637 : Cond.fieldLink "HedgeCommitteeModel" 41 "HedgeCommitteeModel" "setsWithout" "[I" ∈ gw := gw_t (tb_7 (List.mem_of_getElem? (i := 131) rfl)) rfl
theorem gw_1638 : Cond.fieldLink "HedgeCommitteeModel" 190 "HedgeCommitteeModel" "worthAll" "I" ∈ gw := gw_t (tb_7 (List.mem_of_getElem? (i := 132) rfl)) rfl
theorem gw_1639 : Cond.fieldLink "HedgeCommitteeModel" 193 "HedgeCommitteeModel" "setsAll" "I" ∈ gw := gw_t (tb_7 (List.mem_of_getElem? (i := 133) rfl)) rfl
theorem gw_1640 : Cond.fieldLink "HedgeCommitteeModel" 44 "HedgeCommitteeModel" "letters" "[C" ∈ gw := gw_t (tb_7 (List.mem_of_getElem? (i := 134) rfl)) rfl
theorem gw_1641 : Cond.fieldLink "HedgeCommitteeModel" 48 "HedgeCommitteeModel" "begins0" "[I" ∈ gw := gw_t (tb_7 (List.mem_of_getElem? (i := 135) rfl)) rfl
theorem gw_1642 : Cond.fieldLink "HedgeCommitteeModel" 51 "HedgeCommitteeModel" "commands" "[I" ∈ gw := gw_t (tb_7 (List.mem_of_getElem? (i := 136) rfl)) rfl
theorem gw_1643 : Cond.fieldLink "HedgeCommitteeModel" 242 "HedgeCommitteeModel" "commandMany" "I" ∈ gw := gw_t (tb_7 (List.mem_of_getElem? (i := 137) rfl)) rfl
theorem gw_1644 : Cond.fieldLink "HedgeCommitteeModel" 210 "HedgeCommitteeModel" "place0" "I" ∈ gw := gw_t (tb_7 (List.mem_of_getElem? (i := 138) rfl)) rfl
theorem gw_1645 : Cond.fieldLink "HedgeCommitteeModel" 213 "HedgeCommitteeModel" "size0" "I" ∈ gw := gw_t (tb_7 (List.mem_of_getElem? (i := 139) rfl)) rfl
theorem gw_1646 : Cond.fieldLink "HedgeCommitteeModel" 216 "HedgeCommitteeModel" "isWrong" "Z" ∈ gw := gw_t (tb_7 (List.mem_of_getElem? (i := 140) rfl)) rfl
theorem gw_1647 : Cond.fieldLink "HedgeCommitteeModel" 54 "HedgeCommitteeModel" "line" "[I" ∈ gw := gw_t (tb_7 (List.mem_of_getElem? (i := 141) rfl)) rfl
theorem gw_1648 : Cond.fieldLink "HedgeCommitteeModel" 258 "HedgeCommitteeModel" "lineMany" "I" ∈ gw := gw_t (tb_7 (List.mem_of_getElem? (i := 142) rfl)) rfl
theorem gw_1649 : Cond.laysFinal "HedgeCommitteeModel" "HedgeCommitteeModel" "m" "[I" ∈ gw := gw_t (tb_7 (List.mem_of_getElem? (i := 143) rfl)) rfl
theorem gw_1651 : Cond.laysFinal "HedgeCommitteeModel" "HedgeCommitteeModel" "aside" "[I" ∈ gw := gw_t (tb_7 (List.mem_of_getElem? (i := 145) rfl)) rfl
theorem gw_1653 : Cond.laysFinal "HedgeCommitteeModel" "HedgeCommitteeModel" "saved" "[I" ∈ gw := gw_t (tb_7 (List.mem_of_getElem? (i := 147) rfl)) rfl
theorem gw_1655 : Cond.lays "HedgeCommitteeModel" "HedgeCommitteeModel" "isSaved" "Z" ∈ gw := gw_t (tb_7 (List.mem_of_getElem? (i := 149) rfl)) rfl
theorem gw_1657 : Cond.laysFinal "HedgeCommitteeModel" "HedgeCommitteeModel" "past" "[I" ∈ gw := gw_t (tb_7 (List.mem_of_getElem? (i := 151) rfl)) rfl
theorem gw_1659 : Cond.lays "HedgeCommitteeModel" "HedgeCommitteeModel" "changes" "I" ∈ gw := gw_t (tb_7 (List.mem_of_getElem? (i := 153) rfl)) rfl
theorem gw_1661 : Cond.lays "HedgeCommitteeModel" "HedgeCommitteeModel" "errorAt" "I" ∈ gw := gw_t (tb_7 (List.mem_of_getElem? (i := 155) rfl)) rfl
theorem gw_1663 : Cond.lays "HedgeCommitteeModel" "HedgeCommitteeModel" "failed" "I" ∈ gw := gw_t (tb_7 (List.mem_of_getElem? (i := 157) rfl)) rfl
theorem gw_1665 : Cond.lays "HedgeCommitteeModel" "HedgeCommitteeModel" "thrown" "I" ∈ gw := gw_t (tb_7 (List.mem_of_getElem? (i := 159) rfl)) rfl
theorem gw_1667 : Cond.laysFinal "HedgeCommitteeModel" "HedgeCommitteeModel" "input" "[I" ∈ gw := gw_t (tb_7 (List.mem_of_getElem? (i := 161) rfl)) rfl
theorem gw_1669 : Cond.lays "HedgeCommitteeModel" "HedgeCommitteeModel" "inputMany" "I" ∈ gw := gw_t (tb_7 (List.mem_of_getElem? (i := 163) rfl)) rfl
theorem gw_1671 : Cond.laysFinal "HedgeCommitteeModel" "HedgeCommitteeModel" "with" "[I" ∈ gw := gw_t (tb_7 (List.mem_of_getElem? (i := 165) rfl)) rfl
theorem gw_1673 : Cond.laysFinal "HedgeCommitteeModel" "HedgeCommitteeModel" "without" "[I" ∈ gw := gw_t (tb_7 (List.mem_of_getElem? (i := 167) rfl)) rfl
theorem gw_1675 : Cond.laysFinal "HedgeCommitteeModel" "HedgeCommitteeModel" "setsWith" "[I" ∈ gw := gw_t (tb_7 (List.mem_of_getElem? (i := 169) rfl)) rfl
theorem gw_1677 : Cond.laysFinal "HedgeCommitteeModel" "HedgeCommitteeModel" "setsWithout" "[I" ∈ gw := gw_t (tb_7 (List.mem_of_getElem? (i := 171) rfl)) rfl
theorem gw_1679 : Cond.lays "HedgeCommitteeModel" "HedgeCommitteeModel" "worthAll" "I" ∈ gw := gw_t (tb_7 (List.mem_of_getElem? (i := 173) rfl)) rfl
theorem gw_1681 : Cond.lays "HedgeCommitteeModel" "HedgeCommitteeModel" "setsAll" "I" ∈ gw := gw_t (tb_7 (List.mem_of_getElem? (i := 175) rfl)) rfl
theorem gw_1683 : Cond.laysFinal "HedgeCommitteeModel" "HedgeCommitteeModel" "letters" "[C" ∈ gw := gw_t (tb_7 (List.mem_of_getElem? (i := 177) rfl)) rfl
theorem gw_1685 : Cond.laysFinal "HedgeCommitteeModel" "HedgeCommitteeModel" "begins0" "[I" ∈ gw := gw_t (tb_7 (List.mem_of_getElem? (i := 179) rfl)) rfl
theorem gw_1687 : Cond.laysFinal "HedgeCommitteeModel" "HedgeCommitteeModel" "commands" "[I" ∈ gw := gw_t (tb_7 (List.mem_of_getElem? (i := 181) rfl)) rfl
theorem gw_1689 : Cond.lays "HedgeCommitteeModel" "HedgeCommitteeModel" "commandMany" "I" ∈ gw := gw_t (tb_7 (List.mem_of_getElem? (i := 183) rfl)) rfl
theorem gw_1691 : Cond.lays "HedgeCommitteeModel" "HedgeCommitteeModel" "place0" "I" ∈ gw := gw_t (tb_7 (List.mem_of_getElem? (i := 185) rfl)) rfl
theorem gw_1693 : Cond.lays "HedgeCommitteeModel" "HedgeCommitteeModel" "size0" "I" ∈ gw := gw_t (tb_7 (List.mem_of_getElem? (i := 187) rfl)) rfl
theorem gw_1695 : Cond.lays "HedgeCommitteeModel" "HedgeCommitteeModel" "isWrong" "Z" ∈ gw := gw_t (tb_7 (List.mem_of_getElem? (i := 189) rfl)) rfl
theorem gw_1697 : Cond.laysFinal "HedgeCommitteeModel" "HedgeCommitteeModel" "line" "[I" ∈ gw := gw_t (tb_7 (List.mem_of_getElem? (i := 191) rfl)) rfl
theorem gw_1699 : Cond.lays "HedgeCommitteeModel" "HedgeCommitteeModel" "lineMany" "I" ∈ gw := gw_t (tb_7 (List.mem_of_getElem? (i := 193) rfl)) rfl
theorem gw_1702 : Cond.methodLink "HedgeCommitteeLaw" 309 ⟨"HedgeCommitteeModel", "thrown", "()I"⟩ ∈ gw := gw_t (tb_7 (List.mem_of_getElem? (i := 196) rfl)) rfl
theorem gw_1703 : Cond.instanceMethod ⟨"HedgeCommitteeModel", "thrown", "()I"⟩ ∈ gw := gw_t (tb_7 (List.mem_of_getElem? (i := 197) rfl)) rfl
theorem gw_1704 : Cond.selects "HedgeCommitteeModel" ⟨"HedgeCommitteeModel", "thrown", "()I"⟩ ⟨"HedgeCommitteeModel", "thrown", "()I"⟩ ∈ gw := gw_t (tb_7 (List.mem_of_getElem? (i := 198) rfl)) rfl
theorem gw_1705 : Cond.code ⟨"HedgeCommitteeModel", "thrown", "()I"⟩ prog_12_method_2_code 1 (some .int) ∈ gw := gw_t (tb_7 (List.mem_of_getElem? (i := 199) rfl)) rfl
theorem gw_1706 : Cond.methodLink "HedgeCommitteeLaw" 148 ⟨"HedgeCommitteeModel", "addHedge", "(III)I"⟩ ∈ gw := gw_t (tb_7 (List.mem_of_getElem? (i := 200) rfl)) rfl
theorem gw_1707 : Cond.instanceMethod ⟨"HedgeCommitteeModel", "addHedge", "(III)I"⟩ ∈ gw := gw_t (tb_7 (List.mem_of_getElem? (i := 201) rfl)) rfl
theorem gw_1708 : Cond.selects "HedgeCommitteeModel" ⟨"HedgeCommitteeModel", "addHedge", "(III)I"⟩ ⟨"HedgeCommitteeModel", "addHedge", "(III)I"⟩ ∈ gw := gw_t (tb_7 (List.mem_of_getElem? (i := 202) rfl)) rfl
theorem gw_1709 : Cond.code ⟨"HedgeCommitteeModel", "addHedge", "(III)I"⟩ prog_12_method_23_code 4 (some .int) ∈ gw := gw_t (tb_7 (List.mem_of_getElem? (i := 203) rfl)) rfl
theorem gw_1710 : Cond.methodLink "HedgeCommitteeModel" 104 ⟨"HedgeCommitteeModel", "starts", "()V"⟩ ∈ gw := gw_t (tb_7 (List.mem_of_getElem? (i := 204) rfl)) rfl
theorem gw_1712 : Cond.instanceMethod ⟨"HedgeCommitteeModel", "starts", "()V"⟩ ∈ gw := gw_t (tb_7 (List.mem_of_getElem? (i := 206) rfl)) rfl
theorem gw_1713 : Cond.code ⟨"HedgeCommitteeModel", "starts", "()V"⟩ prog_12_method_5_code 2 none ∈ gw := gw_t (tb_7 (List.mem_of_getElem? (i := 207) rfl)) rfl
theorem gw_1714 : Cond.methodLink "HedgeCommitteeModel" 107 ⟨"HedgeCommitteeModel", "hedgeIt", "(III)I"⟩ ∈ gw := gw_t (tb_7 (List.mem_of_getElem? (i := 208) rfl)) rfl
theorem gw_1716 : Cond.instanceMethod ⟨"HedgeCommitteeModel", "hedgeIt", "(III)I"⟩ ∈ gw := gw_t (tb_7 (List.mem_of_getElem? (i := 210) rfl)) rfl
theorem gw_1717 : Cond.code ⟨"HedgeCommitteeModel", "hedgeIt", "(III)I"⟩ prog_12_method_22_code 5 (some .int) ∈ gw := gw_t (tb_7 (List.mem_of_getElem? (i := 211) rfl)) rfl
theorem gw_1718 : Cond.constantLong "HedgeCommitteeModel" 97 (99 : Int64) ∈ gw := gw_t (tb_7 (List.mem_of_getElem? (i := 212) rfl)) (by decide +kernel)
theorem gw_1719 : Cond.methodLink "HedgeCommitteeModel" 63 ⟨"HedgeCommitteeModel", "in", "(JJJ)Z"⟩ ∈ gw := gw_t (tb_7 (List.mem_of_getElem? (i := 213) rfl)) rfl
theorem gw_1720 : Cond.static ⟨"HedgeCommitteeModel", "in", "(JJJ)Z"⟩ ∈ gw := gw_t (tb_7 (List.mem_of_getElem? (i := 214) rfl)) rfl
theorem gw_1721 : Cond.code ⟨"HedgeCommitteeModel", "in", "(JJJ)Z"⟩ prog_12_method_4_code 6 (some .boolean) ∈ gw := gw_t (tb_7 (List.mem_of_getElem? (i := 215) rfl)) rfl
theorem gw_1722 : Cond.constantLong "HedgeCommitteeModel" 99 (9 : Int64) ∈ gw := gw_t (tb_7 (List.mem_of_getElem? (i := 216) rfl)) (by decide +kernel)
theorem gw_1723 : Cond.methodLink "HedgeCommitteeModel" 101 ⟨"HedgeCommitteeModel", "throwing", "(I)I"⟩ ∈ gw := gw_t (tb_7 (List.mem_of_getElem? (i := 217) rfl)) rfl
theorem gw_1725 : Cond.instanceMethod ⟨"HedgeCommitteeModel", "throwing", "(I)I"⟩ ∈ gw := gw_t (tb_7 (List.mem_of_getElem? (i := 219) rfl)) rfl
theorem gw_1726 : Cond.code ⟨"HedgeCommitteeModel", "throwing", "(I)I"⟩ prog_12_method_3_code 2 (some .int) ∈ gw := gw_t (tb_7 (List.mem_of_getElem? (i := 220) rfl)) rfl
theorem gw_1727 : Cond.methodLink "HedgeCommitteeModel" 86 ⟨"HedgeCommitteeModel", "hedgeAt", "(I)I"⟩ ∈ gw := gw_t (tb_7 (List.mem_of_getElem? (i := 221) rfl)) rfl
theorem gw_1728 : Cond.static ⟨"HedgeCommitteeModel", "hedgeAt", "(I)I"⟩ ∈ gw := gw_t (tb_7 (List.mem_of_getElem? (i := 222) rfl)) rfl
theorem gw_1729 : Cond.code ⟨"HedgeCommitteeModel", "hedgeAt", "(I)I"⟩ prog_12_method_7_code 1 (some .int) ∈ gw := gw_t (tb_7 (List.mem_of_getElem? (i := 223) rfl)) rfl
theorem gw_1730 : Cond.methodLink "HedgeCommitteeModel" 111 ⟨"HedgeCommitteeModel", "changed", "(I)I"⟩ ∈ gw := gw_t (tb_7 (List.mem_of_getElem? (i := 224) rfl)) rfl
theorem gw_1732 : Cond.instanceMethod ⟨"HedgeCommitteeModel", "changed", "(I)I"⟩ ∈ gw := gw_t (tb_7 (List.mem_of_getElem? (i := 226) rfl)) rfl
theorem gw_1733 : Cond.code ⟨"HedgeCommitteeModel", "changed", "(I)I"⟩ prog_12_method_6_code 3 (some .int) ∈ gw := gw_t (tb_7 (List.mem_of_getElem? (i := 227) rfl)) rfl
theorem gw_1734 : Cond.methodLink "HedgeCommitteeLaw" 152 ⟨"HedgeCommitteeModel", "propose", "(II)I"⟩ ∈ gw := gw_t (tb_7 (List.mem_of_getElem? (i := 228) rfl)) rfl
theorem gw_1735 : Cond.instanceMethod ⟨"HedgeCommitteeModel", "propose", "(II)I"⟩ ∈ gw := gw_t (tb_7 (List.mem_of_getElem? (i := 229) rfl)) rfl
theorem gw_1736 : Cond.selects "HedgeCommitteeModel" ⟨"HedgeCommitteeModel", "propose", "(II)I"⟩ ⟨"HedgeCommitteeModel", "propose", "(II)I"⟩ ∈ gw := gw_t (tb_7 (List.mem_of_getElem? (i := 230) rfl)) rfl
theorem gw_1737 : Cond.code ⟨"HedgeCommitteeModel", "propose", "(II)I"⟩ prog_12_method_25_code 3 (some .int) ∈ gw := gw_t (tb_7 (List.mem_of_getElem? (i := 231) rfl)) rfl
theorem gw_1738 : Cond.methodLink "HedgeCommitteeModel" 119 ⟨"HedgeCommitteeModel", "mainIt", "(II)I"⟩ ∈ gw := gw_t (tb_7 (List.mem_of_getElem? (i := 232) rfl)) rfl
theorem gw_1740 : Cond.instanceMethod ⟨"HedgeCommitteeModel", "mainIt", "(II)I"⟩ ∈ gw := gw_t (tb_7 (List.mem_of_getElem? (i := 234) rfl)) rfl
theorem gw_1741 : Cond.code ⟨"HedgeCommitteeModel", "mainIt", "(II)I"⟩ prog_12_method_24_code 3 (some .int) ∈ gw := gw_t (tb_7 (List.mem_of_getElem? (i := 235) rfl)) rfl
theorem gw_1742 : Cond.constantLong "HedgeCommitteeModel" 114 (20 : Int64) ∈ gw := gw_t (tb_7 (List.mem_of_getElem? (i := 236) rfl)) (by decide +kernel)
theorem gw_1743 : Cond.methodLink "HedgeCommitteeModel" 116 ⟨"HedgeCommitteeModel", "adds", "(III)I"⟩ ∈ gw := gw_t (tb_7 (List.mem_of_getElem? (i := 237) rfl)) rfl
theorem gw_1745 : Cond.instanceMethod ⟨"HedgeCommitteeModel", "adds", "(III)I"⟩ ∈ gw := gw_t (tb_7 (List.mem_of_getElem? (i := 239) rfl)) rfl
theorem gw_1746 : Cond.code ⟨"HedgeCommitteeModel", "adds", "(III)I"⟩ prog_12_method_21_code 5 (some .int) ∈ gw := gw_t (tb_8 (List.mem_of_getElem? (i := 0) rfl)) rfl
theorem gw_1747 : Cond.methodLink "HedgeCommitteeLaw" 155 ⟨"HedgeCommitteeModel", "amend", "(III)I"⟩ ∈ gw := gw_t (tb_8 (List.mem_of_getElem? (i := 1) rfl)) rfl
theorem gw_1748 : Cond.instanceMethod ⟨"HedgeCommitteeModel", "amend", "(III)I"⟩ ∈ gw := gw_t (tb_8 (List.mem_of_getElem? (i := 2) rfl)) rfl
theorem gw_1749 : Cond.selects "HedgeCommitteeModel" ⟨"HedgeCommitteeModel", "amend", "(III)I"⟩ ⟨"HedgeCommitteeModel", "amend", "(III)I"⟩ ∈ gw := gw_t (tb_8 (List.mem_of_getElem? (i := 3) rfl)) rfl
theorem gw_1750 : Cond.code ⟨"HedgeCommitteeModel", "amend", "(III)I"⟩ prog_12_method_27_code 4 (some .int) ∈ gw := gw_t (tb_8 (List.mem_of_getElem? (i := 4) rfl)) rfl
theorem gw_1751 : Cond.methodLink "HedgeCommitteeModel" 122 ⟨"HedgeCommitteeModel", "amendIt", "(III)I"⟩ ∈ gw := gw_t (tb_8 (List.mem_of_getElem? (i := 5) rfl)) rfl
theorem gw_1753 : Cond.instanceMethod ⟨"HedgeCommitteeModel", "amendIt", "(III)I"⟩ ∈ gw := gw_t (tb_8 (List.mem_of_getElem? (i := 7) rfl)) rfl
theorem gw_1754 : Cond.code ⟨"HedgeCommitteeModel", "amendIt", "(III)I"⟩ prog_12_method_26_code 4 (some .int) ∈ gw := gw_t (tb_8 (List.mem_of_getElem? (i := 8) rfl)) rfl
theorem gw_1755 : Cond.methodLink "HedgeCommitteeModel" 71 ⟨"HedgeCommitteeModel", "find", "(I)I"⟩ ∈ gw := gw_t (tb_8 (List.mem_of_getElem? (i := 9) rfl)) rfl
theorem gw_1757 : Cond.instanceMethod ⟨"HedgeCommitteeModel", "find", "(I)I"⟩ ∈ gw := gw_t (tb_8 (List.mem_of_getElem? (i := 11) rfl)) rfl
theorem gw_1758 : Cond.code ⟨"HedgeCommitteeModel", "find", "(I)I"⟩ prog_12_method_10_code 3 (some .int) ∈ gw := gw_t (tb_8 (List.mem_of_getElem? (i := 12) rfl)) rfl
theorem gw_1759 : Cond.methodLink "HedgeCommitteeModel" 67 ⟨"HedgeCommitteeModel", "of", "(II)I"⟩ ∈ gw := gw_t (tb_8 (List.mem_of_getElem? (i := 13) rfl)) rfl
theorem gw_1761 : Cond.instanceMethod ⟨"HedgeCommitteeModel", "of", "(II)I"⟩ ∈ gw := gw_t (tb_8 (List.mem_of_getElem? (i := 15) rfl)) rfl
theorem gw_1762 : Cond.code ⟨"HedgeCommitteeModel", "of", "(II)I"⟩ prog_12_method_9_code 3 (some .int) ∈ gw := gw_t (tb_8 (List.mem_of_getElem? (i := 16) rfl)) rfl
theorem gw_1763 : Cond.methodLink "HedgeCommitteeLaw" 158 ⟨"HedgeCommitteeModel", "prune", "(II)I"⟩ ∈ gw := gw_t (tb_8 (List.mem_of_getElem? (i := 17) rfl)) rfl
theorem gw_1764 : Cond.instanceMethod ⟨"HedgeCommitteeModel", "prune", "(II)I"⟩ ∈ gw := gw_t (tb_8 (List.mem_of_getElem? (i := 18) rfl)) rfl
theorem gw_1765 : Cond.selects "HedgeCommitteeModel" ⟨"HedgeCommitteeModel", "prune", "(II)I"⟩ ⟨"HedgeCommitteeModel", "prune", "(II)I"⟩ ∈ gw := gw_t (tb_8 (List.mem_of_getElem? (i := 19) rfl)) rfl
theorem gw_1766 : Cond.code ⟨"HedgeCommitteeModel", "prune", "(II)I"⟩ prog_12_method_29_code 3 (some .int) ∈ gw := gw_t (tb_8 (List.mem_of_getElem? (i := 20) rfl)) rfl
theorem gw_1767 : Cond.methodLink "HedgeCommitteeModel" 132 ⟨"HedgeCommitteeModel", "pruneIt", "(II)I"⟩ ∈ gw := gw_t (tb_8 (List.mem_of_getElem? (i := 21) rfl)) rfl
theorem gw_1769 : Cond.instanceMethod ⟨"HedgeCommitteeModel", "pruneIt", "(II)I"⟩ ∈ gw := gw_t (tb_8 (List.mem_of_getElem? (i := 23) rfl)) rfl
theorem gw_1770 : Cond.code ⟨"HedgeCommitteeModel", "pruneIt", "(II)I"⟩ prog_12_method_28_code 7 (some .int) ∈ gw := gw_t (tb_8 (List.mem_of_getElem? (i := 24) rfl)) rfl
theorem gw_1771 : Cond.methodLink "HedgeCommitteeModel" 125 ⟨"HedgeCommitteeModel", "deep", "(I)I"⟩ ∈ gw := gw_t (tb_8 (List.mem_of_getElem? (i := 25) rfl)) rfl
theorem gw_1773 : Cond.instanceMethod ⟨"HedgeCommitteeModel", "deep", "(I)I"⟩ ∈ gw := gw_t (tb_8 (List.mem_of_getElem? (i := 27) rfl)) rfl
theorem gw_1774 : Cond.code ⟨"HedgeCommitteeModel", "deep", "(I)I"⟩ prog_12_method_12_code 4 (some .int) ∈ gw := gw_t (tb_8 (List.mem_of_getElem? (i := 28) rfl)) rfl
theorem gw_1775 : Cond.methodLink "HedgeCommitteeModel" 75 ⟨"HedgeCommitteeModel", "above", "(I)I"⟩ ∈ gw := gw_t (tb_8 (List.mem_of_getElem? (i := 29) rfl)) rfl
theorem gw_1777 : Cond.instanceMethod ⟨"HedgeCommitteeModel", "above", "(I)I"⟩ ∈ gw := gw_t (tb_8 (List.mem_of_getElem? (i := 31) rfl)) rfl
theorem gw_1778 : Cond.code ⟨"HedgeCommitteeModel", "above", "(I)I"⟩ prog_12_method_11_code 2 (some .int) ∈ gw := gw_t (tb_8 (List.mem_of_getElem? (i := 32) rfl)) rfl
theorem gw_1779 : Cond.methodLink "HedgeCommitteeModel" 78 ⟨"HedgeCommitteeModel", "isIn", "(II)Z"⟩ ∈ gw := gw_t (tb_8 (List.mem_of_getElem? (i := 33) rfl)) rfl
theorem gw_1781 : Cond.instanceMethod ⟨"HedgeCommitteeModel", "isIn", "(II)Z"⟩ ∈ gw := gw_t (tb_8 (List.mem_of_getElem? (i := 35) rfl)) rfl
theorem gw_1782 : Cond.code ⟨"HedgeCommitteeModel", "isIn", "(II)Z"⟩ prog_12_method_14_code 4 (some .boolean) ∈ gw := gw_t (tb_8 (List.mem_of_getElem? (i := 36) rfl)) rfl
theorem gw_1783 : Cond.methodLink "HedgeCommitteeModel" 128 ⟨"HedgeCommitteeModel", "drops", "(I)V"⟩ ∈ gw := gw_t (tb_8 (List.mem_of_getElem? (i := 37) rfl)) rfl
theorem gw_1785 : Cond.instanceMethod ⟨"HedgeCommitteeModel", "drops", "(I)V"⟩ ∈ gw := gw_t (tb_8 (List.mem_of_getElem? (i := 39) rfl)) rfl
theorem gw_1786 : Cond.code ⟨"HedgeCommitteeModel", "drops", "(I)V"⟩ prog_12_method_20_code 3 none ∈ gw := gw_t (tb_8 (List.mem_of_getElem? (i := 40) rfl)) rfl
theorem gw_1787 : Cond.methodLink "HedgeCommitteeLaw" 162 ⟨"HedgeCommitteeModel", "regrow", "(I)I"⟩ ∈ gw := gw_t (tb_8 (List.mem_of_getElem? (i := 41) rfl)) rfl
theorem gw_1788 : Cond.instanceMethod ⟨"HedgeCommitteeModel", "regrow", "(I)I"⟩ ∈ gw := gw_t (tb_8 (List.mem_of_getElem? (i := 42) rfl)) rfl
theorem gw_1789 : Cond.selects "HedgeCommitteeModel" ⟨"HedgeCommitteeModel", "regrow", "(I)I"⟩ ⟨"HedgeCommitteeModel", "regrow", "(I)I"⟩ ∈ gw := gw_t (tb_8 (List.mem_of_getElem? (i := 43) rfl)) rfl
theorem gw_1790 : Cond.code ⟨"HedgeCommitteeModel", "regrow", "(I)I"⟩ prog_12_method_31_code 2 (some .int) ∈ gw := gw_t (tb_8 (List.mem_of_getElem? (i := 44) rfl)) rfl
theorem gw_1791 : Cond.methodLink "HedgeCommitteeModel" 141 ⟨"HedgeCommitteeModel", "regrowIt", "(I)I"⟩ ∈ gw := gw_t (tb_8 (List.mem_of_getElem? (i := 45) rfl)) rfl
theorem gw_1793 : Cond.instanceMethod ⟨"HedgeCommitteeModel", "regrowIt", "(I)I"⟩ ∈ gw := gw_t (tb_8 (List.mem_of_getElem? (i := 47) rfl)) rfl
theorem gw_1794 : Cond.code ⟨"HedgeCommitteeModel", "regrowIt", "(I)I"⟩ prog_12_method_30_code 4 (some .int) ∈ gw := gw_t (tb_8 (List.mem_of_getElem? (i := 48) rfl)) rfl
theorem gw_1795 : Cond.methodLink "HedgeCommitteeModel" 135 ⟨"HedgeCommitteeModel", "lastTipAt", "(I)I"⟩ ∈ gw := gw_t (tb_8 (List.mem_of_getElem? (i := 49) rfl)) rfl
theorem gw_1797 : Cond.instanceMethod ⟨"HedgeCommitteeModel", "lastTipAt", "(I)I"⟩ ∈ gw := gw_t (tb_8 (List.mem_of_getElem? (i := 51) rfl)) rfl
theorem gw_1798 : Cond.code ⟨"HedgeCommitteeModel", "lastTipAt", "(I)I"⟩ prog_12_method_15_code 4 (some .int) ∈ gw := gw_t (tb_8 (List.mem_of_getElem? (i := 52) rfl)) rfl
theorem gw_1799 : Cond.methodLink "HedgeCommitteeModel" 82 ⟨"HedgeCommitteeModel", "isTipAt", "(I)Z"⟩ ∈ gw := gw_t (tb_8 (List.mem_of_getElem? (i := 53) rfl)) rfl
theorem gw_1801 : Cond.instanceMethod ⟨"HedgeCommitteeModel", "isTipAt", "(I)Z"⟩ ∈ gw := gw_t (tb_8 (List.mem_of_getElem? (i := 55) rfl)) rfl
theorem gw_1802 : Cond.code ⟨"HedgeCommitteeModel", "isTipAt", "(I)Z"⟩ prog_12_method_13_code 4 (some .boolean) ∈ gw := gw_t (tb_8 (List.mem_of_getElem? (i := 56) rfl)) rfl
theorem gw_1803 : Cond.methodLink "HedgeCommitteeModel" 138 ⟨"java/lang/Math", "max", "(II)I"⟩ ∈ gw := gw_t (tb_8 (List.mem_of_getElem? (i := 57) rfl)) rfl
theorem gw_1804 : Cond.methodLink "HedgeCommitteeLaw" 165 ⟨"HedgeCommitteeModel", "vote", "(I)C"⟩ ∈ gw := gw_t (tb_8 (List.mem_of_getElem? (i := 58) rfl)) rfl
theorem gw_1805 : Cond.instanceMethod ⟨"HedgeCommitteeModel", "vote", "(I)C"⟩ ∈ gw := gw_t (tb_8 (List.mem_of_getElem? (i := 59) rfl)) rfl
theorem gw_1806 : Cond.selects "HedgeCommitteeModel" ⟨"HedgeCommitteeModel", "vote", "(I)C"⟩ ⟨"HedgeCommitteeModel", "vote", "(I)C"⟩ ∈ gw := gw_t (tb_8 (List.mem_of_getElem? (i := 60) rfl)) rfl
theorem gw_1807 : Cond.code ⟨"HedgeCommitteeModel", "vote", "(I)C"⟩ prog_12_method_34_code 2 (some .char) ∈ gw := gw_t (tb_8 (List.mem_of_getElem? (i := 61) rfl)) rfl
theorem gw_1808 : Cond.methodLink "HedgeCommitteeModel" 157 ⟨"HedgeCommitteeModel", "voteIt", "(I)I"⟩ ∈ gw := gw_t (tb_8 (List.mem_of_getElem? (i := 62) rfl)) rfl
theorem gw_1810 : Cond.instanceMethod ⟨"HedgeCommitteeModel", "voteIt", "(I)I"⟩ ∈ gw := gw_t (tb_8 (List.mem_of_getElem? (i := 64) rfl)) rfl
theorem gw_1811 : Cond.code ⟨"HedgeCommitteeModel", "voteIt", "(I)I"⟩ prog_12_method_33_code 5 (some .int) ∈ gw := gw_t (tb_8 (List.mem_of_getElem? (i := 65) rfl)) rfl
theorem gw_1812 : Cond.methodLink "HedgeCommitteeModel" 144 ⟨"HedgeCommitteeModel", "vetoes", "(II)Z"⟩ ∈ gw := gw_t (tb_8 (List.mem_of_getElem? (i := 66) rfl)) rfl
theorem gw_1814 : Cond.instanceMethod ⟨"HedgeCommitteeModel", "vetoes", "(II)Z"⟩ ∈ gw := gw_t (tb_8 (List.mem_of_getElem? (i := 68) rfl)) rfl
theorem gw_1815 : Cond.code ⟨"HedgeCommitteeModel", "vetoes", "(II)Z"⟩ prog_12_method_17_code 3 (some .boolean) ∈ gw := gw_t (tb_8 (List.mem_of_getElem? (i := 69) rfl)) rfl
theorem gw_1816 : Cond.methodLink "HedgeCommitteeModel" 94 ⟨"HedgeCommitteeModel", "far", "(II)I"⟩ ∈ gw := gw_t (tb_8 (List.mem_of_getElem? (i := 70) rfl)) rfl
theorem gw_1818 : Cond.instanceMethod ⟨"HedgeCommitteeModel", "far", "(II)I"⟩ ∈ gw := gw_t (tb_8 (List.mem_of_getElem? (i := 72) rfl)) rfl
theorem gw_1819 : Cond.code ⟨"HedgeCommitteeModel", "far", "(II)I"⟩ prog_12_method_16_code 3 (some .int) ∈ gw := gw_t (tb_8 (List.mem_of_getElem? (i := 73) rfl)) rfl
theorem gw_1820 : Cond.methodLink "HedgeCommitteeModel" 89 ⟨"java/lang/Math", "abs", "(I)I"⟩ ∈ gw := gw_t (tb_8 (List.mem_of_getElem? (i := 74) rfl)) rfl
theorem gw_1821 : Cond.static ⟨"java/lang/Math", "abs", "(I)I"⟩ ∈ gw := gw_t (tb_8 (List.mem_of_getElem? (i := 75) rfl)) rfl
theorem gw_1822 : Cond.code ⟨"java/lang/Math", "abs", "(I)I"⟩ prog_28_method_59_code 1 (some .int) ∈ gw := gw_t (tb_8 (List.mem_of_getElem? (i := 76) rfl)) rfl
theorem gw_1823 : Cond.methodLink "HedgeCommitteeModel" 147 ⟨"HedgeCommitteeModel", "favour", "(I)I"⟩ ∈ gw := gw_t (tb_8 (List.mem_of_getElem? (i := 77) rfl)) rfl
theorem gw_1825 : Cond.instanceMethod ⟨"HedgeCommitteeModel", "favour", "(I)I"⟩ ∈ gw := gw_t (tb_8 (List.mem_of_getElem? (i := 79) rfl)) rfl
theorem gw_1826 : Cond.code ⟨"HedgeCommitteeModel", "favour", "(I)I"⟩ prog_12_method_18_code 4 (some .int) ∈ gw := gw_t (tb_8 (List.mem_of_getElem? (i := 80) rfl)) rfl
theorem gw_1827 : Cond.methodLink "HedgeCommitteeModel" 150 ⟨"HedgeCommitteeModel", "leavesAll", "()I"⟩ ∈ gw := gw_t (tb_8 (List.mem_of_getElem? (i := 81) rfl)) rfl
theorem gw_1829 : Cond.instanceMethod ⟨"HedgeCommitteeModel", "leavesAll", "()I"⟩ ∈ gw := gw_t (tb_8 (List.mem_of_getElem? (i := 83) rfl)) rfl
theorem gw_1830 : Cond.code ⟨"HedgeCommitteeModel", "leavesAll", "()I"⟩ prog_12_method_19_code 3 (some .int) ∈ gw := gw_t (tb_8 (List.mem_of_getElem? (i := 84) rfl)) rfl
theorem gw_1831 : Cond.methodLink "HedgeCommitteeModel" 154 ⟨"HedgeCommitteeModel", "carries", "(I)V"⟩ ∈ gw := gw_t (tb_8 (List.mem_of_getElem? (i := 85) rfl)) rfl
theorem gw_1833 : Cond.instanceMethod ⟨"HedgeCommitteeModel", "carries", "(I)V"⟩ ∈ gw := gw_t (tb_8 (List.mem_of_getElem? (i := 87) rfl)) rfl
theorem gw_1834 : Cond.code ⟨"HedgeCommitteeModel", "carries", "(I)V"⟩ prog_12_method_32_code 2 none ∈ gw := gw_t (tb_8 (List.mem_of_getElem? (i := 88) rfl)) rfl
theorem gw_1835 : Cond.methodLink "HedgeCommitteeLaw" 169 ⟨"HedgeCommitteeModel", "passSeason", "()I"⟩ ∈ gw := gw_t (tb_8 (List.mem_of_getElem? (i := 89) rfl)) rfl
theorem gw_1836 : Cond.instanceMethod ⟨"HedgeCommitteeModel", "passSeason", "()I"⟩ ∈ gw := gw_t (tb_8 (List.mem_of_getElem? (i := 90) rfl)) rfl
theorem gw_1837 : Cond.selects "HedgeCommitteeModel" ⟨"HedgeCommitteeModel", "passSeason", "()I"⟩ ⟨"HedgeCommitteeModel", "passSeason", "()I"⟩ ∈ gw := gw_t (tb_8 (List.mem_of_getElem? (i := 91) rfl)) rfl
theorem gw_1838 : Cond.code ⟨"HedgeCommitteeModel", "passSeason", "()I"⟩ prog_12_method_36_code 1 (some .int) ∈ gw := gw_t (tb_8 (List.mem_of_getElem? (i := 92) rfl)) rfl
theorem gw_1839 : Cond.methodLink "HedgeCommitteeModel" 163 ⟨"HedgeCommitteeModel", "seasonIt", "()I"⟩ ∈ gw := gw_t (tb_8 (List.mem_of_getElem? (i := 93) rfl)) rfl
theorem gw_1841 : Cond.instanceMethod ⟨"HedgeCommitteeModel", "seasonIt", "()I"⟩ ∈ gw := gw_t (tb_8 (List.mem_of_getElem? (i := 95) rfl)) rfl
theorem gw_1842 : Cond.code ⟨"HedgeCommitteeModel", "seasonIt", "()I"⟩ prog_12_method_35_code 3 (some .int) ∈ gw := gw_t (tb_8 (List.mem_of_getElem? (i := 96) rfl)) rfl
theorem gw_1843 : Cond.methodLink "HedgeCommitteeModel" 160 ⟨"java/lang/Math", "min", "(II)I"⟩ ∈ gw := gw_t (tb_8 (List.mem_of_getElem? (i := 97) rfl)) rfl
theorem gw_1844 : Cond.methodLink "HedgeCommitteeLaw" 173 ⟨"HedgeCommitteeModel", "hedgeCount", "()I"⟩ ∈ gw := gw_t (tb_8 (List.mem_of_getElem? (i := 98) rfl)) rfl
theorem gw_1845 : Cond.instanceMethod ⟨"HedgeCommitteeModel", "hedgeCount", "()I"⟩ ∈ gw := gw_t (tb_8 (List.mem_of_getElem? (i := 99) rfl)) rfl
theorem gw_1846 : Cond.selects "HedgeCommitteeModel" ⟨"HedgeCommitteeModel", "hedgeCount", "()I"⟩ ⟨"HedgeCommitteeModel", "hedgeCount", "()I"⟩ ∈ gw := gw_t (tb_8 (List.mem_of_getElem? (i := 100) rfl)) rfl
theorem gw_1847 : Cond.code ⟨"HedgeCommitteeModel", "hedgeCount", "()I"⟩ prog_12_method_37_code 1 (some .int) ∈ gw := gw_t (tb_8 (List.mem_of_getElem? (i := 101) rfl)) rfl
theorem gw_1848 : Cond.methodLink "HedgeCommitteeLaw" 176 ⟨"HedgeCommitteeModel", "leaves", "(I)I"⟩ ∈ gw := gw_t (tb_8 (List.mem_of_getElem? (i := 102) rfl)) rfl
theorem gw_1849 : Cond.instanceMethod ⟨"HedgeCommitteeModel", "leaves", "(I)I"⟩ ∈ gw := gw_t (tb_8 (List.mem_of_getElem? (i := 103) rfl)) rfl
theorem gw_1850 : Cond.selects "HedgeCommitteeModel" ⟨"HedgeCommitteeModel", "leaves", "(I)I"⟩ ⟨"HedgeCommitteeModel", "leaves", "(I)I"⟩ ∈ gw := gw_t (tb_8 (List.mem_of_getElem? (i := 104) rfl)) rfl
theorem gw_1851 : Cond.code ⟨"HedgeCommitteeModel", "leaves", "(I)I"⟩ prog_12_method_38_code 2 (some .int) ∈ gw := gw_t (tb_8 (List.mem_of_getElem? (i := 105) rfl)) rfl
theorem gw_1852 : Cond.methodLink "HedgeCommitteeModel" 166 ⟨"HedgeCommitteeModel", "isHedge", "(I)Z"⟩ ∈ gw := gw_t (tb_8 (List.mem_of_getElem? (i := 106) rfl)) rfl
theorem gw_1854 : Cond.instanceMethod ⟨"HedgeCommitteeModel", "isHedge", "(I)Z"⟩ ∈ gw := gw_t (tb_8 (List.mem_of_getElem? (i := 108) rfl)) rfl
theorem gw_1855 : Cond.code ⟨"HedgeCommitteeModel", "isHedge", "(I)Z"⟩ prog_12_method_8_code 2 (some .boolean) ∈ gw := gw_t (tb_8 (List.mem_of_getElem? (i := 109) rfl)) rfl
theorem gw_1856 : Cond.methodLink "HedgeCommitteeLaw" 179 ⟨"HedgeCommitteeModel", "thorns", "(I)I"⟩ ∈ gw := gw_t (tb_8 (List.mem_of_getElem? (i := 110) rfl)) rfl
theorem gw_1857 : Cond.instanceMethod ⟨"HedgeCommitteeModel", "thorns", "(I)I"⟩ ∈ gw := gw_t (tb_8 (List.mem_of_getElem? (i := 111) rfl)) rfl
theorem gw_1858 : Cond.selects "HedgeCommitteeModel" ⟨"HedgeCommitteeModel", "thorns", "(I)I"⟩ ⟨"HedgeCommitteeModel", "thorns", "(I)I"⟩ ∈ gw := gw_t (tb_8 (List.mem_of_getElem? (i := 112) rfl)) rfl
theorem gw_1859 : Cond.code ⟨"HedgeCommitteeModel", "thorns", "(I)I"⟩ prog_12_method_39_code 2 (some .int) ∈ gw := gw_t (tb_8 (List.mem_of_getElem? (i := 113) rfl)) rfl
theorem gw_1860 : Cond.methodLink "HedgeCommitteeLaw" 182 ⟨"HedgeCommitteeModel", "hedgeAtRank", "(I)I"⟩ ∈ gw := gw_t (tb_8 (List.mem_of_getElem? (i := 114) rfl)) rfl
theorem gw_1861 : Cond.instanceMethod ⟨"HedgeCommitteeModel", "hedgeAtRank", "(I)I"⟩ ∈ gw := gw_t (tb_8 (List.mem_of_getElem? (i := 115) rfl)) rfl
theorem gw_1862 : Cond.selects "HedgeCommitteeModel" ⟨"HedgeCommitteeModel", "hedgeAtRank", "(I)I"⟩ ⟨"HedgeCommitteeModel", "hedgeAtRank", "(I)I"⟩ ∈ gw := gw_t (tb_8 (List.mem_of_getElem? (i := 116) rfl)) rfl
theorem gw_1863 : Cond.code ⟨"HedgeCommitteeModel", "hedgeAtRank", "(I)I"⟩ prog_12_method_41_code 5 (some .int) ∈ gw := gw_t (tb_8 (List.mem_of_getElem? (i := 117) rfl)) rfl
theorem gw_1864 : Cond.methodLink "HedgeCommitteeModel" 169 ⟨"HedgeCommitteeModel", "isHedgeAhead", "(II)Z"⟩ ∈ gw := gw_t (tb_8 (List.mem_of_getElem? (i := 118) rfl)) rfl
theorem gw_1866 : Cond.instanceMethod ⟨"HedgeCommitteeModel", "isHedgeAhead", "(II)Z"⟩ ∈ gw := gw_t (tb_8 (List.mem_of_getElem? (i := 120) rfl)) rfl
theorem gw_1867 : Cond.code ⟨"HedgeCommitteeModel", "isHedgeAhead", "(II)Z"⟩ prog_12_method_40_code 4 (some .boolean) ∈ gw := gw_t (tb_8 (List.mem_of_getElem? (i := 121) rfl)) rfl
theorem gw_1868 : Cond.methodLink "HedgeCommitteeLaw" 185 ⟨"HedgeCommitteeModel", "leavesInFavour", "(I)I"⟩ ∈ gw := gw_t (tb_8 (List.mem_of_getElem? (i := 122) rfl)) rfl
theorem gw_1869 : Cond.instanceMethod ⟨"HedgeCommitteeModel", "leavesInFavour", "(I)I"⟩ ∈ gw := gw_t (tb_8 (List.mem_of_getElem? (i := 123) rfl)) rfl
theorem gw_1870 : Cond.selects "HedgeCommitteeModel" ⟨"HedgeCommitteeModel", "leavesInFavour", "(I)I"⟩ ⟨"HedgeCommitteeModel", "leavesInFavour", "(I)I"⟩ ∈ gw := gw_t (tb_8 (List.mem_of_getElem? (i := 124) rfl)) rfl
theorem gw_1871 : Cond.code ⟨"HedgeCommitteeModel", "leavesInFavour", "(I)I"⟩ prog_12_method_42_code 3 (some .int) ∈ gw := gw_t (tb_8 (List.mem_of_getElem? (i := 125) rfl)) rfl
theorem gw_1872 : Cond.methodLink "HedgeCommitteeLaw" 188 ⟨"HedgeCommitteeModel", "wouldVeto", "(II)Z"⟩ ∈ gw := gw_t (tb_8 (List.mem_of_getElem? (i := 126) rfl)) rfl
theorem gw_1873 : Cond.instanceMethod ⟨"HedgeCommitteeModel", "wouldVeto", "(II)Z"⟩ ∈ gw := gw_t (tb_8 (List.mem_of_getElem? (i := 127) rfl)) rfl
theorem gw_1874 : Cond.selects "HedgeCommitteeModel" ⟨"HedgeCommitteeModel", "wouldVeto", "(II)Z"⟩ ⟨"HedgeCommitteeModel", "wouldVeto", "(II)Z"⟩ ∈ gw := gw_t (tb_8 (List.mem_of_getElem? (i := 128) rfl)) rfl
theorem gw_1875 : Cond.code ⟨"HedgeCommitteeModel", "wouldVeto", "(II)Z"⟩ prog_12_method_43_code 4 (some .boolean) ∈ gw := gw_t (tb_8 (List.mem_of_getElem? (i := 129) rfl)) rfl
theorem gw_1876 : Cond.methodLink "HedgeCommitteeLaw" 192 ⟨"HedgeCommitteeModel", "motionCount", "()I"⟩ ∈ gw := gw_t (tb_8 (List.mem_of_getElem? (i := 130) rfl)) rfl
theorem gw_1877 : Cond.instanceMethod ⟨"HedgeCommitteeModel", "motionCount", "()I"⟩ ∈ gw := gw_t (tb_8 (List.mem_of_getElem? (i := 131) rfl)) rfl
theorem gw_1878 : Cond.selects "HedgeCommitteeModel" ⟨"HedgeCommitteeModel", "motionCount", "()I"⟩ ⟨"HedgeCommitteeModel", "motionCount", "()I"⟩ ∈ gw := gw_t (tb_8 (List.mem_of_getElem? (i := 132) rfl)) rfl
theorem gw_1879 : Cond.code ⟨"HedgeCommitteeModel", "motionCount", "()I"⟩ prog_12_method_44_code 1 (some .int) ∈ gw := gw_t (tb_8 (List.mem_of_getElem? (i := 133) rfl)) rfl
theorem gw_1880 : Cond.methodLink "HedgeCommitteeLaw" 195 ⟨"HedgeCommitteeModel", "motionAt", "(I)I"⟩ ∈ gw := gw_t (tb_8 (List.mem_of_getElem? (i := 134) rfl)) rfl
theorem gw_1881 : Cond.instanceMethod ⟨"HedgeCommitteeModel", "motionAt", "(I)I"⟩ ∈ gw := gw_t (tb_8 (List.mem_of_getElem? (i := 135) rfl)) rfl
theorem gw_1882 : Cond.selects "HedgeCommitteeModel" ⟨"HedgeCommitteeModel", "motionAt", "(I)I"⟩ ⟨"HedgeCommitteeModel", "motionAt", "(I)I"⟩ ∈ gw := gw_t (tb_8 (List.mem_of_getElem? (i := 136) rfl)) rfl
theorem gw_1883 : Cond.code ⟨"HedgeCommitteeModel", "motionAt", "(I)I"⟩ prog_12_method_45_code 2 (some .int) ∈ gw := gw_t (tb_8 (List.mem_of_getElem? (i := 137) rfl)) rfl
theorem gw_1884 : Cond.methodLink "HedgeCommitteeLaw" 198 ⟨"HedgeCommitteeModel", "tone", "(I)I"⟩ ∈ gw := gw_t (tb_8 (List.mem_of_getElem? (i := 138) rfl)) rfl
theorem gw_1885 : Cond.instanceMethod ⟨"HedgeCommitteeModel", "tone", "(I)I"⟩ ∈ gw := gw_t (tb_8 (List.mem_of_getElem? (i := 139) rfl)) rfl
theorem gw_1886 : Cond.selects "HedgeCommitteeModel" ⟨"HedgeCommitteeModel", "tone", "(I)I"⟩ ⟨"HedgeCommitteeModel", "tone", "(I)I"⟩ ∈ gw := gw_t (tb_8 (List.mem_of_getElem? (i := 140) rfl)) rfl
theorem gw_1887 : Cond.code ⟨"HedgeCommitteeModel", "tone", "(I)I"⟩ prog_12_method_47_code 2 (some .int) ∈ gw := gw_t (tb_8 (List.mem_of_getElem? (i := 141) rfl)) rfl
theorem gw_1888 : Cond.methodLink "HedgeCommitteeModel" 172 ⟨"HedgeCommitteeModel", "ofMotion", "(II)I"⟩ ∈ gw := gw_t (tb_8 (List.mem_of_getElem? (i := 142) rfl)) rfl
theorem gw_1890 : Cond.instanceMethod ⟨"HedgeCommitteeModel", "ofMotion", "(II)I"⟩ ∈ gw := gw_t (tb_8 (List.mem_of_getElem? (i := 144) rfl)) rfl
theorem gw_1891 : Cond.code ⟨"HedgeCommitteeModel", "ofMotion", "(II)I"⟩ prog_12_method_46_code 3 (some .int) ∈ gw := gw_t (tb_8 (List.mem_of_getElem? (i := 145) rfl)) rfl
theorem gw_1892 : Cond.methodLink "HedgeCommitteeLaw" 201 ⟨"HedgeCommitteeModel", "weight", "(I)I"⟩ ∈ gw := gw_t (tb_8 (List.mem_of_getElem? (i := 146) rfl)) rfl
theorem gw_1893 : Cond.instanceMethod ⟨"HedgeCommitteeModel", "weight", "(I)I"⟩ ∈ gw := gw_t (tb_8 (List.mem_of_getElem? (i := 147) rfl)) rfl
theorem gw_1894 : Cond.selects "HedgeCommitteeModel" ⟨"HedgeCommitteeModel", "weight", "(I)I"⟩ ⟨"HedgeCommitteeModel", "weight", "(I)I"⟩ ∈ gw := gw_t (tb_8 (List.mem_of_getElem? (i := 148) rfl)) rfl
theorem gw_1895 : Cond.code ⟨"HedgeCommitteeModel", "weight", "(I)I"⟩ prog_12_method_48_code 2 (some .int) ∈ gw := gw_t (tb_8 (List.mem_of_getElem? (i := 149) rfl)) rfl
theorem gw_1896 : Cond.methodLink "HedgeCommitteeLaw" 204 ⟨"HedgeCommitteeModel", "parent", "(I)I"⟩ ∈ gw := gw_t (tb_8 (List.mem_of_getElem? (i := 150) rfl)) rfl
theorem gw_1897 : Cond.instanceMethod ⟨"HedgeCommitteeModel", "parent", "(I)I"⟩ ∈ gw := gw_t (tb_8 (List.mem_of_getElem? (i := 151) rfl)) rfl
theorem gw_1898 : Cond.selects "HedgeCommitteeModel" ⟨"HedgeCommitteeModel", "parent", "(I)I"⟩ ⟨"HedgeCommitteeModel", "parent", "(I)I"⟩ ∈ gw := gw_t (tb_8 (List.mem_of_getElem? (i := 152) rfl)) rfl
theorem gw_1899 : Cond.code ⟨"HedgeCommitteeModel", "parent", "(I)I"⟩ prog_12_method_49_code 3 (some .int) ∈ gw := gw_t (tb_8 (List.mem_of_getElem? (i := 153) rfl)) rfl
theorem gw_1900 : Cond.methodLink "HedgeCommitteeLaw" 207 ⟨"HedgeCommitteeModel", "depth", "(I)I"⟩ ∈ gw := gw_t (tb_8 (List.mem_of_getElem? (i := 154) rfl)) rfl
theorem gw_1901 : Cond.instanceMethod ⟨"HedgeCommitteeModel", "depth", "(I)I"⟩ ∈ gw := gw_t (tb_8 (List.mem_of_getElem? (i := 155) rfl)) rfl
theorem gw_1902 : Cond.selects "HedgeCommitteeModel" ⟨"HedgeCommitteeModel", "depth", "(I)I"⟩ ⟨"HedgeCommitteeModel", "depth", "(I)I"⟩ ∈ gw := gw_t (tb_8 (List.mem_of_getElem? (i := 156) rfl)) rfl
theorem gw_1903 : Cond.code ⟨"HedgeCommitteeModel", "depth", "(I)I"⟩ prog_12_method_50_code 2 (some .int) ∈ gw := gw_t (tb_8 (List.mem_of_getElem? (i := 157) rfl)) rfl
theorem gw_1904 : Cond.methodLink "HedgeCommitteeLaw" 210 ⟨"HedgeCommitteeModel", "isTip", "(I)Z"⟩ ∈ gw := gw_t (tb_8 (List.mem_of_getElem? (i := 158) rfl)) rfl
theorem gw_1905 : Cond.instanceMethod ⟨"HedgeCommitteeModel", "isTip", "(I)Z"⟩ ∈ gw := gw_t (tb_8 (List.mem_of_getElem? (i := 159) rfl)) rfl
theorem gw_1906 : Cond.selects "HedgeCommitteeModel" ⟨"HedgeCommitteeModel", "isTip", "(I)Z"⟩ ⟨"HedgeCommitteeModel", "isTip", "(I)Z"⟩ ∈ gw := gw_t (tb_8 (List.mem_of_getElem? (i := 160) rfl)) rfl
theorem gw_1907 : Cond.code ⟨"HedgeCommitteeModel", "isTip", "(I)Z"⟩ prog_12_method_51_code 2 (some .boolean) ∈ gw := gw_t (tb_8 (List.mem_of_getElem? (i := 161) rfl)) rfl
theorem gw_1908 : Cond.methodLink "HedgeCommitteeLaw" 213 ⟨"HedgeCommitteeModel", "branchSize", "(I)I"⟩ ∈ gw := gw_t (tb_8 (List.mem_of_getElem? (i := 162) rfl)) rfl
theorem gw_1909 : Cond.instanceMethod ⟨"HedgeCommitteeModel", "branchSize", "(I)I"⟩ ∈ gw := gw_t (tb_8 (List.mem_of_getElem? (i := 163) rfl)) rfl
theorem gw_1910 : Cond.selects "HedgeCommitteeModel" ⟨"HedgeCommitteeModel", "branchSize", "(I)I"⟩ ⟨"HedgeCommitteeModel", "branchSize", "(I)I"⟩ ∈ gw := gw_t (tb_8 (List.mem_of_getElem? (i := 164) rfl)) rfl
theorem gw_1911 : Cond.code ⟨"HedgeCommitteeModel", "branchSize", "(I)I"⟩ prog_12_method_52_code 5 (some .int) ∈ gw := gw_t (tb_8 (List.mem_of_getElem? (i := 165) rfl)) rfl
theorem gw_1912 : Cond.methodLink "HedgeCommitteeLaw" 216 ⟨"HedgeCommitteeModel", "lastTip", "(I)I"⟩ ∈ gw := gw_t (tb_8 (List.mem_of_getElem? (i := 166) rfl)) rfl
theorem gw_1913 : Cond.instanceMethod ⟨"HedgeCommitteeModel", "lastTip", "(I)I"⟩ ∈ gw := gw_t (tb_8 (List.mem_of_getElem? (i := 167) rfl)) rfl
theorem gw_1914 : Cond.selects "HedgeCommitteeModel" ⟨"HedgeCommitteeModel", "lastTip", "(I)I"⟩ ⟨"HedgeCommitteeModel", "lastTip", "(I)I"⟩ ∈ gw := gw_t (tb_8 (List.mem_of_getElem? (i := 168) rfl)) rfl
theorem gw_1915 : Cond.code ⟨"HedgeCommitteeModel", "lastTip", "(I)I"⟩ prog_12_method_53_code 3 (some .int) ∈ gw := gw_t (tb_8 (List.mem_of_getElem? (i := 169) rfl)) rfl
theorem gw_1916 : Cond.methodLink "HedgeCommitteeLaw" 219 ⟨"HedgeCommitteeModel", "motionAtRank", "(I)I"⟩ ∈ gw := gw_t (tb_8 (List.mem_of_getElem? (i := 170) rfl)) rfl
theorem gw_1917 : Cond.instanceMethod ⟨"HedgeCommitteeModel", "motionAtRank", "(I)I"⟩ ∈ gw := gw_t (tb_8 (List.mem_of_getElem? (i := 171) rfl)) rfl
theorem gw_1918 : Cond.selects "HedgeCommitteeModel" ⟨"HedgeCommitteeModel", "motionAtRank", "(I)I"⟩ ⟨"HedgeCommitteeModel", "motionAtRank", "(I)I"⟩ ∈ gw := gw_t (tb_8 (List.mem_of_getElem? (i := 172) rfl)) rfl
theorem gw_1919 : Cond.code ⟨"HedgeCommitteeModel", "motionAtRank", "(I)I"⟩ prog_12_method_55_code 5 (some .int) ∈ gw := gw_t (tb_8 (List.mem_of_getElem? (i := 173) rfl)) rfl
theorem gw_1920 : Cond.methodLink "HedgeCommitteeModel" 175 ⟨"HedgeCommitteeModel", "isMotionAhead", "(II)Z"⟩ ∈ gw := gw_t (tb_8 (List.mem_of_getElem? (i := 174) rfl)) rfl
theorem gw_1922 : Cond.instanceMethod ⟨"HedgeCommitteeModel", "isMotionAhead", "(II)Z"⟩ ∈ gw := gw_t (tb_8 (List.mem_of_getElem? (i := 176) rfl)) rfl
theorem gw_1923 : Cond.code ⟨"HedgeCommitteeModel", "isMotionAhead", "(II)Z"⟩ prog_12_method_54_code 4 (some .boolean) ∈ gw := gw_t (tb_8 (List.mem_of_getElem? (i := 177) rfl)) rfl
theorem gw_1924 : Cond.methodLink "HedgeCommitteeLaw" 222 ⟨"HedgeCommitteeModel", "commonMotion", "(II)I"⟩ ∈ gw := gw_t (tb_8 (List.mem_of_getElem? (i := 178) rfl)) rfl
theorem gw_1925 : Cond.instanceMethod ⟨"HedgeCommitteeModel", "commonMotion", "(II)I"⟩ ∈ gw := gw_t (tb_8 (List.mem_of_getElem? (i := 179) rfl)) rfl
theorem gw_1926 : Cond.selects "HedgeCommitteeModel" ⟨"HedgeCommitteeModel", "commonMotion", "(II)I"⟩ ⟨"HedgeCommitteeModel", "commonMotion", "(II)I"⟩ ∈ gw := gw_t (tb_8 (List.mem_of_getElem? (i := 180) rfl)) rfl
theorem gw_1927 : Cond.code ⟨"HedgeCommitteeModel", "commonMotion", "(II)I"⟩ prog_12_method_57_code 6 (some .int) ∈ gw := gw_t (tb_8 (List.mem_of_getElem? (i := 181) rfl)) rfl
theorem gw_1928 : Cond.methodLink "HedgeCommitteeModel" 178 ⟨"HedgeCommitteeModel", "common", "(II)I"⟩ ∈ gw := gw_t (tb_8 (List.mem_of_getElem? (i := 182) rfl)) rfl
theorem gw_1930 : Cond.instanceMethod ⟨"HedgeCommitteeModel", "common", "(II)I"⟩ ∈ gw := gw_t (tb_8 (List.mem_of_getElem? (i := 184) rfl)) rfl
theorem gw_1931 : Cond.code ⟨"HedgeCommitteeModel", "common", "(II)I"⟩ prog_12_method_56_code 5 (some .int) ∈ gw := gw_t (tb_8 (List.mem_of_getElem? (i := 185) rfl)) rfl
theorem gw_1932 : Cond.methodLink "HedgeCommitteeLaw" 225 ⟨"HedgeCommitteeModel", "commonMotionByRows", "(II)I"⟩ ∈ gw := gw_t (tb_8 (List.mem_of_getElem? (i := 186) rfl)) rfl
theorem gw_1933 : Cond.instanceMethod ⟨"HedgeCommitteeModel", "commonMotionByRows", "(II)I"⟩ ∈ gw := gw_t (tb_8 (List.mem_of_getElem? (i := 187) rfl)) rfl
theorem gw_1934 : Cond.selects "HedgeCommitteeModel" ⟨"HedgeCommitteeModel", "commonMotionByRows", "(II)I"⟩ ⟨"HedgeCommitteeModel", "commonMotionByRows", "(II)I"⟩ ∈ gw := gw_t (tb_8 (List.mem_of_getElem? (i := 188) rfl)) rfl
theorem gw_1935 : Cond.code ⟨"HedgeCommitteeModel", "commonMotionByRows", "(II)I"⟩ prog_12_method_58_code 3 (some .int) ∈ gw := gw_t (tb_8 (List.mem_of_getElem? (i := 189) rfl)) rfl
theorem gw_1936 : Cond.methodLink "HedgeCommitteeModel" 181 ⟨"HedgeCommitteeModel", "commonMotion", "(II)I"⟩ ∈ gw := gw_t (tb_8 (List.mem_of_getElem? (i := 190) rfl)) rfl
theorem gw_1937 : Cond.methodLink "HedgeCommitteeLaw" 228 ⟨"HedgeCommitteeModel", "pathSize", "(II)I"⟩ ∈ gw := gw_t (tb_8 (List.mem_of_getElem? (i := 191) rfl)) rfl
theorem gw_1938 : Cond.instanceMethod ⟨"HedgeCommitteeModel", "pathSize", "(II)I"⟩ ∈ gw := gw_t (tb_8 (List.mem_of_getElem? (i := 192) rfl)) rfl
theorem gw_1939 : Cond.selects "HedgeCommitteeModel" ⟨"HedgeCommitteeModel", "pathSize", "(II)I"⟩ ⟨"HedgeCommitteeModel", "pathSize", "(II)I"⟩ ∈ gw := gw_t (tb_8 (List.mem_of_getElem? (i := 193) rfl)) rfl
theorem gw_1940 : Cond.code ⟨"HedgeCommitteeModel", "pathSize", "(II)I"⟩ prog_12_method_60_code 3 (some .int) ∈ gw := gw_t (tb_8 (List.mem_of_getElem? (i := 194) rfl)) rfl
theorem gw_1941 : Cond.methodLink "HedgeCommitteeModel" 184 ⟨"HedgeCommitteeModel", "steps", "(II)I"⟩ ∈ gw := gw_t (tb_8 (List.mem_of_getElem? (i := 195) rfl)) rfl
theorem gw_1943 : Cond.instanceMethod ⟨"HedgeCommitteeModel", "steps", "(II)I"⟩ ∈ gw := gw_t (tb_8 (List.mem_of_getElem? (i := 197) rfl)) rfl
theorem gw_1944 : Cond.code ⟨"HedgeCommitteeModel", "steps", "(II)I"⟩ prog_12_method_59_code 3 (some .int) ∈ gw := gw_t (tb_8 (List.mem_of_getElem? (i := 198) rfl)) rfl
theorem gw_1945 : Cond.methodLink "HedgeCommitteeLaw" 231 ⟨"HedgeCommitteeModel", "longestPath", "(I)I"⟩ ∈ gw := gw_t (tb_8 (List.mem_of_getElem? (i := 199) rfl)) rfl
theorem gw_1946 : Cond.instanceMethod ⟨"HedgeCommitteeModel", "longestPath", "(I)I"⟩ ∈ gw := gw_t (tb_8 (List.mem_of_getElem? (i := 200) rfl)) rfl
theorem gw_1947 : Cond.selects "HedgeCommitteeModel" ⟨"HedgeCommitteeModel", "longestPath", "(I)I"⟩ ⟨"HedgeCommitteeModel", "longestPath", "(I)I"⟩ ∈ gw := gw_t (tb_8 (List.mem_of_getElem? (i := 201) rfl)) rfl
theorem gw_1948 : Cond.code ⟨"HedgeCommitteeModel", "longestPath", "(I)I"⟩ prog_12_method_61_code 6 (some .int) ∈ gw := gw_t (tb_8 (List.mem_of_getElem? (i := 202) rfl)) rfl
theorem gw_1949 : Cond.methodLink "HedgeCommitteeLaw" 234 ⟨"HedgeCommitteeModel", "longestPathBySweeps", "(I)I"⟩ ∈ gw := gw_t (tb_8 (List.mem_of_getElem? (i := 203) rfl)) rfl
theorem gw_1950 : Cond.instanceMethod ⟨"HedgeCommitteeModel", "longestPathBySweeps", "(I)I"⟩ ∈ gw := gw_t (tb_8 (List.mem_of_getElem? (i := 204) rfl)) rfl
theorem gw_1951 : Cond.selects "HedgeCommitteeModel" ⟨"HedgeCommitteeModel", "longestPathBySweeps", "(I)I"⟩ ⟨"HedgeCommitteeModel", "longestPathBySweeps", "(I)I"⟩ ∈ gw := gw_t (tb_8 (List.mem_of_getElem? (i := 205) rfl)) rfl
theorem gw_1952 : Cond.code ⟨"HedgeCommitteeModel", "longestPathBySweeps", "(I)I"⟩ prog_12_method_62_code 2 (some .int) ∈ gw := gw_t (tb_8 (List.mem_of_getElem? (i := 206) rfl)) rfl
theorem gw_1953 : Cond.methodLink "HedgeCommitteeModel" 187 ⟨"HedgeCommitteeModel", "longestPath", "(I)I"⟩ ∈ gw := gw_t (tb_8 (List.mem_of_getElem? (i := 207) rfl)) rfl
theorem gw_1954 : Cond.methodLink "HedgeCommitteeLaw" 238 ⟨"HedgeCommitteeModel", "bestWorth", "()I"⟩ ∈ gw := gw_t (tb_8 (List.mem_of_getElem? (i := 208) rfl)) rfl
theorem gw_1955 : Cond.instanceMethod ⟨"HedgeCommitteeModel", "bestWorth", "()I"⟩ ∈ gw := gw_t (tb_8 (List.mem_of_getElem? (i := 209) rfl)) rfl
theorem gw_1956 : Cond.selects "HedgeCommitteeModel" ⟨"HedgeCommitteeModel", "bestWorth", "()I"⟩ ⟨"HedgeCommitteeModel", "bestWorth", "()I"⟩ ∈ gw := gw_t (tb_8 (List.mem_of_getElem? (i := 210) rfl)) rfl
theorem gw_1957 : Cond.code ⟨"HedgeCommitteeModel", "bestWorth", "()I"⟩ prog_12_method_64_code 1 (some .int) ∈ gw := gw_t (tb_8 (List.mem_of_getElem? (i := 211) rfl)) rfl
theorem gw_1958 : Cond.methodLink "HedgeCommitteeModel" 196 ⟨"HedgeCommitteeModel", "measures", "()V"⟩ ∈ gw := gw_t (tb_8 (List.mem_of_getElem? (i := 212) rfl)) rfl
theorem gw_1960 : Cond.instanceMethod ⟨"HedgeCommitteeModel", "measures", "()V"⟩ ∈ gw := gw_t (tb_8 (List.mem_of_getElem? (i := 214) rfl)) rfl
theorem gw_1961 : Cond.code ⟨"HedgeCommitteeModel", "measures", "()V"⟩ prog_12_method_63_code 5 none ∈ gw := gw_t (tb_8 (List.mem_of_getElem? (i := 215) rfl)) rfl
theorem gw_1962 : Cond.methodLink "HedgeCommitteeLaw" 242 ⟨"HedgeCommitteeModel", "bestWorthBySets", "()I"⟩ ∈ gw := gw_t (tb_8 (List.mem_of_getElem? (i := 216) rfl)) rfl
theorem gw_1963 : Cond.instanceMethod ⟨"HedgeCommitteeModel", "bestWorthBySets", "()I"⟩ ∈ gw := gw_t (tb_8 (List.mem_of_getElem? (i := 217) rfl)) rfl
theorem gw_1964 : Cond.selects "HedgeCommitteeModel" ⟨"HedgeCommitteeModel", "bestWorthBySets", "()I"⟩ ⟨"HedgeCommitteeModel", "bestWorthBySets", "()I"⟩ ∈ gw := gw_t (tb_8 (List.mem_of_getElem? (i := 218) rfl)) rfl
theorem gw_1965 : Cond.code ⟨"HedgeCommitteeModel", "bestWorthBySets", "()I"⟩ prog_12_method_65_code 1 (some .int) ∈ gw := gw_t (tb_8 (List.mem_of_getElem? (i := 219) rfl)) rfl
theorem gw_1966 : Cond.methodLink "HedgeCommitteeModel" 199 ⟨"HedgeCommitteeModel", "bestWorth", "()I"⟩ ∈ gw := gw_t (tb_8 (List.mem_of_getElem? (i := 220) rfl)) rfl
theorem gw_1967 : Cond.methodLink "HedgeCommitteeLaw" 246 ⟨"HedgeCommitteeModel", "goodSets", "()I"⟩ ∈ gw := gw_t (tb_8 (List.mem_of_getElem? (i := 221) rfl)) rfl
theorem gw_1968 : Cond.instanceMethod ⟨"HedgeCommitteeModel", "goodSets", "()I"⟩ ∈ gw := gw_t (tb_8 (List.mem_of_getElem? (i := 222) rfl)) rfl
theorem gw_1969 : Cond.selects "HedgeCommitteeModel" ⟨"HedgeCommitteeModel", "goodSets", "()I"⟩ ⟨"HedgeCommitteeModel", "goodSets", "()I"⟩ ∈ gw := gw_t (tb_8 (List.mem_of_getElem? (i := 223) rfl)) rfl
theorem gw_1970 : Cond.code ⟨"HedgeCommitteeModel", "goodSets", "()I"⟩ prog_12_method_66_code 1 (some .int) ∈ gw := gw_t (tb_8 (List.mem_of_getElem? (i := 224) rfl)) rfl
theorem gw_1971 : Cond.methodLink "HedgeCommitteeLaw" 250 ⟨"HedgeCommitteeModel", "season", "()I"⟩ ∈ gw := gw_t (tb_8 (List.mem_of_getElem? (i := 225) rfl)) rfl
theorem gw_1972 : Cond.instanceMethod ⟨"HedgeCommitteeModel", "season", "()I"⟩ ∈ gw := gw_t (tb_8 (List.mem_of_getElem? (i := 226) rfl)) rfl
theorem gw_1973 : Cond.selects "HedgeCommitteeModel" ⟨"HedgeCommitteeModel", "season", "()I"⟩ ⟨"HedgeCommitteeModel", "season", "()I"⟩ ∈ gw := gw_t (tb_8 (List.mem_of_getElem? (i := 227) rfl)) rfl
theorem gw_1974 : Cond.code ⟨"HedgeCommitteeModel", "season", "()I"⟩ prog_12_method_67_code 1 (some .int) ∈ gw := gw_t (tb_8 (List.mem_of_getElem? (i := 228) rfl)) rfl
theorem gw_1975 : Cond.methodLink "HedgeCommitteeLaw" 253 ⟨"HedgeCommitteeModel", "minutesIn", "(I)I"⟩ ∈ gw := gw_t (tb_8 (List.mem_of_getElem? (i := 229) rfl)) rfl
theorem gw_1976 : Cond.instanceMethod ⟨"HedgeCommitteeModel", "minutesIn", "(I)I"⟩ ∈ gw := gw_t (tb_8 (List.mem_of_getElem? (i := 230) rfl)) rfl
theorem gw_1977 : Cond.selects "HedgeCommitteeModel" ⟨"HedgeCommitteeModel", "minutesIn", "(I)I"⟩ ⟨"HedgeCommitteeModel", "minutesIn", "(I)I"⟩ ∈ gw := gw_t (tb_8 (List.mem_of_getElem? (i := 231) rfl)) rfl
theorem gw_1978 : Cond.code ⟨"HedgeCommitteeModel", "minutesIn", "(I)I"⟩ prog_12_method_68_code 2 (some .int) ∈ gw := gw_t (tb_8 (List.mem_of_getElem? (i := 232) rfl)) rfl
theorem gw_1979 : Cond.constantLong "HedgeCommitteeModel" 202 (3 : Int64) ∈ gw := gw_t (tb_8 (List.mem_of_getElem? (i := 233) rfl)) (by decide +kernel)
theorem gw_1980 : Cond.methodLink "HedgeCommitteeLaw" 257 ⟨"HedgeCommitteeModel", "adoptedWeight", "()I"⟩ ∈ gw := gw_t (tb_8 (List.mem_of_getElem? (i := 234) rfl)) rfl
theorem gw_1981 : Cond.instanceMethod ⟨"HedgeCommitteeModel", "adoptedWeight", "()I"⟩ ∈ gw := gw_t (tb_8 (List.mem_of_getElem? (i := 235) rfl)) rfl
theorem gw_1982 : Cond.selects "HedgeCommitteeModel" ⟨"HedgeCommitteeModel", "adoptedWeight", "()I"⟩ ⟨"HedgeCommitteeModel", "adoptedWeight", "()I"⟩ ∈ gw := gw_t (tb_8 (List.mem_of_getElem? (i := 236) rfl)) rfl
theorem gw_1983 : Cond.code ⟨"HedgeCommitteeModel", "adoptedWeight", "()I"⟩ prog_12_method_69_code 1 (some .int) ∈ gw := gw_t (tb_8 (List.mem_of_getElem? (i := 237) rfl)) rfl
theorem gw_1984 : Cond.methodLink "HedgeCommitteeLaw" 261 ⟨"HedgeCommitteeModel", "weightTotal", "()I"⟩ ∈ gw := gw_t (tb_8 (List.mem_of_getElem? (i := 238) rfl)) rfl
theorem gw_1985 : Cond.instanceMethod ⟨"HedgeCommitteeModel", "weightTotal", "()I"⟩ ∈ gw := gw_t (tb_8 (List.mem_of_getElem? (i := 239) rfl)) rfl
theorem gw_1986 : Cond.selects "HedgeCommitteeModel" ⟨"HedgeCommitteeModel", "weightTotal", "()I"⟩ ⟨"HedgeCommitteeModel", "weightTotal", "()I"⟩ ∈ gw := gw_t (tb_9 (List.mem_of_getElem? (i := 0) rfl)) rfl
theorem gw_1987 : Cond.code ⟨"HedgeCommitteeModel", "weightTotal", "()I"⟩ prog_12_method_70_code 3 (some .int) ∈ gw := gw_t (tb_9 (List.mem_of_getElem? (i := 1) rfl)) rfl
theorem gw_1988 : Cond.methodLink "HedgeCommitteeLaw" 265 ⟨"HedgeCommitteeModel", "weightByAccounts", "()I"⟩ ∈ gw := gw_t (tb_9 (List.mem_of_getElem? (i := 2) rfl)) rfl
theorem gw_1989 : Cond.instanceMethod ⟨"HedgeCommitteeModel", "weightByAccounts", "()I"⟩ ∈ gw := gw_t (tb_9 (List.mem_of_getElem? (i := 3) rfl)) rfl
theorem gw_1990 : Cond.selects "HedgeCommitteeModel" ⟨"HedgeCommitteeModel", "weightByAccounts", "()I"⟩ ⟨"HedgeCommitteeModel", "weightByAccounts", "()I"⟩ ∈ gw := gw_t (tb_9 (List.mem_of_getElem? (i := 4) rfl)) rfl
theorem gw_1991 : Cond.code ⟨"HedgeCommitteeModel", "weightByAccounts", "()I"⟩ prog_12_method_71_code 1 (some .int) ∈ gw := gw_t (tb_9 (List.mem_of_getElem? (i := 5) rfl)) rfl
theorem gw_1992 : Cond.methodLink "HedgeCommitteeModel" 204 ⟨"HedgeCommitteeModel", "weightTotal", "()I"⟩ ∈ gw := gw_t (tb_9 (List.mem_of_getElem? (i := 6) rfl)) rfl
theorem gw_1993 : Cond.methodLink "HedgeCommitteeLaw" 269 ⟨"HedgeCommitteeModel", "meanLeaves", "()D"⟩ ∈ gw := gw_t (tb_9 (List.mem_of_getElem? (i := 7) rfl)) rfl
theorem gw_1994 : Cond.instanceMethod ⟨"HedgeCommitteeModel", "meanLeaves", "()D"⟩ ∈ gw := gw_t (tb_9 (List.mem_of_getElem? (i := 8) rfl)) rfl
theorem gw_1995 : Cond.selects "HedgeCommitteeModel" ⟨"HedgeCommitteeModel", "meanLeaves", "()D"⟩ ⟨"HedgeCommitteeModel", "meanLeaves", "()D"⟩ ∈ gw := gw_t (tb_9 (List.mem_of_getElem? (i := 9) rfl)) rfl
theorem gw_1996 : Cond.code ⟨"HedgeCommitteeModel", "meanLeaves", "()D"⟩ prog_12_method_72_code 1 (some .double) ∈ gw := gw_t (tb_9 (List.mem_of_getElem? (i := 10) rfl)) rfl
theorem gw_1997 : Cond.methodLink "HedgeCommitteeLaw" 272 ⟨"HedgeCommitteeModel", "carriedShare", "()F"⟩ ∈ gw := gw_t (tb_9 (List.mem_of_getElem? (i := 11) rfl)) rfl
theorem gw_1998 : Cond.instanceMethod ⟨"HedgeCommitteeModel", "carriedShare", "()F"⟩ ∈ gw := gw_t (tb_9 (List.mem_of_getElem? (i := 12) rfl)) rfl
theorem gw_1999 : Cond.selects "HedgeCommitteeModel" ⟨"HedgeCommitteeModel", "carriedShare", "()F"⟩ ⟨"HedgeCommitteeModel", "carriedShare", "()F"⟩ ∈ gw := gw_t (tb_9 (List.mem_of_getElem? (i := 13) rfl)) rfl
theorem gw_2000 : Cond.code ⟨"HedgeCommitteeModel", "carriedShare", "()F"⟩ prog_12_method_73_code 1 (some .float) ∈ gw := gw_t (tb_9 (List.mem_of_getElem? (i := 14) rfl)) rfl
theorem gw_2001 : Cond.methodLink "HedgeCommitteeLaw" 277 ⟨"HedgeCommitteeModel", "isConsistent", "()Z"⟩ ∈ gw := gw_t (tb_9 (List.mem_of_getElem? (i := 15) rfl)) rfl
theorem gw_2002 : Cond.instanceMethod ⟨"HedgeCommitteeModel", "isConsistent", "()Z"⟩ ∈ gw := gw_t (tb_9 (List.mem_of_getElem? (i := 16) rfl)) rfl
theorem gw_2003 : Cond.selects "HedgeCommitteeModel" ⟨"HedgeCommitteeModel", "isConsistent", "()Z"⟩ ⟨"HedgeCommitteeModel", "isConsistent", "()Z"⟩ ∈ gw := gw_t (tb_9 (List.mem_of_getElem? (i := 17) rfl)) rfl
theorem gw_2004 : Cond.code ⟨"HedgeCommitteeModel", "isConsistent", "()Z"⟩ prog_12_method_74_code 1 (some .boolean) ∈ gw := gw_t (tb_9 (List.mem_of_getElem? (i := 18) rfl)) rfl
theorem gw_2005 : Cond.methodLink "HedgeCommitteeLaw" 281 ⟨"HedgeCommitteeModel", "append", "(C)I"⟩ ∈ gw := gw_t (tb_9 (List.mem_of_getElem? (i := 19) rfl)) rfl
theorem gw_2006 : Cond.instanceMethod ⟨"HedgeCommitteeModel", "append", "(C)I"⟩ ∈ gw := gw_t (tb_9 (List.mem_of_getElem? (i := 20) rfl)) rfl
theorem gw_2007 : Cond.selects "HedgeCommitteeModel" ⟨"HedgeCommitteeModel", "append", "(C)I"⟩ ⟨"HedgeCommitteeModel", "append", "(C)I"⟩ ∈ gw := gw_t (tb_9 (List.mem_of_getElem? (i := 21) rfl)) rfl
theorem gw_2008 : Cond.code ⟨"HedgeCommitteeModel", "append", "(C)I"⟩ prog_12_method_75_code 2 (some .int) ∈ gw := gw_t (tb_9 (List.mem_of_getElem? (i := 22) rfl)) rfl
theorem gw_2009 : Cond.methodLink "HedgeCommitteeLaw" 285 ⟨"HedgeCommitteeModel", "run", "()I"⟩ ∈ gw := gw_t (tb_9 (List.mem_of_getElem? (i := 23) rfl)) rfl
theorem gw_2010 : Cond.instanceMethod ⟨"HedgeCommitteeModel", "run", "()I"⟩ ∈ gw := gw_t (tb_9 (List.mem_of_getElem? (i := 24) rfl)) rfl
theorem gw_2011 : Cond.selects "HedgeCommitteeModel" ⟨"HedgeCommitteeModel", "run", "()I"⟩ ⟨"HedgeCommitteeModel", "run", "()I"⟩ ∈ gw := gw_t (tb_9 (List.mem_of_getElem? (i := 25) rfl)) rfl
theorem gw_2012 : Cond.code ⟨"HedgeCommitteeModel", "run", "()I"⟩ prog_12_method_86_code 4 (some .int) ∈ gw := gw_t (tb_9 (List.mem_of_getElem? (i := 26) rfl)) rfl
theorem gw_2013 : Cond.methodLink "HedgeCommitteeModel" 252 ⟨"HedgeCommitteeModel", "readCommand", "()V"⟩ ∈ gw := gw_t (tb_9 (List.mem_of_getElem? (i := 27) rfl)) rfl
theorem gw_2015 : Cond.instanceMethod ⟨"HedgeCommitteeModel", "readCommand", "()V"⟩ ∈ gw := gw_t (tb_9 (List.mem_of_getElem? (i := 29) rfl)) rfl
theorem gw_2016 : Cond.code ⟨"HedgeCommitteeModel", "readCommand", "()V"⟩ prog_12_method_84_code 4 none ∈ gw := gw_t (tb_9 (List.mem_of_getElem? (i := 30) rfl)) rfl
theorem gw_2017 : Cond.methodLink "HedgeCommitteeModel" 245 ⟨"HedgeCommitteeModel", "likeness", "(I)I"⟩ ∈ gw := gw_t (tb_9 (List.mem_of_getElem? (i := 31) rfl)) rfl
theorem gw_2019 : Cond.instanceMethod ⟨"HedgeCommitteeModel", "likeness", "(I)I"⟩ ∈ gw := gw_t (tb_9 (List.mem_of_getElem? (i := 33) rfl)) rfl
theorem gw_2020 : Cond.code ⟨"HedgeCommitteeModel", "likeness", "(I)I"⟩ prog_12_method_82_code 4 (some .int) ∈ gw := gw_t (tb_9 (List.mem_of_getElem? (i := 34) rfl)) rfl
theorem gw_2021 : Cond.methodLink "HedgeCommitteeModel" 248 ⟨"HedgeCommitteeModel", "readArguments", "(II)V"⟩ ∈ gw := gw_t (tb_9 (List.mem_of_getElem? (i := 35) rfl)) rfl
theorem gw_2023 : Cond.instanceMethod ⟨"HedgeCommitteeModel", "readArguments", "(II)V"⟩ ∈ gw := gw_t (tb_9 (List.mem_of_getElem? (i := 37) rfl)) rfl
theorem gw_2024 : Cond.code ⟨"HedgeCommitteeModel", "readArguments", "(II)V"⟩ prog_12_method_83_code 3 none ∈ gw := gw_t (tb_9 (List.mem_of_getElem? (i := 38) rfl)) rfl
theorem gw_2025 : Cond.methodLink "HedgeCommitteeModel" 227 ⟨"HedgeCommitteeModel", "digit", "()I"⟩ ∈ gw := gw_t (tb_9 (List.mem_of_getElem? (i := 39) rfl)) rfl
theorem gw_2027 : Cond.instanceMethod ⟨"HedgeCommitteeModel", "digit", "()I"⟩ ∈ gw := gw_t (tb_9 (List.mem_of_getElem? (i := 41) rfl)) rfl
theorem gw_2028 : Cond.code ⟨"HedgeCommitteeModel", "digit", "()I"⟩ prog_12_method_78_code 2 (some .int) ∈ gw := gw_t (tb_9 (List.mem_of_getElem? (i := 42) rfl)) rfl
theorem gw_2029 : Cond.methodLink "HedgeCommitteeModel" 220 ⟨"HedgeCommitteeModel", "here", "()I"⟩ ∈ gw := gw_t (tb_9 (List.mem_of_getElem? (i := 43) rfl)) rfl
theorem gw_2031 : Cond.instanceMethod ⟨"HedgeCommitteeModel", "here", "()I"⟩ ∈ gw := gw_t (tb_9 (List.mem_of_getElem? (i := 45) rfl)) rfl
theorem gw_2032 : Cond.code ⟨"HedgeCommitteeModel", "here", "()I"⟩ prog_12_method_76_code 1 (some .int) ∈ gw := gw_t (tb_9 (List.mem_of_getElem? (i := 46) rfl)) rfl
theorem gw_2033 : Cond.constantLong "HedgeCommitteeModel" 223 (48 : Int64) ∈ gw := gw_t (tb_9 (List.mem_of_getElem? (i := 47) rfl)) (by decide +kernel)
theorem gw_2034 : Cond.constantLong "HedgeCommitteeModel" 225 (57 : Int64) ∈ gw := gw_t (tb_9 (List.mem_of_getElem? (i := 48) rfl)) (by decide +kernel)
theorem gw_2035 : Cond.methodLink "HedgeCommitteeModel" 233 ⟨"HedgeCommitteeModel", "number", "()I"⟩ ∈ gw := gw_t (tb_9 (List.mem_of_getElem? (i := 49) rfl)) rfl
theorem gw_2037 : Cond.instanceMethod ⟨"HedgeCommitteeModel", "number", "()I"⟩ ∈ gw := gw_t (tb_9 (List.mem_of_getElem? (i := 51) rfl)) rfl
theorem gw_2038 : Cond.code ⟨"HedgeCommitteeModel", "number", "()I"⟩ prog_12_method_79_code 2 (some .int) ∈ gw := gw_t (tb_9 (List.mem_of_getElem? (i := 52) rfl)) rfl
theorem gw_2039 : Cond.methodLink "HedgeCommitteeModel" 236 ⟨"HedgeCommitteeModel", "digitBehind", "()I"⟩ ∈ gw := gw_t (tb_9 (List.mem_of_getElem? (i := 53) rfl)) rfl
theorem gw_2041 : Cond.instanceMethod ⟨"HedgeCommitteeModel", "digitBehind", "()I"⟩ ∈ gw := gw_t (tb_9 (List.mem_of_getElem? (i := 55) rfl)) rfl
theorem gw_2042 : Cond.code ⟨"HedgeCommitteeModel", "digitBehind", "()I"⟩ prog_12_method_80_code 1 (some .int) ∈ gw := gw_t (tb_9 (List.mem_of_getElem? (i := 56) rfl)) rfl
theorem gw_2043 : Cond.methodLink "HedgeCommitteeModel" 230 ⟨"HedgeCommitteeModel", "expects", "(I)V"⟩ ∈ gw := gw_t (tb_9 (List.mem_of_getElem? (i := 57) rfl)) rfl
theorem gw_2045 : Cond.instanceMethod ⟨"HedgeCommitteeModel", "expects", "(I)V"⟩ ∈ gw := gw_t (tb_9 (List.mem_of_getElem? (i := 59) rfl)) rfl
theorem gw_2046 : Cond.code ⟨"HedgeCommitteeModel", "expects", "(I)V"⟩ prog_12_method_77_code 2 none ∈ gw := gw_t (tb_9 (List.mem_of_getElem? (i := 60) rfl)) rfl
theorem gw_2047 : Cond.methodLink "HedgeCommitteeModel" 239 ⟨"HedgeCommitteeModel", "numberBehind", "()I"⟩ ∈ gw := gw_t (tb_9 (List.mem_of_getElem? (i := 61) rfl)) rfl
theorem gw_2049 : Cond.instanceMethod ⟨"HedgeCommitteeModel", "numberBehind", "()I"⟩ ∈ gw := gw_t (tb_9 (List.mem_of_getElem? (i := 63) rfl)) rfl
theorem gw_2050 : Cond.code ⟨"HedgeCommitteeModel", "numberBehind", "()I"⟩ prog_12_method_81_code 1 (some .int) ∈ gw := gw_t (tb_9 (List.mem_of_getElem? (i := 64) rfl)) rfl
theorem gw_2051 : Cond.methodLink "HedgeCommitteeModel" 255 ⟨"HedgeCommitteeModel", "does", "(I)V"⟩ ∈ gw := gw_t (tb_9 (List.mem_of_getElem? (i := 65) rfl)) rfl
theorem gw_2053 : Cond.instanceMethod ⟨"HedgeCommitteeModel", "does", "(I)V"⟩ ∈ gw := gw_t (tb_9 (List.mem_of_getElem? (i := 67) rfl)) rfl
theorem gw_2054 : Cond.code ⟨"HedgeCommitteeModel", "does", "(I)V"⟩ prog_12_method_85_code 5 none ∈ gw := gw_t (tb_9 (List.mem_of_getElem? (i := 68) rfl)) rfl
theorem gw_2055 : Cond.methodLink "HedgeCommitteeLaw" 288 ⟨"HedgeCommitteeModel", "errorPosition", "()I"⟩ ∈ gw := gw_t (tb_9 (List.mem_of_getElem? (i := 69) rfl)) rfl
theorem gw_2056 : Cond.instanceMethod ⟨"HedgeCommitteeModel", "errorPosition", "()I"⟩ ∈ gw := gw_t (tb_9 (List.mem_of_getElem? (i := 70) rfl)) rfl
theorem gw_2057 : Cond.selects "HedgeCommitteeModel" ⟨"HedgeCommitteeModel", "errorPosition", "()I"⟩ ⟨"HedgeCommitteeModel", "errorPosition", "()I"⟩ ∈ gw := gw_t (tb_9 (List.mem_of_getElem? (i := 71) rfl)) rfl
theorem gw_2058 : Cond.code ⟨"HedgeCommitteeModel", "errorPosition", "()I"⟩ prog_12_method_87_code 1 (some .int) ∈ gw := gw_t (tb_9 (List.mem_of_getElem? (i := 72) rfl)) rfl
theorem gw_2059 : Cond.methodLink "HedgeCommitteeLaw" 291 ⟨"HedgeCommitteeModel", "failedCommand", "()I"⟩ ∈ gw := gw_t (tb_9 (List.mem_of_getElem? (i := 73) rfl)) rfl
theorem gw_2060 : Cond.instanceMethod ⟨"HedgeCommitteeModel", "failedCommand", "()I"⟩ ∈ gw := gw_t (tb_9 (List.mem_of_getElem? (i := 74) rfl)) rfl
theorem gw_2061 : Cond.selects "HedgeCommitteeModel" ⟨"HedgeCommitteeModel", "failedCommand", "()I"⟩ ⟨"HedgeCommitteeModel", "failedCommand", "()I"⟩ ∈ gw := gw_t (tb_9 (List.mem_of_getElem? (i := 75) rfl)) rfl
theorem gw_2062 : Cond.code ⟨"HedgeCommitteeModel", "failedCommand", "()I"⟩ prog_12_method_88_code 1 (some .int) ∈ gw := gw_t (tb_9 (List.mem_of_getElem? (i := 76) rfl)) rfl
theorem gw_2063 : Cond.methodLink "HedgeCommitteeLaw" 294 ⟨"HedgeCommitteeModel", "writeBranch", "(I)I"⟩ ∈ gw := gw_t (tb_9 (List.mem_of_getElem? (i := 77) rfl)) rfl
theorem gw_2064 : Cond.instanceMethod ⟨"HedgeCommitteeModel", "writeBranch", "(I)I"⟩ ∈ gw := gw_t (tb_9 (List.mem_of_getElem? (i := 78) rfl)) rfl
theorem gw_2065 : Cond.selects "HedgeCommitteeModel" ⟨"HedgeCommitteeModel", "writeBranch", "(I)I"⟩ ⟨"HedgeCommitteeModel", "writeBranch", "(I)I"⟩ ∈ gw := gw_t (tb_9 (List.mem_of_getElem? (i := 79) rfl)) rfl
theorem gw_2066 : Cond.code ⟨"HedgeCommitteeModel", "writeBranch", "(I)I"⟩ prog_12_method_92_code 5 (some .int) ∈ gw := gw_t (tb_9 (List.mem_of_getElem? (i := 80) rfl)) rfl
theorem gw_2067 : Cond.methodLink "HedgeCommitteeModel" 264 ⟨"HedgeCommitteeModel", "writesWhole", "(I)V"⟩ ∈ gw := gw_t (tb_9 (List.mem_of_getElem? (i := 81) rfl)) rfl
theorem gw_2069 : Cond.instanceMethod ⟨"HedgeCommitteeModel", "writesWhole", "(I)V"⟩ ∈ gw := gw_t (tb_9 (List.mem_of_getElem? (i := 83) rfl)) rfl
theorem gw_2070 : Cond.code ⟨"HedgeCommitteeModel", "writesWhole", "(I)V"⟩ prog_12_method_90_code 3 none ∈ gw := gw_t (tb_9 (List.mem_of_getElem? (i := 84) rfl)) rfl
theorem gw_2071 : Cond.methodLink "HedgeCommitteeModel" 261 ⟨"HedgeCommitteeModel", "sign", "(I)V"⟩ ∈ gw := gw_t (tb_9 (List.mem_of_getElem? (i := 85) rfl)) rfl
theorem gw_2073 : Cond.instanceMethod ⟨"HedgeCommitteeModel", "sign", "(I)V"⟩ ∈ gw := gw_t (tb_9 (List.mem_of_getElem? (i := 87) rfl)) rfl
theorem gw_2074 : Cond.code ⟨"HedgeCommitteeModel", "sign", "(I)V"⟩ prog_12_method_89_code 2 none ∈ gw := gw_t (tb_9 (List.mem_of_getElem? (i := 88) rfl)) rfl
theorem gw_2075 : Cond.methodLink "HedgeCommitteeModel" 267 ⟨"HedgeCommitteeModel", "childFrom", "(II)I"⟩ ∈ gw := gw_t (tb_9 (List.mem_of_getElem? (i := 89) rfl)) rfl
theorem gw_2077 : Cond.instanceMethod ⟨"HedgeCommitteeModel", "childFrom", "(II)I"⟩ ∈ gw := gw_t (tb_9 (List.mem_of_getElem? (i := 91) rfl)) rfl
theorem gw_2078 : Cond.code ⟨"HedgeCommitteeModel", "childFrom", "(II)I"⟩ prog_12_method_91_code 5 (some .int) ∈ gw := gw_t (tb_9 (List.mem_of_getElem? (i := 92) rfl)) rfl
theorem gw_2079 : Cond.methodLink "HedgeCommitteeModel" 270 ⟨"HedgeCommitteeModel", "next", "(II)I"⟩ ∈ gw := gw_t (tb_9 (List.mem_of_getElem? (i := 93) rfl)) rfl
theorem gw_2081 : Cond.instanceMethod ⟨"HedgeCommitteeModel", "next", "(II)I"⟩ ∈ gw := gw_t (tb_9 (List.mem_of_getElem? (i := 95) rfl)) rfl
theorem gw_2082 : Cond.code ⟨"HedgeCommitteeModel", "next", "(II)I"⟩ prog_12_method_93_code 5 (some .int) ∈ gw := gw_t (tb_9 (List.mem_of_getElem? (i := 96) rfl)) rfl
theorem gw_2083 : Cond.methodLink "HedgeCommitteeLaw" 297 ⟨"HedgeCommitteeModel", "outputAt", "(I)C"⟩ ∈ gw := gw_t (tb_9 (List.mem_of_getElem? (i := 97) rfl)) rfl
theorem gw_2084 : Cond.instanceMethod ⟨"HedgeCommitteeModel", "outputAt", "(I)C"⟩ ∈ gw := gw_t (tb_9 (List.mem_of_getElem? (i := 98) rfl)) rfl
theorem gw_2085 : Cond.selects "HedgeCommitteeModel" ⟨"HedgeCommitteeModel", "outputAt", "(I)C"⟩ ⟨"HedgeCommitteeModel", "outputAt", "(I)C"⟩ ∈ gw := gw_t (tb_9 (List.mem_of_getElem? (i := 99) rfl)) rfl
theorem gw_2086 : Cond.code ⟨"HedgeCommitteeModel", "outputAt", "(I)C"⟩ prog_12_method_94_code 2 (some .char) ∈ gw := gw_t (tb_9 (List.mem_of_getElem? (i := 100) rfl)) rfl
theorem gw_2087 : Cond.methodLink "HedgeCommitteeLaw" 300 ⟨"HedgeCommitteeModel", "undo", "()I"⟩ ∈ gw := gw_t (tb_9 (List.mem_of_getElem? (i := 101) rfl)) rfl
theorem gw_2088 : Cond.instanceMethod ⟨"HedgeCommitteeModel", "undo", "()I"⟩ ∈ gw := gw_t (tb_9 (List.mem_of_getElem? (i := 102) rfl)) rfl
theorem gw_2089 : Cond.selects "HedgeCommitteeModel" ⟨"HedgeCommitteeModel", "undo", "()I"⟩ ⟨"HedgeCommitteeModel", "undo", "()I"⟩ ∈ gw := gw_t (tb_9 (List.mem_of_getElem? (i := 103) rfl)) rfl
theorem gw_2090 : Cond.code ⟨"HedgeCommitteeModel", "undo", "()I"⟩ prog_12_method_95_code 2 (some .int) ∈ gw := gw_t (tb_9 (List.mem_of_getElem? (i := 104) rfl)) rfl
theorem gw_2091 : Cond.methodLink "HedgeCommitteeLaw" 304 ⟨"HedgeCommitteeModel", "save", "()V"⟩ ∈ gw := gw_t (tb_9 (List.mem_of_getElem? (i := 105) rfl)) rfl
theorem gw_2092 : Cond.instanceMethod ⟨"HedgeCommitteeModel", "save", "()V"⟩ ∈ gw := gw_t (tb_9 (List.mem_of_getElem? (i := 106) rfl)) rfl
theorem gw_2093 : Cond.selects "HedgeCommitteeModel" ⟨"HedgeCommitteeModel", "save", "()V"⟩ ⟨"HedgeCommitteeModel", "save", "()V"⟩ ∈ gw := gw_t (tb_9 (List.mem_of_getElem? (i := 107) rfl)) rfl
theorem gw_2094 : Cond.code ⟨"HedgeCommitteeModel", "save", "()V"⟩ prog_12_method_96_code 2 none ∈ gw := gw_t (tb_9 (List.mem_of_getElem? (i := 108) rfl)) rfl
theorem gw_2095 : Cond.methodLink "HedgeCommitteeLaw" 308 ⟨"HedgeCommitteeModel", "restore", "()V"⟩ ∈ gw := gw_t (tb_9 (List.mem_of_getElem? (i := 109) rfl)) rfl
theorem gw_2096 : Cond.instanceMethod ⟨"HedgeCommitteeModel", "restore", "()V"⟩ ∈ gw := gw_t (tb_9 (List.mem_of_getElem? (i := 110) rfl)) rfl
theorem gw_2097 : Cond.selects "HedgeCommitteeModel" ⟨"HedgeCommitteeModel", "restore", "()V"⟩ ⟨"HedgeCommitteeModel", "restore", "()V"⟩ ∈ gw := gw_t (tb_9 (List.mem_of_getElem? (i := 111) rfl)) rfl
theorem gw_2098 : Cond.code ⟨"HedgeCommitteeModel", "restore", "()V"⟩ prog_12_method_97_code 2 none ∈ gw := gw_t (tb_9 (List.mem_of_getElem? (i := 112) rfl)) rfl
theorem gw_2099 : Cond.arrayClass .double ∈ gw := gw_t (tb_9 (List.mem_of_getElem? (i := 113) rfl)) (by decide +kernel)
theorem gw_2101 : Cond.sameMethod "java/lang/AbstractStringBuilder" "java/lang/AbstractStringBuilder" "setLength" "(I)V" ∈ gw := gw_t (tb_9 (List.mem_of_getElem? (i := 115) rfl)) rfl
theorem gw_2104 : Cond.sameMethod "java/lang/AbstractStringBuilder" "java/lang/AbstractStringBuilder" "ensureCapacityInternal" "(I)V" ∈ gw := gw_t (tb_9 (List.mem_of_getElem? (i := 118) rfl)) rfl
theorem gw_2105 : Cond.sameMethod "java/lang/AbstractStringBuilder" "java/lang/AbstractStringBuilder" "newCapacity" "(I)I" ∈ gw := gw_t (tb_9 (List.mem_of_getElem? (i := 119) rfl)) rfl
theorem gw_2109 : Cond.sameMethod "java/lang/AbstractStringBuilder" "java/lang/AbstractStringBuilder" "append" "(I)Ljava/lang/AbstractStringBuilder;" ∈ gw := gw_t (tb_9 (List.mem_of_getElem? (i := 123) rfl)) rfl
theorem gw_2110 : Cond.sameMethod "java/lang/AbstractStringBuilder" "java/lang/AbstractStringBuilder" "append" "(C)Ljava/lang/AbstractStringBuilder;" ∈ gw := gw_t (tb_9 (List.mem_of_getElem? (i := 124) rfl)) rfl
theorem gw_2111 : Cond.selects "java/lang/StringBuilder" ⟨"java/lang/StringBuilder", "length", "()I"⟩ ⟨"java/lang/StringBuilder", "length", "()I"⟩ ∈ gw := gw_t (tb_9 (List.mem_of_getElem? (i := 125) rfl)) rfl
theorem gw_2112 : Cond.sameMethod "java/lang/AbstractStringBuilder" "java/lang/AbstractStringBuilder" "charAt" "(I)C" ∈ gw := gw_t (tb_9 (List.mem_of_getElem? (i := 126) rfl)) rfl
theorem gw_2149 : Cond.fieldLink "java/lang/Enum" 7 "java/lang/Enum" "ordinal" "I" ∈ gw := gw_t (tb_9 (List.mem_of_getElem? (i := 163) rfl)) rfl
