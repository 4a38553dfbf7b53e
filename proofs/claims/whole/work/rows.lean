section
theorem tb_1 {w : Cond} (h : w ∈ tables_1_1) : w ∈ tables_1 := by unfold tables_1; exact List.mem_append_left _ h
theorem tb_2 {w : Cond} (h : w ∈ tables_1_2) : w ∈ tables_1 := by unfold tables_1; exact List.mem_append_right _ (List.mem_append_left _ h)
theorem tb_3 {w : Cond} (h : w ∈ tables_1_3) : w ∈ tables_1 := by unfold tables_1; exact List.mem_append_right _ (List.mem_append_right _ (List.mem_append_left _ h))
theorem tb_4 {w : Cond} (h : w ∈ tables_1_4) : w ∈ tables_1 := by unfold tables_1; exact List.mem_append_right _ (List.mem_append_right _ (List.mem_append_right _ (List.mem_append_left _ h)))
theorem tb_5 {w : Cond} (h : w ∈ tables_1_5) : w ∈ tables_1 := by unfold tables_1; exact List.mem_append_right _ (List.mem_append_right _ (List.mem_append_right _ (List.mem_append_right _ (List.mem_append_left _ h))))
theorem tb_6 {w : Cond} (h : w ∈ tables_1_6) : w ∈ tables_1 := by unfold tables_1; exact List.mem_append_right _ (List.mem_append_right _ (List.mem_append_right _ (List.mem_append_right _ (List.mem_append_right _ (List.mem_append_left _ h)))))
theorem tb_7 {w : Cond} (h : w ∈ tables_1_7) : w ∈ tables_1 := by unfold tables_1; exact List.mem_append_right _ (List.mem_append_right _ (List.mem_append_right _ (List.mem_append_right _ (List.mem_append_right _ (List.mem_append_right _ (List.mem_append_left _ h))))))
theorem tb_8 {w : Cond} (h : w ∈ tables_1_8) : w ∈ tables_1 := by unfold tables_1; exact List.mem_append_right _ (List.mem_append_right _ (List.mem_append_right _ (List.mem_append_right _ (List.mem_append_right _ (List.mem_append_right _ (List.mem_append_right _ (List.mem_append_left _ h)))))))
theorem tb_9 {w : Cond} (h : w ∈ tables_1_9) : w ∈ tables_1 := by unfold tables_1; exact List.mem_append_right _ (List.mem_append_right _ (List.mem_append_right _ (List.mem_append_right _ (List.mem_append_right _ (List.mem_append_right _ (List.mem_append_right _ (List.mem_append_right _ (h))))))))
/-- a private method of a class that the tables say can be made, by its rows of tables_1 -/
def lw_okq (q : MethodName × Nat) : Prop := (q.1.cls ≠ "java/lang/invoke/MethodHandle" ∧ q.1.cls ≠ "java/lang/invoke/VarHandle") ∧ Cond.instantiable q.1.cls q.2 ∈ tables_1 ∧ Cond.privateMethod q.1 ∈ tables_1 ∧ Cond.instanceMethod q.1 ∈ tables_1
theorem lw_i0 : Cond.instantiable "HedgeCommittee$History" 2 ∈ tables_1 := tb_1 (List.mem_of_getElem? (i := 155) rfl)
theorem lw_i1 : Cond.instantiable "HedgeCommittee$Trees" 6 ∈ tables_1 := tb_1 (List.mem_of_getElem? (i := 172) rfl)
theorem lw_i2 : Cond.instantiable "java/lang/Throwable" 6 ∈ tables_1 := tb_3 (List.mem_of_getElem? (i := 47) rfl)
theorem lw_i3 : Cond.instantiable "HedgeCommittee$State" 11 ∈ tables_1 := tb_1 (List.mem_of_getElem? (i := 47) rfl)
theorem lw_i4 : Cond.instantiable "HedgeCommittee" 9 ∈ tables_1 := tb_1 (List.mem_of_getElem? (i := 39) rfl)
theorem lw_i5 : Cond.instantiable "HedgeCommittee$Hedges" 4 ∈ tables_1 := tb_1 (List.mem_of_getElem? (i := 53) rfl)
theorem lw_i6 : Cond.instantiable "HedgeCommittee$Motions" 6 ∈ tables_1 := tb_1 (List.mem_of_getElem? (i := 77) rfl)
theorem lw_i7 : Cond.instantiable "HedgeCommittee$Program" 5 ∈ tables_1 := tb_1 (List.mem_of_getElem? (i := 197) rfl)
theorem lw_i8 : Cond.instantiable "java/util/ArrayList" 3 ∈ tables_1 := tb_1 (List.mem_of_getElem? (i := 203) rfl)
theorem lw_i9 : Cond.instantiable "HedgeCommitteeModel" 26 ∈ tables_1 := tb_7 (List.mem_of_getElem? (i := 102) rfl)
theorem lw_p0 : lw_okq (⟨"HedgeCommittee$History", "forgetOldest", "()V"⟩, 2) := ⟨⟨by decide +kernel, by decide +kernel⟩, lw_i0, tb_2 (List.mem_of_getElem? (i := 113) rfl), tb_2 (List.mem_of_getElem? (i := 114) rfl)⟩
theorem lw_p1 : lw_okq (⟨"HedgeCommittee$Trees", "farthestFrom", "(LHedgeCommittee$Motions;II)I"⟩, 6) := ⟨⟨by decide +kernel, by decide +kernel⟩, lw_i1, tb_2 (List.mem_of_getElem? (i := 200) rfl), tb_2 (List.mem_of_getElem? (i := 201) rfl)⟩
theorem lw_p2 : lw_okq (⟨"java/lang/Throwable", "fillInStackTrace", "(I)Ljava/lang/Throwable;"⟩, 6) := ⟨⟨by decide +kernel, by decide +kernel⟩, lw_i2, tb_3 (List.mem_of_getElem? (i := 45) rfl), tb_3 (List.mem_of_getElem? (i := 46) rfl)⟩
theorem lw_p3 : lw_okq (⟨"HedgeCommittee$State", "requireRoom", "()V"⟩, 11) := ⟨⟨by decide +kernel, by decide +kernel⟩, lw_i3, tb_3 (List.mem_of_getElem? (i := 115) rfl), tb_3 (List.mem_of_getElem? (i := 116) rfl)⟩
theorem lw_p4 : lw_okq (⟨"HedgeCommittee$State", "begin", "(III)I"⟩, 11) := ⟨⟨by decide +kernel, by decide +kernel⟩, lw_i3, tb_3 (List.mem_of_getElem? (i := 124) rfl), tb_3 (List.mem_of_getElem? (i := 125) rfl)⟩
theorem lw_p5 : lw_okq (⟨"HedgeCommittee$State", "bookOutcome", "(CII)V"⟩, 11) := ⟨⟨by decide +kernel, by decide +kernel⟩, lw_i3, tb_3 (List.mem_of_getElem? (i := 237) rfl), tb_3 (List.mem_of_getElem? (i := 238) rfl)⟩
theorem lw_p6 : lw_okq (⟨"HedgeCommittee", "requireHedge", "(I)V"⟩, 9) := ⟨⟨by decide +kernel, by decide +kernel⟩, lw_i4, tb_4 (List.mem_of_getElem? (i := 32) rfl), tb_4 (List.mem_of_getElem? (i := 33) rfl)⟩
theorem lw_p7 : lw_okq (⟨"HedgeCommittee$Hedges", "rankOf", "(I)I"⟩, 4) := ⟨⟨by decide +kernel, by decide +kernel⟩, lw_i5, tb_4 (List.mem_of_getElem? (i := 74) rfl), tb_4 (List.mem_of_getElem? (i := 75) rfl)⟩
theorem lw_p8 : lw_okq (⟨"HedgeCommittee", "requirePosition", "(I)V"⟩, 9) := ⟨⟨by decide +kernel, by decide +kernel⟩, lw_i4, tb_4 (List.mem_of_getElem? (i := 106) rfl), tb_4 (List.mem_of_getElem? (i := 107) rfl)⟩
theorem lw_p9 : lw_okq (⟨"HedgeCommittee$Motions", "rankOf", "(I)I"⟩, 6) := ⟨⟨by decide +kernel, by decide +kernel⟩, lw_i6, tb_4 (List.mem_of_getElem? (i := 179) rfl), tb_4 (List.mem_of_getElem? (i := 180) rfl)⟩
theorem lw_p10 : lw_okq (⟨"HedgeCommittee", "idOfCommon", "(I)I"⟩, 9) := ⟨⟨by decide +kernel, by decide +kernel⟩, lw_i4, tb_4 (List.mem_of_getElem? (i := 197) rfl), tb_4 (List.mem_of_getElem? (i := 198) rfl)⟩
theorem lw_p11 : lw_okq (⟨"HedgeCommittee$Program", "readCommand", "()Z"⟩, 5) := ⟨⟨by decide +kernel, by decide +kernel⟩, lw_i7, tb_5 (List.mem_of_getElem? (i := 85) rfl), tb_5 (List.mem_of_getElem? (i := 86) rfl)⟩
theorem lw_p12 : lw_okq (⟨"HedgeCommittee$Program", "kindAhead", "()LHedgeCommittee$Kind;"⟩, 5) := ⟨⟨by decide +kernel, by decide +kernel⟩, lw_i7, tb_5 (List.mem_of_getElem? (i := 89) rfl), tb_5 (List.mem_of_getElem? (i := 90) rfl)⟩
theorem lw_p13 : lw_okq (⟨"HedgeCommittee$Program", "digitAhead", "()Z"⟩, 5) := ⟨⟨by decide +kernel, by decide +kernel⟩, lw_i7, tb_5 (List.mem_of_getElem? (i := 143) rfl), tb_5 (List.mem_of_getElem? (i := 144) rfl)⟩
theorem lw_p14 : lw_okq (⟨"HedgeCommittee$Program", "readDigits", "(Z)I"⟩, 5) := ⟨⟨by decide +kernel, by decide +kernel⟩, lw_i7, tb_5 (List.mem_of_getElem? (i := 147) rfl), tb_5 (List.mem_of_getElem? (i := 148) rfl)⟩
theorem lw_p15 : lw_okq (⟨"HedgeCommittee$Program", "readSign", "(C)Z"⟩, 5) := ⟨⟨by decide +kernel, by decide +kernel⟩, lw_i7, tb_5 (List.mem_of_getElem? (i := 151) rfl), tb_5 (List.mem_of_getElem? (i := 152) rfl)⟩
theorem lw_p16 : lw_okq (⟨"java/util/ArrayList", "add", "(Ljava/lang/Object;[Ljava/lang/Object;I)V"⟩, 3) := ⟨⟨by decide +kernel, by decide +kernel⟩, lw_i8, tb_5 (List.mem_of_getElem? (i := 182) rfl), tb_5 (List.mem_of_getElem? (i := 183) rfl)⟩
theorem lw_p17 : lw_okq (⟨"java/util/ArrayList", "grow", "()[Ljava/lang/Object;"⟩, 3) := ⟨⟨by decide +kernel, by decide +kernel⟩, lw_i8, tb_5 (List.mem_of_getElem? (i := 186) rfl), tb_5 (List.mem_of_getElem? (i := 187) rfl)⟩
theorem lw_p18 : lw_okq (⟨"java/util/ArrayList", "grow", "(I)[Ljava/lang/Object;"⟩, 3) := ⟨⟨by decide +kernel, by decide +kernel⟩, lw_i8, tb_5 (List.mem_of_getElem? (i := 190) rfl), tb_5 (List.mem_of_getElem? (i := 191) rfl)⟩
theorem lw_p19 : lw_okq (⟨"HedgeCommittee", "firstFailure", "()I"⟩, 9) := ⟨⟨by decide +kernel, by decide +kernel⟩, lw_i4, tb_6 (List.mem_of_getElem? (i := 5) rfl), tb_6 (List.mem_of_getElem? (i := 6) rfl)⟩
theorem lw_p20 : lw_okq (⟨"HedgeCommittee", "succeeds", "(LHedgeCommittee$Command;)Z"⟩, 9) := ⟨⟨by decide +kernel, by decide +kernel⟩, lw_i4, tb_6 (List.mem_of_getElem? (i := 26) rfl), tb_6 (List.mem_of_getElem? (i := 27) rfl)⟩
theorem lw_p21 : lw_okq (⟨"HedgeCommitteeModel", "starts", "()V"⟩, 26) := ⟨⟨by decide +kernel, by decide +kernel⟩, lw_i9, tb_7 (List.mem_of_getElem? (i := 195) rfl), tb_7 (List.mem_of_getElem? (i := 196) rfl)⟩
theorem lw_p22 : lw_okq (⟨"HedgeCommitteeModel", "hedgeIt", "(III)I"⟩, 26) := ⟨⟨by decide +kernel, by decide +kernel⟩, lw_i9, tb_7 (List.mem_of_getElem? (i := 199) rfl), tb_7 (List.mem_of_getElem? (i := 200) rfl)⟩
theorem lw_p23 : lw_okq (⟨"HedgeCommitteeModel", "throwing", "(I)I"⟩, 26) := ⟨⟨by decide +kernel, by decide +kernel⟩, lw_i9, tb_7 (List.mem_of_getElem? (i := 208) rfl), tb_7 (List.mem_of_getElem? (i := 209) rfl)⟩
theorem lw_p24 : lw_okq (⟨"HedgeCommitteeModel", "changed", "(I)I"⟩, 26) := ⟨⟨by decide +kernel, by decide +kernel⟩, lw_i9, tb_7 (List.mem_of_getElem? (i := 215) rfl), tb_7 (List.mem_of_getElem? (i := 216) rfl)⟩
theorem lw_p25 : lw_okq (⟨"HedgeCommitteeModel", "mainIt", "(II)I"⟩, 26) := ⟨⟨by decide +kernel, by decide +kernel⟩, lw_i9, tb_7 (List.mem_of_getElem? (i := 223) rfl), tb_7 (List.mem_of_getElem? (i := 224) rfl)⟩
theorem lw_p26 : lw_okq (⟨"HedgeCommitteeModel", "adds", "(III)I"⟩, 26) := ⟨⟨by decide +kernel, by decide +kernel⟩, lw_i9, tb_7 (List.mem_of_getElem? (i := 228) rfl), tb_7 (List.mem_of_getElem? (i := 229) rfl)⟩
theorem lw_p27 : lw_okq (⟨"HedgeCommitteeModel", "amendIt", "(III)I"⟩, 26) := ⟨⟨by decide +kernel, by decide +kernel⟩, lw_i9, tb_7 (List.mem_of_getElem? (i := 236) rfl), tb_7 (List.mem_of_getElem? (i := 237) rfl)⟩
theorem lw_p28 : lw_okq (⟨"HedgeCommitteeModel", "find", "(I)I"⟩, 26) := ⟨⟨by decide +kernel, by decide +kernel⟩, lw_i9, tb_8 (List.mem_of_getElem? (i := 0) rfl), tb_8 (List.mem_of_getElem? (i := 1) rfl)⟩
theorem lw_p29 : lw_okq (⟨"HedgeCommitteeModel", "of", "(II)I"⟩, 26) := ⟨⟨by decide +kernel, by decide +kernel⟩, lw_i9, tb_8 (List.mem_of_getElem? (i := 4) rfl), tb_8 (List.mem_of_getElem? (i := 5) rfl)⟩
theorem lw_p30 : lw_okq (⟨"HedgeCommitteeModel", "pruneIt", "(II)I"⟩, 26) := ⟨⟨by decide +kernel, by decide +kernel⟩, lw_i9, tb_8 (List.mem_of_getElem? (i := 12) rfl), tb_8 (List.mem_of_getElem? (i := 13) rfl)⟩
theorem lw_p31 : lw_okq (⟨"HedgeCommitteeModel", "deep", "(I)I"⟩, 26) := ⟨⟨by decide +kernel, by decide +kernel⟩, lw_i9, tb_8 (List.mem_of_getElem? (i := 16) rfl), tb_8 (List.mem_of_getElem? (i := 17) rfl)⟩
theorem lw_p32 : lw_okq (⟨"HedgeCommitteeModel", "above", "(I)I"⟩, 26) := ⟨⟨by decide +kernel, by decide +kernel⟩, lw_i9, tb_8 (List.mem_of_getElem? (i := 20) rfl), tb_8 (List.mem_of_getElem? (i := 21) rfl)⟩
theorem lw_p33 : lw_okq (⟨"HedgeCommitteeModel", "isIn", "(II)Z"⟩, 26) := ⟨⟨by decide +kernel, by decide +kernel⟩, lw_i9, tb_8 (List.mem_of_getElem? (i := 24) rfl), tb_8 (List.mem_of_getElem? (i := 25) rfl)⟩
theorem lw_p34 : lw_okq (⟨"HedgeCommitteeModel", "drops", "(I)V"⟩, 26) := ⟨⟨by decide +kernel, by decide +kernel⟩, lw_i9, tb_8 (List.mem_of_getElem? (i := 28) rfl), tb_8 (List.mem_of_getElem? (i := 29) rfl)⟩
theorem lw_p35 : lw_okq (⟨"HedgeCommitteeModel", "regrowIt", "(I)I"⟩, 26) := ⟨⟨by decide +kernel, by decide +kernel⟩, lw_i9, tb_8 (List.mem_of_getElem? (i := 36) rfl), tb_8 (List.mem_of_getElem? (i := 37) rfl)⟩
theorem lw_p36 : lw_okq (⟨"HedgeCommitteeModel", "lastTipAt", "(I)I"⟩, 26) := ⟨⟨by decide +kernel, by decide +kernel⟩, lw_i9, tb_8 (List.mem_of_getElem? (i := 40) rfl), tb_8 (List.mem_of_getElem? (i := 41) rfl)⟩
theorem lw_p37 : lw_okq (⟨"HedgeCommitteeModel", "isTipAt", "(I)Z"⟩, 26) := ⟨⟨by decide +kernel, by decide +kernel⟩, lw_i9, tb_8 (List.mem_of_getElem? (i := 44) rfl), tb_8 (List.mem_of_getElem? (i := 45) rfl)⟩
theorem lw_p38 : lw_okq (⟨"HedgeCommitteeModel", "voteIt", "(I)I"⟩, 26) := ⟨⟨by decide +kernel, by decide +kernel⟩, lw_i9, tb_8 (List.mem_of_getElem? (i := 53) rfl), tb_8 (List.mem_of_getElem? (i := 54) rfl)⟩
theorem lw_p39 : lw_okq (⟨"HedgeCommitteeModel", "vetoes", "(II)Z"⟩, 26) := ⟨⟨by decide +kernel, by decide +kernel⟩, lw_i9, tb_8 (List.mem_of_getElem? (i := 57) rfl), tb_8 (List.mem_of_getElem? (i := 58) rfl)⟩
theorem lw_p40 : lw_okq (⟨"HedgeCommitteeModel", "far", "(II)I"⟩, 26) := ⟨⟨by decide +kernel, by decide +kernel⟩, lw_i9, tb_8 (List.mem_of_getElem? (i := 61) rfl), tb_8 (List.mem_of_getElem? (i := 62) rfl)⟩
theorem lw_p41 : lw_okq (⟨"HedgeCommitteeModel", "favour", "(I)I"⟩, 26) := ⟨⟨by decide +kernel, by decide +kernel⟩, lw_i9, tb_8 (List.mem_of_getElem? (i := 68) rfl), tb_8 (List.mem_of_getElem? (i := 69) rfl)⟩
theorem lw_p42 : lw_okq (⟨"HedgeCommitteeModel", "leavesAll", "()I"⟩, 26) := ⟨⟨by decide +kernel, by decide +kernel⟩, lw_i9, tb_8 (List.mem_of_getElem? (i := 72) rfl), tb_8 (List.mem_of_getElem? (i := 73) rfl)⟩
theorem lw_p43 : lw_okq (⟨"HedgeCommitteeModel", "carries", "(I)V"⟩, 26) := ⟨⟨by decide +kernel, by decide +kernel⟩, lw_i9, tb_8 (List.mem_of_getElem? (i := 76) rfl), tb_8 (List.mem_of_getElem? (i := 77) rfl)⟩
theorem lw_p44 : lw_okq (⟨"HedgeCommitteeModel", "seasonIt", "()I"⟩, 26) := ⟨⟨by decide +kernel, by decide +kernel⟩, lw_i9, tb_8 (List.mem_of_getElem? (i := 84) rfl), tb_8 (List.mem_of_getElem? (i := 85) rfl)⟩
theorem lw_p45 : lw_okq (⟨"HedgeCommitteeModel", "isHedge", "(I)Z"⟩, 26) := ⟨⟨by decide +kernel, by decide +kernel⟩, lw_i9, tb_8 (List.mem_of_getElem? (i := 97) rfl), tb_8 (List.mem_of_getElem? (i := 98) rfl)⟩
theorem lw_p46 : lw_okq (⟨"HedgeCommitteeModel", "isHedgeAhead", "(II)Z"⟩, 26) := ⟨⟨by decide +kernel, by decide +kernel⟩, lw_i9, tb_8 (List.mem_of_getElem? (i := 109) rfl), tb_8 (List.mem_of_getElem? (i := 110) rfl)⟩
theorem lw_p47 : lw_okq (⟨"HedgeCommitteeModel", "ofMotion", "(II)I"⟩, 26) := ⟨⟨by decide +kernel, by decide +kernel⟩, lw_i9, tb_8 (List.mem_of_getElem? (i := 133) rfl), tb_8 (List.mem_of_getElem? (i := 134) rfl)⟩
theorem lw_p48 : lw_okq (⟨"HedgeCommitteeModel", "isMotionAhead", "(II)Z"⟩, 26) := ⟨⟨by decide +kernel, by decide +kernel⟩, lw_i9, tb_8 (List.mem_of_getElem? (i := 165) rfl), tb_8 (List.mem_of_getElem? (i := 166) rfl)⟩
theorem lw_p49 : lw_okq (⟨"HedgeCommitteeModel", "common", "(II)I"⟩, 26) := ⟨⟨by decide +kernel, by decide +kernel⟩, lw_i9, tb_8 (List.mem_of_getElem? (i := 173) rfl), tb_8 (List.mem_of_getElem? (i := 174) rfl)⟩
theorem lw_p50 : lw_okq (⟨"HedgeCommitteeModel", "steps", "(II)I"⟩, 26) := ⟨⟨by decide +kernel, by decide +kernel⟩, lw_i9, tb_8 (List.mem_of_getElem? (i := 186) rfl), tb_8 (List.mem_of_getElem? (i := 187) rfl)⟩
theorem lw_p51 : lw_okq (⟨"HedgeCommitteeModel", "measures", "()V"⟩, 26) := ⟨⟨by decide +kernel, by decide +kernel⟩, lw_i9, tb_8 (List.mem_of_getElem? (i := 203) rfl), tb_8 (List.mem_of_getElem? (i := 204) rfl)⟩
theorem lw_p52 : lw_okq (⟨"HedgeCommitteeModel", "readCommand", "()V"⟩, 26) := ⟨⟨by decide +kernel, by decide +kernel⟩, lw_i9, tb_9 (List.mem_of_getElem? (i := 18) rfl), tb_9 (List.mem_of_getElem? (i := 19) rfl)⟩
theorem lw_p53 : lw_okq (⟨"HedgeCommitteeModel", "likeness", "(I)I"⟩, 26) := ⟨⟨by decide +kernel, by decide +kernel⟩, lw_i9, tb_9 (List.mem_of_getElem? (i := 22) rfl), tb_9 (List.mem_of_getElem? (i := 23) rfl)⟩
theorem lw_p54 : lw_okq (⟨"HedgeCommitteeModel", "readArguments", "(II)V"⟩, 26) := ⟨⟨by decide +kernel, by decide +kernel⟩, lw_i9, tb_9 (List.mem_of_getElem? (i := 26) rfl), tb_9 (List.mem_of_getElem? (i := 27) rfl)⟩
theorem lw_p55 : lw_okq (⟨"HedgeCommitteeModel", "digit", "()I"⟩, 26) := ⟨⟨by decide +kernel, by decide +kernel⟩, lw_i9, tb_9 (List.mem_of_getElem? (i := 30) rfl), tb_9 (List.mem_of_getElem? (i := 31) rfl)⟩
theorem lw_p56 : lw_okq (⟨"HedgeCommitteeModel", "here", "()I"⟩, 26) := ⟨⟨by decide +kernel, by decide +kernel⟩, lw_i9, tb_9 (List.mem_of_getElem? (i := 34) rfl), tb_9 (List.mem_of_getElem? (i := 35) rfl)⟩
theorem lw_p57 : lw_okq (⟨"HedgeCommitteeModel", "number", "()I"⟩, 26) := ⟨⟨by decide +kernel, by decide +kernel⟩, lw_i9, tb_9 (List.mem_of_getElem? (i := 40) rfl), tb_9 (List.mem_of_getElem? (i := 41) rfl)⟩
theorem lw_p58 : lw_okq (⟨"HedgeCommitteeModel", "digitBehind", "()I"⟩, 26) := ⟨⟨by decide +kernel, by decide +kernel⟩, lw_i9, tb_9 (List.mem_of_getElem? (i := 44) rfl), tb_9 (List.mem_of_getElem? (i := 45) rfl)⟩
theorem lw_p59 : lw_okq (⟨"HedgeCommitteeModel", "expects", "(I)V"⟩, 26) := ⟨⟨by decide +kernel, by decide +kernel⟩, lw_i9, tb_9 (List.mem_of_getElem? (i := 48) rfl), tb_9 (List.mem_of_getElem? (i := 49) rfl)⟩
theorem lw_p60 : lw_okq (⟨"HedgeCommitteeModel", "numberBehind", "()I"⟩, 26) := ⟨⟨by decide +kernel, by decide +kernel⟩, lw_i9, tb_9 (List.mem_of_getElem? (i := 52) rfl), tb_9 (List.mem_of_getElem? (i := 53) rfl)⟩
theorem lw_p61 : lw_okq (⟨"HedgeCommitteeModel", "does", "(I)V"⟩, 26) := ⟨⟨by decide +kernel, by decide +kernel⟩, lw_i9, tb_9 (List.mem_of_getElem? (i := 56) rfl), tb_9 (List.mem_of_getElem? (i := 57) rfl)⟩
theorem lw_p62 : lw_okq (⟨"HedgeCommitteeModel", "writesWhole", "(I)V"⟩, 26) := ⟨⟨by decide +kernel, by decide +kernel⟩, lw_i9, tb_9 (List.mem_of_getElem? (i := 72) rfl), tb_9 (List.mem_of_getElem? (i := 73) rfl)⟩
theorem lw_p63 : lw_okq (⟨"HedgeCommitteeModel", "sign", "(I)V"⟩, 26) := ⟨⟨by decide +kernel, by decide +kernel⟩, lw_i9, tb_9 (List.mem_of_getElem? (i := 76) rfl), tb_9 (List.mem_of_getElem? (i := 77) rfl)⟩
theorem lw_p64 : lw_okq (⟨"HedgeCommitteeModel", "childFrom", "(II)I"⟩, 26) := ⟨⟨by decide +kernel, by decide +kernel⟩, lw_i9, tb_9 (List.mem_of_getElem? (i := 80) rfl), tb_9 (List.mem_of_getElem? (i := 81) rfl)⟩
theorem lw_p65 : lw_okq (⟨"HedgeCommitteeModel", "next", "(II)I"⟩, 26) := ⟨⟨by decide +kernel, by decide +kernel⟩, lw_i9, tb_9 (List.mem_of_getElem? (i := 84) rfl), tb_9 (List.mem_of_getElem? (i := 85) rfl)⟩
def lw_privs_0 : List (MethodName × Nat) := [(⟨"HedgeCommittee$History", "forgetOldest", "()V"⟩, 2), (⟨"HedgeCommittee$Trees", "farthestFrom", "(LHedgeCommittee$Motions;II)I"⟩, 6), (⟨"java/lang/Throwable", "fillInStackTrace", "(I)Ljava/lang/Throwable;"⟩, 6), (⟨"HedgeCommittee$State", "requireRoom", "()V"⟩, 11), (⟨"HedgeCommittee$State", "begin", "(III)I"⟩, 11), (⟨"HedgeCommittee$State", "bookOutcome", "(CII)V"⟩, 11), (⟨"HedgeCommittee", "requireHedge", "(I)V"⟩, 9), (⟨"HedgeCommittee$Hedges", "rankOf", "(I)I"⟩, 4), (⟨"HedgeCommittee", "requirePosition", "(I)V"⟩, 9), (⟨"HedgeCommittee$Motions", "rankOf", "(I)I"⟩, 6), (⟨"HedgeCommittee", "idOfCommon", "(I)I"⟩, 9)]
theorem lw_r0 : ∀ q ∈ lw_privs_0, lw_okq q := List.forall_mem_cons.mpr ⟨lw_p0, List.forall_mem_cons.mpr ⟨lw_p1, List.forall_mem_cons.mpr ⟨lw_p2, List.forall_mem_cons.mpr ⟨lw_p3, List.forall_mem_cons.mpr ⟨lw_p4, List.forall_mem_cons.mpr ⟨lw_p5, List.forall_mem_cons.mpr ⟨lw_p6, List.forall_mem_cons.mpr ⟨lw_p7, List.forall_mem_cons.mpr ⟨lw_p8, List.forall_mem_cons.mpr ⟨lw_p9, List.forall_mem_cons.mpr ⟨lw_p10, fun _ h => absurd h List.not_mem_nil⟩⟩⟩⟩⟩⟩⟩⟩⟩⟩⟩
def lw_privs_1 : List (MethodName × Nat) := [(⟨"HedgeCommittee$Program", "readCommand", "()Z"⟩, 5), (⟨"HedgeCommittee$Program", "kindAhead", "()LHedgeCommittee$Kind;"⟩, 5), (⟨"HedgeCommittee$Program", "digitAhead", "()Z"⟩, 5), (⟨"HedgeCommittee$Program", "readDigits", "(Z)I"⟩, 5), (⟨"HedgeCommittee$Program", "readSign", "(C)Z"⟩, 5), (⟨"java/util/ArrayList", "add", "(Ljava/lang/Object;[Ljava/lang/Object;I)V"⟩, 3), (⟨"java/util/ArrayList", "grow", "()[Ljava/lang/Object;"⟩, 3), (⟨"java/util/ArrayList", "grow", "(I)[Ljava/lang/Object;"⟩, 3), (⟨"HedgeCommittee", "firstFailure", "()I"⟩, 9), (⟨"HedgeCommittee", "succeeds", "(LHedgeCommittee$Command;)Z"⟩, 9), (⟨"HedgeCommitteeModel", "starts", "()V"⟩, 26)]
theorem lw_r1 : ∀ q ∈ lw_privs_1, lw_okq q := List.forall_mem_cons.mpr ⟨lw_p11, List.forall_mem_cons.mpr ⟨lw_p12, List.forall_mem_cons.mpr ⟨lw_p13, List.forall_mem_cons.mpr ⟨lw_p14, List.forall_mem_cons.mpr ⟨lw_p15, List.forall_mem_cons.mpr ⟨lw_p16, List.forall_mem_cons.mpr ⟨lw_p17, List.forall_mem_cons.mpr ⟨lw_p18, List.forall_mem_cons.mpr ⟨lw_p19, List.forall_mem_cons.mpr ⟨lw_p20, List.forall_mem_cons.mpr ⟨lw_p21, fun _ h => absurd h List.not_mem_nil⟩⟩⟩⟩⟩⟩⟩⟩⟩⟩⟩
def lw_privs_2 : List (MethodName × Nat) := [(⟨"HedgeCommitteeModel", "hedgeIt", "(III)I"⟩, 26), (⟨"HedgeCommitteeModel", "throwing", "(I)I"⟩, 26), (⟨"HedgeCommitteeModel", "changed", "(I)I"⟩, 26), (⟨"HedgeCommitteeModel", "mainIt", "(II)I"⟩, 26), (⟨"HedgeCommitteeModel", "adds", "(III)I"⟩, 26), (⟨"HedgeCommitteeModel", "amendIt", "(III)I"⟩, 26), (⟨"HedgeCommitteeModel", "find", "(I)I"⟩, 26), (⟨"HedgeCommitteeModel", "of", "(II)I"⟩, 26), (⟨"HedgeCommitteeModel", "pruneIt", "(II)I"⟩, 26), (⟨"HedgeCommitteeModel", "deep", "(I)I"⟩, 26), (⟨"HedgeCommitteeModel", "above", "(I)I"⟩, 26)]
theorem lw_r2 : ∀ q ∈ lw_privs_2, lw_okq q := List.forall_mem_cons.mpr ⟨lw_p22, List.forall_mem_cons.mpr ⟨lw_p23, List.forall_mem_cons.mpr ⟨lw_p24, List.forall_mem_cons.mpr ⟨lw_p25, List.forall_mem_cons.mpr ⟨lw_p26, List.forall_mem_cons.mpr ⟨lw_p27, List.forall_mem_cons.mpr ⟨lw_p28, List.forall_mem_cons.mpr ⟨lw_p29, List.forall_mem_cons.mpr ⟨lw_p30, List.forall_mem_cons.mpr ⟨lw_p31, List.forall_mem_cons.mpr ⟨lw_p32, fun _ h => absurd h List.not_mem_nil⟩⟩⟩⟩⟩⟩⟩⟩⟩⟩⟩
def lw_privs_3 : List (MethodName × Nat) := [(⟨"HedgeCommitteeModel", "isIn", "(II)Z"⟩, 26), (⟨"HedgeCommitteeModel", "drops", "(I)V"⟩, 26), (⟨"HedgeCommitteeModel", "regrowIt", "(I)I"⟩, 26), (⟨"HedgeCommitteeModel", "lastTipAt", "(I)I"⟩, 26), (⟨"HedgeCommitteeModel", "isTipAt", "(I)Z"⟩, 26), (⟨"HedgeCommitteeModel", "voteIt", "(I)I"⟩, 26), (⟨"HedgeCommitteeModel", "vetoes", "(II)Z"⟩, 26), (⟨"HedgeCommitteeModel", "far", "(II)I"⟩, 26), (⟨"HedgeCommitteeModel", "favour", "(I)I"⟩, 26), (⟨"HedgeCommitteeModel", "leavesAll", "()I"⟩, 26), (⟨"HedgeCommitteeModel", "carries", "(I)V"⟩, 26)]
theorem lw_r3 : ∀ q ∈ lw_privs_3, lw_okq q := List.forall_mem_cons.mpr ⟨lw_p33, List.forall_mem_cons.mpr ⟨lw_p34, List.forall_mem_cons.mpr ⟨lw_p35, List.forall_mem_cons.mpr ⟨lw_p36, List.forall_mem_cons.mpr ⟨lw_p37, List.forall_mem_cons.mpr ⟨lw_p38, List.forall_mem_cons.mpr ⟨lw_p39, List.forall_mem_cons.mpr ⟨lw_p40, List.forall_mem_cons.mpr ⟨lw_p41, List.forall_mem_cons.mpr ⟨lw_p42, List.forall_mem_cons.mpr ⟨lw_p43, fun _ h => absurd h List.not_mem_nil⟩⟩⟩⟩⟩⟩⟩⟩⟩⟩⟩
def lw_privs_4 : List (MethodName × Nat) := [(⟨"HedgeCommitteeModel", "seasonIt", "()I"⟩, 26), (⟨"HedgeCommitteeModel", "isHedge", "(I)Z"⟩, 26), (⟨"HedgeCommitteeModel", "isHedgeAhead", "(II)Z"⟩, 26), (⟨"HedgeCommitteeModel", "ofMotion", "(II)I"⟩, 26), (⟨"HedgeCommitteeModel", "isMotionAhead", "(II)Z"⟩, 26), (⟨"HedgeCommitteeModel", "common", "(II)I"⟩, 26), (⟨"HedgeCommitteeModel", "steps", "(II)I"⟩, 26), (⟨"HedgeCommitteeModel", "measures", "()V"⟩, 26), (⟨"HedgeCommitteeModel", "readCommand", "()V"⟩, 26), (⟨"HedgeCommitteeModel", "likeness", "(I)I"⟩, 26), (⟨"HedgeCommitteeModel", "readArguments", "(II)V"⟩, 26)]
theorem lw_r4 : ∀ q ∈ lw_privs_4, lw_okq q := List.forall_mem_cons.mpr ⟨lw_p44, List.forall_mem_cons.mpr ⟨lw_p45, List.forall_mem_cons.mpr ⟨lw_p46, List.forall_mem_cons.mpr ⟨lw_p47, List.forall_mem_cons.mpr ⟨lw_p48, List.forall_mem_cons.mpr ⟨lw_p49, List.forall_mem_cons.mpr ⟨lw_p50, List.forall_mem_cons.mpr ⟨lw_p51, List.forall_mem_cons.mpr ⟨lw_p52, List.forall_mem_cons.mpr ⟨lw_p53, List.forall_mem_cons.mpr ⟨lw_p54, fun _ h => absurd h List.not_mem_nil⟩⟩⟩⟩⟩⟩⟩⟩⟩⟩⟩
def lw_privs_5 : List (MethodName × Nat) := [(⟨"HedgeCommitteeModel", "digit", "()I"⟩, 26), (⟨"HedgeCommitteeModel", "here", "()I"⟩, 26), (⟨"HedgeCommitteeModel", "number", "()I"⟩, 26), (⟨"HedgeCommitteeModel", "digitBehind", "()I"⟩, 26), (⟨"HedgeCommitteeModel", "expects", "(I)V"⟩, 26), (⟨"HedgeCommitteeModel", "numberBehind", "()I"⟩, 26), (⟨"HedgeCommitteeModel", "does", "(I)V"⟩, 26), (⟨"HedgeCommitteeModel", "writesWhole", "(I)V"⟩, 26), (⟨"HedgeCommitteeModel", "sign", "(I)V"⟩, 26), (⟨"HedgeCommitteeModel", "childFrom", "(II)I"⟩, 26), (⟨"HedgeCommitteeModel", "next", "(II)I"⟩, 26)]
theorem lw_r5 : ∀ q ∈ lw_privs_5, lw_okq q := List.forall_mem_cons.mpr ⟨lw_p55, List.forall_mem_cons.mpr ⟨lw_p56, List.forall_mem_cons.mpr ⟨lw_p57, List.forall_mem_cons.mpr ⟨lw_p58, List.forall_mem_cons.mpr ⟨lw_p59, List.forall_mem_cons.mpr ⟨lw_p60, List.forall_mem_cons.mpr ⟨lw_p61, List.forall_mem_cons.mpr ⟨lw_p62, List.forall_mem_cons.mpr ⟨lw_p63, List.forall_mem_cons.mpr ⟨lw_p64, List.forall_mem_cons.mpr ⟨lw_p65, fun _ h => absurd h List.not_mem_nil⟩⟩⟩⟩⟩⟩⟩⟩⟩⟩⟩
def lw_privs : List (MethodName × Nat) := lw_privs_0 ++ lw_privs_1 ++ lw_privs_2 ++ lw_privs_3 ++ lw_privs_4 ++ lw_privs_5
theorem lw_privs_ok : ∀ q ∈ lw_privs, lw_okq q := by
  unfold lw_privs
  intro q h
  simp only [List.mem_append] at h
  rcases h with ((((h | h) | h) | h) | h) | h
  · exact lw_r0 q h
  · exact lw_r1 q h
  · exact lw_r2 q h
  · exact lw_r3 q h
  · exact lw_r4 q h
  · exact lw_r5 q h
def lw_tbl : List Cond := k2_sels lw_privs ++ tables_1
def RX0 : String := "HedgeCommittee$1"
def TX0 : u_T := fun k => match k with
  | _ => ("", "", "", false)
def tyX0 : Nat → FieldType := fun k => match k with
  | _ => .int
abbrev wsX00 : List Cond := u_ws RX0 TX0 0
theorem nmX0 : ∀ a, a < 0 → ∀ b, b < 0 → a ≠ b → (TX0 a).2.1 ≠ (TX0 b).2.1 := by decide +kernel
theorem tyX0_ok : ∀ k, k < 0 → parseFieldDescriptor (TX0 k).2.2.1 = some (tyX0 k) := by decide +kernel
def RX1 : String := "HedgeCommittee$Command"
def TX1 : u_T := fun k => match k with
  | 0 => ("HedgeCommittee$Command", "kind", "LHedgeCommittee$Kind;", true)
  | 1 => ("HedgeCommittee$Command", "first", "I", true)
  | 2 => ("HedgeCommittee$Command", "second", "I", true)
  | _ => ("HedgeCommittee$Command", "third", "I", true)
def tyX1 : Nat → FieldType := fun k => match k with
  | 0 => .object "HedgeCommittee$Kind"
  | 1 => .int
  | 2 => .int
  | _ => .int
abbrev wsX10 : List Cond := u_ws RX1 TX1 4
theorem nmX1 : ∀ a, a < 4 → ∀ b, b < 4 → a ≠ b → (TX1 a).2.1 ≠ (TX1 b).2.1 := by decide +kernel
theorem tyX1_ok : ∀ k, k < 4 → parseFieldDescriptor (TX1 k).2.2.1 = some (tyX1 k) := by decide +kernel
abbrev cX1_init : ByteArray := prog_3_method_1_code
def yX1_init : MethodName := ⟨RX1, "<init>", "(LHedgeCommittee$Kind;III)V"⟩
def RX2 : String := "HedgeCommittee$Hedges"
def TX2 : u_T := fun k => match k with
  | 0 => ("HedgeCommittee$Hedges", "leaves", "[I", true)
  | 1 => ("HedgeCommittee$Hedges", "thorns", "[I", true)
  | 2 => ("HedgeCommittee$Hedges", "tastes", "[I", true)
  | _ => ("HedgeCommittee$Hedges", "count", "I", false)
def tyX2 : Nat → FieldType := fun k => match k with
  | 0 => .array .int
  | 1 => .array .int
  | 2 => .array .int
  | _ => .int
abbrev wsX20 : List Cond := u_ws RX2 TX2 4
theorem nmX2 : ∀ a, a < 4 → ∀ b, b < 4 → a ≠ b → (TX2 a).2.1 ≠ (TX2 b).2.1 := by decide +kernel
theorem tyX2_ok : ∀ k, k < 4 → parseFieldDescriptor (TX2 k).2.2.1 = some (tyX2 k) := by decide +kernel
abbrev cX2_init : ByteArray := prog_4_method_1_code
def yX2_init : MethodName := ⟨RX2, "<init>", "()V"⟩
abbrev cX2_copyFrom : ByteArray := prog_4_method_2_code
def yX2_copyFrom : MethodName := ⟨RX2, "copyFrom", "(LHedgeCommittee$Hedges;)V"⟩
abbrev cX2_has : ByteArray := prog_4_method_3_code
def yX2_has : MethodName := ⟨RX2, "has", "(I)Z"⟩
abbrev cX2_isFull : ByteArray := prog_4_method_4_code
def yX2_isFull : MethodName := ⟨RX2, "isFull", "()Z"⟩
abbrev cX2_add : ByteArray := prog_4_method_5_code
def yX2_add : MethodName := ⟨RX2, "add", "(III)I"⟩
abbrev cX2_difference : ByteArray := prog_4_method_6_code
def yX2_difference : MethodName := ⟨RX2, "difference", "(II)I"⟩
abbrev cX2_vetoes : ByteArray := prog_4_method_7_code
def yX2_vetoes : MethodName := ⟨RX2, "vetoes", "(II)Z"⟩
abbrev cX2_leavesFor : ByteArray := prog_4_method_8_code
def yX2_leavesFor : MethodName := ⟨RX2, "leavesFor", "(I)I"⟩
abbrev cX2_totalLeaves : ByteArray := prog_4_method_9_code
def yX2_totalLeaves : MethodName := ⟨RX2, "totalLeaves", "()I"⟩
abbrev cX2_decideOn : ByteArray := prog_4_method_10_code
def yX2_decideOn : MethodName := ⟨RX2, "decideOn", "(I)C"⟩
abbrev cX2_meet : ByteArray := prog_4_method_11_code
def yX2_meet : MethodName := ⟨RX2, "meet", "(I)V"⟩
abbrev cX2_ranksBefore : ByteArray := prog_4_method_12_code
def yX2_ranksBefore : MethodName := ⟨RX2, "ranksBefore", "(II)Z"⟩
abbrev cX2_atRank : ByteArray := prog_4_method_13_code
def yX2_atRank : MethodName := ⟨RX2, "atRank", "(I)I"⟩
abbrev cX2_rankOf : ByteArray := prog_4_method_14_code
def yX2_rankOf : MethodName := ⟨RX2, "rankOf", "(I)I"⟩
def RX3 : String := "HedgeCommittee$History"
def TX3 : u_T := fun k => match k with
  | 0 => ("HedgeCommittee$History", "states", "[LHedgeCommittee$State;", true)
  | _ => ("HedgeCommittee$History", "count", "I", false)
def tyX3 : Nat → FieldType := fun k => match k with
  | 0 => .array (.object "HedgeCommittee$State")
  | _ => .int
abbrev wsX30 : List Cond := u_ws RX3 TX3 2
theorem nmX3 : ∀ a, a < 2 → ∀ b, b < 2 → a ≠ b → (TX3 a).2.1 ≠ (TX3 b).2.1 := by decide +kernel
theorem tyX3_ok : ∀ k, k < 2 → parseFieldDescriptor (TX3 k).2.2.1 = some (tyX3 k) := by decide +kernel
abbrev cX3_init : ByteArray := prog_5_method_1_code
def yX3_init : MethodName := ⟨RX3, "<init>", "()V"⟩
abbrev cX3_note : ByteArray := prog_5_method_2_code
def yX3_note : MethodName := ⟨RX3, "note", "(LHedgeCommittee$State;)V"⟩
abbrev cX3_bringBackNoted : ByteArray := prog_5_method_3_code
def yX3_bringBackNoted : MethodName := ⟨RX3, "bringBackNoted", "(LHedgeCommittee$State;)V"⟩
abbrev cX3_keepNoted : ByteArray := prog_5_method_4_code
def yX3_keepNoted : MethodName := ⟨RX3, "keepNoted", "()V"⟩
abbrev cX3_forgetOldest : ByteArray := prog_5_method_5_code
def yX3_forgetOldest : MethodName := ⟨RX3, "forgetOldest", "()V"⟩
abbrev cX3_takeBack : ByteArray := prog_5_method_6_code
def yX3_takeBack : MethodName := ⟨RX3, "takeBack", "(LHedgeCommittee$State;)I"⟩
def RX4 : String := "HedgeCommittee$Kind"
def TX4 : u_T := fun k => match k with
  | _ => ("", "", "", false)
def tyX4 : Nat → FieldType := fun k => match k with
  | _ => .int
abbrev wsX40 : List Cond := u_ws RX4 TX4 0
theorem nmX4 : ∀ a, a < 0 → ∀ b, b < 0 → a ≠ b → (TX4 a).2.1 ≠ (TX4 b).2.1 := by decide +kernel
theorem tyX4_ok : ∀ k, k < 0 → parseFieldDescriptor (TX4 k).2.2.1 = some (tyX4 k) := by decide +kernel
def RX5 : String := "HedgeCommittee$Motions"
def TX5 : u_T := fun k => match k with
  | 0 => ("HedgeCommittee$Motions", "ids", "[I", true)
  | 1 => ("HedgeCommittee$Motions", "tones", "[I", true)
  | 2 => ("HedgeCommittee$Motions", "weights", "[I", true)
  | 3 => ("HedgeCommittee$Motions", "parents", "[I", true)
  | 4 => ("HedgeCommittee$Motions", "count", "I", false)
  | _ => ("HedgeCommittee$Motions", "nextId", "I", false)
def tyX5 : Nat → FieldType := fun k => match k with
  | 0 => .array .int
  | 1 => .array .int
  | 2 => .array .int
  | 3 => .array .int
  | 4 => .int
  | _ => .int
abbrev wsX50 : List Cond := u_ws RX5 TX5 6
theorem nmX5 : ∀ a, a < 6 → ∀ b, b < 6 → a ≠ b → (TX5 a).2.1 ≠ (TX5 b).2.1 := by decide +kernel
theorem tyX5_ok : ∀ k, k < 6 → parseFieldDescriptor (TX5 k).2.2.1 = some (tyX5 k) := by decide +kernel
abbrev cX5_init : ByteArray := prog_7_method_1_code
def yX5_init : MethodName := ⟨RX5, "<init>", "()V"⟩
abbrev cX5_copyFrom : ByteArray := prog_7_method_2_code
def yX5_copyFrom : MethodName := ⟨RX5, "copyFrom", "(LHedgeCommittee$Motions;)V"⟩
abbrev cX5_isFull : ByteArray := prog_7_method_3_code
def yX5_isFull : MethodName := ⟨RX5, "isFull", "()Z"⟩
abbrev cX5_require : ByteArray := prog_7_method_4_code
def yX5_require : MethodName := ⟨RX5, "require", "(I)I"⟩
abbrev cX5_add : ByteArray := prog_7_method_5_code
def yX5_add : MethodName := ⟨RX5, "add", "(III)I"⟩
abbrev cX5_removeTip : ByteArray := prog_7_method_6_code
def yX5_removeTip : MethodName := ⟨RX5, "removeTip", "(I)V"⟩
abbrev cX5_hasAmendments : ByteArray := prog_7_method_7_code
def yX5_hasAmendments : MethodName := ⟨RX5, "hasAmendments", "(I)Z"⟩
abbrev cX5_depthOf : ByteArray := prog_7_method_8_code
def yX5_depthOf : MethodName := ⟨RX5, "depthOf", "(I)I"⟩
abbrev cX5_isInBranch : ByteArray := prog_7_method_9_code
def yX5_isInBranch : MethodName := ⟨RX5, "isInBranch", "(II)Z"⟩
abbrev cX5_sizeOfBranch : ByteArray := prog_7_method_10_code
def yX5_sizeOfBranch : MethodName := ⟨RX5, "sizeOfBranch", "(I)I"⟩
abbrev cX5_lastTipOf : ByteArray := prog_7_method_11_code
def yX5_lastTipOf : MethodName := ⟨RX5, "lastTipOf", "(I)I"⟩
abbrev cX5_totalWeight : ByteArray := prog_7_method_12_code
def yX5_totalWeight : MethodName := ⟨RX5, "totalWeight", "()I"⟩
abbrev cX5_ranksBefore : ByteArray := prog_7_method_13_code
def yX5_ranksBefore : MethodName := ⟨RX5, "ranksBefore", "(II)Z"⟩
abbrev cX5_atRank : ByteArray := prog_7_method_14_code
def yX5_atRank : MethodName := ⟨RX5, "atRank", "(I)I"⟩
abbrev cX5_rankOf : ByteArray := prog_7_method_15_code
def yX5_rankOf : MethodName := ⟨RX5, "rankOf", "(I)I"⟩
def RX6 : String := "HedgeCommittee$Program"
def TX6 : u_T := fun k => match k with
  | 0 => ("HedgeCommittee$Program", "text", "[C", true)
  | 1 => ("HedgeCommittee$Program", "arguments", "[I", true)
  | 2 => ("HedgeCommittee$Program", "commands", "Ljava/util/ArrayList;", true)
  | 3 => ("HedgeCommittee$Program", "length", "I", false)
  | _ => ("HedgeCommittee$Program", "at", "I", false)
def tyX6 : Nat → FieldType := fun k => match k with
  | 0 => .array .char
  | 1 => .array .int
  | 2 => .object "java/util/ArrayList"
  | 3 => .int
  | _ => .int
abbrev wsX60 : List Cond := u_ws RX6 TX6 5
theorem nmX6 : ∀ a, a < 5 → ∀ b, b < 5 → a ≠ b → (TX6 a).2.1 ≠ (TX6 b).2.1 := by decide +kernel
theorem tyX6_ok : ∀ k, k < 5 → parseFieldDescriptor (TX6 k).2.2.1 = some (tyX6 k) := by decide +kernel
abbrev cX6_init : ByteArray := prog_8_method_1_code
def yX6_init : MethodName := ⟨RX6, "<init>", "()V"⟩
abbrev cX6_isFull : ByteArray := prog_8_method_2_code
def yX6_isFull : MethodName := ⟨RX6, "isFull", "()Z"⟩
abbrev cX6_put : ByteArray := prog_8_method_3_code
def yX6_put : MethodName := ⟨RX6, "put", "(C)I"⟩
abbrev cX6_empty : ByteArray := prog_8_method_4_code
def yX6_empty : MethodName := ⟨RX6, "empty", "()V"⟩
abbrev cX6_parse : ByteArray := prog_8_method_5_code
def yX6_parse : MethodName := ⟨RX6, "parse", "()I"⟩
abbrev cX6_readCommand : ByteArray := prog_8_method_6_code
def yX6_readCommand : MethodName := ⟨RX6, "readCommand", "()Z"⟩
abbrev cX6_kindAhead : ByteArray := prog_8_method_7_code
def yX6_kindAhead : MethodName := ⟨RX6, "kindAhead", "()LHedgeCommittee$Kind;"⟩
abbrev cX6_readSign : ByteArray := prog_8_method_8_code
def yX6_readSign : MethodName := ⟨RX6, "readSign", "(C)Z"⟩
abbrev cX6_digitAhead : ByteArray := prog_8_method_9_code
def yX6_digitAhead : MethodName := ⟨RX6, "digitAhead", "()Z"⟩
abbrev cX6_readDigits : ByteArray := prog_8_method_10_code
def yX6_readDigits : MethodName := ⟨RX6, "readDigits", "(Z)I"⟩
def RX7 : String := "HedgeCommittee$State"
def TX7 : u_T := fun k => match k with
  | 0 => ("HedgeCommittee$State", "hedges", "LHedgeCommittee$Hedges;", true)
  | 1 => ("HedgeCommittee$State", "motions", "LHedgeCommittee$Motions;", true)
  | 2 => ("HedgeCommittee$State", "minutes", "[I", true)
  | 3 => ("HedgeCommittee$State", "season", "I", false)
  | 4 => ("HedgeCommittee$State", "votes", "I", false)
  | 5 => ("HedgeCommittee$State", "carriedVotes", "I", false)
  | 6 => ("HedgeCommittee$State", "begun", "I", false)
  | 7 => ("HedgeCommittee$State", "pruned", "I", false)
  | 8 => ("HedgeCommittee$State", "rejected", "I", false)
  | 9 => ("HedgeCommittee$State", "vetoed", "I", false)
  | _ => ("HedgeCommittee$State", "adopted", "I", false)
def tyX7 : Nat → FieldType := fun k => match k with
  | 0 => .object "HedgeCommittee$Hedges"
  | 1 => .object "HedgeCommittee$Motions"
  | 2 => .array .int
  | 3 => .int
  | 4 => .int
  | 5 => .int
  | 6 => .int
  | 7 => .int
  | 8 => .int
  | 9 => .int
  | _ => .int
abbrev wsX70 : List Cond := u_ws RX7 TX7 11
theorem nmX7 : ∀ a, a < 11 → ∀ b, b < 11 → a ≠ b → (TX7 a).2.1 ≠ (TX7 b).2.1 := by decide +kernel
theorem tyX7_ok : ∀ k, k < 11 → parseFieldDescriptor (TX7 k).2.2.1 = some (tyX7 k) := by decide +kernel
abbrev cX7_init : ByteArray := prog_9_method_1_code
def yX7_init : MethodName := ⟨RX7, "<init>", "()V"⟩
abbrev cX7_copyFrom : ByteArray := prog_9_method_2_code
def yX7_copyFrom : MethodName := ⟨RX7, "copyFrom", "(LHedgeCommittee$State;)V"⟩
abbrev cX7_accountedWeight : ByteArray := prog_9_method_3_code
def yX7_accountedWeight : MethodName := ⟨RX7, "accountedWeight", "()I"⟩
abbrev cX7_newHedge : ByteArray := prog_9_method_4_code
def yX7_newHedge : MethodName := ⟨RX7, "newHedge", "(III)I"⟩
abbrev cX7_newMain : ByteArray := prog_9_method_5_code
def yX7_newMain : MethodName := ⟨RX7, "newMain", "(II)I"⟩
abbrev cX7_newAmendment : ByteArray := prog_9_method_6_code
def yX7_newAmendment : MethodName := ⟨RX7, "newAmendment", "(III)I"⟩
abbrev cX7_growTip : ByteArray := prog_9_method_7_code
def yX7_growTip : MethodName := ⟨RX7, "growTip", "(I)I"⟩
abbrev cX7_cutBack : ByteArray := prog_9_method_8_code
def yX7_cutBack : MethodName := ⟨RX7, "cutBack", "(II)I"⟩
abbrev cX7_holdVote : ByteArray := prog_9_method_9_code
def yX7_holdVote : MethodName := ⟨RX7, "holdVote", "(I)C"⟩
abbrev cX7_bookOutcome : ByteArray := prog_9_method_10_code
def yX7_bookOutcome : MethodName := ⟨RX7, "bookOutcome", "(CII)V"⟩
abbrev cX7_beginNextSeason : ByteArray := prog_9_method_11_code
def yX7_beginNextSeason : MethodName := ⟨RX7, "beginNextSeason", "()V"⟩
abbrev cX7_begin : ByteArray := prog_9_method_12_code
def yX7_begin : MethodName := ⟨RX7, "begin", "(III)I"⟩
abbrev cX7_requireRoom : ByteArray := prog_9_method_13_code
def yX7_requireRoom : MethodName := ⟨RX7, "requireRoom", "()V"⟩
abbrev cX7_requireToneAndWeight : ByteArray := prog_9_method_14_code
def yX7_requireToneAndWeight : MethodName := ⟨RX7, "requireToneAndWeight", "(II)V"⟩
abbrev cX7_isDigit : ByteArray := prog_9_method_15_code
def yX7_isDigit : MethodName := ⟨RX7, "isDigit", "(I)Z"⟩
def RX8 : String := "HedgeCommittee$Trees"
def TX8 : u_T := fun k => match k with
  | 0 => ("HedgeCommittee$Trees", "rowOfOne", "[I", true)
  | 1 => ("HedgeCommittee$Trees", "rowOfOther", "[I", true)
  | 2 => ("HedgeCommittee$Trees", "heights", "[I", true)
  | 3 => ("HedgeCommittee$Trees", "distances", "[I", true)
  | 4 => ("HedgeCommittee$Trees", "with", "[I", true)
  | _ => ("HedgeCommittee$Trees", "without", "[I", true)
def tyX8 : Nat → FieldType := fun k => match k with
  | 0 => .array .int
  | 1 => .array .int
  | 2 => .array .int
  | 3 => .array .int
  | 4 => .array .int
  | _ => .array .int
abbrev wsX80 : List Cond := u_ws RX8 TX8 6
theorem nmX8 : ∀ a, a < 6 → ∀ b, b < 6 → a ≠ b → (TX8 a).2.1 ≠ (TX8 b).2.1 := by decide +kernel
theorem tyX8_ok : ∀ k, k < 6 → parseFieldDescriptor (TX8 k).2.2.1 = some (tyX8 k) := by decide +kernel
abbrev cX8_init : ByteArray := prog_10_method_1_code
def yX8_init : MethodName := ⟨RX8, "<init>", "()V"⟩
abbrev cX8_commonByClimbing : ByteArray := prog_10_method_2_code
def yX8_commonByClimbing : MethodName := ⟨RX8, "commonByClimbing", "(LHedgeCommittee$Motions;II)I"⟩
abbrev cX8_commonByRows : ByteArray := prog_10_method_3_code
def yX8_commonByRows : MethodName := ⟨RX8, "commonByRows", "(LHedgeCommittee$Motions;II)I"⟩
abbrev cX8_fillRow : ByteArray := prog_10_method_4_code
def yX8_fillRow : MethodName := ⟨RX8, "fillRow", "(LHedgeCommittee$Motions;I[I)I"⟩
abbrev cX8_longestByHeights : ByteArray := prog_10_method_5_code
def yX8_longestByHeights : MethodName := ⟨RX8, "longestByHeights", "(LHedgeCommittee$Motions;I)I"⟩
abbrev cX8_longestBySweeps : ByteArray := prog_10_method_6_code
def yX8_longestBySweeps : MethodName := ⟨RX8, "longestBySweeps", "(LHedgeCommittee$Motions;I)I"⟩
abbrev cX8_farthestFrom : ByteArray := prog_10_method_7_code
def yX8_farthestFrom : MethodName := ⟨RX8, "farthestFrom", "(LHedgeCommittee$Motions;II)I"⟩
abbrev cX8_bestByBranches : ByteArray := prog_10_method_8_code
def yX8_bestByBranches : MethodName := ⟨RX8, "bestByBranches", "(LHedgeCommittee$Motions;)I"⟩
abbrev cX8_bestBySets : ByteArray := prog_10_method_9_code
def yX8_bestBySets : MethodName := ⟨RX8, "bestBySets", "(LHedgeCommittee$Motions;)I"⟩
abbrev cX8_worthIfGood : ByteArray := prog_10_method_10_code
def yX8_worthIfGood : MethodName := ⟨RX8, "worthIfGood", "(LHedgeCommittee$Motions;I)I"⟩
abbrev cX8_countGoodSets : ByteArray := prog_10_method_11_code
def yX8_countGoodSets : MethodName := ⟨RX8, "countGoodSets", "(LHedgeCommittee$Motions;)I"⟩
abbrev cX8_agreeOnPaths : ByteArray := prog_10_method_12_code
def yX8_agreeOnPaths : MethodName := ⟨RX8, "agreeOnPaths", "(LHedgeCommittee$Motions;)Z"⟩
abbrev cX8_agreeOnCommonMotions : ByteArray := prog_10_method_13_code
def yX8_agreeOnCommonMotions : MethodName := ⟨RX8, "agreeOnCommonMotions", "(LHedgeCommittee$Motions;)Z"⟩
def RX9 : String := "HedgeCommittee"
def TX9 : u_T := fun k => match k with
  | 0 => ("HedgeCommittee", "state", "LHedgeCommittee$State;", true)
  | 1 => ("HedgeCommittee", "saved", "LHedgeCommittee$State;", true)
  | 2 => ("HedgeCommittee", "history", "LHedgeCommittee$History;", true)
  | 3 => ("HedgeCommittee", "trees", "LHedgeCommittee$Trees;", true)
  | 4 => ("HedgeCommittee", "program", "LHedgeCommittee$Program;", true)
  | 5 => ("HedgeCommittee", "output", "Ljava/lang/StringBuilder;", true)
  | 6 => ("HedgeCommittee", "hasSaved", "Z", false)
  | 7 => ("HedgeCommittee", "lastErrorPosition", "I", false)
  | _ => ("HedgeCommittee", "lastFailedCommand", "I", false)
def tyX9 : Nat → FieldType := fun k => match k with
  | 0 => .object "HedgeCommittee$State"
  | 1 => .object "HedgeCommittee$State"
  | 2 => .object "HedgeCommittee$History"
  | 3 => .object "HedgeCommittee$Trees"
  | 4 => .object "HedgeCommittee$Program"
  | 5 => .object "java/lang/StringBuilder"
  | 6 => .boolean
  | 7 => .int
  | _ => .int
abbrev wsX90 : List Cond := u_ws RX9 TX9 9
theorem nmX9 : ∀ a, a < 9 → ∀ b, b < 9 → a ≠ b → (TX9 a).2.1 ≠ (TX9 b).2.1 := by decide +kernel
theorem tyX9_ok : ∀ k, k < 9 → parseFieldDescriptor (TX9 k).2.2.1 = some (tyX9 k) := by decide +kernel
abbrev cX9_init : ByteArray := prog_1_method_1_code
def yX9_init : MethodName := ⟨RX9, "<init>", "()V"⟩
abbrev cX9_addHedge : ByteArray := prog_1_method_2_code
def yX9_addHedge : MethodName := ⟨RX9, "addHedge", "(III)I"⟩
abbrev cX9_propose : ByteArray := prog_1_method_3_code
def yX9_propose : MethodName := ⟨RX9, "propose", "(II)I"⟩
abbrev cX9_amend : ByteArray := prog_1_method_4_code
def yX9_amend : MethodName := ⟨RX9, "amend", "(III)I"⟩
abbrev cX9_prune : ByteArray := prog_1_method_5_code
def yX9_prune : MethodName := ⟨RX9, "prune", "(II)I"⟩
abbrev cX9_regrow : ByteArray := prog_1_method_6_code
def yX9_regrow : MethodName := ⟨RX9, "regrow", "(I)I"⟩
abbrev cX9_vote : ByteArray := prog_1_method_7_code
def yX9_vote : MethodName := ⟨RX9, "vote", "(I)C"⟩
abbrev cX9_passSeason : ByteArray := prog_1_method_8_code
def yX9_passSeason : MethodName := ⟨RX9, "passSeason", "()I"⟩
abbrev cX9_hedgeCount : ByteArray := prog_1_method_9_code
def yX9_hedgeCount : MethodName := ⟨RX9, "hedgeCount", "()I"⟩
abbrev cX9_leaves : ByteArray := prog_1_method_10_code
def yX9_leaves : MethodName := ⟨RX9, "leaves", "(I)I"⟩
abbrev cX9_thorns : ByteArray := prog_1_method_11_code
def yX9_thorns : MethodName := ⟨RX9, "thorns", "(I)I"⟩
abbrev cX9_hedgeAtRank : ByteArray := prog_1_method_12_code
def yX9_hedgeAtRank : MethodName := ⟨RX9, "hedgeAtRank", "(I)I"⟩
abbrev cX9_leavesInFavour : ByteArray := prog_1_method_13_code
def yX9_leavesInFavour : MethodName := ⟨RX9, "leavesInFavour", "(I)I"⟩
abbrev cX9_wouldVeto : ByteArray := prog_1_method_14_code
def yX9_wouldVeto : MethodName := ⟨RX9, "wouldVeto", "(II)Z"⟩
abbrev cX9_motionCount : ByteArray := prog_1_method_15_code
def yX9_motionCount : MethodName := ⟨RX9, "motionCount", "()I"⟩
abbrev cX9_motionAt : ByteArray := prog_1_method_16_code
def yX9_motionAt : MethodName := ⟨RX9, "motionAt", "(I)I"⟩
abbrev cX9_tone : ByteArray := prog_1_method_17_code
def yX9_tone : MethodName := ⟨RX9, "tone", "(I)I"⟩
abbrev cX9_weight : ByteArray := prog_1_method_18_code
def yX9_weight : MethodName := ⟨RX9, "weight", "(I)I"⟩
abbrev cX9_parent : ByteArray := prog_1_method_19_code
def yX9_parent : MethodName := ⟨RX9, "parent", "(I)I"⟩
abbrev cX9_depth : ByteArray := prog_1_method_20_code
def yX9_depth : MethodName := ⟨RX9, "depth", "(I)I"⟩
abbrev cX9_isTip : ByteArray := prog_1_method_21_code
def yX9_isTip : MethodName := ⟨RX9, "isTip", "(I)Z"⟩
abbrev cX9_branchSize : ByteArray := prog_1_method_22_code
def yX9_branchSize : MethodName := ⟨RX9, "branchSize", "(I)I"⟩
abbrev cX9_lastTip : ByteArray := prog_1_method_23_code
def yX9_lastTip : MethodName := ⟨RX9, "lastTip", "(I)I"⟩
abbrev cX9_motionAtRank : ByteArray := prog_1_method_24_code
def yX9_motionAtRank : MethodName := ⟨RX9, "motionAtRank", "(I)I"⟩
abbrev cX9_commonMotion : ByteArray := prog_1_method_25_code
def yX9_commonMotion : MethodName := ⟨RX9, "commonMotion", "(II)I"⟩
abbrev cX9_commonMotionByRows : ByteArray := prog_1_method_26_code
def yX9_commonMotionByRows : MethodName := ⟨RX9, "commonMotionByRows", "(II)I"⟩
abbrev cX9_pathSize : ByteArray := prog_1_method_27_code
def yX9_pathSize : MethodName := ⟨RX9, "pathSize", "(II)I"⟩
abbrev cX9_longestPath : ByteArray := prog_1_method_28_code
def yX9_longestPath : MethodName := ⟨RX9, "longestPath", "(I)I"⟩
abbrev cX9_longestPathBySweeps : ByteArray := prog_1_method_29_code
def yX9_longestPathBySweeps : MethodName := ⟨RX9, "longestPathBySweeps", "(I)I"⟩
abbrev cX9_bestWorth : ByteArray := prog_1_method_30_code
def yX9_bestWorth : MethodName := ⟨RX9, "bestWorth", "()I"⟩
abbrev cX9_bestWorthBySets : ByteArray := prog_1_method_31_code
def yX9_bestWorthBySets : MethodName := ⟨RX9, "bestWorthBySets", "()I"⟩
abbrev cX9_goodSets : ByteArray := prog_1_method_32_code
def yX9_goodSets : MethodName := ⟨RX9, "goodSets", "()I"⟩
abbrev cX9_season : ByteArray := prog_1_method_33_code
def yX9_season : MethodName := ⟨RX9, "season", "()I"⟩
abbrev cX9_minutesIn : ByteArray := prog_1_method_34_code
def yX9_minutesIn : MethodName := ⟨RX9, "minutesIn", "(I)I"⟩
abbrev cX9_adoptedWeight : ByteArray := prog_1_method_35_code
def yX9_adoptedWeight : MethodName := ⟨RX9, "adoptedWeight", "()I"⟩
abbrev cX9_weightTotal : ByteArray := prog_1_method_36_code
def yX9_weightTotal : MethodName := ⟨RX9, "weightTotal", "()I"⟩
abbrev cX9_weightByAccounts : ByteArray := prog_1_method_37_code
def yX9_weightByAccounts : MethodName := ⟨RX9, "weightByAccounts", "()I"⟩
abbrev cX9_meanLeaves : ByteArray := prog_1_method_38_code
def yX9_meanLeaves : MethodName := ⟨RX9, "meanLeaves", "()D"⟩
abbrev cX9_carriedShare : ByteArray := prog_1_method_39_code
def yX9_carriedShare : MethodName := ⟨RX9, "carriedShare", "()F"⟩
abbrev cX9_isConsistent : ByteArray := prog_1_method_40_code
def yX9_isConsistent : MethodName := ⟨RX9, "isConsistent", "()Z"⟩
abbrev cX9_append : ByteArray := prog_1_method_41_code
def yX9_append : MethodName := ⟨RX9, "append", "(C)I"⟩
abbrev cX9_run : ByteArray := prog_1_method_42_code
def yX9_run : MethodName := ⟨RX9, "run", "()I"⟩
abbrev cX9_errorPosition : ByteArray := prog_1_method_43_code
def yX9_errorPosition : MethodName := ⟨RX9, "errorPosition", "()I"⟩
abbrev cX9_failedCommand : ByteArray := prog_1_method_44_code
def yX9_failedCommand : MethodName := ⟨RX9, "failedCommand", "()I"⟩
abbrev cX9_writeBranch : ByteArray := prog_1_method_45_code
def yX9_writeBranch : MethodName := ⟨RX9, "writeBranch", "(I)I"⟩
abbrev cX9_outputAt : ByteArray := prog_1_method_46_code
def yX9_outputAt : MethodName := ⟨RX9, "outputAt", "(I)C"⟩
abbrev cX9_undo : ByteArray := prog_1_method_47_code
def yX9_undo : MethodName := ⟨RX9, "undo", "()I"⟩
abbrev cX9_save : ByteArray := prog_1_method_48_code
def yX9_save : MethodName := ⟨RX9, "save", "()V"⟩
abbrev cX9_restore : ByteArray := prog_1_method_49_code
def yX9_restore : MethodName := ⟨RX9, "restore", "()V"⟩
abbrev cX9_requireHedge : ByteArray := prog_1_method_50_code
def yX9_requireHedge : MethodName := ⟨RX9, "requireHedge", "(I)V"⟩
abbrev cX9_requirePosition : ByteArray := prog_1_method_51_code
def yX9_requirePosition : MethodName := ⟨RX9, "requirePosition", "(I)V"⟩
abbrev cX9_idOfCommon : ByteArray := prog_1_method_52_code
def yX9_idOfCommon : MethodName := ⟨RX9, "idOfCommon", "(I)I"⟩
abbrev cX9_firstFailure : ByteArray := prog_1_method_53_code
def yX9_firstFailure : MethodName := ⟨RX9, "firstFailure", "()I"⟩
abbrev cX9_succeeds : ByteArray := prog_1_method_54_code
def yX9_succeeds : MethodName := ⟨RX9, "succeeds", "(LHedgeCommittee$Command;)Z"⟩
abbrev cX9_writePart : ByteArray := prog_1_method_55_code
def yX9_writePart : MethodName := ⟨RX9, "writePart", "(LHedgeCommittee$Motions;IILjava/lang/StringBuilder;)V"⟩
def RX10 : String := "HedgeCommitteeModel"
def TX10 : u_T := fun k => match k with
  | 0 => ("HedgeCommitteeModel", "m", "[I", true)
  | 1 => ("HedgeCommitteeModel", "aside", "[I", true)
  | 2 => ("HedgeCommitteeModel", "saved", "[I", true)
  | 3 => ("HedgeCommitteeModel", "isSaved", "Z", false)
  | 4 => ("HedgeCommitteeModel", "past", "[I", true)
  | 5 => ("HedgeCommitteeModel", "changes", "I", false)
  | 6 => ("HedgeCommitteeModel", "errorAt", "I", false)
  | 7 => ("HedgeCommitteeModel", "failed", "I", false)
  | 8 => ("HedgeCommitteeModel", "thrown", "I", false)
  | 9 => ("HedgeCommitteeModel", "input", "[I", true)
  | 10 => ("HedgeCommitteeModel", "inputMany", "I", false)
  | 11 => ("HedgeCommitteeModel", "with", "[I", true)
  | 12 => ("HedgeCommitteeModel", "without", "[I", true)
  | 13 => ("HedgeCommitteeModel", "setsWith", "[I", true)
  | 14 => ("HedgeCommitteeModel", "setsWithout", "[I", true)
  | 15 => ("HedgeCommitteeModel", "worthAll", "I", false)
  | 16 => ("HedgeCommitteeModel", "setsAll", "I", false)
  | 17 => ("HedgeCommitteeModel", "letters", "[C", true)
  | 18 => ("HedgeCommitteeModel", "begins0", "[I", true)
  | 19 => ("HedgeCommitteeModel", "commands", "[I", true)
  | 20 => ("HedgeCommitteeModel", "commandMany", "I", false)
  | 21 => ("HedgeCommitteeModel", "place0", "I", false)
  | 22 => ("HedgeCommitteeModel", "size0", "I", false)
  | 23 => ("HedgeCommitteeModel", "isWrong", "Z", false)
  | 24 => ("HedgeCommitteeModel", "line", "[I", true)
  | _ => ("HedgeCommitteeModel", "lineMany", "I", false)
def tyX10 : Nat → FieldType := fun k => match k with
  | 0 => .array .int
  | 1 => .array .int
  | 2 => .array .int
  | 3 => .boolean
  | 4 => .array .int
  | 5 => .int
  | 6 => .int
  | 7 => .int
  | 8 => .int
  | 9 => .array .int
  | 10 => .int
  | 11 => .array .int
  | 12 => .array .int
  | 13 => .array .int
  | 14 => .array .int
  | 15 => .int
  | 16 => .int
  | 17 => .array .char
  | 18 => .array .int
  | 19 => .array .int
  | 20 => .int
  | 21 => .int
  | 22 => .int
  | 23 => .boolean
  | 24 => .array .int
  | _ => .int
abbrev wsX100 : List Cond := u_ws RX10 TX10 26
theorem nmX10 : ∀ a, a < 26 → ∀ b, b < 26 → a ≠ b → (TX10 a).2.1 ≠ (TX10 b).2.1 := by decide +kernel
theorem tyX10_ok : ∀ k, k < 26 → parseFieldDescriptor (TX10 k).2.2.1 = some (tyX10 k) := by decide +kernel
abbrev cX10_init : ByteArray := prog_12_method_1_code
def yX10_init : MethodName := ⟨RX10, "<init>", "()V"⟩
abbrev cX10_thrown : ByteArray := prog_12_method_2_code
def yX10_thrown : MethodName := ⟨RX10, "thrown", "()I"⟩
abbrev cX10_throwing : ByteArray := prog_12_method_3_code
def yX10_throwing : MethodName := ⟨RX10, "throwing", "(I)I"⟩
abbrev cX10_in : ByteArray := prog_12_method_4_code
def yX10_in : MethodName := ⟨RX10, "in", "(JJJ)Z"⟩
abbrev cX10_starts : ByteArray := prog_12_method_5_code
def yX10_starts : MethodName := ⟨RX10, "starts", "()V"⟩
abbrev cX10_changed : ByteArray := prog_12_method_6_code
def yX10_changed : MethodName := ⟨RX10, "changed", "(I)I"⟩
abbrev cX10_hedgeAt : ByteArray := prog_12_method_7_code
def yX10_hedgeAt : MethodName := ⟨RX10, "hedgeAt", "(I)I"⟩
abbrev cX10_isHedge : ByteArray := prog_12_method_8_code
def yX10_isHedge : MethodName := ⟨RX10, "isHedge", "(I)Z"⟩
abbrev cX10_of : ByteArray := prog_12_method_9_code
def yX10_of : MethodName := ⟨RX10, "of", "(II)I"⟩
abbrev cX10_find : ByteArray := prog_12_method_10_code
def yX10_find : MethodName := ⟨RX10, "find", "(I)I"⟩
abbrev cX10_above : ByteArray := prog_12_method_11_code
def yX10_above : MethodName := ⟨RX10, "above", "(I)I"⟩
abbrev cX10_deep : ByteArray := prog_12_method_12_code
def yX10_deep : MethodName := ⟨RX10, "deep", "(I)I"⟩
abbrev cX10_isTipAt : ByteArray := prog_12_method_13_code
def yX10_isTipAt : MethodName := ⟨RX10, "isTipAt", "(I)Z"⟩
abbrev cX10_isIn : ByteArray := prog_12_method_14_code
def yX10_isIn : MethodName := ⟨RX10, "isIn", "(II)Z"⟩
abbrev cX10_lastTipAt : ByteArray := prog_12_method_15_code
def yX10_lastTipAt : MethodName := ⟨RX10, "lastTipAt", "(I)I"⟩
abbrev cX10_far : ByteArray := prog_12_method_16_code
def yX10_far : MethodName := ⟨RX10, "far", "(II)I"⟩
abbrev cX10_vetoes : ByteArray := prog_12_method_17_code
def yX10_vetoes : MethodName := ⟨RX10, "vetoes", "(II)Z"⟩
abbrev cX10_favour : ByteArray := prog_12_method_18_code
def yX10_favour : MethodName := ⟨RX10, "favour", "(I)I"⟩
abbrev cX10_leavesAll : ByteArray := prog_12_method_19_code
def yX10_leavesAll : MethodName := ⟨RX10, "leavesAll", "()I"⟩
abbrev cX10_drops : ByteArray := prog_12_method_20_code
def yX10_drops : MethodName := ⟨RX10, "drops", "(I)V"⟩
abbrev cX10_adds : ByteArray := prog_12_method_21_code
def yX10_adds : MethodName := ⟨RX10, "adds", "(III)I"⟩
abbrev cX10_hedgeIt : ByteArray := prog_12_method_22_code
def yX10_hedgeIt : MethodName := ⟨RX10, "hedgeIt", "(III)I"⟩
abbrev cX10_addHedge : ByteArray := prog_12_method_23_code
def yX10_addHedge : MethodName := ⟨RX10, "addHedge", "(III)I"⟩
abbrev cX10_mainIt : ByteArray := prog_12_method_24_code
def yX10_mainIt : MethodName := ⟨RX10, "mainIt", "(II)I"⟩
abbrev cX10_propose : ByteArray := prog_12_method_25_code
def yX10_propose : MethodName := ⟨RX10, "propose", "(II)I"⟩
abbrev cX10_amendIt : ByteArray := prog_12_method_26_code
def yX10_amendIt : MethodName := ⟨RX10, "amendIt", "(III)I"⟩
abbrev cX10_amend : ByteArray := prog_12_method_27_code
def yX10_amend : MethodName := ⟨RX10, "amend", "(III)I"⟩
abbrev cX10_pruneIt : ByteArray := prog_12_method_28_code
def yX10_pruneIt : MethodName := ⟨RX10, "pruneIt", "(II)I"⟩
abbrev cX10_prune : ByteArray := prog_12_method_29_code
def yX10_prune : MethodName := ⟨RX10, "prune", "(II)I"⟩
abbrev cX10_regrowIt : ByteArray := prog_12_method_30_code
def yX10_regrowIt : MethodName := ⟨RX10, "regrowIt", "(I)I"⟩
abbrev cX10_regrow : ByteArray := prog_12_method_31_code
def yX10_regrow : MethodName := ⟨RX10, "regrow", "(I)I"⟩
abbrev cX10_carries : ByteArray := prog_12_method_32_code
def yX10_carries : MethodName := ⟨RX10, "carries", "(I)V"⟩
abbrev cX10_voteIt : ByteArray := prog_12_method_33_code
def yX10_voteIt : MethodName := ⟨RX10, "voteIt", "(I)I"⟩
abbrev cX10_vote : ByteArray := prog_12_method_34_code
def yX10_vote : MethodName := ⟨RX10, "vote", "(I)C"⟩
abbrev cX10_seasonIt : ByteArray := prog_12_method_35_code
def yX10_seasonIt : MethodName := ⟨RX10, "seasonIt", "()I"⟩
abbrev cX10_passSeason : ByteArray := prog_12_method_36_code
def yX10_passSeason : MethodName := ⟨RX10, "passSeason", "()I"⟩
abbrev cX10_hedgeCount : ByteArray := prog_12_method_37_code
def yX10_hedgeCount : MethodName := ⟨RX10, "hedgeCount", "()I"⟩
abbrev cX10_leaves : ByteArray := prog_12_method_38_code
def yX10_leaves : MethodName := ⟨RX10, "leaves", "(I)I"⟩
abbrev cX10_thorns : ByteArray := prog_12_method_39_code
def yX10_thorns : MethodName := ⟨RX10, "thorns", "(I)I"⟩
abbrev cX10_isHedgeAhead : ByteArray := prog_12_method_40_code
def yX10_isHedgeAhead : MethodName := ⟨RX10, "isHedgeAhead", "(II)Z"⟩
abbrev cX10_hedgeAtRank : ByteArray := prog_12_method_41_code
def yX10_hedgeAtRank : MethodName := ⟨RX10, "hedgeAtRank", "(I)I"⟩
abbrev cX10_leavesInFavour : ByteArray := prog_12_method_42_code
def yX10_leavesInFavour : MethodName := ⟨RX10, "leavesInFavour", "(I)I"⟩
abbrev cX10_wouldVeto : ByteArray := prog_12_method_43_code
def yX10_wouldVeto : MethodName := ⟨RX10, "wouldVeto", "(II)Z"⟩
abbrev cX10_motionCount : ByteArray := prog_12_method_44_code
def yX10_motionCount : MethodName := ⟨RX10, "motionCount", "()I"⟩
abbrev cX10_motionAt : ByteArray := prog_12_method_45_code
def yX10_motionAt : MethodName := ⟨RX10, "motionAt", "(I)I"⟩
abbrev cX10_ofMotion : ByteArray := prog_12_method_46_code
def yX10_ofMotion : MethodName := ⟨RX10, "ofMotion", "(II)I"⟩
abbrev cX10_tone : ByteArray := prog_12_method_47_code
def yX10_tone : MethodName := ⟨RX10, "tone", "(I)I"⟩
abbrev cX10_weight : ByteArray := prog_12_method_48_code
def yX10_weight : MethodName := ⟨RX10, "weight", "(I)I"⟩
abbrev cX10_parent : ByteArray := prog_12_method_49_code
def yX10_parent : MethodName := ⟨RX10, "parent", "(I)I"⟩
abbrev cX10_depth : ByteArray := prog_12_method_50_code
def yX10_depth : MethodName := ⟨RX10, "depth", "(I)I"⟩
abbrev cX10_isTip : ByteArray := prog_12_method_51_code
def yX10_isTip : MethodName := ⟨RX10, "isTip", "(I)Z"⟩
abbrev cX10_branchSize : ByteArray := prog_12_method_52_code
def yX10_branchSize : MethodName := ⟨RX10, "branchSize", "(I)I"⟩
abbrev cX10_lastTip : ByteArray := prog_12_method_53_code
def yX10_lastTip : MethodName := ⟨RX10, "lastTip", "(I)I"⟩
abbrev cX10_isMotionAhead : ByteArray := prog_12_method_54_code
def yX10_isMotionAhead : MethodName := ⟨RX10, "isMotionAhead", "(II)Z"⟩
abbrev cX10_motionAtRank : ByteArray := prog_12_method_55_code
def yX10_motionAtRank : MethodName := ⟨RX10, "motionAtRank", "(I)I"⟩
abbrev cX10_common : ByteArray := prog_12_method_56_code
def yX10_common : MethodName := ⟨RX10, "common", "(II)I"⟩
abbrev cX10_commonMotion : ByteArray := prog_12_method_57_code
def yX10_commonMotion : MethodName := ⟨RX10, "commonMotion", "(II)I"⟩
abbrev cX10_commonMotionByRows : ByteArray := prog_12_method_58_code
def yX10_commonMotionByRows : MethodName := ⟨RX10, "commonMotionByRows", "(II)I"⟩
abbrev cX10_steps : ByteArray := prog_12_method_59_code
def yX10_steps : MethodName := ⟨RX10, "steps", "(II)I"⟩
abbrev cX10_pathSize : ByteArray := prog_12_method_60_code
def yX10_pathSize : MethodName := ⟨RX10, "pathSize", "(II)I"⟩
abbrev cX10_longestPath : ByteArray := prog_12_method_61_code
def yX10_longestPath : MethodName := ⟨RX10, "longestPath", "(I)I"⟩
abbrev cX10_longestPathBySweeps : ByteArray := prog_12_method_62_code
def yX10_longestPathBySweeps : MethodName := ⟨RX10, "longestPathBySweeps", "(I)I"⟩
abbrev cX10_measures : ByteArray := prog_12_method_63_code
def yX10_measures : MethodName := ⟨RX10, "measures", "()V"⟩
abbrev cX10_bestWorth : ByteArray := prog_12_method_64_code
def yX10_bestWorth : MethodName := ⟨RX10, "bestWorth", "()I"⟩
abbrev cX10_bestWorthBySets : ByteArray := prog_12_method_65_code
def yX10_bestWorthBySets : MethodName := ⟨RX10, "bestWorthBySets", "()I"⟩
abbrev cX10_goodSets : ByteArray := prog_12_method_66_code
def yX10_goodSets : MethodName := ⟨RX10, "goodSets", "()I"⟩
abbrev cX10_season : ByteArray := prog_12_method_67_code
def yX10_season : MethodName := ⟨RX10, "season", "()I"⟩
abbrev cX10_minutesIn : ByteArray := prog_12_method_68_code
def yX10_minutesIn : MethodName := ⟨RX10, "minutesIn", "(I)I"⟩
abbrev cX10_adoptedWeight : ByteArray := prog_12_method_69_code
def yX10_adoptedWeight : MethodName := ⟨RX10, "adoptedWeight", "()I"⟩
abbrev cX10_weightTotal : ByteArray := prog_12_method_70_code
def yX10_weightTotal : MethodName := ⟨RX10, "weightTotal", "()I"⟩
abbrev cX10_weightByAccounts : ByteArray := prog_12_method_71_code
def yX10_weightByAccounts : MethodName := ⟨RX10, "weightByAccounts", "()I"⟩
abbrev cX10_meanLeaves : ByteArray := prog_12_method_72_code
def yX10_meanLeaves : MethodName := ⟨RX10, "meanLeaves", "()D"⟩
abbrev cX10_carriedShare : ByteArray := prog_12_method_73_code
def yX10_carriedShare : MethodName := ⟨RX10, "carriedShare", "()F"⟩
abbrev cX10_isConsistent : ByteArray := prog_12_method_74_code
def yX10_isConsistent : MethodName := ⟨RX10, "isConsistent", "()Z"⟩
abbrev cX10_append : ByteArray := prog_12_method_75_code
def yX10_append : MethodName := ⟨RX10, "append", "(C)I"⟩
abbrev cX10_here : ByteArray := prog_12_method_76_code
def yX10_here : MethodName := ⟨RX10, "here", "()I"⟩
abbrev cX10_expects : ByteArray := prog_12_method_77_code
def yX10_expects : MethodName := ⟨RX10, "expects", "(I)V"⟩
abbrev cX10_digit : ByteArray := prog_12_method_78_code
def yX10_digit : MethodName := ⟨RX10, "digit", "()I"⟩
abbrev cX10_number : ByteArray := prog_12_method_79_code
def yX10_number : MethodName := ⟨RX10, "number", "()I"⟩
abbrev cX10_digitBehind : ByteArray := prog_12_method_80_code
def yX10_digitBehind : MethodName := ⟨RX10, "digitBehind", "()I"⟩
abbrev cX10_numberBehind : ByteArray := prog_12_method_81_code
def yX10_numberBehind : MethodName := ⟨RX10, "numberBehind", "()I"⟩
abbrev cX10_likeness : ByteArray := prog_12_method_82_code
def yX10_likeness : MethodName := ⟨RX10, "likeness", "(I)I"⟩
abbrev cX10_readArguments : ByteArray := prog_12_method_83_code
def yX10_readArguments : MethodName := ⟨RX10, "readArguments", "(II)V"⟩
abbrev cX10_readCommand : ByteArray := prog_12_method_84_code
def yX10_readCommand : MethodName := ⟨RX10, "readCommand", "()V"⟩
abbrev cX10_does : ByteArray := prog_12_method_85_code
def yX10_does : MethodName := ⟨RX10, "does", "(I)V"⟩
abbrev cX10_run : ByteArray := prog_12_method_86_code
def yX10_run : MethodName := ⟨RX10, "run", "()I"⟩
abbrev cX10_errorPosition : ByteArray := prog_12_method_87_code
def yX10_errorPosition : MethodName := ⟨RX10, "errorPosition", "()I"⟩
abbrev cX10_failedCommand : ByteArray := prog_12_method_88_code
def yX10_failedCommand : MethodName := ⟨RX10, "failedCommand", "()I"⟩
abbrev cX10_sign : ByteArray := prog_12_method_89_code
def yX10_sign : MethodName := ⟨RX10, "sign", "(I)V"⟩
abbrev cX10_writesWhole : ByteArray := prog_12_method_90_code
def yX10_writesWhole : MethodName := ⟨RX10, "writesWhole", "(I)V"⟩
abbrev cX10_childFrom : ByteArray := prog_12_method_91_code
def yX10_childFrom : MethodName := ⟨RX10, "childFrom", "(II)I"⟩
abbrev cX10_writeBranch : ByteArray := prog_12_method_92_code
def yX10_writeBranch : MethodName := ⟨RX10, "writeBranch", "(I)I"⟩
abbrev cX10_next : ByteArray := prog_12_method_93_code
def yX10_next : MethodName := ⟨RX10, "next", "(II)I"⟩
abbrev cX10_outputAt : ByteArray := prog_12_method_94_code
def yX10_outputAt : MethodName := ⟨RX10, "outputAt", "(I)C"⟩
abbrev cX10_undo : ByteArray := prog_12_method_95_code
def yX10_undo : MethodName := ⟨RX10, "undo", "()I"⟩
abbrev cX10_save : ByteArray := prog_12_method_96_code
def yX10_save : MethodName := ⟨RX10, "save", "()V"⟩
abbrev cX10_restore : ByteArray := prog_12_method_97_code
def yX10_restore : MethodName := ⟨RX10, "restore", "()V"⟩
def RJx145de : String := "java/io/Serializable"
def TJx145de : u_T := fun k => match k with
  | _ => ("", "", "", false)
def tyJx145de : Nat → FieldType := fun k => match k with
  | _ => .int
abbrev wsJx145de0 : List Cond := u_ws RJx145de TJx145de 0
theorem nmJx145de : ∀ a, a < 0 → ∀ b, b < 0 → a ≠ b → (TJx145de a).2.1 ≠ (TJx145de b).2.1 := by decide +kernel
theorem tyJx145de_ok : ∀ k, k < 0 → parseFieldDescriptor (TJx145de k).2.2.1 = some (tyJx145de k) := by decide +kernel
def RJ5 : String := "java/lang/AbstractStringBuilder"
def TJ5 : u_T := fun k => match k with
  | _ => ("", "", "", false)
def tyJ5 : Nat → FieldType := fun k => match k with
  | _ => .int
abbrev wsJ50 : List Cond := u_ws RJ5 TJ5 0
theorem nmJ5 : ∀ a, a < 0 → ∀ b, b < 0 → a ≠ b → (TJ5 a).2.1 ≠ (TJ5 b).2.1 := by decide +kernel
theorem tyJ5_ok : ∀ k, k < 0 → parseFieldDescriptor (TJ5 k).2.2.1 = some (tyJ5 k) := by decide +kernel
abbrev cJ5_init_d00df : ByteArray := prog_14_method_2_code
def yJ5_init_d00df : MethodName := ⟨RJ5, "<init>", "(I)V"⟩
abbrev cJ5_length_8abf5 : ByteArray := prog_14_method_6_code
def yJ5_length_8abf5 : MethodName := ⟨RJ5, "length", "()I"⟩
abbrev cJ5_ensureCapacityInternal_d00df : ByteArray := prog_14_method_9_code
def yJ5_ensureCapacityInternal_d00df : MethodName := ⟨RJ5, "ensureCapacityInternal", "(I)V"⟩
abbrev cJ5_newCapacity_0f7a4 : ByteArray := prog_14_method_10_code
def yJ5_newCapacity_0f7a4 : MethodName := ⟨RJ5, "newCapacity", "(I)I"⟩
abbrev cJ5_inflate_da8c8 : ByteArray := prog_14_method_11_code
def yJ5_inflate_da8c8 : MethodName := ⟨RJ5, "inflate", "()V"⟩
abbrev cJ5_setLength_d00df : ByteArray := prog_14_method_13_code
def yJ5_setLength_d00df : MethodName := ⟨RJ5, "setLength", "(I)V"⟩
abbrev cJ5_charAt_5068e : ByteArray := prog_14_method_14_code
def yJ5_charAt_5068e : MethodName := ⟨RJ5, "charAt", "(I)C"⟩
abbrev cJ5_append_cf1ce : ByteArray := prog_14_method_22_code
def yJ5_append_cf1ce : MethodName := ⟨RJ5, "append", "(Ljava/lang/String;)Ljava/lang/AbstractStringBuilder;"⟩
abbrev cJ5_appendNull_278bc : ByteArray := prog_14_method_26_code
def yJ5_appendNull_278bc : MethodName := ⟨RJ5, "appendNull", "()Ljava/lang/AbstractStringBuilder;"⟩
abbrev cJ5_append_3fe6f : ByteArray := prog_14_method_31_code
def yJ5_append_3fe6f : MethodName := ⟨RJ5, "append", "(C)Ljava/lang/AbstractStringBuilder;"⟩
abbrev cJ5_append_c97b9 : ByteArray := prog_14_method_32_code
def yJ5_append_c97b9 : MethodName := ⟨RJ5, "append", "(I)Ljava/lang/AbstractStringBuilder;"⟩
abbrev cJ5_getValue_6d5f1 : ByteArray := prog_14_method_64_code
def yJ5_getValue_6d5f1 : MethodName := ⟨RJ5, "getValue", "()[B"⟩
abbrev cJ5_isLatin1_aae02 : ByteArray := prog_14_method_68_code
def yJ5_isLatin1_aae02 : MethodName := ⟨RJ5, "isLatin1", "()Z"⟩
abbrev cJ5_inflateIfNeededFor_a7421 : ByteArray := prog_14_method_71_code
def yJ5_inflateIfNeededFor_a7421 : MethodName := ⟨RJ5, "inflateIfNeededFor", "(Ljava/lang/String;)V"⟩
abbrev cJ5_putStringAt_47b60 : ByteArray := prog_14_method_73_code
def yJ5_putStringAt_47b60 : MethodName := ⟨RJ5, "putStringAt", "(ILjava/lang/String;)V"⟩
def RJx2cfe8 : String := "java/lang/Appendable"
def TJx2cfe8 : u_T := fun k => match k with
  | _ => ("", "", "", false)
def tyJx2cfe8 : Nat → FieldType := fun k => match k with
  | _ => .int
abbrev wsJx2cfe80 : List Cond := u_ws RJx2cfe8 TJx2cfe8 0
theorem nmJx2cfe8 : ∀ a, a < 0 → ∀ b, b < 0 → a ≠ b → (TJx2cfe8 a).2.1 ≠ (TJx2cfe8 b).2.1 := by decide +kernel
theorem tyJx2cfe8_ok : ∀ k, k < 0 → parseFieldDescriptor (TJx2cfe8 k).2.2.1 = some (tyJx2cfe8 k) := by decide +kernel
def RJx00060 : String := "java/lang/ArrayIndexOutOfBoundsException"
def TJx00060 : u_T := fun k => match k with
  | 0 => ("java/lang/Throwable", "backtrace", "Ljava/lang/Object;", false)
  | 1 => ("java/lang/Throwable", "detailMessage", "Ljava/lang/String;", false)
  | 2 => ("java/lang/Throwable", "cause", "Ljava/lang/Throwable;", false)
  | 3 => ("java/lang/Throwable", "stackTrace", "[Ljava/lang/StackTraceElement;", false)
  | 4 => ("java/lang/Throwable", "depth", "I", false)
  | _ => ("java/lang/Throwable", "suppressedExceptions", "Ljava/util/List;", false)
def tyJx00060 : Nat → FieldType := fun k => match k with
  | 0 => .object "java/lang/Object"
  | 1 => .object "java/lang/String"
  | 2 => .object "java/lang/Throwable"
  | 3 => .array (.object "java/lang/StackTraceElement")
  | 4 => .int
  | _ => .object "java/util/List"
abbrev wsJx000600 : List Cond := u_ws RJx00060 TJx00060 6
theorem nmJx00060 : ∀ a, a < 6 → ∀ b, b < 6 → a ≠ b → (TJx00060 a).2.1 ≠ (TJx00060 b).2.1 := by decide +kernel
theorem tyJx00060_ok : ∀ k, k < 6 → parseFieldDescriptor (TJx00060 k).2.2.1 = some (tyJx00060 k) := by decide +kernel
abbrev cJx00060_init_a7421 : ByteArray := prog_17_method_2_code
def yJx00060_init_a7421 : MethodName := ⟨RJx00060, "<init>", "(Ljava/lang/String;)V"⟩
abbrev cJx00060_init_d00df : ByteArray := prog_17_method_3_code
def yJx00060_init_d00df : MethodName := ⟨RJx00060, "<init>", "(I)V"⟩
def RJx9f9b0 : String := "java/lang/CharSequence"
def TJx9f9b0 : u_T := fun k => match k with
  | _ => ("", "", "", false)
def tyJx9f9b0 : Nat → FieldType := fun k => match k with
  | _ => .int
abbrev wsJx9f9b00 : List Cond := u_ws RJx9f9b0 TJx9f9b0 0
theorem nmJx9f9b0 : ∀ a, a < 0 → ∀ b, b < 0 → a ≠ b → (TJx9f9b0 a).2.1 ≠ (TJx9f9b0 b).2.1 := by decide +kernel
theorem tyJx9f9b0_ok : ∀ k, k < 0 → parseFieldDescriptor (TJx9f9b0 k).2.2.1 = some (tyJx9f9b0 k) := by decide +kernel
def RJx8e188 : String := "java/lang/Cloneable"
def TJx8e188 : u_T := fun k => match k with
  | _ => ("", "", "", false)
def tyJx8e188 : Nat → FieldType := fun k => match k with
  | _ => .int
abbrev wsJx8e1880 : List Cond := u_ws RJx8e188 TJx8e188 0
theorem nmJx8e188 : ∀ a, a < 0 → ∀ b, b < 0 → a ≠ b → (TJx8e188 a).2.1 ≠ (TJx8e188 b).2.1 := by decide +kernel
theorem tyJx8e188_ok : ∀ k, k < 0 → parseFieldDescriptor (TJx8e188 k).2.2.1 = some (tyJx8e188 k) := by decide +kernel
def RJxb160c : String := "java/lang/Comparable"
def TJxb160c : u_T := fun k => match k with
  | _ => ("", "", "", false)
def tyJxb160c : Nat → FieldType := fun k => match k with
  | _ => .int
abbrev wsJxb160c0 : List Cond := u_ws RJxb160c TJxb160c 0
theorem nmJxb160c : ∀ a, a < 0 → ∀ b, b < 0 → a ≠ b → (TJxb160c a).2.1 ≠ (TJxb160c b).2.1 := by decide +kernel
theorem tyJxb160c_ok : ∀ k, k < 0 → parseFieldDescriptor (TJxb160c k).2.2.1 = some (tyJxb160c k) := by decide +kernel
def RJx29ce0 : String := "java/lang/Enum"
def TJx29ce0 : u_T := fun k => match k with
  | _ => ("", "", "", false)
def tyJx29ce0 : Nat → FieldType := fun k => match k with
  | _ => .int
abbrev wsJx29ce00 : List Cond := u_ws RJx29ce0 TJx29ce0 0
theorem nmJx29ce0 : ∀ a, a < 0 → ∀ b, b < 0 → a ≠ b → (TJx29ce0 a).2.1 ≠ (TJx29ce0 b).2.1 := by decide +kernel
theorem tyJx29ce0_ok : ∀ k, k < 0 → parseFieldDescriptor (TJx29ce0 k).2.2.1 = some (tyJx29ce0 k) := by decide +kernel
abbrev cJx29ce0_ordinal_8abf5 : ByteArray := prog_21_method_2_code
def yJx29ce0_ordinal_8abf5 : MethodName := ⟨RJx29ce0, "ordinal", "()I"⟩
def RJ6 : String := "java/lang/Integer"
def TJ6 : u_T := fun k => match k with
  | _ => ("", "", "", false)
def tyJ6 : Nat → FieldType := fun k => match k with
  | _ => .int
abbrev wsJ60 : List Cond := u_ws RJ6 TJ6 0
theorem nmJ6 : ∀ a, a < 0 → ∀ b, b < 0 → a ≠ b → (TJ6 a).2.1 ≠ (TJ6 b).2.1 := by decide +kernel
theorem tyJ6_ok : ∀ k, k < 0 → parseFieldDescriptor (TJ6 k).2.2.1 = some (tyJ6 k) := by decide +kernel
abbrev cJ6_getChars_ba4f3 : ByteArray := prog_26_method_12_code
def yJ6_getChars_ba4f3 : MethodName := ⟨RJ6, "getChars", "(II[B)I"⟩
abbrev cJ6_stringSize_0f7a4 : ByteArray := prog_26_method_13_code
def yJ6_stringSize_0f7a4 : MethodName := ⟨RJ6, "stringSize", "(I)I"⟩
def RJxab1ab : String := "java/lang/Iterable"
def TJxab1ab : u_T := fun k => match k with
  | _ => ("", "", "", false)
def tyJxab1ab : Nat → FieldType := fun k => match k with
  | _ => .int
abbrev wsJxab1ab0 : List Cond := u_ws RJxab1ab TJxab1ab 0
theorem nmJxab1ab : ∀ a, a < 0 → ∀ b, b < 0 → a ≠ b → (TJxab1ab a).2.1 ≠ (TJxab1ab b).2.1 := by decide +kernel
theorem tyJxab1ab_ok : ∀ k, k < 0 → parseFieldDescriptor (TJxab1ab k).2.2.1 = some (tyJxab1ab k) := by decide +kernel
def RJ9 : String := "java/lang/Math"
def TJ9 : u_T := fun k => match k with
  | _ => ("", "", "", false)
def tyJ9 : Nat → FieldType := fun k => match k with
  | _ => .int
abbrev wsJ90 : List Cond := u_ws RJ9 TJ9 0
theorem nmJ9 : ∀ a, a < 0 → ∀ b, b < 0 → a ≠ b → (TJ9 a).2.1 ≠ (TJ9 b).2.1 := by decide +kernel
theorem tyJ9_ok : ∀ k, k < 0 → parseFieldDescriptor (TJ9 k).2.2.1 = some (tyJ9 k) := by decide +kernel
abbrev cJ9_abs_0f7a4 : ByteArray := prog_28_method_59_code
def yJ9_abs_0f7a4 : MethodName := ⟨RJ9, "abs", "(I)I"⟩
abbrev cJ9_max_7cf53 : ByteArray := prog_28_method_65_code
def yJ9_max_7cf53 : MethodName := ⟨RJ9, "max", "(II)I"⟩
abbrev cJ9_min_7cf53 : ByteArray := prog_28_method_69_code
def yJ9_min_7cf53 : MethodName := ⟨RJ9, "min", "(II)I"⟩
def RJxd2413 : String := "java/lang/Number"
def TJxd2413 : u_T := fun k => match k with
  | _ => ("", "", "", false)
def tyJxd2413 : Nat → FieldType := fun k => match k with
  | _ => .int
abbrev wsJxd24130 : List Cond := u_ws RJxd2413 TJxd2413 0
theorem nmJxd2413 : ∀ a, a < 0 → ∀ b, b < 0 → a ≠ b → (TJxd2413 a).2.1 ≠ (TJxd2413 b).2.1 := by decide +kernel
theorem tyJxd2413_ok : ∀ k, k < 0 → parseFieldDescriptor (TJxd2413 k).2.2.1 = some (tyJxd2413 k) := by decide +kernel
def RJ0 : String := "java/lang/String"
def TJ0 : u_T := fun k => match k with
  | 0 => ("java/lang/String", "value", "[B", true)
  | 1 => ("java/lang/String", "coder", "B", true)
  | 2 => ("java/lang/String", "hash", "I", false)
  | _ => ("java/lang/String", "hashIsZero", "Z", false)
def tyJ0 : Nat → FieldType := fun k => match k with
  | 0 => .array .byte
  | 1 => .byte
  | 2 => .int
  | _ => .boolean
abbrev wsJ00 : List Cond := u_ws RJ0 TJ0 4
theorem nmJ0 : ∀ a, a < 4 → ∀ b, b < 4 → a ≠ b → (TJ0 a).2.1 ≠ (TJ0 b).2.1 := by decide +kernel
theorem tyJ0_ok : ∀ k, k < 4 → parseFieldDescriptor (TJ0 k).2.2.1 = some (tyJ0 k) := by decide +kernel
abbrev cJ0_init_81219 : ByteArray := prog_31_method_53_code
def yJ0_init_81219 : MethodName := ⟨RJ0, "<init>", "(Ljava/lang/StringBuilder;)V"⟩
abbrev cJ0_length_8abf5 : ByteArray := prog_31_method_54_code
def yJ0_length_8abf5 : MethodName := ⟨RJ0, "length", "()I"⟩
abbrev cJ0_charAt_5068e : ByteArray := prog_31_method_56_code
def yJ0_charAt_5068e : MethodName := ⟨RJ0, "charAt", "(I)C"⟩
abbrev cJ0_getBytes_840e7 : ByteArray := prog_31_method_147_code
def yJ0_getBytes_840e7 : MethodName := ⟨RJ0, "getBytes", "([BIB)V"⟩
abbrev cJ0_init_db425 : ByteArray := prog_31_method_150_code
def yJ0_init_db425 : MethodName := ⟨RJ0, "<init>", "(Ljava/lang/AbstractStringBuilder;Ljava/lang/Void;)V"⟩
abbrev cJ0_coder_7d493 : ByteArray := prog_31_method_152_code
def yJ0_coder_7d493 : MethodName := ⟨RJ0, "coder", "()B"⟩
abbrev cJ0_isLatin1_aae02 : ByteArray := prog_31_method_154_code
def yJ0_isLatin1_aae02 : MethodName := ⟨RJ0, "isLatin1", "()Z"⟩
abbrev cJ0_checkIndex_df160 : ByteArray := prog_31_method_155_code
def yJ0_checkIndex_df160 : MethodName := ⟨RJ0, "checkIndex", "(II)V"⟩
abbrev cJ0_checkBoundsOffCount_cabcc : ByteArray := prog_31_method_157_code
def yJ0_checkBoundsOffCount_cabcc : MethodName := ⟨RJ0, "checkBoundsOffCount", "(III)I"⟩
abbrev cJ0_checkBoundsBeginEnd_23922 : ByteArray := prog_31_method_158_code
def yJ0_checkBoundsBeginEnd_23922 : MethodName := ⟨RJ0, "checkBoundsBeginEnd", "(III)V"⟩
def RJ4 : String := "java/lang/StringBuilder"
def TJ4 : u_T := fun k => match k with
  | 0 => ("java/lang/AbstractStringBuilder", "value", "[B", false)
  | 1 => ("java/lang/AbstractStringBuilder", "coder", "B", false)
  | 2 => ("java/lang/AbstractStringBuilder", "maybeLatin1", "Z", false)
  | _ => ("java/lang/AbstractStringBuilder", "count", "I", false)
def tyJ4 : Nat → FieldType := fun k => match k with
  | 0 => .array .byte
  | 1 => .byte
  | 2 => .boolean
  | _ => .int
abbrev wsJ40 : List Cond := u_ws RJ4 TJ4 4
theorem nmJ4 : ∀ a, a < 4 → ∀ b, b < 4 → a ≠ b → (TJ4 a).2.1 ≠ (TJ4 b).2.1 := by decide +kernel
theorem tyJ4_ok : ∀ k, k < 4 → parseFieldDescriptor (TJ4 k).2.2.1 = some (tyJ4 k) := by decide +kernel
abbrev cJ4_init_da8c8 : ByteArray := prog_32_method_1_code
def yJ4_init_da8c8 : MethodName := ⟨RJ4, "<init>", "()V"⟩
abbrev cJ4_append_15ec4 : ByteArray := prog_32_method_7_code
def yJ4_append_15ec4 : MethodName := ⟨RJ4, "append", "(Ljava/lang/String;)Ljava/lang/StringBuilder;"⟩
abbrev cJ4_append_cf468 : ByteArray := prog_32_method_14_code
def yJ4_append_cf468 : MethodName := ⟨RJ4, "append", "(C)Ljava/lang/StringBuilder;"⟩
abbrev cJ4_append_bf812 : ByteArray := prog_32_method_15_code
def yJ4_append_bf812 : MethodName := ⟨RJ4, "append", "(I)Ljava/lang/StringBuilder;"⟩
abbrev cJ4_toString_0e30d : ByteArray := prog_32_method_42_code
def yJ4_toString_0e30d : MethodName := ⟨RJ4, "toString", "()Ljava/lang/String;"⟩
abbrev cJ4_charAt_5068e : ByteArray := prog_32_method_88_code
def yJ4_charAt_5068e : MethodName := ⟨RJ4, "charAt", "(I)C"⟩
abbrev cJ4_setLength_d00df : ByteArray := prog_32_method_89_code
def yJ4_setLength_d00df : MethodName := ⟨RJ4, "setLength", "(I)V"⟩
abbrev cJ4_length_8abf5 : ByteArray := prog_32_method_93_code
def yJ4_length_8abf5 : MethodName := ⟨RJ4, "length", "()I"⟩
def RJx7c733 : String := "java/lang/StringIndexOutOfBoundsException"
def TJx7c733 : u_T := fun k => match k with
  | 0 => ("java/lang/Throwable", "backtrace", "Ljava/lang/Object;", false)
  | 1 => ("java/lang/Throwable", "detailMessage", "Ljava/lang/String;", false)
  | 2 => ("java/lang/Throwable", "cause", "Ljava/lang/Throwable;", false)
  | 3 => ("java/lang/Throwable", "stackTrace", "[Ljava/lang/StackTraceElement;", false)
  | 4 => ("java/lang/Throwable", "depth", "I", false)
  | _ => ("java/lang/Throwable", "suppressedExceptions", "Ljava/util/List;", false)
def tyJx7c733 : Nat → FieldType := fun k => match k with
  | 0 => .object "java/lang/Object"
  | 1 => .object "java/lang/String"
  | 2 => .object "java/lang/Throwable"
  | 3 => .array (.object "java/lang/StackTraceElement")
  | 4 => .int
  | _ => .object "java/util/List"
abbrev wsJx7c7330 : List Cond := u_ws RJx7c733 TJx7c733 6
theorem nmJx7c733 : ∀ a, a < 6 → ∀ b, b < 6 → a ≠ b → (TJx7c733 a).2.1 ≠ (TJx7c733 b).2.1 := by decide +kernel
theorem tyJx7c733_ok : ∀ k, k < 6 → parseFieldDescriptor (TJx7c733 k).2.2.1 = some (tyJx7c733 k) := by decide +kernel
abbrev cJx7c733_init_d00df : ByteArray := prog_33_method_3_code
def yJx7c733_init_d00df : MethodName := ⟨RJx7c733, "<init>", "(I)V"⟩
def RJ1 : String := "java/lang/StringLatin1"
def TJ1 : u_T := fun k => match k with
  | _ => ("", "", "", false)
def tyJ1 : Nat → FieldType := fun k => match k with
  | _ => .int
abbrev wsJ10 : List Cond := u_ws RJ1 TJ1 0
theorem nmJ1 : ∀ a, a < 0 → ∀ b, b < 0 → a ≠ b → (TJ1 a).2.1 ≠ (TJ1 b).2.1 := by decide +kernel
theorem tyJ1_ok : ∀ k, k < 0 → parseFieldDescriptor (TJ1 k).2.2.1 = some (tyJ1 k) := by decide +kernel
abbrev cJ1_charAt_3b067 : ByteArray := prog_34_method_2_code
def yJ1_charAt_3b067 : MethodName := ⟨RJ1, "charAt", "([BI)C"⟩
abbrev cJ1_canEncode_fc78d : ByteArray := prog_34_method_3_code
def yJ1_canEncode_fc78d : MethodName := ⟨RJ1, "canEncode", "(C)Z"⟩
abbrev cJ1_fillNull_b72d1 : ByteArray := prog_34_method_48_code
def yJ1_fillNull_b72d1 : MethodName := ⟨RJ1, "fillNull", "([BII)V"⟩
abbrev cJ1_inflate_0e8fd : ByteArray := prog_34_method_50_code
def yJ1_inflate_0e8fd : MethodName := ⟨RJ1, "inflate", "([BI[BII)V"⟩
def RJ2 : String := "java/lang/StringUTF16"
def TJ2 : u_T := fun k => match k with
  | _ => ("", "", "", false)
def tyJ2 : Nat → FieldType := fun k => match k with
  | _ => .int
abbrev wsJ20 : List Cond := u_ws RJ2 TJ2 0
theorem nmJ2 : ∀ a, a < 0 → ∀ b, b < 0 → a ≠ b → (TJ2 a).2.1 ≠ (TJ2 b).2.1 := by decide +kernel
theorem tyJ2_ok : ∀ k, k < 0 → parseFieldDescriptor (TJ2 k).2.2.1 = some (tyJ2 k) := by decide +kernel
abbrev cJ2_newBytesFor_77867 : ByteArray := prog_35_method_2_code
def yJ2_newBytesFor_77867 : MethodName := ⟨RJ2, "newBytesFor", "(I)[B"⟩
abbrev cJ2_newBytesLength_0f7a4 : ByteArray := prog_35_method_3_code
def yJ2_newBytesLength_0f7a4 : MethodName := ⟨RJ2, "newBytesLength", "(I)I"⟩
abbrev cJ2_putChar_b72d1 : ByteArray := prog_35_method_4_code
def yJ2_putChar_b72d1 : MethodName := ⟨RJ2, "putChar", "([BII)V"⟩
abbrev cJ2_getChar_3b067 : ByteArray := prog_35_method_5_code
def yJ2_getChar_3b067 : MethodName := ⟨RJ2, "getChar", "([BI)C"⟩
abbrev cJ2_length_9d52b : ByteArray := prog_35_method_6_code
def yJ2_length_9d52b : MethodName := ⟨RJ2, "length", "([B)I"⟩
abbrev cJ2_coderFromArrayLen_85cad : ByteArray := prog_35_method_15_code
def yJ2_coderFromArrayLen_85cad : MethodName := ⟨RJ2, "coderFromArrayLen", "([BI)B"⟩
abbrev cJ2_compress_39247 : ByteArray := prog_35_method_17_code
def yJ2_compress_39247 : MethodName := ⟨RJ2, "compress", "([BII)[B"⟩
abbrev cJ2_compress_5af95 : ByteArray := prog_35_method_22_code
def yJ2_compress_5af95 : MethodName := ⟨RJ2, "compress", "([BI[BII)I"⟩
abbrev cJ2_fillNull_b72d1 : ByteArray := prog_35_method_70_code
def yJ2_fillNull_b72d1 : MethodName := ⟨RJ2, "fillNull", "([BII)V"⟩
abbrev cJ2_putCharSB_b72d1 : ByteArray := prog_35_method_71_code
def yJ2_putCharSB_b72d1 : MethodName := ⟨RJ2, "putCharSB", "([BII)V"⟩
abbrev cJ2_getChars_46870 : ByteArray := prog_35_method_77_code
def yJ2_getChars_46870 : MethodName := ⟨RJ2, "getChars", "(III[B)I"⟩
abbrev cJ2_putCharsAt_cd4e5 : ByteArray := prog_35_method_81_code
def yJ2_putCharsAt_cd4e5 : MethodName := ⟨RJ2, "putCharsAt", "([BICCCC)I"⟩
abbrev cJ2_charAt_3b067 : ByteArray := prog_35_method_83_code
def yJ2_charAt_3b067 : MethodName := ⟨RJ2, "charAt", "([BI)C"⟩
abbrev cJ2_inflate_0e8fd : ByteArray := prog_35_method_86_code
def yJ2_inflate_0e8fd : MethodName := ⟨RJ2, "inflate", "([BI[BII)V"⟩
abbrev cJ2_getChars_ba4f3 : ByteArray := prog_35_method_89_code
def yJ2_getChars_ba4f3 : MethodName := ⟨RJ2, "getChars", "(II[B)I"⟩
abbrev cJ2_checkIndex_2214a : ByteArray := prog_35_method_91_code
def yJ2_checkIndex_2214a : MethodName := ⟨RJ2, "checkIndex", "(I[B)V"⟩
abbrev cJ2_checkBoundsBeginEnd_d044e : ByteArray := prog_35_method_93_code
def yJ2_checkBoundsBeginEnd_d044e : MethodName := ⟨RJ2, "checkBoundsBeginEnd", "(II[B)V"⟩
abbrev cJ2_checkBoundsOffCount_d044e : ByteArray := prog_35_method_94_code
def yJ2_checkBoundsOffCount_d044e : MethodName := ⟨RJ2, "checkBoundsOffCount", "(II[B)V"⟩
def RJ10 : String := "java/lang/System"
def TJ10 : u_T := fun k => match k with
  | _ => ("", "", "", false)
def tyJ10 : Nat → FieldType := fun k => match k with
  | _ => .int
abbrev wsJ100 : List Cond := u_ws RJ10 TJ10 0
theorem nmJ10 : ∀ a, a < 0 → ∀ b, b < 0 → a ≠ b → (TJ10 a).2.1 ≠ (TJ10 b).2.1 := by decide +kernel
theorem tyJ10_ok : ∀ k, k < 0 → parseFieldDescriptor (TJ10 k).2.2.1 = some (tyJ10 k) := by decide +kernel
def RJxfd54e : String := "java/lang/constant/Constable"
def TJxfd54e : u_T := fun k => match k with
  | _ => ("", "", "", false)
def tyJxfd54e : Nat → FieldType := fun k => match k with
  | _ => .int
abbrev wsJxfd54e0 : List Cond := u_ws RJxfd54e TJxfd54e 0
theorem nmJxfd54e : ∀ a, a < 0 → ∀ b, b < 0 → a ≠ b → (TJxfd54e a).2.1 ≠ (TJxfd54e b).2.1 := by decide +kernel
theorem tyJxfd54e_ok : ∀ k, k < 0 → parseFieldDescriptor (TJxfd54e k).2.2.1 = some (tyJxfd54e k) := by decide +kernel
def RJx3cf43 : String := "java/lang/constant/ConstantDesc"
def TJx3cf43 : u_T := fun k => match k with
  | _ => ("", "", "", false)
def tyJx3cf43 : Nat → FieldType := fun k => match k with
  | _ => .int
abbrev wsJx3cf430 : List Cond := u_ws RJx3cf43 TJx3cf43 0
theorem nmJx3cf43 : ∀ a, a < 0 → ∀ b, b < 0 → a ≠ b → (TJx3cf43 a).2.1 ≠ (TJx3cf43 b).2.1 := by decide +kernel
theorem tyJx3cf43_ok : ∀ k, k < 0 → parseFieldDescriptor (TJx3cf43 k).2.2.1 = some (tyJx3cf43 k) := by decide +kernel
def RJxa1e45 : String := "java/util/AbstractCollection"
def TJxa1e45 : u_T := fun k => match k with
  | _ => ("", "", "", false)
def tyJxa1e45 : Nat → FieldType := fun k => match k with
  | _ => .int
abbrev wsJxa1e450 : List Cond := u_ws RJxa1e45 TJxa1e45 0
theorem nmJxa1e45 : ∀ a, a < 0 → ∀ b, b < 0 → a ≠ b → (TJxa1e45 a).2.1 ≠ (TJxa1e45 b).2.1 := by decide +kernel
theorem tyJxa1e45_ok : ∀ k, k < 0 → parseFieldDescriptor (TJxa1e45 k).2.2.1 = some (tyJxa1e45 k) := by decide +kernel
abbrev cJxa1e45_init_da8c8 : ByteArray := prog_41_method_1_code
def yJxa1e45_init_da8c8 : MethodName := ⟨RJxa1e45, "<init>", "()V"⟩
def RJxc12de : String := "java/util/AbstractList"
def TJxc12de : u_T := fun k => match k with
  | _ => ("", "", "", false)
def tyJxc12de : Nat → FieldType := fun k => match k with
  | _ => .int
abbrev wsJxc12de0 : List Cond := u_ws RJxc12de TJxc12de 0
theorem nmJxc12de : ∀ a, a < 0 → ∀ b, b < 0 → a ≠ b → (TJxc12de a).2.1 ≠ (TJxc12de b).2.1 := by decide +kernel
theorem tyJxc12de_ok : ∀ k, k < 0 → parseFieldDescriptor (TJxc12de k).2.2.1 = some (tyJxc12de k) := by decide +kernel
abbrev cJxc12de_init_da8c8 : ByteArray := prog_42_method_1_code
def yJxc12de_init_da8c8 : MethodName := ⟨RJxc12de, "<init>", "()V"⟩
def RJx4a65c : String := "java/util/ArrayList"
def TJx4a65c : u_T := fun k => match k with
  | 0 => ("java/util/AbstractList", "modCount", "I", false)
  | 1 => ("java/util/ArrayList", "elementData", "[Ljava/lang/Object;", false)
  | _ => ("java/util/ArrayList", "size", "I", false)
def tyJx4a65c : Nat → FieldType := fun k => match k with
  | 0 => .int
  | 1 => .array (.object "java/lang/Object")
  | _ => .int
abbrev wsJx4a65c0 : List Cond := u_ws RJx4a65c TJx4a65c 3
theorem nmJx4a65c : ∀ a, a < 3 → ∀ b, b < 3 → a ≠ b → (TJx4a65c a).2.1 ≠ (TJx4a65c b).2.1 := by decide +kernel
theorem tyJx4a65c_ok : ∀ k, k < 3 → parseFieldDescriptor (TJx4a65c k).2.2.1 = some (tyJx4a65c k) := by decide +kernel
abbrev cJx4a65c_init_da8c8 : ByteArray := prog_43_method_2_code
def yJx4a65c_init_da8c8 : MethodName := ⟨RJx4a65c, "<init>", "()V"⟩
abbrev cJx4a65c_grow_92f84 : ByteArray := prog_43_method_6_code
def yJx4a65c_grow_92f84 : MethodName := ⟨RJx4a65c, "grow", "(I)[Ljava/lang/Object;"⟩
abbrev cJx4a65c_grow_d5877 : ByteArray := prog_43_method_7_code
def yJx4a65c_grow_d5877 : MethodName := ⟨RJx4a65c, "grow", "()[Ljava/lang/Object;"⟩
abbrev cJx4a65c_size_8abf5 : ByteArray := prog_43_method_8_code
def yJx4a65c_size_8abf5 : MethodName := ⟨RJx4a65c, "size", "()I"⟩
abbrev cJx4a65c_elementData_915e3 : ByteArray := prog_43_method_18_code
def yJx4a65c_elementData_915e3 : MethodName := ⟨RJx4a65c, "elementData", "(I)Ljava/lang/Object;"⟩
abbrev cJx4a65c_get_915e3 : ByteArray := prog_43_method_20_code
def yJx4a65c_get_915e3 : MethodName := ⟨RJx4a65c, "get", "(I)Ljava/lang/Object;"⟩
abbrev cJx4a65c_add_72be8 : ByteArray := prog_43_method_24_code
def yJx4a65c_add_72be8 : MethodName := ⟨RJx4a65c, "add", "(Ljava/lang/Object;[Ljava/lang/Object;I)V"⟩
abbrev cJx4a65c_add_9ea2d : ByteArray := prog_43_method_25_code
def yJx4a65c_add_9ea2d : MethodName := ⟨RJx4a65c, "add", "(Ljava/lang/Object;)Z"⟩
abbrev cJx4a65c_clear_da8c8 : ByteArray := prog_43_method_40_code
def yJx4a65c_clear_da8c8 : MethodName := ⟨RJx4a65c, "clear", "()V"⟩
def RJ7 : String := "java/util/Arrays"
def TJ7 : u_T := fun k => match k with
  | _ => ("", "", "", false)
def tyJ7 : Nat → FieldType := fun k => match k with
  | _ => .int
abbrev wsJ70 : List Cond := u_ws RJ7 TJ7 0
theorem nmJ7 : ∀ a, a < 0 → ∀ b, b < 0 → a ≠ b → (TJ7 a).2.1 ≠ (TJ7 b).2.1 := by decide +kernel
theorem tyJ7_ok : ∀ k, k < 0 → parseFieldDescriptor (TJ7 k).2.2.1 = some (tyJ7 k) := by decide +kernel
abbrev cJ7_rangeCheck_23922 : ByteArray := prog_44_method_30_code
def yJ7_rangeCheck_23922 : MethodName := ⟨RJ7, "rangeCheck", "(III)V"⟩
abbrev cJ7_fill_53178 : ByteArray := prog_44_method_103_code
def yJ7_fill_53178 : MethodName := ⟨RJ7, "fill", "([II)V"⟩
abbrev cJ7_fill_eb02e : ByteArray := prog_44_method_110_code
def yJ7_fill_eb02e : MethodName := ⟨RJ7, "fill", "([BIIB)V"⟩
abbrev cJ7_copyOf_1904c : ByteArray := prog_44_method_119_code
def yJ7_copyOf_1904c : MethodName := ⟨RJ7, "copyOf", "([Ljava/lang/Object;I)[Ljava/lang/Object;"⟩
abbrev cJ7_copyOf_6403c : ByteArray := prog_44_method_120_code
def yJ7_copyOf_6403c : MethodName := ⟨RJ7, "copyOf", "([Ljava/lang/Object;ILjava/lang/Class;)[Ljava/lang/Object;"⟩
abbrev cJ7_copyOf_9075b : ByteArray := prog_44_method_121_code
def yJ7_copyOf_9075b : MethodName := ⟨RJ7, "copyOf", "([BI)[B"⟩
abbrev cJ7_checkLength_df160 : ByteArray := prog_44_method_131_code
def yJ7_checkLength_df160 : MethodName := ⟨RJ7, "checkLength", "(II)V"⟩
abbrev cJ7_copyOfRange_39247 : ByteArray := prog_44_method_132_code
def yJ7_copyOfRange_39247 : MethodName := ⟨RJ7, "copyOfRange", "([BII)[B"⟩
abbrev cJ7_copyOfRangeByte_39247 : ByteArray := prog_44_method_133_code
def yJ7_copyOfRangeByte_39247 : MethodName := ⟨RJ7, "copyOfRangeByte", "([BII)[B"⟩
def RJx5ef63 : String := "java/util/Collection"
def TJx5ef63 : u_T := fun k => match k with
  | _ => ("", "", "", false)
def tyJx5ef63 : Nat → FieldType := fun k => match k with
  | _ => .int
abbrev wsJx5ef630 : List Cond := u_ws RJx5ef63 TJx5ef63 0
theorem nmJx5ef63 : ∀ a, a < 0 → ∀ b, b < 0 → a ≠ b → (TJx5ef63 a).2.1 ≠ (TJx5ef63 b).2.1 := by decide +kernel
theorem tyJx5ef63_ok : ∀ k, k < 0 → parseFieldDescriptor (TJx5ef63 k).2.2.1 = some (tyJx5ef63 k) := by decide +kernel
def RJxbd725 : String := "java/util/List"
def TJxbd725 : u_T := fun k => match k with
  | _ => ("", "", "", false)
def tyJxbd725 : Nat → FieldType := fun k => match k with
  | _ => .int
abbrev wsJxbd7250 : List Cond := u_ws RJxbd725 TJxbd725 0
theorem nmJxbd725 : ∀ a, a < 0 → ∀ b, b < 0 → a ≠ b → (TJxbd725 a).2.1 ≠ (TJxbd725 b).2.1 := by decide +kernel
theorem tyJxbd725_ok : ∀ k, k < 0 → parseFieldDescriptor (TJxbd725 k).2.2.1 = some (tyJxbd725 k) := by decide +kernel
def RJ15 : String := "java/util/Objects"
def TJ15 : u_T := fun k => match k with
  | _ => ("", "", "", false)
def tyJ15 : Nat → FieldType := fun k => match k with
  | _ => .int
abbrev wsJ150 : List Cond := u_ws RJ15 TJ15 0
theorem nmJ15 : ∀ a, a < 0 → ∀ b, b < 0 → a ≠ b → (TJ15 a).2.1 ≠ (TJ15 b).2.1 := by decide +kernel
theorem tyJ15_ok : ∀ k, k < 0 → parseFieldDescriptor (TJ15 k).2.2.1 = some (tyJ15 k) := by decide +kernel
abbrev cJ15_checkIndex_7cf53 : ByteArray := prog_48_method_17_code
def yJ15_checkIndex_7cf53 : MethodName := ⟨RJ15, "checkIndex", "(II)I"⟩
def RJxf0a74 : String := "java/util/RandomAccess"
def TJxf0a74 : u_T := fun k => match k with
  | _ => ("", "", "", false)
def tyJxf0a74 : Nat → FieldType := fun k => match k with
  | _ => .int
abbrev wsJxf0a740 : List Cond := u_ws RJxf0a74 TJxf0a74 0
theorem nmJxf0a74 : ∀ a, a < 0 → ∀ b, b < 0 → a ≠ b → (TJxf0a74 a).2.1 ≠ (TJxf0a74 b).2.1 := by decide +kernel
theorem tyJxf0a74_ok : ∀ k, k < 0 → parseFieldDescriptor (TJxf0a74 k).2.2.1 = some (tyJxf0a74 k) := by decide +kernel
def RJxa66e6 : String := "java/util/SequencedCollection"
def TJxa66e6 : u_T := fun k => match k with
  | _ => ("", "", "", false)
def tyJxa66e6 : Nat → FieldType := fun k => match k with
  | _ => .int
abbrev wsJxa66e60 : List Cond := u_ws RJxa66e6 TJxa66e6 0
theorem nmJxa66e6 : ∀ a, a < 0 → ∀ b, b < 0 → a ≠ b → (TJxa66e6 a).2.1 ≠ (TJxa66e6 b).2.1 := by decide +kernel
theorem tyJxa66e6_ok : ∀ k, k < 0 → parseFieldDescriptor (TJxa66e6 k).2.2.1 = some (tyJxa66e6 k) := by decide +kernel
def RJ8 : String := "jdk/internal/util/ArraysSupport"
def TJ8 : u_T := fun k => match k with
  | _ => ("", "", "", false)
def tyJ8 : Nat → FieldType := fun k => match k with
  | _ => .int
abbrev wsJ80 : List Cond := u_ws RJ8 TJ8 0
theorem nmJ8 : ∀ a, a < 0 → ∀ b, b < 0 → a ≠ b → (TJ8 a).2.1 ≠ (TJ8 b).2.1 := by decide +kernel
theorem tyJ8_ok : ∀ k, k < 0 → parseFieldDescriptor (TJ8 k).2.2.1 = some (tyJ8 k) := by decide +kernel
abbrev cJ8_newLength_cabcc : ByteArray := prog_51_method_27_code
def yJ8_newLength_cabcc : MethodName := ⟨RJ8, "newLength", "(III)I"⟩
abbrev cJ8_hugeLength_7cf53 : ByteArray := prog_51_method_28_code
def yJ8_hugeLength_7cf53 : MethodName := ⟨RJ8, "hugeLength", "(II)I"⟩
def RJ3 : String := "jdk/internal/util/Preconditions"
def TJ3 : u_T := fun k => match k with
  | _ => ("", "", "", false)
def tyJ3 : Nat → FieldType := fun k => match k with
  | _ => .int
abbrev wsJ30 : List Cond := u_ws RJ3 TJ3 0
theorem nmJ3 : ∀ a, a < 0 → ∀ b, b < 0 → a ≠ b → (TJ3 a).2.1 ≠ (TJ3 b).2.1 := by decide +kernel
theorem tyJ3_ok : ∀ k, k < 0 → parseFieldDescriptor (TJ3 k).2.2.1 = some (tyJ3 k) := by decide +kernel
abbrev cJ3_checkIndex_8e157 : ByteArray := prog_52_method_11_code
def yJ3_checkIndex_8e157 : MethodName := ⟨RJ3, "checkIndex", "(IILjava/util/function/BiFunction;)I"⟩
abbrev cJ3_checkFromToIndex_8c36e : ByteArray := prog_52_method_12_code
def yJ3_checkFromToIndex_8c36e : MethodName := ⟨RJ3, "checkFromToIndex", "(IIILjava/util/function/BiFunction;)I"⟩
abbrev cJ3_checkFromIndexSize_8c36e : ByteArray := prog_52_method_13_code
def yJ3_checkFromIndexSize_8c36e : MethodName := ⟨RJ3, "checkFromIndexSize", "(IIILjava/util/function/BiFunction;)I"⟩
def RL : String := "HedgeCommitteeLaw"
abbrev cL_addHedge : ByteArray := method_3_code
def yL_addHedge : MethodName := ⟨RL, "addHedge", "(LHedgeCommittee;III[J)I"⟩
abbrev cL_propose : ByteArray := method_4_code
def yL_propose : MethodName := ⟨RL, "propose", "(LHedgeCommittee;II[J)I"⟩
abbrev cL_amend : ByteArray := method_5_code
def yL_amend : MethodName := ⟨RL, "amend", "(LHedgeCommittee;III[J)I"⟩
abbrev cL_prune : ByteArray := method_6_code
def yL_prune : MethodName := ⟨RL, "prune", "(LHedgeCommittee;II[J)I"⟩
abbrev cL_regrow : ByteArray := method_7_code
def yL_regrow : MethodName := ⟨RL, "regrow", "(LHedgeCommittee;I[J)I"⟩
abbrev cL_vote : ByteArray := method_8_code
def yL_vote : MethodName := ⟨RL, "vote", "(LHedgeCommittee;I[J)I"⟩
abbrev cL_leaves : ByteArray := method_9_code
def yL_leaves : MethodName := ⟨RL, "leaves", "(LHedgeCommittee;I[J)I"⟩
abbrev cL_thorns : ByteArray := method_10_code
def yL_thorns : MethodName := ⟨RL, "thorns", "(LHedgeCommittee;I[J)I"⟩
abbrev cL_hedgeAtRank : ByteArray := method_11_code
def yL_hedgeAtRank : MethodName := ⟨RL, "hedgeAtRank", "(LHedgeCommittee;I[J)I"⟩
abbrev cL_leavesInFavour : ByteArray := method_12_code
def yL_leavesInFavour : MethodName := ⟨RL, "leavesInFavour", "(LHedgeCommittee;I[J)I"⟩
abbrev cL_wouldVeto : ByteArray := method_13_code
def yL_wouldVeto : MethodName := ⟨RL, "wouldVeto", "(LHedgeCommittee;II[J)I"⟩
abbrev cL_motionAt : ByteArray := method_14_code
def yL_motionAt : MethodName := ⟨RL, "motionAt", "(LHedgeCommittee;I[J)I"⟩
abbrev cL_tone : ByteArray := method_15_code
def yL_tone : MethodName := ⟨RL, "tone", "(LHedgeCommittee;I[J)I"⟩
abbrev cL_weight : ByteArray := method_16_code
def yL_weight : MethodName := ⟨RL, "weight", "(LHedgeCommittee;I[J)I"⟩
abbrev cL_parent : ByteArray := method_17_code
def yL_parent : MethodName := ⟨RL, "parent", "(LHedgeCommittee;I[J)I"⟩
abbrev cL_depth : ByteArray := method_18_code
def yL_depth : MethodName := ⟨RL, "depth", "(LHedgeCommittee;I[J)I"⟩
abbrev cL_isTip : ByteArray := method_19_code
def yL_isTip : MethodName := ⟨RL, "isTip", "(LHedgeCommittee;I[J)I"⟩
abbrev cL_branchSize : ByteArray := method_20_code
def yL_branchSize : MethodName := ⟨RL, "branchSize", "(LHedgeCommittee;I[J)I"⟩
abbrev cL_lastTip : ByteArray := method_21_code
def yL_lastTip : MethodName := ⟨RL, "lastTip", "(LHedgeCommittee;I[J)I"⟩
abbrev cL_motionAtRank : ByteArray := method_22_code
def yL_motionAtRank : MethodName := ⟨RL, "motionAtRank", "(LHedgeCommittee;I[J)I"⟩
abbrev cL_commonMotion : ByteArray := method_23_code
def yL_commonMotion : MethodName := ⟨RL, "commonMotion", "(LHedgeCommittee;II[J)I"⟩
abbrev cL_commonMotionByRows : ByteArray := method_24_code
def yL_commonMotionByRows : MethodName := ⟨RL, "commonMotionByRows", "(LHedgeCommittee;II[J)I"⟩
abbrev cL_pathSize : ByteArray := method_25_code
def yL_pathSize : MethodName := ⟨RL, "pathSize", "(LHedgeCommittee;II[J)I"⟩
abbrev cL_longestPath : ByteArray := method_26_code
def yL_longestPath : MethodName := ⟨RL, "longestPath", "(LHedgeCommittee;I[J)I"⟩
abbrev cL_longestPathBySweeps : ByteArray := method_27_code
def yL_longestPathBySweeps : MethodName := ⟨RL, "longestPathBySweeps", "(LHedgeCommittee;I[J)I"⟩
abbrev cL_minutesIn : ByteArray := method_28_code
def yL_minutesIn : MethodName := ⟨RL, "minutesIn", "(LHedgeCommittee;I[J)I"⟩
abbrev cL_meanLeaves : ByteArray := method_29_code
def yL_meanLeaves : MethodName := ⟨RL, "meanLeaves", "(LHedgeCommittee;[D)I"⟩
abbrev cL_carriedShare : ByteArray := method_30_code
def yL_carriedShare : MethodName := ⟨RL, "carriedShare", "(LHedgeCommittee;[D)I"⟩
abbrev cL_append : ByteArray := method_31_code
def yL_append : MethodName := ⟨RL, "append", "(LHedgeCommittee;C[J)I"⟩
abbrev cL_run : ByteArray := method_32_code
def yL_run : MethodName := ⟨RL, "run", "(LHedgeCommittee;[J)I"⟩
abbrev cL_errorPosition : ByteArray := method_33_code
def yL_errorPosition : MethodName := ⟨RL, "errorPosition", "(LHedgeCommittee;[J)I"⟩
abbrev cL_failedCommand : ByteArray := method_34_code
def yL_failedCommand : MethodName := ⟨RL, "failedCommand", "(LHedgeCommittee;[J)I"⟩
abbrev cL_writeBranch : ByteArray := method_35_code
def yL_writeBranch : MethodName := ⟨RL, "writeBranch", "(LHedgeCommittee;I[J)I"⟩
abbrev cL_outputAt : ByteArray := method_36_code
def yL_outputAt : MethodName := ⟨RL, "outputAt", "(LHedgeCommittee;I[J)I"⟩
abbrev cL_undo : ByteArray := method_37_code
def yL_undo : MethodName := ⟨RL, "undo", "(LHedgeCommittee;[J)I"⟩
abbrev cL_restore : ByteArray := method_38_code
def yL_restore : MethodName := ⟨RL, "restore", "(LHedgeCommittee;)I"⟩
abbrev cL_law : ByteArray := code
def yL_law : MethodName := ⟨RL, "law", "([I)Z"⟩

abbrev vwCl : List vw_C := [(RJ0, TJ0, 4), (RJ4, TJ4, 4), (RJx00060, TJx00060, 6), (RJx7c733, TJx7c733, 6), (RJx4a65c, TJx4a65c, 3), (RX1, TX1, 4), (RX2, TX2, 4), (RX3, TX3, 2), (RX5, TX5, 6), (RX6, TX6, 5), (RX7, TX7, 11), (RX8, TX8, 6), (RX9, TX9, 9), (RX10, TX10, 26)]
/-- the good words of the tables -/
def gw : List Cond := lw_tbl.filter goodWord
theorem gw_t {w : Cond} (h : w ∈ tables_1) (g : goodWord w = true) : w ∈ gw := List.mem_filter.mpr ⟨List.mem_append_right _ h, g⟩
theorem gw_p {q : MethodName × Nat} (h : q ∈ lw_privs) (g : goodWord (.selects q.1.cls q.1 q.1) = true) : Cond.selects q.1.cls q.1 q.1 ∈ gw := List.mem_filter.mpr ⟨List.mem_append_left _ (List.mem_map.mpr ⟨q, h, rfl⟩), g⟩
theorem gw_good : ∀ w ∈ gw, (w.onTables && w.keeps) = true ∨ ∃ ty, w = .arrayClass ty := fun _ h => good_of_word (List.mem_filter.mp h).2
theorem gw_21 : Cond.selects "HedgeCommitteeModel" ⟨"HedgeCommitteeModel", "starts", "()V"⟩ ⟨"HedgeCommitteeModel", "starts", "()V"⟩ ∈ gw := gw_p (q := (⟨"HedgeCommitteeModel", "starts", "()V"⟩, 26)) (by unfold lw_privs; exact (List.mem_append_left _ (List.mem_append_left _ (List.mem_append_left _ (List.mem_append_left _ (List.mem_append_right _ (List.mem_of_getElem? (l := lw_privs_1) (i := 10) rfl))))))) rfl
theorem gw_22 : Cond.selects "HedgeCommitteeModel" ⟨"HedgeCommitteeModel", "hedgeIt", "(III)I"⟩ ⟨"HedgeCommitteeModel", "hedgeIt", "(III)I"⟩ ∈ gw := gw_p (q := (⟨"HedgeCommitteeModel", "hedgeIt", "(III)I"⟩, 26)) (by unfold lw_privs; exact (List.mem_append_left _ (List.mem_append_left _ (List.mem_append_left _ (List.mem_append_right _ (List.mem_of_getElem? (l := lw_privs_2) (i := 0) rfl)))))) rfl
theorem gw_23 : Cond.selects "HedgeCommitteeModel" ⟨"HedgeCommitteeModel", "throwing", "(I)I"⟩ ⟨"HedgeCommitteeModel", "throwing", "(I)I"⟩ ∈ gw := gw_p (q := (⟨"HedgeCommitteeModel", "throwing", "(I)I"⟩, 26)) (by unfold lw_privs; exact (List.mem_append_left _ (List.mem_append_left _ (List.mem_append_left _ (List.mem_append_right _ (List.mem_of_getElem? (l := lw_privs_2) (i := 1) rfl)))))) rfl
theorem gw_24 : Cond.selects "HedgeCommitteeModel" ⟨"HedgeCommitteeModel", "changed", "(I)I"⟩ ⟨"HedgeCommitteeModel", "changed", "(I)I"⟩ ∈ gw := gw_p (q := (⟨"HedgeCommitteeModel", "changed", "(I)I"⟩, 26)) (by unfold lw_privs; exact (List.mem_append_left _ (List.mem_append_left _ (List.mem_append_left _ (List.mem_append_right _ (List.mem_of_getElem? (l := lw_privs_2) (i := 2) rfl)))))) rfl
theorem gw_25 : Cond.selects "HedgeCommitteeModel" ⟨"HedgeCommitteeModel", "mainIt", "(II)I"⟩ ⟨"HedgeCommitteeModel", "mainIt", "(II)I"⟩ ∈ gw := gw_p (q := (⟨"HedgeCommitteeModel", "mainIt", "(II)I"⟩, 26)) (by unfold lw_privs; exact (List.mem_append_left _ (List.mem_append_left _ (List.mem_append_left _ (List.mem_append_right _ (List.mem_of_getElem? (l := lw_privs_2) (i := 3) rfl)))))) rfl
theorem gw_26 : Cond.selects "HedgeCommitteeModel" ⟨"HedgeCommitteeModel", "adds", "(III)I"⟩ ⟨"HedgeCommitteeModel", "adds", "(III)I"⟩ ∈ gw := gw_p (q := (⟨"HedgeCommitteeModel", "adds", "(III)I"⟩, 26)) (by unfold lw_privs; exact (List.mem_append_left _ (List.mem_append_left _ (List.mem_append_left _ (List.mem_append_right _ (List.mem_of_getElem? (l := lw_privs_2) (i := 4) rfl)))))) rfl
theorem gw_27 : Cond.selects "HedgeCommitteeModel" ⟨"HedgeCommitteeModel", "amendIt", "(III)I"⟩ ⟨"HedgeCommitteeModel", "amendIt", "(III)I"⟩ ∈ gw := gw_p (q := (⟨"HedgeCommitteeModel", "amendIt", "(III)I"⟩, 26)) (by unfold lw_privs; exact (List.mem_append_left _ (List.mem_append_left _ (List.mem_append_left _ (List.mem_append_right _ (List.mem_of_getElem? (l := lw_privs_2) (i := 5) rfl)))))) rfl
theorem gw_28 : Cond.selects "HedgeCommitteeModel" ⟨"HedgeCommitteeModel", "find", "(I)I"⟩ ⟨"HedgeCommitteeModel", "find", "(I)I"⟩ ∈ gw := gw_p (q := (⟨"HedgeCommitteeModel", "find", "(I)I"⟩, 26)) (by unfold lw_privs; exact (List.mem_append_left _ (List.mem_append_left _ (List.mem_append_left _ (List.mem_append_right _ (List.mem_of_getElem? (l := lw_privs_2) (i := 6) rfl)))))) rfl
theorem gw_29 : Cond.selects "HedgeCommitteeModel" ⟨"HedgeCommitteeModel", "of", "(II)I"⟩ ⟨"HedgeCommitteeModel", "of", "(II)I"⟩ ∈ gw := gw_p (q := (⟨"HedgeCommitteeModel", "of", "(II)I"⟩, 26)) (by unfold lw_privs; exact (List.mem_append_left _ (List.mem_append_left _ (List.mem_append_left _ (List.mem_append_right _ (List.mem_of_getElem? (l := lw_privs_2) (i := 7) rfl)))))) rfl
theorem gw_30 : Cond.selects "HedgeCommitteeModel" ⟨"HedgeCommitteeModel", "pruneIt", "(II)I"⟩ ⟨"HedgeCommitteeModel", "pruneIt", "(II)I"⟩ ∈ gw := gw_p (q := (⟨"HedgeCommitteeModel", "pruneIt", "(II)I"⟩, 26)) (by unfold lw_privs; exact (List.mem_append_left _ (List.mem_append_left _ (List.mem_append_left _ (List.mem_append_right _ (List.mem_of_getElem? (l := lw_privs_2) (i := 8) rfl)))))) rfl
theorem gw_31 : Cond.selects "HedgeCommitteeModel" ⟨"HedgeCommitteeModel", "deep", "(I)I"⟩ ⟨"HedgeCommitteeModel", "deep", "(I)I"⟩ ∈ gw := gw_p (q := (⟨"HedgeCommitteeModel", "deep", "(I)I"⟩, 26)) (by unfold lw_privs; exact (List.mem_append_left _ (List.mem_append_left _ (List.mem_append_left _ (List.mem_append_right _ (List.mem_of_getElem? (l := lw_privs_2) (i := 9) rfl)))))) rfl
theorem gw_32 : Cond.selects "HedgeCommitteeModel" ⟨"HedgeCommitteeModel", "above", "(I)I"⟩ ⟨"HedgeCommitteeModel", "above", "(I)I"⟩ ∈ gw := gw_p (q := (⟨"HedgeCommitteeModel", "above", "(I)I"⟩, 26)) (by unfold lw_privs; exact (List.mem_append_left _ (List.mem_append_left _ (List.mem_append_left _ (List.mem_append_right _ (List.mem_of_getElem? (l := lw_privs_2) (i := 10) rfl)))))) rfl
theorem gw_33 : Cond.selects "HedgeCommitteeModel" ⟨"HedgeCommitteeModel", "isIn", "(II)Z"⟩ ⟨"HedgeCommitteeModel", "isIn", "(II)Z"⟩ ∈ gw := gw_p (q := (⟨"HedgeCommitteeModel", "isIn", "(II)Z"⟩, 26)) (by unfold lw_privs; exact (List.mem_append_left _ (List.mem_append_left _ (List.mem_append_right _ (List.mem_of_getElem? (l := lw_privs_3) (i := 0) rfl))))) rfl
theorem gw_34 : Cond.selects "HedgeCommitteeModel" ⟨"HedgeCommitteeModel", "drops", "(I)V"⟩ ⟨"HedgeCommitteeModel", "drops", "(I)V"⟩ ∈ gw := gw_p (q := (⟨"HedgeCommitteeModel", "drops", "(I)V"⟩, 26)) (by unfold lw_privs; exact (List.mem_append_left _ (List.mem_append_left _ (List.mem_append_right _ (List.mem_of_getElem? (l := lw_privs_3) (i := 1) rfl))))) rfl
theorem gw_35 : Cond.selects "HedgeCommitteeModel" ⟨"HedgeCommitteeModel", "regrowIt", "(I)I"⟩ ⟨"HedgeCommitteeModel", "regrowIt", "(I)I"⟩ ∈ gw := gw_p (q := (⟨"HedgeCommitteeModel", "regrowIt", "(I)I"⟩, 26)) (by unfold lw_privs; exact (List.mem_append_left _ (List.mem_append_left _ (List.mem_append_right _ (List.mem_of_getElem? (l := lw_privs_3) (i := 2) rfl))))) rfl
theorem gw_36 : Cond.selects "HedgeCommitteeModel" ⟨"HedgeCommitteeModel", "lastTipAt", "(I)I"⟩ ⟨"HedgeCommitteeModel", "lastTipAt", "(I)I"⟩ ∈ gw := gw_p (q := (⟨"HedgeCommitteeModel", "lastTipAt", "(I)I"⟩, 26)) (by unfold lw_privs; exact (List.mem_append_left _ (List.mem_append_left _ (List.mem_append_right _ (List.mem_of_getElem? (l := lw_privs_3) (i := 3) rfl))))) rfl
theorem gw_37 : Cond.selects "HedgeCommitteeModel" ⟨"HedgeCommitteeModel", "isTipAt", "(I)Z"⟩ ⟨"HedgeCommitteeModel", "isTipAt", "(I)Z"⟩ ∈ gw := gw_p (q := (⟨"HedgeCommitteeModel", "isTipAt", "(I)Z"⟩, 26)) (by unfold lw_privs; exact (List.mem_append_left _ (List.mem_append_left _ (List.mem_append_right _ (List.mem_of_getElem? (l := lw_privs_3) (i := 4) rfl))))) rfl
theorem gw_38 : Cond.selects "HedgeCommitteeModel" ⟨"HedgeCommitteeModel", "voteIt", "(I)I"⟩ ⟨"HedgeCommitteeModel", "voteIt", "(I)I"⟩ ∈ gw := gw_p (q := (⟨"HedgeCommitteeModel", "voteIt", "(I)I"⟩, 26)) (by unfold lw_privs; exact (List.mem_append_left _ (List.mem_append_left _ (List.mem_append_right _ (List.mem_of_getElem? (l := lw_privs_3) (i := 5) rfl))))) rfl
theorem gw_39 : Cond.selects "HedgeCommitteeModel" ⟨"HedgeCommitteeModel", "vetoes", "(II)Z"⟩ ⟨"HedgeCommitteeModel", "vetoes", "(II)Z"⟩ ∈ gw := gw_p (q := (⟨"HedgeCommitteeModel", "vetoes", "(II)Z"⟩, 26)) (by unfold lw_privs; exact (List.mem_append_left _ (List.mem_append_left _ (List.mem_append_right _ (List.mem_of_getElem? (l := lw_privs_3) (i := 6) rfl))))) rfl
theorem gw_40 : Cond.selects "HedgeCommitteeModel" ⟨"HedgeCommitteeModel", "far", "(II)I"⟩ ⟨"HedgeCommitteeModel", "far", "(II)I"⟩ ∈ gw := gw_p (q := (⟨"HedgeCommitteeModel", "far", "(II)I"⟩, 26)) (by unfold lw_privs; exact (List.mem_append_left _ (List.mem_append_left _ (List.mem_append_right _ (List.mem_of_getElem? (l := lw_privs_3) (i := 7) rfl))))) rfl
theorem gw_41 : Cond.selects "HedgeCommitteeModel" ⟨"HedgeCommitteeModel", "favour", "(I)I"⟩ ⟨"HedgeCommitteeModel", "favour", "(I)I"⟩ ∈ gw := gw_p (q := (⟨"HedgeCommitteeModel", "favour", "(I)I"⟩, 26)) (by unfold lw_privs; exact (List.mem_append_left _ (List.mem_append_left _ (List.mem_append_right _ (List.mem_of_getElem? (l := lw_privs_3) (i := 8) rfl))))) rfl
theorem gw_42 : Cond.selects "HedgeCommitteeModel" ⟨"HedgeCommitteeModel", "leavesAll", "()I"⟩ ⟨"HedgeCommitteeModel", "leavesAll", "()I"⟩ ∈ gw := gw_p (q := (⟨"HedgeCommitteeModel", "leavesAll", "()I"⟩, 26)) (by unfold lw_privs; exact (List.mem_append_left _ (List.mem_append_left _ (List.mem_append_right _ (List.mem_of_getElem? (l := lw_privs_3) (i := 9) rfl))))) rfl
theorem gw_43 : Cond.selects "HedgeCommitteeModel" ⟨"HedgeCommitteeModel", "carries", "(I)V"⟩ ⟨"HedgeCommitteeModel", "carries", "(I)V"⟩ ∈ gw := gw_p (q := (⟨"HedgeCommitteeModel", "carries", "(I)V"⟩, 26)) (by unfold lw_privs; exact (List.mem_append_left _ (List.mem_append_left _ (List.mem_append_right _ (List.mem_of_getElem? (l := lw_privs_3) (i := 10) rfl))))) rfl
theorem gw_44 : Cond.selects "HedgeCommitteeModel" ⟨"HedgeCommitteeModel", "seasonIt", "()I"⟩ ⟨"HedgeCommitteeModel", "seasonIt", "()I"⟩ ∈ gw := gw_p (q := (⟨"HedgeCommitteeModel", "seasonIt", "()I"⟩, 26)) (by unfold lw_privs; exact (List.mem_append_left _ (List.mem_append_right _ (List.mem_of_getElem? (l := lw_privs_4) (i := 0) rfl)))) rfl
theorem gw_45 : Cond.selects "HedgeCommitteeModel" ⟨"HedgeCommitteeModel", "isHedge", "(I)Z"⟩ ⟨"HedgeCommitteeModel", "isHedge", "(I)Z"⟩ ∈ gw := gw_p (q := (⟨"HedgeCommitteeModel", "isHedge", "(I)Z"⟩, 26)) (by unfold lw_privs; exact (List.mem_append_left _ (List.mem_append_right _ (List.mem_of_getElem? (l := lw_privs_4) (i := 1) rfl)))) rfl
theorem gw_46 : Cond.selects "HedgeCommitteeModel" ⟨"HedgeCommitteeModel", "isHedgeAhead", "(II)Z"⟩ ⟨"HedgeCommitteeModel", "isHedgeAhead", "(II)Z"⟩ ∈ gw := gw_p (q := (⟨"HedgeCommitteeModel", "isHedgeAhead", "(II)Z"⟩, 26)) (by unfold lw_privs; exact (List.mem_append_left _ (List.mem_append_right _ (List.mem_of_getElem? (l := lw_privs_4) (i := 2) rfl)))) rfl
theorem gw_47 : Cond.selects "HedgeCommitteeModel" ⟨"HedgeCommitteeModel", "ofMotion", "(II)I"⟩ ⟨"HedgeCommitteeModel", "ofMotion", "(II)I"⟩ ∈ gw := gw_p (q := (⟨"HedgeCommitteeModel", "ofMotion", "(II)I"⟩, 26)) (by unfold lw_privs; exact (List.mem_append_left _ (List.mem_append_right _ (List.mem_of_getElem? (l := lw_privs_4) (i := 3) rfl)))) rfl
theorem gw_48 : Cond.selects "HedgeCommitteeModel" ⟨"HedgeCommitteeModel", "isMotionAhead", "(II)Z"⟩ ⟨"HedgeCommitteeModel", "isMotionAhead", "(II)Z"⟩ ∈ gw := gw_p (q := (⟨"HedgeCommitteeModel", "isMotionAhead", "(II)Z"⟩, 26)) (by unfold lw_privs; exact (List.mem_append_left _ (List.mem_append_right _ (List.mem_of_getElem? (l := lw_privs_4) (i := 4) rfl)))) rfl
theorem gw_49 : Cond.selects "HedgeCommitteeModel" ⟨"HedgeCommitteeModel", "common", "(II)I"⟩ ⟨"HedgeCommitteeModel", "common", "(II)I"⟩ ∈ gw := gw_p (q := (⟨"HedgeCommitteeModel", "common", "(II)I"⟩, 26)) (by unfold lw_privs; exact (List.mem_append_left _ (List.mem_append_right _ (List.mem_of_getElem? (l := lw_privs_4) (i := 5) rfl)))) rfl
theorem gw_50 : Cond.selects "HedgeCommitteeModel" ⟨"HedgeCommitteeModel", "steps", "(II)I"⟩ ⟨"HedgeCommitteeModel", "steps", "(II)I"⟩ ∈ gw := gw_p (q := (⟨"HedgeCommitteeModel", "steps", "(II)I"⟩, 26)) (by unfold lw_privs; exact (List.mem_append_left _ (List.mem_append_right _ (List.mem_of_getElem? (l := lw_privs_4) (i := 6) rfl)))) rfl
theorem gw_51 : Cond.selects "HedgeCommitteeModel" ⟨"HedgeCommitteeModel", "measures", "()V"⟩ ⟨"HedgeCommitteeModel", "measures", "()V"⟩ ∈ gw := gw_p (q := (⟨"HedgeCommitteeModel", "measures", "()V"⟩, 26)) (by unfold lw_privs; exact (List.mem_append_left _ (List.mem_append_right _ (List.mem_of_getElem? (l := lw_privs_4) (i := 7) rfl)))) rfl
theorem gw_52 : Cond.selects "HedgeCommitteeModel" ⟨"HedgeCommitteeModel", "readCommand", "()V"⟩ ⟨"HedgeCommitteeModel", "readCommand", "()V"⟩ ∈ gw := gw_p (q := (⟨"HedgeCommitteeModel", "readCommand", "()V"⟩, 26)) (by unfold lw_privs; exact (List.mem_append_left _ (List.mem_append_right _ (List.mem_of_getElem? (l := lw_privs_4) (i := 8) rfl)))) rfl
theorem gw_53 : Cond.selects "HedgeCommitteeModel" ⟨"HedgeCommitteeModel", "likeness", "(I)I"⟩ ⟨"HedgeCommitteeModel", "likeness", "(I)I"⟩ ∈ gw := gw_p (q := (⟨"HedgeCommitteeModel", "likeness", "(I)I"⟩, 26)) (by unfold lw_privs; exact (List.mem_append_left _ (List.mem_append_right _ (List.mem_of_getElem? (l := lw_privs_4) (i := 9) rfl)))) rfl
theorem gw_54 : Cond.selects "HedgeCommitteeModel" ⟨"HedgeCommitteeModel", "readArguments", "(II)V"⟩ ⟨"HedgeCommitteeModel", "readArguments", "(II)V"⟩ ∈ gw := gw_p (q := (⟨"HedgeCommitteeModel", "readArguments", "(II)V"⟩, 26)) (by unfold lw_privs; exact (List.mem_append_left _ (List.mem_append_right _ (List.mem_of_getElem? (l := lw_privs_4) (i := 10) rfl)))) rfl
theorem gw_55 : Cond.selects "HedgeCommitteeModel" ⟨"HedgeCommitteeModel", "digit", "()I"⟩ ⟨"HedgeCommitteeModel", "digit", "()I"⟩ ∈ gw := gw_p (q := (⟨"HedgeCommitteeModel", "digit", "()I"⟩, 26)) (by unfold lw_privs; exact (List.mem_append_right _ (List.mem_of_getElem? (l := lw_privs_5) (i := 0) rfl))) rfl
theorem gw_56 : Cond.selects "HedgeCommitteeModel" ⟨"HedgeCommitteeModel", "here", "()I"⟩ ⟨"HedgeCommitteeModel", "here", "()I"⟩ ∈ gw := gw_p (q := (⟨"HedgeCommitteeModel", "here", "()I"⟩, 26)) (by unfold lw_privs; exact (List.mem_append_right _ (List.mem_of_getElem? (l := lw_privs_5) (i := 1) rfl))) rfl
theorem gw_57 : Cond.selects "HedgeCommitteeModel" ⟨"HedgeCommitteeModel", "number", "()I"⟩ ⟨"HedgeCommitteeModel", "number", "()I"⟩ ∈ gw := gw_p (q := (⟨"HedgeCommitteeModel", "number", "()I"⟩, 26)) (by unfold lw_privs; exact (List.mem_append_right _ (List.mem_of_getElem? (l := lw_privs_5) (i := 2) rfl))) rfl
theorem gw_58 : Cond.selects "HedgeCommitteeModel" ⟨"HedgeCommitteeModel", "digitBehind", "()I"⟩ ⟨"HedgeCommitteeModel", "digitBehind", "()I"⟩ ∈ gw := gw_p (q := (⟨"HedgeCommitteeModel", "digitBehind", "()I"⟩, 26)) (by unfold lw_privs; exact (List.mem_append_right _ (List.mem_of_getElem? (l := lw_privs_5) (i := 3) rfl))) rfl
theorem gw_59 : Cond.selects "HedgeCommitteeModel" ⟨"HedgeCommitteeModel", "expects", "(I)V"⟩ ⟨"HedgeCommitteeModel", "expects", "(I)V"⟩ ∈ gw := gw_p (q := (⟨"HedgeCommitteeModel", "expects", "(I)V"⟩, 26)) (by unfold lw_privs; exact (List.mem_append_right _ (List.mem_of_getElem? (l := lw_privs_5) (i := 4) rfl))) rfl
theorem gw_60 : Cond.selects "HedgeCommitteeModel" ⟨"HedgeCommitteeModel", "numberBehind", "()I"⟩ ⟨"HedgeCommitteeModel", "numberBehind", "()I"⟩ ∈ gw := gw_p (q := (⟨"HedgeCommitteeModel", "numberBehind", "()I"⟩, 26)) (by unfold lw_privs; exact (List.mem_append_right _ (List.mem_of_getElem? (l := lw_privs_5) (i := 5) rfl))) rfl
theorem gw_61 : Cond.selects "HedgeCommitteeModel" ⟨"HedgeCommitteeModel", "does", "(I)V"⟩ ⟨"HedgeCommitteeModel", "does", "(I)V"⟩ ∈ gw := gw_p (q := (⟨"HedgeCommitteeModel", "does", "(I)V"⟩, 26)) (by unfold lw_privs; exact (List.mem_append_right _ (List.mem_of_getElem? (l := lw_privs_5) (i := 6) rfl))) rfl
theorem gw_62 : Cond.selects "HedgeCommitteeModel" ⟨"HedgeCommitteeModel", "writesWhole", "(I)V"⟩ ⟨"HedgeCommitteeModel", "writesWhole", "(I)V"⟩ ∈ gw := gw_p (q := (⟨"HedgeCommitteeModel", "writesWhole", "(I)V"⟩, 26)) (by unfold lw_privs; exact (List.mem_append_right _ (List.mem_of_getElem? (l := lw_privs_5) (i := 7) rfl))) rfl
theorem gw_63 : Cond.selects "HedgeCommitteeModel" ⟨"HedgeCommitteeModel", "sign", "(I)V"⟩ ⟨"HedgeCommitteeModel", "sign", "(I)V"⟩ ∈ gw := gw_p (q := (⟨"HedgeCommitteeModel", "sign", "(I)V"⟩, 26)) (by unfold lw_privs; exact (List.mem_append_right _ (List.mem_of_getElem? (l := lw_privs_5) (i := 8) rfl))) rfl
theorem gw_64 : Cond.selects "HedgeCommitteeModel" ⟨"HedgeCommitteeModel", "childFrom", "(II)I"⟩ ⟨"HedgeCommitteeModel", "childFrom", "(II)I"⟩ ∈ gw := gw_p (q := (⟨"HedgeCommitteeModel", "childFrom", "(II)I"⟩, 26)) (by unfold lw_privs; exact (List.mem_append_right _ (List.mem_of_getElem? (l := lw_privs_5) (i := 9) rfl))) rfl
theorem gw_65 : Cond.selects "HedgeCommitteeModel" ⟨"HedgeCommitteeModel", "next", "(II)I"⟩ ⟨"HedgeCommitteeModel", "next", "(II)I"⟩ ∈ gw := gw_p (q := (⟨"HedgeCommitteeModel", "next", "(II)I"⟩, 26)) (by unfold lw_privs; exact (List.mem_append_right _ (List.mem_of_getElem? (l := lw_privs_5) (i := 10) rfl))) rfl
theorem gw_66 : Cond.initialized "HedgeCommitteeLaw" ∈ gw := gw_t (tb_1 (List.mem_of_getElem? (i := 0) rfl)) rfl
theorem gw_67 : Cond.initialized "HedgeCommittee" ∈ gw := gw_t (tb_1 (List.mem_of_getElem? (i := 1) rfl)) rfl
theorem gw_68 : Cond.initialized "HedgeCommittee$State" ∈ gw := gw_t (tb_1 (List.mem_of_getElem? (i := 2) rfl)) rfl
theorem gw_69 : Cond.initialized "HedgeCommittee$Hedges" ∈ gw := gw_t (tb_1 (List.mem_of_getElem? (i := 3) rfl)) rfl
theorem gw_70 : Cond.initialized "HedgeCommittee$Motions" ∈ gw := gw_t (tb_1 (List.mem_of_getElem? (i := 4) rfl)) rfl
theorem gw_71 : Cond.initialized "HedgeCommittee$History" ∈ gw := gw_t (tb_1 (List.mem_of_getElem? (i := 5) rfl)) rfl
theorem gw_72 : Cond.initialized "HedgeCommittee$Trees" ∈ gw := gw_t (tb_1 (List.mem_of_getElem? (i := 6) rfl)) rfl
theorem gw_73 : Cond.initialized "HedgeCommittee$Program" ∈ gw := gw_t (tb_1 (List.mem_of_getElem? (i := 7) rfl)) rfl
theorem gw_74 : Cond.initialized "java/util/AbstractCollection" ∈ gw := gw_t (tb_1 (List.mem_of_getElem? (i := 8) rfl)) rfl
theorem gw_75 : Cond.initialized "java/util/AbstractList" ∈ gw := gw_t (tb_1 (List.mem_of_getElem? (i := 9) rfl)) rfl
theorem gw_76 : Cond.initialized "java/util/ArrayList" ∈ gw := gw_t (tb_1 (List.mem_of_getElem? (i := 10) rfl)) rfl
theorem gw_77 : Cond.initialized "java/lang/AbstractStringBuilder" ∈ gw := gw_t (tb_1 (List.mem_of_getElem? (i := 11) rfl)) rfl
theorem gw_78 : Cond.initialized "java/lang/StringBuilder" ∈ gw := gw_t (tb_1 (List.mem_of_getElem? (i := 12) rfl)) rfl
theorem gw_79 : Cond.initialized "java/lang/String" ∈ gw := gw_t (tb_1 (List.mem_of_getElem? (i := 13) rfl)) rfl
theorem gw_80 : Cond.initialized "java/lang/StringUTF16" ∈ gw := gw_t (tb_1 (List.mem_of_getElem? (i := 14) rfl)) rfl
theorem gw_81 : Cond.initialized "HedgeCommitteeModel" ∈ gw := gw_t (tb_1 (List.mem_of_getElem? (i := 15) rfl)) rfl
theorem gw_82 : Cond.initialized "java/lang/System" ∈ gw := gw_t (tb_1 (List.mem_of_getElem? (i := 16) rfl)) rfl
theorem gw_83 : Cond.initialized "java/lang/Throwable" ∈ gw := gw_t (tb_1 (List.mem_of_getElem? (i := 17) rfl)) rfl
theorem gw_84 : Cond.initialized "java/lang/Exception" ∈ gw := gw_t (tb_1 (List.mem_of_getElem? (i := 18) rfl)) rfl
theorem gw_85 : Cond.initialized "java/lang/RuntimeException" ∈ gw := gw_t (tb_1 (List.mem_of_getElem? (i := 19) rfl)) rfl
theorem gw_86 : Cond.initialized "java/lang/IllegalArgumentException" ∈ gw := gw_t (tb_1 (List.mem_of_getElem? (i := 20) rfl)) rfl
theorem gw_87 : Cond.initialized "java/lang/IllegalStateException" ∈ gw := gw_t (tb_1 (List.mem_of_getElem? (i := 21) rfl)) rfl
theorem gw_88 : Cond.initialized "java/util/NoSuchElementException" ∈ gw := gw_t (tb_1 (List.mem_of_getElem? (i := 22) rfl)) rfl
theorem gw_89 : Cond.initialized "java/lang/Math" ∈ gw := gw_t (tb_1 (List.mem_of_getElem? (i := 23) rfl)) rfl
theorem gw_90 : Cond.initialized "java/lang/IndexOutOfBoundsException" ∈ gw := gw_t (tb_1 (List.mem_of_getElem? (i := 24) rfl)) rfl
theorem gw_91 : Cond.initialized "java/lang/ArrayIndexOutOfBoundsException" ∈ gw := gw_t (tb_1 (List.mem_of_getElem? (i := 25) rfl)) rfl
theorem gw_92 : Cond.initialized "java/lang/UnsupportedOperationException" ∈ gw := gw_t (tb_1 (List.mem_of_getElem? (i := 26) rfl)) rfl
theorem gw_93 : Cond.initialized "java/util/Arrays" ∈ gw := gw_t (tb_1 (List.mem_of_getElem? (i := 27) rfl)) rfl
theorem gw_94 : Cond.initialized "java/lang/ArithmeticException" ∈ gw := gw_t (tb_1 (List.mem_of_getElem? (i := 28) rfl)) rfl
theorem gw_95 : Cond.initialized "java/lang/StringLatin1" ∈ gw := gw_t (tb_1 (List.mem_of_getElem? (i := 29) rfl)) rfl
theorem gw_96 : Cond.initialized "jdk/internal/util/Preconditions" ∈ gw := gw_t (tb_1 (List.mem_of_getElem? (i := 30) rfl)) rfl
theorem gw_97 : Cond.initialized "HedgeCommittee$Command" ∈ gw := gw_t (tb_1 (List.mem_of_getElem? (i := 31) rfl)) rfl
theorem gw_98 : Cond.initialized "jdk/internal/util/ArraysSupport" ∈ gw := gw_t (tb_1 (List.mem_of_getElem? (i := 32) rfl)) rfl
theorem gw_99 : Cond.initialized "java/util/Objects" ∈ gw := gw_t (tb_1 (List.mem_of_getElem? (i := 33) rfl)) rfl
theorem gw_100 : Cond.initialized "HedgeCommittee$1" ∈ gw := gw_t (tb_1 (List.mem_of_getElem? (i := 34) rfl)) rfl
theorem gw_101 : Cond.initialized "java/lang/StringIndexOutOfBoundsException" ∈ gw := gw_t (tb_1 (List.mem_of_getElem? (i := 35) rfl)) rfl
theorem gw_102 : Cond.initialized "java/lang/Number" ∈ gw := gw_t (tb_1 (List.mem_of_getElem? (i := 36) rfl)) rfl
theorem gw_103 : Cond.initialized "java/lang/Integer" ∈ gw := gw_t (tb_1 (List.mem_of_getElem? (i := 37) rfl)) rfl
theorem gw_141 : Cond.arrayClass .int ∈ gw := gw_t (tb_1 (List.mem_of_getElem? (i := 75) rfl)) (by decide +kernel)
theorem gw_294 : Cond.arrayClass .char ∈ gw := gw_t (tb_1 (List.mem_of_getElem? (i := 228) rfl)) (by decide +kernel)
theorem gw_344 : Cond.arrayClass .byte ∈ gw := gw_t (tb_2 (List.mem_of_getElem? (i := 38) rfl)) (by decide +kernel)
theorem gw_391 : Cond.native ⟨"java/lang/System", "arraycopy", "(Ljava/lang/Object;ILjava/lang/Object;II)V"⟩ ∈ gw := gw_t (tb_2 (List.mem_of_getElem? (i := 85) rfl)) (by decide +kernel)
theorem gw_408 : Cond.methodLink "HedgeCommittee$Hedges" 50 ⟨"java/lang/Math", "min", "(II)I"⟩ ∈ gw := gw_t (tb_2 (List.mem_of_getElem? (i := 102) rfl)) rfl
theorem gw_409 : Cond.static ⟨"java/lang/Math", "min", "(II)I"⟩ ∈ gw := gw_t (tb_2 (List.mem_of_getElem? (i := 103) rfl)) rfl
theorem gw_410 : Cond.code ⟨"java/lang/Math", "min", "(II)I"⟩ prog_28_method_69_code 2 (some .int) ∈ gw := gw_t (tb_2 (List.mem_of_getElem? (i := 104) rfl)) rfl
theorem gw_411 : Cond.methodLink "HedgeCommittee$Hedges" 55 ⟨"java/lang/Math", "max", "(II)I"⟩ ∈ gw := gw_t (tb_2 (List.mem_of_getElem? (i := 105) rfl)) rfl
theorem gw_412 : Cond.static ⟨"java/lang/Math", "max", "(II)I"⟩ ∈ gw := gw_t (tb_2 (List.mem_of_getElem? (i := 106) rfl)) rfl
theorem gw_413 : Cond.code ⟨"java/lang/Math", "max", "(II)I"⟩ prog_28_method_65_code 2 (some .int) ∈ gw := gw_t (tb_2 (List.mem_of_getElem? (i := 107) rfl)) rfl
theorem gw_441 : Cond.methodLink "HedgeCommittee$Trees" 57 ⟨"java/lang/Math", "max", "(II)I"⟩ ∈ gw := gw_t (tb_2 (List.mem_of_getElem? (i := 135) rfl)) rfl
theorem gw_594 : Cond.native ⟨"java/lang/Throwable", "fillInStackTrace", "(I)Ljava/lang/Throwable;"⟩ ∈ gw := gw_t (tb_3 (List.mem_of_getElem? (i := 48) rfl)) (by decide +kernel)
theorem gw_747 : Cond.methodLink "HedgeCommittee$State" 114 ⟨"java/lang/Math", "max", "(II)I"⟩ ∈ gw := gw_t (tb_3 (List.mem_of_getElem? (i := 201) rfl)) rfl
theorem gw_1222 : Cond.methodLink "jdk/internal/util/ArraysSupport" 194 ⟨"java/lang/Math", "max", "(II)I"⟩ ∈ gw := gw_t (tb_5 (List.mem_of_getElem? (i := 196) rfl)) rfl
theorem gw_1242 : Cond.selects "HedgeCommitteeModel" ⟨"java/lang/Object", "getClass", "()Ljava/lang/Class;"⟩ ⟨"java/lang/Object", "getClass", "()Ljava/lang/Class;"⟩ ∈ gw := gw_t (tb_5 (List.mem_of_getElem? (i := 216) rfl)) rfl
theorem gw_1254 : Cond.native ⟨"java/lang/Object", "getClass", "()Ljava/lang/Class;"⟩ ∈ gw := gw_t (tb_5 (List.mem_of_getElem? (i := 228) rfl)) (by decide +kernel)
theorem gw_1261 : Cond.methodLink "java/util/Arrays" 304 ⟨"java/lang/Math", "min", "(II)I"⟩ ∈ gw := gw_t (tb_5 (List.mem_of_getElem? (i := 235) rfl)) rfl
theorem gw_1263 : Cond.methodLink "java/util/ArrayList" 79 ⟨"java/lang/Math", "max", "(II)I"⟩ ∈ gw := gw_t (tb_5 (List.mem_of_getElem? (i := 237) rfl)) rfl
theorem gw_1372 : Cond.native ⟨"java/lang/Object", "clone", "()Ljava/lang/Object;"⟩ ∈ gw := gw_t (tb_6 (List.mem_of_getElem? (i := 106) rfl)) (by decide +kernel)
theorem gw_1584 : Cond.methodLink "java/lang/AbstractStringBuilder" 138 ⟨"java/lang/Math", "min", "(II)I"⟩ ∈ gw := gw_t (tb_7 (List.mem_of_getElem? (i := 78) rfl)) rfl
theorem gw_1608 : Cond.instantiable "HedgeCommitteeModel" 26 ∈ gw := gw_t (tb_7 (List.mem_of_getElem? (i := 102) rfl)) rfl
theorem gw_1610 : Cond.instanceMethod ⟨"HedgeCommitteeModel", "<init>", "()V"⟩ ∈ gw := gw_t (tb_7 (List.mem_of_getElem? (i := 104) rfl)) rfl
theorem gw_1611 : Cond.code ⟨"HedgeCommitteeModel", "<init>", "()V"⟩ prog_12_method_1_code 1 none ∈ gw := gw_t (tb_7 (List.mem_of_getElem? (i := 105) rfl)) rfl
theorem gw_1612 : Cond.methodLink "HedgeCommitteeModel" 1 ⟨"java/lang/Object", "<init>", "()V"⟩ ∈ gw := gw_t (tb_7 (List.mem_of_getElem? (i := 106) rfl)) rfl
theorem gw_1613 : Cond.fieldLink "HedgeCommitteeModel" 9 "HedgeCommitteeModel" "m" "[I" ∈ gw := gw_t (tb_7 (List.mem_of_getElem? (i := 107) rfl)) rfl
theorem gw_1614 : Cond.fieldLink "HedgeCommitteeModel" 13 "HedgeCommitteeModel" "aside" "[I" ∈ gw := gw_t (tb_7 (List.mem_of_getElem? (i := 108) rfl)) rfl
theorem gw_1615 : Cond.fieldLink "HedgeCommitteeModel" 16 "HedgeCommitteeModel" "saved" "[I" ∈ gw := gw_t (tb_7 (List.mem_of_getElem? (i := 109) rfl)) rfl
theorem gw_1616 : Cond.fieldLink "HedgeCommitteeModel" 273 "HedgeCommitteeModel" "isSaved" "Z" ∈ gw := gw_t (tb_7 (List.mem_of_getElem? (i := 110) rfl)) rfl
theorem gw_1617 : Cond.fieldLink "HedgeCommitteeModel" 19 "HedgeCommitteeModel" "past" "[I" ∈ gw := gw_t (tb_7 (List.mem_of_getElem? (i := 111) rfl)) rfl
theorem gw_1618 : Cond.fieldLink "HedgeCommitteeModel" 60 "HedgeCommitteeModel" "changes" "I" ∈ gw := gw_t (tb_7 (List.mem_of_getElem? (i := 112) rfl)) rfl
theorem gw_1619 : Cond.fieldLink "HedgeCommitteeModel" 22 "HedgeCommitteeModel" "errorAt" "I" ∈ gw := gw_t (tb_7 (List.mem_of_getElem? (i := 113) rfl)) rfl
theorem gw_1620 : Cond.fieldLink "HedgeCommitteeModel" 26 "HedgeCommitteeModel" "failed" "I" ∈ gw := gw_t (tb_7 (List.mem_of_getElem? (i := 114) rfl)) rfl
theorem gw_1621 : Cond.fieldLink "HedgeCommitteeModel" 57 "HedgeCommitteeModel" "thrown" "I" ∈ gw := gw_t (tb_7 (List.mem_of_getElem? (i := 115) rfl)) rfl
theorem gw_1622 : Cond.fieldLink "HedgeCommitteeModel" 29 "HedgeCommitteeModel" "input" "[I" ∈ gw := gw_t (tb_7 (List.mem_of_getElem? (i := 116) rfl)) rfl
theorem gw_1623 : Cond.fieldLink "HedgeCommitteeModel" 207 "HedgeCommitteeModel" "inputMany" "I" ∈ gw := gw_t (tb_7 (List.mem_of_getElem? (i := 117) rfl)) rfl
theorem gw_1624 : Cond.fieldLink "HedgeCommitteeModel" 32 "HedgeCommitteeModel" "with" "[I" ∈ gw := gw_t (tb_7 (List.mem_of_getElem? (i := 118) rfl)) rfl
theorem gw_1625 : Cond.fieldLink "HedgeCommitteeModel" 35 "HedgeCommitteeModel" "without" "[I" ∈ gw := gw_t (tb_7 (List.mem_of_getElem? (i := 119) rfl)) rfl
theorem gw_1626 : Cond.fieldLink "HedgeCommitteeModel" 38 "HedgeCommitteeModel" "setsWith" "[I" ∈ gw := gw_t (tb_7 (List.mem_of_getElem? (i := 120) rfl)) rfl
theorem gw_1627 : Cond.fieldLink "HedgeCommitteeModel" 41 "HedgeCommitteeModel" "setsWithout" "[I" ∈ gw := gw_t (tb_7 (List.mem_of_getElem? (i := 121) rfl)) rfl
theorem gw_1628 : Cond.fieldLink "HedgeCommitteeModel" 190 "HedgeCommitteeModel" "worthAll" "I" ∈ gw := gw_t (tb_7 (List.mem_of_getElem? (i := 122) rfl)) rfl
theorem gw_1629 : Cond.fieldLink "HedgeCommitteeModel" 193 "HedgeCommitteeModel" "setsAll" "I" ∈ gw := gw_t (tb_7 (List.mem_of_getElem? (i := 123) rfl)) rfl
theorem gw_1630 : Cond.fieldLink "HedgeCommitteeModel" 44 "HedgeCommitteeModel" "letters" "[C" ∈ gw := gw_t (tb_7 (List.mem_of_getElem? (i := 124) rfl)) rfl
theorem gw_1631 : Cond.fieldLink "HedgeCommitteeModel" 48 "HedgeCommitteeModel" "begins0" "[I" ∈ gw := gw_t (tb_7 (List.mem_of_getElem? (i := 125) rfl)) rfl
theorem gw_1632 : Cond.fieldLink "HedgeCommitteeModel" 51 "HedgeCommitteeModel" "commands" "[I" ∈ gw := gw_t (tb_7 (List.mem_of_getElem? (i := 126) rfl)) rfl
theorem gw_1633 : Cond.fieldLink "HedgeCommitteeModel" 242 "HedgeCommitteeModel" "commandMany" "I" ∈ gw := gw_t (tb_7 (List.mem_of_getElem? (i := 127) rfl)) rfl
theorem gw_1634 : Cond.fieldLink "HedgeCommitteeModel" 210 "HedgeCommitteeModel" "place0" "I" ∈ gw := gw_t (tb_7 (List.mem_of_getElem? (i := 128) rfl)) rfl
theorem gw_1635 : Cond.fieldLink "HedgeCommitteeModel" 213 "HedgeCommitteeModel" "size0" "I" ∈ gw := gw_t (tb_7 (List.mem_of_getElem? (i := 129) rfl)) rfl
theorem gw_1636 : Cond.fieldLink "HedgeCommitteeModel" 216 "HedgeCommitteeModel" "isWrong" "Z" ∈ gw := gw_t (tb_7 (List.mem_of_getElem? (i := 130) rfl)) rfl
theorem gw_1637 : Cond.fieldLink "HedgeCommitteeModel" 54 "HedgeCommitteeModel" "line" "[I" ∈ gw := gw_t (tb_7 (List.mem_of_getElem? (i := 131) rfl)) rfl
theorem gw_1638 : Cond.fieldLink "HedgeCommitteeModel" 258 "HedgeCommitteeModel" "lineMany" "I" ∈ gw := gw_t (tb_7 (List.mem_of_getElem? (i := 132) rfl)) rfl
theorem gw_1639 : Cond.laysFinal "HedgeCommitteeModel" "HedgeCommitteeModel" "m" "[I" ∈ gw := gw_t (tb_7 (List.mem_of_getElem? (i := 133) rfl)) rfl
theorem gw_1641 : Cond.laysFinal "HedgeCommitteeModel" "HedgeCommitteeModel" "aside" "[I" ∈ gw := gw_t (tb_7 (List.mem_of_getElem? (i := 135) rfl)) rfl
theorem gw_1643 : Cond.laysFinal "HedgeCommitteeModel" "HedgeCommitteeModel" "saved" "[I" ∈ gw := gw_t (tb_7 (List.mem_of_getElem? (i := 137) rfl)) rfl
theorem gw_1645 : Cond.lays "HedgeCommitteeModel" "HedgeCommitteeModel" "isSaved" "Z" ∈ gw := gw_t (tb_7 (List.mem_of_getElem? (i := 139) rfl)) rfl
theorem gw_1647 : Cond.laysFinal "HedgeCommitteeModel" "HedgeCommitteeModel" "past" "[I" ∈ gw := gw_t (tb_7 (List.mem_of_getElem? (i := 141) rfl)) rfl
theorem gw_1649 : Cond.lays "HedgeCommitteeModel" "HedgeCommitteeModel" "changes" "I" ∈ gw := gw_t (tb_7 (List.mem_of_getElem? (i := 143) rfl)) rfl
theorem gw_1651 : Cond.lays "HedgeCommitteeModel" "HedgeCommitteeModel" "errorAt" "I" ∈ gw := gw_t (tb_7 (List.mem_of_getElem? (i := 145) rfl)) rfl
theorem gw_1653 : Cond.lays "HedgeCommitteeModel" "HedgeCommitteeModel" "failed" "I" ∈ gw := gw_t (tb_7 (List.mem_of_getElem? (i := 147) rfl)) rfl
theorem gw_1655 : Cond.lays "HedgeCommitteeModel" "HedgeCommitteeModel" "thrown" "I" ∈ gw := gw_t (tb_7 (List.mem_of_getElem? (i := 149) rfl)) rfl
theorem gw_1657 : Cond.laysFinal "HedgeCommitteeModel" "HedgeCommitteeModel" "input" "[I" ∈ gw := gw_t (tb_7 (List.mem_of_getElem? (i := 151) rfl)) rfl
theorem gw_1659 : Cond.lays "HedgeCommitteeModel" "HedgeCommitteeModel" "inputMany" "I" ∈ gw := gw_t (tb_7 (List.mem_of_getElem? (i := 153) rfl)) rfl
theorem gw_1661 : Cond.laysFinal "HedgeCommitteeModel" "HedgeCommitteeModel" "with" "[I" ∈ gw := gw_t (tb_7 (List.mem_of_getElem? (i := 155) rfl)) rfl
theorem gw_1663 : Cond.laysFinal "HedgeCommitteeModel" "HedgeCommitteeModel" "without" "[I" ∈ gw := gw_t (tb_7 (List.mem_of_getElem? (i := 157) rfl)) rfl
theorem gw_1665 : Cond.laysFinal "HedgeCommitteeModel" "HedgeCommitteeModel" "setsWith" "[I" ∈ gw := gw_t (tb_7 (List.mem_of_getElem? (i := 159) rfl)) rfl
theorem gw_1667 : Cond.laysFinal "HedgeCommitteeModel" "HedgeCommitteeModel" "setsWithout" "[I" ∈ gw := gw_t (tb_7 (List.mem_of_getElem? (i := 161) rfl)) rfl
theorem gw_1669 : Cond.lays "HedgeCommitteeModel" "HedgeCommitteeModel" "worthAll" "I" ∈ gw := gw_t (tb_7 (List.mem_of_getElem? (i := 163) rfl)) rfl
theorem gw_1671 : Cond.lays "HedgeCommitteeModel" "HedgeCommitteeModel" "setsAll" "I" ∈ gw := gw_t (tb_7 (List.mem_of_getElem? (i := 165) rfl)) rfl
theorem gw_1673 : Cond.laysFinal "HedgeCommitteeModel" "HedgeCommitteeModel" "letters" "[C" ∈ gw := gw_t (tb_7 (List.mem_of_getElem? (i := 167) rfl)) rfl
theorem gw_1675 : Cond.laysFinal "HedgeCommitteeModel" "HedgeCommitteeModel" "begins0" "[I" ∈ gw := gw_t (tb_7 (List.mem_of_getElem? (i := 169) rfl)) rfl
theorem gw_1677 : Cond.laysFinal "HedgeCommitteeModel" "HedgeCommitteeModel" "commands" "[I" ∈ gw := gw_t (tb_7 (List.mem_of_getElem? (i := 171) rfl)) rfl
theorem gw_1679 : Cond.lays "HedgeCommitteeModel" "HedgeCommitteeModel" "commandMany" "I" ∈ gw := gw_t (tb_7 (List.mem_of_getElem? (i := 173) rfl)) rfl
theorem gw_1681 : Cond.lays "HedgeCommitteeModel" "HedgeCommitteeModel" "place0" "I" ∈ gw := gw_t (tb_7 (List.mem_of_getElem? (i := 175) rfl)) rfl
theorem gw_1683 : Cond.lays "HedgeCommitteeModel" "HedgeCommitteeModel" "size0" "I" ∈ gw := gw_t (tb_7 (List.mem_of_getElem? (i := 177) rfl)) rfl
theorem gw_1685 : Cond.lays "HedgeCommitteeModel" "HedgeCommitteeModel" "isWrong" "Z" ∈ gw := gw_t (tb_7 (List.mem_of_getElem? (i := 179) rfl)) rfl
theorem gw_1687 : Cond.laysFinal "HedgeCommitteeModel" "HedgeCommitteeModel" "line" "[I" ∈ gw := gw_t (tb_7 (List.mem_of_getElem? (i := 181) rfl)) rfl
theorem gw_1689 : Cond.lays "HedgeCommitteeModel" "HedgeCommitteeModel" "lineMany" "I" ∈ gw := gw_t (tb_7 (List.mem_of_getElem? (i := 183) rfl)) rfl
theorem gw_1693 : Cond.instanceMethod ⟨"HedgeCommitteeModel", "thrown", "()I"⟩ ∈ gw := gw_t (tb_7 (List.mem_of_getElem? (i := 187) rfl)) rfl
theorem gw_1694 : Cond.selects "HedgeCommitteeModel" ⟨"HedgeCommitteeModel", "thrown", "()I"⟩ ⟨"HedgeCommitteeModel", "thrown", "()I"⟩ ∈ gw := gw_t (tb_7 (List.mem_of_getElem? (i := 188) rfl)) rfl
theorem gw_1695 : Cond.code ⟨"HedgeCommitteeModel", "thrown", "()I"⟩ prog_12_method_2_code 1 (some .int) ∈ gw := gw_t (tb_7 (List.mem_of_getElem? (i := 189) rfl)) rfl
theorem gw_1697 : Cond.instanceMethod ⟨"HedgeCommitteeModel", "addHedge", "(III)I"⟩ ∈ gw := gw_t (tb_7 (List.mem_of_getElem? (i := 191) rfl)) rfl
theorem gw_1698 : Cond.selects "HedgeCommitteeModel" ⟨"HedgeCommitteeModel", "addHedge", "(III)I"⟩ ⟨"HedgeCommitteeModel", "addHedge", "(III)I"⟩ ∈ gw := gw_t (tb_7 (List.mem_of_getElem? (i := 192) rfl)) rfl
theorem gw_1699 : Cond.code ⟨"HedgeCommitteeModel", "addHedge", "(III)I"⟩ prog_12_method_23_code 4 (some .int) ∈ gw := gw_t (tb_7 (List.mem_of_getElem? (i := 193) rfl)) rfl
theorem gw_1700 : Cond.methodLink "HedgeCommitteeModel" 104 ⟨"HedgeCommitteeModel", "starts", "()V"⟩ ∈ gw := gw_t (tb_7 (List.mem_of_getElem? (i := 194) rfl)) rfl
theorem gw_1702 : Cond.instanceMethod ⟨"HedgeCommitteeModel", "starts", "()V"⟩ ∈ gw := gw_t (tb_7 (List.mem_of_getElem? (i := 196) rfl)) rfl
theorem gw_1703 : Cond.code ⟨"HedgeCommitteeModel", "starts", "()V"⟩ prog_12_method_5_code 2 none ∈ gw := gw_t (tb_7 (List.mem_of_getElem? (i := 197) rfl)) rfl
theorem gw_1704 : Cond.methodLink "HedgeCommitteeModel" 107 ⟨"HedgeCommitteeModel", "hedgeIt", "(III)I"⟩ ∈ gw := gw_t (tb_7 (List.mem_of_getElem? (i := 198) rfl)) rfl
theorem gw_1706 : Cond.instanceMethod ⟨"HedgeCommitteeModel", "hedgeIt", "(III)I"⟩ ∈ gw := gw_t (tb_7 (List.mem_of_getElem? (i := 200) rfl)) rfl
theorem gw_1707 : Cond.code ⟨"HedgeCommitteeModel", "hedgeIt", "(III)I"⟩ prog_12_method_22_code 5 (some .int) ∈ gw := gw_t (tb_7 (List.mem_of_getElem? (i := 201) rfl)) rfl
theorem gw_1708 : Cond.constantLong "HedgeCommitteeModel" 97 (99 : Int64) ∈ gw := gw_t (tb_7 (List.mem_of_getElem? (i := 202) rfl)) (by decide +kernel)
theorem gw_1709 : Cond.methodLink "HedgeCommitteeModel" 63 ⟨"HedgeCommitteeModel", "in", "(JJJ)Z"⟩ ∈ gw := gw_t (tb_7 (List.mem_of_getElem? (i := 203) rfl)) rfl
theorem gw_1710 : Cond.static ⟨"HedgeCommitteeModel", "in", "(JJJ)Z"⟩ ∈ gw := gw_t (tb_7 (List.mem_of_getElem? (i := 204) rfl)) rfl
theorem gw_1711 : Cond.code ⟨"HedgeCommitteeModel", "in", "(JJJ)Z"⟩ prog_12_method_4_code 6 (some .boolean) ∈ gw := gw_t (tb_7 (List.mem_of_getElem? (i := 205) rfl)) rfl
theorem gw_1712 : Cond.constantLong "HedgeCommitteeModel" 99 (9 : Int64) ∈ gw := gw_t (tb_7 (List.mem_of_getElem? (i := 206) rfl)) (by decide +kernel)
theorem gw_1713 : Cond.methodLink "HedgeCommitteeModel" 101 ⟨"HedgeCommitteeModel", "throwing", "(I)I"⟩ ∈ gw := gw_t (tb_7 (List.mem_of_getElem? (i := 207) rfl)) rfl
theorem gw_1715 : Cond.instanceMethod ⟨"HedgeCommitteeModel", "throwing", "(I)I"⟩ ∈ gw := gw_t (tb_7 (List.mem_of_getElem? (i := 209) rfl)) rfl
theorem gw_1716 : Cond.code ⟨"HedgeCommitteeModel", "throwing", "(I)I"⟩ prog_12_method_3_code 2 (some .int) ∈ gw := gw_t (tb_7 (List.mem_of_getElem? (i := 210) rfl)) rfl
theorem gw_1717 : Cond.methodLink "HedgeCommitteeModel" 86 ⟨"HedgeCommitteeModel", "hedgeAt", "(I)I"⟩ ∈ gw := gw_t (tb_7 (List.mem_of_getElem? (i := 211) rfl)) rfl
theorem gw_1718 : Cond.static ⟨"HedgeCommitteeModel", "hedgeAt", "(I)I"⟩ ∈ gw := gw_t (tb_7 (List.mem_of_getElem? (i := 212) rfl)) rfl
theorem gw_1719 : Cond.code ⟨"HedgeCommitteeModel", "hedgeAt", "(I)I"⟩ prog_12_method_7_code 1 (some .int) ∈ gw := gw_t (tb_7 (List.mem_of_getElem? (i := 213) rfl)) rfl
theorem gw_1720 : Cond.methodLink "HedgeCommitteeModel" 111 ⟨"HedgeCommitteeModel", "changed", "(I)I"⟩ ∈ gw := gw_t (tb_7 (List.mem_of_getElem? (i := 214) rfl)) rfl
theorem gw_1722 : Cond.instanceMethod ⟨"HedgeCommitteeModel", "changed", "(I)I"⟩ ∈ gw := gw_t (tb_7 (List.mem_of_getElem? (i := 216) rfl)) rfl
theorem gw_1723 : Cond.code ⟨"HedgeCommitteeModel", "changed", "(I)I"⟩ prog_12_method_6_code 3 (some .int) ∈ gw := gw_t (tb_7 (List.mem_of_getElem? (i := 217) rfl)) rfl
theorem gw_1725 : Cond.instanceMethod ⟨"HedgeCommitteeModel", "propose", "(II)I"⟩ ∈ gw := gw_t (tb_7 (List.mem_of_getElem? (i := 219) rfl)) rfl
theorem gw_1726 : Cond.selects "HedgeCommitteeModel" ⟨"HedgeCommitteeModel", "propose", "(II)I"⟩ ⟨"HedgeCommitteeModel", "propose", "(II)I"⟩ ∈ gw := gw_t (tb_7 (List.mem_of_getElem? (i := 220) rfl)) rfl
theorem gw_1727 : Cond.code ⟨"HedgeCommitteeModel", "propose", "(II)I"⟩ prog_12_method_25_code 3 (some .int) ∈ gw := gw_t (tb_7 (List.mem_of_getElem? (i := 221) rfl)) rfl
theorem gw_1728 : Cond.methodLink "HedgeCommitteeModel" 119 ⟨"HedgeCommitteeModel", "mainIt", "(II)I"⟩ ∈ gw := gw_t (tb_7 (List.mem_of_getElem? (i := 222) rfl)) rfl
theorem gw_1730 : Cond.instanceMethod ⟨"HedgeCommitteeModel", "mainIt", "(II)I"⟩ ∈ gw := gw_t (tb_7 (List.mem_of_getElem? (i := 224) rfl)) rfl
theorem gw_1731 : Cond.code ⟨"HedgeCommitteeModel", "mainIt", "(II)I"⟩ prog_12_method_24_code 3 (some .int) ∈ gw := gw_t (tb_7 (List.mem_of_getElem? (i := 225) rfl)) rfl
theorem gw_1732 : Cond.constantLong "HedgeCommitteeModel" 114 (20 : Int64) ∈ gw := gw_t (tb_7 (List.mem_of_getElem? (i := 226) rfl)) (by decide +kernel)
theorem gw_1733 : Cond.methodLink "HedgeCommitteeModel" 116 ⟨"HedgeCommitteeModel", "adds", "(III)I"⟩ ∈ gw := gw_t (tb_7 (List.mem_of_getElem? (i := 227) rfl)) rfl
theorem gw_1735 : Cond.instanceMethod ⟨"HedgeCommitteeModel", "adds", "(III)I"⟩ ∈ gw := gw_t (tb_7 (List.mem_of_getElem? (i := 229) rfl)) rfl
theorem gw_1736 : Cond.code ⟨"HedgeCommitteeModel", "adds", "(III)I"⟩ prog_12_method_21_code 5 (some .int) ∈ gw := gw_t (tb_7 (List.mem_of_getElem? (i := 230) rfl)) rfl
theorem gw_1738 : Cond.instanceMethod ⟨"HedgeCommitteeModel", "amend", "(III)I"⟩ ∈ gw := gw_t (tb_7 (List.mem_of_getElem? (i := 232) rfl)) rfl
theorem gw_1739 : Cond.selects "HedgeCommitteeModel" ⟨"HedgeCommitteeModel", "amend", "(III)I"⟩ ⟨"HedgeCommitteeModel", "amend", "(III)I"⟩ ∈ gw := gw_t (tb_7 (List.mem_of_getElem? (i := 233) rfl)) rfl
theorem gw_1740 : Cond.code ⟨"HedgeCommitteeModel", "amend", "(III)I"⟩ prog_12_method_27_code 4 (some .int) ∈ gw := gw_t (tb_7 (List.mem_of_getElem? (i := 234) rfl)) rfl
theorem gw_1741 : Cond.methodLink "HedgeCommitteeModel" 122 ⟨"HedgeCommitteeModel", "amendIt", "(III)I"⟩ ∈ gw := gw_t (tb_7 (List.mem_of_getElem? (i := 235) rfl)) rfl
theorem gw_1743 : Cond.instanceMethod ⟨"HedgeCommitteeModel", "amendIt", "(III)I"⟩ ∈ gw := gw_t (tb_7 (List.mem_of_getElem? (i := 237) rfl)) rfl
theorem gw_1744 : Cond.code ⟨"HedgeCommitteeModel", "amendIt", "(III)I"⟩ prog_12_method_26_code 4 (some .int) ∈ gw := gw_t (tb_7 (List.mem_of_getElem? (i := 238) rfl)) rfl
theorem gw_1745 : Cond.methodLink "HedgeCommitteeModel" 71 ⟨"HedgeCommitteeModel", "find", "(I)I"⟩ ∈ gw := gw_t (tb_7 (List.mem_of_getElem? (i := 239) rfl)) rfl
theorem gw_1747 : Cond.instanceMethod ⟨"HedgeCommitteeModel", "find", "(I)I"⟩ ∈ gw := gw_t (tb_8 (List.mem_of_getElem? (i := 1) rfl)) rfl
theorem gw_1748 : Cond.code ⟨"HedgeCommitteeModel", "find", "(I)I"⟩ prog_12_method_10_code 3 (some .int) ∈ gw := gw_t (tb_8 (List.mem_of_getElem? (i := 2) rfl)) rfl
theorem gw_1749 : Cond.methodLink "HedgeCommitteeModel" 67 ⟨"HedgeCommitteeModel", "of", "(II)I"⟩ ∈ gw := gw_t (tb_8 (List.mem_of_getElem? (i := 3) rfl)) rfl
theorem gw_1751 : Cond.instanceMethod ⟨"HedgeCommitteeModel", "of", "(II)I"⟩ ∈ gw := gw_t (tb_8 (List.mem_of_getElem? (i := 5) rfl)) rfl
theorem gw_1752 : Cond.code ⟨"HedgeCommitteeModel", "of", "(II)I"⟩ prog_12_method_9_code 3 (some .int) ∈ gw := gw_t (tb_8 (List.mem_of_getElem? (i := 6) rfl)) rfl
theorem gw_1754 : Cond.instanceMethod ⟨"HedgeCommitteeModel", "prune", "(II)I"⟩ ∈ gw := gw_t (tb_8 (List.mem_of_getElem? (i := 8) rfl)) rfl
theorem gw_1755 : Cond.selects "HedgeCommitteeModel" ⟨"HedgeCommitteeModel", "prune", "(II)I"⟩ ⟨"HedgeCommitteeModel", "prune", "(II)I"⟩ ∈ gw := gw_t (tb_8 (List.mem_of_getElem? (i := 9) rfl)) rfl
theorem gw_1756 : Cond.code ⟨"HedgeCommitteeModel", "prune", "(II)I"⟩ prog_12_method_29_code 3 (some .int) ∈ gw := gw_t (tb_8 (List.mem_of_getElem? (i := 10) rfl)) rfl
theorem gw_1757 : Cond.methodLink "HedgeCommitteeModel" 132 ⟨"HedgeCommitteeModel", "pruneIt", "(II)I"⟩ ∈ gw := gw_t (tb_8 (List.mem_of_getElem? (i := 11) rfl)) rfl
theorem gw_1759 : Cond.instanceMethod ⟨"HedgeCommitteeModel", "pruneIt", "(II)I"⟩ ∈ gw := gw_t (tb_8 (List.mem_of_getElem? (i := 13) rfl)) rfl
theorem gw_1760 : Cond.code ⟨"HedgeCommitteeModel", "pruneIt", "(II)I"⟩ prog_12_method_28_code 7 (some .int) ∈ gw := gw_t (tb_8 (List.mem_of_getElem? (i := 14) rfl)) rfl
theorem gw_1761 : Cond.methodLink "HedgeCommitteeModel" 125 ⟨"HedgeCommitteeModel", "deep", "(I)I"⟩ ∈ gw := gw_t (tb_8 (List.mem_of_getElem? (i := 15) rfl)) rfl
theorem gw_1763 : Cond.instanceMethod ⟨"HedgeCommitteeModel", "deep", "(I)I"⟩ ∈ gw := gw_t (tb_8 (List.mem_of_getElem? (i := 17) rfl)) rfl
theorem gw_1764 : Cond.code ⟨"HedgeCommitteeModel", "deep", "(I)I"⟩ prog_12_method_12_code 4 (some .int) ∈ gw := gw_t (tb_8 (List.mem_of_getElem? (i := 18) rfl)) rfl
theorem gw_1765 : Cond.methodLink "HedgeCommitteeModel" 75 ⟨"HedgeCommitteeModel", "above", "(I)I"⟩ ∈ gw := gw_t (tb_8 (List.mem_of_getElem? (i := 19) rfl)) rfl
theorem gw_1767 : Cond.instanceMethod ⟨"HedgeCommitteeModel", "above", "(I)I"⟩ ∈ gw := gw_t (tb_8 (List.mem_of_getElem? (i := 21) rfl)) rfl
theorem gw_1768 : Cond.code ⟨"HedgeCommitteeModel", "above", "(I)I"⟩ prog_12_method_11_code 2 (some .int) ∈ gw := gw_t (tb_8 (List.mem_of_getElem? (i := 22) rfl)) rfl
theorem gw_1769 : Cond.methodLink "HedgeCommitteeModel" 78 ⟨"HedgeCommitteeModel", "isIn", "(II)Z"⟩ ∈ gw := gw_t (tb_8 (List.mem_of_getElem? (i := 23) rfl)) rfl
theorem gw_1771 : Cond.instanceMethod ⟨"HedgeCommitteeModel", "isIn", "(II)Z"⟩ ∈ gw := gw_t (tb_8 (List.mem_of_getElem? (i := 25) rfl)) rfl
theorem gw_1772 : Cond.code ⟨"HedgeCommitteeModel", "isIn", "(II)Z"⟩ prog_12_method_14_code 4 (some .boolean) ∈ gw := gw_t (tb_8 (List.mem_of_getElem? (i := 26) rfl)) rfl
theorem gw_1773 : Cond.methodLink "HedgeCommitteeModel" 128 ⟨"HedgeCommitteeModel", "drops", "(I)V"⟩ ∈ gw := gw_t (tb_8 (List.mem_of_getElem? (i := 27) rfl)) rfl
theorem gw_1775 : Cond.instanceMethod ⟨"HedgeCommitteeModel", "drops", "(I)V"⟩ ∈ gw := gw_t (tb_8 (List.mem_of_getElem? (i := 29) rfl)) rfl
theorem gw_1776 : Cond.code ⟨"HedgeCommitteeModel", "drops", "(I)V"⟩ prog_12_method_20_code 3 none ∈ gw := gw_t (tb_8 (List.mem_of_getElem? (i := 30) rfl)) rfl
theorem gw_1778 : Cond.instanceMethod ⟨"HedgeCommitteeModel", "regrow", "(I)I"⟩ ∈ gw := gw_t (tb_8 (List.mem_of_getElem? (i := 32) rfl)) rfl
theorem gw_1779 : Cond.selects "HedgeCommitteeModel" ⟨"HedgeCommitteeModel", "regrow", "(I)I"⟩ ⟨"HedgeCommitteeModel", "regrow", "(I)I"⟩ ∈ gw := gw_t (tb_8 (List.mem_of_getElem? (i := 33) rfl)) rfl
theorem gw_1780 : Cond.code ⟨"HedgeCommitteeModel", "regrow", "(I)I"⟩ prog_12_method_31_code 2 (some .int) ∈ gw := gw_t (tb_8 (List.mem_of_getElem? (i := 34) rfl)) rfl
theorem gw_1781 : Cond.methodLink "HedgeCommitteeModel" 141 ⟨"HedgeCommitteeModel", "regrowIt", "(I)I"⟩ ∈ gw := gw_t (tb_8 (List.mem_of_getElem? (i := 35) rfl)) rfl
theorem gw_1783 : Cond.instanceMethod ⟨"HedgeCommitteeModel", "regrowIt", "(I)I"⟩ ∈ gw := gw_t (tb_8 (List.mem_of_getElem? (i := 37) rfl)) rfl
theorem gw_1784 : Cond.code ⟨"HedgeCommitteeModel", "regrowIt", "(I)I"⟩ prog_12_method_30_code 4 (some .int) ∈ gw := gw_t (tb_8 (List.mem_of_getElem? (i := 38) rfl)) rfl
theorem gw_1785 : Cond.methodLink "HedgeCommitteeModel" 135 ⟨"HedgeCommitteeModel", "lastTipAt", "(I)I"⟩ ∈ gw := gw_t (tb_8 (List.mem_of_getElem? (i := 39) rfl)) rfl
theorem gw_1787 : Cond.instanceMethod ⟨"HedgeCommitteeModel", "lastTipAt", "(I)I"⟩ ∈ gw := gw_t (tb_8 (List.mem_of_getElem? (i := 41) rfl)) rfl
theorem gw_1788 : Cond.code ⟨"HedgeCommitteeModel", "lastTipAt", "(I)I"⟩ prog_12_method_15_code 4 (some .int) ∈ gw := gw_t (tb_8 (List.mem_of_getElem? (i := 42) rfl)) rfl
theorem gw_1789 : Cond.methodLink "HedgeCommitteeModel" 82 ⟨"HedgeCommitteeModel", "isTipAt", "(I)Z"⟩ ∈ gw := gw_t (tb_8 (List.mem_of_getElem? (i := 43) rfl)) rfl
theorem gw_1791 : Cond.instanceMethod ⟨"HedgeCommitteeModel", "isTipAt", "(I)Z"⟩ ∈ gw := gw_t (tb_8 (List.mem_of_getElem? (i := 45) rfl)) rfl
theorem gw_1792 : Cond.code ⟨"HedgeCommitteeModel", "isTipAt", "(I)Z"⟩ prog_12_method_13_code 4 (some .boolean) ∈ gw := gw_t (tb_8 (List.mem_of_getElem? (i := 46) rfl)) rfl
theorem gw_1793 : Cond.methodLink "HedgeCommitteeModel" 138 ⟨"java/lang/Math", "max", "(II)I"⟩ ∈ gw := gw_t (tb_8 (List.mem_of_getElem? (i := 47) rfl)) rfl
theorem gw_1795 : Cond.instanceMethod ⟨"HedgeCommitteeModel", "vote", "(I)C"⟩ ∈ gw := gw_t (tb_8 (List.mem_of_getElem? (i := 49) rfl)) rfl
theorem gw_1796 : Cond.selects "HedgeCommitteeModel" ⟨"HedgeCommitteeModel", "vote", "(I)C"⟩ ⟨"HedgeCommitteeModel", "vote", "(I)C"⟩ ∈ gw := gw_t (tb_8 (List.mem_of_getElem? (i := 50) rfl)) rfl
theorem gw_1797 : Cond.code ⟨"HedgeCommitteeModel", "vote", "(I)C"⟩ prog_12_method_34_code 2 (some .char) ∈ gw := gw_t (tb_8 (List.mem_of_getElem? (i := 51) rfl)) rfl
theorem gw_1798 : Cond.methodLink "HedgeCommitteeModel" 157 ⟨"HedgeCommitteeModel", "voteIt", "(I)I"⟩ ∈ gw := gw_t (tb_8 (List.mem_of_getElem? (i := 52) rfl)) rfl
theorem gw_1800 : Cond.instanceMethod ⟨"HedgeCommitteeModel", "voteIt", "(I)I"⟩ ∈ gw := gw_t (tb_8 (List.mem_of_getElem? (i := 54) rfl)) rfl
theorem gw_1801 : Cond.code ⟨"HedgeCommitteeModel", "voteIt", "(I)I"⟩ prog_12_method_33_code 5 (some .int) ∈ gw := gw_t (tb_8 (List.mem_of_getElem? (i := 55) rfl)) rfl
theorem gw_1802 : Cond.methodLink "HedgeCommitteeModel" 144 ⟨"HedgeCommitteeModel", "vetoes", "(II)Z"⟩ ∈ gw := gw_t (tb_8 (List.mem_of_getElem? (i := 56) rfl)) rfl
theorem gw_1804 : Cond.instanceMethod ⟨"HedgeCommitteeModel", "vetoes", "(II)Z"⟩ ∈ gw := gw_t (tb_8 (List.mem_of_getElem? (i := 58) rfl)) rfl
theorem gw_1805 : Cond.code ⟨"HedgeCommitteeModel", "vetoes", "(II)Z"⟩ prog_12_method_17_code 3 (some .boolean) ∈ gw := gw_t (tb_8 (List.mem_of_getElem? (i := 59) rfl)) rfl
theorem gw_1806 : Cond.methodLink "HedgeCommitteeModel" 94 ⟨"HedgeCommitteeModel", "far", "(II)I"⟩ ∈ gw := gw_t (tb_8 (List.mem_of_getElem? (i := 60) rfl)) rfl
theorem gw_1808 : Cond.instanceMethod ⟨"HedgeCommitteeModel", "far", "(II)I"⟩ ∈ gw := gw_t (tb_8 (List.mem_of_getElem? (i := 62) rfl)) rfl
theorem gw_1809 : Cond.code ⟨"HedgeCommitteeModel", "far", "(II)I"⟩ prog_12_method_16_code 3 (some .int) ∈ gw := gw_t (tb_8 (List.mem_of_getElem? (i := 63) rfl)) rfl
theorem gw_1810 : Cond.methodLink "HedgeCommitteeModel" 89 ⟨"java/lang/Math", "abs", "(I)I"⟩ ∈ gw := gw_t (tb_8 (List.mem_of_getElem? (i := 64) rfl)) rfl
theorem gw_1811 : Cond.static ⟨"java/lang/Math", "abs", "(I)I"⟩ ∈ gw := gw_t (tb_8 (List.mem_of_getElem? (i := 65) rfl)) rfl
theorem gw_1812 : Cond.code ⟨"java/lang/Math", "abs", "(I)I"⟩ prog_28_method_59_code 1 (some .int) ∈ gw := gw_t (tb_8 (List.mem_of_getElem? (i := 66) rfl)) rfl
theorem gw_1813 : Cond.methodLink "HedgeCommitteeModel" 147 ⟨"HedgeCommitteeModel", "favour", "(I)I"⟩ ∈ gw := gw_t (tb_8 (List.mem_of_getElem? (i := 67) rfl)) rfl
theorem gw_1815 : Cond.instanceMethod ⟨"HedgeCommitteeModel", "favour", "(I)I"⟩ ∈ gw := gw_t (tb_8 (List.mem_of_getElem? (i := 69) rfl)) rfl
theorem gw_1816 : Cond.code ⟨"HedgeCommitteeModel", "favour", "(I)I"⟩ prog_12_method_18_code 4 (some .int) ∈ gw := gw_t (tb_8 (List.mem_of_getElem? (i := 70) rfl)) rfl
theorem gw_1817 : Cond.methodLink "HedgeCommitteeModel" 150 ⟨"HedgeCommitteeModel", "leavesAll", "()I"⟩ ∈ gw := gw_t (tb_8 (List.mem_of_getElem? (i := 71) rfl)) rfl
theorem gw_1819 : Cond.instanceMethod ⟨"HedgeCommitteeModel", "leavesAll", "()I"⟩ ∈ gw := gw_t (tb_8 (List.mem_of_getElem? (i := 73) rfl)) rfl
theorem gw_1820 : Cond.code ⟨"HedgeCommitteeModel", "leavesAll", "()I"⟩ prog_12_method_19_code 3 (some .int) ∈ gw := gw_t (tb_8 (List.mem_of_getElem? (i := 74) rfl)) rfl
theorem gw_1821 : Cond.methodLink "HedgeCommitteeModel" 154 ⟨"HedgeCommitteeModel", "carries", "(I)V"⟩ ∈ gw := gw_t (tb_8 (List.mem_of_getElem? (i := 75) rfl)) rfl
theorem gw_1823 : Cond.instanceMethod ⟨"HedgeCommitteeModel", "carries", "(I)V"⟩ ∈ gw := gw_t (tb_8 (List.mem_of_getElem? (i := 77) rfl)) rfl
theorem gw_1824 : Cond.code ⟨"HedgeCommitteeModel", "carries", "(I)V"⟩ prog_12_method_32_code 2 none ∈ gw := gw_t (tb_8 (List.mem_of_getElem? (i := 78) rfl)) rfl
theorem gw_1826 : Cond.instanceMethod ⟨"HedgeCommitteeModel", "passSeason", "()I"⟩ ∈ gw := gw_t (tb_8 (List.mem_of_getElem? (i := 80) rfl)) rfl
theorem gw_1827 : Cond.selects "HedgeCommitteeModel" ⟨"HedgeCommitteeModel", "passSeason", "()I"⟩ ⟨"HedgeCommitteeModel", "passSeason", "()I"⟩ ∈ gw := gw_t (tb_8 (List.mem_of_getElem? (i := 81) rfl)) rfl
theorem gw_1828 : Cond.code ⟨"HedgeCommitteeModel", "passSeason", "()I"⟩ prog_12_method_36_code 1 (some .int) ∈ gw := gw_t (tb_8 (List.mem_of_getElem? (i := 82) rfl)) rfl
theorem gw_1829 : Cond.methodLink "HedgeCommitteeModel" 163 ⟨"HedgeCommitteeModel", "seasonIt", "()I"⟩ ∈ gw := gw_t (tb_8 (List.mem_of_getElem? (i := 83) rfl)) rfl
theorem gw_1831 : Cond.instanceMethod ⟨"HedgeCommitteeModel", "seasonIt", "()I"⟩ ∈ gw := gw_t (tb_8 (List.mem_of_getElem? (i := 85) rfl)) rfl
theorem gw_1832 : Cond.code ⟨"HedgeCommitteeModel", "seasonIt", "()I"⟩ prog_12_method_35_code 3 (some .int) ∈ gw := gw_t (tb_8 (List.mem_of_getElem? (i := 86) rfl)) rfl
theorem gw_1833 : Cond.methodLink "HedgeCommitteeModel" 160 ⟨"java/lang/Math", "min", "(II)I"⟩ ∈ gw := gw_t (tb_8 (List.mem_of_getElem? (i := 87) rfl)) rfl
theorem gw_1835 : Cond.instanceMethod ⟨"HedgeCommitteeModel", "hedgeCount", "()I"⟩ ∈ gw := gw_t (tb_8 (List.mem_of_getElem? (i := 89) rfl)) rfl
theorem gw_1836 : Cond.selects "HedgeCommitteeModel" ⟨"HedgeCommitteeModel", "hedgeCount", "()I"⟩ ⟨"HedgeCommitteeModel", "hedgeCount", "()I"⟩ ∈ gw := gw_t (tb_8 (List.mem_of_getElem? (i := 90) rfl)) rfl
theorem gw_1837 : Cond.code ⟨"HedgeCommitteeModel", "hedgeCount", "()I"⟩ prog_12_method_37_code 1 (some .int) ∈ gw := gw_t (tb_8 (List.mem_of_getElem? (i := 91) rfl)) rfl
theorem gw_1839 : Cond.instanceMethod ⟨"HedgeCommitteeModel", "leaves", "(I)I"⟩ ∈ gw := gw_t (tb_8 (List.mem_of_getElem? (i := 93) rfl)) rfl
theorem gw_1840 : Cond.selects "HedgeCommitteeModel" ⟨"HedgeCommitteeModel", "leaves", "(I)I"⟩ ⟨"HedgeCommitteeModel", "leaves", "(I)I"⟩ ∈ gw := gw_t (tb_8 (List.mem_of_getElem? (i := 94) rfl)) rfl
theorem gw_1841 : Cond.code ⟨"HedgeCommitteeModel", "leaves", "(I)I"⟩ prog_12_method_38_code 2 (some .int) ∈ gw := gw_t (tb_8 (List.mem_of_getElem? (i := 95) rfl)) rfl
theorem gw_1842 : Cond.methodLink "HedgeCommitteeModel" 166 ⟨"HedgeCommitteeModel", "isHedge", "(I)Z"⟩ ∈ gw := gw_t (tb_8 (List.mem_of_getElem? (i := 96) rfl)) rfl
theorem gw_1844 : Cond.instanceMethod ⟨"HedgeCommitteeModel", "isHedge", "(I)Z"⟩ ∈ gw := gw_t (tb_8 (List.mem_of_getElem? (i := 98) rfl)) rfl
theorem gw_1845 : Cond.code ⟨"HedgeCommitteeModel", "isHedge", "(I)Z"⟩ prog_12_method_8_code 2 (some .boolean) ∈ gw := gw_t (tb_8 (List.mem_of_getElem? (i := 99) rfl)) rfl
theorem gw_1847 : Cond.instanceMethod ⟨"HedgeCommitteeModel", "thorns", "(I)I"⟩ ∈ gw := gw_t (tb_8 (List.mem_of_getElem? (i := 101) rfl)) rfl
theorem gw_1848 : Cond.selects "HedgeCommitteeModel" ⟨"HedgeCommitteeModel", "thorns", "(I)I"⟩ ⟨"HedgeCommitteeModel", "thorns", "(I)I"⟩ ∈ gw := gw_t (tb_8 (List.mem_of_getElem? (i := 102) rfl)) rfl
theorem gw_1849 : Cond.code ⟨"HedgeCommitteeModel", "thorns", "(I)I"⟩ prog_12_method_39_code 2 (some .int) ∈ gw := gw_t (tb_8 (List.mem_of_getElem? (i := 103) rfl)) rfl
theorem gw_1851 : Cond.instanceMethod ⟨"HedgeCommitteeModel", "hedgeAtRank", "(I)I"⟩ ∈ gw := gw_t (tb_8 (List.mem_of_getElem? (i := 105) rfl)) rfl
theorem gw_1852 : Cond.selects "HedgeCommitteeModel" ⟨"HedgeCommitteeModel", "hedgeAtRank", "(I)I"⟩ ⟨"HedgeCommitteeModel", "hedgeAtRank", "(I)I"⟩ ∈ gw := gw_t (tb_8 (List.mem_of_getElem? (i := 106) rfl)) rfl
theorem gw_1853 : Cond.code ⟨"HedgeCommitteeModel", "hedgeAtRank", "(I)I"⟩ prog_12_method_41_code 5 (some .int) ∈ gw := gw_t (tb_8 (List.mem_of_getElem? (i := 107) rfl)) rfl
theorem gw_1854 : Cond.methodLink "HedgeCommitteeModel" 169 ⟨"HedgeCommitteeModel", "isHedgeAhead", "(II)Z"⟩ ∈ gw := gw_t (tb_8 (List.mem_of_getElem? (i := 108) rfl)) rfl
theorem gw_1856 : Cond.instanceMethod ⟨"HedgeCommitteeModel", "isHedgeAhead", "(II)Z"⟩ ∈ gw := gw_t (tb_8 (List.mem_of_getElem? (i := 110) rfl)) rfl
theorem gw_1857 : Cond.code ⟨"HedgeCommitteeModel", "isHedgeAhead", "(II)Z"⟩ prog_12_method_40_code 4 (some .boolean) ∈ gw := gw_t (tb_8 (List.mem_of_getElem? (i := 111) rfl)) rfl
theorem gw_1859 : Cond.instanceMethod ⟨"HedgeCommitteeModel", "leavesInFavour", "(I)I"⟩ ∈ gw := gw_t (tb_8 (List.mem_of_getElem? (i := 113) rfl)) rfl
theorem gw_1860 : Cond.selects "HedgeCommitteeModel" ⟨"HedgeCommitteeModel", "leavesInFavour", "(I)I"⟩ ⟨"HedgeCommitteeModel", "leavesInFavour", "(I)I"⟩ ∈ gw := gw_t (tb_8 (List.mem_of_getElem? (i := 114) rfl)) rfl
theorem gw_1861 : Cond.code ⟨"HedgeCommitteeModel", "leavesInFavour", "(I)I"⟩ prog_12_method_42_code 3 (some .int) ∈ gw := gw_t (tb_8 (List.mem_of_getElem? (i := 115) rfl)) rfl
theorem gw_1863 : Cond.instanceMethod ⟨"HedgeCommitteeModel", "wouldVeto", "(II)Z"⟩ ∈ gw := gw_t (tb_8 (List.mem_of_getElem? (i := 117) rfl)) rfl
theorem gw_1864 : Cond.selects "HedgeCommitteeModel" ⟨"HedgeCommitteeModel", "wouldVeto", "(II)Z"⟩ ⟨"HedgeCommitteeModel", "wouldVeto", "(II)Z"⟩ ∈ gw := gw_t (tb_8 (List.mem_of_getElem? (i := 118) rfl)) rfl
theorem gw_1865 : Cond.code ⟨"HedgeCommitteeModel", "wouldVeto", "(II)Z"⟩ prog_12_method_43_code 4 (some .boolean) ∈ gw := gw_t (tb_8 (List.mem_of_getElem? (i := 119) rfl)) rfl
theorem gw_1867 : Cond.instanceMethod ⟨"HedgeCommitteeModel", "motionCount", "()I"⟩ ∈ gw := gw_t (tb_8 (List.mem_of_getElem? (i := 121) rfl)) rfl
theorem gw_1868 : Cond.selects "HedgeCommitteeModel" ⟨"HedgeCommitteeModel", "motionCount", "()I"⟩ ⟨"HedgeCommitteeModel", "motionCount", "()I"⟩ ∈ gw := gw_t (tb_8 (List.mem_of_getElem? (i := 122) rfl)) rfl
theorem gw_1869 : Cond.code ⟨"HedgeCommitteeModel", "motionCount", "()I"⟩ prog_12_method_44_code 1 (some .int) ∈ gw := gw_t (tb_8 (List.mem_of_getElem? (i := 123) rfl)) rfl
theorem gw_1871 : Cond.instanceMethod ⟨"HedgeCommitteeModel", "motionAt", "(I)I"⟩ ∈ gw := gw_t (tb_8 (List.mem_of_getElem? (i := 125) rfl)) rfl
theorem gw_1872 : Cond.selects "HedgeCommitteeModel" ⟨"HedgeCommitteeModel", "motionAt", "(I)I"⟩ ⟨"HedgeCommitteeModel", "motionAt", "(I)I"⟩ ∈ gw := gw_t (tb_8 (List.mem_of_getElem? (i := 126) rfl)) rfl
theorem gw_1873 : Cond.code ⟨"HedgeCommitteeModel", "motionAt", "(I)I"⟩ prog_12_method_45_code 2 (some .int) ∈ gw := gw_t (tb_8 (List.mem_of_getElem? (i := 127) rfl)) rfl
theorem gw_1875 : Cond.instanceMethod ⟨"HedgeCommitteeModel", "tone", "(I)I"⟩ ∈ gw := gw_t (tb_8 (List.mem_of_getElem? (i := 129) rfl)) rfl
theorem gw_1876 : Cond.selects "HedgeCommitteeModel" ⟨"HedgeCommitteeModel", "tone", "(I)I"⟩ ⟨"HedgeCommitteeModel", "tone", "(I)I"⟩ ∈ gw := gw_t (tb_8 (List.mem_of_getElem? (i := 130) rfl)) rfl
theorem gw_1877 : Cond.code ⟨"HedgeCommitteeModel", "tone", "(I)I"⟩ prog_12_method_47_code 2 (some .int) ∈ gw := gw_t (tb_8 (List.mem_of_getElem? (i := 131) rfl)) rfl
theorem gw_1878 : Cond.methodLink "HedgeCommitteeModel" 172 ⟨"HedgeCommitteeModel", "ofMotion", "(II)I"⟩ ∈ gw := gw_t (tb_8 (List.mem_of_getElem? (i := 132) rfl)) rfl
theorem gw_1880 : Cond.instanceMethod ⟨"HedgeCommitteeModel", "ofMotion", "(II)I"⟩ ∈ gw := gw_t (tb_8 (List.mem_of_getElem? (i := 134) rfl)) rfl
theorem gw_1881 : Cond.code ⟨"HedgeCommitteeModel", "ofMotion", "(II)I"⟩ prog_12_method_46_code 3 (some .int) ∈ gw := gw_t (tb_8 (List.mem_of_getElem? (i := 135) rfl)) rfl
theorem gw_1883 : Cond.instanceMethod ⟨"HedgeCommitteeModel", "weight", "(I)I"⟩ ∈ gw := gw_t (tb_8 (List.mem_of_getElem? (i := 137) rfl)) rfl
theorem gw_1884 : Cond.selects "HedgeCommitteeModel" ⟨"HedgeCommitteeModel", "weight", "(I)I"⟩ ⟨"HedgeCommitteeModel", "weight", "(I)I"⟩ ∈ gw := gw_t (tb_8 (List.mem_of_getElem? (i := 138) rfl)) rfl
theorem gw_1885 : Cond.code ⟨"HedgeCommitteeModel", "weight", "(I)I"⟩ prog_12_method_48_code 2 (some .int) ∈ gw := gw_t (tb_8 (List.mem_of_getElem? (i := 139) rfl)) rfl
theorem gw_1887 : Cond.instanceMethod ⟨"HedgeCommitteeModel", "parent", "(I)I"⟩ ∈ gw := gw_t (tb_8 (List.mem_of_getElem? (i := 141) rfl)) rfl
theorem gw_1888 : Cond.selects "HedgeCommitteeModel" ⟨"HedgeCommitteeModel", "parent", "(I)I"⟩ ⟨"HedgeCommitteeModel", "parent", "(I)I"⟩ ∈ gw := gw_t (tb_8 (List.mem_of_getElem? (i := 142) rfl)) rfl
theorem gw_1889 : Cond.code ⟨"HedgeCommitteeModel", "parent", "(I)I"⟩ prog_12_method_49_code 3 (some .int) ∈ gw := gw_t (tb_8 (List.mem_of_getElem? (i := 143) rfl)) rfl
theorem gw_1891 : Cond.instanceMethod ⟨"HedgeCommitteeModel", "depth", "(I)I"⟩ ∈ gw := gw_t (tb_8 (List.mem_of_getElem? (i := 145) rfl)) rfl
theorem gw_1892 : Cond.selects "HedgeCommitteeModel" ⟨"HedgeCommitteeModel", "depth", "(I)I"⟩ ⟨"HedgeCommitteeModel", "depth", "(I)I"⟩ ∈ gw := gw_t (tb_8 (List.mem_of_getElem? (i := 146) rfl)) rfl
theorem gw_1893 : Cond.code ⟨"HedgeCommitteeModel", "depth", "(I)I"⟩ prog_12_method_50_code 2 (some .int) ∈ gw := gw_t (tb_8 (List.mem_of_getElem? (i := 147) rfl)) rfl
theorem gw_1895 : Cond.instanceMethod ⟨"HedgeCommitteeModel", "isTip", "(I)Z"⟩ ∈ gw := gw_t (tb_8 (List.mem_of_getElem? (i := 149) rfl)) rfl
theorem gw_1896 : Cond.selects "HedgeCommitteeModel" ⟨"HedgeCommitteeModel", "isTip", "(I)Z"⟩ ⟨"HedgeCommitteeModel", "isTip", "(I)Z"⟩ ∈ gw := gw_t (tb_8 (List.mem_of_getElem? (i := 150) rfl)) rfl
theorem gw_1897 : Cond.code ⟨"HedgeCommitteeModel", "isTip", "(I)Z"⟩ prog_12_method_51_code 2 (some .boolean) ∈ gw := gw_t (tb_8 (List.mem_of_getElem? (i := 151) rfl)) rfl
theorem gw_1899 : Cond.instanceMethod ⟨"HedgeCommitteeModel", "branchSize", "(I)I"⟩ ∈ gw := gw_t (tb_8 (List.mem_of_getElem? (i := 153) rfl)) rfl
theorem gw_1900 : Cond.selects "HedgeCommitteeModel" ⟨"HedgeCommitteeModel", "branchSize", "(I)I"⟩ ⟨"HedgeCommitteeModel", "branchSize", "(I)I"⟩ ∈ gw := gw_t (tb_8 (List.mem_of_getElem? (i := 154) rfl)) rfl
theorem gw_1901 : Cond.code ⟨"HedgeCommitteeModel", "branchSize", "(I)I"⟩ prog_12_method_52_code 5 (some .int) ∈ gw := gw_t (tb_8 (List.mem_of_getElem? (i := 155) rfl)) rfl
theorem gw_1903 : Cond.instanceMethod ⟨"HedgeCommitteeModel", "lastTip", "(I)I"⟩ ∈ gw := gw_t (tb_8 (List.mem_of_getElem? (i := 157) rfl)) rfl
theorem gw_1904 : Cond.selects "HedgeCommitteeModel" ⟨"HedgeCommitteeModel", "lastTip", "(I)I"⟩ ⟨"HedgeCommitteeModel", "lastTip", "(I)I"⟩ ∈ gw := gw_t (tb_8 (List.mem_of_getElem? (i := 158) rfl)) rfl
theorem gw_1905 : Cond.code ⟨"HedgeCommitteeModel", "lastTip", "(I)I"⟩ prog_12_method_53_code 3 (some .int) ∈ gw := gw_t (tb_8 (List.mem_of_getElem? (i := 159) rfl)) rfl
theorem gw_1907 : Cond.instanceMethod ⟨"HedgeCommitteeModel", "motionAtRank", "(I)I"⟩ ∈ gw := gw_t (tb_8 (List.mem_of_getElem? (i := 161) rfl)) rfl
theorem gw_1908 : Cond.selects "HedgeCommitteeModel" ⟨"HedgeCommitteeModel", "motionAtRank", "(I)I"⟩ ⟨"HedgeCommitteeModel", "motionAtRank", "(I)I"⟩ ∈ gw := gw_t (tb_8 (List.mem_of_getElem? (i := 162) rfl)) rfl
theorem gw_1909 : Cond.code ⟨"HedgeCommitteeModel", "motionAtRank", "(I)I"⟩ prog_12_method_55_code 5 (some .int) ∈ gw := gw_t (tb_8 (List.mem_of_getElem? (i := 163) rfl)) rfl
theorem gw_1910 : Cond.methodLink "HedgeCommitteeModel" 175 ⟨"HedgeCommitteeModel", "isMotionAhead", "(II)Z"⟩ ∈ gw := gw_t (tb_8 (List.mem_of_getElem? (i := 164) rfl)) rfl
theorem gw_1912 : Cond.instanceMethod ⟨"HedgeCommitteeModel", "isMotionAhead", "(II)Z"⟩ ∈ gw := gw_t (tb_8 (List.mem_of_getElem? (i := 166) rfl)) rfl
theorem gw_1913 : Cond.code ⟨"HedgeCommitteeModel", "isMotionAhead", "(II)Z"⟩ prog_12_method_54_code 4 (some .boolean) ∈ gw := gw_t (tb_8 (List.mem_of_getElem? (i := 167) rfl)) rfl
theorem gw_1915 : Cond.instanceMethod ⟨"HedgeCommitteeModel", "commonMotion", "(II)I"⟩ ∈ gw := gw_t (tb_8 (List.mem_of_getElem? (i := 169) rfl)) rfl
theorem gw_1916 : Cond.selects "HedgeCommitteeModel" ⟨"HedgeCommitteeModel", "commonMotion", "(II)I"⟩ ⟨"HedgeCommitteeModel", "commonMotion", "(II)I"⟩ ∈ gw := gw_t (tb_8 (List.mem_of_getElem? (i := 170) rfl)) rfl
theorem gw_1917 : Cond.code ⟨"HedgeCommitteeModel", "commonMotion", "(II)I"⟩ prog_12_method_57_code 6 (some .int) ∈ gw := gw_t (tb_8 (List.mem_of_getElem? (i := 171) rfl)) rfl
theorem gw_1918 : Cond.methodLink "HedgeCommitteeModel" 178 ⟨"HedgeCommitteeModel", "common", "(II)I"⟩ ∈ gw := gw_t (tb_8 (List.mem_of_getElem? (i := 172) rfl)) rfl
theorem gw_1920 : Cond.instanceMethod ⟨"HedgeCommitteeModel", "common", "(II)I"⟩ ∈ gw := gw_t (tb_8 (List.mem_of_getElem? (i := 174) rfl)) rfl
theorem gw_1921 : Cond.code ⟨"HedgeCommitteeModel", "common", "(II)I"⟩ prog_12_method_56_code 5 (some .int) ∈ gw := gw_t (tb_8 (List.mem_of_getElem? (i := 175) rfl)) rfl
theorem gw_1923 : Cond.instanceMethod ⟨"HedgeCommitteeModel", "commonMotionByRows", "(II)I"⟩ ∈ gw := gw_t (tb_8 (List.mem_of_getElem? (i := 177) rfl)) rfl
theorem gw_1924 : Cond.selects "HedgeCommitteeModel" ⟨"HedgeCommitteeModel", "commonMotionByRows", "(II)I"⟩ ⟨"HedgeCommitteeModel", "commonMotionByRows", "(II)I"⟩ ∈ gw := gw_t (tb_8 (List.mem_of_getElem? (i := 178) rfl)) rfl
theorem gw_1925 : Cond.code ⟨"HedgeCommitteeModel", "commonMotionByRows", "(II)I"⟩ prog_12_method_58_code 3 (some .int) ∈ gw := gw_t (tb_8 (List.mem_of_getElem? (i := 179) rfl)) rfl
theorem gw_1926 : Cond.methodLink "HedgeCommitteeModel" 181 ⟨"HedgeCommitteeModel", "commonMotion", "(II)I"⟩ ∈ gw := gw_t (tb_8 (List.mem_of_getElem? (i := 180) rfl)) rfl
theorem gw_1928 : Cond.instanceMethod ⟨"HedgeCommitteeModel", "pathSize", "(II)I"⟩ ∈ gw := gw_t (tb_8 (List.mem_of_getElem? (i := 182) rfl)) rfl
theorem gw_1929 : Cond.selects "HedgeCommitteeModel" ⟨"HedgeCommitteeModel", "pathSize", "(II)I"⟩ ⟨"HedgeCommitteeModel", "pathSize", "(II)I"⟩ ∈ gw := gw_t (tb_8 (List.mem_of_getElem? (i := 183) rfl)) rfl
theorem gw_1930 : Cond.code ⟨"HedgeCommitteeModel", "pathSize", "(II)I"⟩ prog_12_method_60_code 3 (some .int) ∈ gw := gw_t (tb_8 (List.mem_of_getElem? (i := 184) rfl)) rfl
theorem gw_1931 : Cond.methodLink "HedgeCommitteeModel" 184 ⟨"HedgeCommitteeModel", "steps", "(II)I"⟩ ∈ gw := gw_t (tb_8 (List.mem_of_getElem? (i := 185) rfl)) rfl
theorem gw_1933 : Cond.instanceMethod ⟨"HedgeCommitteeModel", "steps", "(II)I"⟩ ∈ gw := gw_t (tb_8 (List.mem_of_getElem? (i := 187) rfl)) rfl
theorem gw_1934 : Cond.code ⟨"HedgeCommitteeModel", "steps", "(II)I"⟩ prog_12_method_59_code 3 (some .int) ∈ gw := gw_t (tb_8 (List.mem_of_getElem? (i := 188) rfl)) rfl
theorem gw_1936 : Cond.instanceMethod ⟨"HedgeCommitteeModel", "longestPath", "(I)I"⟩ ∈ gw := gw_t (tb_8 (List.mem_of_getElem? (i := 190) rfl)) rfl
theorem gw_1937 : Cond.selects "HedgeCommitteeModel" ⟨"HedgeCommitteeModel", "longestPath", "(I)I"⟩ ⟨"HedgeCommitteeModel", "longestPath", "(I)I"⟩ ∈ gw := gw_t (tb_8 (List.mem_of_getElem? (i := 191) rfl)) rfl
theorem gw_1938 : Cond.code ⟨"HedgeCommitteeModel", "longestPath", "(I)I"⟩ prog_12_method_61_code 6 (some .int) ∈ gw := gw_t (tb_8 (List.mem_of_getElem? (i := 192) rfl)) rfl
theorem gw_1940 : Cond.instanceMethod ⟨"HedgeCommitteeModel", "longestPathBySweeps", "(I)I"⟩ ∈ gw := gw_t (tb_8 (List.mem_of_getElem? (i := 194) rfl)) rfl
theorem gw_1941 : Cond.selects "HedgeCommitteeModel" ⟨"HedgeCommitteeModel", "longestPathBySweeps", "(I)I"⟩ ⟨"HedgeCommitteeModel", "longestPathBySweeps", "(I)I"⟩ ∈ gw := gw_t (tb_8 (List.mem_of_getElem? (i := 195) rfl)) rfl
theorem gw_1942 : Cond.code ⟨"HedgeCommitteeModel", "longestPathBySweeps", "(I)I"⟩ prog_12_method_62_code 2 (some .int) ∈ gw := gw_t (tb_8 (List.mem_of_getElem? (i := 196) rfl)) rfl
theorem gw_1943 : Cond.methodLink "HedgeCommitteeModel" 187 ⟨"HedgeCommitteeModel", "longestPath", "(I)I"⟩ ∈ gw := gw_t (tb_8 (List.mem_of_getElem? (i := 197) rfl)) rfl
theorem gw_1945 : Cond.instanceMethod ⟨"HedgeCommitteeModel", "bestWorth", "()I"⟩ ∈ gw := gw_t (tb_8 (List.mem_of_getElem? (i := 199) rfl)) rfl
theorem gw_1946 : Cond.selects "HedgeCommitteeModel" ⟨"HedgeCommitteeModel", "bestWorth", "()I"⟩ ⟨"HedgeCommitteeModel", "bestWorth", "()I"⟩ ∈ gw := gw_t (tb_8 (List.mem_of_getElem? (i := 200) rfl)) rfl
theorem gw_1947 : Cond.code ⟨"HedgeCommitteeModel", "bestWorth", "()I"⟩ prog_12_method_64_code 1 (some .int) ∈ gw := gw_t (tb_8 (List.mem_of_getElem? (i := 201) rfl)) rfl
theorem gw_1948 : Cond.methodLink "HedgeCommitteeModel" 196 ⟨"HedgeCommitteeModel", "measures", "()V"⟩ ∈ gw := gw_t (tb_8 (List.mem_of_getElem? (i := 202) rfl)) rfl
theorem gw_1950 : Cond.instanceMethod ⟨"HedgeCommitteeModel", "measures", "()V"⟩ ∈ gw := gw_t (tb_8 (List.mem_of_getElem? (i := 204) rfl)) rfl
theorem gw_1951 : Cond.code ⟨"HedgeCommitteeModel", "measures", "()V"⟩ prog_12_method_63_code 5 none ∈ gw := gw_t (tb_8 (List.mem_of_getElem? (i := 205) rfl)) rfl
theorem gw_1953 : Cond.instanceMethod ⟨"HedgeCommitteeModel", "bestWorthBySets", "()I"⟩ ∈ gw := gw_t (tb_8 (List.mem_of_getElem? (i := 207) rfl)) rfl
theorem gw_1954 : Cond.selects "HedgeCommitteeModel" ⟨"HedgeCommitteeModel", "bestWorthBySets", "()I"⟩ ⟨"HedgeCommitteeModel", "bestWorthBySets", "()I"⟩ ∈ gw := gw_t (tb_8 (List.mem_of_getElem? (i := 208) rfl)) rfl
theorem gw_1955 : Cond.code ⟨"HedgeCommitteeModel", "bestWorthBySets", "()I"⟩ prog_12_method_65_code 1 (some .int) ∈ gw := gw_t (tb_8 (List.mem_of_getElem? (i := 209) rfl)) rfl
theorem gw_1956 : Cond.methodLink "HedgeCommitteeModel" 199 ⟨"HedgeCommitteeModel", "bestWorth", "()I"⟩ ∈ gw := gw_t (tb_8 (List.mem_of_getElem? (i := 210) rfl)) rfl
theorem gw_1958 : Cond.instanceMethod ⟨"HedgeCommitteeModel", "goodSets", "()I"⟩ ∈ gw := gw_t (tb_8 (List.mem_of_getElem? (i := 212) rfl)) rfl
theorem gw_1959 : Cond.selects "HedgeCommitteeModel" ⟨"HedgeCommitteeModel", "goodSets", "()I"⟩ ⟨"HedgeCommitteeModel", "goodSets", "()I"⟩ ∈ gw := gw_t (tb_8 (List.mem_of_getElem? (i := 213) rfl)) rfl
theorem gw_1960 : Cond.code ⟨"HedgeCommitteeModel", "goodSets", "()I"⟩ prog_12_method_66_code 1 (some .int) ∈ gw := gw_t (tb_8 (List.mem_of_getElem? (i := 214) rfl)) rfl
theorem gw_1962 : Cond.instanceMethod ⟨"HedgeCommitteeModel", "season", "()I"⟩ ∈ gw := gw_t (tb_8 (List.mem_of_getElem? (i := 216) rfl)) rfl
theorem gw_1963 : Cond.selects "HedgeCommitteeModel" ⟨"HedgeCommitteeModel", "season", "()I"⟩ ⟨"HedgeCommitteeModel", "season", "()I"⟩ ∈ gw := gw_t (tb_8 (List.mem_of_getElem? (i := 217) rfl)) rfl
theorem gw_1964 : Cond.code ⟨"HedgeCommitteeModel", "season", "()I"⟩ prog_12_method_67_code 1 (some .int) ∈ gw := gw_t (tb_8 (List.mem_of_getElem? (i := 218) rfl)) rfl
theorem gw_1966 : Cond.instanceMethod ⟨"HedgeCommitteeModel", "minutesIn", "(I)I"⟩ ∈ gw := gw_t (tb_8 (List.mem_of_getElem? (i := 220) rfl)) rfl
theorem gw_1967 : Cond.selects "HedgeCommitteeModel" ⟨"HedgeCommitteeModel", "minutesIn", "(I)I"⟩ ⟨"HedgeCommitteeModel", "minutesIn", "(I)I"⟩ ∈ gw := gw_t (tb_8 (List.mem_of_getElem? (i := 221) rfl)) rfl
theorem gw_1968 : Cond.code ⟨"HedgeCommitteeModel", "minutesIn", "(I)I"⟩ prog_12_method_68_code 2 (some .int) ∈ gw := gw_t (tb_8 (List.mem_of_getElem? (i := 222) rfl)) rfl
theorem gw_1969 : Cond.constantLong "HedgeCommitteeModel" 202 (3 : Int64) ∈ gw := gw_t (tb_8 (List.mem_of_getElem? (i := 223) rfl)) (by decide +kernel)
theorem gw_1971 : Cond.instanceMethod ⟨"HedgeCommitteeModel", "adoptedWeight", "()I"⟩ ∈ gw := gw_t (tb_8 (List.mem_of_getElem? (i := 225) rfl)) rfl
theorem gw_1972 : Cond.selects "HedgeCommitteeModel" ⟨"HedgeCommitteeModel", "adoptedWeight", "()I"⟩ ⟨"HedgeCommitteeModel", "adoptedWeight", "()I"⟩ ∈ gw := gw_t (tb_8 (List.mem_of_getElem? (i := 226) rfl)) rfl
theorem gw_1973 : Cond.code ⟨"HedgeCommitteeModel", "adoptedWeight", "()I"⟩ prog_12_method_69_code 1 (some .int) ∈ gw := gw_t (tb_8 (List.mem_of_getElem? (i := 227) rfl)) rfl
theorem gw_1975 : Cond.instanceMethod ⟨"HedgeCommitteeModel", "weightTotal", "()I"⟩ ∈ gw := gw_t (tb_8 (List.mem_of_getElem? (i := 229) rfl)) rfl
theorem gw_1976 : Cond.selects "HedgeCommitteeModel" ⟨"HedgeCommitteeModel", "weightTotal", "()I"⟩ ⟨"HedgeCommitteeModel", "weightTotal", "()I"⟩ ∈ gw := gw_t (tb_8 (List.mem_of_getElem? (i := 230) rfl)) rfl
theorem gw_1977 : Cond.code ⟨"HedgeCommitteeModel", "weightTotal", "()I"⟩ prog_12_method_70_code 3 (some .int) ∈ gw := gw_t (tb_8 (List.mem_of_getElem? (i := 231) rfl)) rfl
theorem gw_1979 : Cond.instanceMethod ⟨"HedgeCommitteeModel", "weightByAccounts", "()I"⟩ ∈ gw := gw_t (tb_8 (List.mem_of_getElem? (i := 233) rfl)) rfl
theorem gw_1980 : Cond.selects "HedgeCommitteeModel" ⟨"HedgeCommitteeModel", "weightByAccounts", "()I"⟩ ⟨"HedgeCommitteeModel", "weightByAccounts", "()I"⟩ ∈ gw := gw_t (tb_8 (List.mem_of_getElem? (i := 234) rfl)) rfl
theorem gw_1981 : Cond.code ⟨"HedgeCommitteeModel", "weightByAccounts", "()I"⟩ prog_12_method_71_code 1 (some .int) ∈ gw := gw_t (tb_8 (List.mem_of_getElem? (i := 235) rfl)) rfl
theorem gw_1982 : Cond.methodLink "HedgeCommitteeModel" 204 ⟨"HedgeCommitteeModel", "weightTotal", "()I"⟩ ∈ gw := gw_t (tb_8 (List.mem_of_getElem? (i := 236) rfl)) rfl
theorem gw_1984 : Cond.instanceMethod ⟨"HedgeCommitteeModel", "meanLeaves", "()D"⟩ ∈ gw := gw_t (tb_8 (List.mem_of_getElem? (i := 238) rfl)) rfl
theorem gw_1985 : Cond.selects "HedgeCommitteeModel" ⟨"HedgeCommitteeModel", "meanLeaves", "()D"⟩ ⟨"HedgeCommitteeModel", "meanLeaves", "()D"⟩ ∈ gw := gw_t (tb_8 (List.mem_of_getElem? (i := 239) rfl)) rfl
theorem gw_1986 : Cond.code ⟨"HedgeCommitteeModel", "meanLeaves", "()D"⟩ prog_12_method_72_code 1 (some .double) ∈ gw := gw_t (tb_9 (List.mem_of_getElem? (i := 0) rfl)) rfl
theorem gw_1988 : Cond.instanceMethod ⟨"HedgeCommitteeModel", "carriedShare", "()F"⟩ ∈ gw := gw_t (tb_9 (List.mem_of_getElem? (i := 2) rfl)) rfl
theorem gw_1989 : Cond.selects "HedgeCommitteeModel" ⟨"HedgeCommitteeModel", "carriedShare", "()F"⟩ ⟨"HedgeCommitteeModel", "carriedShare", "()F"⟩ ∈ gw := gw_t (tb_9 (List.mem_of_getElem? (i := 3) rfl)) rfl
theorem gw_1990 : Cond.code ⟨"HedgeCommitteeModel", "carriedShare", "()F"⟩ prog_12_method_73_code 1 (some .float) ∈ gw := gw_t (tb_9 (List.mem_of_getElem? (i := 4) rfl)) rfl
theorem gw_1992 : Cond.instanceMethod ⟨"HedgeCommitteeModel", "isConsistent", "()Z"⟩ ∈ gw := gw_t (tb_9 (List.mem_of_getElem? (i := 6) rfl)) rfl
theorem gw_1993 : Cond.selects "HedgeCommitteeModel" ⟨"HedgeCommitteeModel", "isConsistent", "()Z"⟩ ⟨"HedgeCommitteeModel", "isConsistent", "()Z"⟩ ∈ gw := gw_t (tb_9 (List.mem_of_getElem? (i := 7) rfl)) rfl
theorem gw_1994 : Cond.code ⟨"HedgeCommitteeModel", "isConsistent", "()Z"⟩ prog_12_method_74_code 1 (some .boolean) ∈ gw := gw_t (tb_9 (List.mem_of_getElem? (i := 8) rfl)) rfl
theorem gw_1996 : Cond.instanceMethod ⟨"HedgeCommitteeModel", "append", "(C)I"⟩ ∈ gw := gw_t (tb_9 (List.mem_of_getElem? (i := 10) rfl)) rfl
theorem gw_1997 : Cond.selects "HedgeCommitteeModel" ⟨"HedgeCommitteeModel", "append", "(C)I"⟩ ⟨"HedgeCommitteeModel", "append", "(C)I"⟩ ∈ gw := gw_t (tb_9 (List.mem_of_getElem? (i := 11) rfl)) rfl
theorem gw_1998 : Cond.code ⟨"HedgeCommitteeModel", "append", "(C)I"⟩ prog_12_method_75_code 2 (some .int) ∈ gw := gw_t (tb_9 (List.mem_of_getElem? (i := 12) rfl)) rfl
theorem gw_2000 : Cond.instanceMethod ⟨"HedgeCommitteeModel", "run", "()I"⟩ ∈ gw := gw_t (tb_9 (List.mem_of_getElem? (i := 14) rfl)) rfl
theorem gw_2001 : Cond.selects "HedgeCommitteeModel" ⟨"HedgeCommitteeModel", "run", "()I"⟩ ⟨"HedgeCommitteeModel", "run", "()I"⟩ ∈ gw := gw_t (tb_9 (List.mem_of_getElem? (i := 15) rfl)) rfl
theorem gw_2002 : Cond.code ⟨"HedgeCommitteeModel", "run", "()I"⟩ prog_12_method_86_code 4 (some .int) ∈ gw := gw_t (tb_9 (List.mem_of_getElem? (i := 16) rfl)) rfl
theorem gw_2003 : Cond.methodLink "HedgeCommitteeModel" 252 ⟨"HedgeCommitteeModel", "readCommand", "()V"⟩ ∈ gw := gw_t (tb_9 (List.mem_of_getElem? (i := 17) rfl)) rfl
theorem gw_2005 : Cond.instanceMethod ⟨"HedgeCommitteeModel", "readCommand", "()V"⟩ ∈ gw := gw_t (tb_9 (List.mem_of_getElem? (i := 19) rfl)) rfl
theorem gw_2006 : Cond.code ⟨"HedgeCommitteeModel", "readCommand", "()V"⟩ prog_12_method_84_code 4 none ∈ gw := gw_t (tb_9 (List.mem_of_getElem? (i := 20) rfl)) rfl
theorem gw_2007 : Cond.methodLink "HedgeCommitteeModel" 245 ⟨"HedgeCommitteeModel", "likeness", "(I)I"⟩ ∈ gw := gw_t (tb_9 (List.mem_of_getElem? (i := 21) rfl)) rfl
theorem gw_2009 : Cond.instanceMethod ⟨"HedgeCommitteeModel", "likeness", "(I)I"⟩ ∈ gw := gw_t (tb_9 (List.mem_of_getElem? (i := 23) rfl)) rfl
theorem gw_2010 : Cond.code ⟨"HedgeCommitteeModel", "likeness", "(I)I"⟩ prog_12_method_82_code 4 (some .int) ∈ gw := gw_t (tb_9 (List.mem_of_getElem? (i := 24) rfl)) rfl
theorem gw_2011 : Cond.methodLink "HedgeCommitteeModel" 248 ⟨"HedgeCommitteeModel", "readArguments", "(II)V"⟩ ∈ gw := gw_t (tb_9 (List.mem_of_getElem? (i := 25) rfl)) rfl
theorem gw_2013 : Cond.instanceMethod ⟨"HedgeCommitteeModel", "readArguments", "(II)V"⟩ ∈ gw := gw_t (tb_9 (List.mem_of_getElem? (i := 27) rfl)) rfl
theorem gw_2014 : Cond.code ⟨"HedgeCommitteeModel", "readArguments", "(II)V"⟩ prog_12_method_83_code 3 none ∈ gw := gw_t (tb_9 (List.mem_of_getElem? (i := 28) rfl)) rfl
theorem gw_2015 : Cond.methodLink "HedgeCommitteeModel" 227 ⟨"HedgeCommitteeModel", "digit", "()I"⟩ ∈ gw := gw_t (tb_9 (List.mem_of_getElem? (i := 29) rfl)) rfl
theorem gw_2017 : Cond.instanceMethod ⟨"HedgeCommitteeModel", "digit", "()I"⟩ ∈ gw := gw_t (tb_9 (List.mem_of_getElem? (i := 31) rfl)) rfl
theorem gw_2018 : Cond.code ⟨"HedgeCommitteeModel", "digit", "()I"⟩ prog_12_method_78_code 2 (some .int) ∈ gw := gw_t (tb_9 (List.mem_of_getElem? (i := 32) rfl)) rfl
theorem gw_2019 : Cond.methodLink "HedgeCommitteeModel" 220 ⟨"HedgeCommitteeModel", "here", "()I"⟩ ∈ gw := gw_t (tb_9 (List.mem_of_getElem? (i := 33) rfl)) rfl
theorem gw_2021 : Cond.instanceMethod ⟨"HedgeCommitteeModel", "here", "()I"⟩ ∈ gw := gw_t (tb_9 (List.mem_of_getElem? (i := 35) rfl)) rfl
theorem gw_2022 : Cond.code ⟨"HedgeCommitteeModel", "here", "()I"⟩ prog_12_method_76_code 1 (some .int) ∈ gw := gw_t (tb_9 (List.mem_of_getElem? (i := 36) rfl)) rfl
theorem gw_2023 : Cond.constantLong "HedgeCommitteeModel" 223 (48 : Int64) ∈ gw := gw_t (tb_9 (List.mem_of_getElem? (i := 37) rfl)) (by decide +kernel)
theorem gw_2024 : Cond.constantLong "HedgeCommitteeModel" 225 (57 : Int64) ∈ gw := gw_t (tb_9 (List.mem_of_getElem? (i := 38) rfl)) (by decide +kernel)
theorem gw_2025 : Cond.methodLink "HedgeCommitteeModel" 233 ⟨"HedgeCommitteeModel", "number", "()I"⟩ ∈ gw := gw_t (tb_9 (List.mem_of_getElem? (i := 39) rfl)) rfl
theorem gw_2027 : Cond.instanceMethod ⟨"HedgeCommitteeModel", "number", "()I"⟩ ∈ gw := gw_t (tb_9 (List.mem_of_getElem? (i := 41) rfl)) rfl
theorem gw_2028 : Cond.code ⟨"HedgeCommitteeModel", "number", "()I"⟩ prog_12_method_79_code 2 (some .int) ∈ gw := gw_t (tb_9 (List.mem_of_getElem? (i := 42) rfl)) rfl
theorem gw_2029 : Cond.methodLink "HedgeCommitteeModel" 236 ⟨"HedgeCommitteeModel", "digitBehind", "()I"⟩ ∈ gw := gw_t (tb_9 (List.mem_of_getElem? (i := 43) rfl)) rfl
theorem gw_2031 : Cond.instanceMethod ⟨"HedgeCommitteeModel", "digitBehind", "()I"⟩ ∈ gw := gw_t (tb_9 (List.mem_of_getElem? (i := 45) rfl)) rfl
theorem gw_2032 : Cond.code ⟨"HedgeCommitteeModel", "digitBehind", "()I"⟩ prog_12_method_80_code 1 (some .int) ∈ gw := gw_t (tb_9 (List.mem_of_getElem? (i := 46) rfl)) rfl
theorem gw_2033 : Cond.methodLink "HedgeCommitteeModel" 230 ⟨"HedgeCommitteeModel", "expects", "(I)V"⟩ ∈ gw := gw_t (tb_9 (List.mem_of_getElem? (i := 47) rfl)) rfl
theorem gw_2035 : Cond.instanceMethod ⟨"HedgeCommitteeModel", "expects", "(I)V"⟩ ∈ gw := gw_t (tb_9 (List.mem_of_getElem? (i := 49) rfl)) rfl
theorem gw_2036 : Cond.code ⟨"HedgeCommitteeModel", "expects", "(I)V"⟩ prog_12_method_77_code 2 none ∈ gw := gw_t (tb_9 (List.mem_of_getElem? (i := 50) rfl)) rfl
theorem gw_2037 : Cond.methodLink "HedgeCommitteeModel" 239 ⟨"HedgeCommitteeModel", "numberBehind", "()I"⟩ ∈ gw := gw_t (tb_9 (List.mem_of_getElem? (i := 51) rfl)) rfl
theorem gw_2039 : Cond.instanceMethod ⟨"HedgeCommitteeModel", "numberBehind", "()I"⟩ ∈ gw := gw_t (tb_9 (List.mem_of_getElem? (i := 53) rfl)) rfl
theorem gw_2040 : Cond.code ⟨"HedgeCommitteeModel", "numberBehind", "()I"⟩ prog_12_method_81_code 1 (some .int) ∈ gw := gw_t (tb_9 (List.mem_of_getElem? (i := 54) rfl)) rfl
theorem gw_2041 : Cond.methodLink "HedgeCommitteeModel" 255 ⟨"HedgeCommitteeModel", "does", "(I)V"⟩ ∈ gw := gw_t (tb_9 (List.mem_of_getElem? (i := 55) rfl)) rfl
theorem gw_2043 : Cond.instanceMethod ⟨"HedgeCommitteeModel", "does", "(I)V"⟩ ∈ gw := gw_t (tb_9 (List.mem_of_getElem? (i := 57) rfl)) rfl
theorem gw_2044 : Cond.code ⟨"HedgeCommitteeModel", "does", "(I)V"⟩ prog_12_method_85_code 5 none ∈ gw := gw_t (tb_9 (List.mem_of_getElem? (i := 58) rfl)) rfl
theorem gw_2046 : Cond.instanceMethod ⟨"HedgeCommitteeModel", "errorPosition", "()I"⟩ ∈ gw := gw_t (tb_9 (List.mem_of_getElem? (i := 60) rfl)) rfl
theorem gw_2047 : Cond.selects "HedgeCommitteeModel" ⟨"HedgeCommitteeModel", "errorPosition", "()I"⟩ ⟨"HedgeCommitteeModel", "errorPosition", "()I"⟩ ∈ gw := gw_t (tb_9 (List.mem_of_getElem? (i := 61) rfl)) rfl
theorem gw_2048 : Cond.code ⟨"HedgeCommitteeModel", "errorPosition", "()I"⟩ prog_12_method_87_code 1 (some .int) ∈ gw := gw_t (tb_9 (List.mem_of_getElem? (i := 62) rfl)) rfl
theorem gw_2050 : Cond.instanceMethod ⟨"HedgeCommitteeModel", "failedCommand", "()I"⟩ ∈ gw := gw_t (tb_9 (List.mem_of_getElem? (i := 64) rfl)) rfl
theorem gw_2051 : Cond.selects "HedgeCommitteeModel" ⟨"HedgeCommitteeModel", "failedCommand", "()I"⟩ ⟨"HedgeCommitteeModel", "failedCommand", "()I"⟩ ∈ gw := gw_t (tb_9 (List.mem_of_getElem? (i := 65) rfl)) rfl
theorem gw_2052 : Cond.code ⟨"HedgeCommitteeModel", "failedCommand", "()I"⟩ prog_12_method_88_code 1 (some .int) ∈ gw := gw_t (tb_9 (List.mem_of_getElem? (i := 66) rfl)) rfl
theorem gw_2054 : Cond.instanceMethod ⟨"HedgeCommitteeModel", "writeBranch", "(I)I"⟩ ∈ gw := gw_t (tb_9 (List.mem_of_getElem? (i := 68) rfl)) rfl
theorem gw_2055 : Cond.selects "HedgeCommitteeModel" ⟨"HedgeCommitteeModel", "writeBranch", "(I)I"⟩ ⟨"HedgeCommitteeModel", "writeBranch", "(I)I"⟩ ∈ gw := gw_t (tb_9 (List.mem_of_getElem? (i := 69) rfl)) rfl
theorem gw_2056 : Cond.code ⟨"HedgeCommitteeModel", "writeBranch", "(I)I"⟩ prog_12_method_92_code 5 (some .int) ∈ gw := gw_t (tb_9 (List.mem_of_getElem? (i := 70) rfl)) rfl
theorem gw_2057 : Cond.methodLink "HedgeCommitteeModel" 264 ⟨"HedgeCommitteeModel", "writesWhole", "(I)V"⟩ ∈ gw := gw_t (tb_9 (List.mem_of_getElem? (i := 71) rfl)) rfl
theorem gw_2059 : Cond.instanceMethod ⟨"HedgeCommitteeModel", "writesWhole", "(I)V"⟩ ∈ gw := gw_t (tb_9 (List.mem_of_getElem? (i := 73) rfl)) rfl
theorem gw_2060 : Cond.code ⟨"HedgeCommitteeModel", "writesWhole", "(I)V"⟩ prog_12_method_90_code 3 none ∈ gw := gw_t (tb_9 (List.mem_of_getElem? (i := 74) rfl)) rfl
theorem gw_2061 : Cond.methodLink "HedgeCommitteeModel" 261 ⟨"HedgeCommitteeModel", "sign", "(I)V"⟩ ∈ gw := gw_t (tb_9 (List.mem_of_getElem? (i := 75) rfl)) rfl
theorem gw_2063 : Cond.instanceMethod ⟨"HedgeCommitteeModel", "sign", "(I)V"⟩ ∈ gw := gw_t (tb_9 (List.mem_of_getElem? (i := 77) rfl)) rfl
theorem gw_2064 : Cond.code ⟨"HedgeCommitteeModel", "sign", "(I)V"⟩ prog_12_method_89_code 2 none ∈ gw := gw_t (tb_9 (List.mem_of_getElem? (i := 78) rfl)) rfl
theorem gw_2065 : Cond.methodLink "HedgeCommitteeModel" 267 ⟨"HedgeCommitteeModel", "childFrom", "(II)I"⟩ ∈ gw := gw_t (tb_9 (List.mem_of_getElem? (i := 79) rfl)) rfl
theorem gw_2067 : Cond.instanceMethod ⟨"HedgeCommitteeModel", "childFrom", "(II)I"⟩ ∈ gw := gw_t (tb_9 (List.mem_of_getElem? (i := 81) rfl)) rfl
theorem gw_2068 : Cond.code ⟨"HedgeCommitteeModel", "childFrom", "(II)I"⟩ prog_12_method_91_code 5 (some .int) ∈ gw := gw_t (tb_9 (List.mem_of_getElem? (i := 82) rfl)) rfl
theorem gw_2069 : Cond.methodLink "HedgeCommitteeModel" 270 ⟨"HedgeCommitteeModel", "next", "(II)I"⟩ ∈ gw := gw_t (tb_9 (List.mem_of_getElem? (i := 83) rfl)) rfl
theorem gw_2071 : Cond.instanceMethod ⟨"HedgeCommitteeModel", "next", "(II)I"⟩ ∈ gw := gw_t (tb_9 (List.mem_of_getElem? (i := 85) rfl)) rfl
theorem gw_2072 : Cond.code ⟨"HedgeCommitteeModel", "next", "(II)I"⟩ prog_12_method_93_code 5 (some .int) ∈ gw := gw_t (tb_9 (List.mem_of_getElem? (i := 86) rfl)) rfl
theorem gw_2074 : Cond.instanceMethod ⟨"HedgeCommitteeModel", "outputAt", "(I)C"⟩ ∈ gw := gw_t (tb_9 (List.mem_of_getElem? (i := 88) rfl)) rfl
theorem gw_2075 : Cond.selects "HedgeCommitteeModel" ⟨"HedgeCommitteeModel", "outputAt", "(I)C"⟩ ⟨"HedgeCommitteeModel", "outputAt", "(I)C"⟩ ∈ gw := gw_t (tb_9 (List.mem_of_getElem? (i := 89) rfl)) rfl
theorem gw_2076 : Cond.code ⟨"HedgeCommitteeModel", "outputAt", "(I)C"⟩ prog_12_method_94_code 2 (some .char) ∈ gw := gw_t (tb_9 (List.mem_of_getElem? (i := 90) rfl)) rfl
theorem gw_2078 : Cond.instanceMethod ⟨"HedgeCommitteeModel", "undo", "()I"⟩ ∈ gw := gw_t (tb_9 (List.mem_of_getElem? (i := 92) rfl)) rfl
theorem gw_2079 : Cond.selects "HedgeCommitteeModel" ⟨"HedgeCommitteeModel", "undo", "()I"⟩ ⟨"HedgeCommitteeModel", "undo", "()I"⟩ ∈ gw := gw_t (tb_9 (List.mem_of_getElem? (i := 93) rfl)) rfl
theorem gw_2080 : Cond.code ⟨"HedgeCommitteeModel", "undo", "()I"⟩ prog_12_method_95_code 2 (some .int) ∈ gw := gw_t (tb_9 (List.mem_of_getElem? (i := 94) rfl)) rfl
theorem gw_2082 : Cond.instanceMethod ⟨"HedgeCommitteeModel", "save", "()V"⟩ ∈ gw := gw_t (tb_9 (List.mem_of_getElem? (i := 96) rfl)) rfl
theorem gw_2083 : Cond.selects "HedgeCommitteeModel" ⟨"HedgeCommitteeModel", "save", "()V"⟩ ⟨"HedgeCommitteeModel", "save", "()V"⟩ ∈ gw := gw_t (tb_9 (List.mem_of_getElem? (i := 97) rfl)) rfl
theorem gw_2084 : Cond.code ⟨"HedgeCommitteeModel", "save", "()V"⟩ prog_12_method_96_code 2 none ∈ gw := gw_t (tb_9 (List.mem_of_getElem? (i := 98) rfl)) rfl
theorem gw_2086 : Cond.instanceMethod ⟨"HedgeCommitteeModel", "restore", "()V"⟩ ∈ gw := gw_t (tb_9 (List.mem_of_getElem? (i := 100) rfl)) rfl
theorem gw_2087 : Cond.selects "HedgeCommitteeModel" ⟨"HedgeCommitteeModel", "restore", "()V"⟩ ⟨"HedgeCommitteeModel", "restore", "()V"⟩ ∈ gw := gw_t (tb_9 (List.mem_of_getElem? (i := 101) rfl)) rfl
theorem gw_2088 : Cond.code ⟨"HedgeCommitteeModel", "restore", "()V"⟩ prog_12_method_97_code 2 none ∈ gw := gw_t (tb_9 (List.mem_of_getElem? (i := 102) rfl)) rfl
theorem gw_2089 : Cond.arrayClass .long ∈ gw := gw_t (tb_9 (List.mem_of_getElem? (i := 103) rfl)) (by decide +kernel)
theorem gw_2090 : Cond.arrayClass .double ∈ gw := gw_t (tb_9 (List.mem_of_getElem? (i := 104) rfl)) (by decide +kernel)
end
section
/-- the array classes: int, char, long, double, byte -/
def tyG (aT : Nat → ClassId) : List (ClassId × FieldType) := [(aT 0, .int), (aT 1, .char), (aT 2, .long), (aT 3, .double), (aT 4, .byte)]
/-- the state of the reference: rows 0 to 12 its arrays, row 13 its numbers by their fields -/
abbrev MSt : Type := Nat → Nat → Int32
def sr (S : MSt) (i : Nat) (f : Nat → Int32) : MSt := fun r => if r = i then f else S r
def ss (S : MSt) (k : Nat) (x : Int32) : MSt := sr S 13 (upd (S 13) k x)
theorem sr_s (S : MSt) (i : Nat) (f : Nat → Int32) : sr S i f i = f := by simp [sr]
theorem sr_n (S : MSt) {i j : Nat} (f : Nat → Int32) (h : j ≠ i) : sr S i f j = S j := by simp [sr, h]
/-- the reference's cells -/
def mdW (aT : Nat → ClassId) (ad : Nat → Nat) (S : MSt) : va_W := [(ad 0, .inr (13, [.ref (ad 1), .ref (ad 2), .ref (ad 3), .int (S 13 3), .ref (ad 4), .int (S 13 5), .int (S 13 6), .int (S 13 7), .int (S 13 8), .ref (ad 5), .int (S 13 10), .ref (ad 6), .ref (ad 7), .ref (ad 8), .ref (ad 9), .int (S 13 15), .int (S 13 16), .ref (ad 10), .ref (ad 11), .ref (ad 12), .int (S 13 20), .int (S 13 21), .int (S 13 22), .int (S 13 23), .ref (ad 13), .int (S 13 25)])),
  (ad 1, .inl (aT 0, (77, .inl (S 0)))),
  (ad 2, .inl (aT 0, (77, .inl (S 1)))),
  (ad 3, .inl (aT 0, (77, .inl (S 2)))),
  (ad 4, .inl (aT 0, (616, .inl (S 3)))),
  (ad 5, .inl (aT 0, (60, .inl (S 4)))),
  (ad 6, .inl (aT 0, (12, .inl (S 5)))),
  (ad 7, .inl (aT 0, (12, .inl (S 6)))),
  (ad 8, .inl (aT 0, (12, .inl (S 7)))),
  (ad 9, .inl (aT 0, (12, .inl (S 8)))),
  (ad 10, .inl (aT 1, (41, .inl (S 9)))),
  (ad 11, .inl (aT 0, (8, .inl (S 10)))),
  (ad 12, .inl (aT 0, (244, .inl (S 11)))),
  (ad 13, .inl (aT 0, (400, .inl (S 12))))]
def MdB (D : va_G) (aT : Nat → ClassId) (ad : Nat → Nat) (S : MSt) (A : Nat → Prop) (H0 H : Heap) (locs : List Loc) : Prop := va_P D vwCl (mdW aT ad S) H ∧ va_D A (mdW aT ad S) ∧ va_S A H0 H locs
def MdX (p : Program) (c : Code) (cc : ByteArray) (s : State) (args : Array Value) (m : MethodId) (D : va_G) (aT : Nat → ClassId) : Prop := p.tables.exec = Jvm.exec ∧ c.code = cc ∧ (∀ w ∈ gw, w.before args s = true) ∧ s.vm.findClass RX10 = some m.cls ∧ va_K D vwCl (tyG aT) s
def mdB1 (D : va_G) (aT : Nat → ClassId) (ad : Nat → Nat) (S : MSt) (sz : Nat) (U : State) : Prop := U.heap.size = sz ∧ va_P D vwCl (mdW aT ad S) U.heap ∧ va_K D vwCl (tyG aT) U ∧ va_D (fun _ => True) (mdW aT ad S)
def mdB2 (D : va_G) (aT : Nat → ClassId) (ad : Nat → Nat) (S0 : MSt) (sz : Nat) (S : MSt) (U : State) : Prop := va_P D vwCl (mdW aT ad S) U.heap ∧ va_K D vwCl (tyG aT) U ∧ va_D (va_A (mdW aT ad S0) sz) (mdW aT ad S)
abbrev mdR (fr lo : Nat) : Room := { frames := fr, cells := 0, slots := 0, locals := lo }
/-- a method of the reference that answers an int -/
def MdI (l : Launch) (y : MethodName) (b : ByteArray) (L : Nat) (ret : FieldType) (fr lo : Nat) (D : va_G) (aT : Nat → ClassId) (ad : Nat → Nat) (As : List Value) (S : MSt) (post : Int32 → MSt → Prop) : Prop :=
  ∀ sz, Met l y (Cond.code y b L (some ret) :: gw) (mdR fr lo) (va_Pc As (mdB1 D aT ad S sz)) (va_Qi post (mdB2 D aT ad S sz) (va_A (mdW aT ad S) sz)) 0 0 (va_A (mdW aT ad S) sz)
/-- .. that answers nothing -/
def MdV (l : Launch) (y : MethodName) (b : ByteArray) (L : Nat) (fr lo : Nat) (D : va_G) (aT : Nat → ClassId) (ad : Nat → Nat) (As : List Value) (S : MSt) (post : MSt → Prop) : Prop :=
  ∀ sz, Met l y (Cond.code y b L none :: gw) (mdR fr lo) (va_Pc As (mdB1 D aT ad S sz)) (va_Qv post (mdB2 D aT ad S sz) (va_A (mdW aT ad S) sz)) 0 0 (va_A (mdW aT ad S) sz)
theorem mdW_D {aT : Nat → ClassId} {ad : Nat → Nat} {S S' : MSt} {A : Nat → Prop} (h : va_D A (mdW aT ad S)) : va_D A (mdW aT ad S') := by
  have e : ∀ (k : Nat) (q : Nat × va_E), (mdW aT ad S')[k]? = some q → ∃ e2, (mdW aT ad S)[k]? = some (q.1, e2) := by
    intro k q hq
    have h1 : (mdW aT ad S').map Prod.fst = (mdW aT ad S).map Prod.fst := rfl
    have h2 : ((mdW aT ad S').map Prod.fst)[k]? = some q.1 := by rw [List.getElem?_map, hq]; rfl
    rw [h1, List.getElem?_map] at h2
    cases h3 : (mdW aT ad S)[k]? with
    | none => rw [h3] at h2; cases h2
    | some z =>
      rw [h3] at h2
      obtain ⟨z1, z2⟩ := z
      have : z1 = q.1 := Option.some.inj h2
      exact ⟨z2, by rw [this]⟩
  refine ⟨fun i j p q hp hq hpq => ?_, fun k q hq => ?_⟩
  · obtain ⟨e1, h1⟩ := e i p hp
    obtain ⟨e2, h2⟩ := e j q hq
    exact h.1 i j _ _ h1 h2 hpq
  · obtain ⟨e1, h1⟩ := e k q hq
    exact h.2 k (q.1, e1) h1
theorem inX10 : ∀ w ∈ u_ws RX10 TX10 26, w ∈ gw := List.forall_mem_cons.mpr ⟨gw_1639, List.forall_mem_cons.mpr ⟨gw_1641, List.forall_mem_cons.mpr ⟨gw_1643, List.forall_mem_cons.mpr ⟨gw_1645, List.forall_mem_cons.mpr ⟨gw_1647, List.forall_mem_cons.mpr ⟨gw_1649, List.forall_mem_cons.mpr ⟨gw_1651, List.forall_mem_cons.mpr ⟨gw_1653, List.forall_mem_cons.mpr ⟨gw_1655, List.forall_mem_cons.mpr ⟨gw_1657, List.forall_mem_cons.mpr ⟨gw_1659, List.forall_mem_cons.mpr ⟨gw_1661, List.forall_mem_cons.mpr ⟨gw_1663, List.forall_mem_cons.mpr ⟨gw_1665, List.forall_mem_cons.mpr ⟨gw_1667, List.forall_mem_cons.mpr ⟨gw_1669, List.forall_mem_cons.mpr ⟨gw_1671, List.forall_mem_cons.mpr ⟨gw_1673, List.forall_mem_cons.mpr ⟨gw_1675, List.forall_mem_cons.mpr ⟨gw_1677, List.forall_mem_cons.mpr ⟨gw_1679, List.forall_mem_cons.mpr ⟨gw_1681, List.forall_mem_cons.mpr ⟨gw_1683, List.forall_mem_cons.mpr ⟨gw_1685, List.forall_mem_cons.mpr ⟨gw_1687, List.forall_mem_cons.mpr ⟨gw_1689, fun _ h => absurd h List.not_mem_nil⟩⟩⟩⟩⟩⟩⟩⟩⟩⟩⟩⟩⟩⟩⟩⟩⟩⟩⟩⟩⟩⟩⟩⟩⟩⟩
section MDR
variable {p : Program} {l : Launch} {e : Env} {R : Room} {s : State} {m : MethodId} {args : Array Value} {below : List Frame} {meth : Method} {c : Code} {H : Heap} {locs : List Loc} {cells slots : Nat} {Q : State → Prop} {cc : ByteArray} {pc : Nat} {ls : Array Slot} {rest : List Value} {D : va_G} {aT : Nat → ClassId} {ad : Nat → Nat} {S : MSt} {A : Nat → Prop} {H0 : Heap}
theorem md_geta_m (C : MdX p c cc s args m D aT) (hW : MdB D aT ad S A H0 H locs) (hdg : decode cc pc = .ok (.getfield 9, 3)) (k : W p l e R s m args below meth c H locs cells slots Q (F0 m (pc + 3) ls (.ref (ad 1) :: rest))) : W p l e R s m args below meth c H locs cells slots Q (F0 m pc ls (.ref (ad 0) :: rest)) := by
  obtain ⟨hx, hb, hg, hown, hK⟩ := C
  exact va_get (D := D) (ci := 13) (v := .ref (ad 1)) (C := RX10) (T := TX10) (N := 26) hx hb hg inX10 hown hK hW.1 0 rfl rfl 0 (by decide) (hg _ gw_1613) (fun _ h9 => h9) rfl hdg k
theorem md_ald_m (C : MdX p c cc s args m D aT) (hW : MdB D aT ad S A H0 H locs) {i : Nat} (hi : i < 77) (hdg : decode cc pc = .ok (.iaload, 1)) (k : W p l e R s m args below meth c H locs cells slots Q (F0 m (pc + 1) ls (.int (S 0 i) :: rest))) : W p l e R s m args below meth c H locs cells slots Q (F0 m pc ls (.int (nI i) :: .ref (ad 1) :: rest)) := by
  obtain ⟨hx, hb, hg, hown, hK⟩ := C
  refine va_iald (D := D) hx hb hK hW.1 1 0 rfl rfl (vp_in_nI hi (by decide)) hdg ?_
  rw [nI_clamp (by omega)]
  exact k
theorem md_ast_m (C : MdX p c cc s args m D aT) (hW : MdB D aT ad S A H0 H locs) {i : Nat} {x : Int32} (hi : i < 77) (hdg : decode cc pc = .ok (.iastore, 1)) (k : ∀ (H1 : Heap) (locs1 : List Loc), MdB D aT ad (sr S 0 (upd (S 0) i x)) A H0 H1 locs1 → W p l e R s m args below meth c H1 locs1 cells slots Q (F0 m (pc + 1) ls rest)) : W p l e R s m args below meth c H locs cells slots Q (F0 m pc ls (.int x :: .int (nI i) :: .ref (ad 1) :: rest)) := by
  obtain ⟨hx, hb, hg, hown, hK⟩ := C
  refine va_iast (D := D) hx hb hK hW.1 hW.2.1 hW.2.2 1 0 rfl rfl (vp_in_nI hi (by decide)) hdg (fun H1 locs1 h1 h2 h3 => ?_)
  rw [nI_clamp (by omega)] at h1
  exact k H1 locs1 ⟨h1, mdW_D hW.2.1, h3⟩
theorem md_geta_aside (C : MdX p c cc s args m D aT) (hW : MdB D aT ad S A H0 H locs) (hdg : decode cc pc = .ok (.getfield 13, 3)) (k : W p l e R s m args below meth c H locs cells slots Q (F0 m (pc + 3) ls (.ref (ad 2) :: rest))) : W p l e R s m args below meth c H locs cells slots Q (F0 m pc ls (.ref (ad 0) :: rest)) := by
  obtain ⟨hx, hb, hg, hown, hK⟩ := C
  exact va_get (D := D) (ci := 13) (v := .ref (ad 2)) (C := RX10) (T := TX10) (N := 26) hx hb hg inX10 hown hK hW.1 0 rfl rfl 1 (by decide) (hg _ gw_1614) (fun _ h9 => h9) rfl hdg k
theorem md_ald_aside (C : MdX p c cc s args m D aT) (hW : MdB D aT ad S A H0 H locs) {i : Nat} (hi : i < 77) (hdg : decode cc pc = .ok (.iaload, 1)) (k : W p l e R s m args below meth c H locs cells slots Q (F0 m (pc + 1) ls (.int (S 1 i) :: rest))) : W p l e R s m args below meth c H locs cells slots Q (F0 m pc ls (.int (nI i) :: .ref (ad 2) :: rest)) := by
  obtain ⟨hx, hb, hg, hown, hK⟩ := C
  refine va_iald (D := D) hx hb hK hW.1 2 0 rfl rfl (vp_in_nI hi (by decide)) hdg ?_
  rw [nI_clamp (by omega)]
  exact k
theorem md_ast_aside (C : MdX p c cc s args m D aT) (hW : MdB D aT ad S A H0 H locs) {i : Nat} {x : Int32} (hi : i < 77) (hdg : decode cc pc = .ok (.iastore, 1)) (k : ∀ (H1 : Heap) (locs1 : List Loc), MdB D aT ad (sr S 1 (upd (S 1) i x)) A H0 H1 locs1 → W p l e R s m args below meth c H1 locs1 cells slots Q (F0 m (pc + 1) ls rest)) : W p l e R s m args below meth c H locs cells slots Q (F0 m pc ls (.int x :: .int (nI i) :: .ref (ad 2) :: rest)) := by
  obtain ⟨hx, hb, hg, hown, hK⟩ := C
  refine va_iast (D := D) hx hb hK hW.1 hW.2.1 hW.2.2 2 0 rfl rfl (vp_in_nI hi (by decide)) hdg (fun H1 locs1 h1 h2 h3 => ?_)
  rw [nI_clamp (by omega)] at h1
  exact k H1 locs1 ⟨h1, mdW_D hW.2.1, h3⟩
theorem md_geta_saved (C : MdX p c cc s args m D aT) (hW : MdB D aT ad S A H0 H locs) (hdg : decode cc pc = .ok (.getfield 16, 3)) (k : W p l e R s m args below meth c H locs cells slots Q (F0 m (pc + 3) ls (.ref (ad 3) :: rest))) : W p l e R s m args below meth c H locs cells slots Q (F0 m pc ls (.ref (ad 0) :: rest)) := by
  obtain ⟨hx, hb, hg, hown, hK⟩ := C
  exact va_get (D := D) (ci := 13) (v := .ref (ad 3)) (C := RX10) (T := TX10) (N := 26) hx hb hg inX10 hown hK hW.1 0 rfl rfl 2 (by decide) (hg _ gw_1615) (fun _ h9 => h9) rfl hdg k
theorem md_ald_saved (C : MdX p c cc s args m D aT) (hW : MdB D aT ad S A H0 H locs) {i : Nat} (hi : i < 77) (hdg : decode cc pc = .ok (.iaload, 1)) (k : W p l e R s m args below meth c H locs cells slots Q (F0 m (pc + 1) ls (.int (S 2 i) :: rest))) : W p l e R s m args below meth c H locs cells slots Q (F0 m pc ls (.int (nI i) :: .ref (ad 3) :: rest)) := by
  obtain ⟨hx, hb, hg, hown, hK⟩ := C
  refine va_iald (D := D) hx hb hK hW.1 3 0 rfl rfl (vp_in_nI hi (by decide)) hdg ?_
  rw [nI_clamp (by omega)]
  exact k
theorem md_ast_saved (C : MdX p c cc s args m D aT) (hW : MdB D aT ad S A H0 H locs) {i : Nat} {x : Int32} (hi : i < 77) (hdg : decode cc pc = .ok (.iastore, 1)) (k : ∀ (H1 : Heap) (locs1 : List Loc), MdB D aT ad (sr S 2 (upd (S 2) i x)) A H0 H1 locs1 → W p l e R s m args below meth c H1 locs1 cells slots Q (F0 m (pc + 1) ls rest)) : W p l e R s m args below meth c H locs cells slots Q (F0 m pc ls (.int x :: .int (nI i) :: .ref (ad 3) :: rest)) := by
  obtain ⟨hx, hb, hg, hown, hK⟩ := C
  refine va_iast (D := D) hx hb hK hW.1 hW.2.1 hW.2.2 3 0 rfl rfl (vp_in_nI hi (by decide)) hdg (fun H1 locs1 h1 h2 h3 => ?_)
  rw [nI_clamp (by omega)] at h1
  exact k H1 locs1 ⟨h1, mdW_D hW.2.1, h3⟩
theorem md_geta_past (C : MdX p c cc s args m D aT) (hW : MdB D aT ad S A H0 H locs) (hdg : decode cc pc = .ok (.getfield 19, 3)) (k : W p l e R s m args below meth c H locs cells slots Q (F0 m (pc + 3) ls (.ref (ad 4) :: rest))) : W p l e R s m args below meth c H locs cells slots Q (F0 m pc ls (.ref (ad 0) :: rest)) := by
  obtain ⟨hx, hb, hg, hown, hK⟩ := C
  exact va_get (D := D) (ci := 13) (v := .ref (ad 4)) (C := RX10) (T := TX10) (N := 26) hx hb hg inX10 hown hK hW.1 0 rfl rfl 4 (by decide) (hg _ gw_1617) (fun _ h9 => h9) rfl hdg k
theorem md_ald_past (C : MdX p c cc s args m D aT) (hW : MdB D aT ad S A H0 H locs) {i : Nat} (hi : i < 616) (hdg : decode cc pc = .ok (.iaload, 1)) (k : W p l e R s m args below meth c H locs cells slots Q (F0 m (pc + 1) ls (.int (S 3 i) :: rest))) : W p l e R s m args below meth c H locs cells slots Q (F0 m pc ls (.int (nI i) :: .ref (ad 4) :: rest)) := by
  obtain ⟨hx, hb, hg, hown, hK⟩ := C
  refine va_iald (D := D) hx hb hK hW.1 4 0 rfl rfl (vp_in_nI hi (by decide)) hdg ?_
  rw [nI_clamp (by omega)]
  exact k
theorem md_ast_past (C : MdX p c cc s args m D aT) (hW : MdB D aT ad S A H0 H locs) {i : Nat} {x : Int32} (hi : i < 616) (hdg : decode cc pc = .ok (.iastore, 1)) (k : ∀ (H1 : Heap) (locs1 : List Loc), MdB D aT ad (sr S 3 (upd (S 3) i x)) A H0 H1 locs1 → W p l e R s m args below meth c H1 locs1 cells slots Q (F0 m (pc + 1) ls rest)) : W p l e R s m args below meth c H locs cells slots Q (F0 m pc ls (.int x :: .int (nI i) :: .ref (ad 4) :: rest)) := by
  obtain ⟨hx, hb, hg, hown, hK⟩ := C
  refine va_iast (D := D) hx hb hK hW.1 hW.2.1 hW.2.2 4 0 rfl rfl (vp_in_nI hi (by decide)) hdg (fun H1 locs1 h1 h2 h3 => ?_)
  rw [nI_clamp (by omega)] at h1
  exact k H1 locs1 ⟨h1, mdW_D hW.2.1, h3⟩
theorem md_geta_input (C : MdX p c cc s args m D aT) (hW : MdB D aT ad S A H0 H locs) (hdg : decode cc pc = .ok (.getfield 29, 3)) (k : W p l e R s m args below meth c H locs cells slots Q (F0 m (pc + 3) ls (.ref (ad 5) :: rest))) : W p l e R s m args below meth c H locs cells slots Q (F0 m pc ls (.ref (ad 0) :: rest)) := by
  obtain ⟨hx, hb, hg, hown, hK⟩ := C
  exact va_get (D := D) (ci := 13) (v := .ref (ad 5)) (C := RX10) (T := TX10) (N := 26) hx hb hg inX10 hown hK hW.1 0 rfl rfl 9 (by decide) (hg _ gw_1622) (fun _ h9 => h9) rfl hdg k
theorem md_ald_input (C : MdX p c cc s args m D aT) (hW : MdB D aT ad S A H0 H locs) {i : Nat} (hi : i < 60) (hdg : decode cc pc = .ok (.iaload, 1)) (k : W p l e R s m args below meth c H locs cells slots Q (F0 m (pc + 1) ls (.int (S 4 i) :: rest))) : W p l e R s m args below meth c H locs cells slots Q (F0 m pc ls (.int (nI i) :: .ref (ad 5) :: rest)) := by
  obtain ⟨hx, hb, hg, hown, hK⟩ := C
  refine va_iald (D := D) hx hb hK hW.1 5 0 rfl rfl (vp_in_nI hi (by decide)) hdg ?_
  rw [nI_clamp (by omega)]
  exact k
theorem md_ast_input (C : MdX p c cc s args m D aT) (hW : MdB D aT ad S A H0 H locs) {i : Nat} {x : Int32} (hi : i < 60) (hdg : decode cc pc = .ok (.iastore, 1)) (k : ∀ (H1 : Heap) (locs1 : List Loc), MdB D aT ad (sr S 4 (upd (S 4) i x)) A H0 H1 locs1 → W p l e R s m args below meth c H1 locs1 cells slots Q (F0 m (pc + 1) ls rest)) : W p l e R s m args below meth c H locs cells slots Q (F0 m pc ls (.int x :: .int (nI i) :: .ref (ad 5) :: rest)) := by
  obtain ⟨hx, hb, hg, hown, hK⟩ := C
  refine va_iast (D := D) hx hb hK hW.1 hW.2.1 hW.2.2 5 0 rfl rfl (vp_in_nI hi (by decide)) hdg (fun H1 locs1 h1 h2 h3 => ?_)
  rw [nI_clamp (by omega)] at h1
  exact k H1 locs1 ⟨h1, mdW_D hW.2.1, h3⟩
theorem md_geta_with (C : MdX p c cc s args m D aT) (hW : MdB D aT ad S A H0 H locs) (hdg : decode cc pc = .ok (.getfield 32, 3)) (k : W p l e R s m args below meth c H locs cells slots Q (F0 m (pc + 3) ls (.ref (ad 6) :: rest))) : W p l e R s m args below meth c H locs cells slots Q (F0 m pc ls (.ref (ad 0) :: rest)) := by
  obtain ⟨hx, hb, hg, hown, hK⟩ := C
  exact va_get (D := D) (ci := 13) (v := .ref (ad 6)) (C := RX10) (T := TX10) (N := 26) hx hb hg inX10 hown hK hW.1 0 rfl rfl 11 (by decide) (hg _ gw_1624) (fun _ h9 => h9) rfl hdg k
theorem md_ald_with (C : MdX p c cc s args m D aT) (hW : MdB D aT ad S A H0 H locs) {i : Nat} (hi : i < 12) (hdg : decode cc pc = .ok (.iaload, 1)) (k : W p l e R s m args below meth c H locs cells slots Q (F0 m (pc + 1) ls (.int (S 5 i) :: rest))) : W p l e R s m args below meth c H locs cells slots Q (F0 m pc ls (.int (nI i) :: .ref (ad 6) :: rest)) := by
  obtain ⟨hx, hb, hg, hown, hK⟩ := C
  refine va_iald (D := D) hx hb hK hW.1 6 0 rfl rfl (vp_in_nI hi (by decide)) hdg ?_
  rw [nI_clamp (by omega)]
  exact k
theorem md_ast_with (C : MdX p c cc s args m D aT) (hW : MdB D aT ad S A H0 H locs) {i : Nat} {x : Int32} (hi : i < 12) (hdg : decode cc pc = .ok (.iastore, 1)) (k : ∀ (H1 : Heap) (locs1 : List Loc), MdB D aT ad (sr S 5 (upd (S 5) i x)) A H0 H1 locs1 → W p l e R s m args below meth c H1 locs1 cells slots Q (F0 m (pc + 1) ls rest)) : W p l e R s m args below meth c H locs cells slots Q (F0 m pc ls (.int x :: .int (nI i) :: .ref (ad 6) :: rest)) := by
  obtain ⟨hx, hb, hg, hown, hK⟩ := C
  refine va_iast (D := D) hx hb hK hW.1 hW.2.1 hW.2.2 6 0 rfl rfl (vp_in_nI hi (by decide)) hdg (fun H1 locs1 h1 h2 h3 => ?_)
  rw [nI_clamp (by omega)] at h1
  exact k H1 locs1 ⟨h1, mdW_D hW.2.1, h3⟩
theorem md_geta_without (C : MdX p c cc s args m D aT) (hW : MdB D aT ad S A H0 H locs) (hdg : decode cc pc = .ok (.getfield 35, 3)) (k : W p l e R s m args below meth c H locs cells slots Q (F0 m (pc + 3) ls (.ref (ad 7) :: rest))) : W p l e R s m args below meth c H locs cells slots Q (F0 m pc ls (.ref (ad 0) :: rest)) := by
  obtain ⟨hx, hb, hg, hown, hK⟩ := C
  exact va_get (D := D) (ci := 13) (v := .ref (ad 7)) (C := RX10) (T := TX10) (N := 26) hx hb hg inX10 hown hK hW.1 0 rfl rfl 12 (by decide) (hg _ gw_1625) (fun _ h9 => h9) rfl hdg k
theorem md_ald_without (C : MdX p c cc s args m D aT) (hW : MdB D aT ad S A H0 H locs) {i : Nat} (hi : i < 12) (hdg : decode cc pc = .ok (.iaload, 1)) (k : W p l e R s m args below meth c H locs cells slots Q (F0 m (pc + 1) ls (.int (S 6 i) :: rest))) : W p l e R s m args below meth c H locs cells slots Q (F0 m pc ls (.int (nI i) :: .ref (ad 7) :: rest)) := by
  obtain ⟨hx, hb, hg, hown, hK⟩ := C
  refine va_iald (D := D) hx hb hK hW.1 7 0 rfl rfl (vp_in_nI hi (by decide)) hdg ?_
  rw [nI_clamp (by omega)]
  exact k
theorem md_ast_without (C : MdX p c cc s args m D aT) (hW : MdB D aT ad S A H0 H locs) {i : Nat} {x : Int32} (hi : i < 12) (hdg : decode cc pc = .ok (.iastore, 1)) (k : ∀ (H1 : Heap) (locs1 : List Loc), MdB D aT ad (sr S 6 (upd (S 6) i x)) A H0 H1 locs1 → W p l e R s m args below meth c H1 locs1 cells slots Q (F0 m (pc + 1) ls rest)) : W p l e R s m args below meth c H locs cells slots Q (F0 m pc ls (.int x :: .int (nI i) :: .ref (ad 7) :: rest)) := by
  obtain ⟨hx, hb, hg, hown, hK⟩ := C
  refine va_iast (D := D) hx hb hK hW.1 hW.2.1 hW.2.2 7 0 rfl rfl (vp_in_nI hi (by decide)) hdg (fun H1 locs1 h1 h2 h3 => ?_)
  rw [nI_clamp (by omega)] at h1
  exact k H1 locs1 ⟨h1, mdW_D hW.2.1, h3⟩
theorem md_geta_setsWith (C : MdX p c cc s args m D aT) (hW : MdB D aT ad S A H0 H locs) (hdg : decode cc pc = .ok (.getfield 38, 3)) (k : W p l e R s m args below meth c H locs cells slots Q (F0 m (pc + 3) ls (.ref (ad 8) :: rest))) : W p l e R s m args below meth c H locs cells slots Q (F0 m pc ls (.ref (ad 0) :: rest)) := by
  obtain ⟨hx, hb, hg, hown, hK⟩ := C
  exact va_get (D := D) (ci := 13) (v := .ref (ad 8)) (C := RX10) (T := TX10) (N := 26) hx hb hg inX10 hown hK hW.1 0 rfl rfl 13 (by decide) (hg _ gw_1626) (fun _ h9 => h9) rfl hdg k
theorem md_ald_setsWith (C : MdX p c cc s args m D aT) (hW : MdB D aT ad S A H0 H locs) {i : Nat} (hi : i < 12) (hdg : decode cc pc = .ok (.iaload, 1)) (k : W p l e R s m args below meth c H locs cells slots Q (F0 m (pc + 1) ls (.int (S 7 i) :: rest))) : W p l e R s m args below meth c H locs cells slots Q (F0 m pc ls (.int (nI i) :: .ref (ad 8) :: rest)) := by
  obtain ⟨hx, hb, hg, hown, hK⟩ := C
  refine va_iald (D := D) hx hb hK hW.1 8 0 rfl rfl (vp_in_nI hi (by decide)) hdg ?_
  rw [nI_clamp (by omega)]
  exact k
theorem md_ast_setsWith (C : MdX p c cc s args m D aT) (hW : MdB D aT ad S A H0 H locs) {i : Nat} {x : Int32} (hi : i < 12) (hdg : decode cc pc = .ok (.iastore, 1)) (k : ∀ (H1 : Heap) (locs1 : List Loc), MdB D aT ad (sr S 7 (upd (S 7) i x)) A H0 H1 locs1 → W p l e R s m args below meth c H1 locs1 cells slots Q (F0 m (pc + 1) ls rest)) : W p l e R s m args below meth c H locs cells slots Q (F0 m pc ls (.int x :: .int (nI i) :: .ref (ad 8) :: rest)) := by
  obtain ⟨hx, hb, hg, hown, hK⟩ := C
  refine va_iast (D := D) hx hb hK hW.1 hW.2.1 hW.2.2 8 0 rfl rfl (vp_in_nI hi (by decide)) hdg (fun H1 locs1 h1 h2 h3 => ?_)
  rw [nI_clamp (by omega)] at h1
  exact k H1 locs1 ⟨h1, mdW_D hW.2.1, h3⟩
theorem md_geta_setsWithout (C : MdX p c cc s args m D aT) (hW : MdB D aT ad S A H0 H locs) (hdg : decode cc pc = .ok (.getfield 41, 3)) (k : W p l e R s m args below meth c H locs cells slots Q (F0 m (pc + 3) ls (.ref (ad 9) :: rest))) : W p l e R s m args below meth c H locs cells slots Q (F0 m pc ls (.ref (ad 0) :: rest)) := by
  obtain ⟨hx, hb, hg, hown, hK⟩ := C
  exact va_get (D := D) (ci := 13) (v := .ref (ad 9)) (C := RX10) (T := TX10) (N := 26) hx hb hg inX10 hown hK hW.1 0 rfl rfl 14 (by decide) (hg _ gw_1627) (fun _ h9 => h9) rfl hdg k
theorem md_ald_setsWithout (C : MdX p c cc s args m D aT) (hW : MdB D aT ad S A H0 H locs) {i : Nat} (hi : i < 12) (hdg : decode cc pc = .ok (.iaload, 1)) (k : W p l e R s m args below meth c H locs cells slots Q (F0 m (pc + 1) ls (.int (S 8 i) :: rest))) : W p l e R s m args below meth c H locs cells slots Q (F0 m pc ls (.int (nI i) :: .ref (ad 9) :: rest)) := by
  obtain ⟨hx, hb, hg, hown, hK⟩ := C
  refine va_iald (D := D) hx hb hK hW.1 9 0 rfl rfl (vp_in_nI hi (by decide)) hdg ?_
  rw [nI_clamp (by omega)]
  exact k
theorem md_ast_setsWithout (C : MdX p c cc s args m D aT) (hW : MdB D aT ad S A H0 H locs) {i : Nat} {x : Int32} (hi : i < 12) (hdg : decode cc pc = .ok (.iastore, 1)) (k : ∀ (H1 : Heap) (locs1 : List Loc), MdB D aT ad (sr S 8 (upd (S 8) i x)) A H0 H1 locs1 → W p l e R s m args below meth c H1 locs1 cells slots Q (F0 m (pc + 1) ls rest)) : W p l e R s m args below meth c H locs cells slots Q (F0 m pc ls (.int x :: .int (nI i) :: .ref (ad 9) :: rest)) := by
  obtain ⟨hx, hb, hg, hown, hK⟩ := C
  refine va_iast (D := D) hx hb hK hW.1 hW.2.1 hW.2.2 9 0 rfl rfl (vp_in_nI hi (by decide)) hdg (fun H1 locs1 h1 h2 h3 => ?_)
  rw [nI_clamp (by omega)] at h1
  exact k H1 locs1 ⟨h1, mdW_D hW.2.1, h3⟩
theorem md_geta_letters (C : MdX p c cc s args m D aT) (hW : MdB D aT ad S A H0 H locs) (hdg : decode cc pc = .ok (.getfield 44, 3)) (k : W p l e R s m args below meth c H locs cells slots Q (F0 m (pc + 3) ls (.ref (ad 10) :: rest))) : W p l e R s m args below meth c H locs cells slots Q (F0 m pc ls (.ref (ad 0) :: rest)) := by
  obtain ⟨hx, hb, hg, hown, hK⟩ := C
  exact va_get (D := D) (ci := 13) (v := .ref (ad 10)) (C := RX10) (T := TX10) (N := 26) hx hb hg inX10 hown hK hW.1 0 rfl rfl 17 (by decide) (hg _ gw_1630) (fun _ h9 => h9) rfl hdg k
theorem md_ald_letters (C : MdX p c cc s args m D aT) (hW : MdB D aT ad S A H0 H locs) {i : Nat} (hi : i < 41) (hdg : decode cc pc = .ok (.caload, 1)) (k : W p l e R s m args below meth c H locs cells slots Q (F0 m (pc + 1) ls (.int (S 9 i) :: rest))) : W p l e R s m args below meth c H locs cells slots Q (F0 m pc ls (.int (nI i) :: .ref (ad 10) :: rest)) := by
  obtain ⟨hx, hb, hg, hown, hK⟩ := C
  refine va_cald (D := D) hx hb hK hW.1 10 1 rfl rfl (vp_in_nI hi (by decide)) hdg ?_
  rw [nI_clamp (by omega)]
  exact k
theorem md_geta_begins0 (C : MdX p c cc s args m D aT) (hW : MdB D aT ad S A H0 H locs) (hdg : decode cc pc = .ok (.getfield 48, 3)) (k : W p l e R s m args below meth c H locs cells slots Q (F0 m (pc + 3) ls (.ref (ad 11) :: rest))) : W p l e R s m args below meth c H locs cells slots Q (F0 m pc ls (.ref (ad 0) :: rest)) := by
  obtain ⟨hx, hb, hg, hown, hK⟩ := C
  exact va_get (D := D) (ci := 13) (v := .ref (ad 11)) (C := RX10) (T := TX10) (N := 26) hx hb hg inX10 hown hK hW.1 0 rfl rfl 18 (by decide) (hg _ gw_1631) (fun _ h9 => h9) rfl hdg k
theorem md_ald_begins0 (C : MdX p c cc s args m D aT) (hW : MdB D aT ad S A H0 H locs) {i : Nat} (hi : i < 8) (hdg : decode cc pc = .ok (.iaload, 1)) (k : W p l e R s m args below meth c H locs cells slots Q (F0 m (pc + 1) ls (.int (S 10 i) :: rest))) : W p l e R s m args below meth c H locs cells slots Q (F0 m pc ls (.int (nI i) :: .ref (ad 11) :: rest)) := by
  obtain ⟨hx, hb, hg, hown, hK⟩ := C
  refine va_iald (D := D) hx hb hK hW.1 11 0 rfl rfl (vp_in_nI hi (by decide)) hdg ?_
  rw [nI_clamp (by omega)]
  exact k
theorem md_geta_commands (C : MdX p c cc s args m D aT) (hW : MdB D aT ad S A H0 H locs) (hdg : decode cc pc = .ok (.getfield 51, 3)) (k : W p l e R s m args below meth c H locs cells slots Q (F0 m (pc + 3) ls (.ref (ad 12) :: rest))) : W p l e R s m args below meth c H locs cells slots Q (F0 m pc ls (.ref (ad 0) :: rest)) := by
  obtain ⟨hx, hb, hg, hown, hK⟩ := C
  exact va_get (D := D) (ci := 13) (v := .ref (ad 12)) (C := RX10) (T := TX10) (N := 26) hx hb hg inX10 hown hK hW.1 0 rfl rfl 19 (by decide) (hg _ gw_1632) (fun _ h9 => h9) rfl hdg k
theorem md_ald_commands (C : MdX p c cc s args m D aT) (hW : MdB D aT ad S A H0 H locs) {i : Nat} (hi : i < 244) (hdg : decode cc pc = .ok (.iaload, 1)) (k : W p l e R s m args below meth c H locs cells slots Q (F0 m (pc + 1) ls (.int (S 11 i) :: rest))) : W p l e R s m args below meth c H locs cells slots Q (F0 m pc ls (.int (nI i) :: .ref (ad 12) :: rest)) := by
  obtain ⟨hx, hb, hg, hown, hK⟩ := C
  refine va_iald (D := D) hx hb hK hW.1 12 0 rfl rfl (vp_in_nI hi (by decide)) hdg ?_
  rw [nI_clamp (by omega)]
  exact k
theorem md_ast_commands (C : MdX p c cc s args m D aT) (hW : MdB D aT ad S A H0 H locs) {i : Nat} {x : Int32} (hi : i < 244) (hdg : decode cc pc = .ok (.iastore, 1)) (k : ∀ (H1 : Heap) (locs1 : List Loc), MdB D aT ad (sr S 11 (upd (S 11) i x)) A H0 H1 locs1 → W p l e R s m args below meth c H1 locs1 cells slots Q (F0 m (pc + 1) ls rest)) : W p l e R s m args below meth c H locs cells slots Q (F0 m pc ls (.int x :: .int (nI i) :: .ref (ad 12) :: rest)) := by
  obtain ⟨hx, hb, hg, hown, hK⟩ := C
  refine va_iast (D := D) hx hb hK hW.1 hW.2.1 hW.2.2 12 0 rfl rfl (vp_in_nI hi (by decide)) hdg (fun H1 locs1 h1 h2 h3 => ?_)
  rw [nI_clamp (by omega)] at h1
  exact k H1 locs1 ⟨h1, mdW_D hW.2.1, h3⟩
theorem md_geta_line (C : MdX p c cc s args m D aT) (hW : MdB D aT ad S A H0 H locs) (hdg : decode cc pc = .ok (.getfield 54, 3)) (k : W p l e R s m args below meth c H locs cells slots Q (F0 m (pc + 3) ls (.ref (ad 13) :: rest))) : W p l e R s m args below meth c H locs cells slots Q (F0 m pc ls (.ref (ad 0) :: rest)) := by
  obtain ⟨hx, hb, hg, hown, hK⟩ := C
  exact va_get (D := D) (ci := 13) (v := .ref (ad 13)) (C := RX10) (T := TX10) (N := 26) hx hb hg inX10 hown hK hW.1 0 rfl rfl 24 (by decide) (hg _ gw_1637) (fun _ h9 => h9) rfl hdg k
theorem md_ald_line (C : MdX p c cc s args m D aT) (hW : MdB D aT ad S A H0 H locs) {i : Nat} (hi : i < 400) (hdg : decode cc pc = .ok (.iaload, 1)) (k : W p l e R s m args below meth c H locs cells slots Q (F0 m (pc + 1) ls (.int (S 12 i) :: rest))) : W p l e R s m args below meth c H locs cells slots Q (F0 m pc ls (.int (nI i) :: .ref (ad 13) :: rest)) := by
  obtain ⟨hx, hb, hg, hown, hK⟩ := C
  refine va_iald (D := D) hx hb hK hW.1 13 0 rfl rfl (vp_in_nI hi (by decide)) hdg ?_
  rw [nI_clamp (by omega)]
  exact k
theorem md_ast_line (C : MdX p c cc s args m D aT) (hW : MdB D aT ad S A H0 H locs) {i : Nat} {x : Int32} (hi : i < 400) (hdg : decode cc pc = .ok (.iastore, 1)) (k : ∀ (H1 : Heap) (locs1 : List Loc), MdB D aT ad (sr S 12 (upd (S 12) i x)) A H0 H1 locs1 → W p l e R s m args below meth c H1 locs1 cells slots Q (F0 m (pc + 1) ls rest)) : W p l e R s m args below meth c H locs cells slots Q (F0 m pc ls (.int x :: .int (nI i) :: .ref (ad 13) :: rest)) := by
  obtain ⟨hx, hb, hg, hown, hK⟩ := C
  refine va_iast (D := D) hx hb hK hW.1 hW.2.1 hW.2.2 13 0 rfl rfl (vp_in_nI hi (by decide)) hdg (fun H1 locs1 h1 h2 h3 => ?_)
  rw [nI_clamp (by omega)] at h1
  exact k H1 locs1 ⟨h1, mdW_D hW.2.1, h3⟩
theorem md_get_isSaved (C : MdX p c cc s args m D aT) (hW : MdB D aT ad S A H0 H locs) (hdg : decode cc pc = .ok (.getfield 273, 3)) (k : W p l e R s m args below meth c H locs cells slots Q (F0 m (pc + 3) ls (.int (S 13 3) :: rest))) : W p l e R s m args below meth c H locs cells slots Q (F0 m pc ls (.ref (ad 0) :: rest)) := by
  obtain ⟨hx, hb, hg, hown, hK⟩ := C
  exact va_get (D := D) (ci := 13) (v := .int (S 13 3)) (C := RX10) (T := TX10) (N := 26) hx hb hg inX10 hown hK hW.1 0 rfl rfl 3 (by decide) (hg _ gw_1616) (fun _ h9 => h9) rfl hdg k
theorem md_put_isSaved (C : MdX p c cc s args m D aT) (hW : MdB D aT ad S A H0 H locs) {x : Int32} (hz : narrow .boolean (.int x) = .int x) (hf : fits .boolean (.int x) = true) (hdg : decode cc pc = .ok (.putfield 273, 3)) (k : ∀ (H1 : Heap) (locs1 : List Loc), MdB D aT ad (ss S 3 x) A H0 H1 locs1 → W p l e R s m args below meth c H1 locs1 cells slots Q (F0 m (pc + 3) ls rest)) : W p l e R s m args below meth c H locs cells slots Q (F0 m pc ls (.int x :: .ref (ad 0) :: rest)) := by
  obtain ⟨hx, hb, hg, hown, hK⟩ := C
  refine va_put (D := D) (ci := 13) (v := .int x) (ty := .boolean) (C := RX10) (T := TX10) (N := 26) hx hb hg inX10 tyX10 tyX10_ok nmX10 hown hK hW.1 hW.2.1 hW.2.2 0 rfl rfl 3 (by decide) (hg _ gw_1616) (fun _ h9 => h9) rfl (by decide +kernel) hz hf (Nat.le_of_ble_eq_true rfl) hdg (fun H1 locs1 h1 h2 h3 => ?_)
  exact k H1 locs1 ⟨h1, mdW_D hW.2.1, h3⟩
theorem md_get_changes (C : MdX p c cc s args m D aT) (hW : MdB D aT ad S A H0 H locs) (hdg : decode cc pc = .ok (.getfield 60, 3)) (k : W p l e R s m args below meth c H locs cells slots Q (F0 m (pc + 3) ls (.int (S 13 5) :: rest))) : W p l e R s m args below meth c H locs cells slots Q (F0 m pc ls (.ref (ad 0) :: rest)) := by
  obtain ⟨hx, hb, hg, hown, hK⟩ := C
  exact va_get (D := D) (ci := 13) (v := .int (S 13 5)) (C := RX10) (T := TX10) (N := 26) hx hb hg inX10 hown hK hW.1 0 rfl rfl 5 (by decide) (hg _ gw_1618) (fun _ h9 => h9) rfl hdg k
theorem md_put_changes (C : MdX p c cc s args m D aT) (hW : MdB D aT ad S A H0 H locs) {x : Int32} (hdg : decode cc pc = .ok (.putfield 60, 3)) (k : ∀ (H1 : Heap) (locs1 : List Loc), MdB D aT ad (ss S 5 x) A H0 H1 locs1 → W p l e R s m args below meth c H1 locs1 cells slots Q (F0 m (pc + 3) ls rest)) : W p l e R s m args below meth c H locs cells slots Q (F0 m pc ls (.int x :: .ref (ad 0) :: rest)) := by
  obtain ⟨hx, hb, hg, hown, hK⟩ := C
  refine va_put (D := D) (ci := 13) (v := .int x) (ty := .int) (C := RX10) (T := TX10) (N := 26) hx hb hg inX10 tyX10 tyX10_ok nmX10 hown hK hW.1 hW.2.1 hW.2.2 0 rfl rfl 5 (by decide) (hg _ gw_1618) (fun _ h9 => h9) rfl (by decide +kernel) rfl rfl (Nat.le_of_ble_eq_true rfl) hdg (fun H1 locs1 h1 h2 h3 => ?_)
  exact k H1 locs1 ⟨h1, mdW_D hW.2.1, h3⟩
theorem md_get_errorAt (C : MdX p c cc s args m D aT) (hW : MdB D aT ad S A H0 H locs) (hdg : decode cc pc = .ok (.getfield 22, 3)) (k : W p l e R s m args below meth c H locs cells slots Q (F0 m (pc + 3) ls (.int (S 13 6) :: rest))) : W p l e R s m args below meth c H locs cells slots Q (F0 m pc ls (.ref (ad 0) :: rest)) := by
  obtain ⟨hx, hb, hg, hown, hK⟩ := C
  exact va_get (D := D) (ci := 13) (v := .int (S 13 6)) (C := RX10) (T := TX10) (N := 26) hx hb hg inX10 hown hK hW.1 0 rfl rfl 6 (by decide) (hg _ gw_1619) (fun _ h9 => h9) rfl hdg k
theorem md_put_errorAt (C : MdX p c cc s args m D aT) (hW : MdB D aT ad S A H0 H locs) {x : Int32} (hdg : decode cc pc = .ok (.putfield 22, 3)) (k : ∀ (H1 : Heap) (locs1 : List Loc), MdB D aT ad (ss S 6 x) A H0 H1 locs1 → W p l e R s m args below meth c H1 locs1 cells slots Q (F0 m (pc + 3) ls rest)) : W p l e R s m args below meth c H locs cells slots Q (F0 m pc ls (.int x :: .ref (ad 0) :: rest)) := by
  obtain ⟨hx, hb, hg, hown, hK⟩ := C
  refine va_put (D := D) (ci := 13) (v := .int x) (ty := .int) (C := RX10) (T := TX10) (N := 26) hx hb hg inX10 tyX10 tyX10_ok nmX10 hown hK hW.1 hW.2.1 hW.2.2 0 rfl rfl 6 (by decide) (hg _ gw_1619) (fun _ h9 => h9) rfl (by decide +kernel) rfl rfl (Nat.le_of_ble_eq_true rfl) hdg (fun H1 locs1 h1 h2 h3 => ?_)
  exact k H1 locs1 ⟨h1, mdW_D hW.2.1, h3⟩
theorem md_get_failed (C : MdX p c cc s args m D aT) (hW : MdB D aT ad S A H0 H locs) (hdg : decode cc pc = .ok (.getfield 26, 3)) (k : W p l e R s m args below meth c H locs cells slots Q (F0 m (pc + 3) ls (.int (S 13 7) :: rest))) : W p l e R s m args below meth c H locs cells slots Q (F0 m pc ls (.ref (ad 0) :: rest)) := by
  obtain ⟨hx, hb, hg, hown, hK⟩ := C
  exact va_get (D := D) (ci := 13) (v := .int (S 13 7)) (C := RX10) (T := TX10) (N := 26) hx hb hg inX10 hown hK hW.1 0 rfl rfl 7 (by decide) (hg _ gw_1620) (fun _ h9 => h9) rfl hdg k
theorem md_put_failed (C : MdX p c cc s args m D aT) (hW : MdB D aT ad S A H0 H locs) {x : Int32} (hdg : decode cc pc = .ok (.putfield 26, 3)) (k : ∀ (H1 : Heap) (locs1 : List Loc), MdB D aT ad (ss S 7 x) A H0 H1 locs1 → W p l e R s m args below meth c H1 locs1 cells slots Q (F0 m (pc + 3) ls rest)) : W p l e R s m args below meth c H locs cells slots Q (F0 m pc ls (.int x :: .ref (ad 0) :: rest)) := by
  obtain ⟨hx, hb, hg, hown, hK⟩ := C
  refine va_put (D := D) (ci := 13) (v := .int x) (ty := .int) (C := RX10) (T := TX10) (N := 26) hx hb hg inX10 tyX10 tyX10_ok nmX10 hown hK hW.1 hW.2.1 hW.2.2 0 rfl rfl 7 (by decide) (hg _ gw_1620) (fun _ h9 => h9) rfl (by decide +kernel) rfl rfl (Nat.le_of_ble_eq_true rfl) hdg (fun H1 locs1 h1 h2 h3 => ?_)
  exact k H1 locs1 ⟨h1, mdW_D hW.2.1, h3⟩
theorem md_get_thrown (C : MdX p c cc s args m D aT) (hW : MdB D aT ad S A H0 H locs) (hdg : decode cc pc = .ok (.getfield 57, 3)) (k : W p l e R s m args below meth c H locs cells slots Q (F0 m (pc + 3) ls (.int (S 13 8) :: rest))) : W p l e R s m args below meth c H locs cells slots Q (F0 m pc ls (.ref (ad 0) :: rest)) := by
  obtain ⟨hx, hb, hg, hown, hK⟩ := C
  exact va_get (D := D) (ci := 13) (v := .int (S 13 8)) (C := RX10) (T := TX10) (N := 26) hx hb hg inX10 hown hK hW.1 0 rfl rfl 8 (by decide) (hg _ gw_1621) (fun _ h9 => h9) rfl hdg k
theorem md_put_thrown (C : MdX p c cc s args m D aT) (hW : MdB D aT ad S A H0 H locs) {x : Int32} (hdg : decode cc pc = .ok (.putfield 57, 3)) (k : ∀ (H1 : Heap) (locs1 : List Loc), MdB D aT ad (ss S 8 x) A H0 H1 locs1 → W p l e R s m args below meth c H1 locs1 cells slots Q (F0 m (pc + 3) ls rest)) : W p l e R s m args below meth c H locs cells slots Q (F0 m pc ls (.int x :: .ref (ad 0) :: rest)) := by
  obtain ⟨hx, hb, hg, hown, hK⟩ := C
  refine va_put (D := D) (ci := 13) (v := .int x) (ty := .int) (C := RX10) (T := TX10) (N := 26) hx hb hg inX10 tyX10 tyX10_ok nmX10 hown hK hW.1 hW.2.1 hW.2.2 0 rfl rfl 8 (by decide) (hg _ gw_1621) (fun _ h9 => h9) rfl (by decide +kernel) rfl rfl (Nat.le_of_ble_eq_true rfl) hdg (fun H1 locs1 h1 h2 h3 => ?_)
  exact k H1 locs1 ⟨h1, mdW_D hW.2.1, h3⟩
theorem md_get_inputMany (C : MdX p c cc s args m D aT) (hW : MdB D aT ad S A H0 H locs) (hdg : decode cc pc = .ok (.getfield 207, 3)) (k : W p l e R s m args below meth c H locs cells slots Q (F0 m (pc + 3) ls (.int (S 13 10) :: rest))) : W p l e R s m args below meth c H locs cells slots Q (F0 m pc ls (.ref (ad 0) :: rest)) := by
  obtain ⟨hx, hb, hg, hown, hK⟩ := C
  exact va_get (D := D) (ci := 13) (v := .int (S 13 10)) (C := RX10) (T := TX10) (N := 26) hx hb hg inX10 hown hK hW.1 0 rfl rfl 10 (by decide) (hg _ gw_1623) (fun _ h9 => h9) rfl hdg k
theorem md_put_inputMany (C : MdX p c cc s args m D aT) (hW : MdB D aT ad S A H0 H locs) {x : Int32} (hdg : decode cc pc = .ok (.putfield 207, 3)) (k : ∀ (H1 : Heap) (locs1 : List Loc), MdB D aT ad (ss S 10 x) A H0 H1 locs1 → W p l e R s m args below meth c H1 locs1 cells slots Q (F0 m (pc + 3) ls rest)) : W p l e R s m args below meth c H locs cells slots Q (F0 m pc ls (.int x :: .ref (ad 0) :: rest)) := by
  obtain ⟨hx, hb, hg, hown, hK⟩ := C
  refine va_put (D := D) (ci := 13) (v := .int x) (ty := .int) (C := RX10) (T := TX10) (N := 26) hx hb hg inX10 tyX10 tyX10_ok nmX10 hown hK hW.1 hW.2.1 hW.2.2 0 rfl rfl 10 (by decide) (hg _ gw_1623) (fun _ h9 => h9) rfl (by decide +kernel) rfl rfl (Nat.le_of_ble_eq_true rfl) hdg (fun H1 locs1 h1 h2 h3 => ?_)
  exact k H1 locs1 ⟨h1, mdW_D hW.2.1, h3⟩
theorem md_get_worthAll (C : MdX p c cc s args m D aT) (hW : MdB D aT ad S A H0 H locs) (hdg : decode cc pc = .ok (.getfield 190, 3)) (k : W p l e R s m args below meth c H locs cells slots Q (F0 m (pc + 3) ls (.int (S 13 15) :: rest))) : W p l e R s m args below meth c H locs cells slots Q (F0 m pc ls (.ref (ad 0) :: rest)) := by
  obtain ⟨hx, hb, hg, hown, hK⟩ := C
  exact va_get (D := D) (ci := 13) (v := .int (S 13 15)) (C := RX10) (T := TX10) (N := 26) hx hb hg inX10 hown hK hW.1 0 rfl rfl 15 (by decide) (hg _ gw_1628) (fun _ h9 => h9) rfl hdg k
theorem md_put_worthAll (C : MdX p c cc s args m D aT) (hW : MdB D aT ad S A H0 H locs) {x : Int32} (hdg : decode cc pc = .ok (.putfield 190, 3)) (k : ∀ (H1 : Heap) (locs1 : List Loc), MdB D aT ad (ss S 15 x) A H0 H1 locs1 → W p l e R s m args below meth c H1 locs1 cells slots Q (F0 m (pc + 3) ls rest)) : W p l e R s m args below meth c H locs cells slots Q (F0 m pc ls (.int x :: .ref (ad 0) :: rest)) := by
  obtain ⟨hx, hb, hg, hown, hK⟩ := C
  refine va_put (D := D) (ci := 13) (v := .int x) (ty := .int) (C := RX10) (T := TX10) (N := 26) hx hb hg inX10 tyX10 tyX10_ok nmX10 hown hK hW.1 hW.2.1 hW.2.2 0 rfl rfl 15 (by decide) (hg _ gw_1628) (fun _ h9 => h9) rfl (by decide +kernel) rfl rfl (Nat.le_of_ble_eq_true rfl) hdg (fun H1 locs1 h1 h2 h3 => ?_)
  exact k H1 locs1 ⟨h1, mdW_D hW.2.1, h3⟩
theorem md_get_setsAll (C : MdX p c cc s args m D aT) (hW : MdB D aT ad S A H0 H locs) (hdg : decode cc pc = .ok (.getfield 193, 3)) (k : W p l e R s m args below meth c H locs cells slots Q (F0 m (pc + 3) ls (.int (S 13 16) :: rest))) : W p l e R s m args below meth c H locs cells slots Q (F0 m pc ls (.ref (ad 0) :: rest)) := by
  obtain ⟨hx, hb, hg, hown, hK⟩ := C
  exact va_get (D := D) (ci := 13) (v := .int (S 13 16)) (C := RX10) (T := TX10) (N := 26) hx hb hg inX10 hown hK hW.1 0 rfl rfl 16 (by decide) (hg _ gw_1629) (fun _ h9 => h9) rfl hdg k
theorem md_put_setsAll (C : MdX p c cc s args m D aT) (hW : MdB D aT ad S A H0 H locs) {x : Int32} (hdg : decode cc pc = .ok (.putfield 193, 3)) (k : ∀ (H1 : Heap) (locs1 : List Loc), MdB D aT ad (ss S 16 x) A H0 H1 locs1 → W p l e R s m args below meth c H1 locs1 cells slots Q (F0 m (pc + 3) ls rest)) : W p l e R s m args below meth c H locs cells slots Q (F0 m pc ls (.int x :: .ref (ad 0) :: rest)) := by
  obtain ⟨hx, hb, hg, hown, hK⟩ := C
  refine va_put (D := D) (ci := 13) (v := .int x) (ty := .int) (C := RX10) (T := TX10) (N := 26) hx hb hg inX10 tyX10 tyX10_ok nmX10 hown hK hW.1 hW.2.1 hW.2.2 0 rfl rfl 16 (by decide) (hg _ gw_1629) (fun _ h9 => h9) rfl (by decide +kernel) rfl rfl (Nat.le_of_ble_eq_true rfl) hdg (fun H1 locs1 h1 h2 h3 => ?_)
  exact k H1 locs1 ⟨h1, mdW_D hW.2.1, h3⟩
theorem md_get_commandMany (C : MdX p c cc s args m D aT) (hW : MdB D aT ad S A H0 H locs) (hdg : decode cc pc = .ok (.getfield 242, 3)) (k : W p l e R s m args below meth c H locs cells slots Q (F0 m (pc + 3) ls (.int (S 13 20) :: rest))) : W p l e R s m args below meth c H locs cells slots Q (F0 m pc ls (.ref (ad 0) :: rest)) := by
  obtain ⟨hx, hb, hg, hown, hK⟩ := C
  exact va_get (D := D) (ci := 13) (v := .int (S 13 20)) (C := RX10) (T := TX10) (N := 26) hx hb hg inX10 hown hK hW.1 0 rfl rfl 20 (by decide) (hg _ gw_1633) (fun _ h9 => h9) rfl hdg k
theorem md_put_commandMany (C : MdX p c cc s args m D aT) (hW : MdB D aT ad S A H0 H locs) {x : Int32} (hdg : decode cc pc = .ok (.putfield 242, 3)) (k : ∀ (H1 : Heap) (locs1 : List Loc), MdB D aT ad (ss S 20 x) A H0 H1 locs1 → W p l e R s m args below meth c H1 locs1 cells slots Q (F0 m (pc + 3) ls rest)) : W p l e R s m args below meth c H locs cells slots Q (F0 m pc ls (.int x :: .ref (ad 0) :: rest)) := by
  obtain ⟨hx, hb, hg, hown, hK⟩ := C
  refine va_put (D := D) (ci := 13) (v := .int x) (ty := .int) (C := RX10) (T := TX10) (N := 26) hx hb hg inX10 tyX10 tyX10_ok nmX10 hown hK hW.1 hW.2.1 hW.2.2 0 rfl rfl 20 (by decide) (hg _ gw_1633) (fun _ h9 => h9) rfl (by decide +kernel) rfl rfl (Nat.le_of_ble_eq_true rfl) hdg (fun H1 locs1 h1 h2 h3 => ?_)
  exact k H1 locs1 ⟨h1, mdW_D hW.2.1, h3⟩
theorem md_get_place0 (C : MdX p c cc s args m D aT) (hW : MdB D aT ad S A H0 H locs) (hdg : decode cc pc = .ok (.getfield 210, 3)) (k : W p l e R s m args below meth c H locs cells slots Q (F0 m (pc + 3) ls (.int (S 13 21) :: rest))) : W p l e R s m args below meth c H locs cells slots Q (F0 m pc ls (.ref (ad 0) :: rest)) := by
  obtain ⟨hx, hb, hg, hown, hK⟩ := C
  exact va_get (D := D) (ci := 13) (v := .int (S 13 21)) (C := RX10) (T := TX10) (N := 26) hx hb hg inX10 hown hK hW.1 0 rfl rfl 21 (by decide) (hg _ gw_1634) (fun _ h9 => h9) rfl hdg k
theorem md_put_place0 (C : MdX p c cc s args m D aT) (hW : MdB D aT ad S A H0 H locs) {x : Int32} (hdg : decode cc pc = .ok (.putfield 210, 3)) (k : ∀ (H1 : Heap) (locs1 : List Loc), MdB D aT ad (ss S 21 x) A H0 H1 locs1 → W p l e R s m args below meth c H1 locs1 cells slots Q (F0 m (pc + 3) ls rest)) : W p l e R s m args below meth c H locs cells slots Q (F0 m pc ls (.int x :: .ref (ad 0) :: rest)) := by
  obtain ⟨hx, hb, hg, hown, hK⟩ := C
  refine va_put (D := D) (ci := 13) (v := .int x) (ty := .int) (C := RX10) (T := TX10) (N := 26) hx hb hg inX10 tyX10 tyX10_ok nmX10 hown hK hW.1 hW.2.1 hW.2.2 0 rfl rfl 21 (by decide) (hg _ gw_1634) (fun _ h9 => h9) rfl (by decide +kernel) rfl rfl (Nat.le_of_ble_eq_true rfl) hdg (fun H1 locs1 h1 h2 h3 => ?_)
  exact k H1 locs1 ⟨h1, mdW_D hW.2.1, h3⟩
theorem md_get_size0 (C : MdX p c cc s args m D aT) (hW : MdB D aT ad S A H0 H locs) (hdg : decode cc pc = .ok (.getfield 213, 3)) (k : W p l e R s m args below meth c H locs cells slots Q (F0 m (pc + 3) ls (.int (S 13 22) :: rest))) : W p l e R s m args below meth c H locs cells slots Q (F0 m pc ls (.ref (ad 0) :: rest)) := by
  obtain ⟨hx, hb, hg, hown, hK⟩ := C
  exact va_get (D := D) (ci := 13) (v := .int (S 13 22)) (C := RX10) (T := TX10) (N := 26) hx hb hg inX10 hown hK hW.1 0 rfl rfl 22 (by decide) (hg _ gw_1635) (fun _ h9 => h9) rfl hdg k
theorem md_put_size0 (C : MdX p c cc s args m D aT) (hW : MdB D aT ad S A H0 H locs) {x : Int32} (hdg : decode cc pc = .ok (.putfield 213, 3)) (k : ∀ (H1 : Heap) (locs1 : List Loc), MdB D aT ad (ss S 22 x) A H0 H1 locs1 → W p l e R s m args below meth c H1 locs1 cells slots Q (F0 m (pc + 3) ls rest)) : W p l e R s m args below meth c H locs cells slots Q (F0 m pc ls (.int x :: .ref (ad 0) :: rest)) := by
  obtain ⟨hx, hb, hg, hown, hK⟩ := C
  refine va_put (D := D) (ci := 13) (v := .int x) (ty := .int) (C := RX10) (T := TX10) (N := 26) hx hb hg inX10 tyX10 tyX10_ok nmX10 hown hK hW.1 hW.2.1 hW.2.2 0 rfl rfl 22 (by decide) (hg _ gw_1635) (fun _ h9 => h9) rfl (by decide +kernel) rfl rfl (Nat.le_of_ble_eq_true rfl) hdg (fun H1 locs1 h1 h2 h3 => ?_)
  exact k H1 locs1 ⟨h1, mdW_D hW.2.1, h3⟩
theorem md_get_isWrong (C : MdX p c cc s args m D aT) (hW : MdB D aT ad S A H0 H locs) (hdg : decode cc pc = .ok (.getfield 216, 3)) (k : W p l e R s m args below meth c H locs cells slots Q (F0 m (pc + 3) ls (.int (S 13 23) :: rest))) : W p l e R s m args below meth c H locs cells slots Q (F0 m pc ls (.ref (ad 0) :: rest)) := by
  obtain ⟨hx, hb, hg, hown, hK⟩ := C
  exact va_get (D := D) (ci := 13) (v := .int (S 13 23)) (C := RX10) (T := TX10) (N := 26) hx hb hg inX10 hown hK hW.1 0 rfl rfl 23 (by decide) (hg _ gw_1636) (fun _ h9 => h9) rfl hdg k
theorem md_put_isWrong (C : MdX p c cc s args m D aT) (hW : MdB D aT ad S A H0 H locs) {x : Int32} (hz : narrow .boolean (.int x) = .int x) (hf : fits .boolean (.int x) = true) (hdg : decode cc pc = .ok (.putfield 216, 3)) (k : ∀ (H1 : Heap) (locs1 : List Loc), MdB D aT ad (ss S 23 x) A H0 H1 locs1 → W p l e R s m args below meth c H1 locs1 cells slots Q (F0 m (pc + 3) ls rest)) : W p l e R s m args below meth c H locs cells slots Q (F0 m pc ls (.int x :: .ref (ad 0) :: rest)) := by
  obtain ⟨hx, hb, hg, hown, hK⟩ := C
  refine va_put (D := D) (ci := 13) (v := .int x) (ty := .boolean) (C := RX10) (T := TX10) (N := 26) hx hb hg inX10 tyX10 tyX10_ok nmX10 hown hK hW.1 hW.2.1 hW.2.2 0 rfl rfl 23 (by decide) (hg _ gw_1636) (fun _ h9 => h9) rfl (by decide +kernel) hz hf (Nat.le_of_ble_eq_true rfl) hdg (fun H1 locs1 h1 h2 h3 => ?_)
  exact k H1 locs1 ⟨h1, mdW_D hW.2.1, h3⟩
theorem md_get_lineMany (C : MdX p c cc s args m D aT) (hW : MdB D aT ad S A H0 H locs) (hdg : decode cc pc = .ok (.getfield 258, 3)) (k : W p l e R s m args below meth c H locs cells slots Q (F0 m (pc + 3) ls (.int (S 13 25) :: rest))) : W p l e R s m args below meth c H locs cells slots Q (F0 m pc ls (.ref (ad 0) :: rest)) := by
  obtain ⟨hx, hb, hg, hown, hK⟩ := C
  exact va_get (D := D) (ci := 13) (v := .int (S 13 25)) (C := RX10) (T := TX10) (N := 26) hx hb hg inX10 hown hK hW.1 0 rfl rfl 25 (by decide) (hg _ gw_1638) (fun _ h9 => h9) rfl hdg k
theorem md_put_lineMany (C : MdX p c cc s args m D aT) (hW : MdB D aT ad S A H0 H locs) {x : Int32} (hdg : decode cc pc = .ok (.putfield 258, 3)) (k : ∀ (H1 : Heap) (locs1 : List Loc), MdB D aT ad (ss S 25 x) A H0 H1 locs1 → W p l e R s m args below meth c H1 locs1 cells slots Q (F0 m (pc + 3) ls rest)) : W p l e R s m args below meth c H locs cells slots Q (F0 m pc ls (.int x :: .ref (ad 0) :: rest)) := by
  obtain ⟨hx, hb, hg, hown, hK⟩ := C
  refine va_put (D := D) (ci := 13) (v := .int x) (ty := .int) (C := RX10) (T := TX10) (N := 26) hx hb hg inX10 tyX10 tyX10_ok nmX10 hown hK hW.1 hW.2.1 hW.2.2 0 rfl rfl 25 (by decide) (hg _ gw_1638) (fun _ h9 => h9) rfl (by decide +kernel) rfl rfl (Nat.le_of_ble_eq_true rfl) hdg (fun H1 locs1 h1 h2 h3 => ?_)
  exact k H1 locs1 ⟨h1, mdW_D hW.2.1, h3⟩
end MDR
end
section
section W3
variable {p : Program} {l : Launch} {e : Env} {R : Room} {s : State} {m : MethodId} {args : Array Value} {below : List Frame} {meth : Method} {c : Code} {H : Heap} {locs : List Loc} {cells slots : Nat} {Q : State → Prop} {cc : ByteArray} {pc : Nat} {ls : Array Slot} {rest : List Value}
/-- a loop that writes nothing: a measure that falls -/
theorem W_loopR {σ : Type} (μ : σ → Nat) (G : σ → JFrame → Prop) (body : ∀ x g, G x g → (∀ y g', μ y < μ x → G y g' → W p l e R s m args below meth c H locs cells slots Q g') → W p l e R s m args below meth c H locs cells slots Q g) (x : σ) (g : JFrame) (h : G x g) : W p l e R s m args below meth c H locs cells slots Q g := by
  have key : ∀ n x g, μ x < n → G x g → W p l e R s m args below meth c H locs cells slots Q g := by
    intro n
    induction n with
    | zero => intro x g hx; exact absurd hx (Nat.not_lt_zero _)
    | succ n ih => intro x g hx hg; exact body x g hg (fun y g' hy hg' => ih y g' (by omega) hg')
  exact key _ x g (Nat.lt_succ_self _) h
/-- a loop that writes -/
theorem W_loopH {σ : Type} (μ : σ → Nat) (G : σ → Heap → List Loc → JFrame → Prop) (body : ∀ x H locs g, G x H locs g → (∀ y H' locs' g', μ y < μ x → G y H' locs' g' → W p l e R s m args below meth c H' locs' cells slots Q g') → W p l e R s m args below meth c H locs cells slots Q g) (x : σ) (g : JFrame) (h : G x H locs g) : W p l e R s m args below meth c H locs cells slots Q g := by
  have key : ∀ n x H locs g, μ x < n → G x H locs g → W p l e R s m args below meth c H locs cells slots Q g := by
    intro n
    induction n with
    | zero => intro x H locs g hx; exact absurd hx (Nat.not_lt_zero _)
    | succ n ih => intro x H locs g hx hg; exact body x H locs g hg (fun y H' locs' g' hy hg' => ih y H' locs' g' (by omega) hg')
  exact key _ x H locs g (Nat.lt_succ_self _) h
theorem r_iaddN (hx : p.tables.exec = Jvm.exec) (hb : c.code = cc) {a b : Nat} (hdg : decode cc pc = .ok (.iadd, 1)) (k : W p l e R s m args below meth c H locs cells slots Q (F0 m (pc + 1) ls (.int (nI (a + b)) :: rest))) : W p l e R s m args below meth c H locs cells slots Q (F0 m pc ls (.int (nI b) :: .int (nI a) :: rest)) := lv_iadd hx hb hdg (by rw [nI_add]; exact k)
theorem r_isubN (hx : p.tables.exec = Jvm.exec) (hb : c.code = cc) {a b : Nat} (h : b ≤ a) (hdg : decode cc pc = .ok (.isub, 1)) (k : W p l e R s m args below meth c H locs cells slots Q (F0 m (pc + 1) ls (.int (nI (a - b)) :: rest))) : W p l e R s m args below meth c H locs cells slots Q (F0 m pc ls (.int (nI b) :: .int (nI a) :: rest)) := lv_isub hx hb hdg (by rw [pk_sub h]; exact k)
theorem r_imulN (hx : p.tables.exec = Jvm.exec) (hb : c.code = cc) {a b : Nat} (hdg : decode cc pc = .ok (.imul, 1)) (k : W p l e R s m args below meth c H locs cells slots Q (F0 m (pc + 1) ls (.int (nI (a * b)) :: rest))) : W p l e R s m args below meth c H locs cells slots Q (F0 m pc ls (.int (nI b) :: .int (nI a) :: rest)) := lv_imul hx hb hdg (by rw [pk_mul]; exact k)
theorem r_eq {x y : Int32} (h : x = y) (k : W p l e R s m args below meth c H locs cells slots Q (F0 m pc ls (.int y :: rest))) : W p l e R s m args below meth c H locs cells slots Q (F0 m pc ls (.int x :: rest)) := by rw [h]; exact k
theorem r_ltN (hx : p.tables.exec = Jvm.exec) (hb : c.code = cc) {a b : Nat} (ha : a < 2 ^ 31) (hb' : b < 2 ^ 31) {off : Int} {tgt : Nat} (hdg : decode cc pc = .ok (.if_icmp .lt off, 3)) (ht : (pc : Int) + off = (tgt : Int)) (kt : a < b → W p l e R s m args below meth c H locs cells slots Q (F0 m tgt ls rest)) (kf : b ≤ a → W p l e R s m args below meth c H locs cells slots Q (F0 m (pc + 3) ls rest)) : W p l e R s m args below meth c H locs cells slots Q (F0 m pc ls (.int (nI b) :: .int (nI a) :: rest)) :=
  lv_icmp_lt hx hb hdg ht (fun h => kt ((nI_ltI ha hb').mp h)) (fun h => kf (Nat.not_lt.mp (fun q => h ((nI_ltI ha hb').mpr q))))
theorem r_geN (hx : p.tables.exec = Jvm.exec) (hb : c.code = cc) {a b : Nat} (ha : a < 2 ^ 31) (hb' : b < 2 ^ 31) {off : Int} {tgt : Nat} (hdg : decode cc pc = .ok (.if_icmp .ge off, 3)) (ht : (pc : Int) + off = (tgt : Int)) (kt : b ≤ a → W p l e R s m args below meth c H locs cells slots Q (F0 m tgt ls rest)) (kf : a < b → W p l e R s m args below meth c H locs cells slots Q (F0 m (pc + 3) ls rest)) : W p l e R s m args below meth c H locs cells slots Q (F0 m pc ls (.int (nI b) :: .int (nI a) :: rest)) :=
  lv_icmp_ge hx hb hdg ht (fun h => kt ((nI_leI hb' ha).mp h)) (fun h => kf (Nat.not_le.mp (fun q => h ((nI_leI hb' ha).mpr q))))
theorem r_gtN (hx : p.tables.exec = Jvm.exec) (hb : c.code = cc) {a b : Nat} (ha : a < 2 ^ 31) (hb' : b < 2 ^ 31) {off : Int} {tgt : Nat} (hdg : decode cc pc = .ok (.if_icmp .gt off, 3)) (ht : (pc : Int) + off = (tgt : Int)) (kt : b < a → W p l e R s m args below meth c H locs cells slots Q (F0 m tgt ls rest)) (kf : a ≤ b → W p l e R s m args below meth c H locs cells slots Q (F0 m (pc + 3) ls rest)) : W p l e R s m args below meth c H locs cells slots Q (F0 m pc ls (.int (nI b) :: .int (nI a) :: rest)) :=
  lv_icmp_gt hx hb hdg ht (fun h => kt ((nI_ltI hb' ha).mp h)) (fun h => kf (Nat.not_lt.mp (fun q => h ((nI_ltI hb' ha).mpr q))))
theorem r_leN (hx : p.tables.exec = Jvm.exec) (hb : c.code = cc) {a b : Nat} (ha : a < 2 ^ 31) (hb' : b < 2 ^ 31) {off : Int} {tgt : Nat} (hdg : decode cc pc = .ok (.if_icmp .le off, 3)) (ht : (pc : Int) + off = (tgt : Int)) (kt : a ≤ b → W p l e R s m args below meth c H locs cells slots Q (F0 m tgt ls rest)) (kf : b < a → W p l e R s m args below meth c H locs cells slots Q (F0 m (pc + 3) ls rest)) : W p l e R s m args below meth c H locs cells slots Q (F0 m pc ls (.int (nI b) :: .int (nI a) :: rest)) :=
  lv_icmp_le hx hb hdg ht (fun h => kt ((nI_leI ha hb').mp h)) (fun h => kf (Nat.not_le.mp (fun q => h ((nI_leI ha hb').mpr q))))
theorem r_neN (hx : p.tables.exec = Jvm.exec) (hb : c.code = cc) {a b : Nat} (ha : a < 2 ^ 31) (hb' : b < 2 ^ 31) {off : Int} {tgt : Nat} (hdg : decode cc pc = .ok (.if_icmp .ne off, 3)) (ht : (pc : Int) + off = (tgt : Int)) (kt : a ≠ b → W p l e R s m args below meth c H locs cells slots Q (F0 m tgt ls rest)) (kf : a = b → W p l e R s m args below meth c H locs cells slots Q (F0 m (pc + 3) ls rest)) : W p l e R s m args below meth c H locs cells slots Q (F0 m pc ls (.int (nI b) :: .int (nI a) :: rest)) :=
  lv_icmp_ne hx hb hdg ht (fun h => kt (fun q => h ((nI_eq ha hb').mpr q))) (fun h => kf ((nI_eq ha hb').mp h))
theorem r_eqN (hx : p.tables.exec = Jvm.exec) (hb : c.code = cc) {a b : Nat} (ha : a < 2 ^ 31) (hb' : b < 2 ^ 31) {off : Int} {tgt : Nat} (hdg : decode cc pc = .ok (.if_icmp .eq off, 3)) (ht : (pc : Int) + off = (tgt : Int)) (kt : a = b → W p l e R s m args below meth c H locs cells slots Q (F0 m tgt ls rest)) (kf : a ≠ b → W p l e R s m args below meth c H locs cells slots Q (F0 m (pc + 3) ls rest)) : W p l e R s m args below meth c H locs cells slots Q (F0 m pc ls (.int (nI b) :: .int (nI a) :: rest)) :=
  lv_icmp_eq hx hb hdg ht (fun h => kt ((nI_eq ha hb').mp h)) (fun h => kf (fun q => h ((nI_eq ha hb').mpr q)))
/-- a place, or none -/
def oi : Option Nat → Int32
  | none => -1
  | some j => nI j
/-- true or false as the machine has them -/
def bI (b : Bool) : Int32 := if b then 1 else 0
theorem oi_none {o : Option Nat} (h : ∀ j, o = some j → j < 2 ^ 31) : oi o = -1 ↔ o = none := by
  cases o with
  | none => simp [oi]
  | some j =>
    have hj := h j rfl
    refine ⟨fun q => ?_, fun q => by cases q⟩
    have h1 : (nI j).toInt = (-1 : Int32).toInt := by rw [show nI j = -1 from q]
    rw [nI_toInt hj] at h1
    have h2 : (-1 : Int32).toInt = -1 := by decide
    omega
theorem r_oi_ne (hx : p.tables.exec = Jvm.exec) (hb : c.code = cc) {o : Option Nat} (ho : ∀ j, o = some j → j < 2 ^ 31) {off : Int} {tgt : Nat} (hdg : decode cc pc = .ok (.if_icmp .ne off, 3)) (ht : (pc : Int) + off = (tgt : Int)) (kt : ∀ j, o = some j → W p l e R s m args below meth c H locs cells slots Q (F0 m tgt ls rest)) (kf : o = none → W p l e R s m args below meth c H locs cells slots Q (F0 m (pc + 3) ls rest)) : W p l e R s m args below meth c H locs cells slots Q (F0 m pc ls (.int (-1) :: .int (oi o) :: rest)) := by
  refine lv_icmp_ne hx hb hdg ht (fun h => ?_) (fun h => ?_)
  · cases o with
    | none => exact absurd rfl h
    | some j => exact kt j rfl
  · exact kf ((oi_none ho).mp h)
theorem r_oi_eq (hx : p.tables.exec = Jvm.exec) (hb : c.code = cc) {o : Option Nat} (ho : ∀ j, o = some j → j < 2 ^ 31) {off : Int} {tgt : Nat} (hdg : decode cc pc = .ok (.if_icmp .eq off, 3)) (ht : (pc : Int) + off = (tgt : Int)) (kt : o = none → W p l e R s m args below meth c H locs cells slots Q (F0 m tgt ls rest)) (kf : ∀ j, o = some j → W p l e R s m args below meth c H locs cells slots Q (F0 m (pc + 3) ls rest)) : W p l e R s m args below meth c H locs cells slots Q (F0 m pc ls (.int (-1) :: .int (oi o) :: rest)) := by
  refine lv_icmp_eq hx hb hdg ht (fun h => kt ((oi_none ho).mp h)) (fun h => ?_)
  cases o with
  | none => exact absurd rfl h
  | some j => exact kf j rfl
theorem r_bI_eq (hx : p.tables.exec = Jvm.exec) (hb : c.code = cc) {b : Bool} {off : Int} {tgt : Nat} (hdg : decode cc pc = .ok (.ifCond .eq off, 3)) (ht : (pc : Int) + off = (tgt : Int)) (kt : b = false → W p l e R s m args below meth c H locs cells slots Q (F0 m tgt ls rest)) (kf : b = true → W p l e R s m args below meth c H locs cells slots Q (F0 m (pc + 3) ls rest)) : W p l e R s m args below meth c H locs cells slots Q (F0 m pc ls (.int (bI b) :: rest)) := by
  refine lv_if_eq hx hb hdg ht (fun h => ?_) (fun h => ?_)
  · cases b with
    | false => exact kt rfl
    | true => exact absurd h (by decide)
  · cases b with
    | false => exact absurd rfl h
    | true => exact kf rfl
theorem r_bI_ne (hx : p.tables.exec = Jvm.exec) (hb : c.code = cc) {b : Bool} {off : Int} {tgt : Nat} (hdg : decode cc pc = .ok (.ifCond .ne off, 3)) (ht : (pc : Int) + off = (tgt : Int)) (kt : b = true → W p l e R s m args below meth c H locs cells slots Q (F0 m tgt ls rest)) (kf : b = false → W p l e R s m args below meth c H locs cells slots Q (F0 m (pc + 3) ls rest)) : W p l e R s m args below meth c H locs cells slots Q (F0 m pc ls (.int (bI b) :: rest)) := by
  refine lv_if_ne hx hb hdg ht (fun h => ?_) (fun h => ?_)
  · cases b with
    | false => exact absurd rfl h
    | true => exact kt rfl
  · cases b with
    | false => exact kf rfl
    | true => exact absurd h (by decide)
theorem bI_nar (b : Bool) : narrow .boolean (.int (bI b)) = .int (bI b) := by cases b <;> decide
theorem bI_fit (b : Bool) : fits .boolean (.int (bI b)) = true := by cases b <;> decide
theorem gdV {own C : String} {idx : Nat} {y : MethodName} {b : ByteArray} {L : Nat} {ret : Option FieldType} (h1 : Cond.methodLink own idx y ∈ gw) (h2 : Cond.instanceMethod y ∈ gw) (h3 : Cond.selects C y y ∈ gw) (h4 : Cond.initialized C ∈ gw) (h5 : Cond.code y b L ret ∈ gw) : GoodIn gw (wsV own idx C y (Cond.code y b L ret :: gw)) := by
  intro w hw
  have h : w ∈ gw := by
    unfold wsV at hw
    simp only [List.cons_append, List.nil_append, List.mem_cons] at hw
    rcases hw with rfl | rfl | rfl | rfl | rfl | hw
    · exact h1
    · exact h2
    · exact h3
    · exact h4
    · exact h5
    · exact hw
  exact ⟨h, gw_good w h⟩
theorem gdS {own : String} {idx : Nat} {y : MethodName} {b : ByteArray} {L : Nat} {ret : Option FieldType} (h1 : Cond.methodLink own idx y ∈ gw) (h2 : Cond.static y ∈ gw) (h4 : Cond.initialized own ∈ gw) (h5 : Cond.code y b L ret ∈ gw) : GoodIn gw (wsS own idx y (Cond.code y b L ret :: gw)) := by
  intro w hw
  have h : w ∈ gw := by
    unfold wsS at hw
    simp only [List.cons_append, List.nil_append, List.mem_cons] at hw
    rcases hw with rfl | rfl | rfl | rfl | hw
    · exact h1
    · exact h2
    · exact h4
    · exact h5
    · exact hw
  exact ⟨h, gw_good w h⟩
end W3
section MDC
variable {p : Program} {l : Launch} {e : Env} {R : Room} {s : State} {m : MethodId} {args : Array Value} {below : List Frame} {meth : Method} {c : Code} {H : Heap} {locs : List Loc} {cells slots : Nat} {Q : State → Prop} {cc : ByteArray} {pc : Nat} {ls : Array Slot} {rest : List Value} {D : va_G} {aT : Nat → ClassId} {ad : Nat → Nat} {S : MSt} {A : Nat → Prop} {H0 : Heap} {nL : Nat}
theorem md_blind (As : List Value) (sz : Nat) : FrameBlind (va_Pc As (mdB1 D aT ad S sz)) := fun a U g mk q => by
  obtain ⟨q0, q1, qP, qK, qD⟩ := q
  exact ⟨q0, q1, qP, va_K.moved (u := U) (U := U.calling g mk a) (Vm.Alike.refl U.vm) qK, qD⟩
theorem md_calli (C : MdX p c cc s args m D aT) (hml : c.maxLocals = nL) (hls : ls.size = nL) {y : MethodName} {b : ByteArray} {L : Nat} {ret : FieldType} {fr lo idx n : Nat} {As st : List Value} {post : Int32 → MSt → Prop} (hM : MdI l y b L ret fr lo D aT ad (.ref (ad 0) :: As) S post)
    (hT : GoodIn gw (wsV RX10 idx RX10 y (Cond.code y b L (some ret) :: gw))) (hd : y.cls = RX10 ∧ y.cls ≠ "java/lang/invoke/MethodHandle" ∧ y.cls ≠ "java/lang/invoke/VarHandle" ∧ (parseMethodDescriptor y.desc).map (fun d => d.parameters.length) = some n) (hn : As.length = n)
    (hR : fr + 1 ≤ R.frames ∧ 8 + (L + 11) + lo ≤ R.locals) (hcs : cells ≤ R.cells ∧ slots ≤ R.slots) (hW : MdB D aT ad S A H0 H locs) (hA : ∀ q, H0.size ≤ q → A q) (hst : st = As.reverse ++ .ref (ad 0) :: rest) (hw : (rest.map fun v => v.category).sum ≤ 8)
    (hdg : decode cc pc = .ok (.invokevirtual idx, 3)) (k : ∀ (r : Int32) (S1 : MSt) (H1 : Heap) (locs1 : List Loc), post r S1 → MdB D aT ad S1 A H0 H1 locs1 → W p l e R s m args below meth c H1 locs1 cells slots Q (F0 m (pc + 3) ls (.int r :: rest))) : W p l e R s m args below meth c H locs cells slots Q (F0 m pc ls st) := by
  obtain ⟨hx, hb, hg, hown, hK⟩ := C
  obtain ⟨hP, hD, hS⟩ := hW
  subst hst
  have hAq : ∀ q, va_A (mdW aT ad S) H.size q → A q := by
    intro q h
    rcases h with ⟨j, e1, h⟩ | h
    · exact hD.2 j _ h
    · exact hA q (Nat.le_trans hS.1 h)
  refine va_calli (va_runV (As := As) (rest := rest) ⟨hx, hb, hml, hown, hg⟩ (hM H.size) (cwV n hg hT rfl rfl rfl hd hR) ⟨md_blind _ _, va_recv hK hP (ci := 13) (q0 := 0) rfl rfl, fun U hU hW => ⟨rfl, by rw [hU], by rw [hU]; exact hP, va_K.moved hW.alike hK, hD.weaken (fun _ _ _ _ => trivial)⟩⟩ rfl hn hls rfl (lv_room hw) hdg hcs) hS (fun q _ h => hAq q h) hAq (fun r u t H1 locs1 ht hvm hq hB hz hk hS1 => ?_)
  obtain ⟨hP1, hK1, hD1⟩ := hB
  rw [ht] at hP1
  exact k r u H1 locs1 hq ⟨hP1, mdW_D hD, hS1⟩
theorem md_callv (C : MdX p c cc s args m D aT) (hml : c.maxLocals = nL) (hls : ls.size = nL) {y : MethodName} {b : ByteArray} {L : Nat} {fr lo idx n : Nat} {As st : List Value} {post : MSt → Prop} (hM : MdV l y b L fr lo D aT ad (.ref (ad 0) :: As) S post)
    (hT : GoodIn gw (wsV RX10 idx RX10 y (Cond.code y b L none :: gw))) (hd : y.cls = RX10 ∧ y.cls ≠ "java/lang/invoke/MethodHandle" ∧ y.cls ≠ "java/lang/invoke/VarHandle" ∧ (parseMethodDescriptor y.desc).map (fun d => d.parameters.length) = some n) (hn : As.length = n)
    (hR : fr + 1 ≤ R.frames ∧ 8 + (L + 11) + lo ≤ R.locals) (hcs : cells ≤ R.cells ∧ slots ≤ R.slots) (hW : MdB D aT ad S A H0 H locs) (hA : ∀ q, H0.size ≤ q → A q) (hst : st = As.reverse ++ .ref (ad 0) :: rest) (hw : (rest.map fun v => v.category).sum ≤ 8)
    (hdg : decode cc pc = .ok (.invokevirtual idx, 3)) (k : ∀ (S1 : MSt) (H1 : Heap) (locs1 : List Loc), post S1 → MdB D aT ad S1 A H0 H1 locs1 → W p l e R s m args below meth c H1 locs1 cells slots Q (F0 m (pc + 3) ls rest)) : W p l e R s m args below meth c H locs cells slots Q (F0 m pc ls st) := by
  obtain ⟨hx, hb, hg, hown, hK⟩ := C
  obtain ⟨hP, hD, hS⟩ := hW
  subst hst
  have hAq : ∀ q, va_A (mdW aT ad S) H.size q → A q := by
    intro q h
    rcases h with ⟨j, e1, h⟩ | h
    · exact hD.2 j _ h
    · exact hA q (Nat.le_trans hS.1 h)
  refine va_callv (va_runV (As := As) (rest := rest) ⟨hx, hb, hml, hown, hg⟩ (hM H.size) (cwV n hg hT rfl rfl rfl hd hR) ⟨md_blind _ _, va_recv hK hP (ci := 13) (q0 := 0) rfl rfl, fun U hU hW => ⟨rfl, by rw [hU], by rw [hU]; exact hP, va_K.moved hW.alike hK, hD.weaken (fun _ _ _ _ => trivial)⟩⟩ rfl hn hls rfl (lv_room hw) hdg hcs) hS (fun q _ h => hAq q h) hAq (fun u t H1 locs1 ht hvm hq hB hz hk hS1 => ?_)
  obtain ⟨hP1, hK1, hD1⟩ := hB
  rw [ht] at hP1
  exact k u H1 locs1 hq ⟨hP1, mdW_D hD, hS1⟩
/-- .. that answers an int and leaves its state -/
def MdG (l : Launch) (y : MethodName) (b : ByteArray) (L : Nat) (ret : FieldType) (fr lo : Nat) (D : va_G) (aT : Nat → ClassId) (ad : Nat → Nat) (As : List Value) (S : MSt) (post : Int32 → Prop) : Prop := MdI l y b L ret fr lo D aT ad As S (fun r S1 => post r ∧ S1 = S)
theorem md_callg (C : MdX p c cc s args m D aT) (hml : c.maxLocals = nL) (hls : ls.size = nL) {y : MethodName} {b : ByteArray} {L : Nat} {ret : FieldType} {fr lo idx n : Nat} {As st : List Value} {post : Int32 → Prop} (hM : MdG l y b L ret fr lo D aT ad (.ref (ad 0) :: As) S post)
    (hT : GoodIn gw (wsV RX10 idx RX10 y (Cond.code y b L (some ret) :: gw))) (hd : y.cls = RX10 ∧ y.cls ≠ "java/lang/invoke/MethodHandle" ∧ y.cls ≠ "java/lang/invoke/VarHandle" ∧ (parseMethodDescriptor y.desc).map (fun d => d.parameters.length) = some n) (hn : As.length = n)
    (hR : fr + 1 ≤ R.frames ∧ 8 + (L + 11) + lo ≤ R.locals) (hcs : cells ≤ R.cells ∧ slots ≤ R.slots) (hW : MdB D aT ad S A H0 H locs) (hA : ∀ q, H0.size ≤ q → A q) (hst : st = As.reverse ++ .ref (ad 0) :: rest) (hw : (rest.map fun v => v.category).sum ≤ 8)
    (hdg : decode cc pc = .ok (.invokevirtual idx, 3)) (k : ∀ (r : Int32) (H1 : Heap) (locs1 : List Loc), post r → MdB D aT ad S A H0 H1 locs1 → W p l e R s m args below meth c H1 locs1 cells slots Q (F0 m (pc + 3) ls (.int r :: rest))) : W p l e R s m args below meth c H locs cells slots Q (F0 m pc ls st) :=
  md_calli C hml hls hM hT hd hn hR hcs hW hA hst hw hdg (fun r S1 H1 locs1 hq hW1 => k r H1 locs1 hq.1 (by rw [← hq.2]; exact hW1))
/-- a static method without a world -/
def MdS (l : Launch) (y : MethodName) (b : ByteArray) (L : Nat) (ret : FieldType) (As : List Value) (post : Int32 → Prop) : Prop :=
  Met l y (Cond.code y b L (some ret) :: gw) (mdR 0 0) (fun a _ => a = As.toArray) (vp_Si post) 0 0 (fun _ => False)
theorem md_calls (C : MdX p c cc s args m D aT) (hml : c.maxLocals = nL) (hls : ls.size = nL) {y : MethodName} {b : ByteArray} {L : Nat} {ret : FieldType} {idx n : Nat} {As st : List Value} {post : Int32 → Prop} (hM : MdS l y b L ret As post)
    (hT : GoodIn gw (wsS RX10 idx y (Cond.code y b L (some ret) :: gw))) (hd : y.cls = RX10 ∧ y.cls ≠ "java/lang/invoke/MethodHandle" ∧ y.cls ≠ "java/lang/invoke/VarHandle" ∧ (parseMethodDescriptor y.desc).map (fun d => d.parameters.length) = some n) (hn : As.length = n)
    (hR : 0 + 1 ≤ R.frames ∧ 8 + (L + 11) + 0 ≤ R.locals) (hcs : cells ≤ R.cells ∧ slots ≤ R.slots) (hst : st = As.reverse ++ rest) (hw : (rest.map fun v => v.category).sum ≤ 8)
    (hdg : decode cc pc = .ok (.invokestatic idx, 3)) (k : ∀ (r : Int32), post r → W p l e R s m args below meth c H locs cells slots Q (F0 m (pc + 3) ls (.int r :: rest))) : W p l e R s m args below meth c H locs cells slots Q (F0 m pc ls st) := by
  obtain ⟨hx, hb, hg, hown, hK⟩ := C
  subst hst
  exact vp_callSi (W.runS (As := As) (rest := rest) ⟨hx, hb, hml, hown, hg⟩ hM (cwS n hg hT rfl rfl rfl hd hR) ⟨fun a U g mk q => q, fun U hU hW => rfl⟩ rfl hn hls rfl (lv_room hw) hdg hcs) k
/-- the end of a method of the reference -/
def mdB3 (D : va_G) (aT : Nat → ClassId) (ad : Nat → Nat) (A : Nat → Prop) (S : MSt) (U : State) : Prop := va_P D vwCl (mdW aT ad S) U.heap ∧ va_K D vwCl (tyG aT) U ∧ va_D A (mdW aT ad S)
theorem md_iret (C : MdX p c cc s args m D aT) {ty : FieldType} (hr : meth.sig.returnType = some ty) (hlocks : meth.locks = false) {post : Int32 → MSt → Prop} {v : Int32} (hn : narrow ty (.int v) = .int v) (hW : MdB D aT ad S A s.heap H locs) (hq : post v S) (hdg : decode cc pc = .ok (.ireturn, 1)) : W p l e R s m args below meth c H locs cells slots (MQ below (va_Qi post (mdB3 D aT ad A) A) args s cells slots A) (F0 m pc ls [.int v]) := by
  obtain ⟨hx, hb, hg, hown, hK⟩ := C
  exact W.zret (v := v) hx hb hr hn (fun t ht hW' => ⟨⟨v, S, rfl, hq, by rw [ht]; exact hW.1, va_K.moved hW'.alike hK, hW.2.1⟩, hW.2.2.F ht⟩) hW.2.2.2.2 hdg hlocks
theorem md_vret (C : MdX p c cc s args m D aT) (hr : meth.sig.returnType = none) (hlocks : meth.locks = false) {post : MSt → Prop} (hW : MdB D aT ad S A s.heap H locs) (hq : post S) (hdg : decode cc pc = .ok (.return_, 1)) : W p l e R s m args below meth c H locs cells slots (MQ below (va_Qv post (mdB3 D aT ad A) A) args s cells slots A) (F0 m pc ls []) := by
  obtain ⟨hx, hb, hg, hown, hK⟩ := C
  exact W.vret hx hb hr (fun t ht hW' => ⟨⟨S, rfl, hq, by rw [ht]; exact hW.1, va_K.moved hW'.alike hK, hW.2.1⟩, hW.2.2.F ht⟩) hW.2.2.2.2 hdg hlocks
theorem MdI.of {y : MethodName} {b : ByteArray} {L : Nat} {ret : FieldType} {fr lo : Nat} {As : List Value} {post : Int32 → MSt → Prop} (hy : plainName y.cls = true) (hcls : y.cls = RX10) (hL : (lg_sl As).length ≤ L)
    (body : ∀ (p : Program) (e : Env) (s : State) (m : MethodId) (below : List Frame) (meth : Method) (c : Code) (A : Nat → Prop) (ls : Array Slot), MdX p c b s As.toArray m D aT → c.maxLocals = L → lv_has ls L (lv_args 0 As) → (∀ q, s.heap.size ≤ q → A q) → meth.sig.returnType = some ret → meth.locks = false → MdB D aT ad S A s.heap s.heap [] →
      W p l e (mdR fr lo) s m As.toArray below meth c s.heap [] 0 0 (MQ below (va_Qi post (mdB3 D aT ad A) A) As.toArray s 0 0 A) (F0 m 0 ls [])) : MdI l y b L ret fr lo D aT ad As S post := by
  intro sz
  refine Met.ofW (cc := b) (maxL := L) (ret := some ret) hy rfl ?_
  intro p e s m args below meth c s₁ B hml hv
  obtain ⟨rfl, hsz, hP, hK, hD0⟩ := hv
  have hts := atoms_spec (ws := Cond.code y b L (some ret) :: gw) B.pre
  have hown : s.vm.findClass y.cls = some m.cls := findClass_of_methodNamed B.named
  rw [hcls] at hown
  subst hsz
  have hl := lv_entry As (n := L) hL
  rw [lg_entry_eq]
  exact body p e s m below meth c _ _ ⟨B.exec, B.bytes, fun w hw => hts w (List.mem_cons_of_mem _ hw), hown, hK⟩ hml hl (fun q h => Or.inr h) B.returns B.notSynchronized ⟨hP, hD0.self (sz := s.heap.size), va_S.rf⟩
theorem MdV.of {y : MethodName} {b : ByteArray} {L : Nat} {fr lo : Nat} {As : List Value} {post : MSt → Prop} (hy : plainName y.cls = true) (hcls : y.cls = RX10) (hL : (lg_sl As).length ≤ L)
    (body : ∀ (p : Program) (e : Env) (s : State) (m : MethodId) (below : List Frame) (meth : Method) (c : Code) (A : Nat → Prop) (ls : Array Slot), MdX p c b s As.toArray m D aT → c.maxLocals = L → lv_has ls L (lv_args 0 As) → (∀ q, s.heap.size ≤ q → A q) → meth.sig.returnType = none → meth.locks = false → MdB D aT ad S A s.heap s.heap [] →
      W p l e (mdR fr lo) s m As.toArray below meth c s.heap [] 0 0 (MQ below (va_Qv post (mdB3 D aT ad A) A) As.toArray s 0 0 A) (F0 m 0 ls [])) : MdV l y b L fr lo D aT ad As S post := by
  intro sz
  refine Met.ofW (cc := b) (maxL := L) (ret := none) hy rfl ?_
  intro p e s m args below meth c s₁ B hml hv
  obtain ⟨rfl, hsz, hP, hK, hD0⟩ := hv
  have hts := atoms_spec (ws := Cond.code y b L none :: gw) B.pre
  have hown : s.vm.findClass y.cls = some m.cls := findClass_of_methodNamed B.named
  rw [hcls] at hown
  subst hsz
  have hl := lv_entry As (n := L) hL
  rw [lg_entry_eq]
  exact body p e s m below meth c _ _ ⟨B.exec, B.bytes, fun w hw => hts w (List.mem_cons_of_mem _ hw), hown, hK⟩ hml hl (fun q h => Or.inr h) B.returns B.notSynchronized ⟨hP, hD0.self (sz := s.heap.size), va_S.rf⟩
end MDC
end
section
/-- the first place before n where f is x -/
def fnd (f : Nat → Int32) (x : Int32) : Nat → Option Nat
  | 0 => none
  | n + 1 => match fnd f x n with
    | some k => some k
    | none => if f n = x then some n else none
theorem fnd_step {f : Nat → Int32} {x : Int32} {k : Nat} (h : fnd f x k = none) (h2 : ¬ f k = x) : fnd f x (k + 1) = none := by simp [fnd, h, h2]
theorem fnd_hit {f : Nat → Int32} {x : Int32} {k : Nat} (h : fnd f x k = none) (h2 : f k = x) : ∀ {n : Nat}, k < n → fnd f x n = some k := by
  intro n
  induction n with
  | zero => intro h3; exact absurd h3 (Nat.not_lt_zero _)
  | succ n ih =>
    intro h3
    rcases Nat.lt_or_ge k n with q | q
    · simp [fnd, ih q]
    · have e : n = k := by omega
      subst e
      simp [fnd, h, h2]
theorem fnd_some {f : Nat → Int32} {x : Int32} : ∀ {n k : Nat}, fnd f x n = some k → k < n ∧ f k = x ∧ ∀ j, j < k → f j ≠ x := by
  intro n
  induction n with
  | zero => intro k h; simp [fnd] at h
  | succ n ih =>
    intro k h
    unfold fnd at h
    cases hf : fnd f x n with
    | some j =>
      rw [hf] at h
      cases h
      obtain ⟨h1, h2, h3⟩ := ih hf
      exact ⟨by omega, h2, h3⟩
    | none =>
      rw [hf] at h
      dsimp only at h
      split at h
      · rename_i hq
        cases h
        refine ⟨by omega, hq, fun j hj hjx => ?_⟩
        have := fnd_hit (f := f) (x := x) (k := j)
        clear this
        have key : ∀ n j, j < n → f j = x → fnd f x n ≠ none := by
          intro n
          induction n with
          | zero => intro j hj; exact absurd hj (Nat.not_lt_zero _)
          | succ n ih2 =>
            intro j hj hx
            unfold fnd
            cases hg : fnd f x n with
            | some i => simp
            | none =>
              rcases Nat.lt_or_ge j n with q | q
              · exact absurd hg (ih2 j q hx)
              · have e : j = n := by omega
                subst e
                simp [hx]
        exact key _ j hj hjx hf
      · cases h
theorem fnd_none {f : Nat → Int32} {x : Int32} : ∀ {n : Nat}, fnd f x n = none → ∀ j, j < n → f j ≠ x := by
  intro n
  induction n with
  | zero => intro _ j hj; exact absurd hj (Nat.not_lt_zero _)
  | succ n ih =>
    intro h j hj hx
    unfold fnd at h
    cases hf : fnd f x n with
    | some i => rw [hf] at h; cases h
    | none =>
      rw [hf] at h
      rcases Nat.lt_or_ge j n with q | q
      · exact ih hf j q hx
      · have e : j = n := by omega
        subst e
        simp [hx] at h
/-- the forest that the reference's row holds: n motions, their ids, parents (by place), tones -/
def FoR (m : Nat → Int32) (n : Nat) (idn : Nat → Nat) (pr : Nat → Option Nat) (tn : Nat → Nat) : Prop :=
  m 2 = nI n ∧ n ≤ 12 ∧ (∀ k, k < n → m (29 + 4 * k) = nI (idn k) ∧ idn k < 1048576) ∧ (∀ k, k < n → m (29 + 4 * k + 1) = oi ((pr k).map idn)) ∧ (∀ k j, k < n → pr k = some j → j < k) ∧ (∀ j k, j < k → k < n → idn j < idn k) ∧ ∀ k, k < n → m (29 + 4 * k + 2) = nI (tn k) ∧ tn k ≤ 9
theorem FoR.par {m : Nat → Int32} {n : Nat} {idn : Nat → Nat} {pr : Nat → Option Nat} {tn : Nat → Nat} (h : FoR m n idn pr tn) {k j : Nat} (hk : k < n) (hp : pr k = some j) : j < n := by
  have := h.2.2.2.2.1 k j hk hp
  omega
theorem FoR.find {m : Nat → Int32} {n : Nat} {idn : Nat → Nat} {pr : Nat → Option Nat} {tn : Nat → Nat} (h : FoR m n idn pr tn) {j : Nat} (hj : j < n) : fnd (fun k => m (29 + 4 * k)) (nI (idn j)) n = some j := by
  obtain ⟨-, -, h3, -, -, h6, -⟩ := h
  cases hf : fnd (fun k => m (29 + 4 * k)) (nI (idn j)) n with
  | none => exact absurd (h3 j hj).1 (fnd_none hf j hj)
  | some i =>
    obtain ⟨hi, he, -⟩ := fnd_some hf
    have e1 : nI (idn i) = nI (idn j) := by rw [← (h3 i hi).1]; exact he
    have e2 := (nI_eq (by have := (h3 i hi).2; omega) (by have := (h3 j hj).2; omega)).mp e1
    have : i = j := by
      rcases Nat.lt_or_ge i j with q | q
      · have := h6 i j q hj; omega
      · rcases Nat.lt_or_ge j i with q2 | q2
        · have := h6 j i q2 hi; omega
        · omega
    rw [this]
theorem FoR.findPar {m : Nat → Int32} {n : Nat} {idn : Nat → Nat} {pr : Nat → Option Nat} {tn : Nat → Nat} (h : FoR m n idn pr tn) {k i : Nat} (hk : k < n) (hp : (pr k).map idn = some i) : fnd (fun k => m (29 + 4 * k)) (oi ((pr k).map idn)) n = pr k := by
  cases hq : pr k with
  | none => rw [hq] at hp; cases hp
  | some j =>
    show fnd _ (nI (idn j)) n = some j
    exact h.find (h.par hk hq)
/-- how deep a motion lies -/
def dpf (pr : Nat → Option Nat) : Nat → Nat → Nat
  | 0, _ => 0
  | f + 1, k => match pr k with
    | none => 0
    | some j => dpf pr f j + 1
def dep (pr : Nat → Option Nat) (k : Nat) : Nat := dpf pr k k
def ParOk (pr : Nat → Option Nat) (n : Nat) : Prop := ∀ k j, k < n → pr k = some j → j < k
theorem FoR.ok {m : Nat → Int32} {n : Nat} {idn : Nat → Nat} {pr : Nat → Option Nat} {tn : Nat → Nat} (h : FoR m n idn pr tn) : ParOk pr n := h.2.2.2.2.1
theorem dpf_fuel {pr : Nat → Option Nat} {n : Nat} (h : ParOk pr n) : ∀ f k, k < n → k ≤ f → dpf pr f k = dpf pr k k := by
  intro f
  induction f using Nat.strongRecOn with
  | _ f ih =>
    intro k hk hf
    cases f with
    | zero => have : k = 0 := by omega
              subst this; rfl
    | succ f =>
      cases k with
      | zero =>
        unfold dpf
        cases hp : pr 0 with
        | none => rfl
        | some j => have := h 0 j hk hp; omega
      | succ k =>
        unfold dpf
        cases hp : pr (k + 1) with
        | none => rfl
        | some j =>
          have hj := h _ j hk hp
          dsimp only
          rw [ih f (by omega) j (by omega) (by omega)]
          rcases Nat.lt_or_ge k (f + 1) with q | q
          · rw [ih k q j (by omega) (by omega)]
          · omega
theorem dep_some {pr : Nat → Option Nat} {n k j : Nat} (h : ParOk pr n) (hk : k < n) (hp : pr k = some j) : dep pr k = dep pr j + 1 := by
  have hj := h k j hk hp
  cases k with
  | zero => omega
  | succ k =>
    unfold dep
    rw [show dpf pr (k + 1) (k + 1) = dpf pr k j + 1 by rw [dpf, hp]]
    rw [dpf_fuel h k j (by omega) (by omega)]
theorem dep_none {pr : Nat → Option Nat} {k : Nat} (hp : pr k = none) : dep pr k = 0 := by
  unfold dep
  cases k with
  | zero => rfl
  | succ k => rw [dpf, hp]
def depO (pr : Nat → Option Nat) : Option Nat → Nat
  | none => 0
  | some j => dep pr j + 1
theorem dep_O {pr : Nat → Option Nat} {n k : Nat} (h : ParOk pr n) (hk : k < n) : dep pr k = depO pr (pr k) := by
  cases hp : pr k with
  | none => exact dep_none hp
  | some j => exact dep_some h hk hp
theorem dep_le {pr : Nat → Option Nat} {n : Nat} (h : ParOk pr n) : ∀ k, k < n → dep pr k ≤ k := by
  intro k
  induction k using Nat.strongRecOn with
  | _ k ih =>
    intro hk
    cases hp : pr k with
    | none => rw [dep_none hp]; omega
    | some j =>
      have hj := h k j hk hp
      rw [dep_some h hk hp]
      have := ih j hj (by omega)
      omega
/-- whether k lies in the branch of r -/
def anf (pr : Nat → Option Nat) (r : Nat) : Nat → Nat → Bool
  | 0, k => k == r
  | f + 1, k => k == r || match pr k with
    | none => false
    | some j => anf pr r f j
def anc (pr : Nat → Option Nat) (r k : Nat) : Bool := anf pr r k k
theorem anf_fuel {pr : Nat → Option Nat} {n r : Nat} (h : ParOk pr n) : ∀ f k, k < n → k ≤ f → anf pr r f k = anf pr r k k := by
  intro f
  induction f using Nat.strongRecOn with
  | _ f ih =>
    intro k hk hf
    cases f with
    | zero => have : k = 0 := by omega
              subst this; rfl
    | succ f =>
      cases k with
      | zero =>
        unfold anf
        cases hp : pr 0 with
        | none => simp
        | some j => have := h 0 j hk hp; omega
      | succ k =>
        unfold anf
        cases hp : pr (k + 1) with
        | none => rfl
        | some j =>
          have hj := h _ j hk hp
          dsimp only
          rw [ih f (by omega) j (by omega) (by omega)]
          rcases Nat.lt_or_ge k (f + 1) with q | q
          · rw [ih k q j (by omega) (by omega)]
          · omega
def ancO (pr : Nat → Option Nat) (r : Nat) : Option Nat → Bool
  | none => false
  | some j => anc pr r j
theorem anc_self (pr : Nat → Option Nat) (r : Nat) : anc pr r r = true := by
  unfold anc
  cases r <;> simp [anf]
theorem anc_O {pr : Nat → Option Nat} {n k r : Nat} (h : ParOk pr n) (hk : k < n) (hr : k ≠ r) : anc pr r k = ancO pr r (pr k) := by
  unfold anc
  cases k with
  | zero =>
    cases hp : pr 0 with
    | none => simp [anf, ancO, hr]
    | some j => have := h 0 j hk hp; omega
  | succ k =>
    rw [anf, show (k + 1 == r) = false by simp [hr], Bool.false_or]
    cases hp : pr (k + 1) with
    | none => simp [ancO, hr]
    | some j =>
      have hj := h _ j hk hp
      simp only [ancO, anc]
      rw [anf_fuel h k j (by omega) (by omega)]
/-- whether p has no child before i -/
def tipB (pr : Nat → Option Nat) (p : Nat) : Nat → Bool
  | 0 => true
  | i + 1 => tipB pr p i && !(pr i == some p)
/-- the last tip of the branch of r before i -/
def ltp (pr : Nat → Option Nat) (n r : Nat) : Nat → Option Nat
  | 0 => none
  | k + 1 => if anc pr r k && tipB pr k n then some k else ltp pr n r k
theorem ltp_lt {pr : Nat → Option Nat} {n r : Nat} : ∀ {i k}, ltp pr n r i = some k → k < i := by
  intro i
  induction i with
  | zero => intro k h; cases h
  | succ i ih =>
    intro k h
    unfold ltp at h
    split at h
    · cases h; omega
    · have := ih h; omega
theorem FoR.pid {m : Nat → Int32} {n : Nat} {idn : Nat → Nat} {pr : Nat → Option Nat} {tn : Nat → Nat} (h : FoR m n idn pr tn) {k : Nat} (hk : k < n) : ∀ j, (pr k).map idn = some j → j < 2 ^ 31 := by
  intro j hj
  cases hq : pr k with
  | none => rw [hq] at hj; cases hj
  | some i =>
    rw [hq] at hj
    cases hj
    have := (h.2.2.1 i (h.par hk hq)).2
    omega
theorem FoR.plim {m : Nat → Int32} {n : Nat} {idn : Nat → Nat} {pr : Nat → Option Nat} {tn : Nat → Nat} (h : FoR m n idn pr tn) {k : Nat} (hk : k < n) : ∀ j, pr k = some j → j < 2 ^ 31 := by
  intro j hj
  have := h.par hk hj
  have := h.2.1
  omega

def oM : Option Nat → Nat
  | none => 0
  | some j => j + 1
theorem oM_lt {pr : Nat → Option Nat} {n j : Nat} (h : ParOk pr n) (hj : j < n) : oM (pr j) < oM (some j) := by
  cases hp : pr j with
  | none => simp [oM]
  | some i => have := h j i hj hp; simp [oM]; omega
theorem nI_m1 {q : Nat} (hq : q < 2 ^ 31) (h : (-1 : Int32) = nI q) : False := by
  have h1 : (nI q).toInt = (-1 : Int32).toInt := by rw [← h]
  rw [nI_toInt hq] at h1
  have h2 : (-1 : Int32).toInt = -1 := by decide
  omega
theorem oi_nI {o : Option Nat} {q : Nat} (ho : ∀ j, o = some j → j < 2 ^ 31) (hq : q < 2 ^ 31) : oi o = nI q ↔ o = some q := by
  cases o with
  | none => exact ⟨fun h => (nI_m1 hq h).elim, fun h => by cases h⟩
  | some j => exact ⟨fun h => by rw [(nI_eq (ho j rfl) hq).mp h], fun h => by cases h; rfl⟩
section ON
variable {p : Program} {l : Launch} {e : Env} {R : Room} {s : State} {m : MethodId} {args : Array Value} {below : List Frame} {meth : Method} {c : Code} {H : Heap} {locs : List Loc} {cells slots : Nat} {Q : State → Prop} {cc : ByteArray} {pc : Nat} {ls : Array Slot} {rest : List Value}
theorem r_on_eq (hx : p.tables.exec = Jvm.exec) (hb : c.code = cc) {o : Option Nat} {q : Nat} (ho : ∀ j, o = some j → j < 2 ^ 31) (hq : q < 2 ^ 31) {off : Int} {tgt : Nat} (hdg : decode cc pc = .ok (.if_icmp .eq off, 3)) (ht : (pc : Int) + off = (tgt : Int)) (kt : o = some q → W p l e R s m args below meth c H locs cells slots Q (F0 m tgt ls rest)) (kf : o ≠ some q → W p l e R s m args below meth c H locs cells slots Q (F0 m (pc + 3) ls rest)) : W p l e R s m args below meth c H locs cells slots Q (F0 m pc ls (.int (nI q) :: .int (oi o) :: rest)) :=
  lv_icmp_eq hx hb hdg ht (fun h => kt ((oi_nI ho hq).mp h)) (fun h => kf (fun z => h ((oi_nI ho hq).mpr z)))
theorem r_on_ne (hx : p.tables.exec = Jvm.exec) (hb : c.code = cc) {o : Option Nat} {q : Nat} (ho : ∀ j, o = some j → j < 2 ^ 31) (hq : q < 2 ^ 31) {off : Int} {tgt : Nat} (hdg : decode cc pc = .ok (.if_icmp .ne off, 3)) (ht : (pc : Int) + off = (tgt : Int)) (kt : o ≠ some q → W p l e R s m args below meth c H locs cells slots Q (F0 m tgt ls rest)) (kf : o = some q → W p l e R s m args below meth c H locs cells slots Q (F0 m (pc + 3) ls rest)) : W p l e R s m args below meth c H locs cells slots Q (F0 m pc ls (.int (nI q) :: .int (oi o) :: rest)) :=
  lv_icmp_ne hx hb hdg ht (fun h => kt (fun z => h ((oi_nI ho hq).mpr z))) (fun h => kf ((oi_nI ho hq).mp h))
end ON
/-- how far two numbers lie apart -/
def dif (a b : Nat) : Nat := a - b + (b - a)
theorem dif_abs {a b : Nat} (ha : a < 1024) (hb : b < 1024) : (if 0 ≤ nI a - nI b then nI a - nI b else 0 - (nI a - nI b)) = nI (dif a b) := by
  have e := pk_sub_toInt (a := a) (b := b) (by omega) (by omega)
  have h0 : (0 : Int32).toInt = 0 := by decide
  have hd : (nI (dif a b)).toInt = (dif a b : Int) := nI_toInt (by unfold dif; omega)
  apply Int32.toInt_inj.mp
  rw [hd]
  split
  · rename_i h
    have h1 : (0 : Int32).toInt ≤ (nI a - nI b).toInt := Int32.le_iff_toInt_le.mp h
    rw [h0] at h1
    rw [e] at h1 ⊢
    unfold dif; omega
  · rename_i h
    have h1 : ¬ (0 : Int32).toInt ≤ (nI a - nI b).toInt := fun q => h (Int32.le_iff_toInt_le.mpr q)
    rw [h0, e] at h1
    rw [Int32.toInt_sub, h0, e]
    unfold dif
    rw [show (0 : Int) - ((a : Int) - b) = ((a - b + (b - a) : Nat) : Int) by omega]
    exact Int.bmod_eq_of_le (by omega) (by omega)
/-- the hedges that the reference's row holds -/
def HeR (m : Nat → Int32) (h : Nat) (lv th ta : Nat → Nat) : Prop :=
  m 0 = nI h ∧ h ≤ 6 ∧ (∀ i, i < h → m (11 + 3 * i) = nI (lv i) ∧ 1 ≤ lv i ∧ lv i ≤ 99) ∧ (∀ i, i < h → m (11 + 3 * i + 1) = nI (th i) ∧ th i ≤ 9) ∧ ∀ i, i < h → m (11 + 3 * i + 2) = nI (ta i) ∧ ta i ≤ 9
/-- the leaves in favour of a tone, of the first hedges -/
def fav (lv ta : Nat → Nat) (t : Nat) : Nat → Nat
  | 0 => 0
  | i + 1 => fav lv ta t i + if dif (ta i) t ≤ 3 then lv i else 0
def sml (lv : Nat → Nat) : Nat → Nat
  | 0 => 0
  | i + 1 => sml lv i + lv i
theorem in_f1 {v lo hi : Int64} (h : lg_cmp v lo < 0) : nI 0 = bI (decide (lo ≤ v ∧ v ≤ hi)) := by
  have h1 : ¬ lo ≤ v := by
    intro q
    unfold lg_cmp at h
    split at h
    · exact absurd h (by decide)
    · split at h
      · exact absurd h (by decide)
      · rename_i h1 h2
        exact h1 (Int64.lt_of_le_of_ne q (fun z => h2 z.symm))
  simp [h1, bI]; rfl
theorem in_f2 {v lo hi : Int64} (h : 0 < lg_cmp v hi) : nI 0 = bI (decide (lo ≤ v ∧ v ≤ hi)) := by
  have h1 : ¬ v ≤ hi := by
    intro q
    unfold lg_cmp at h
    split at h
    · rename_i h1
      exact absurd q (Int64.not_le.mpr h1)
    · split at h
      · exact absurd h (by decide)
      · exact absurd h (by decide)
  simp [h1, bI]; rfl
theorem in_t {v lo hi : Int64} (h1 : ¬ lg_cmp v lo < 0) (h2 : ¬ 0 < lg_cmp v hi) : nI 1 = bI (decide (lo ≤ v ∧ v ≤ hi)) := by
  have e1 : lo ≤ v := by
    apply Decidable.byContradiction
    intro q
    apply h1
    have q1 : v < lo := Int64.not_le.mp q
    unfold lg_cmp
    rw [if_neg (fun z => absurd (Int64.le_of_lt z) q), if_neg (fun z => by rw [z] at q1; exact Int64.lt_irrefl q1)]
    decide
  have e2 : v ≤ hi := by
    apply Decidable.byContradiction
    intro q
    apply h2
    unfold lg_cmp
    rw [if_pos (Int64.not_le.mp q)]
    decide
  simp [e1, e2, bI]; rfl

def rgB (lo hi : Int64) (x : Int32) : Bool := decide (lo ≤ x.toInt64 ∧ x.toInt64 ≤ hi)
theorem sr_sr (S : MSt) (i : Nat) (f g : Nat → Int32) : sr (sr S i f) i g = sr S i g := by
  funext r; unfold sr; split <;> rfl
theorem sr_self (S : MSt) (i : Nat) : sr S i (S i) = S := by
  funext r; unfold sr; split
  · rename_i h; rw [h]
  · rfl
/-- the row behind an added hedge -/
def hedgeF (m : Nat → Int32) (h : Nat) (x y z : Int32) : Nat → Int32 := fun j => if j = 0 then nI (h + 1) else if j = 11 + 3 * h + 2 then z else if j = 11 + 3 * h + 1 then y else if j = 11 + 3 * h then x else m j
/-- the row behind an added motion -/
def addF (m : Nat → Int32) (n : Nat) (p x w : Int32) : Nat → Int32 := fun j => if j = 1 then m 1 + nI 1 else if j = 2 then nI (n + 1) else if j = 29 + 4 * n + 3 then w else if j = 29 + 4 * n + 2 then x else if j = 29 + 4 * n + 1 then p else if j = 29 + 4 * n then m 1 else m j
/-- the row behind a motion taken out, with its count as it was -/
def drpF (m : Nat → Int32) (k i : Nat) : Nat → Int32 := fun j => if 29 + 4 * k ≤ j ∧ j < i then m (j + 4) else m j
def drzF (m : Nat → Int32) (k i : Nat) : Nat → Int32 := fun j => if 73 ≤ j ∧ j < i then 0 else drpF m k 73 j
def dropF (m : Nat → Int32) (k n : Nat) : Nat → Int32 := fun j => if j = 2 then nI (n - 1) else drzF m k 77 j
theorem drpF_0 (m : Nat → Int32) (k : Nat) : drpF m k (29 + 4 * k) = m := by
  funext j; unfold drpF; rw [if_neg (by omega)]
theorem drpF_1 (m : Nat → Int32) (k i : Nat) (h : 29 + 4 * k ≤ i) : upd (drpF m k i) i (drpF m k i (i + 4)) = drpF m k (i + 1) := by
  funext j; unfold upd drpF
  by_cases h1 : j = i
  · subst h1; rw [if_pos rfl, if_neg (by omega), if_pos (by omega)]
  · rw [if_neg h1]
    by_cases h2 : 29 + 4 * k ≤ j ∧ j < i
    · rw [if_pos h2, if_pos (by omega)]
    · rw [if_neg h2, if_neg (by omega)]
theorem drzF_0 (m : Nat → Int32) (k : Nat) : drzF m k 73 = drpF m k 73 := by
  funext j; unfold drzF; rw [if_neg (by omega)]
theorem drzF_1 (m : Nat → Int32) (k i : Nat) (h : 73 ≤ i) : upd (drzF m k i) i (nI 0) = drzF m k (i + 1) := by
  funext j; unfold upd drzF
  by_cases h1 : j = i
  · subst h1; rw [if_pos rfl, if_pos (by omega)]; rfl
  · rw [if_neg h1]
    by_cases h2 : 73 ≤ j ∧ j < i
    · rw [if_pos h2, if_pos (by omega)]
    · rw [if_neg h2, if_neg (by omega)]
/-- the first n places of f, the rest of g -/
def cpyF (g f : Nat → Int32) (n : Nat) : Nat → Int32 := fun j => if j < n then f j else g j
theorem cpyF_0 (g f : Nat → Int32) : cpyF g f 0 = g := by funext j; simp [cpyF]
theorem cpyF_1 (g f : Nat → Int32) (i : Nat) : upd (cpyF g f i) i (f i) = cpyF g f (i + 1) := by
  funext j; unfold upd cpyF
  by_cases h1 : j = i
  · subst h1; rw [if_pos rfl, if_pos (by omega)]
  · rw [if_neg h1]
    by_cases h2 : j < i
    · rw [if_pos h2, if_pos (by omega)]
    · rw [if_neg h2, if_neg (by omega)]

section IFN
variable {p : Program} {l : Launch} {e : Env} {R : Room} {s : State} {m : MethodId} {args : Array Value} {below : List Frame} {meth : Method} {c : Code} {H : Heap} {locs : List Loc} {cells slots : Nat} {Q : State → Prop} {cc : ByteArray} {pc : Nat} {ls : Array Slot} {rest : List Value}
theorem nI_le0 {a : Nat} (ha : a < 2 ^ 31) : nI a ≤ 0 ↔ a = 0 := by
  rw [← nI_0, nI_leI ha (by decide)]; omega
theorem nI_lt0 {a : Nat} (ha : a < 2 ^ 31) : 0 < nI a ↔ 0 < a := by
  rw [← nI_0, nI_ltI (by decide) ha]
theorem nI_e0 {a : Nat} (ha : a < 2 ^ 31) : nI a = 0 ↔ a = 0 := by
  rw [← nI_0, nI_eq ha (by decide)]
theorem r_ifleN (hx : p.tables.exec = Jvm.exec) (hb : c.code = cc) {a : Nat} (ha : a < 2 ^ 31) {off : Int} {tgt : Nat} (hdg : decode cc pc = .ok (.ifCond .le off, 3)) (ht : (pc : Int) + off = (tgt : Int)) (kt : a = 0 → W p l e R s m args below meth c H locs cells slots Q (F0 m tgt ls rest)) (kf : 0 < a → W p l e R s m args below meth c H locs cells slots Q (F0 m (pc + 3) ls rest)) : W p l e R s m args below meth c H locs cells slots Q (F0 m pc ls (.int (nI a) :: rest)) :=
  lv_if_le hx hb hdg ht (fun h => kt ((nI_le0 ha).mp h)) (fun h => kf (Nat.pos_of_ne_zero (fun z => h ((nI_le0 ha).mpr z))))
theorem r_ifgtN (hx : p.tables.exec = Jvm.exec) (hb : c.code = cc) {a : Nat} (ha : a < 2 ^ 31) {off : Int} {tgt : Nat} (hdg : decode cc pc = .ok (.ifCond .gt off, 3)) (ht : (pc : Int) + off = (tgt : Int)) (kt : 0 < a → W p l e R s m args below meth c H locs cells slots Q (F0 m tgt ls rest)) (kf : a = 0 → W p l e R s m args below meth c H locs cells slots Q (F0 m (pc + 3) ls rest)) : W p l e R s m args below meth c H locs cells slots Q (F0 m pc ls (.int (nI a) :: rest)) :=
  lv_if_gt hx hb hdg ht (fun h => kt ((nI_lt0 ha).mp h)) (fun h => kf (Nat.eq_zero_of_not_pos (fun z => h ((nI_lt0 ha).mpr z))))
theorem r_ifeqN (hx : p.tables.exec = Jvm.exec) (hb : c.code = cc) {a : Nat} (ha : a < 2 ^ 31) {off : Int} {tgt : Nat} (hdg : decode cc pc = .ok (.ifCond .eq off, 3)) (ht : (pc : Int) + off = (tgt : Int)) (kt : a = 0 → W p l e R s m args below meth c H locs cells slots Q (F0 m tgt ls rest)) (kf : a ≠ 0 → W p l e R s m args below meth c H locs cells slots Q (F0 m (pc + 3) ls rest)) : W p l e R s m args below meth c H locs cells slots Q (F0 m pc ls (.int (nI a) :: rest)) :=
  lv_if_eq hx hb hdg ht (fun h => kt ((nI_e0 ha).mp h)) (fun h => kf (fun z => h ((nI_e0 ha).mpr z)))
theorem r_ifneN (hx : p.tables.exec = Jvm.exec) (hb : c.code = cc) {a : Nat} (ha : a < 2 ^ 31) {off : Int} {tgt : Nat} (hdg : decode cc pc = .ok (.ifCond .ne off, 3)) (ht : (pc : Int) + off = (tgt : Int)) (kt : a ≠ 0 → W p l e R s m args below meth c H locs cells slots Q (F0 m tgt ls rest)) (kf : a = 0 → W p l e R s m args below meth c H locs cells slots Q (F0 m (pc + 3) ls rest)) : W p l e R s m args below meth c H locs cells slots Q (F0 m pc ls (.int (nI a) :: rest)) :=
  lv_if_ne hx hb hdg ht (fun h => kt (fun z => h ((nI_e0 ha).mpr z))) (fun h => kf ((nI_e0 ha).mp h))
end IFN
/-- whether a hedge vetoes: its difference, its thorns -/
def vetB (d t : Nat) : Bool := decide (7 ≤ d ∧ 0 < t)
def shF (f : Nat → Int32) (i : Nat) : Nat → Int32 := fun j => if j < i then f (j + 77) else f j
theorem shF_0 (f : Nat → Int32) : shF f 0 = f := by funext j; simp [shF]
theorem shF_1 (f : Nat → Int32) (i : Nat) : upd (shF f i) i (shF f i (i + 77)) = shF f (i + 1) := by
  funext j; unfold upd shF
  by_cases h1 : j = i
  · subst h1; rw [if_pos rfl, if_neg (by omega), if_pos (by omega)]
  · rw [if_neg h1]
    by_cases h2 : j < i
    · rw [if_pos h2, if_pos (by omega)]
    · rw [if_neg h2, if_neg (by omega)]
def putF (f g : Nat → Int32) (b i : Nat) : Nat → Int32 := fun j => if b ≤ j ∧ j < b + i then g (j - b) else f j
theorem putF_0 (f g : Nat → Int32) (b : Nat) : putF f g b 0 = f := by
  funext j; unfold putF; rw [if_neg (by omega)]
theorem putF_1 (f g : Nat → Int32) (b i : Nat) : upd (putF f g b i) (b + i) (g i) = putF f g b (i + 1) := by
  funext j; unfold upd putF
  by_cases h1 : j = b + i
  · subst h1; rw [if_pos rfl, if_pos (by omega), Nat.add_sub_cancel_left]
  · rw [if_neg h1]
    by_cases h2 : b ≤ j ∧ j < b + i
    · rw [if_pos h2, if_pos (by omega)]
    · rw [if_neg h2, if_neg (by omega)]
/-- the row of the past behind a change -/
def pstF (f g : Nat → Int32) (ch : Nat) : Nat → Int32 := putF (if ch = 8 then shF f 539 else f) g (77 * (min ch 7)) 77
theorem sr_ss (S : MSt) (i k : Nat) (f : Nat → Int32) (x : Int32) (h : i ≠ 13) : sr (ss S k x) i f = ss (sr S i f) k x := by
  funext r; unfold ss sr
  by_cases h1 : r = i
  · subst h1; simp [h]
  · by_cases h2 : r = 13
    · subst h2; simp [h1, Ne.symm h]
    · simp [h1, h2]
theorem ss_ss (S : MSt) (k : Nat) (x y : Int32) : ss (ss S k x) k y = ss S k y := by
  funext r j; unfold ss sr upd
  by_cases h : r = 13
  · subst h; simp; split <;> rfl
  · simp [h]
theorem ss_n (S : MSt) (k i : Nat) (x : Int32) (h : i ≠ 13) : ss S k x i = S i := by simp [ss, sr, h]
theorem ss_s (S : MSt) (k : Nat) (x : Int32) : ss S k x 13 k = x := by simp [ss, sr, upd]
theorem ss_o (S : MSt) (k j : Nat) (x : Int32) (h : j ≠ k) : ss S k x 13 j = S 13 j := by simp [ss, sr, upd, h]
end
section
theorem gT_of : GoodIn gw (wsV RX10 67 RX10 yX10_of (Cond.code yX10_of cX10_of 3 (some .int) :: gw)) := gdV gw_1749 gw_1751 gw_29 gw_81 gw_1752
theorem hd_of : yX10_of.cls = RX10 ∧ yX10_of.cls ≠ "java/lang/invoke/MethodHandle" ∧ yX10_of.cls ≠ "java/lang/invoke/VarHandle" ∧ (parseMethodDescriptor yX10_of.desc).map (fun d => d.parameters.length) = some 2 := ⟨rfl, by decide +kernel, by decide +kernel, by decide +kernel⟩
theorem dX10_of_0 : decode cX10_of 0 = .ok (.aload_n 0, 1) := by decide +kernel
theorem dX10_of_1 : decode cX10_of 1 = .ok (.getfield 9, 3) := by decide +kernel
theorem dX10_of_4 : decode cX10_of 4 = .ok (.bipush 29, 2) := by decide +kernel
theorem dX10_of_6 : decode cX10_of 6 = .ok (.iconst 4, 1) := by decide +kernel
theorem dX10_of_7 : decode cX10_of 7 = .ok (.iload_n 1, 1) := by decide +kernel
theorem dX10_of_8 : decode cX10_of 8 = .ok (.imul, 1) := by decide +kernel
theorem dX10_of_9 : decode cX10_of 9 = .ok (.iadd, 1) := by decide +kernel
theorem dX10_of_10 : decode cX10_of 10 = .ok (.iload_n 2, 1) := by decide +kernel
theorem dX10_of_11 : decode cX10_of 11 = .ok (.iadd, 1) := by decide +kernel
theorem dX10_of_12 : decode cX10_of 12 = .ok (.iaload, 1) := by decide +kernel
theorem dX10_of_13 : decode cX10_of 13 = .ok (.ireturn, 1) := by decide +kernel
set_option maxHeartbeats 1000000 in
set_option maxRecDepth 20000 in
theorem m_of (l : Launch) (D : va_G) (aT : Nat → ClassId) (ad : Nat → Nat) (S : MSt) (k w : Nat) (h : 29 + 4 * k + w < 77) : MdG l yX10_of cX10_of 3 .int 0 0 D aT ad [.ref (ad 0), .int (nI k), .int (nI w)] S (fun r => r = S 0 (29 + 4 * k + w)) := by
  refine MdI.of (by decide +kernel) rfl (Nat.le_of_ble_eq_true rfl) ?_
  intro p e s m below meth c A ls C hml hl hA hr hlocks hW
  have hl : lv_has ls 3 [(0, .ref (ad 0)), (1, .int (nI k)), (2, .int (nI w))] := hl
  have hx := C.1
  have hb := C.2.1
  refine lv_aload_n hx hb dX10_of_0 rfl (lv_at hl 0 rfl) ?_
  refine md_geta_m C hW dX10_of_1 ?_
  refine lv_bipush (v := nI 29) hx hb dX10_of_4 (by decide) ?_
  refine lv_iconst (v := nI 4) hx hb dX10_of_6 (by decide) ?_
  refine lv_iload_n hx hb dX10_of_7 rfl (lv_at hl 1 rfl) ?_
  refine r_imulN hx hb (a := 4) (b := k) dX10_of_8 ?_
  refine r_iaddN hx hb (a := 29) (b := 4 * k) dX10_of_9 ?_
  refine lv_iload_n hx hb dX10_of_10 rfl (lv_at hl 2 rfl) ?_
  refine r_iaddN hx hb (a := 29 + 4 * k) (b := w) dX10_of_11 ?_
  refine md_ald_m C hW (i := 29 + 4 * k + w) (h) dX10_of_12 ?_
  exact md_iret C hr hlocks rfl hW (⟨rfl, rfl⟩) dX10_of_13
theorem gT_find : GoodIn gw (wsV RX10 71 RX10 yX10_find (Cond.code yX10_find cX10_find 3 (some .int) :: gw)) := gdV gw_1745 gw_1747 gw_28 gw_81 gw_1748
theorem hd_find : yX10_find.cls = RX10 ∧ yX10_find.cls ≠ "java/lang/invoke/MethodHandle" ∧ yX10_find.cls ≠ "java/lang/invoke/VarHandle" ∧ (parseMethodDescriptor yX10_find.desc).map (fun d => d.parameters.length) = some 1 := ⟨rfl, by decide +kernel, by decide +kernel, by decide +kernel⟩
theorem dX10_find_0 : decode cX10_find 0 = .ok (.iconst 0, 1) := by decide +kernel
theorem dX10_find_1 : decode cX10_find 1 = .ok (.istore_n 2, 1) := by decide +kernel
theorem dX10_find_2 : decode cX10_find 2 = .ok (.iload_n 2, 1) := by decide +kernel
theorem dX10_find_3 : decode cX10_find 3 = .ok (.aload_n 0, 1) := by decide +kernel
theorem dX10_find_4 : decode cX10_find 4 = .ok (.getfield 9, 3) := by decide +kernel
theorem dX10_find_7 : decode cX10_find 7 = .ok (.iconst 2, 1) := by decide +kernel
theorem dX10_find_8 : decode cX10_find 8 = .ok (.iaload, 1) := by decide +kernel
theorem dX10_find_9 : decode cX10_find 9 = .ok (.if_icmp .ge 21, 3) := by decide +kernel
theorem dX10_find_12 : decode cX10_find 12 = .ok (.aload_n 0, 1) := by decide +kernel
theorem dX10_find_13 : decode cX10_find 13 = .ok (.iload_n 2, 1) := by decide +kernel
theorem dX10_find_14 : decode cX10_find 14 = .ok (.iconst 0, 1) := by decide +kernel
theorem dX10_find_15 : decode cX10_find 15 = .ok (.invokevirtual 67, 3) := by decide +kernel
theorem dX10_find_18 : decode cX10_find 18 = .ok (.iload_n 1, 1) := by decide +kernel
theorem dX10_find_19 : decode cX10_find 19 = .ok (.if_icmp .ne 5, 3) := by decide +kernel
theorem dX10_find_22 : decode cX10_find 22 = .ok (.iload_n 2, 1) := by decide +kernel
theorem dX10_find_23 : decode cX10_find 23 = .ok (.ireturn, 1) := by decide +kernel
theorem dX10_find_24 : decode cX10_find 24 = .ok (.iinc 2 1, 3) := by decide +kernel
theorem dX10_find_27 : decode cX10_find 27 = .ok (.goto (-25), 3) := by decide +kernel
theorem dX10_find_30 : decode cX10_find 30 = .ok (.iconst (-1), 1) := by decide +kernel
theorem dX10_find_31 : decode cX10_find 31 = .ok (.ireturn, 1) := by decide +kernel
set_option maxHeartbeats 1000000 in
set_option maxRecDepth 20000 in
theorem m_find (l : Launch) (D : va_G) (aT : Nat → ClassId) (ad : Nat → Nat) (S : MSt) (x : Int32) (n : Nat) (hn : S 0 2 = nI n) (h12 : n ≤ 12) : MdG l yX10_find cX10_find 3 .int 1 22 D aT ad [.ref (ad 0), .int x] S (fun r => r = oi (fnd (fun k => S 0 (29 + 4 * k)) x n)) := by
  refine MdI.of (by decide +kernel) rfl (Nat.le_of_ble_eq_true rfl) ?_
  intro p e s m below meth c A ls C hml hl hA hr hlocks hW
  have hl : lv_has ls 3 [(0, .ref (ad 0)), (1, .int x)] := hl
  have hx := C.1
  have hb := C.2.1
  refine lv_iconst (v := nI 0) hx hb dX10_find_0 (by decide) ?_
  refine lv_istore_n (lv' := [(2, .int (nI 0)), (0, .ref (ad 0)), (1, .int x)]) hx hb dX10_find_1 rfl hl (by decide) rfl (fun ls hl => ?_)
  refine W_loopH (σ := Nat) (fun z_ => n - z_) (fun z_ H locs g => ∃ ls, g = F0 m 2 ls [] ∧ lv_has ls 3 [(0, .ref (ad 0)), (1, .int x), (2, .int (nI z_))] ∧ MdB D aT ad S A s.heap H locs ∧ (fnd (fun k => S 0 (29 + 4 * k)) x z_ = none ∧ z_ ≤ n)) ?_ 0 _ ⟨_, rfl, lv_sub hl [1, 2, 0] rfl, hW, ⟨rfl, Nat.zero_le _⟩⟩
  clear hW hl
  rintro k H locs g ⟨ls, rfl, hl, hW, hk, hkn⟩ ih
  refine lv_iload_n hx hb dX10_find_2 rfl (lv_at hl 2 rfl) ?_
  refine lv_aload_n hx hb dX10_find_3 rfl (lv_at hl 0 rfl) ?_
  refine md_geta_m C hW dX10_find_4 ?_
  refine lv_iconst (v := nI 2) hx hb dX10_find_7 (by decide) ?_
  refine md_ald_m C hW (i := 2) (by omega) dX10_find_8 ?_
  refine r_eq (y := (nI n)) (hn) ?_
  refine r_geN hx hb (a := k) (b := n) (by omega) (by omega) (tgt := 30) dX10_find_9 (by decide) (fun c_9 => ?_) (fun c_9 => ?_)
  · refine lv_iconst (v := (-1)) hx hb dX10_find_30 (by decide) ?_
    exact md_iret C hr hlocks rfl hW (⟨by rw [show n = k by omega, hk]; rfl, rfl⟩) dX10_find_31
  · refine lv_aload_n hx hb dX10_find_12 rfl (lv_at hl 0 rfl) ?_
    refine lv_iload_n hx hb dX10_find_13 rfl (lv_at hl 2 rfl) ?_
    refine lv_iconst (v := nI 0) hx hb dX10_find_14 (by decide) ?_
    refine md_callg C hml hl.1 (As := [.int (nI k), .int (nI 0)]) (rest := []) (m_of l D aT ad S k 0 (by omega)) gT_of hd_of rfl ⟨Nat.le_of_ble_eq_true rfl, Nat.le_of_ble_eq_true rfl⟩ ⟨Nat.le_refl _, Nat.le_refl _⟩ hW hA rfl (Nat.le_of_ble_eq_true rfl) dX10_find_15 (fun r_15 H locs hq hW => ?_)
    subst hq
    refine lv_iload_n hx hb dX10_find_18 rfl (lv_at hl 1 rfl) ?_
    refine lv_icmp_ne hx hb (x := (S 0 (29 + 4 * k + 0))) (y := x) (tgt := 24) dX10_find_19 (by decide) (fun c_19 => ?_) (fun c_19 => ?_)
    · refine lv_iinc (v := (nI (k + 1))) (lv' := [(2, .int (nI (k + 1))), (0, .ref (ad 0)), (1, .int x)]) hx hb dX10_find_24 hl (k := 2) rfl (nI_1 _) (by decide) rfl (fun ls hl => ?_)
      refine lv_goto (tgt := 2) hx hb dX10_find_27 (by decide) ?_
      exact ih (k + 1) _ _ _ (by omega) ⟨_, rfl, lv_sub hl [1, 2, 0] rfl, hW, ⟨fnd_step hk c_19, by omega⟩⟩
    · refine lv_iload_n hx hb dX10_find_22 rfl (lv_at hl 2 rfl) ?_
      exact md_iret C hr hlocks rfl hW (⟨by rw [fnd_hit hk c_19 (show k < n by omega)]; rfl, rfl⟩) dX10_find_23
theorem gT_above : GoodIn gw (wsV RX10 75 RX10 yX10_above (Cond.code yX10_above cX10_above 2 (some .int) :: gw)) := gdV gw_1765 gw_1767 gw_32 gw_81 gw_1768
theorem hd_above : yX10_above.cls = RX10 ∧ yX10_above.cls ≠ "java/lang/invoke/MethodHandle" ∧ yX10_above.cls ≠ "java/lang/invoke/VarHandle" ∧ (parseMethodDescriptor yX10_above.desc).map (fun d => d.parameters.length) = some 1 := ⟨rfl, by decide +kernel, by decide +kernel, by decide +kernel⟩
theorem dX10_above_0 : decode cX10_above 0 = .ok (.aload_n 0, 1) := by decide +kernel
theorem dX10_above_1 : decode cX10_above 1 = .ok (.iload_n 1, 1) := by decide +kernel
theorem dX10_above_2 : decode cX10_above 2 = .ok (.iconst 1, 1) := by decide +kernel
theorem dX10_above_3 : decode cX10_above 3 = .ok (.invokevirtual 67, 3) := by decide +kernel
theorem dX10_above_6 : decode cX10_above 6 = .ok (.iconst (-1), 1) := by decide +kernel
theorem dX10_above_7 : decode cX10_above 7 = .ok (.if_icmp .ne 7, 3) := by decide +kernel
theorem dX10_above_10 : decode cX10_above 10 = .ok (.iconst (-1), 1) := by decide +kernel
theorem dX10_above_11 : decode cX10_above 11 = .ok (.goto 13, 3) := by decide +kernel
theorem dX10_above_14 : decode cX10_above 14 = .ok (.aload_n 0, 1) := by decide +kernel
theorem dX10_above_15 : decode cX10_above 15 = .ok (.aload_n 0, 1) := by decide +kernel
theorem dX10_above_16 : decode cX10_above 16 = .ok (.iload_n 1, 1) := by decide +kernel
theorem dX10_above_17 : decode cX10_above 17 = .ok (.iconst 1, 1) := by decide +kernel
theorem dX10_above_18 : decode cX10_above 18 = .ok (.invokevirtual 67, 3) := by decide +kernel
theorem dX10_above_21 : decode cX10_above 21 = .ok (.invokevirtual 71, 3) := by decide +kernel
theorem dX10_above_24 : decode cX10_above 24 = .ok (.ireturn, 1) := by decide +kernel
set_option maxHeartbeats 1000000 in
set_option maxRecDepth 20000 in
theorem m_above (l : Launch) (D : va_G) (aT : Nat → ClassId) (ad : Nat → Nat) (S : MSt) (n : Nat) (idn : Nat → Nat) (pr : Nat → Option Nat) (tn : Nat → Nat) (hF : FoR (S 0) n idn pr tn) (k : Nat) (hk : k < n) : MdG l yX10_above cX10_above 2 .int 2 44 D aT ad [.ref (ad 0), .int (nI k)] S (fun r => r = oi (pr k)) := by
  refine MdI.of (by decide +kernel) rfl (Nat.le_of_ble_eq_true rfl) ?_
  intro p e s m below meth c A ls C hml hl hA hr hlocks hW
  have hl : lv_has ls 2 [(0, .ref (ad 0)), (1, .int (nI k))] := hl
  have hx := C.1
  have hb := C.2.1
  refine lv_aload_n hx hb dX10_above_0 rfl (lv_at hl 0 rfl) ?_
  refine lv_iload_n hx hb dX10_above_1 rfl (lv_at hl 1 rfl) ?_
  refine lv_iconst (v := nI 1) hx hb dX10_above_2 (by decide) ?_
  refine md_callg C hml hl.1 (As := [.int (nI k), .int (nI 1)]) (rest := []) (m_of l D aT ad S k 1 (by have := hF.2.1; omega)) gT_of hd_of rfl ⟨Nat.le_of_ble_eq_true rfl, Nat.le_of_ble_eq_true rfl⟩ ⟨Nat.le_refl _, Nat.le_refl _⟩ hW hA rfl (Nat.le_of_ble_eq_true rfl) dX10_above_3 (fun r_3 H locs hq hW => ?_)
  subst hq
  refine r_eq (y := (oi ((pr k).map idn))) (hF.2.2.2.1 k hk) ?_
  refine lv_iconst (v := (-1)) hx hb dX10_above_6 (by decide) ?_
  refine r_oi_ne hx hb (o := ((pr k).map idn)) (hF.pid hk) (tgt := 14) dX10_above_7 (by decide) (fun j_7 c_7 => ?_) (fun c_7 => ?_)
  · refine lv_aload_n hx hb dX10_above_14 rfl (lv_at hl 0 rfl) ?_
    refine lv_aload_n hx hb dX10_above_15 rfl (lv_at hl 0 rfl) ?_
    refine lv_iload_n hx hb dX10_above_16 rfl (lv_at hl 1 rfl) ?_
    refine lv_iconst (v := nI 1) hx hb dX10_above_17 (by decide) ?_
    refine md_callg C hml hl.1 (As := [.int (nI k), .int (nI 1)]) (rest := [.ref (ad 0)]) (m_of l D aT ad S k 1 (by have := hF.2.1; omega)) gT_of hd_of rfl ⟨Nat.le_of_ble_eq_true rfl, Nat.le_of_ble_eq_true rfl⟩ ⟨Nat.le_refl _, Nat.le_refl _⟩ hW hA rfl (Nat.le_of_ble_eq_true rfl) dX10_above_18 (fun r_18 H locs hq hW => ?_)
    subst hq
    refine r_eq (y := (oi ((pr k).map idn))) (hF.2.2.2.1 k hk) ?_
    refine md_callg C hml hl.1 (As := [.int (oi ((pr k).map idn))]) (rest := []) (m_find l D aT ad S ((oi ((pr k).map idn))) n hF.1 hF.2.1) gT_find hd_find rfl ⟨Nat.le_of_ble_eq_true rfl, Nat.le_of_ble_eq_true rfl⟩ ⟨Nat.le_refl _, Nat.le_refl _⟩ hW hA rfl (Nat.le_of_ble_eq_true rfl) dX10_above_21 (fun r_21 H locs hq hW => ?_)
    subst hq
    exact md_iret C hr hlocks rfl hW (⟨by rw [hF.findPar hk c_7], rfl⟩) dX10_above_24
  · refine lv_iconst (v := (-1)) hx hb dX10_above_10 (by decide) ?_
    refine lv_goto (tgt := 24) hx hb dX10_above_11 (by decide) ?_
    exact md_iret C hr hlocks rfl hW (⟨by rw [show pr k = none by simpa using c_7]; rfl, rfl⟩) dX10_above_24
theorem gT_deep : GoodIn gw (wsV RX10 125 RX10 yX10_deep (Cond.code yX10_deep cX10_deep 4 (some .int) :: gw)) := gdV gw_1761 gw_1763 gw_31 gw_81 gw_1764
theorem hd_deep : yX10_deep.cls = RX10 ∧ yX10_deep.cls ≠ "java/lang/invoke/MethodHandle" ∧ yX10_deep.cls ≠ "java/lang/invoke/VarHandle" ∧ (parseMethodDescriptor yX10_deep.desc).map (fun d => d.parameters.length) = some 1 := ⟨rfl, by decide +kernel, by decide +kernel, by decide +kernel⟩
theorem dX10_deep_0 : decode cX10_deep 0 = .ok (.iconst 0, 1) := by decide +kernel
theorem dX10_deep_1 : decode cX10_deep 1 = .ok (.istore_n 2, 1) := by decide +kernel
theorem dX10_deep_2 : decode cX10_deep 2 = .ok (.aload_n 0, 1) := by decide +kernel
theorem dX10_deep_3 : decode cX10_deep 3 = .ok (.iload_n 1, 1) := by decide +kernel
theorem dX10_deep_4 : decode cX10_deep 4 = .ok (.invokevirtual 75, 3) := by decide +kernel
theorem dX10_deep_7 : decode cX10_deep 7 = .ok (.istore_n 3, 1) := by decide +kernel
theorem dX10_deep_8 : decode cX10_deep 8 = .ok (.iload_n 3, 1) := by decide +kernel
theorem dX10_deep_9 : decode cX10_deep 9 = .ok (.iconst (-1), 1) := by decide +kernel
theorem dX10_deep_10 : decode cX10_deep 10 = .ok (.if_icmp .eq 15, 3) := by decide +kernel
theorem dX10_deep_13 : decode cX10_deep 13 = .ok (.aload_n 0, 1) := by decide +kernel
theorem dX10_deep_14 : decode cX10_deep 14 = .ok (.iload_n 3, 1) := by decide +kernel
theorem dX10_deep_15 : decode cX10_deep 15 = .ok (.invokevirtual 75, 3) := by decide +kernel
theorem dX10_deep_18 : decode cX10_deep 18 = .ok (.istore_n 3, 1) := by decide +kernel
theorem dX10_deep_19 : decode cX10_deep 19 = .ok (.iinc 2 1, 3) := by decide +kernel
theorem dX10_deep_22 : decode cX10_deep 22 = .ok (.goto (-14), 3) := by decide +kernel
theorem dX10_deep_25 : decode cX10_deep 25 = .ok (.iload_n 2, 1) := by decide +kernel
theorem dX10_deep_26 : decode cX10_deep 26 = .ok (.ireturn, 1) := by decide +kernel
set_option maxHeartbeats 1000000 in
set_option maxRecDepth 20000 in
theorem m_deep (l : Launch) (D : va_G) (aT : Nat → ClassId) (ad : Nat → Nat) (S : MSt) (n : Nat) (idn : Nat → Nat) (pr : Nat → Option Nat) (tn : Nat → Nat) (hF : FoR (S 0) n idn pr tn) (k : Nat) (hk : k < n) : MdG l yX10_deep cX10_deep 4 .int 3 65 D aT ad [.ref (ad 0), .int (nI k)] S (fun r => r = nI (dep pr k)) := by
  refine MdI.of (by decide +kernel) rfl (Nat.le_of_ble_eq_true rfl) ?_
  intro p e s m below meth c A ls C hml hl hA hr hlocks hW
  have hl : lv_has ls 4 [(0, .ref (ad 0)), (1, .int (nI k))] := hl
  have hx := C.1
  have hb := C.2.1
  refine lv_iconst (v := nI 0) hx hb dX10_deep_0 (by decide) ?_
  refine lv_istore_n (lv' := [(2, .int (nI 0)), (0, .ref (ad 0)), (1, .int (nI k))]) hx hb dX10_deep_1 rfl hl (by decide) rfl (fun ls hl => ?_)
  refine lv_aload_n hx hb dX10_deep_2 rfl (lv_at hl 1 rfl) ?_
  refine lv_iload_n hx hb dX10_deep_3 rfl (lv_at hl 2 rfl) ?_
  refine md_callg C hml hl.1 (As := [.int (nI k)]) (rest := []) (m_above l D aT ad S n idn pr tn hF k (hk)) gT_above hd_above rfl ⟨Nat.le_of_ble_eq_true rfl, Nat.le_of_ble_eq_true rfl⟩ ⟨Nat.le_refl _, Nat.le_refl _⟩ hW hA rfl (Nat.le_of_ble_eq_true rfl) dX10_deep_4 (fun r_4 H locs hq hW => ?_)
  subst hq
  refine lv_istore_n (lv' := [(3, .int (oi (pr k))), (2, .int (nI 0)), (0, .ref (ad 0)), (1, .int (nI k))]) hx hb dX10_deep_7 rfl hl (by decide) rfl (fun ls hl => ?_)
  refine W_loopH (σ := Nat × Option Nat) (fun z_ => oM z_.2) (fun z_ H locs g => ∃ ls, g = F0 m 8 ls [] ∧ lv_has ls 4 [(0, .ref (ad 0)), (1, .int (nI k)), (2, .int (nI z_.1)), (3, .int (oi z_.2))] ∧ MdB D aT ad S A s.heap H locs ∧ (z_.1 + depO pr z_.2 = dep pr k ∧ ∀ j, z_.2 = some j → j < n)) ?_ (0, (pr k)) _ ⟨_, rfl, lv_sub hl [2, 3, 1, 0] rfl, hW, ⟨by rw [Nat.zero_add, dep_O hF.ok hk], fun j hj => hF.par hk hj⟩⟩
  clear hW hl
  rintro ⟨c0, o⟩ H locs g ⟨ls, rfl, hl, hW, hc, hlim⟩ ih
  dsimp only at hl hW hc hlim ⊢
  refine lv_iload_n hx hb dX10_deep_8 rfl (lv_at hl 3 rfl) ?_
  refine lv_iconst (v := (-1)) hx hb dX10_deep_9 (by decide) ?_
  refine r_oi_eq hx hb (o := o) (fun j hj => by have := hlim j hj; have := hF.2.1; omega) (tgt := 25) dX10_deep_10 (by decide) (fun c_10 => ?_) (fun j_10 c_10 => ?_)
  · subst c_10
    have hl : lv_has ls 4 [(0, .ref (ad 0)), (1, .int (nI k)), (2, .int (nI c0)), (3, .int (-1))] := hl
    refine lv_iload_n hx hb dX10_deep_25 rfl (lv_at hl 2 rfl) ?_
    exact md_iret C hr hlocks rfl hW (⟨by rw [← hc]; rfl, rfl⟩) dX10_deep_26
  · subst c_10
    have hl : lv_has ls 4 [(0, .ref (ad 0)), (1, .int (nI k)), (2, .int (nI c0)), (3, .int (nI j_10))] := hl
    refine lv_aload_n hx hb dX10_deep_13 rfl (lv_at hl 0 rfl) ?_
    refine lv_iload_n hx hb dX10_deep_14 rfl (lv_at hl 3 rfl) ?_
    refine md_callg C hml hl.1 (As := [.int (nI j_10)]) (rest := []) (m_above l D aT ad S n idn pr tn hF j_10 (hlim _ rfl)) gT_above hd_above rfl ⟨Nat.le_of_ble_eq_true rfl, Nat.le_of_ble_eq_true rfl⟩ ⟨Nat.le_refl _, Nat.le_refl _⟩ hW hA rfl (Nat.le_of_ble_eq_true rfl) dX10_deep_15 (fun r_15 H locs hq hW => ?_)
    subst hq
    refine lv_istore_n (lv' := [(3, .int (oi (pr j_10))), (0, .ref (ad 0)), (1, .int (nI k)), (2, .int (nI c0))]) hx hb dX10_deep_18 rfl hl (by decide) rfl (fun ls hl => ?_)
    refine lv_iinc (v := (nI (c0 + 1))) (lv' := [(2, .int (nI (c0 + 1))), (3, .int (oi (pr j_10))), (0, .ref (ad 0)), (1, .int (nI k))]) hx hb dX10_deep_19 hl (k := 3) rfl (nI_1 _) (by decide) rfl (fun ls hl => ?_)
    refine lv_goto (tgt := 8) hx hb dX10_deep_22 (by decide) ?_
    exact ih ((c0 + 1), (pr j_10)) _ _ _ (oM_lt hF.ok (hlim _ rfl)) ⟨_, rfl, lv_sub hl [2, 3, 0, 1] rfl, hW, ⟨by rw [← hc, ← dep_O hF.ok (hlim _ rfl)]; simp only [depO]; omega, fun j hj => hF.par (hlim _ rfl) hj⟩⟩
theorem gT_isTipAt : GoodIn gw (wsV RX10 82 RX10 yX10_isTipAt (Cond.code yX10_isTipAt cX10_isTipAt 4 (some .boolean) :: gw)) := gdV gw_1789 gw_1791 gw_37 gw_81 gw_1792
theorem hd_isTipAt : yX10_isTipAt.cls = RX10 ∧ yX10_isTipAt.cls ≠ "java/lang/invoke/MethodHandle" ∧ yX10_isTipAt.cls ≠ "java/lang/invoke/VarHandle" ∧ (parseMethodDescriptor yX10_isTipAt.desc).map (fun d => d.parameters.length) = some 1 := ⟨rfl, by decide +kernel, by decide +kernel, by decide +kernel⟩
theorem dX10_isTipAt_0 : decode cX10_isTipAt 0 = .ok (.iconst 1, 1) := by decide +kernel
theorem dX10_isTipAt_1 : decode cX10_isTipAt 1 = .ok (.istore_n 2, 1) := by decide +kernel
theorem dX10_isTipAt_2 : decode cX10_isTipAt 2 = .ok (.iconst 0, 1) := by decide +kernel
theorem dX10_isTipAt_3 : decode cX10_isTipAt 3 = .ok (.istore_n 3, 1) := by decide +kernel
theorem dX10_isTipAt_4 : decode cX10_isTipAt 4 = .ok (.iload_n 3, 1) := by decide +kernel
theorem dX10_isTipAt_5 : decode cX10_isTipAt 5 = .ok (.aload_n 0, 1) := by decide +kernel
theorem dX10_isTipAt_6 : decode cX10_isTipAt 6 = .ok (.getfield 9, 3) := by decide +kernel
theorem dX10_isTipAt_9 : decode cX10_isTipAt 9 = .ok (.iconst 2, 1) := by decide +kernel
theorem dX10_isTipAt_10 : decode cX10_isTipAt 10 = .ok (.iaload, 1) := by decide +kernel
theorem dX10_isTipAt_11 : decode cX10_isTipAt 11 = .ok (.if_icmp .ge 28, 3) := by decide +kernel
theorem dX10_isTipAt_14 : decode cX10_isTipAt 14 = .ok (.iload_n 2, 1) := by decide +kernel
theorem dX10_isTipAt_15 : decode cX10_isTipAt 15 = .ok (.ifCond .eq 16, 3) := by decide +kernel
theorem dX10_isTipAt_18 : decode cX10_isTipAt 18 = .ok (.aload_n 0, 1) := by decide +kernel
theorem dX10_isTipAt_19 : decode cX10_isTipAt 19 = .ok (.iload_n 3, 1) := by decide +kernel
theorem dX10_isTipAt_20 : decode cX10_isTipAt 20 = .ok (.invokevirtual 75, 3) := by decide +kernel
theorem dX10_isTipAt_23 : decode cX10_isTipAt 23 = .ok (.iload_n 1, 1) := by decide +kernel
theorem dX10_isTipAt_24 : decode cX10_isTipAt 24 = .ok (.if_icmp .eq 7, 3) := by decide +kernel
theorem dX10_isTipAt_27 : decode cX10_isTipAt 27 = .ok (.iconst 1, 1) := by decide +kernel
theorem dX10_isTipAt_28 : decode cX10_isTipAt 28 = .ok (.goto 4, 3) := by decide +kernel
theorem dX10_isTipAt_31 : decode cX10_isTipAt 31 = .ok (.iconst 0, 1) := by decide +kernel
theorem dX10_isTipAt_32 : decode cX10_isTipAt 32 = .ok (.istore_n 2, 1) := by decide +kernel
theorem dX10_isTipAt_33 : decode cX10_isTipAt 33 = .ok (.iinc 3 1, 3) := by decide +kernel
theorem dX10_isTipAt_36 : decode cX10_isTipAt 36 = .ok (.goto (-32), 3) := by decide +kernel
theorem dX10_isTipAt_39 : decode cX10_isTipAt 39 = .ok (.iload_n 2, 1) := by decide +kernel
theorem dX10_isTipAt_40 : decode cX10_isTipAt 40 = .ok (.ireturn, 1) := by decide +kernel
set_option maxHeartbeats 1000000 in
set_option maxRecDepth 20000 in
theorem m_isTipAt (l : Launch) (D : va_G) (aT : Nat → ClassId) (ad : Nat → Nat) (S : MSt) (n : Nat) (idn : Nat → Nat) (pr : Nat → Option Nat) (tn : Nat → Nat) (hF : FoR (S 0) n idn pr tn) (q : Nat) (hq12 : q < n) : MdG l yX10_isTipAt cX10_isTipAt 4 .boolean 3 65 D aT ad [.ref (ad 0), .int (nI q)] S (fun r => r = bI (tipB pr q n)) := by
  refine MdI.of (by decide +kernel) rfl (Nat.le_of_ble_eq_true rfl) ?_
  intro p e s m below meth c A ls C hml hl hA hr hlocks hW
  have hl : lv_has ls 4 [(0, .ref (ad 0)), (1, .int (nI q))] := hl
  have hx := C.1
  have hb := C.2.1
  refine lv_iconst (v := nI 1) hx hb dX10_isTipAt_0 (by decide) ?_
  refine lv_istore_n (lv' := [(2, .int (nI 1)), (0, .ref (ad 0)), (1, .int (nI q))]) hx hb dX10_isTipAt_1 rfl hl (by decide) rfl (fun ls hl => ?_)
  refine lv_iconst (v := nI 0) hx hb dX10_isTipAt_2 (by decide) ?_
  refine lv_istore_n (lv' := [(3, .int (nI 0)), (2, .int (nI 1)), (0, .ref (ad 0)), (1, .int (nI q))]) hx hb dX10_isTipAt_3 rfl hl (by decide) rfl (fun ls hl => ?_)
  refine W_loopH (σ := Bool × Nat) (fun z_ => n - z_.2) (fun z_ H locs g => ∃ ls, g = F0 m 4 ls [] ∧ lv_has ls 4 [(0, .ref (ad 0)), (1, .int (nI q)), (2, .int (bI z_.1)), (3, .int (nI z_.2))] ∧ MdB D aT ad S A s.heap H locs ∧ (z_.1 = tipB pr q z_.2 ∧ z_.2 ≤ n)) ?_ (true, 0) _ ⟨_, rfl, lv_sub hl [2, 3, 1, 0] rfl, hW, ⟨rfl, Nat.zero_le _⟩⟩
  clear hW hl
  rintro ⟨b, k⟩ H locs g ⟨ls, rfl, hl, hW, hi, hkn⟩ ih
  dsimp only at hl hW hi hkn ⊢
  refine lv_iload_n hx hb dX10_isTipAt_4 rfl (lv_at hl 3 rfl) ?_
  refine lv_aload_n hx hb dX10_isTipAt_5 rfl (lv_at hl 0 rfl) ?_
  refine md_geta_m C hW dX10_isTipAt_6 ?_
  refine lv_iconst (v := nI 2) hx hb dX10_isTipAt_9 (by decide) ?_
  refine md_ald_m C hW (i := 2) (by omega) dX10_isTipAt_10 ?_
  refine r_eq (y := (nI n)) (hF.1) ?_
  refine r_geN hx hb (a := k) (b := n) (by have := hF.2.1; omega) (by have := hF.2.1; omega) (tgt := 39) dX10_isTipAt_11 (by decide) (fun c_11 => ?_) (fun c_11 => ?_)
  · refine lv_iload_n hx hb dX10_isTipAt_39 rfl (lv_at hl 2 rfl) ?_
    exact md_iret C hr hlocks (bI_nar _) hW (⟨by rw [show n = k by omega, hi], rfl⟩) dX10_isTipAt_40
  · refine lv_iload_n hx hb dX10_isTipAt_14 rfl (lv_at hl 2 rfl) ?_
    refine r_bI_eq hx hb (b := b) (tgt := 31) dX10_isTipAt_15 (by decide) (fun c_15 => ?_) (fun c_15 => ?_)
    · refine lv_iconst (v := nI 0) hx hb dX10_isTipAt_31 (by decide) ?_
      refine lv_istore_n (lv' := [(2, .int (nI 0)), (0, .ref (ad 0)), (1, .int (nI q)), (3, .int (nI k))]) hx hb dX10_isTipAt_32 rfl hl (by decide) rfl (fun ls hl => ?_)
      refine lv_iinc (v := (nI (k + 1))) (lv' := [(3, .int (nI (k + 1))), (2, .int (nI 0)), (0, .ref (ad 0)), (1, .int (nI q))]) hx hb dX10_isTipAt_33 hl (k := 3) rfl (nI_1 _) (by decide) rfl (fun ls hl => ?_)
      refine lv_goto (tgt := 4) hx hb dX10_isTipAt_36 (by decide) ?_
      exact ih (false, (k + 1)) _ _ _ (by dsimp only; omega) ⟨_, rfl, lv_sub hl [2, 3, 1, 0] rfl, hW, ⟨by rw [tipB, ← hi, c_15]; rfl, by omega⟩⟩
    · refine lv_aload_n hx hb dX10_isTipAt_18 rfl (lv_at hl 0 rfl) ?_
      refine lv_iload_n hx hb dX10_isTipAt_19 rfl (lv_at hl 3 rfl) ?_
      refine md_callg C hml hl.1 (As := [.int (nI k)]) (rest := []) (m_above l D aT ad S n idn pr tn hF k (by omega)) gT_above hd_above rfl ⟨Nat.le_of_ble_eq_true rfl, Nat.le_of_ble_eq_true rfl⟩ ⟨Nat.le_refl _, Nat.le_refl _⟩ hW hA rfl (Nat.le_of_ble_eq_true rfl) dX10_isTipAt_20 (fun r_20 H locs hq hW => ?_)
      subst hq
      refine lv_iload_n hx hb dX10_isTipAt_23 rfl (lv_at hl 1 rfl) ?_
      refine r_on_eq hx hb (o := (pr k)) (q := q) (hF.plim (by omega)) (by have := hF.2.1; omega) (tgt := 31) dX10_isTipAt_24 (by decide) (fun c_24 => ?_) (fun c_24 => ?_)
      · refine lv_iconst (v := nI 0) hx hb dX10_isTipAt_31 (by decide) ?_
        refine lv_istore_n (lv' := [(2, .int (nI 0)), (0, .ref (ad 0)), (1, .int (nI q)), (3, .int (nI k))]) hx hb dX10_isTipAt_32 rfl hl (by decide) rfl (fun ls hl => ?_)
        refine lv_iinc (v := (nI (k + 1))) (lv' := [(3, .int (nI (k + 1))), (2, .int (nI 0)), (0, .ref (ad 0)), (1, .int (nI q))]) hx hb dX10_isTipAt_33 hl (k := 3) rfl (nI_1 _) (by decide) rfl (fun ls hl => ?_)
        refine lv_goto (tgt := 4) hx hb dX10_isTipAt_36 (by decide) ?_
        exact ih (false, (k + 1)) _ _ _ (by dsimp only; omega) ⟨_, rfl, lv_sub hl [2, 3, 1, 0] rfl, hW, ⟨by rw [tipB, c_24]; simp, by omega⟩⟩
      · refine lv_iconst (v := nI 1) hx hb dX10_isTipAt_27 (by decide) ?_
        refine lv_goto (tgt := 32) hx hb dX10_isTipAt_28 (by decide) ?_
        refine lv_istore_n (lv' := [(2, .int (nI 1)), (0, .ref (ad 0)), (1, .int (nI q)), (3, .int (nI k))]) hx hb dX10_isTipAt_32 rfl hl (by decide) rfl (fun ls hl => ?_)
        refine lv_iinc (v := (nI (k + 1))) (lv' := [(3, .int (nI (k + 1))), (2, .int (nI 1)), (0, .ref (ad 0)), (1, .int (nI q))]) hx hb dX10_isTipAt_33 hl (k := 3) rfl (nI_1 _) (by decide) rfl (fun ls hl => ?_)
        refine lv_goto (tgt := 4) hx hb dX10_isTipAt_36 (by decide) ?_
        exact ih (true, (k + 1)) _ _ _ (by dsimp only; omega) ⟨_, rfl, lv_sub hl [2, 3, 1, 0] rfl, hW, ⟨by rw [tipB, ← hi, c_15]; simp [c_24], by omega⟩⟩
theorem gT_isIn : GoodIn gw (wsV RX10 78 RX10 yX10_isIn (Cond.code yX10_isIn cX10_isIn 4 (some .boolean) :: gw)) := gdV gw_1769 gw_1771 gw_33 gw_81 gw_1772
theorem hd_isIn : yX10_isIn.cls = RX10 ∧ yX10_isIn.cls ≠ "java/lang/invoke/MethodHandle" ∧ yX10_isIn.cls ≠ "java/lang/invoke/VarHandle" ∧ (parseMethodDescriptor yX10_isIn.desc).map (fun d => d.parameters.length) = some 2 := ⟨rfl, by decide +kernel, by decide +kernel, by decide +kernel⟩
theorem dX10_isIn_0 : decode cX10_isIn 0 = .ok (.iload_n 1, 1) := by decide +kernel
theorem dX10_isIn_1 : decode cX10_isIn 1 = .ok (.istore_n 3, 1) := by decide +kernel
theorem dX10_isIn_2 : decode cX10_isIn 2 = .ok (.iload_n 3, 1) := by decide +kernel
theorem dX10_isIn_3 : decode cX10_isIn 3 = .ok (.iconst (-1), 1) := by decide +kernel
theorem dX10_isIn_4 : decode cX10_isIn 4 = .ok (.if_icmp .eq 17, 3) := by decide +kernel
theorem dX10_isIn_7 : decode cX10_isIn 7 = .ok (.iload_n 3, 1) := by decide +kernel
theorem dX10_isIn_8 : decode cX10_isIn 8 = .ok (.iload_n 2, 1) := by decide +kernel
theorem dX10_isIn_9 : decode cX10_isIn 9 = .ok (.if_icmp .eq 12, 3) := by decide +kernel
theorem dX10_isIn_12 : decode cX10_isIn 12 = .ok (.aload_n 0, 1) := by decide +kernel
theorem dX10_isIn_13 : decode cX10_isIn 13 = .ok (.iload_n 3, 1) := by decide +kernel
theorem dX10_isIn_14 : decode cX10_isIn 14 = .ok (.invokevirtual 75, 3) := by decide +kernel
theorem dX10_isIn_17 : decode cX10_isIn 17 = .ok (.istore_n 3, 1) := by decide +kernel
theorem dX10_isIn_18 : decode cX10_isIn 18 = .ok (.goto (-16), 3) := by decide +kernel
theorem dX10_isIn_21 : decode cX10_isIn 21 = .ok (.iload_n 3, 1) := by decide +kernel
theorem dX10_isIn_22 : decode cX10_isIn 22 = .ok (.iload_n 2, 1) := by decide +kernel
theorem dX10_isIn_23 : decode cX10_isIn 23 = .ok (.if_icmp .ne 7, 3) := by decide +kernel
theorem dX10_isIn_26 : decode cX10_isIn 26 = .ok (.iconst 1, 1) := by decide +kernel
theorem dX10_isIn_27 : decode cX10_isIn 27 = .ok (.goto 4, 3) := by decide +kernel
theorem dX10_isIn_30 : decode cX10_isIn 30 = .ok (.iconst 0, 1) := by decide +kernel
theorem dX10_isIn_31 : decode cX10_isIn 31 = .ok (.ireturn, 1) := by decide +kernel
set_option maxHeartbeats 1000000 in
set_option maxRecDepth 20000 in
theorem m_isIn (l : Launch) (D : va_G) (aT : Nat → ClassId) (ad : Nat → Nat) (S : MSt) (n : Nat) (idn : Nat → Nat) (pr : Nat → Option Nat) (tn : Nat → Nat) (hF : FoR (S 0) n idn pr tn) (k r : Nat) (hk : k < n) (hr12 : r < n) : MdG l yX10_isIn cX10_isIn 4 .boolean 3 65 D aT ad [.ref (ad 0), .int (nI k), .int (nI r)] S (fun q => q = bI (anc pr r k)) := by
  refine MdI.of (by decide +kernel) rfl (Nat.le_of_ble_eq_true rfl) ?_
  intro p e s m below meth c A ls C hml hl hA hr hlocks hW
  have hl : lv_has ls 4 [(0, .ref (ad 0)), (1, .int (nI k)), (2, .int (nI r))] := hl
  have hx := C.1
  have hb := C.2.1
  refine lv_iload_n hx hb dX10_isIn_0 rfl (lv_at hl 1 rfl) ?_
  refine lv_istore_n (lv' := [(3, .int (nI k)), (0, .ref (ad 0)), (1, .int (nI k)), (2, .int (nI r))]) hx hb dX10_isIn_1 rfl hl (by decide) rfl (fun ls hl => ?_)
  refine W_loopH (σ := Option Nat) (fun z_ => oM z_) (fun z_ H locs g => ∃ ls, g = F0 m 2 ls [] ∧ lv_has ls 4 [(0, .ref (ad 0)), (1, .int (nI k)), (2, .int (nI r)), (3, .int (oi z_))] ∧ MdB D aT ad S A s.heap H locs ∧ (ancO pr r z_ = anc pr r k ∧ ∀ j, z_ = some j → j < n)) ?_ (some k) _ ⟨_, rfl, lv_sub hl [1, 2, 3, 0] rfl, hW, ⟨rfl, fun j hj => by cases hj; exact hk⟩⟩
  clear hW hl
  rintro o H locs g ⟨ls, rfl, hl, hW, hi, hlim⟩ ih
  refine lv_iload_n hx hb dX10_isIn_2 rfl (lv_at hl 3 rfl) ?_
  refine lv_iconst (v := (-1)) hx hb dX10_isIn_3 (by decide) ?_
  refine r_oi_eq hx hb (o := o) (fun j hj => by have := hlim j hj; have := hF.2.1; omega) (tgt := 21) dX10_isIn_4 (by decide) (fun c_4 => ?_) (fun j_4 c_4 => ?_)
  · subst c_4
    have hl : lv_has ls 4 [(0, .ref (ad 0)), (1, .int (nI k)), (2, .int (nI r)), (3, .int (-1))] := hl
    refine lv_iload_n hx hb dX10_isIn_21 rfl (lv_at hl 3 rfl) ?_
    refine lv_iload_n hx hb dX10_isIn_22 rfl (lv_at hl 2 rfl) ?_
    refine lv_icmp_ne hx hb (x := (-1)) (y := (nI r)) (tgt := 30) dX10_isIn_23 (by decide) (fun c_23 => ?_) (fun c_23 => ?_)
    · refine lv_iconst (v := nI 0) hx hb dX10_isIn_30 (by decide) ?_
      exact md_iret C hr hlocks (by decide) hW (⟨by rw [← hi]; rfl, rfl⟩) dX10_isIn_31
    · exact (nI_m1 (by have := hF.2.1; omega) c_23).elim
  · subst c_4
    have hl : lv_has ls 4 [(0, .ref (ad 0)), (1, .int (nI k)), (2, .int (nI r)), (3, .int (nI j_4))] := hl
    refine lv_iload_n hx hb dX10_isIn_7 rfl (lv_at hl 3 rfl) ?_
    refine lv_iload_n hx hb dX10_isIn_8 rfl (lv_at hl 2 rfl) ?_
    refine r_eqN hx hb (a := j_4) (b := r) (by have := hlim _ rfl; have := hF.2.1; omega) (by have := hlim _ rfl; have := hF.2.1; omega) (tgt := 21) dX10_isIn_9 (by decide) (fun c_9 => ?_) (fun c_9 => ?_)
    · have hlim9 := hlim _ rfl
      refine lv_iload_n hx hb dX10_isIn_21 rfl (lv_at hl 3 rfl) ?_
      refine lv_iload_n hx hb dX10_isIn_22 rfl (lv_at hl 2 rfl) ?_
      refine r_neN hx hb (a := j_4) (b := r) (by have := hF.2.1; omega) (by have := hF.2.1; omega) (tgt := 30) dX10_isIn_23 (by decide) (fun c_23 => ?_) (fun c_23 => ?_)
      · exact absurd c_9 c_23
      · refine lv_iconst (v := nI 1) hx hb dX10_isIn_26 (by decide) ?_
        refine lv_goto (tgt := 31) hx hb dX10_isIn_27 (by decide) ?_
        exact md_iret C hr hlocks (by decide) hW (⟨by rw [← hi, c_9]; simp [ancO, anc_self, bI]; rfl, rfl⟩) dX10_isIn_31
    · have hlim9 := hlim _ rfl
      refine lv_aload_n hx hb dX10_isIn_12 rfl (lv_at hl 0 rfl) ?_
      refine lv_iload_n hx hb dX10_isIn_13 rfl (lv_at hl 3 rfl) ?_
      refine md_callg C hml hl.1 (As := [.int (nI j_4)]) (rest := []) (m_above l D aT ad S n idn pr tn hF j_4 (hlim _ rfl)) gT_above hd_above rfl ⟨Nat.le_of_ble_eq_true rfl, Nat.le_of_ble_eq_true rfl⟩ ⟨Nat.le_refl _, Nat.le_refl _⟩ hW hA rfl (Nat.le_of_ble_eq_true rfl) dX10_isIn_14 (fun r_14 H locs hq hW => ?_)
      subst hq
      refine lv_istore_n (lv' := [(3, .int (oi (pr j_4))), (0, .ref (ad 0)), (1, .int (nI k)), (2, .int (nI r))]) hx hb dX10_isIn_17 rfl hl (by decide) rfl (fun ls hl => ?_)
      refine lv_goto (tgt := 2) hx hb dX10_isIn_18 (by decide) ?_
      exact ih (pr j_4) _ _ _ (oM_lt hF.ok (hlim _ rfl)) ⟨_, rfl, lv_sub hl [1, 2, 3, 0] rfl, hW, ⟨by rw [← hi]; exact (anc_O hF.ok (hlim _ rfl) c_9).symm, fun j hj => hF.par (hlim _ rfl) hj⟩⟩
theorem gT_lastTipAt : GoodIn gw (wsV RX10 135 RX10 yX10_lastTipAt (Cond.code yX10_lastTipAt cX10_lastTipAt 4 (some .int) :: gw)) := gdV gw_1785 gw_1787 gw_36 gw_81 gw_1788
theorem hd_lastTipAt : yX10_lastTipAt.cls = RX10 ∧ yX10_lastTipAt.cls ≠ "java/lang/invoke/MethodHandle" ∧ yX10_lastTipAt.cls ≠ "java/lang/invoke/VarHandle" ∧ (parseMethodDescriptor yX10_lastTipAt.desc).map (fun d => d.parameters.length) = some 1 := ⟨rfl, by decide +kernel, by decide +kernel, by decide +kernel⟩
theorem dX10_lastTipAt_0 : decode cX10_lastTipAt 0 = .ok (.iconst (-1), 1) := by decide +kernel
theorem dX10_lastTipAt_1 : decode cX10_lastTipAt 1 = .ok (.istore_n 2, 1) := by decide +kernel
theorem dX10_lastTipAt_2 : decode cX10_lastTipAt 2 = .ok (.iconst 0, 1) := by decide +kernel
theorem dX10_lastTipAt_3 : decode cX10_lastTipAt 3 = .ok (.istore_n 3, 1) := by decide +kernel
theorem dX10_lastTipAt_4 : decode cX10_lastTipAt 4 = .ok (.iload_n 3, 1) := by decide +kernel
theorem dX10_lastTipAt_5 : decode cX10_lastTipAt 5 = .ok (.aload_n 0, 1) := by decide +kernel
theorem dX10_lastTipAt_6 : decode cX10_lastTipAt 6 = .ok (.getfield 9, 3) := by decide +kernel
theorem dX10_lastTipAt_9 : decode cX10_lastTipAt 9 = .ok (.iconst 2, 1) := by decide +kernel
theorem dX10_lastTipAt_10 : decode cX10_lastTipAt 10 = .ok (.iaload, 1) := by decide +kernel
theorem dX10_lastTipAt_11 : decode cX10_lastTipAt 11 = .ok (.if_icmp .ge 32, 3) := by decide +kernel
theorem dX10_lastTipAt_14 : decode cX10_lastTipAt 14 = .ok (.aload_n 0, 1) := by decide +kernel
theorem dX10_lastTipAt_15 : decode cX10_lastTipAt 15 = .ok (.iload_n 3, 1) := by decide +kernel
theorem dX10_lastTipAt_16 : decode cX10_lastTipAt 16 = .ok (.iload_n 1, 1) := by decide +kernel
theorem dX10_lastTipAt_17 : decode cX10_lastTipAt 17 = .ok (.invokevirtual 78, 3) := by decide +kernel
theorem dX10_lastTipAt_20 : decode cX10_lastTipAt 20 = .ok (.ifCond .eq 15, 3) := by decide +kernel
theorem dX10_lastTipAt_23 : decode cX10_lastTipAt 23 = .ok (.aload_n 0, 1) := by decide +kernel
theorem dX10_lastTipAt_24 : decode cX10_lastTipAt 24 = .ok (.iload_n 3, 1) := by decide +kernel
theorem dX10_lastTipAt_25 : decode cX10_lastTipAt 25 = .ok (.invokevirtual 82, 3) := by decide +kernel
theorem dX10_lastTipAt_28 : decode cX10_lastTipAt 28 = .ok (.ifCond .eq 7, 3) := by decide +kernel
theorem dX10_lastTipAt_31 : decode cX10_lastTipAt 31 = .ok (.iload_n 3, 1) := by decide +kernel
theorem dX10_lastTipAt_32 : decode cX10_lastTipAt 32 = .ok (.goto 4, 3) := by decide +kernel
theorem dX10_lastTipAt_35 : decode cX10_lastTipAt 35 = .ok (.iload_n 2, 1) := by decide +kernel
theorem dX10_lastTipAt_36 : decode cX10_lastTipAt 36 = .ok (.istore_n 2, 1) := by decide +kernel
theorem dX10_lastTipAt_37 : decode cX10_lastTipAt 37 = .ok (.iinc 3 1, 3) := by decide +kernel
theorem dX10_lastTipAt_40 : decode cX10_lastTipAt 40 = .ok (.goto (-36), 3) := by decide +kernel
theorem dX10_lastTipAt_43 : decode cX10_lastTipAt 43 = .ok (.iload_n 2, 1) := by decide +kernel
theorem dX10_lastTipAt_44 : decode cX10_lastTipAt 44 = .ok (.ireturn, 1) := by decide +kernel
set_option maxHeartbeats 1000000 in
set_option maxRecDepth 20000 in
theorem m_lastTipAt (l : Launch) (D : va_G) (aT : Nat → ClassId) (ad : Nat → Nat) (S : MSt) (n : Nat) (idn : Nat → Nat) (pr : Nat → Option Nat) (tn : Nat → Nat) (hF : FoR (S 0) n idn pr tn) (r : Nat) (hr12 : r < n) : MdG l yX10_lastTipAt cX10_lastTipAt 4 .int 4 88 D aT ad [.ref (ad 0), .int (nI r)] S (fun q => q = oi (ltp pr n r n)) := by
  refine MdI.of (by decide +kernel) rfl (Nat.le_of_ble_eq_true rfl) ?_
  intro p e s m below meth c A ls C hml hl hA hr hlocks hW
  have hl : lv_has ls 4 [(0, .ref (ad 0)), (1, .int (nI r))] := hl
  have hx := C.1
  have hb := C.2.1
  refine lv_iconst (v := (-1)) hx hb dX10_lastTipAt_0 (by decide) ?_
  refine lv_istore_n (lv' := [(2, .int (-1)), (0, .ref (ad 0)), (1, .int (nI r))]) hx hb dX10_lastTipAt_1 rfl hl (by decide) rfl (fun ls hl => ?_)
  refine lv_iconst (v := nI 0) hx hb dX10_lastTipAt_2 (by decide) ?_
  refine lv_istore_n (lv' := [(3, .int (nI 0)), (2, .int (-1)), (0, .ref (ad 0)), (1, .int (nI r))]) hx hb dX10_lastTipAt_3 rfl hl (by decide) rfl (fun ls hl => ?_)
  refine W_loopH (σ := Option Nat × Nat) (fun z_ => n - z_.2) (fun z_ H locs g => ∃ ls, g = F0 m 4 ls [] ∧ lv_has ls 4 [(0, .ref (ad 0)), (1, .int (nI r)), (2, .int (oi z_.1)), (3, .int (nI z_.2))] ∧ MdB D aT ad S A s.heap H locs ∧ (z_.1 = ltp pr n r z_.2 ∧ z_.2 ≤ n)) ?_ (none, 0) _ ⟨_, rfl, lv_sub hl [2, 3, 1, 0] rfl, hW, ⟨rfl, Nat.zero_le _⟩⟩
  clear hW hl
  rintro ⟨f, k⟩ H locs g ⟨ls, rfl, hl, hW, hi, hkn⟩ ih
  dsimp only at hl hW hi hkn ⊢
  refine lv_iload_n hx hb dX10_lastTipAt_4 rfl (lv_at hl 3 rfl) ?_
  refine lv_aload_n hx hb dX10_lastTipAt_5 rfl (lv_at hl 0 rfl) ?_
  refine md_geta_m C hW dX10_lastTipAt_6 ?_
  refine lv_iconst (v := nI 2) hx hb dX10_lastTipAt_9 (by decide) ?_
  refine md_ald_m C hW (i := 2) (by omega) dX10_lastTipAt_10 ?_
  refine r_eq (y := (nI n)) (hF.1) ?_
  refine r_geN hx hb (a := k) (b := n) (by have := hF.2.1; omega) (by have := hF.2.1; omega) (tgt := 43) dX10_lastTipAt_11 (by decide) (fun c_11 => ?_) (fun c_11 => ?_)
  · refine lv_iload_n hx hb dX10_lastTipAt_43 rfl (lv_at hl 2 rfl) ?_
    exact md_iret C hr hlocks rfl hW (⟨by rw [hi, show k = n by omega], rfl⟩) dX10_lastTipAt_44
  · refine lv_aload_n hx hb dX10_lastTipAt_14 rfl (lv_at hl 0 rfl) ?_
    refine lv_iload_n hx hb dX10_lastTipAt_15 rfl (lv_at hl 3 rfl) ?_
    refine lv_iload_n hx hb dX10_lastTipAt_16 rfl (lv_at hl 1 rfl) ?_
    refine md_callg C hml hl.1 (As := [.int (nI k), .int (nI r)]) (rest := []) (m_isIn l D aT ad S n idn pr tn hF k r (by omega) (by omega)) gT_isIn hd_isIn rfl ⟨Nat.le_of_ble_eq_true rfl, Nat.le_of_ble_eq_true rfl⟩ ⟨Nat.le_refl _, Nat.le_refl _⟩ hW hA rfl (Nat.le_of_ble_eq_true rfl) dX10_lastTipAt_17 (fun r_17 H locs hq hW => ?_)
    subst hq
    refine r_bI_eq hx hb (b := (anc pr r k)) (tgt := 35) dX10_lastTipAt_20 (by decide) (fun c_20 => ?_) (fun c_20 => ?_)
    · refine lv_iload_n hx hb dX10_lastTipAt_35 rfl (lv_at hl 2 rfl) ?_
      refine lv_istore_n (lv' := [(2, .int (oi f)), (0, .ref (ad 0)), (1, .int (nI r)), (3, .int (nI k))]) hx hb dX10_lastTipAt_36 rfl hl (by decide) rfl (fun ls hl => ?_)
      refine lv_iinc (v := (nI (k + 1))) (lv' := [(3, .int (nI (k + 1))), (2, .int (oi f)), (0, .ref (ad 0)), (1, .int (nI r))]) hx hb dX10_lastTipAt_37 hl (k := 3) rfl (nI_1 _) (by decide) rfl (fun ls hl => ?_)
      refine lv_goto (tgt := 4) hx hb dX10_lastTipAt_40 (by decide) ?_
      exact ih (f, (k + 1)) _ _ _ (by dsimp only; omega) ⟨_, rfl, lv_sub hl [2, 3, 1, 0] rfl, hW, ⟨by rw [ltp, c_20]; simpa using hi, by omega⟩⟩
    · refine lv_aload_n hx hb dX10_lastTipAt_23 rfl (lv_at hl 0 rfl) ?_
      refine lv_iload_n hx hb dX10_lastTipAt_24 rfl (lv_at hl 3 rfl) ?_
      refine md_callg C hml hl.1 (As := [.int (nI k)]) (rest := []) (m_isTipAt l D aT ad S n idn pr tn hF k (by omega)) gT_isTipAt hd_isTipAt rfl ⟨Nat.le_of_ble_eq_true rfl, Nat.le_of_ble_eq_true rfl⟩ ⟨Nat.le_refl _, Nat.le_refl _⟩ hW hA rfl (Nat.le_of_ble_eq_true rfl) dX10_lastTipAt_25 (fun r_25 H locs hq hW => ?_)
      subst hq
      refine r_bI_eq hx hb (b := (tipB pr k n)) (tgt := 35) dX10_lastTipAt_28 (by decide) (fun c_28 => ?_) (fun c_28 => ?_)
      · refine lv_iload_n hx hb dX10_lastTipAt_35 rfl (lv_at hl 2 rfl) ?_
        refine lv_istore_n (lv' := [(2, .int (oi f)), (0, .ref (ad 0)), (1, .int (nI r)), (3, .int (nI k))]) hx hb dX10_lastTipAt_36 rfl hl (by decide) rfl (fun ls hl => ?_)
        refine lv_iinc (v := (nI (k + 1))) (lv' := [(3, .int (nI (k + 1))), (2, .int (oi f)), (0, .ref (ad 0)), (1, .int (nI r))]) hx hb dX10_lastTipAt_37 hl (k := 3) rfl (nI_1 _) (by decide) rfl (fun ls hl => ?_)
        refine lv_goto (tgt := 4) hx hb dX10_lastTipAt_40 (by decide) ?_
        exact ih (f, (k + 1)) _ _ _ (by dsimp only; omega) ⟨_, rfl, lv_sub hl [2, 3, 1, 0] rfl, hW, ⟨by rw [ltp, c_20, c_28]; simpa using hi, by omega⟩⟩
      · refine lv_iload_n hx hb dX10_lastTipAt_31 rfl (lv_at hl 3 rfl) ?_
        refine lv_goto (tgt := 36) hx hb dX10_lastTipAt_32 (by decide) ?_
        refine lv_istore_n (lv' := [(2, .int (nI k)), (0, .ref (ad 0)), (1, .int (nI r)), (3, .int (nI k))]) hx hb dX10_lastTipAt_36 rfl hl (by decide) rfl (fun ls hl => ?_)
        refine lv_iinc (v := (nI (k + 1))) (lv' := [(3, .int (nI (k + 1))), (2, .int (nI k)), (0, .ref (ad 0)), (1, .int (nI r))]) hx hb dX10_lastTipAt_37 hl (k := 3) rfl (nI_1 _) (by decide) rfl (fun ls hl => ?_)
        refine lv_goto (tgt := 4) hx hb dX10_lastTipAt_40 (by decide) ?_
        exact ih ((some k), (k + 1)) _ _ _ (by dsimp only; omega) ⟨_, rfl, lv_sub hl [2, 3, 1, 0] rfl, hW, ⟨by rw [ltp, c_20, c_28]; rfl, by omega⟩⟩
theorem gT_in : GoodIn gw (wsS RX10 63 yX10_in (Cond.code yX10_in cX10_in 6 (some .boolean) :: gw)) := gdS gw_1709 gw_1710 gw_81 gw_1711
theorem hd_in : yX10_in.cls = RX10 ∧ yX10_in.cls ≠ "java/lang/invoke/MethodHandle" ∧ yX10_in.cls ≠ "java/lang/invoke/VarHandle" ∧ (parseMethodDescriptor yX10_in.desc).map (fun d => d.parameters.length) = some 3 := ⟨rfl, by decide +kernel, by decide +kernel, by decide +kernel⟩
theorem dX10_in_0 : decode cX10_in 0 = .ok (.lload_n 0, 1) := by decide +kernel
theorem dX10_in_1 : decode cX10_in 1 = .ok (.lload_n 2, 1) := by decide +kernel
theorem dX10_in_2 : decode cX10_in 2 = .ok (.lcmp, 1) := by decide +kernel
theorem dX10_in_3 : decode cX10_in 3 = .ok (.ifCond .lt 14, 3) := by decide +kernel
theorem dX10_in_6 : decode cX10_in 6 = .ok (.lload_n 0, 1) := by decide +kernel
theorem dX10_in_7 : decode cX10_in 7 = .ok (.lload 4, 2) := by decide +kernel
theorem dX10_in_9 : decode cX10_in 9 = .ok (.lcmp, 1) := by decide +kernel
theorem dX10_in_10 : decode cX10_in 10 = .ok (.ifCond .gt 7, 3) := by decide +kernel
theorem dX10_in_13 : decode cX10_in 13 = .ok (.iconst 1, 1) := by decide +kernel
theorem dX10_in_14 : decode cX10_in 14 = .ok (.goto 4, 3) := by decide +kernel
theorem dX10_in_17 : decode cX10_in 17 = .ok (.iconst 0, 1) := by decide +kernel
theorem dX10_in_18 : decode cX10_in 18 = .ok (.ireturn, 1) := by decide +kernel
set_option maxRecDepth 20000 in
theorem m_in (l : Launch) (v lo hi : Int64) : MdS l yX10_in cX10_in 6 .boolean [.long v, .long lo, .long hi] (fun r => r = bI (decide (lo ≤ v ∧ v ≤ hi))) := by
  refine Met.ofW (cc := cX10_in) (maxL := 6) (ret := some .boolean) (by decide +kernel) rfl ?_
  intro p e s m args below meth c s₁ B hml hv
  have hv : args = _ := hv
  subst hv
  have hx := B.exec
  have hb := B.bytes
  have hl := lv_entry [.long v, .long lo, .long hi] (n := 6) (Nat.le_of_ble_eq_true rfl)
  rw [lg_entry_eq]
  generalize (lg_sl [.long v, .long lo, .long hi] ++ List.replicate (6 - (lg_sl [.long v, .long lo, .long hi]).length) Slot.unset).toArray = ls at hl ⊢
  have hl : lv_has ls 6 [(0, .long v), (2, .long lo), (4, .long hi)] := hl
  refine lv_lload_n hx hb dX10_in_0 rfl (lv_at hl 0 rfl) ?_
  refine lv_lload_n hx hb dX10_in_1 rfl (lv_at hl 1 rfl) ?_
  refine W.lcmp hx hb dX10_in_2 ?_
  refine lv_if_lt hx hb (x := (lg_cmp v lo)) (tgt := 17) dX10_in_3 (by decide) (fun c_3 => ?_) (fun c_3 => ?_)
  · refine lv_iconst (v := nI 0) hx hb dX10_in_17 (by decide) ?_
    exact W.zret (v := (nI 0)) hx hb B.returns (by decide) (fun t ht hW => ⟨_, rfl, (in_f1 c_3), ht⟩) (fun q h => by cases h) dX10_in_18 B.notSynchronized
  · refine lv_lload_n hx hb dX10_in_6 rfl (lv_at hl 0 rfl) ?_
    refine lv_lload hx hb dX10_in_7 (lv_at hl 2 rfl) ?_
    refine W.lcmp hx hb dX10_in_9 ?_
    refine lv_if_gt hx hb (x := (lg_cmp v hi)) (tgt := 17) dX10_in_10 (by decide) (fun c_10 => ?_) (fun c_10 => ?_)
    · refine lv_iconst (v := nI 0) hx hb dX10_in_17 (by decide) ?_
      exact W.zret (v := (nI 0)) hx hb B.returns (by decide) (fun t ht hW => ⟨_, rfl, (in_f2 c_10), ht⟩) (fun q h => by cases h) dX10_in_18 B.notSynchronized
    · refine lv_iconst (v := nI 1) hx hb dX10_in_13 (by decide) ?_
      refine lv_goto (tgt := 18) hx hb dX10_in_14 (by decide) ?_
      exact W.zret (v := (nI 1)) hx hb B.returns (by decide) (fun t ht hW => ⟨_, rfl, (in_t c_3 c_10), ht⟩) (fun q h => by cases h) dX10_in_18 B.notSynchronized
theorem gT_hedgeAt : GoodIn gw (wsS RX10 86 yX10_hedgeAt (Cond.code yX10_hedgeAt cX10_hedgeAt 1 (some .int) :: gw)) := gdS gw_1717 gw_1718 gw_81 gw_1719
theorem hd_hedgeAt : yX10_hedgeAt.cls = RX10 ∧ yX10_hedgeAt.cls ≠ "java/lang/invoke/MethodHandle" ∧ yX10_hedgeAt.cls ≠ "java/lang/invoke/VarHandle" ∧ (parseMethodDescriptor yX10_hedgeAt.desc).map (fun d => d.parameters.length) = some 1 := ⟨rfl, by decide +kernel, by decide +kernel, by decide +kernel⟩
theorem dX10_hedgeAt_0 : decode cX10_hedgeAt 0 = .ok (.bipush 11, 2) := by decide +kernel
theorem dX10_hedgeAt_2 : decode cX10_hedgeAt 2 = .ok (.iconst 3, 1) := by decide +kernel
theorem dX10_hedgeAt_3 : decode cX10_hedgeAt 3 = .ok (.iload_n 0, 1) := by decide +kernel
theorem dX10_hedgeAt_4 : decode cX10_hedgeAt 4 = .ok (.imul, 1) := by decide +kernel
theorem dX10_hedgeAt_5 : decode cX10_hedgeAt 5 = .ok (.iadd, 1) := by decide +kernel
theorem dX10_hedgeAt_6 : decode cX10_hedgeAt 6 = .ok (.ireturn, 1) := by decide +kernel
set_option maxRecDepth 20000 in
theorem m_hedgeAt (l : Launch) (i : Nat) : MdS l yX10_hedgeAt cX10_hedgeAt 1 .int [.int (nI i)] (fun r => r = nI (11 + 3 * i)) := by
  refine Met.ofW (cc := cX10_hedgeAt) (maxL := 1) (ret := some .int) (by decide +kernel) rfl ?_
  intro p e s m args below meth c s₁ B hml hv
  have hv : args = _ := hv
  subst hv
  have hx := B.exec
  have hb := B.bytes
  have hl := lv_entry [.int (nI i)] (n := 1) (Nat.le_of_ble_eq_true rfl)
  rw [lg_entry_eq]
  generalize (lg_sl [.int (nI i)] ++ List.replicate (1 - (lg_sl [.int (nI i)]).length) Slot.unset).toArray = ls at hl ⊢
  have hl : lv_has ls 1 [(0, .int (nI i))] := hl
  refine lv_bipush (v := nI 11) hx hb dX10_hedgeAt_0 (by decide) ?_
  refine lv_iconst (v := nI 3) hx hb dX10_hedgeAt_2 (by decide) ?_
  refine lv_iload_n hx hb dX10_hedgeAt_3 rfl (lv_at hl 0 rfl) ?_
  refine r_imulN hx hb (a := 3) (b := i) dX10_hedgeAt_4 ?_
  refine r_iaddN hx hb (a := 11) (b := 3 * i) dX10_hedgeAt_5 ?_
  exact W.zret (v := (nI (11 + 3 * i))) hx hb B.returns rfl (fun t ht hW => ⟨_, rfl, (rfl), ht⟩) (fun q h => by cases h) dX10_hedgeAt_6 B.notSynchronized
end
section
theorem gm_abs : Cond.static Lib.Math.abs.name ∈ gw ∧ Cond.code Lib.Math.abs.name Lib.Math.abs.code 1 (some .int) ∈ gw := ⟨gw_1811, by rw [show Lib.Math.abs.code = prog_28_method_59_code by decide +kernel]; exact gw_1812⟩
theorem gm_max : Cond.static Lib.Math.max.name ∈ gw ∧ Cond.code Lib.Math.max.name Lib.Math.max.code 2 (some .int) ∈ gw := ⟨gw_412, by rw [show Lib.Math.max.code = prog_28_method_65_code by decide +kernel]; exact gw_413⟩
theorem gm_min : Cond.static Lib.Math.min.name ∈ gw ∧ Cond.code Lib.Math.min.name Lib.Math.min.code 2 (some .int) ∈ gw := ⟨gw_409, by rw [show Lib.Math.min.code = prog_28_method_69_code by decide +kernel]; exact gw_410⟩
section MDM
variable {p : Program} {l : Launch} {e : Env} {R : Room} {s : State} {m : MethodId} {args : Array Value} {below : List Frame} {meth : Method} {c : Code} {H : Heap} {locs : List Loc} {cells slots : Nat} {Q : State → Prop} {cc : ByteArray} {pc : Nat} {ls : Array Slot} {rest : List Value} {D : va_G} {aT : Nat → ClassId} {nL : Nat}
theorem md_abs (C : MdX p c cc s args m D aT) (hml : c.maxLocals = nL) (hls : ls.size = nL) {index : Nat} (hk : Cond.methodLink RX10 index Lib.Math.abs.name ∈ gw) (hR : 1 ≤ R.frames ∧ 21 ≤ R.locals ∧ (rest.map fun v => v.category).sum ≤ 8) (hcs : cells ≤ R.cells ∧ slots ≤ R.slots) {x : Int32} (hdg : decode cc pc = .ok (.invokestatic index, 3))
    (kk : W p l e R s m args below meth c H locs cells slots Q (F0 m (pc + 3) ls (.int (if 0 ≤ x then x else 0 - x) :: rest))) : W p l e R s m args below meth c H locs cells slots Q (F0 m pc ls (.int x :: rest)) :=
  va_mabs C.1 C.2.1 (by rw [hml, hls]) C.2.2.2.1 (C.2.2.1 _ hk) (C.2.2.1 _ gm_abs.1) (C.2.2.1 _ gw_89) (C.2.2.1 _ gm_abs.2) hR.1 (by omega) hcs.1 hcs.2 hdg kk
theorem md_max (C : MdX p c cc s args m D aT) (hml : c.maxLocals = nL) (hls : ls.size = nL) {index : Nat} (hk : Cond.methodLink RX10 index Lib.Math.max.name ∈ gw) (hR : 1 ≤ R.frames ∧ 21 ≤ R.locals ∧ (rest.map fun v => v.category).sum ≤ 8) (hcs : cells ≤ R.cells ∧ slots ≤ R.slots) {x y : Int32} (hdg : decode cc pc = .ok (.invokestatic index, 3))
    (kk : W p l e R s m args below meth c H locs cells slots Q (F0 m (pc + 3) ls (.int (if x < y then y else x) :: rest))) : W p l e R s m args below meth c H locs cells slots Q (F0 m pc ls (.int y :: .int x :: rest)) :=
  va_mmax C.1 C.2.1 (by rw [hml, hls]) C.2.2.2.1 (C.2.2.1 _ hk) (C.2.2.1 _ gm_max.1) (C.2.2.1 _ gw_89) (C.2.2.1 _ gm_max.2) hR.1 (by omega) hcs.1 hcs.2 hdg kk
theorem md_min (C : MdX p c cc s args m D aT) (hml : c.maxLocals = nL) (hls : ls.size = nL) {index : Nat} (hk : Cond.methodLink RX10 index Lib.Math.min.name ∈ gw) (hR : 1 ≤ R.frames ∧ 21 ≤ R.locals ∧ (rest.map fun v => v.category).sum ≤ 8) (hcs : cells ≤ R.cells ∧ slots ≤ R.slots) {x y : Int32} (hdg : decode cc pc = .ok (.invokestatic index, 3))
    (kk : W p l e R s m args below meth c H locs cells slots Q (F0 m (pc + 3) ls (.int (if y < x then y else x) :: rest))) : W p l e R s m args below meth c H locs cells slots Q (F0 m pc ls (.int y :: .int x :: rest)) :=
  va_mmin C.1 C.2.1 (by rw [hml, hls]) C.2.2.2.1 (C.2.2.1 _ hk) (C.2.2.1 _ gm_min.1) (C.2.2.1 _ gw_89) (C.2.2.1 _ gm_min.2) hR.1 (by omega) hcs.1 hcs.2 hdg kk
theorem gk_max : Cond.methodLink RX10 138 Lib.Math.max.name ∈ gw := gw_1793
theorem gk_abs : Cond.methodLink RX10 89 Lib.Math.abs.name ∈ gw := gw_1810
theorem gk_min : Cond.methodLink RX10 160 Lib.Math.min.name ∈ gw := gw_1833
end MDM
theorem gT_throwing : GoodIn gw (wsV RX10 101 RX10 yX10_throwing (Cond.code yX10_throwing cX10_throwing 2 (some .int) :: gw)) := gdV gw_1713 gw_1715 gw_23 gw_81 gw_1716
theorem hd_throwing : yX10_throwing.cls = RX10 ∧ yX10_throwing.cls ≠ "java/lang/invoke/MethodHandle" ∧ yX10_throwing.cls ≠ "java/lang/invoke/VarHandle" ∧ (parseMethodDescriptor yX10_throwing.desc).map (fun d => d.parameters.length) = some 1 := ⟨rfl, by decide +kernel, by decide +kernel, by decide +kernel⟩
theorem dX10_throwing_0 : decode cX10_throwing 0 = .ok (.aload_n 0, 1) := by decide +kernel
theorem dX10_throwing_1 : decode cX10_throwing 1 = .ok (.iload_n 1, 1) := by decide +kernel
theorem dX10_throwing_2 : decode cX10_throwing 2 = .ok (.putfield 57, 3) := by decide +kernel
theorem dX10_throwing_5 : decode cX10_throwing 5 = .ok (.iconst (-1), 1) := by decide +kernel
theorem dX10_throwing_6 : decode cX10_throwing 6 = .ok (.ireturn, 1) := by decide +kernel
set_option maxHeartbeats 1000000 in
set_option maxRecDepth 20000 in
theorem m_throwing (l : Launch) (D : va_G) (aT : Nat → ClassId) (ad : Nat → Nat) (S : MSt) (t : Nat) : MdI l yX10_throwing cX10_throwing 2 .int 0 0 D aT ad [.ref (ad 0), .int (nI t)] S (fun r S1 => r = -1 ∧ S1 = ss S 8 (nI t)) := by
  refine MdI.of (by decide +kernel) rfl (Nat.le_of_ble_eq_true rfl) ?_
  intro p e s m below meth c A ls C hml hl hA hr hlocks hW
  have hl : lv_has ls 2 [(0, .ref (ad 0)), (1, .int (nI t))] := hl
  have hx := C.1
  have hb := C.2.1
  refine lv_aload_n hx hb dX10_throwing_0 rfl (lv_at hl 0 rfl) ?_
  refine lv_iload_n hx hb dX10_throwing_1 rfl (lv_at hl 1 rfl) ?_
  refine md_put_thrown C hW dX10_throwing_2 (fun H locs hW => ?_)
  refine lv_iconst (v := (-1)) hx hb dX10_throwing_5 (by decide) ?_
  exact md_iret C hr hlocks rfl hW (⟨rfl, rfl⟩) dX10_throwing_6
theorem gT_far : GoodIn gw (wsV RX10 94 RX10 yX10_far (Cond.code yX10_far cX10_far 3 (some .int) :: gw)) := gdV gw_1806 gw_1808 gw_40 gw_81 gw_1809
theorem hd_far : yX10_far.cls = RX10 ∧ yX10_far.cls ≠ "java/lang/invoke/MethodHandle" ∧ yX10_far.cls ≠ "java/lang/invoke/VarHandle" ∧ (parseMethodDescriptor yX10_far.desc).map (fun d => d.parameters.length) = some 2 := ⟨rfl, by decide +kernel, by decide +kernel, by decide +kernel⟩
theorem dX10_far_0 : decode cX10_far 0 = .ok (.aload_n 0, 1) := by decide +kernel
theorem dX10_far_1 : decode cX10_far 1 = .ok (.getfield 9, 3) := by decide +kernel
theorem dX10_far_4 : decode cX10_far 4 = .ok (.iload_n 1, 1) := by decide +kernel
theorem dX10_far_5 : decode cX10_far 5 = .ok (.invokestatic 86, 3) := by decide +kernel
theorem dX10_far_8 : decode cX10_far 8 = .ok (.iconst 2, 1) := by decide +kernel
theorem dX10_far_9 : decode cX10_far 9 = .ok (.iadd, 1) := by decide +kernel
theorem dX10_far_10 : decode cX10_far 10 = .ok (.iaload, 1) := by decide +kernel
theorem dX10_far_11 : decode cX10_far 11 = .ok (.aload_n 0, 1) := by decide +kernel
theorem dX10_far_12 : decode cX10_far 12 = .ok (.iload_n 2, 1) := by decide +kernel
theorem dX10_far_13 : decode cX10_far 13 = .ok (.iconst 2, 1) := by decide +kernel
theorem dX10_far_14 : decode cX10_far 14 = .ok (.invokevirtual 67, 3) := by decide +kernel
theorem dX10_far_17 : decode cX10_far 17 = .ok (.isub, 1) := by decide +kernel
theorem dX10_far_18 : decode cX10_far 18 = .ok (.invokestatic 89, 3) := by decide +kernel
theorem dX10_far_21 : decode cX10_far 21 = .ok (.ireturn, 1) := by decide +kernel
set_option maxHeartbeats 1000000 in
set_option maxRecDepth 20000 in
theorem m_far (l : Launch) (D : va_G) (aT : Nat → ClassId) (ad : Nat → Nat) (S : MSt) (i k a b : Nat) (ha : S 0 (11 + 3 * i + 2) = nI a) (hb2 : S 0 (29 + 4 * k + 2) = nI b) (ha9 : a ≤ 9) (hb9 : b ≤ 9) (hi : i < 6) (hk : k < 12) : MdG l yX10_far cX10_far 3 .int 1 24 D aT ad [.ref (ad 0), .int (nI i), .int (nI k)] S (fun r => r = nI (dif a b)) := by
  refine MdI.of (by decide +kernel) rfl (Nat.le_of_ble_eq_true rfl) ?_
  intro p e s m below meth c A ls C hml hl hA hr hlocks hW
  have hl : lv_has ls 3 [(0, .ref (ad 0)), (1, .int (nI i)), (2, .int (nI k))] := hl
  have hx := C.1
  have hb := C.2.1
  refine lv_aload_n hx hb dX10_far_0 rfl (lv_at hl 0 rfl) ?_
  refine md_geta_m C hW dX10_far_1 ?_
  refine lv_iload_n hx hb dX10_far_4 rfl (lv_at hl 1 rfl) ?_
  refine md_calls C hml hl.1 (As := [.int (nI i)]) (rest := [.ref (ad 1)]) (m_hedgeAt l i) gT_hedgeAt hd_hedgeAt rfl ⟨Nat.le_of_ble_eq_true rfl, Nat.le_of_ble_eq_true rfl⟩ ⟨Nat.le_refl _, Nat.le_refl _⟩ rfl (Nat.le_of_ble_eq_true rfl) dX10_far_5 (fun r_5 hq => ?_)
  subst hq
  refine lv_iconst (v := nI 2) hx hb dX10_far_8 (by decide) ?_
  refine r_iaddN hx hb (a := (11 + 3 * i)) (b := 2) dX10_far_9 ?_
  refine md_ald_m C hW (i := 11 + 3 * i + 2) (by omega) dX10_far_10 ?_
  refine r_eq (y := (nI a)) (ha) ?_
  refine lv_aload_n hx hb dX10_far_11 rfl (lv_at hl 0 rfl) ?_
  refine lv_iload_n hx hb dX10_far_12 rfl (lv_at hl 2 rfl) ?_
  refine lv_iconst (v := nI 2) hx hb dX10_far_13 (by decide) ?_
  refine md_callg C hml hl.1 (As := [.int (nI k), .int (nI 2)]) (rest := [.int (nI a)]) (m_of l D aT ad S k 2 (by omega)) gT_of hd_of rfl ⟨Nat.le_of_ble_eq_true rfl, Nat.le_of_ble_eq_true rfl⟩ ⟨Nat.le_refl _, Nat.le_refl _⟩ hW hA rfl (Nat.le_of_ble_eq_true rfl) dX10_far_14 (fun r_14 H locs hq hW => ?_)
  subst hq
  refine r_eq (y := (nI b)) (hb2) ?_
  refine lv_isub hx hb dX10_far_17 ?_
  refine md_abs C hml hl.1 gk_abs ⟨Nat.le_of_ble_eq_true rfl, Nat.le_of_ble_eq_true rfl, Nat.le_of_ble_eq_true rfl⟩ ⟨Nat.le_refl _, Nat.le_refl _⟩ dX10_far_18 ?_
  refine r_eq (y := (nI (dif a b))) (dif_abs (by omega) (by omega)) ?_
  exact md_iret C hr hlocks rfl hW (⟨rfl, rfl⟩) dX10_far_21
theorem gT_vetoes : GoodIn gw (wsV RX10 144 RX10 yX10_vetoes (Cond.code yX10_vetoes cX10_vetoes 3 (some .boolean) :: gw)) := gdV gw_1802 gw_1804 gw_39 gw_81 gw_1805
theorem hd_vetoes : yX10_vetoes.cls = RX10 ∧ yX10_vetoes.cls ≠ "java/lang/invoke/MethodHandle" ∧ yX10_vetoes.cls ≠ "java/lang/invoke/VarHandle" ∧ (parseMethodDescriptor yX10_vetoes.desc).map (fun d => d.parameters.length) = some 2 := ⟨rfl, by decide +kernel, by decide +kernel, by decide +kernel⟩
theorem dX10_vetoes_0 : decode cX10_vetoes 0 = .ok (.aload_n 0, 1) := by decide +kernel
theorem dX10_vetoes_1 : decode cX10_vetoes 1 = .ok (.iload_n 1, 1) := by decide +kernel
theorem dX10_vetoes_2 : decode cX10_vetoes 2 = .ok (.iload_n 2, 1) := by decide +kernel
theorem dX10_vetoes_3 : decode cX10_vetoes 3 = .ok (.invokevirtual 94, 3) := by decide +kernel
theorem dX10_vetoes_6 : decode cX10_vetoes 6 = .ok (.bipush 7, 2) := by decide +kernel
theorem dX10_vetoes_8 : decode cX10_vetoes 8 = .ok (.if_icmp .lt 21, 3) := by decide +kernel
theorem dX10_vetoes_11 : decode cX10_vetoes 11 = .ok (.aload_n 0, 1) := by decide +kernel
theorem dX10_vetoes_12 : decode cX10_vetoes 12 = .ok (.getfield 9, 3) := by decide +kernel
theorem dX10_vetoes_15 : decode cX10_vetoes 15 = .ok (.iload_n 1, 1) := by decide +kernel
theorem dX10_vetoes_16 : decode cX10_vetoes 16 = .ok (.invokestatic 86, 3) := by decide +kernel
theorem dX10_vetoes_19 : decode cX10_vetoes 19 = .ok (.iconst 1, 1) := by decide +kernel
theorem dX10_vetoes_20 : decode cX10_vetoes 20 = .ok (.iadd, 1) := by decide +kernel
theorem dX10_vetoes_21 : decode cX10_vetoes 21 = .ok (.iaload, 1) := by decide +kernel
theorem dX10_vetoes_22 : decode cX10_vetoes 22 = .ok (.ifCond .le 7, 3) := by decide +kernel
theorem dX10_vetoes_25 : decode cX10_vetoes 25 = .ok (.iconst 1, 1) := by decide +kernel
theorem dX10_vetoes_26 : decode cX10_vetoes 26 = .ok (.goto 4, 3) := by decide +kernel
theorem dX10_vetoes_29 : decode cX10_vetoes 29 = .ok (.iconst 0, 1) := by decide +kernel
theorem dX10_vetoes_30 : decode cX10_vetoes 30 = .ok (.ireturn, 1) := by decide +kernel
set_option maxHeartbeats 1000000 in
set_option maxRecDepth 20000 in
theorem m_vetoes (l : Launch) (D : va_G) (aT : Nat → ClassId) (ad : Nat → Nat) (S : MSt) (h : Nat) (lv th ta : Nat → Nat) (hH : HeR (S 0) h lv th ta) (n : Nat) (idn : Nat → Nat) (pr : Nat → Option Nat) (tn : Nat → Nat) (hF : FoR (S 0) n idn pr tn) (i k : Nat) (hi : i < h) (hk : k < n) : MdG l yX10_vetoes cX10_vetoes 3 .boolean 2 46 D aT ad [.ref (ad 0), .int (nI i), .int (nI k)] S (fun r => r = bI (vetB (dif (ta i) (tn k)) (th i))) := by
  refine MdI.of (by decide +kernel) rfl (Nat.le_of_ble_eq_true rfl) ?_
  intro p e s m below meth c A ls C hml hl hA hr hlocks hW
  have hl : lv_has ls 3 [(0, .ref (ad 0)), (1, .int (nI i)), (2, .int (nI k))] := hl
  have hx := C.1
  have hb := C.2.1
  refine lv_aload_n hx hb dX10_vetoes_0 rfl (lv_at hl 0 rfl) ?_
  refine lv_iload_n hx hb dX10_vetoes_1 rfl (lv_at hl 1 rfl) ?_
  refine lv_iload_n hx hb dX10_vetoes_2 rfl (lv_at hl 2 rfl) ?_
  refine md_callg C hml hl.1 (As := [.int (nI i), .int (nI k)]) (rest := []) (m_far l D aT ad S i k (ta i) (tn k) (hH.2.2.2.2 _ (hi)).1 (hF.2.2.2.2.2.2 _ (hk)).1 (hH.2.2.2.2 _ (hi)).2 (hF.2.2.2.2.2.2 _ (hk)).2 (Nat.lt_of_lt_of_le (hi) hH.2.1) (Nat.lt_of_lt_of_le (hk) hF.2.1)) gT_far hd_far rfl ⟨Nat.le_of_ble_eq_true rfl, Nat.le_of_ble_eq_true rfl⟩ ⟨Nat.le_refl _, Nat.le_refl _⟩ hW hA rfl (Nat.le_of_ble_eq_true rfl) dX10_vetoes_3 (fun r_3 H locs hq hW => ?_)
  subst hq
  refine lv_bipush (v := nI 7) hx hb dX10_vetoes_6 (by decide) ?_
  refine r_ltN hx hb (a := (dif (ta i) (tn k))) (b := 7) (by have := (hH.2.2.2.2 i hi).2; have := (hF.2.2.2.2.2.2 k hk).2; first | omega | (unfold dif; omega)) (by have := (hH.2.2.2.2 i hi).2; have := (hF.2.2.2.2.2.2 k hk).2; first | omega | (unfold dif; omega)) (tgt := 29) dX10_vetoes_8 (by decide) (fun c_8 => ?_) (fun c_8 => ?_)
  · refine lv_iconst (v := nI 0) hx hb dX10_vetoes_29 (by decide) ?_
    exact md_iret C hr hlocks (by decide) hW (⟨by rw [show vetB _ _ = false from decide_eq_false (by omega)]; rfl, rfl⟩) dX10_vetoes_30
  · refine lv_aload_n hx hb dX10_vetoes_11 rfl (lv_at hl 0 rfl) ?_
    refine md_geta_m C hW dX10_vetoes_12 ?_
    refine lv_iload_n hx hb dX10_vetoes_15 rfl (lv_at hl 1 rfl) ?_
    refine md_calls C hml hl.1 (As := [.int (nI i)]) (rest := [.ref (ad 1)]) (m_hedgeAt l i) gT_hedgeAt hd_hedgeAt rfl ⟨Nat.le_of_ble_eq_true rfl, Nat.le_of_ble_eq_true rfl⟩ ⟨Nat.le_refl _, Nat.le_refl _⟩ rfl (Nat.le_of_ble_eq_true rfl) dX10_vetoes_16 (fun r_16 hq => ?_)
    subst hq
    refine lv_iconst (v := nI 1) hx hb dX10_vetoes_19 (by decide) ?_
    refine r_iaddN hx hb (a := (11 + 3 * i)) (b := 1) dX10_vetoes_20 ?_
    refine md_ald_m C hW (i := 11 + 3 * i + 1) (by have := hH.2.1; omega) dX10_vetoes_21 ?_
    refine r_eq (y := (nI (th i))) ((hH.2.2.2.1 i hi).1) ?_
    refine r_ifleN hx hb (a := (th i)) (by have := (hH.2.2.2.1 i hi).2; omega) (tgt := 29) dX10_vetoes_22 (by decide) (fun c_22 => ?_) (fun c_22 => ?_)
    · refine lv_iconst (v := nI 0) hx hb dX10_vetoes_29 (by decide) ?_
      exact md_iret C hr hlocks (by decide) hW (⟨by rw [show vetB _ _ = false from decide_eq_false (by omega)]; rfl, rfl⟩) dX10_vetoes_30
    · refine lv_iconst (v := nI 1) hx hb dX10_vetoes_25 (by decide) ?_
      refine lv_goto (tgt := 30) hx hb dX10_vetoes_26 (by decide) ?_
      exact md_iret C hr hlocks (by decide) hW (⟨by rw [show vetB _ _ = true from decide_eq_true (by omega)]; rfl, rfl⟩) dX10_vetoes_30
theorem gT_favour : GoodIn gw (wsV RX10 147 RX10 yX10_favour (Cond.code yX10_favour cX10_favour 4 (some .int) :: gw)) := gdV gw_1813 gw_1815 gw_41 gw_81 gw_1816
theorem hd_favour : yX10_favour.cls = RX10 ∧ yX10_favour.cls ≠ "java/lang/invoke/MethodHandle" ∧ yX10_favour.cls ≠ "java/lang/invoke/VarHandle" ∧ (parseMethodDescriptor yX10_favour.desc).map (fun d => d.parameters.length) = some 1 := ⟨rfl, by decide +kernel, by decide +kernel, by decide +kernel⟩
theorem dX10_favour_0 : decode cX10_favour 0 = .ok (.iconst 0, 1) := by decide +kernel
theorem dX10_favour_1 : decode cX10_favour 1 = .ok (.istore_n 2, 1) := by decide +kernel
theorem dX10_favour_2 : decode cX10_favour 2 = .ok (.iconst 0, 1) := by decide +kernel
theorem dX10_favour_3 : decode cX10_favour 3 = .ok (.istore_n 3, 1) := by decide +kernel
theorem dX10_favour_4 : decode cX10_favour 4 = .ok (.iload_n 3, 1) := by decide +kernel
theorem dX10_favour_5 : decode cX10_favour 5 = .ok (.aload_n 0, 1) := by decide +kernel
theorem dX10_favour_6 : decode cX10_favour 6 = .ok (.getfield 9, 3) := by decide +kernel
theorem dX10_favour_9 : decode cX10_favour 9 = .ok (.iconst 0, 1) := by decide +kernel
theorem dX10_favour_10 : decode cX10_favour 10 = .ok (.iaload, 1) := by decide +kernel
theorem dX10_favour_11 : decode cX10_favour 11 = .ok (.if_icmp .ge 35, 3) := by decide +kernel
theorem dX10_favour_14 : decode cX10_favour 14 = .ok (.iload_n 2, 1) := by decide +kernel
theorem dX10_favour_15 : decode cX10_favour 15 = .ok (.aload_n 0, 1) := by decide +kernel
theorem dX10_favour_16 : decode cX10_favour 16 = .ok (.iload_n 3, 1) := by decide +kernel
theorem dX10_favour_17 : decode cX10_favour 17 = .ok (.iload_n 1, 1) := by decide +kernel
theorem dX10_favour_18 : decode cX10_favour 18 = .ok (.invokevirtual 94, 3) := by decide +kernel
theorem dX10_favour_21 : decode cX10_favour 21 = .ok (.iconst 3, 1) := by decide +kernel
theorem dX10_favour_22 : decode cX10_favour 22 = .ok (.if_icmp .gt 15, 3) := by decide +kernel
theorem dX10_favour_25 : decode cX10_favour 25 = .ok (.aload_n 0, 1) := by decide +kernel
theorem dX10_favour_26 : decode cX10_favour 26 = .ok (.getfield 9, 3) := by decide +kernel
theorem dX10_favour_29 : decode cX10_favour 29 = .ok (.iload_n 3, 1) := by decide +kernel
theorem dX10_favour_30 : decode cX10_favour 30 = .ok (.invokestatic 86, 3) := by decide +kernel
theorem dX10_favour_33 : decode cX10_favour 33 = .ok (.iaload, 1) := by decide +kernel
theorem dX10_favour_34 : decode cX10_favour 34 = .ok (.goto 4, 3) := by decide +kernel
theorem dX10_favour_37 : decode cX10_favour 37 = .ok (.iconst 0, 1) := by decide +kernel
theorem dX10_favour_38 : decode cX10_favour 38 = .ok (.iadd, 1) := by decide +kernel
theorem dX10_favour_39 : decode cX10_favour 39 = .ok (.istore_n 2, 1) := by decide +kernel
theorem dX10_favour_40 : decode cX10_favour 40 = .ok (.iinc 3 1, 3) := by decide +kernel
theorem dX10_favour_43 : decode cX10_favour 43 = .ok (.goto (-39), 3) := by decide +kernel
theorem dX10_favour_46 : decode cX10_favour 46 = .ok (.iload_n 2, 1) := by decide +kernel
theorem dX10_favour_47 : decode cX10_favour 47 = .ok (.ireturn, 1) := by decide +kernel
set_option maxHeartbeats 1000000 in
set_option maxRecDepth 20000 in
theorem m_favour (l : Launch) (D : va_G) (aT : Nat → ClassId) (ad : Nat → Nat) (S : MSt) (h : Nat) (lv th ta : Nat → Nat) (hH : HeR (S 0) h lv th ta) (n : Nat) (idn : Nat → Nat) (pr : Nat → Option Nat) (tn : Nat → Nat) (hF : FoR (S 0) n idn pr tn) (k : Nat) (hk : k < n) : MdG l yX10_favour cX10_favour 4 .int 2 46 D aT ad [.ref (ad 0), .int (nI k)] S (fun r => r = nI (fav lv ta (tn k) h)) := by
  refine MdI.of (by decide +kernel) rfl (Nat.le_of_ble_eq_true rfl) ?_
  intro p e s m below meth c A ls C hml hl hA hr hlocks hW
  have hl : lv_has ls 4 [(0, .ref (ad 0)), (1, .int (nI k))] := hl
  have hx := C.1
  have hb := C.2.1
  refine lv_iconst (v := nI 0) hx hb dX10_favour_0 (by decide) ?_
  refine lv_istore_n (lv' := [(2, .int (nI 0)), (0, .ref (ad 0)), (1, .int (nI k))]) hx hb dX10_favour_1 rfl hl (by decide) rfl (fun ls hl => ?_)
  refine lv_iconst (v := nI 0) hx hb dX10_favour_2 (by decide) ?_
  refine lv_istore_n (lv' := [(3, .int (nI 0)), (2, .int (nI 0)), (0, .ref (ad 0)), (1, .int (nI k))]) hx hb dX10_favour_3 rfl hl (by decide) rfl (fun ls hl => ?_)
  refine W_loopH (σ := Nat × Nat) (fun z_ => h - z_.2) (fun z_ H locs g => ∃ ls, g = F0 m 4 ls [] ∧ lv_has ls 4 [(0, .ref (ad 0)), (1, .int (nI k)), (2, .int (nI z_.1)), (3, .int (nI z_.2))] ∧ MdB D aT ad S A s.heap H locs ∧ (z_.1 = fav lv ta (tn k) z_.2 ∧ z_.2 ≤ h)) ?_ (0, 0) _ ⟨_, rfl, lv_sub hl [2, 3, 1, 0] rfl, hW, ⟨rfl, Nat.zero_le _⟩⟩
  clear hW hl
  rintro ⟨a, i⟩ H locs g ⟨ls, rfl, hl, hW, ha, hih⟩ ih
  dsimp only at hl hW ha hih ⊢
  refine lv_iload_n hx hb dX10_favour_4 rfl (lv_at hl 3 rfl) ?_
  refine lv_aload_n hx hb dX10_favour_5 rfl (lv_at hl 0 rfl) ?_
  refine md_geta_m C hW dX10_favour_6 ?_
  refine lv_iconst (v := nI 0) hx hb dX10_favour_9 (by decide) ?_
  refine md_ald_m C hW (i := 0) (by omega) dX10_favour_10 ?_
  refine r_eq (y := (nI h)) (hH.1) ?_
  refine r_geN hx hb (a := i) (b := h) (by have := hH.2.1; omega) (by have := hH.2.1; omega) (tgt := 46) dX10_favour_11 (by decide) (fun c_11 => ?_) (fun c_11 => ?_)
  · refine lv_iload_n hx hb dX10_favour_46 rfl (lv_at hl 2 rfl) ?_
    exact md_iret C hr hlocks rfl hW (⟨by rw [ha, show i = h by omega], rfl⟩) dX10_favour_47
  · refine lv_iload_n hx hb dX10_favour_14 rfl (lv_at hl 2 rfl) ?_
    refine lv_aload_n hx hb dX10_favour_15 rfl (lv_at hl 0 rfl) ?_
    refine lv_iload_n hx hb dX10_favour_16 rfl (lv_at hl 3 rfl) ?_
    refine lv_iload_n hx hb dX10_favour_17 rfl (lv_at hl 1 rfl) ?_
    refine md_callg C hml hl.1 (As := [.int (nI i), .int (nI k)]) (rest := [.int (nI a)]) (m_far l D aT ad S i k (ta i) (tn k) (hH.2.2.2.2 _ (show i < h by omega)).1 (hF.2.2.2.2.2.2 _ (hk)).1 (hH.2.2.2.2 _ (show i < h by omega)).2 (hF.2.2.2.2.2.2 _ (hk)).2 (Nat.lt_of_lt_of_le (show i < h by omega) hH.2.1) (Nat.lt_of_lt_of_le (hk) hF.2.1)) gT_far hd_far rfl ⟨Nat.le_of_ble_eq_true rfl, Nat.le_of_ble_eq_true rfl⟩ ⟨Nat.le_refl _, Nat.le_refl _⟩ hW hA rfl (Nat.le_of_ble_eq_true rfl) dX10_favour_18 (fun r_18 H locs hq hW => ?_)
    subst hq
    refine lv_iconst (v := nI 3) hx hb dX10_favour_21 (by decide) ?_
    refine r_gtN hx hb (a := (dif (ta i) (tn k))) (b := 3) (by have := (hH.2.2.2.2 i (by omega)).2; have := (hF.2.2.2.2.2.2 k hk).2; first | omega | (unfold dif; omega)) (by have := (hH.2.2.2.2 i (by omega)).2; have := (hF.2.2.2.2.2.2 k hk).2; first | omega | (unfold dif; omega)) (tgt := 37) dX10_favour_22 (by decide) (fun c_22 => ?_) (fun c_22 => ?_)
    · refine lv_iconst (v := nI 0) hx hb dX10_favour_37 (by decide) ?_
      refine r_iaddN hx hb (a := a) (b := 0) dX10_favour_38 ?_
      refine lv_istore_n (lv' := [(2, .int (nI (a + 0))), (0, .ref (ad 0)), (1, .int (nI k)), (3, .int (nI i))]) hx hb dX10_favour_39 rfl hl (by decide) rfl (fun ls hl => ?_)
      refine lv_iinc (v := (nI (i + 1))) (lv' := [(3, .int (nI (i + 1))), (2, .int (nI (a + 0))), (0, .ref (ad 0)), (1, .int (nI k))]) hx hb dX10_favour_40 hl (k := 3) rfl (nI_1 _) (by decide) rfl (fun ls hl => ?_)
      refine lv_goto (tgt := 4) hx hb dX10_favour_43 (by decide) ?_
      exact ih (a + 0, (i + 1)) _ _ _ (by dsimp only; omega) ⟨_, rfl, lv_sub hl [2, 3, 1, 0] rfl, hW, ⟨by rw [fav, if_neg (by omega), ha], by omega⟩⟩
    · refine lv_aload_n hx hb dX10_favour_25 rfl (lv_at hl 0 rfl) ?_
      refine md_geta_m C hW dX10_favour_26 ?_
      refine lv_iload_n hx hb dX10_favour_29 rfl (lv_at hl 3 rfl) ?_
      refine md_calls C hml hl.1 (As := [.int (nI i)]) (rest := [.ref (ad 1), .int (nI a)]) (m_hedgeAt l i) gT_hedgeAt hd_hedgeAt rfl ⟨Nat.le_of_ble_eq_true rfl, Nat.le_of_ble_eq_true rfl⟩ ⟨Nat.le_refl _, Nat.le_refl _⟩ rfl (Nat.le_of_ble_eq_true rfl) dX10_favour_30 (fun r_30 hq => ?_)
      subst hq
      refine md_ald_m C hW (i := (11 + 3 * i)) (by have := hH.2.1; omega) dX10_favour_33 ?_
      refine r_eq (y := (nI (lv i))) ((hH.2.2.1 i (by omega)).1) ?_
      refine lv_goto (tgt := 38) hx hb dX10_favour_34 (by decide) ?_
      refine r_iaddN hx hb (a := a) (b := (lv i)) dX10_favour_38 ?_
      refine lv_istore_n (lv' := [(2, .int (nI (a + (lv i)))), (0, .ref (ad 0)), (1, .int (nI k)), (3, .int (nI i))]) hx hb dX10_favour_39 rfl hl (by decide) rfl (fun ls hl => ?_)
      refine lv_iinc (v := (nI (i + 1))) (lv' := [(3, .int (nI (i + 1))), (2, .int (nI (a + (lv i)))), (0, .ref (ad 0)), (1, .int (nI k))]) hx hb dX10_favour_40 hl (k := 3) rfl (nI_1 _) (by decide) rfl (fun ls hl => ?_)
      refine lv_goto (tgt := 4) hx hb dX10_favour_43 (by decide) ?_
      exact ih (a + (lv i), (i + 1)) _ _ _ (by dsimp only; omega) ⟨_, rfl, lv_sub hl [2, 3, 1, 0] rfl, hW, ⟨by rw [fav, if_pos (by omega), ha], by omega⟩⟩
theorem gT_leavesAll : GoodIn gw (wsV RX10 150 RX10 yX10_leavesAll (Cond.code yX10_leavesAll cX10_leavesAll 3 (some .int) :: gw)) := gdV gw_1817 gw_1819 gw_42 gw_81 gw_1820
theorem hd_leavesAll : yX10_leavesAll.cls = RX10 ∧ yX10_leavesAll.cls ≠ "java/lang/invoke/MethodHandle" ∧ yX10_leavesAll.cls ≠ "java/lang/invoke/VarHandle" ∧ (parseMethodDescriptor yX10_leavesAll.desc).map (fun d => d.parameters.length) = some 0 := ⟨rfl, by decide +kernel, by decide +kernel, by decide +kernel⟩
theorem dX10_leavesAll_0 : decode cX10_leavesAll 0 = .ok (.iconst 0, 1) := by decide +kernel
theorem dX10_leavesAll_1 : decode cX10_leavesAll 1 = .ok (.istore_n 1, 1) := by decide +kernel
theorem dX10_leavesAll_2 : decode cX10_leavesAll 2 = .ok (.iconst 0, 1) := by decide +kernel
theorem dX10_leavesAll_3 : decode cX10_leavesAll 3 = .ok (.istore_n 2, 1) := by decide +kernel
theorem dX10_leavesAll_4 : decode cX10_leavesAll 4 = .ok (.iload_n 2, 1) := by decide +kernel
theorem dX10_leavesAll_5 : decode cX10_leavesAll 5 = .ok (.aload_n 0, 1) := by decide +kernel
theorem dX10_leavesAll_6 : decode cX10_leavesAll 6 = .ok (.getfield 9, 3) := by decide +kernel
theorem dX10_leavesAll_9 : decode cX10_leavesAll 9 = .ok (.iconst 0, 1) := by decide +kernel
theorem dX10_leavesAll_10 : decode cX10_leavesAll 10 = .ok (.iaload, 1) := by decide +kernel
theorem dX10_leavesAll_11 : decode cX10_leavesAll 11 = .ok (.if_icmp .ge 21, 3) := by decide +kernel
theorem dX10_leavesAll_14 : decode cX10_leavesAll 14 = .ok (.iload_n 1, 1) := by decide +kernel
theorem dX10_leavesAll_15 : decode cX10_leavesAll 15 = .ok (.aload_n 0, 1) := by decide +kernel
theorem dX10_leavesAll_16 : decode cX10_leavesAll 16 = .ok (.getfield 9, 3) := by decide +kernel
theorem dX10_leavesAll_19 : decode cX10_leavesAll 19 = .ok (.iload_n 2, 1) := by decide +kernel
theorem dX10_leavesAll_20 : decode cX10_leavesAll 20 = .ok (.invokestatic 86, 3) := by decide +kernel
theorem dX10_leavesAll_23 : decode cX10_leavesAll 23 = .ok (.iaload, 1) := by decide +kernel
theorem dX10_leavesAll_24 : decode cX10_leavesAll 24 = .ok (.iadd, 1) := by decide +kernel
theorem dX10_leavesAll_25 : decode cX10_leavesAll 25 = .ok (.istore_n 1, 1) := by decide +kernel
theorem dX10_leavesAll_26 : decode cX10_leavesAll 26 = .ok (.iinc 2 1, 3) := by decide +kernel
theorem dX10_leavesAll_29 : decode cX10_leavesAll 29 = .ok (.goto (-25), 3) := by decide +kernel
theorem dX10_leavesAll_32 : decode cX10_leavesAll 32 = .ok (.iload_n 1, 1) := by decide +kernel
theorem dX10_leavesAll_33 : decode cX10_leavesAll 33 = .ok (.ireturn, 1) := by decide +kernel
set_option maxHeartbeats 1000000 in
set_option maxRecDepth 20000 in
theorem m_leavesAll (l : Launch) (D : va_G) (aT : Nat → ClassId) (ad : Nat → Nat) (S : MSt) (h : Nat) (lv th ta : Nat → Nat) (hH : HeR (S 0) h lv th ta) : MdG l yX10_leavesAll cX10_leavesAll 3 .int 1 20 D aT ad [.ref (ad 0)] S (fun r => r = nI (sml lv h)) := by
  refine MdI.of (by decide +kernel) rfl (Nat.le_of_ble_eq_true rfl) ?_
  intro p e s m below meth c A ls C hml hl hA hr hlocks hW
  have hl : lv_has ls 3 [(0, .ref (ad 0))] := hl
  have hx := C.1
  have hb := C.2.1
  refine lv_iconst (v := nI 0) hx hb dX10_leavesAll_0 (by decide) ?_
  refine lv_istore_n (lv' := [(1, .int (nI 0)), (0, .ref (ad 0))]) hx hb dX10_leavesAll_1 rfl hl (by decide) rfl (fun ls hl => ?_)
  refine lv_iconst (v := nI 0) hx hb dX10_leavesAll_2 (by decide) ?_
  refine lv_istore_n (lv' := [(2, .int (nI 0)), (1, .int (nI 0)), (0, .ref (ad 0))]) hx hb dX10_leavesAll_3 rfl hl (by decide) rfl (fun ls hl => ?_)
  refine W_loopH (σ := Nat × Nat) (fun z_ => h - z_.2) (fun z_ H locs g => ∃ ls, g = F0 m 4 ls [] ∧ lv_has ls 3 [(0, .ref (ad 0)), (1, .int (nI z_.1)), (2, .int (nI z_.2))] ∧ MdB D aT ad S A s.heap H locs ∧ (z_.1 = sml lv z_.2 ∧ z_.2 ≤ h)) ?_ (0, 0) _ ⟨_, rfl, lv_sub hl [2, 1, 0] rfl, hW, ⟨rfl, Nat.zero_le _⟩⟩
  clear hW hl
  rintro ⟨a, i⟩ H locs g ⟨ls, rfl, hl, hW, ha, hih⟩ ih
  dsimp only at hl hW ha hih ⊢
  refine lv_iload_n hx hb dX10_leavesAll_4 rfl (lv_at hl 2 rfl) ?_
  refine lv_aload_n hx hb dX10_leavesAll_5 rfl (lv_at hl 0 rfl) ?_
  refine md_geta_m C hW dX10_leavesAll_6 ?_
  refine lv_iconst (v := nI 0) hx hb dX10_leavesAll_9 (by decide) ?_
  refine md_ald_m C hW (i := 0) (by omega) dX10_leavesAll_10 ?_
  refine r_eq (y := (nI h)) (hH.1) ?_
  refine r_geN hx hb (a := i) (b := h) (by have := hH.2.1; omega) (by have := hH.2.1; omega) (tgt := 32) dX10_leavesAll_11 (by decide) (fun c_11 => ?_) (fun c_11 => ?_)
  · refine lv_iload_n hx hb dX10_leavesAll_32 rfl (lv_at hl 1 rfl) ?_
    exact md_iret C hr hlocks rfl hW (⟨by rw [ha, show i = h by omega], rfl⟩) dX10_leavesAll_33
  · refine lv_iload_n hx hb dX10_leavesAll_14 rfl (lv_at hl 1 rfl) ?_
    refine lv_aload_n hx hb dX10_leavesAll_15 rfl (lv_at hl 0 rfl) ?_
    refine md_geta_m C hW dX10_leavesAll_16 ?_
    refine lv_iload_n hx hb dX10_leavesAll_19 rfl (lv_at hl 2 rfl) ?_
    refine md_calls C hml hl.1 (As := [.int (nI i)]) (rest := [.ref (ad 1), .int (nI a)]) (m_hedgeAt l i) gT_hedgeAt hd_hedgeAt rfl ⟨Nat.le_of_ble_eq_true rfl, Nat.le_of_ble_eq_true rfl⟩ ⟨Nat.le_refl _, Nat.le_refl _⟩ rfl (Nat.le_of_ble_eq_true rfl) dX10_leavesAll_20 (fun r_20 hq => ?_)
    subst hq
    refine md_ald_m C hW (i := (11 + 3 * i)) (by have := hH.2.1; omega) dX10_leavesAll_23 ?_
    refine r_eq (y := (nI (lv i))) ((hH.2.2.1 i (by omega)).1) ?_
    refine r_iaddN hx hb (a := a) (b := (lv i)) dX10_leavesAll_24 ?_
    refine lv_istore_n (lv' := [(1, .int (nI (a + (lv i)))), (0, .ref (ad 0)), (2, .int (nI i))]) hx hb dX10_leavesAll_25 rfl hl (by decide) rfl (fun ls hl => ?_)
    refine lv_iinc (v := (nI (i + 1))) (lv' := [(2, .int (nI (i + 1))), (1, .int (nI (a + (lv i)))), (0, .ref (ad 0))]) hx hb dX10_leavesAll_26 hl (k := 2) rfl (nI_1 _) (by decide) rfl (fun ls hl => ?_)
    refine lv_goto (tgt := 4) hx hb dX10_leavesAll_29 (by decide) ?_
    exact ih (a + (lv i), (i + 1)) _ _ _ (by dsimp only; omega) ⟨_, rfl, lv_sub hl [2, 1, 0] rfl, hW, ⟨by rw [sml, ha], by omega⟩⟩
theorem gT_adds : GoodIn gw (wsV RX10 116 RX10 yX10_adds (Cond.code yX10_adds cX10_adds 5 (some .int) :: gw)) := gdV gw_1733 gw_1735 gw_26 gw_81 gw_1736
theorem hd_adds : yX10_adds.cls = RX10 ∧ yX10_adds.cls ≠ "java/lang/invoke/MethodHandle" ∧ yX10_adds.cls ≠ "java/lang/invoke/VarHandle" ∧ (parseMethodDescriptor yX10_adds.desc).map (fun d => d.parameters.length) = some 3 := ⟨rfl, by decide +kernel, by decide +kernel, by decide +kernel⟩
theorem dX10_adds_0 : decode cX10_adds 0 = .ok (.bipush 29, 2) := by decide +kernel
theorem dX10_adds_2 : decode cX10_adds 2 = .ok (.iconst 4, 1) := by decide +kernel
theorem dX10_adds_3 : decode cX10_adds 3 = .ok (.aload_n 0, 1) := by decide +kernel
theorem dX10_adds_4 : decode cX10_adds 4 = .ok (.getfield 9, 3) := by decide +kernel
theorem dX10_adds_7 : decode cX10_adds 7 = .ok (.iconst 2, 1) := by decide +kernel
theorem dX10_adds_8 : decode cX10_adds 8 = .ok (.iaload, 1) := by decide +kernel
theorem dX10_adds_9 : decode cX10_adds 9 = .ok (.imul, 1) := by decide +kernel
theorem dX10_adds_10 : decode cX10_adds 10 = .ok (.iadd, 1) := by decide +kernel
theorem dX10_adds_11 : decode cX10_adds 11 = .ok (.istore 4, 2) := by decide +kernel
theorem dX10_adds_13 : decode cX10_adds 13 = .ok (.aload_n 0, 1) := by decide +kernel
theorem dX10_adds_14 : decode cX10_adds 14 = .ok (.getfield 9, 3) := by decide +kernel
theorem dX10_adds_17 : decode cX10_adds 17 = .ok (.iload 4, 2) := by decide +kernel
theorem dX10_adds_19 : decode cX10_adds 19 = .ok (.aload_n 0, 1) := by decide +kernel
theorem dX10_adds_20 : decode cX10_adds 20 = .ok (.getfield 9, 3) := by decide +kernel
theorem dX10_adds_23 : decode cX10_adds 23 = .ok (.iconst 1, 1) := by decide +kernel
theorem dX10_adds_24 : decode cX10_adds 24 = .ok (.iaload, 1) := by decide +kernel
theorem dX10_adds_25 : decode cX10_adds 25 = .ok (.iastore, 1) := by decide +kernel
theorem dX10_adds_26 : decode cX10_adds 26 = .ok (.aload_n 0, 1) := by decide +kernel
theorem dX10_adds_27 : decode cX10_adds 27 = .ok (.getfield 9, 3) := by decide +kernel
theorem dX10_adds_30 : decode cX10_adds 30 = .ok (.iload 4, 2) := by decide +kernel
theorem dX10_adds_32 : decode cX10_adds 32 = .ok (.iconst 1, 1) := by decide +kernel
theorem dX10_adds_33 : decode cX10_adds 33 = .ok (.iadd, 1) := by decide +kernel
theorem dX10_adds_34 : decode cX10_adds 34 = .ok (.iload_n 1, 1) := by decide +kernel
theorem dX10_adds_35 : decode cX10_adds 35 = .ok (.iastore, 1) := by decide +kernel
theorem dX10_adds_36 : decode cX10_adds 36 = .ok (.aload_n 0, 1) := by decide +kernel
theorem dX10_adds_37 : decode cX10_adds 37 = .ok (.getfield 9, 3) := by decide +kernel
theorem dX10_adds_40 : decode cX10_adds 40 = .ok (.iload 4, 2) := by decide +kernel
theorem dX10_adds_42 : decode cX10_adds 42 = .ok (.iconst 2, 1) := by decide +kernel
theorem dX10_adds_43 : decode cX10_adds 43 = .ok (.iadd, 1) := by decide +kernel
theorem dX10_adds_44 : decode cX10_adds 44 = .ok (.iload_n 2, 1) := by decide +kernel
theorem dX10_adds_45 : decode cX10_adds 45 = .ok (.iastore, 1) := by decide +kernel
theorem dX10_adds_46 : decode cX10_adds 46 = .ok (.aload_n 0, 1) := by decide +kernel
theorem dX10_adds_47 : decode cX10_adds 47 = .ok (.getfield 9, 3) := by decide +kernel
theorem dX10_adds_50 : decode cX10_adds 50 = .ok (.iload 4, 2) := by decide +kernel
theorem dX10_adds_52 : decode cX10_adds 52 = .ok (.iconst 3, 1) := by decide +kernel
theorem dX10_adds_53 : decode cX10_adds 53 = .ok (.iadd, 1) := by decide +kernel
theorem dX10_adds_54 : decode cX10_adds 54 = .ok (.iload_n 3, 1) := by decide +kernel
theorem dX10_adds_55 : decode cX10_adds 55 = .ok (.iastore, 1) := by decide +kernel
theorem dX10_adds_56 : decode cX10_adds 56 = .ok (.aload_n 0, 1) := by decide +kernel
theorem dX10_adds_57 : decode cX10_adds 57 = .ok (.getfield 9, 3) := by decide +kernel
theorem dX10_adds_60 : decode cX10_adds 60 = .ok (.iconst 2, 1) := by decide +kernel
theorem dX10_adds_61 : decode cX10_adds 61 = .ok (.dup2, 1) := by decide +kernel
theorem dX10_adds_62 : decode cX10_adds 62 = .ok (.iaload, 1) := by decide +kernel
theorem dX10_adds_63 : decode cX10_adds 63 = .ok (.iconst 1, 1) := by decide +kernel
theorem dX10_adds_64 : decode cX10_adds 64 = .ok (.iadd, 1) := by decide +kernel
theorem dX10_adds_65 : decode cX10_adds 65 = .ok (.iastore, 1) := by decide +kernel
theorem dX10_adds_66 : decode cX10_adds 66 = .ok (.aload_n 0, 1) := by decide +kernel
theorem dX10_adds_67 : decode cX10_adds 67 = .ok (.getfield 9, 3) := by decide +kernel
theorem dX10_adds_70 : decode cX10_adds 70 = .ok (.iconst 1, 1) := by decide +kernel
theorem dX10_adds_71 : decode cX10_adds 71 = .ok (.dup2, 1) := by decide +kernel
theorem dX10_adds_72 : decode cX10_adds 72 = .ok (.iaload, 1) := by decide +kernel
theorem dX10_adds_73 : decode cX10_adds 73 = .ok (.iconst 1, 1) := by decide +kernel
theorem dX10_adds_74 : decode cX10_adds 74 = .ok (.iadd, 1) := by decide +kernel
theorem dX10_adds_75 : decode cX10_adds 75 = .ok (.iastore, 1) := by decide +kernel
theorem dX10_adds_76 : decode cX10_adds 76 = .ok (.aload_n 0, 1) := by decide +kernel
theorem dX10_adds_77 : decode cX10_adds 77 = .ok (.getfield 9, 3) := by decide +kernel
theorem dX10_adds_80 : decode cX10_adds 80 = .ok (.iload 4, 2) := by decide +kernel
theorem dX10_adds_82 : decode cX10_adds 82 = .ok (.iaload, 1) := by decide +kernel
theorem dX10_adds_83 : decode cX10_adds 83 = .ok (.ireturn, 1) := by decide +kernel
set_option maxHeartbeats 1000000 in
set_option maxRecDepth 20000 in
theorem m_adds (l : Launch) (D : va_G) (aT : Nat → ClassId) (ad : Nat → Nat) (S : MSt) (n : Nat) (p0 x w : Int32) (hn : S 0 2 = nI n) (h12 : n < 12) : MdI l yX10_adds cX10_adds 5 .int 0 0 D aT ad [.ref (ad 0), .int p0, .int x, .int w] S (fun r S1 => r = S 0 1 ∧ S1 = sr S 0 (addF (S 0) n p0 x w)) := by
  refine MdI.of (by decide +kernel) rfl (Nat.le_of_ble_eq_true rfl) ?_
  intro p e s m below meth c A ls C hml hl hA hr hlocks hW
  have hl : lv_has ls 5 [(0, .ref (ad 0)), (1, .int p0), (2, .int x), (3, .int w)] := hl
  have hx := C.1
  have hb := C.2.1
  refine lv_bipush (v := nI 29) hx hb dX10_adds_0 (by decide) ?_
  refine lv_iconst (v := nI 4) hx hb dX10_adds_2 (by decide) ?_
  refine lv_aload_n hx hb dX10_adds_3 rfl (lv_at hl 0 rfl) ?_
  refine md_geta_m C hW dX10_adds_4 ?_
  refine lv_iconst (v := nI 2) hx hb dX10_adds_7 (by decide) ?_
  refine md_ald_m C hW (i := 2) (by omega) dX10_adds_8 ?_
  refine r_eq (y := (nI n)) (hn) ?_
  refine r_imulN hx hb (a := 4) (b := n) dX10_adds_9 ?_
  refine r_iaddN hx hb (a := 29) (b := 4 * n) dX10_adds_10 ?_
  refine lv_istore (lv' := [(4, .int (nI (29 + 4 * n))), (0, .ref (ad 0)), (1, .int p0), (2, .int x), (3, .int w)]) hx hb dX10_adds_11 hl (by decide) rfl (fun ls hl => ?_)
  refine lv_aload_n hx hb dX10_adds_13 rfl (lv_at hl 1 rfl) ?_
  refine md_geta_m C hW dX10_adds_14 ?_
  refine lv_iload hx hb dX10_adds_17 (lv_at hl 0 rfl) ?_
  refine lv_aload_n hx hb dX10_adds_19 rfl (lv_at hl 1 rfl) ?_
  refine md_geta_m C hW dX10_adds_20 ?_
  refine lv_iconst (v := nI 1) hx hb dX10_adds_23 (by decide) ?_
  refine md_ald_m C hW (i := 1) (by omega) dX10_adds_24 ?_
  refine md_ast_m C hW (i := 29 + 4 * n) (by omega) dX10_adds_25 (fun H locs hW => ?_)
  refine lv_aload_n hx hb dX10_adds_26 rfl (lv_at hl 1 rfl) ?_
  refine md_geta_m C hW dX10_adds_27 ?_
  refine lv_iload hx hb dX10_adds_30 (lv_at hl 0 rfl) ?_
  refine lv_iconst (v := nI 1) hx hb dX10_adds_32 (by decide) ?_
  refine r_iaddN hx hb (a := 29 + 4 * n) (b := 1) dX10_adds_33 ?_
  refine lv_iload_n hx hb dX10_adds_34 rfl (lv_at hl 2 rfl) ?_
  refine md_ast_m C hW (i := 29 + 4 * n + 1) (by omega) dX10_adds_35 (fun H locs hW => ?_)
  refine lv_aload_n hx hb dX10_adds_36 rfl (lv_at hl 1 rfl) ?_
  refine md_geta_m C hW dX10_adds_37 ?_
  refine lv_iload hx hb dX10_adds_40 (lv_at hl 0 rfl) ?_
  refine lv_iconst (v := nI 2) hx hb dX10_adds_42 (by decide) ?_
  refine r_iaddN hx hb (a := 29 + 4 * n) (b := 2) dX10_adds_43 ?_
  refine lv_iload_n hx hb dX10_adds_44 rfl (lv_at hl 3 rfl) ?_
  refine md_ast_m C hW (i := 29 + 4 * n + 2) (by omega) dX10_adds_45 (fun H locs hW => ?_)
  refine lv_aload_n hx hb dX10_adds_46 rfl (lv_at hl 1 rfl) ?_
  refine md_geta_m C hW dX10_adds_47 ?_
  refine lv_iload hx hb dX10_adds_50 (lv_at hl 0 rfl) ?_
  refine lv_iconst (v := nI 3) hx hb dX10_adds_52 (by decide) ?_
  refine r_iaddN hx hb (a := 29 + 4 * n) (b := 3) dX10_adds_53 ?_
  refine lv_iload_n hx hb dX10_adds_54 rfl (lv_at hl 4 rfl) ?_
  refine md_ast_m C hW (i := 29 + 4 * n + 3) (by omega) dX10_adds_55 (fun H locs hW => ?_)
  refine lv_aload_n hx hb dX10_adds_56 rfl (lv_at hl 1 rfl) ?_
  refine md_geta_m C hW dX10_adds_57 ?_
  refine lv_iconst (v := nI 2) hx hb dX10_adds_60 (by decide) ?_
  refine lv_dup2_11 hx hb dX10_adds_61 rfl rfl ?_
  refine md_ald_m C hW (i := 2) (by omega) dX10_adds_62 ?_
  refine r_eq (y := (nI n)) (by simp only [sr, upd, ↓reduceIte]; (repeat rw [if_neg (by omega)]); exact hn) ?_
  refine lv_iconst (v := nI 1) hx hb dX10_adds_63 (by decide) ?_
  refine r_iaddN hx hb (a := n) (b := 1) dX10_adds_64 ?_
  refine md_ast_m C hW (i := 2) (by omega) dX10_adds_65 (fun H locs hW => ?_)
  refine lv_aload_n hx hb dX10_adds_66 rfl (lv_at hl 1 rfl) ?_
  refine md_geta_m C hW dX10_adds_67 ?_
  refine lv_iconst (v := nI 1) hx hb dX10_adds_70 (by decide) ?_
  refine lv_dup2_11 hx hb dX10_adds_71 rfl rfl ?_
  refine md_ald_m C hW (i := 1) (by omega) dX10_adds_72 ?_
  refine r_eq (y := (S 0 1)) (by simp only [sr, upd, ↓reduceIte]; (repeat rw [if_neg (by omega)]); first | done | rfl) ?_
  refine lv_iconst (v := nI 1) hx hb dX10_adds_73 (by decide) ?_
  refine lv_iadd hx hb dX10_adds_74 ?_
  refine md_ast_m C hW (i := 1) (by omega) dX10_adds_75 (fun H locs hW => ?_)
  refine lv_aload_n hx hb dX10_adds_76 rfl (lv_at hl 1 rfl) ?_
  refine md_geta_m C hW dX10_adds_77 ?_
  refine lv_iload hx hb dX10_adds_80 (lv_at hl 0 rfl) ?_
  refine md_ald_m C hW (i := 29 + 4 * n) (by omega) dX10_adds_82 ?_
  refine r_eq (y := (S 0 1)) (by simp only [sr, upd, ↓reduceIte]; (repeat rw [if_neg (by omega)]); first | done | rw [if_pos rfl] | rfl) ?_
  exact md_iret C hr hlocks rfl hW (⟨rfl, by simp only [sr_sr, sr_s]; rfl⟩) dX10_adds_83
theorem gT_drops : GoodIn gw (wsV RX10 128 RX10 yX10_drops (Cond.code yX10_drops cX10_drops 3 (none) :: gw)) := gdV gw_1773 gw_1775 gw_34 gw_81 gw_1776
theorem hd_drops : yX10_drops.cls = RX10 ∧ yX10_drops.cls ≠ "java/lang/invoke/MethodHandle" ∧ yX10_drops.cls ≠ "java/lang/invoke/VarHandle" ∧ (parseMethodDescriptor yX10_drops.desc).map (fun d => d.parameters.length) = some 1 := ⟨rfl, by decide +kernel, by decide +kernel, by decide +kernel⟩
theorem dX10_drops_0 : decode cX10_drops 0 = .ok (.bipush 29, 2) := by decide +kernel
theorem dX10_drops_2 : decode cX10_drops 2 = .ok (.iconst 4, 1) := by decide +kernel
theorem dX10_drops_3 : decode cX10_drops 3 = .ok (.iload_n 1, 1) := by decide +kernel
theorem dX10_drops_4 : decode cX10_drops 4 = .ok (.imul, 1) := by decide +kernel
theorem dX10_drops_5 : decode cX10_drops 5 = .ok (.iadd, 1) := by decide +kernel
theorem dX10_drops_6 : decode cX10_drops 6 = .ok (.istore_n 2, 1) := by decide +kernel
theorem dX10_drops_7 : decode cX10_drops 7 = .ok (.iload_n 2, 1) := by decide +kernel
theorem dX10_drops_8 : decode cX10_drops 8 = .ok (.bipush 73, 2) := by decide +kernel
theorem dX10_drops_10 : decode cX10_drops 10 = .ok (.if_icmp .ge 23, 3) := by decide +kernel
theorem dX10_drops_13 : decode cX10_drops 13 = .ok (.aload_n 0, 1) := by decide +kernel
theorem dX10_drops_14 : decode cX10_drops 14 = .ok (.getfield 9, 3) := by decide +kernel
theorem dX10_drops_17 : decode cX10_drops 17 = .ok (.iload_n 2, 1) := by decide +kernel
theorem dX10_drops_18 : decode cX10_drops 18 = .ok (.aload_n 0, 1) := by decide +kernel
theorem dX10_drops_19 : decode cX10_drops 19 = .ok (.getfield 9, 3) := by decide +kernel
theorem dX10_drops_22 : decode cX10_drops 22 = .ok (.iload_n 2, 1) := by decide +kernel
theorem dX10_drops_23 : decode cX10_drops 23 = .ok (.iconst 4, 1) := by decide +kernel
theorem dX10_drops_24 : decode cX10_drops 24 = .ok (.iadd, 1) := by decide +kernel
theorem dX10_drops_25 : decode cX10_drops 25 = .ok (.iaload, 1) := by decide +kernel
theorem dX10_drops_26 : decode cX10_drops 26 = .ok (.iastore, 1) := by decide +kernel
theorem dX10_drops_27 : decode cX10_drops 27 = .ok (.iinc 2 1, 3) := by decide +kernel
theorem dX10_drops_30 : decode cX10_drops 30 = .ok (.goto (-23), 3) := by decide +kernel
theorem dX10_drops_33 : decode cX10_drops 33 = .ok (.bipush 73, 2) := by decide +kernel
theorem dX10_drops_35 : decode cX10_drops 35 = .ok (.istore_n 2, 1) := by decide +kernel
theorem dX10_drops_36 : decode cX10_drops 36 = .ok (.iload_n 2, 1) := by decide +kernel
theorem dX10_drops_37 : decode cX10_drops 37 = .ok (.bipush 77, 2) := by decide +kernel
theorem dX10_drops_39 : decode cX10_drops 39 = .ok (.if_icmp .ge 16, 3) := by decide +kernel
theorem dX10_drops_42 : decode cX10_drops 42 = .ok (.aload_n 0, 1) := by decide +kernel
theorem dX10_drops_43 : decode cX10_drops 43 = .ok (.getfield 9, 3) := by decide +kernel
theorem dX10_drops_46 : decode cX10_drops 46 = .ok (.iload_n 2, 1) := by decide +kernel
theorem dX10_drops_47 : decode cX10_drops 47 = .ok (.iconst 0, 1) := by decide +kernel
theorem dX10_drops_48 : decode cX10_drops 48 = .ok (.iastore, 1) := by decide +kernel
theorem dX10_drops_49 : decode cX10_drops 49 = .ok (.iinc 2 1, 3) := by decide +kernel
theorem dX10_drops_52 : decode cX10_drops 52 = .ok (.goto (-16), 3) := by decide +kernel
theorem dX10_drops_55 : decode cX10_drops 55 = .ok (.aload_n 0, 1) := by decide +kernel
theorem dX10_drops_56 : decode cX10_drops 56 = .ok (.getfield 9, 3) := by decide +kernel
theorem dX10_drops_59 : decode cX10_drops 59 = .ok (.iconst 2, 1) := by decide +kernel
theorem dX10_drops_60 : decode cX10_drops 60 = .ok (.dup2, 1) := by decide +kernel
theorem dX10_drops_61 : decode cX10_drops 61 = .ok (.iaload, 1) := by decide +kernel
theorem dX10_drops_62 : decode cX10_drops 62 = .ok (.iconst 1, 1) := by decide +kernel
theorem dX10_drops_63 : decode cX10_drops 63 = .ok (.isub, 1) := by decide +kernel
theorem dX10_drops_64 : decode cX10_drops 64 = .ok (.iastore, 1) := by decide +kernel
theorem dX10_drops_65 : decode cX10_drops 65 = .ok (.return_, 1) := by decide +kernel
set_option maxHeartbeats 1000000 in
set_option maxRecDepth 20000 in
theorem m_drops (l : Launch) (D : va_G) (aT : Nat → ClassId) (ad : Nat → Nat) (S : MSt) (n k : Nat) (hn : S 0 2 = nI n) (h12 : n ≤ 12) (hk : k < n) : MdV l yX10_drops cX10_drops 3 0 0 D aT ad [.ref (ad 0), .int (nI k)] S (fun S1 => S1 = sr S 0 (dropF (S 0) k n)) := by
  refine MdV.of (by decide +kernel) rfl (Nat.le_of_ble_eq_true rfl) ?_
  intro p e s m below meth c A ls C hml hl hA hr hlocks hW
  have hl : lv_has ls 3 [(0, .ref (ad 0)), (1, .int (nI k))] := hl
  have hx := C.1
  have hb := C.2.1
  refine lv_bipush (v := nI 29) hx hb dX10_drops_0 (by decide) ?_
  refine lv_iconst (v := nI 4) hx hb dX10_drops_2 (by decide) ?_
  refine lv_iload_n hx hb dX10_drops_3 rfl (lv_at hl 1 rfl) ?_
  refine r_imulN hx hb (a := 4) (b := k) dX10_drops_4 ?_
  refine r_iaddN hx hb (a := 29) (b := 4 * k) dX10_drops_5 ?_
  refine lv_istore_n (lv' := [(2, .int (nI (29 + 4 * k))), (0, .ref (ad 0)), (1, .int (nI k))]) hx hb dX10_drops_6 rfl hl (by decide) rfl (fun ls hl => ?_)
  refine W_loopH (σ := Nat) (fun z_ => 73 - z_) (fun z_ H locs g => ∃ ls, g = F0 m 7 ls [] ∧ lv_has ls 3 [(0, .ref (ad 0)), (1, .int (nI k)), (2, .int (nI z_))] ∧ MdB D aT ad (sr S 0 (drpF (S 0) k z_)) A s.heap H locs ∧ (29 + 4 * k ≤ z_ ∧ z_ ≤ 73)) ?_ (29 + 4 * k) _ ⟨_, rfl, lv_sub hl [1, 2, 0] rfl, (by rw [drpF_0, sr_self]; exact hW), ⟨Nat.le_refl _, by omega⟩⟩
  clear hW hl
  rintro i H locs g ⟨ls, rfl, hl, hW, hi1, hi2⟩ ih
  refine lv_iload_n hx hb dX10_drops_7 rfl (lv_at hl 2 rfl) ?_
  refine lv_bipush (v := nI 73) hx hb dX10_drops_8 (by decide) ?_
  refine r_geN hx hb (a := i) (b := 73) (by omega) (by omega) (tgt := 33) dX10_drops_10 (by decide) (fun c_10 => ?_) (fun c_10 => ?_)
  · refine lv_bipush (v := nI 73) hx hb dX10_drops_33 (by decide) ?_
    refine lv_istore_n (lv' := [(2, .int (nI 73)), (0, .ref (ad 0)), (1, .int (nI k))]) hx hb dX10_drops_35 rfl hl (by decide) rfl (fun ls hl => ?_)
    refine W_loopH (σ := Nat) (fun z_ => 77 - z_) (fun z_ H locs g => ∃ ls, g = F0 m 36 ls [] ∧ lv_has ls 3 [(0, .ref (ad 0)), (1, .int (nI k)), (2, .int (nI z_))] ∧ MdB D aT ad (sr S 0 (drzF (S 0) k z_)) A s.heap H locs ∧ (73 ≤ z_ ∧ z_ ≤ 77)) ?_ 73 _ ⟨_, rfl, lv_sub hl [1, 2, 0] rfl, (by rw [drzF_0]; rw [show i = 73 by omega] at hW; exact hW), ⟨by omega, by omega⟩⟩
    clear hW hl
    rintro j H locs g ⟨ls, rfl, hl, hW, hj1, hj2⟩ ih
    refine lv_iload_n hx hb dX10_drops_36 rfl (lv_at hl 2 rfl) ?_
    refine lv_bipush (v := nI 77) hx hb dX10_drops_37 (by decide) ?_
    refine r_geN hx hb (a := j) (b := 77) (by omega) (by omega) (tgt := 55) dX10_drops_39 (by decide) (fun c_39 => ?_) (fun c_39 => ?_)
    · refine lv_aload_n hx hb dX10_drops_55 rfl (lv_at hl 0 rfl) ?_
      refine md_geta_m C hW dX10_drops_56 ?_
      refine lv_iconst (v := nI 2) hx hb dX10_drops_59 (by decide) ?_
      refine lv_dup2_11 hx hb dX10_drops_60 rfl rfl ?_
      refine md_ald_m C hW (i := 2) (by omega) dX10_drops_61 ?_
      refine r_eq (y := (nI n)) (by show drzF (S 0) k j 2 = nI n; unfold drzF drpF; rw [if_neg (by omega), if_neg (by omega)]; exact hn) ?_
      refine lv_iconst (v := nI 1) hx hb dX10_drops_62 (by decide) ?_
      refine r_isubN hx hb (a := n) (b := 1) (by omega) dX10_drops_63 ?_
      refine md_ast_m C hW (i := 2) (by omega) dX10_drops_64 (fun H locs hW => ?_)
      exact md_vret C hr hlocks hW (by rw [sr_sr, sr_s, show j = 77 by omega]; rfl) dX10_drops_65
    · refine lv_aload_n hx hb dX10_drops_42 rfl (lv_at hl 0 rfl) ?_
      refine md_geta_m C hW dX10_drops_43 ?_
      refine lv_iload_n hx hb dX10_drops_46 rfl (lv_at hl 2 rfl) ?_
      refine lv_iconst (v := nI 0) hx hb dX10_drops_47 (by decide) ?_
      refine md_ast_m C hW (i := j) (by omega) dX10_drops_48 (fun H locs hW => ?_)
      refine lv_iinc (v := (nI (j + 1))) (lv' := [(2, .int (nI (j + 1))), (0, .ref (ad 0)), (1, .int (nI k))]) hx hb dX10_drops_49 hl (k := 2) rfl (nI_1 _) (by decide) rfl (fun ls hl => ?_)
      refine lv_goto (tgt := 36) hx hb dX10_drops_52 (by decide) ?_
      exact ih (j + 1) _ _ _ (by omega) ⟨_, rfl, lv_sub hl [1, 2, 0] rfl, (by rw [sr_sr, sr_s, drzF_1 _ _ _ hj1] at hW; exact hW), ⟨by omega, by omega⟩⟩
  · refine lv_aload_n hx hb dX10_drops_13 rfl (lv_at hl 0 rfl) ?_
    refine md_geta_m C hW dX10_drops_14 ?_
    refine lv_iload_n hx hb dX10_drops_17 rfl (lv_at hl 2 rfl) ?_
    refine lv_aload_n hx hb dX10_drops_18 rfl (lv_at hl 0 rfl) ?_
    refine md_geta_m C hW dX10_drops_19 ?_
    refine lv_iload_n hx hb dX10_drops_22 rfl (lv_at hl 2 rfl) ?_
    refine lv_iconst (v := nI 4) hx hb dX10_drops_23 (by decide) ?_
    refine r_iaddN hx hb (a := i) (b := 4) dX10_drops_24 ?_
    refine md_ald_m C hW (i := i + 4) (by omega) dX10_drops_25 ?_
    refine md_ast_m C hW (i := i) (by omega) dX10_drops_26 (fun H locs hW => ?_)
    refine lv_iinc (v := (nI (i + 1))) (lv' := [(2, .int (nI (i + 1))), (0, .ref (ad 0)), (1, .int (nI k))]) hx hb dX10_drops_27 hl (k := 2) rfl (nI_1 _) (by decide) rfl (fun ls hl => ?_)
    refine lv_goto (tgt := 7) hx hb dX10_drops_30 (by decide) ?_
    exact ih (i + 1) _ _ _ (by omega) ⟨_, rfl, lv_sub hl [1, 2, 0] rfl, (by rw [sr_sr, sr_s, drpF_1 _ _ _ hi1] at hW; exact hW), ⟨by omega, by omega⟩⟩
theorem gT_starts : GoodIn gw (wsV RX10 104 RX10 yX10_starts (Cond.code yX10_starts cX10_starts 2 (none) :: gw)) := gdV gw_1700 gw_1702 gw_21 gw_81 gw_1703
theorem hd_starts : yX10_starts.cls = RX10 ∧ yX10_starts.cls ≠ "java/lang/invoke/MethodHandle" ∧ yX10_starts.cls ≠ "java/lang/invoke/VarHandle" ∧ (parseMethodDescriptor yX10_starts.desc).map (fun d => d.parameters.length) = some 0 := ⟨rfl, by decide +kernel, by decide +kernel, by decide +kernel⟩
theorem dX10_starts_0 : decode cX10_starts 0 = .ok (.aload_n 0, 1) := by decide +kernel
theorem dX10_starts_1 : decode cX10_starts 1 = .ok (.iconst 0, 1) := by decide +kernel
theorem dX10_starts_2 : decode cX10_starts 2 = .ok (.putfield 57, 3) := by decide +kernel
theorem dX10_starts_5 : decode cX10_starts 5 = .ok (.iconst 0, 1) := by decide +kernel
theorem dX10_starts_6 : decode cX10_starts 6 = .ok (.istore_n 1, 1) := by decide +kernel
theorem dX10_starts_7 : decode cX10_starts 7 = .ok (.iload_n 1, 1) := by decide +kernel
theorem dX10_starts_8 : decode cX10_starts 8 = .ok (.bipush 77, 2) := by decide +kernel
theorem dX10_starts_10 : decode cX10_starts 10 = .ok (.if_icmp .ge 21, 3) := by decide +kernel
theorem dX10_starts_13 : decode cX10_starts 13 = .ok (.aload_n 0, 1) := by decide +kernel
theorem dX10_starts_14 : decode cX10_starts 14 = .ok (.getfield 13, 3) := by decide +kernel
theorem dX10_starts_17 : decode cX10_starts 17 = .ok (.iload_n 1, 1) := by decide +kernel
theorem dX10_starts_18 : decode cX10_starts 18 = .ok (.aload_n 0, 1) := by decide +kernel
theorem dX10_starts_19 : decode cX10_starts 19 = .ok (.getfield 9, 3) := by decide +kernel
theorem dX10_starts_22 : decode cX10_starts 22 = .ok (.iload_n 1, 1) := by decide +kernel
theorem dX10_starts_23 : decode cX10_starts 23 = .ok (.iaload, 1) := by decide +kernel
theorem dX10_starts_24 : decode cX10_starts 24 = .ok (.iastore, 1) := by decide +kernel
theorem dX10_starts_25 : decode cX10_starts 25 = .ok (.iinc 1 1, 3) := by decide +kernel
theorem dX10_starts_28 : decode cX10_starts 28 = .ok (.goto (-21), 3) := by decide +kernel
theorem dX10_starts_31 : decode cX10_starts 31 = .ok (.return_, 1) := by decide +kernel
set_option maxHeartbeats 1000000 in
set_option maxRecDepth 20000 in
theorem m_starts (l : Launch) (D : va_G) (aT : Nat → ClassId) (ad : Nat → Nat) (S : MSt) : MdV l yX10_starts cX10_starts 2 0 0 D aT ad [.ref (ad 0)] S (fun S1 => S1 = sr (ss S 8 (nI 0)) 1 (cpyF (S 1) (S 0) 77)) := by
  refine MdV.of (by decide +kernel) rfl (Nat.le_of_ble_eq_true rfl) ?_
  intro p e s m below meth c A ls C hml hl hA hr hlocks hW
  have hl : lv_has ls 2 [(0, .ref (ad 0))] := hl
  have hx := C.1
  have hb := C.2.1
  refine lv_aload_n hx hb dX10_starts_0 rfl (lv_at hl 0 rfl) ?_
  refine lv_iconst (v := nI 0) hx hb dX10_starts_1 (by decide) ?_
  refine md_put_thrown C hW dX10_starts_2 (fun H locs hW => ?_)
  refine lv_iconst (v := nI 0) hx hb dX10_starts_5 (by decide) ?_
  refine lv_istore_n (lv' := [(1, .int (nI 0)), (0, .ref (ad 0))]) hx hb dX10_starts_6 rfl hl (by decide) rfl (fun ls hl => ?_)
  refine W_loopH (σ := Nat) (fun z_ => 77 - z_) (fun z_ H locs g => ∃ ls, g = F0 m 7 ls [] ∧ lv_has ls 2 [(0, .ref (ad 0)), (1, .int (nI z_))] ∧ MdB D aT ad (sr (ss S 8 (nI 0)) 1 (cpyF (S 1) (S 0) z_)) A s.heap H locs ∧ (z_ ≤ 77)) ?_ 0 _ ⟨_, rfl, lv_sub hl [1, 0] rfl, (by rw [cpyF_0, show S 1 = (ss S 8 (nI 0)) 1 from rfl, sr_self]; exact hW), Nat.zero_le _⟩
  clear hW hl
  rintro i H locs g ⟨ls, rfl, hl, hW, hi⟩ ih
  refine lv_iload_n hx hb dX10_starts_7 rfl (lv_at hl 1 rfl) ?_
  refine lv_bipush (v := nI 77) hx hb dX10_starts_8 (by decide) ?_
  refine r_geN hx hb (a := i) (b := 77) (by omega) (by omega) (tgt := 31) dX10_starts_10 (by decide) (fun c_10 => ?_) (fun c_10 => ?_)
  · exact md_vret C hr hlocks hW (by rw [show i = 77 by omega]) dX10_starts_31
  · refine lv_aload_n hx hb dX10_starts_13 rfl (lv_at hl 0 rfl) ?_
    refine md_geta_aside C hW dX10_starts_14 ?_
    refine lv_iload_n hx hb dX10_starts_17 rfl (lv_at hl 1 rfl) ?_
    refine lv_aload_n hx hb dX10_starts_18 rfl (lv_at hl 0 rfl) ?_
    refine md_geta_m C hW dX10_starts_19 ?_
    refine lv_iload_n hx hb dX10_starts_22 rfl (lv_at hl 1 rfl) ?_
    refine md_ald_m C hW (i := i) (by omega) dX10_starts_23 ?_
    refine r_eq (y := (S 0 i)) (rfl) ?_
    refine md_ast_aside C hW (i := i) (by omega) dX10_starts_24 (fun H locs hW => ?_)
    refine lv_iinc (v := (nI (i + 1))) (lv' := [(1, .int (nI (i + 1))), (0, .ref (ad 0))]) hx hb dX10_starts_25 hl (k := 1) rfl (nI_1 _) (by decide) rfl (fun ls hl => ?_)
    refine lv_goto (tgt := 7) hx hb dX10_starts_28 (by decide) ?_
    exact ih (i + 1) _ _ _ (by omega) ⟨_, rfl, lv_sub hl [1, 0] rfl, (by rw [sr_sr, sr_s, cpyF_1] at hW; exact hW), (by omega)⟩
theorem gT_changed : GoodIn gw (wsV RX10 111 RX10 yX10_changed (Cond.code yX10_changed cX10_changed 3 (some .int) :: gw)) := gdV gw_1720 gw_1722 gw_24 gw_81 gw_1723
theorem hd_changed : yX10_changed.cls = RX10 ∧ yX10_changed.cls ≠ "java/lang/invoke/MethodHandle" ∧ yX10_changed.cls ≠ "java/lang/invoke/VarHandle" ∧ (parseMethodDescriptor yX10_changed.desc).map (fun d => d.parameters.length) = some 1 := ⟨rfl, by decide +kernel, by decide +kernel, by decide +kernel⟩
theorem dX10_changed_0 : decode cX10_changed 0 = .ok (.aload_n 0, 1) := by decide +kernel
theorem dX10_changed_1 : decode cX10_changed 1 = .ok (.getfield 57, 3) := by decide +kernel
theorem dX10_changed_4 : decode cX10_changed 4 = .ok (.ifCond .le 5, 3) := by decide +kernel
theorem dX10_changed_7 : decode cX10_changed 7 = .ok (.iload_n 1, 1) := by decide +kernel
theorem dX10_changed_8 : decode cX10_changed 8 = .ok (.ireturn, 1) := by decide +kernel
theorem dX10_changed_9 : decode cX10_changed 9 = .ok (.aload_n 0, 1) := by decide +kernel
theorem dX10_changed_10 : decode cX10_changed 10 = .ok (.getfield 60, 3) := by decide +kernel
theorem dX10_changed_13 : decode cX10_changed 13 = .ok (.bipush 8, 2) := by decide +kernel
theorem dX10_changed_15 : decode cX10_changed 15 = .ok (.if_icmp .ne 43, 3) := by decide +kernel
theorem dX10_changed_18 : decode cX10_changed 18 = .ok (.iconst 0, 1) := by decide +kernel
theorem dX10_changed_19 : decode cX10_changed 19 = .ok (.istore_n 2, 1) := by decide +kernel
theorem dX10_changed_20 : decode cX10_changed 20 = .ok (.iload_n 2, 1) := by decide +kernel
theorem dX10_changed_21 : decode cX10_changed 21 = .ok (.sipush 539, 3) := by decide +kernel
theorem dX10_changed_24 : decode cX10_changed 24 = .ok (.if_icmp .ge 24, 3) := by decide +kernel
theorem dX10_changed_27 : decode cX10_changed 27 = .ok (.aload_n 0, 1) := by decide +kernel
theorem dX10_changed_28 : decode cX10_changed 28 = .ok (.getfield 19, 3) := by decide +kernel
theorem dX10_changed_31 : decode cX10_changed 31 = .ok (.iload_n 2, 1) := by decide +kernel
theorem dX10_changed_32 : decode cX10_changed 32 = .ok (.aload_n 0, 1) := by decide +kernel
theorem dX10_changed_33 : decode cX10_changed 33 = .ok (.getfield 19, 3) := by decide +kernel
theorem dX10_changed_36 : decode cX10_changed 36 = .ok (.iload_n 2, 1) := by decide +kernel
theorem dX10_changed_37 : decode cX10_changed 37 = .ok (.bipush 77, 2) := by decide +kernel
theorem dX10_changed_39 : decode cX10_changed 39 = .ok (.iadd, 1) := by decide +kernel
theorem dX10_changed_40 : decode cX10_changed 40 = .ok (.iaload, 1) := by decide +kernel
theorem dX10_changed_41 : decode cX10_changed 41 = .ok (.iastore, 1) := by decide +kernel
theorem dX10_changed_42 : decode cX10_changed 42 = .ok (.iinc 2 1, 3) := by decide +kernel
theorem dX10_changed_45 : decode cX10_changed 45 = .ok (.goto (-25), 3) := by decide +kernel
theorem dX10_changed_48 : decode cX10_changed 48 = .ok (.aload_n 0, 1) := by decide +kernel
theorem dX10_changed_49 : decode cX10_changed 49 = .ok (.dup, 1) := by decide +kernel
theorem dX10_changed_50 : decode cX10_changed 50 = .ok (.getfield 60, 3) := by decide +kernel
theorem dX10_changed_53 : decode cX10_changed 53 = .ok (.iconst 1, 1) := by decide +kernel
theorem dX10_changed_54 : decode cX10_changed 54 = .ok (.isub, 1) := by decide +kernel
theorem dX10_changed_55 : decode cX10_changed 55 = .ok (.putfield 60, 3) := by decide +kernel
theorem dX10_changed_58 : decode cX10_changed 58 = .ok (.iconst 0, 1) := by decide +kernel
theorem dX10_changed_59 : decode cX10_changed 59 = .ok (.istore_n 2, 1) := by decide +kernel
theorem dX10_changed_60 : decode cX10_changed 60 = .ok (.iload_n 2, 1) := by decide +kernel
theorem dX10_changed_61 : decode cX10_changed 61 = .ok (.bipush 77, 2) := by decide +kernel
theorem dX10_changed_63 : decode cX10_changed 63 = .ok (.if_icmp .ge 29, 3) := by decide +kernel
theorem dX10_changed_66 : decode cX10_changed 66 = .ok (.aload_n 0, 1) := by decide +kernel
theorem dX10_changed_67 : decode cX10_changed 67 = .ok (.getfield 19, 3) := by decide +kernel
theorem dX10_changed_70 : decode cX10_changed 70 = .ok (.bipush 77, 2) := by decide +kernel
theorem dX10_changed_72 : decode cX10_changed 72 = .ok (.aload_n 0, 1) := by decide +kernel
theorem dX10_changed_73 : decode cX10_changed 73 = .ok (.getfield 60, 3) := by decide +kernel
theorem dX10_changed_76 : decode cX10_changed 76 = .ok (.imul, 1) := by decide +kernel
theorem dX10_changed_77 : decode cX10_changed 77 = .ok (.iload_n 2, 1) := by decide +kernel
theorem dX10_changed_78 : decode cX10_changed 78 = .ok (.iadd, 1) := by decide +kernel
theorem dX10_changed_79 : decode cX10_changed 79 = .ok (.aload_n 0, 1) := by decide +kernel
theorem dX10_changed_80 : decode cX10_changed 80 = .ok (.getfield 13, 3) := by decide +kernel
theorem dX10_changed_83 : decode cX10_changed 83 = .ok (.iload_n 2, 1) := by decide +kernel
theorem dX10_changed_84 : decode cX10_changed 84 = .ok (.iaload, 1) := by decide +kernel
theorem dX10_changed_85 : decode cX10_changed 85 = .ok (.iastore, 1) := by decide +kernel
theorem dX10_changed_86 : decode cX10_changed 86 = .ok (.iinc 2 1, 3) := by decide +kernel
theorem dX10_changed_89 : decode cX10_changed 89 = .ok (.goto (-29), 3) := by decide +kernel
theorem dX10_changed_92 : decode cX10_changed 92 = .ok (.aload_n 0, 1) := by decide +kernel
theorem dX10_changed_93 : decode cX10_changed 93 = .ok (.dup, 1) := by decide +kernel
theorem dX10_changed_94 : decode cX10_changed 94 = .ok (.getfield 60, 3) := by decide +kernel
theorem dX10_changed_97 : decode cX10_changed 97 = .ok (.iconst 1, 1) := by decide +kernel
theorem dX10_changed_98 : decode cX10_changed 98 = .ok (.iadd, 1) := by decide +kernel
theorem dX10_changed_99 : decode cX10_changed 99 = .ok (.putfield 60, 3) := by decide +kernel
theorem dX10_changed_102 : decode cX10_changed 102 = .ok (.iload_n 1, 1) := by decide +kernel
theorem dX10_changed_103 : decode cX10_changed 103 = .ok (.ireturn, 1) := by decide +kernel
set_option maxHeartbeats 1000000 in
set_option maxRecDepth 20000 in
theorem m_changed (l : Launch) (D : va_G) (aT : Nat → ClassId) (ad : Nat → Nat) (S : MSt) (t : Int32) (tt ch : Nat) (htt : S 13 8 = nI tt) (hlt : tt < 1024) (hch : S 13 5 = nI ch) (hc8 : ch ≤ 8) : MdI l yX10_changed cX10_changed 3 .int 0 0 D aT ad [.ref (ad 0), .int t] S (fun r S1 => r = t ∧ S1 = if tt = 0 then ss (sr S 3 (pstF (S 3) (S 1) ch)) 5 (nI (min ch 7 + 1)) else S) := by
  refine MdI.of (by decide +kernel) rfl (Nat.le_of_ble_eq_true rfl) ?_
  intro p e s m below meth c A ls C hml hl hA hr hlocks hW
  have hl : lv_has ls 3 [(0, .ref (ad 0)), (1, .int t)] := hl
  have hx := C.1
  have hb := C.2.1
  refine lv_aload_n hx hb dX10_changed_0 rfl (lv_at hl 0 rfl) ?_
  refine md_get_thrown C hW dX10_changed_1 ?_
  refine r_eq (y := (nI tt)) (htt) ?_
  refine r_ifleN hx hb (a := tt) (by omega) (tgt := 9) dX10_changed_4 (by decide) (fun c_4 => ?_) (fun c_4 => ?_)
  · refine lv_aload_n hx hb dX10_changed_9 rfl (lv_at hl 0 rfl) ?_
    refine md_get_changes C hW dX10_changed_10 ?_
    refine r_eq (y := (nI ch)) (hch) ?_
    refine lv_bipush (v := nI 8) hx hb dX10_changed_13 (by decide) ?_
    refine r_neN hx hb (a := ch) (b := 8) (by omega) (by omega) (tgt := 58) dX10_changed_15 (by decide) (fun c_15 => ?_) (fun c_15 => ?_)
    · refine lv_iconst (v := nI 0) hx hb dX10_changed_58 (by decide) ?_
      refine lv_istore_n (lv' := [(2, .int (nI 0)), (0, .ref (ad 0)), (1, .int t)]) hx hb dX10_changed_59 rfl hl (by decide) rfl (fun ls hl => ?_)
      refine W_loopH (σ := Nat) (fun z_ => 77 - z_) (fun z_ H locs g => ∃ ls, g = F0 m 60 ls [] ∧ lv_has ls 3 [(0, .ref (ad 0)), (1, .int t), (2, .int (nI z_))] ∧ MdB D aT ad (sr S 3 (putF (S 3) (S 1) (77 * ch) z_)) A s.heap H locs ∧ (z_ ≤ 77)) ?_ 0 _ ⟨_, rfl, lv_sub hl [1, 2, 0] rfl, (by rw [putF_0, sr_self]; exact hW), Nat.zero_le _⟩
      clear hW hl
      rintro j H locs g ⟨ls, rfl, hl, hW, hj⟩ ih
      refine lv_iload_n hx hb dX10_changed_60 rfl (lv_at hl 2 rfl) ?_
      refine lv_bipush (v := nI 77) hx hb dX10_changed_61 (by decide) ?_
      refine r_geN hx hb (a := j) (b := 77) (by omega) (by omega) (tgt := 92) dX10_changed_63 (by decide) (fun c_63 => ?_) (fun c_63 => ?_)
      · refine lv_aload_n hx hb dX10_changed_92 rfl (lv_at hl 0 rfl) ?_
        refine lv_dup hx hb dX10_changed_93 rfl ?_
        refine md_get_changes C hW dX10_changed_94 ?_
        refine r_eq (y := (nI ch)) (hch) ?_
        refine lv_iconst (v := nI 1) hx hb dX10_changed_97 (by decide) ?_
        refine r_iaddN hx hb (a := ch) (b := 1) dX10_changed_98 ?_
        refine md_put_changes C hW dX10_changed_99 (fun H locs hW => ?_)
        refine lv_iload_n hx hb dX10_changed_102 rfl (lv_at hl 1 rfl) ?_
        exact md_iret C hr hlocks rfl hW (⟨rfl, by rw [if_pos c_4, pstF, if_neg c_15, show min ch 7 = ch by omega, show j = 77 by omega]⟩) dX10_changed_103
      · refine lv_aload_n hx hb dX10_changed_66 rfl (lv_at hl 0 rfl) ?_
        refine md_geta_past C hW dX10_changed_67 ?_
        refine lv_bipush (v := nI 77) hx hb dX10_changed_70 (by decide) ?_
        refine lv_aload_n hx hb dX10_changed_72 rfl (lv_at hl 0 rfl) ?_
        refine md_get_changes C hW dX10_changed_73 ?_
        refine r_eq (y := (nI ch)) (hch) ?_
        refine r_imulN hx hb (a := 77) (b := ch) dX10_changed_76 ?_
        refine lv_iload_n hx hb dX10_changed_77 rfl (lv_at hl 2 rfl) ?_
        refine r_iaddN hx hb (a := 77 * ch) (b := j) dX10_changed_78 ?_
        refine lv_aload_n hx hb dX10_changed_79 rfl (lv_at hl 0 rfl) ?_
        refine md_geta_aside C hW dX10_changed_80 ?_
        refine lv_iload_n hx hb dX10_changed_83 rfl (lv_at hl 2 rfl) ?_
        refine md_ald_aside C hW (i := j) (by omega) dX10_changed_84 ?_
        refine r_eq (y := (S 1 j)) (rfl) ?_
        refine md_ast_past C hW (i := 77 * ch + j) (by omega) dX10_changed_85 (fun H locs hW => ?_)
        refine lv_iinc (v := (nI (j + 1))) (lv' := [(2, .int (nI (j + 1))), (0, .ref (ad 0)), (1, .int t)]) hx hb dX10_changed_86 hl (k := 2) rfl (nI_1 _) (by decide) rfl (fun ls hl => ?_)
        refine lv_goto (tgt := 60) hx hb dX10_changed_89 (by decide) ?_
        exact ih (j + 1) _ _ _ (by omega) ⟨_, rfl, lv_sub hl [1, 2, 0] rfl, (by rw [sr_sr, sr_s, putF_1] at hW; exact hW), (by omega)⟩
    · refine lv_iconst (v := nI 0) hx hb dX10_changed_18 (by decide) ?_
      refine lv_istore_n (lv' := [(2, .int (nI 0)), (0, .ref (ad 0)), (1, .int t)]) hx hb dX10_changed_19 rfl hl (by decide) rfl (fun ls hl => ?_)
      refine W_loopH (σ := Nat) (fun z_ => 539 - z_) (fun z_ H locs g => ∃ ls, g = F0 m 20 ls [] ∧ lv_has ls 3 [(0, .ref (ad 0)), (1, .int t), (2, .int (nI z_))] ∧ MdB D aT ad (sr S 3 (shF (S 3) z_)) A s.heap H locs ∧ (z_ ≤ 539)) ?_ 0 _ ⟨_, rfl, lv_sub hl [1, 2, 0] rfl, (by rw [shF_0, sr_self]; exact hW), Nat.zero_le _⟩
      clear hW hl
      rintro i H locs g ⟨ls, rfl, hl, hW, hi⟩ ih
      refine lv_iload_n hx hb dX10_changed_20 rfl (lv_at hl 2 rfl) ?_
      refine lv_sipush (v := nI 539) hx hb dX10_changed_21 (by decide) ?_
      refine r_geN hx hb (a := i) (b := 539) (by omega) (by omega) (tgt := 48) dX10_changed_24 (by decide) (fun c_24 => ?_) (fun c_24 => ?_)
      · refine lv_aload_n hx hb dX10_changed_48 rfl (lv_at hl 0 rfl) ?_
        refine lv_dup hx hb dX10_changed_49 rfl ?_
        refine md_get_changes C hW dX10_changed_50 ?_
        refine r_eq (y := (nI ch)) (hch) ?_
        refine lv_iconst (v := nI 1) hx hb dX10_changed_53 (by decide) ?_
        refine r_isubN hx hb (a := ch) (b := 1) (by omega) dX10_changed_54 ?_
        refine md_put_changes C hW dX10_changed_55 (fun H locs hW => ?_)
        have hW : MdB D aT ad (ss (sr S 3 (shF (S 3) i)) 5 (nI 7)) A s.heap H locs := by rw [show nI 7 = nI (ch - 1) by rw [c_15]]; exact hW
        refine lv_iconst (v := nI 0) hx hb dX10_changed_58 (by decide) ?_
        refine lv_istore_n (lv' := [(2, .int (nI 0)), (0, .ref (ad 0)), (1, .int t)]) hx hb dX10_changed_59 rfl hl (by decide) rfl (fun ls hl => ?_)
        refine W_loopH (σ := Nat) (fun z_ => 77 - z_) (fun z_ H locs g => ∃ ls, g = F0 m 60 ls [] ∧ lv_has ls 3 [(0, .ref (ad 0)), (1, .int t), (2, .int (nI z_))] ∧ MdB D aT ad (ss (sr S 3 (putF (shF (S 3) 539) (S 1) (77 * 7) z_)) 5 (nI 7)) A s.heap H locs ∧ (z_ ≤ 77)) ?_ 0 _ ⟨_, rfl, lv_sub hl [1, 2, 0] rfl, (by rw [putF_0]; rw [show i = 539 by omega] at hW; exact hW), Nat.zero_le _⟩
        clear hW hl
        rintro j H locs g ⟨ls, rfl, hl, hW, hj⟩ ih
        refine lv_iload_n hx hb dX10_changed_60 rfl (lv_at hl 2 rfl) ?_
        refine lv_bipush (v := nI 77) hx hb dX10_changed_61 (by decide) ?_
        refine r_geN hx hb (a := j) (b := 77) (by omega) (by omega) (tgt := 92) dX10_changed_63 (by decide) (fun c_63 => ?_) (fun c_63 => ?_)
        · refine lv_aload_n hx hb dX10_changed_92 rfl (lv_at hl 0 rfl) ?_
          refine lv_dup hx hb dX10_changed_93 rfl ?_
          refine md_get_changes C hW dX10_changed_94 ?_
          refine r_eq (y := (nI 7)) (ss_s _ _ _) ?_
          refine lv_iconst (v := nI 1) hx hb dX10_changed_97 (by decide) ?_
          refine r_iaddN hx hb (a := 7) (b := 1) dX10_changed_98 ?_
          refine md_put_changes C hW dX10_changed_99 (fun H locs hW => ?_)
          refine lv_iload_n hx hb dX10_changed_102 rfl (lv_at hl 1 rfl) ?_
          exact md_iret C hr hlocks rfl hW (⟨rfl, by rw [if_pos c_4, pstF, if_pos c_15, ss_ss, c_15, show j = 77 by omega]; rfl⟩) dX10_changed_103
        · refine lv_aload_n hx hb dX10_changed_66 rfl (lv_at hl 0 rfl) ?_
          refine md_geta_past C hW dX10_changed_67 ?_
          refine lv_bipush (v := nI 77) hx hb dX10_changed_70 (by decide) ?_
          refine lv_aload_n hx hb dX10_changed_72 rfl (lv_at hl 0 rfl) ?_
          refine md_get_changes C hW dX10_changed_73 ?_
          refine r_eq (y := (nI 7)) (ss_s _ _ _) ?_
          refine r_imulN hx hb (a := 77) (b := 7) dX10_changed_76 ?_
          refine lv_iload_n hx hb dX10_changed_77 rfl (lv_at hl 2 rfl) ?_
          refine r_iaddN hx hb (a := 77 * 7) (b := j) dX10_changed_78 ?_
          refine lv_aload_n hx hb dX10_changed_79 rfl (lv_at hl 0 rfl) ?_
          refine md_geta_aside C hW dX10_changed_80 ?_
          refine lv_iload_n hx hb dX10_changed_83 rfl (lv_at hl 2 rfl) ?_
          refine md_ald_aside C hW (i := j) (by omega) dX10_changed_84 ?_
          refine r_eq (y := (S 1 j)) (rfl) ?_
          refine md_ast_past C hW (i := 77 * 7 + j) (by omega) dX10_changed_85 (fun H locs hW => ?_)
          refine lv_iinc (v := (nI (j + 1))) (lv' := [(2, .int (nI (j + 1))), (0, .ref (ad 0)), (1, .int t)]) hx hb dX10_changed_86 hl (k := 2) rfl (nI_1 _) (by decide) rfl (fun ls hl => ?_)
          refine lv_goto (tgt := 60) hx hb dX10_changed_89 (by decide) ?_
          exact ih (j + 1) _ _ _ (by omega) ⟨_, rfl, lv_sub hl [1, 2, 0] rfl, (by rw [sr_ss _ _ _ _ _ (by decide), sr_sr, ss_n _ _ _ _ (by decide), sr_s, putF_1] at hW; exact hW), (by omega)⟩
      · refine lv_aload_n hx hb dX10_changed_27 rfl (lv_at hl 0 rfl) ?_
        refine md_geta_past C hW dX10_changed_28 ?_
        refine lv_iload_n hx hb dX10_changed_31 rfl (lv_at hl 2 rfl) ?_
        refine lv_aload_n hx hb dX10_changed_32 rfl (lv_at hl 0 rfl) ?_
        refine md_geta_past C hW dX10_changed_33 ?_
        refine lv_iload_n hx hb dX10_changed_36 rfl (lv_at hl 2 rfl) ?_
        refine lv_bipush (v := nI 77) hx hb dX10_changed_37 (by decide) ?_
        refine r_iaddN hx hb (a := i) (b := 77) dX10_changed_39 ?_
        refine md_ald_past C hW (i := i + 77) (by omega) dX10_changed_40 ?_
        refine md_ast_past C hW (i := i) (by omega) dX10_changed_41 (fun H locs hW => ?_)
        refine lv_iinc (v := (nI (i + 1))) (lv' := [(2, .int (nI (i + 1))), (0, .ref (ad 0)), (1, .int t)]) hx hb dX10_changed_42 hl (k := 2) rfl (nI_1 _) (by decide) rfl (fun ls hl => ?_)
        refine lv_goto (tgt := 20) hx hb dX10_changed_45 (by decide) ?_
        exact ih (i + 1) _ _ _ (by omega) ⟨_, rfl, lv_sub hl [1, 2, 0] rfl, (by rw [sr_sr, sr_s, shF_1] at hW; exact hW), (by omega)⟩
  · refine lv_iload_n hx hb dX10_changed_7 rfl (lv_at hl 1 rfl) ?_
    exact md_iret C hr hlocks rfl hW (⟨rfl, by rw [if_neg (by omega)]⟩) dX10_changed_8
end
section
/-- places behind and ahead of a motion that is taken out -/
def sk (k j : Nat) : Nat := if j < k then j else j + 1
def un (k i : Nat) : Nat := if i < k then i else i - 1
def drP (pr : Nat → Option Nat) (k : Nat) : Nat → Option Nat := fun j => (pr (sk k j)).map (un k)
theorem sk_un {k i : Nat} (h : i ≠ k) : sk k (un k i) = i := by
  unfold sk un; split <;> (try split) <;> omega
theorem un_sk {k j : Nat} : un k (sk k j) = j := by
  unfold sk un; split <;> (try split) <;> omega
theorem sk_inj {k i j : Nat} (h : sk k i = sk k j) : i = j := by
  unfold sk at h; split at h <;> split at h <;> omega
theorem sk_lt {k j n : Nat} (h : j < n - 1) : sk k j < n := by
  unfold sk; split <;> omega
theorem drP_ok {pr : Nat → Option Nat} {n k : Nat} (h : ParOk pr n) (ht : ∀ j, j < n → pr j ≠ some k) : ParOk (drP pr k) (n - 1) := by
  intro j i hj hp
  unfold drP at hp
  cases hq : pr (sk k j) with
  | none => rw [hq] at hp; cases hp
  | some q =>
    rw [hq] at hp
    have h1 := h _ _ (sk_lt hj) hq
    have h2 : q ≠ k := fun z => ht _ (sk_lt hj) (by rw [hq, z])
    have h3 : un k q = i := Option.some.inj hp
    unfold sk at h1
    unfold un at h3
    split at h1 <;> split at h3 <;> omega
theorem drP_dep {pr : Nat → Option Nat} {n k : Nat} (h : ParOk pr n) (ht : ∀ j, j < n → pr j ≠ some k) : ∀ j, j < n - 1 → dep (drP pr k) j = dep pr (sk k j) := by
  intro j
  induction j using Nat.strongRecOn with
  | _ j ih =>
    intro hj
    cases hq : pr (sk k j) with
    | none => rw [dep_none hq, dep_none (by unfold drP; rw [hq]; rfl)]
    | some q =>
      have hp : drP pr k j = some (un k q) := by unfold drP; rw [hq]; rfl
      have h2 : q ≠ k := fun z => ht _ (sk_lt hj) (by rw [hq, z])
      have h4 := drP_ok h ht j _ hj hp
      rw [dep_some h (sk_lt hj) hq, dep_some (drP_ok h ht) hj hp, ih _ h4 (by omega), sk_un h2]
theorem drP_anc {pr : Nat → Option Nat} {n k r : Nat} (h : ParOk pr n) (ht : ∀ j, j < n → pr j ≠ some k) : ∀ j, j < n - 1 → anc (drP pr k) r j = anc pr (sk k r) (sk k j) := by
  intro j
  induction j using Nat.strongRecOn with
  | _ j ih =>
    intro hj
    by_cases hr : j = r
    · subst hr; rw [anc_self, anc_self]
    · rw [anc_O (drP_ok h ht) hj hr, anc_O h (sk_lt hj) (fun z => hr (sk_inj z))]
      cases hq : pr (sk k j) with
      | none => rw [show drP pr k j = none by unfold drP; rw [hq]; rfl]; rfl
      | some q =>
        have hp : drP pr k j = some (un k q) := by unfold drP; rw [hq]; rfl
        have h2 : q ≠ k := fun z => ht _ (sk_lt hj) (by rw [hq, z])
        have h4 := drP_ok h ht j _ hj hp
        rw [hp]
        show anc (drP pr k) r (un k q) = anc pr (sk k r) q
        rw [ih _ h4 (by omega), sk_un h2]
theorem dropF_lo {m : Nat → Int32} {k n j : Nat} (h : j < 29 + 4 * k) (h2 : j ≠ 2) (h7 : j < 73) : dropF m k n j = m j := by
  unfold dropF drzF drpF
  rw [if_neg h2, if_neg (by omega), if_neg (by omega)]
theorem dropF_hi {m : Nat → Int32} {k n j : Nat} (h : 29 + 4 * k ≤ j) (h7 : j < 73) : dropF m k n j = m (j + 4) := by
  unfold dropF drzF drpF
  rw [if_neg (by omega), if_neg (by omega), if_pos (by omega)]
theorem dropF_at {m : Nat → Int32} {k n j w : Nat} (hj : 29 + 4 * j + w < 73) (hw : w < 4) : dropF m k n (29 + 4 * j + w) = m (29 + 4 * sk k j + w) := by
  unfold sk
  split
  · exact dropF_lo (by omega) (by omega) hj
  · rw [dropF_hi (by omega) hj]; congr 1; omega
theorem FoR.drop {m : Nat → Int32} {n : Nat} {idn : Nat → Nat} {pr : Nat → Option Nat} {tn : Nat → Nat} (h : FoR m n idn pr tn) {k : Nat} (hk : k < n) (ht : ∀ j, j < n → pr j ≠ some k) : FoR (dropF m k n) (n - 1) (fun j => idn (sk k j)) (drP pr k) (fun j => tn (sk k j)) := by
  obtain ⟨h1, h2, h3, h4, h5, h6, h7⟩ := h
  refine ⟨by unfold dropF; rw [if_pos rfl], by omega, fun j hj => ?_, fun j hj => ?_, drP_ok h5 ht, fun i j hi hj => h6 _ _ (by unfold sk; split <;> split <;> omega) (sk_lt hj), fun j hj => ?_⟩
  · have := dropF_at (m := m) (k := k) (n := n) (j := j) (w := 0) (by omega) (by omega)
    simp only [Nat.add_zero] at this
    rw [this]; exact h3 _ (sk_lt hj)
  · rw [dropF_at (by omega) (by omega), h4 _ (sk_lt hj)]
    congr 1
    unfold drP
    cases hq : pr (sk k j) with
    | none => rfl
    | some q =>
      have h2 : q ≠ k := fun z => ht _ (sk_lt hj) (by rw [hq, z])
      simp only [Option.map_some]
      rw [sk_un h2]
  · rw [dropF_at (by omega) (by omega)]; exact h7 _ (sk_lt hj)
theorem FoR.cong {m m' : Nat → Int32} {n : Nat} {idn : Nat → Nat} {pr : Nat → Option Nat} {tn : Nat → Nat} (h : FoR m n idn pr tn) (e : ∀ j, (j = 2 ∨ ∃ k w, k < 12 ∧ w < 3 ∧ j = 29 + 4 * k + w) → m' j = m j) : FoR m' n idn pr tn := by
  obtain ⟨h1, h2, h3, h4, h5, h6, h7⟩ := h
  refine ⟨by rw [e 2 (Or.inl rfl)]; exact h1, h2, fun j hj => ?_, fun j hj => ?_, h5, h6, fun j hj => ?_⟩
  · rw [show 29 + 4 * j = 29 + 4 * j + 0 from rfl, e _ (Or.inr ⟨j, 0, by omega, by omega, rfl⟩)]; exact h3 j hj
  · rw [e _ (Or.inr ⟨j, 1, by omega, by omega, rfl⟩)]; exact h4 j hj
  · rw [e _ (Or.inr ⟨j, 2, by omega, by omega, rfl⟩)]; exact h7 j hj
theorem HeR.cong {m m' : Nat → Int32} {h : Nat} {lv th ta : Nat → Nat} (H : HeR m h lv th ta) (e : ∀ j, (j = 0 ∨ (11 ≤ j ∧ j < 29)) → m' j = m j) : HeR m' h lv th ta := by
  obtain ⟨h1, h2, h3, h4, h5⟩ := H
  refine ⟨by rw [e 0 (Or.inl rfl)]; exact h1, h2, fun j hj => ?_, fun j hj => ?_, fun j hj => ?_⟩
  · rw [e _ (Or.inr (by omega))]; exact h3 j hj
  · rw [e _ (Or.inr (by omega))]; exact h4 j hj
  · rw [e _ (Or.inr (by omega))]; exact h5 j hj
/-- what a row says of its motions, read off it -/
def nM (m : Nat → Int32) : Nat := (m 2).toNatClampNeg
def idM (m : Nat → Int32) (k : Nat) : Nat := (m (29 + 4 * k)).toNatClampNeg
def prM (m : Nat → Int32) (k : Nat) : Option Nat := if m (29 + 4 * k + 1) = -1 then none else fnd (fun k => m (29 + 4 * k)) (m (29 + 4 * k + 1)) (nM m)
def tnM (m : Nat → Int32) (k : Nat) : Nat := (m (29 + 4 * k + 2)).toNatClampNeg
def FoW (m : Nat → Int32) : Prop := FoR m (nM m) (idM m) (prM m) (tnM m)
theorem FoR.n_eq {m : Nat → Int32} {n : Nat} {idn : Nat → Nat} {pr : Nat → Option Nat} {tn : Nat → Nat} (h : FoR m n idn pr tn) : nM m = n := by
  unfold nM; rw [h.1, nI_clamp (by have := h.2.1; omega)]
theorem FoR.pr_eq {m : Nat → Int32} {n : Nat} {idn : Nat → Nat} {pr : Nat → Option Nat} {tn : Nat → Nat} (h : FoR m n idn pr tn) {k : Nat} (hk : k < n) : prM m k = pr k := by
  unfold prM
  rw [h.n_eq]
  have e := h.2.2.2.1 k hk
  cases hq : pr k with
  | none => rw [e, hq]; exact if_pos rfl
  | some j =>
    have hj := h.par hk hq
    have h1 : ¬ m (29 + 4 * k + 1) = -1 := by
      rw [e, hq]
      intro z
      exact nI_m1 (q := idn j) (by have := (h.2.2.1 j hj).2; omega) z.symm
    rw [if_neg h1, e, hq]
    exact h.find hj
theorem FoR.w {m : Nat → Int32} {n : Nat} {idn : Nat → Nat} {pr : Nat → Option Nat} {tn : Nat → Nat} (h : FoR m n idn pr tn) : FoW m := by
  have hn := h.n_eq
  have hid : ∀ k, k < n → idM m k = idn k := fun k hk => by unfold idM; rw [(h.2.2.1 k hk).1, nI_clamp (by have := (h.2.2.1 k hk).2; omega)]
  have htn : ∀ k, k < n → tnM m k = tn k := fun k hk => by unfold tnM; rw [(h.2.2.2.2.2.2 k hk).1, nI_clamp (by have := (h.2.2.2.2.2.2 k hk).2; omega)]
  unfold FoW
  rw [hn]
  obtain ⟨h1, h2, h3, h4, h5, h6, h7⟩ := id h
  refine ⟨h1, h2, fun k hk => by rw [hid k hk]; exact h3 k hk, fun k hk => ?_, fun k j hk hp => h5 k j hk (by rw [← h.pr_eq hk]; exact hp), fun j k hj hk => by rw [hid j (by omega), hid k hk]; exact h6 j k hj hk, fun k hk => by rw [htn k hk]; exact h7 k hk⟩
  rw [h4 k hk, h.pr_eq hk]
  cases hq : pr k with
  | none => rfl
  | some j => simp only [Option.map_some]; rw [hid j (h.par hk hq)]
theorem FoW.n12 {m : Nat → Int32} (h : FoW m) : nM m ≤ 12 := h.2.1
theorem dep_cong {pr pr' : Nat → Option Nat} {n : Nat} (h : ParOk pr n) (e : ∀ k, k < n → pr' k = pr k) : ∀ k, k < n → dep pr' k = dep pr k := by
  intro k
  induction k using Nat.strongRecOn with
  | _ k ih =>
    intro hk
    have h' : ParOk pr' n := fun k j hk hp => h k j hk (by rw [← e k hk]; exact hp)
    cases hq : pr k with
    | none => rw [dep_none hq, dep_none (by rw [e k hk]; exact hq)]
    | some j =>
      have hj := h k j hk hq
      rw [dep_some h hk hq, dep_some h' hk (by rw [e k hk]; exact hq), ih j hj (by omega)]
theorem anc_cong {pr pr' : Nat → Option Nat} {n r : Nat} (h : ParOk pr n) (e : ∀ k, k < n → pr' k = pr k) : ∀ k, k < n → anc pr' r k = anc pr r k := by
  intro k
  induction k using Nat.strongRecOn with
  | _ k ih =>
    intro hk
    have h' : ParOk pr' n := fun k j hk hp => h k j hk (by rw [← e k hk]; exact hp)
    by_cases hr : k = r
    · subst hr; rw [anc_self, anc_self]
    · rw [anc_O h' hk hr, anc_O h hk hr, e k hk]
      cases hq : pr k with
      | none => rfl
      | some j => exact ih j (h k j hk hq) (by have := h k j hk hq; omega)
theorem FoW.drop {m : Nat → Int32} (h : FoW m) {k : Nat} (hk : k < nM m) (ht : ∀ j, j < nM m → prM m j ≠ some k) : FoW (dropF m k (nM m)) ∧ nM (dropF m k (nM m)) = nM m - 1 ∧ (∀ j, j < nM m - 1 → dep (prM (dropF m k (nM m))) j = dep (prM m) (sk k j)) ∧ ∀ r j, j < nM m - 1 → anc (prM (dropF m k (nM m))) r j = anc (prM m) (sk k r) (sk k j) := by
  have h1 := FoR.drop h hk ht
  have e : ∀ j, j < nM m - 1 → prM (dropF m k (nM m)) j = drP (prM m) k j := fun j hj => h1.pr_eq hj
  refine ⟨h1.w, h1.n_eq, fun j hj => ?_, fun r j hj => ?_⟩
  · rw [dep_cong (drP_ok h.ok ht) e j hj]; exact drP_dep h.ok ht j hj
  · rw [anc_cong (drP_ok h.ok ht) e j hj]; exact drP_anc h.ok ht j hj
/-- the row and the count behind pruning: the places r + 1 .. r + i are still to be looked at -/
def prnF (r dp : Nat) : Nat → (Nat → Int32) → Nat → (Nat → Int32) × Nat
  | 0, m, c => (m, c)
  | i + 1, m, c => if anc (prM m) r (r + (i + 1)) && decide (dp < dep (prM m) (r + (i + 1))) then prnF r dp i (dropF m (r + (i + 1)) (nM m)) (c + 1) else prnF r dp i m c
/-- what is already looked at holds nothing to be pruned -/
def prnOk (r dp i : Nat) (m : Nat → Int32) : Prop := FoW m ∧ r + i < nM m ∧ ∀ j, r + i < j → j < nM m → ¬ (anc (prM m) r j = true ∧ dp < dep (prM m) j)
theorem prn_tip {r dp i : Nat} {m : Nat → Int32} (h : prnOk r dp (i + 1) m) (h1 : anc (prM m) r (r + (i + 1)) = true) (h2 : dp < dep (prM m) (r + (i + 1))) : ∀ j, j < nM m → prM m j ≠ some (r + (i + 1)) := by
  obtain ⟨hw, hlt, hc⟩ := h
  intro j hj hp
  have h3 := hw.ok j _ hj hp
  refine hc j h3 hj ⟨?_, ?_⟩
  · rw [anc_O hw.ok hj (by omega), hp]; exact h1
  · rw [dep_some hw.ok hj hp]; omega
theorem prn_skip {r dp i : Nat} {m : Nat → Int32} (h : prnOk r dp (i + 1) m) (h1 : ¬ (anc (prM m) r (r + (i + 1)) = true ∧ dp < dep (prM m) (r + (i + 1)))) : prnOk r dp i m := by
  obtain ⟨hw, hlt, hc⟩ := h
  refine ⟨hw, by omega, fun j hj1 hj2 => ?_⟩
  rcases Nat.lt_or_ge (r + (i + 1)) j with q | q
  · exact hc j q hj2
  · rw [show j = r + (i + 1) by omega]; exact h1
theorem prn_drop {r dp i : Nat} {m : Nat → Int32} (h : prnOk r dp (i + 1) m) (h1 : anc (prM m) r (r + (i + 1)) = true) (h2 : dp < dep (prM m) (r + (i + 1))) : prnOk r dp i (dropF m (r + (i + 1)) (nM m)) := by
  have ht := prn_tip h h1 h2
  obtain ⟨hw, hlt, hc⟩ := h
  obtain ⟨e1, e2, e3, e4⟩ := hw.drop hlt ht
  refine ⟨e1, by rw [e2]; omega, fun j hj1 hj2 => ?_⟩
  rw [e2] at hj2
  rw [e3 j hj2, e4 r j hj2]
  have hs : sk (r + (i + 1)) j = j + 1 := by unfold sk; rw [if_neg (by omega)]
  have hr : sk (r + (i + 1)) r = r := by unfold sk; rw [if_pos (by omega)]
  rw [hs, hr]
  exact hc (j + 1) (by omega) (by omega)
theorem rg_nat {a b : Int64} {x : Int32} (h : rgB a b x = true) (ha : a.toInt = 0 ∨ a.toInt = 1) (hb : b.toInt < 1024) : ∃ v : Nat, x = nI v ∧ (v : Int) ≤ b.toInt ∧ a.toInt ≤ (v : Int) := by
  unfold rgB at h
  have h1 := of_decide_eq_true h
  have e1 := Int64.le_iff_toInt_le.mp h1.1
  have e2 := Int64.le_iff_toInt_le.mp h1.2
  rw [Int32.toInt_toInt64] at e1 e2
  refine ⟨x.toInt.toNat, ?_, by omega, by omega⟩
  apply Int32.toInt_inj.mp
  rw [nI_toInt (by omega)]
  omega
end
section
def prnR (m : Nat → Int32) (q v : Nat) : (Nat → Int32) × Nat := prnF q (dep (prM m) q + v) (nM m - 1 - q) m 0
theorem prnF_no {r dp i c : Nat} {m : Nat → Int32} (h : (anc (prM m) r (r + (i + 1)) && decide (dp < dep (prM m) (r + (i + 1)))) = false) : prnF r dp (i + 1) m c = prnF r dp i m c := by
  rw [prnF, h]; rfl
theorem prnF_yes {r dp i c : Nat} {m : Nat → Int32} (h1 : anc (prM m) r (r + (i + 1)) = true) (h2 : dp < dep (prM m) (r + (i + 1))) : prnF r dp (i + 1) m c = prnF r dp i (dropF m (r + (i + 1)) (nM m)) (c + 1) := by
  rw [prnF, h1, decide_eq_true h2]; rfl
theorem prnOk_0 {m : Nat → Int32} (h : FoW m) {q dp : Nat} (hq : q < nM m) : prnOk q dp (nM m - 1 - q) m := ⟨h, by omega, fun j h1 h2 => by omega⟩
theorem tip_ex {pr : Nat → Option Nat} {n r : Nat} (h : ParOk pr n) (hr : r < n) : ∃ t, t < n ∧ anc pr r t = true ∧ tipB pr t n = true := by
  -- the greatest place of the branch is a tip
  have key : ∀ d k, k < n → n - k ≤ d → anc pr r k = true → ∃ t, t < n ∧ anc pr r t = true ∧ tipB pr t n = true := by
    intro d
    induction d with
    | zero => intro k h1 h2; omega
    | succ d ih =>
      intro k hk hd ha
      by_cases ht : tipB pr k n = true
      · exact ⟨k, hk, ha, ht⟩
      · have hc : ∀ i, tipB pr k i = false → ∃ j, j < i ∧ pr j = some k := by
          intro i
          induction i with
          | zero => intro h; cases h
          | succ i ih2 =>
            intro h
            unfold tipB at h
            by_cases hb : pr i = some k
            · exact ⟨i, by omega, hb⟩
            · rw [Bool.and_eq_false_iff] at h
              rcases h with h | h
              · obtain ⟨j, h1, h2⟩ := ih2 h; exact ⟨j, by omega, h2⟩
              · simp [hb] at h
        obtain ⟨j, hj, hp⟩ := hc n (by simpa using ht)
        have hkj := h j k hj hp
        refine ih j hj (by omega) ?_
        by_cases hjr : j = r
        · rw [hjr, anc_self]
        · rw [anc_O h hj hjr, hp]; exact ha
  exact key n r hr (by omega) (anc_self _ _)
theorem ltp_ex {pr : Nat → Option Nat} {n r : Nat} (h : ParOk pr n) (hr : r < n) : ∃ t, ltp pr n r n = some t ∧ t < n := by
  obtain ⟨t, h1, h2, h3⟩ := tip_ex h hr
  have key : ∀ i, t < i → ∃ q, ltp pr n r i = some q := by
    intro i
    induction i with
    | zero => intro h; omega
    | succ i ih =>
      intro hi
      unfold ltp
      by_cases hc : (anc pr r i && tipB pr i n) = true
      · rw [if_pos hc]; exact ⟨i, rfl⟩
      · rw [if_neg hc]
        refine ih ?_
        rcases Nat.lt_or_ge t i with q | q
        · exact q
        · have e : t = i := by omega
          subst e
          exact absurd (by rw [h2, h3]; rfl) hc
  obtain ⟨q, hq⟩ := key n h1
  exact ⟨q, hq, ltp_lt hq⟩
/-- half of a weight, at least 1 -/
def hlfF (w : Int32) : Int32 := if nI 1 < w / nI 2 then w / nI 2 else nI 1
def snM (m : Nat → Int32) : Nat := (m 3).toNatClampNeg
/-- the row behind a carried tip -/
def carF (m : Nat → Int32) (k : Nat) : Nat → Int32 := match prM m k with
  | none => upd (upd (upd m 10 (m 10 + nI 1)) (4 + snM m) (m (4 + snM m) + nI 1)) 8 (m 8 + m (29 + 4 * k + 3))
  | some p => upd (upd m 10 (m 10 + nI 1)) (29 + 4 * p + 3) (m (29 + 4 * p + 3) + m (29 + 4 * k + 3))
theorem gT_hedgeIt : GoodIn gw (wsV RX10 107 RX10 yX10_hedgeIt (Cond.code yX10_hedgeIt cX10_hedgeIt 5 (some .int) :: gw)) := gdV gw_1704 gw_1706 gw_22 gw_81 gw_1707
theorem hd_hedgeIt : yX10_hedgeIt.cls = RX10 ∧ yX10_hedgeIt.cls ≠ "java/lang/invoke/MethodHandle" ∧ yX10_hedgeIt.cls ≠ "java/lang/invoke/VarHandle" ∧ (parseMethodDescriptor yX10_hedgeIt.desc).map (fun d => d.parameters.length) = some 3 := ⟨rfl, by decide +kernel, by decide +kernel, by decide +kernel⟩
theorem dX10_hedgeIt_0 : decode cX10_hedgeIt 0 = .ok (.iload_n 1, 1) := by decide +kernel
theorem dX10_hedgeIt_1 : decode cX10_hedgeIt 1 = .ok (.i2l, 1) := by decide +kernel
theorem dX10_hedgeIt_2 : decode cX10_hedgeIt 2 = .ok (.lconst 1, 1) := by decide +kernel
theorem dX10_hedgeIt_3 : decode cX10_hedgeIt 3 = .ok (.ldc2_w 97, 3) := by decide +kernel
theorem dX10_hedgeIt_6 : decode cX10_hedgeIt 6 = .ok (.invokestatic 63, 3) := by decide +kernel
theorem dX10_hedgeIt_9 : decode cX10_hedgeIt 9 = .ok (.ifCond .eq 27, 3) := by decide +kernel
theorem dX10_hedgeIt_12 : decode cX10_hedgeIt 12 = .ok (.iload_n 2, 1) := by decide +kernel
theorem dX10_hedgeIt_13 : decode cX10_hedgeIt 13 = .ok (.i2l, 1) := by decide +kernel
theorem dX10_hedgeIt_14 : decode cX10_hedgeIt 14 = .ok (.lconst 0, 1) := by decide +kernel
theorem dX10_hedgeIt_15 : decode cX10_hedgeIt 15 = .ok (.ldc2_w 99, 3) := by decide +kernel
theorem dX10_hedgeIt_18 : decode cX10_hedgeIt 18 = .ok (.invokestatic 63, 3) := by decide +kernel
theorem dX10_hedgeIt_21 : decode cX10_hedgeIt 21 = .ok (.ifCond .eq 15, 3) := by decide +kernel
theorem dX10_hedgeIt_24 : decode cX10_hedgeIt 24 = .ok (.iload_n 3, 1) := by decide +kernel
theorem dX10_hedgeIt_25 : decode cX10_hedgeIt 25 = .ok (.i2l, 1) := by decide +kernel
theorem dX10_hedgeIt_26 : decode cX10_hedgeIt 26 = .ok (.lconst 0, 1) := by decide +kernel
theorem dX10_hedgeIt_27 : decode cX10_hedgeIt 27 = .ok (.ldc2_w 99, 3) := by decide +kernel
theorem dX10_hedgeIt_30 : decode cX10_hedgeIt 30 = .ok (.invokestatic 63, 3) := by decide +kernel
theorem dX10_hedgeIt_33 : decode cX10_hedgeIt 33 = .ok (.ifCond .ne 9, 3) := by decide +kernel
theorem dX10_hedgeIt_36 : decode cX10_hedgeIt 36 = .ok (.aload_n 0, 1) := by decide +kernel
theorem dX10_hedgeIt_37 : decode cX10_hedgeIt 37 = .ok (.iconst 1, 1) := by decide +kernel
theorem dX10_hedgeIt_38 : decode cX10_hedgeIt 38 = .ok (.invokevirtual 101, 3) := by decide +kernel
theorem dX10_hedgeIt_41 : decode cX10_hedgeIt 41 = .ok (.ireturn, 1) := by decide +kernel
theorem dX10_hedgeIt_42 : decode cX10_hedgeIt 42 = .ok (.aload_n 0, 1) := by decide +kernel
theorem dX10_hedgeIt_43 : decode cX10_hedgeIt 43 = .ok (.getfield 9, 3) := by decide +kernel
theorem dX10_hedgeIt_46 : decode cX10_hedgeIt 46 = .ok (.iconst 0, 1) := by decide +kernel
theorem dX10_hedgeIt_47 : decode cX10_hedgeIt 47 = .ok (.iaload, 1) := by decide +kernel
theorem dX10_hedgeIt_48 : decode cX10_hedgeIt 48 = .ok (.bipush 6, 2) := by decide +kernel
theorem dX10_hedgeIt_50 : decode cX10_hedgeIt 50 = .ok (.if_icmp .ne 9, 3) := by decide +kernel
theorem dX10_hedgeIt_53 : decode cX10_hedgeIt 53 = .ok (.aload_n 0, 1) := by decide +kernel
theorem dX10_hedgeIt_54 : decode cX10_hedgeIt 54 = .ok (.iconst 2, 1) := by decide +kernel
theorem dX10_hedgeIt_55 : decode cX10_hedgeIt 55 = .ok (.invokevirtual 101, 3) := by decide +kernel
theorem dX10_hedgeIt_58 : decode cX10_hedgeIt 58 = .ok (.ireturn, 1) := by decide +kernel
theorem dX10_hedgeIt_59 : decode cX10_hedgeIt 59 = .ok (.aload_n 0, 1) := by decide +kernel
theorem dX10_hedgeIt_60 : decode cX10_hedgeIt 60 = .ok (.getfield 9, 3) := by decide +kernel
theorem dX10_hedgeIt_63 : decode cX10_hedgeIt 63 = .ok (.iconst 0, 1) := by decide +kernel
theorem dX10_hedgeIt_64 : decode cX10_hedgeIt 64 = .ok (.iaload, 1) := by decide +kernel
theorem dX10_hedgeIt_65 : decode cX10_hedgeIt 65 = .ok (.invokestatic 86, 3) := by decide +kernel
theorem dX10_hedgeIt_68 : decode cX10_hedgeIt 68 = .ok (.istore 4, 2) := by decide +kernel
theorem dX10_hedgeIt_70 : decode cX10_hedgeIt 70 = .ok (.aload_n 0, 1) := by decide +kernel
theorem dX10_hedgeIt_71 : decode cX10_hedgeIt 71 = .ok (.getfield 9, 3) := by decide +kernel
theorem dX10_hedgeIt_74 : decode cX10_hedgeIt 74 = .ok (.iload 4, 2) := by decide +kernel
theorem dX10_hedgeIt_76 : decode cX10_hedgeIt 76 = .ok (.iload_n 1, 1) := by decide +kernel
theorem dX10_hedgeIt_77 : decode cX10_hedgeIt 77 = .ok (.iastore, 1) := by decide +kernel
theorem dX10_hedgeIt_78 : decode cX10_hedgeIt 78 = .ok (.aload_n 0, 1) := by decide +kernel
theorem dX10_hedgeIt_79 : decode cX10_hedgeIt 79 = .ok (.getfield 9, 3) := by decide +kernel
theorem dX10_hedgeIt_82 : decode cX10_hedgeIt 82 = .ok (.iload 4, 2) := by decide +kernel
theorem dX10_hedgeIt_84 : decode cX10_hedgeIt 84 = .ok (.iconst 1, 1) := by decide +kernel
theorem dX10_hedgeIt_85 : decode cX10_hedgeIt 85 = .ok (.iadd, 1) := by decide +kernel
theorem dX10_hedgeIt_86 : decode cX10_hedgeIt 86 = .ok (.iload_n 2, 1) := by decide +kernel
theorem dX10_hedgeIt_87 : decode cX10_hedgeIt 87 = .ok (.iastore, 1) := by decide +kernel
theorem dX10_hedgeIt_88 : decode cX10_hedgeIt 88 = .ok (.aload_n 0, 1) := by decide +kernel
theorem dX10_hedgeIt_89 : decode cX10_hedgeIt 89 = .ok (.getfield 9, 3) := by decide +kernel
theorem dX10_hedgeIt_92 : decode cX10_hedgeIt 92 = .ok (.iload 4, 2) := by decide +kernel
theorem dX10_hedgeIt_94 : decode cX10_hedgeIt 94 = .ok (.iconst 2, 1) := by decide +kernel
theorem dX10_hedgeIt_95 : decode cX10_hedgeIt 95 = .ok (.iadd, 1) := by decide +kernel
theorem dX10_hedgeIt_96 : decode cX10_hedgeIt 96 = .ok (.iload_n 3, 1) := by decide +kernel
theorem dX10_hedgeIt_97 : decode cX10_hedgeIt 97 = .ok (.iastore, 1) := by decide +kernel
theorem dX10_hedgeIt_98 : decode cX10_hedgeIt 98 = .ok (.aload_n 0, 1) := by decide +kernel
theorem dX10_hedgeIt_99 : decode cX10_hedgeIt 99 = .ok (.getfield 9, 3) := by decide +kernel
theorem dX10_hedgeIt_102 : decode cX10_hedgeIt 102 = .ok (.iconst 0, 1) := by decide +kernel
theorem dX10_hedgeIt_103 : decode cX10_hedgeIt 103 = .ok (.dup2, 1) := by decide +kernel
theorem dX10_hedgeIt_104 : decode cX10_hedgeIt 104 = .ok (.iaload, 1) := by decide +kernel
theorem dX10_hedgeIt_105 : decode cX10_hedgeIt 105 = .ok (.iconst 1, 1) := by decide +kernel
theorem dX10_hedgeIt_106 : decode cX10_hedgeIt 106 = .ok (.iadd, 1) := by decide +kernel
theorem dX10_hedgeIt_107 : decode cX10_hedgeIt 107 = .ok (.iastore, 1) := by decide +kernel
theorem dX10_hedgeIt_108 : decode cX10_hedgeIt 108 = .ok (.aload_n 0, 1) := by decide +kernel
theorem dX10_hedgeIt_109 : decode cX10_hedgeIt 109 = .ok (.getfield 9, 3) := by decide +kernel
theorem dX10_hedgeIt_112 : decode cX10_hedgeIt 112 = .ok (.iconst 0, 1) := by decide +kernel
theorem dX10_hedgeIt_113 : decode cX10_hedgeIt 113 = .ok (.iaload, 1) := by decide +kernel
theorem dX10_hedgeIt_114 : decode cX10_hedgeIt 114 = .ok (.iconst 1, 1) := by decide +kernel
theorem dX10_hedgeIt_115 : decode cX10_hedgeIt 115 = .ok (.isub, 1) := by decide +kernel
theorem dX10_hedgeIt_116 : decode cX10_hedgeIt 116 = .ok (.ireturn, 1) := by decide +kernel
set_option maxHeartbeats 1000000 in
set_option maxRecDepth 20000 in
theorem m_hedgeIt (l : Launch) (D : va_G) (aT : Nat → ClassId) (ad : Nat → Nat) (S : MSt) (x y z : Int32) (h : Nat) (hn : S 0 0 = nI h) (h6 : h ≤ 6) : MdI l yX10_hedgeIt cX10_hedgeIt 5 .int 1 25 D aT ad [.ref (ad 0), .int x, .int y, .int z] S (fun r S1 => ((rgB 1 99 x && rgB 0 9 y && rgB 0 9 z) = false ∧ r = -1 ∧ S1 = ss S 8 (nI 1)) ∨ ((rgB 1 99 x && rgB 0 9 y && rgB 0 9 z) = true ∧ h = 6 ∧ r = -1 ∧ S1 = ss S 8 (nI 2)) ∨ ((rgB 1 99 x && rgB 0 9 y && rgB 0 9 z) = true ∧ h < 6 ∧ r = nI h ∧ S1 = sr S 0 (hedgeF (S 0) h x y z))) := by
  refine MdI.of (by decide +kernel) rfl (Nat.le_of_ble_eq_true rfl) ?_
  intro p e s m below meth c A ls C hml hl hA hr hlocks hW
  have hl : lv_has ls 5 [(0, .ref (ad 0)), (1, .int x), (2, .int y), (3, .int z)] := hl
  have hx := C.1
  have hb := C.2.1
  refine lv_iload_n hx hb dX10_hedgeIt_0 rfl (lv_at hl 1 rfl) ?_
  refine lv_i2l (v := (x).toInt64) hx hb dX10_hedgeIt_1 rfl ?_
  refine lv_lconst (v := 1) hx hb dX10_hedgeIt_2 (by decide) ?_
  refine lv_ldc2 hx hb C.2.2.2.1 (C.2.2.1 _ gw_1708) dX10_hedgeIt_3 ?_
  refine md_calls C hml hl.1 (As := [.long ((x).toInt64), .long 1, .long 99]) (rest := []) (m_in l ((x).toInt64) 1 99) gT_in hd_in rfl ⟨Nat.le_of_ble_eq_true rfl, Nat.le_of_ble_eq_true rfl⟩ ⟨Nat.le_refl _, Nat.le_refl _⟩ rfl (Nat.le_of_ble_eq_true rfl) dX10_hedgeIt_6 (fun r_6 hq => ?_)
  subst hq
  refine r_bI_eq hx hb (b := (rgB 1 99 x)) (tgt := 36) dX10_hedgeIt_9 (by decide) (fun c_9 => ?_) (fun c_9 => ?_)
  · refine lv_aload_n hx hb dX10_hedgeIt_36 rfl (lv_at hl 0 rfl) ?_
    refine lv_iconst (v := nI 1) hx hb dX10_hedgeIt_37 (by decide) ?_
    refine md_calli C hml hl.1 (As := [.int (nI 1)]) (rest := []) (m_throwing l D aT ad S 1) gT_throwing hd_throwing rfl ⟨Nat.le_of_ble_eq_true rfl, Nat.le_of_ble_eq_true rfl⟩ ⟨Nat.le_refl _, Nat.le_refl _⟩ hW hA rfl (Nat.le_of_ble_eq_true rfl) dX10_hedgeIt_38 (fun r_38 S_38 H locs hq hW => ?_)
    obtain ⟨rfl, rfl⟩ := hq
    exact md_iret C hr hlocks rfl hW (Or.inl ⟨by simp [c_9], rfl, rfl⟩) dX10_hedgeIt_41
  · refine lv_iload_n hx hb dX10_hedgeIt_12 rfl (lv_at hl 2 rfl) ?_
    refine lv_i2l (v := (y).toInt64) hx hb dX10_hedgeIt_13 rfl ?_
    refine lv_lconst (v := 0) hx hb dX10_hedgeIt_14 (by decide) ?_
    refine lv_ldc2 hx hb C.2.2.2.1 (C.2.2.1 _ gw_1712) dX10_hedgeIt_15 ?_
    refine md_calls C hml hl.1 (As := [.long ((y).toInt64), .long 0, .long 9]) (rest := []) (m_in l ((y).toInt64) 0 9) gT_in hd_in rfl ⟨Nat.le_of_ble_eq_true rfl, Nat.le_of_ble_eq_true rfl⟩ ⟨Nat.le_refl _, Nat.le_refl _⟩ rfl (Nat.le_of_ble_eq_true rfl) dX10_hedgeIt_18 (fun r_18 hq => ?_)
    subst hq
    refine r_bI_eq hx hb (b := (rgB 0 9 y)) (tgt := 36) dX10_hedgeIt_21 (by decide) (fun c_21 => ?_) (fun c_21 => ?_)
    · refine lv_aload_n hx hb dX10_hedgeIt_36 rfl (lv_at hl 0 rfl) ?_
      refine lv_iconst (v := nI 1) hx hb dX10_hedgeIt_37 (by decide) ?_
      refine md_calli C hml hl.1 (As := [.int (nI 1)]) (rest := []) (m_throwing l D aT ad S 1) gT_throwing hd_throwing rfl ⟨Nat.le_of_ble_eq_true rfl, Nat.le_of_ble_eq_true rfl⟩ ⟨Nat.le_refl _, Nat.le_refl _⟩ hW hA rfl (Nat.le_of_ble_eq_true rfl) dX10_hedgeIt_38 (fun r_38 S_38 H locs hq hW => ?_)
      obtain ⟨rfl, rfl⟩ := hq
      exact md_iret C hr hlocks rfl hW (Or.inl ⟨by simp [c_9, c_21], rfl, rfl⟩) dX10_hedgeIt_41
    · refine lv_iload_n hx hb dX10_hedgeIt_24 rfl (lv_at hl 3 rfl) ?_
      refine lv_i2l (v := (z).toInt64) hx hb dX10_hedgeIt_25 rfl ?_
      refine lv_lconst (v := 0) hx hb dX10_hedgeIt_26 (by decide) ?_
      refine lv_ldc2 hx hb C.2.2.2.1 (C.2.2.1 _ gw_1712) dX10_hedgeIt_27 ?_
      refine md_calls C hml hl.1 (As := [.long ((z).toInt64), .long 0, .long 9]) (rest := []) (m_in l ((z).toInt64) 0 9) gT_in hd_in rfl ⟨Nat.le_of_ble_eq_true rfl, Nat.le_of_ble_eq_true rfl⟩ ⟨Nat.le_refl _, Nat.le_refl _⟩ rfl (Nat.le_of_ble_eq_true rfl) dX10_hedgeIt_30 (fun r_30 hq => ?_)
      subst hq
      refine r_bI_ne hx hb (b := (rgB 0 9 z)) (tgt := 42) dX10_hedgeIt_33 (by decide) (fun c_33 => ?_) (fun c_33 => ?_)
      · refine lv_aload_n hx hb dX10_hedgeIt_42 rfl (lv_at hl 0 rfl) ?_
        refine md_geta_m C hW dX10_hedgeIt_43 ?_
        refine lv_iconst (v := nI 0) hx hb dX10_hedgeIt_46 (by decide) ?_
        refine md_ald_m C hW (i := 0) (by omega) dX10_hedgeIt_47 ?_
        refine r_eq (y := (nI h)) (hn) ?_
        refine lv_bipush (v := nI 6) hx hb dX10_hedgeIt_48 (by decide) ?_
        refine r_neN hx hb (a := h) (b := 6) (by omega) (by omega) (tgt := 59) dX10_hedgeIt_50 (by decide) (fun c_50 => ?_) (fun c_50 => ?_)
        · refine lv_aload_n hx hb dX10_hedgeIt_59 rfl (lv_at hl 0 rfl) ?_
          refine md_geta_m C hW dX10_hedgeIt_60 ?_
          refine lv_iconst (v := nI 0) hx hb dX10_hedgeIt_63 (by decide) ?_
          refine md_ald_m C hW (i := 0) (by omega) dX10_hedgeIt_64 ?_
          refine r_eq (y := (nI h)) (hn) ?_
          refine md_calls C hml hl.1 (As := [.int (nI h)]) (rest := []) (m_hedgeAt l h) gT_hedgeAt hd_hedgeAt rfl ⟨Nat.le_of_ble_eq_true rfl, Nat.le_of_ble_eq_true rfl⟩ ⟨Nat.le_refl _, Nat.le_refl _⟩ rfl (Nat.le_of_ble_eq_true rfl) dX10_hedgeIt_65 (fun r_65 hq => ?_)
          subst hq
          refine lv_istore (lv' := [(4, .int (nI (11 + 3 * h))), (0, .ref (ad 0)), (1, .int x), (2, .int y), (3, .int z)]) hx hb dX10_hedgeIt_68 hl (by decide) rfl (fun ls hl => ?_)
          refine lv_aload_n hx hb dX10_hedgeIt_70 rfl (lv_at hl 1 rfl) ?_
          refine md_geta_m C hW dX10_hedgeIt_71 ?_
          refine lv_iload hx hb dX10_hedgeIt_74 (lv_at hl 0 rfl) ?_
          refine lv_iload_n hx hb dX10_hedgeIt_76 rfl (lv_at hl 2 rfl) ?_
          refine md_ast_m C hW (i := (11 + 3 * h)) (by omega) dX10_hedgeIt_77 (fun H locs hW => ?_)
          refine lv_aload_n hx hb dX10_hedgeIt_78 rfl (lv_at hl 1 rfl) ?_
          refine md_geta_m C hW dX10_hedgeIt_79 ?_
          refine lv_iload hx hb dX10_hedgeIt_82 (lv_at hl 0 rfl) ?_
          refine lv_iconst (v := nI 1) hx hb dX10_hedgeIt_84 (by decide) ?_
          refine r_iaddN hx hb (a := (11 + 3 * h)) (b := 1) dX10_hedgeIt_85 ?_
          refine lv_iload_n hx hb dX10_hedgeIt_86 rfl (lv_at hl 3 rfl) ?_
          refine md_ast_m C hW (i := 11 + 3 * h + 1) (by omega) dX10_hedgeIt_87 (fun H locs hW => ?_)
          refine lv_aload_n hx hb dX10_hedgeIt_88 rfl (lv_at hl 1 rfl) ?_
          refine md_geta_m C hW dX10_hedgeIt_89 ?_
          refine lv_iload hx hb dX10_hedgeIt_92 (lv_at hl 0 rfl) ?_
          refine lv_iconst (v := nI 2) hx hb dX10_hedgeIt_94 (by decide) ?_
          refine r_iaddN hx hb (a := (11 + 3 * h)) (b := 2) dX10_hedgeIt_95 ?_
          refine lv_iload_n hx hb dX10_hedgeIt_96 rfl (lv_at hl 4 rfl) ?_
          refine md_ast_m C hW (i := 11 + 3 * h + 2) (by omega) dX10_hedgeIt_97 (fun H locs hW => ?_)
          refine lv_aload_n hx hb dX10_hedgeIt_98 rfl (lv_at hl 1 rfl) ?_
          refine md_geta_m C hW dX10_hedgeIt_99 ?_
          refine lv_iconst (v := nI 0) hx hb dX10_hedgeIt_102 (by decide) ?_
          refine lv_dup2_11 hx hb dX10_hedgeIt_103 rfl rfl ?_
          refine md_ald_m C hW (i := 0) (by omega) dX10_hedgeIt_104 ?_
          refine r_eq (y := (nI h)) (by simp only [sr, upd, ↓reduceIte]; (repeat rw [if_neg (by omega)]); exact hn) ?_
          refine lv_iconst (v := nI 1) hx hb dX10_hedgeIt_105 (by decide) ?_
          refine r_iaddN hx hb (a := h) (b := 1) dX10_hedgeIt_106 ?_
          refine md_ast_m C hW (i := 0) (by omega) dX10_hedgeIt_107 (fun H locs hW => ?_)
          refine lv_aload_n hx hb dX10_hedgeIt_108 rfl (lv_at hl 1 rfl) ?_
          refine md_geta_m C hW dX10_hedgeIt_109 ?_
          refine lv_iconst (v := nI 0) hx hb dX10_hedgeIt_112 (by decide) ?_
          refine md_ald_m C hW (i := 0) (by omega) dX10_hedgeIt_113 ?_
          refine r_eq (y := (nI (h + 1))) (by simp only [sr, upd, ↓reduceIte]; (repeat rw [if_neg (by omega)]); first | done | rfl) ?_
          refine lv_iconst (v := nI 1) hx hb dX10_hedgeIt_114 (by decide) ?_
          refine r_isubN hx hb (a := (h + 1)) (b := 1) (by omega) dX10_hedgeIt_115 ?_
          exact md_iret C hr hlocks rfl hW (Or.inr (Or.inr ⟨by simp [c_9, c_21, c_33], by omega, rfl, by simp only [sr_sr, sr_s]; rfl⟩)) dX10_hedgeIt_116
        · refine lv_aload_n hx hb dX10_hedgeIt_53 rfl (lv_at hl 0 rfl) ?_
          refine lv_iconst (v := nI 2) hx hb dX10_hedgeIt_54 (by decide) ?_
          refine md_calli C hml hl.1 (As := [.int (nI 2)]) (rest := []) (m_throwing l D aT ad S 2) gT_throwing hd_throwing rfl ⟨Nat.le_of_ble_eq_true rfl, Nat.le_of_ble_eq_true rfl⟩ ⟨Nat.le_refl _, Nat.le_refl _⟩ hW hA rfl (Nat.le_of_ble_eq_true rfl) dX10_hedgeIt_55 (fun r_55 S_55 H locs hq hW => ?_)
          obtain ⟨rfl, rfl⟩ := hq
          exact md_iret C hr hlocks rfl hW (Or.inr (Or.inl ⟨by simp [c_9, c_21, c_33], c_50, rfl, rfl⟩)) dX10_hedgeIt_58
      · refine lv_aload_n hx hb dX10_hedgeIt_36 rfl (lv_at hl 0 rfl) ?_
        refine lv_iconst (v := nI 1) hx hb dX10_hedgeIt_37 (by decide) ?_
        refine md_calli C hml hl.1 (As := [.int (nI 1)]) (rest := []) (m_throwing l D aT ad S 1) gT_throwing hd_throwing rfl ⟨Nat.le_of_ble_eq_true rfl, Nat.le_of_ble_eq_true rfl⟩ ⟨Nat.le_refl _, Nat.le_refl _⟩ hW hA rfl (Nat.le_of_ble_eq_true rfl) dX10_hedgeIt_38 (fun r_38 S_38 H locs hq hW => ?_)
        obtain ⟨rfl, rfl⟩ := hq
        exact md_iret C hr hlocks rfl hW (Or.inl ⟨by simp [c_9, c_21, c_33], rfl, rfl⟩) dX10_hedgeIt_41
theorem gT_mainIt : GoodIn gw (wsV RX10 119 RX10 yX10_mainIt (Cond.code yX10_mainIt cX10_mainIt 3 (some .int) :: gw)) := gdV gw_1728 gw_1730 gw_25 gw_81 gw_1731
theorem hd_mainIt : yX10_mainIt.cls = RX10 ∧ yX10_mainIt.cls ≠ "java/lang/invoke/MethodHandle" ∧ yX10_mainIt.cls ≠ "java/lang/invoke/VarHandle" ∧ (parseMethodDescriptor yX10_mainIt.desc).map (fun d => d.parameters.length) = some 2 := ⟨rfl, by decide +kernel, by decide +kernel, by decide +kernel⟩
theorem dX10_mainIt_0 : decode cX10_mainIt 0 = .ok (.iload_n 1, 1) := by decide +kernel
theorem dX10_mainIt_1 : decode cX10_mainIt 1 = .ok (.i2l, 1) := by decide +kernel
theorem dX10_mainIt_2 : decode cX10_mainIt 2 = .ok (.lconst 0, 1) := by decide +kernel
theorem dX10_mainIt_3 : decode cX10_mainIt 3 = .ok (.ldc2_w 99, 3) := by decide +kernel
theorem dX10_mainIt_6 : decode cX10_mainIt 6 = .ok (.invokestatic 63, 3) := by decide +kernel
theorem dX10_mainIt_9 : decode cX10_mainIt 9 = .ok (.ifCond .eq 15, 3) := by decide +kernel
theorem dX10_mainIt_12 : decode cX10_mainIt 12 = .ok (.iload_n 2, 1) := by decide +kernel
theorem dX10_mainIt_13 : decode cX10_mainIt 13 = .ok (.i2l, 1) := by decide +kernel
theorem dX10_mainIt_14 : decode cX10_mainIt 14 = .ok (.lconst 1, 1) := by decide +kernel
theorem dX10_mainIt_15 : decode cX10_mainIt 15 = .ok (.ldc2_w 114, 3) := by decide +kernel
theorem dX10_mainIt_18 : decode cX10_mainIt 18 = .ok (.invokestatic 63, 3) := by decide +kernel
theorem dX10_mainIt_21 : decode cX10_mainIt 21 = .ok (.ifCond .ne 9, 3) := by decide +kernel
theorem dX10_mainIt_24 : decode cX10_mainIt 24 = .ok (.aload_n 0, 1) := by decide +kernel
theorem dX10_mainIt_25 : decode cX10_mainIt 25 = .ok (.iconst 1, 1) := by decide +kernel
theorem dX10_mainIt_26 : decode cX10_mainIt 26 = .ok (.invokevirtual 101, 3) := by decide +kernel
theorem dX10_mainIt_29 : decode cX10_mainIt 29 = .ok (.ireturn, 1) := by decide +kernel
theorem dX10_mainIt_30 : decode cX10_mainIt 30 = .ok (.aload_n 0, 1) := by decide +kernel
theorem dX10_mainIt_31 : decode cX10_mainIt 31 = .ok (.getfield 9, 3) := by decide +kernel
theorem dX10_mainIt_34 : decode cX10_mainIt 34 = .ok (.iconst 2, 1) := by decide +kernel
theorem dX10_mainIt_35 : decode cX10_mainIt 35 = .ok (.iaload, 1) := by decide +kernel
theorem dX10_mainIt_36 : decode cX10_mainIt 36 = .ok (.bipush 12, 2) := by decide +kernel
theorem dX10_mainIt_38 : decode cX10_mainIt 38 = .ok (.if_icmp .ne 11, 3) := by decide +kernel
theorem dX10_mainIt_41 : decode cX10_mainIt 41 = .ok (.aload_n 0, 1) := by decide +kernel
theorem dX10_mainIt_42 : decode cX10_mainIt 42 = .ok (.iconst 2, 1) := by decide +kernel
theorem dX10_mainIt_43 : decode cX10_mainIt 43 = .ok (.invokevirtual 101, 3) := by decide +kernel
theorem dX10_mainIt_46 : decode cX10_mainIt 46 = .ok (.goto 10, 3) := by decide +kernel
theorem dX10_mainIt_49 : decode cX10_mainIt 49 = .ok (.aload_n 0, 1) := by decide +kernel
theorem dX10_mainIt_50 : decode cX10_mainIt 50 = .ok (.iconst (-1), 1) := by decide +kernel
theorem dX10_mainIt_51 : decode cX10_mainIt 51 = .ok (.iload_n 1, 1) := by decide +kernel
theorem dX10_mainIt_52 : decode cX10_mainIt 52 = .ok (.iload_n 2, 1) := by decide +kernel
theorem dX10_mainIt_53 : decode cX10_mainIt 53 = .ok (.invokevirtual 116, 3) := by decide +kernel
theorem dX10_mainIt_56 : decode cX10_mainIt 56 = .ok (.ireturn, 1) := by decide +kernel
set_option maxHeartbeats 1000000 in
set_option maxRecDepth 20000 in
theorem m_mainIt (l : Launch) (D : va_G) (aT : Nat → ClassId) (ad : Nat → Nat) (S : MSt) (x y : Int32) (n : Nat) (hn : S 0 2 = nI n) (h12 : n ≤ 12) : MdI l yX10_mainIt cX10_mainIt 3 .int 1 25 D aT ad [.ref (ad 0), .int x, .int y] S (fun r S1 => ((rgB 0 9 x && rgB 1 20 y) = false ∧ r = -1 ∧ S1 = ss S 8 (nI 1)) ∨ ((rgB 0 9 x && rgB 1 20 y) = true ∧ n = 12 ∧ r = -1 ∧ S1 = ss S 8 (nI 2)) ∨ ((rgB 0 9 x && rgB 1 20 y) = true ∧ n < 12 ∧ r = S 0 1 ∧ S1 = sr S 0 (addF (S 0) n (-1) x y))) := by
  refine MdI.of (by decide +kernel) rfl (Nat.le_of_ble_eq_true rfl) ?_
  intro p e s m below meth c A ls C hml hl hA hr hlocks hW
  have hl : lv_has ls 3 [(0, .ref (ad 0)), (1, .int x), (2, .int y)] := hl
  have hx := C.1
  have hb := C.2.1
  refine lv_iload_n hx hb dX10_mainIt_0 rfl (lv_at hl 1 rfl) ?_
  refine lv_i2l (v := (x).toInt64) hx hb dX10_mainIt_1 rfl ?_
  refine lv_lconst (v := 0) hx hb dX10_mainIt_2 (by decide) ?_
  refine lv_ldc2 hx hb C.2.2.2.1 (C.2.2.1 _ gw_1712) dX10_mainIt_3 ?_
  refine md_calls C hml hl.1 (As := [.long ((x).toInt64), .long 0, .long 9]) (rest := []) (m_in l ((x).toInt64) 0 9) gT_in hd_in rfl ⟨Nat.le_of_ble_eq_true rfl, Nat.le_of_ble_eq_true rfl⟩ ⟨Nat.le_refl _, Nat.le_refl _⟩ rfl (Nat.le_of_ble_eq_true rfl) dX10_mainIt_6 (fun r_6 hq => ?_)
  subst hq
  refine r_bI_eq hx hb (b := (rgB 0 9 x)) (tgt := 24) dX10_mainIt_9 (by decide) (fun c_9 => ?_) (fun c_9 => ?_)
  · refine lv_aload_n hx hb dX10_mainIt_24 rfl (lv_at hl 0 rfl) ?_
    refine lv_iconst (v := nI 1) hx hb dX10_mainIt_25 (by decide) ?_
    refine md_calli C hml hl.1 (As := [.int (nI 1)]) (rest := []) (m_throwing l D aT ad S 1) gT_throwing hd_throwing rfl ⟨Nat.le_of_ble_eq_true rfl, Nat.le_of_ble_eq_true rfl⟩ ⟨Nat.le_refl _, Nat.le_refl _⟩ hW hA rfl (Nat.le_of_ble_eq_true rfl) dX10_mainIt_26 (fun r_26 S_26 H locs hq hW => ?_)
    obtain ⟨rfl, rfl⟩ := hq
    exact md_iret C hr hlocks rfl hW (Or.inl ⟨by simp [c_9], rfl, rfl⟩) dX10_mainIt_29
  · refine lv_iload_n hx hb dX10_mainIt_12 rfl (lv_at hl 2 rfl) ?_
    refine lv_i2l (v := (y).toInt64) hx hb dX10_mainIt_13 rfl ?_
    refine lv_lconst (v := 1) hx hb dX10_mainIt_14 (by decide) ?_
    refine lv_ldc2 hx hb C.2.2.2.1 (C.2.2.1 _ gw_1732) dX10_mainIt_15 ?_
    refine md_calls C hml hl.1 (As := [.long ((y).toInt64), .long 1, .long 20]) (rest := []) (m_in l ((y).toInt64) 1 20) gT_in hd_in rfl ⟨Nat.le_of_ble_eq_true rfl, Nat.le_of_ble_eq_true rfl⟩ ⟨Nat.le_refl _, Nat.le_refl _⟩ rfl (Nat.le_of_ble_eq_true rfl) dX10_mainIt_18 (fun r_18 hq => ?_)
    subst hq
    refine r_bI_ne hx hb (b := (rgB 1 20 y)) (tgt := 30) dX10_mainIt_21 (by decide) (fun c_21 => ?_) (fun c_21 => ?_)
    · refine lv_aload_n hx hb dX10_mainIt_30 rfl (lv_at hl 0 rfl) ?_
      refine md_geta_m C hW dX10_mainIt_31 ?_
      refine lv_iconst (v := nI 2) hx hb dX10_mainIt_34 (by decide) ?_
      refine md_ald_m C hW (i := 2) (by omega) dX10_mainIt_35 ?_
      refine r_eq (y := (nI n)) (hn) ?_
      refine lv_bipush (v := nI 12) hx hb dX10_mainIt_36 (by decide) ?_
      refine r_neN hx hb (a := n) (b := 12) (by omega) (by omega) (tgt := 49) dX10_mainIt_38 (by decide) (fun c_38 => ?_) (fun c_38 => ?_)
      · refine lv_aload_n hx hb dX10_mainIt_49 rfl (lv_at hl 0 rfl) ?_
        refine lv_iconst (v := (-1)) hx hb dX10_mainIt_50 (by decide) ?_
        refine lv_iload_n hx hb dX10_mainIt_51 rfl (lv_at hl 1 rfl) ?_
        refine lv_iload_n hx hb dX10_mainIt_52 rfl (lv_at hl 2 rfl) ?_
        refine md_calli C hml hl.1 (As := [.int (-1), .int x, .int y]) (rest := []) (m_adds l D aT ad S n ((-1)) (x) (y) hn (by omega)) gT_adds hd_adds rfl ⟨Nat.le_of_ble_eq_true rfl, Nat.le_of_ble_eq_true rfl⟩ ⟨Nat.le_refl _, Nat.le_refl _⟩ hW hA rfl (Nat.le_of_ble_eq_true rfl) dX10_mainIt_53 (fun r_53 S_53 H locs hq hW => ?_)
        obtain ⟨rfl, rfl⟩ := hq
        exact md_iret C hr hlocks rfl hW (Or.inr (Or.inr ⟨by simp [c_9, c_21], by omega, rfl, rfl⟩)) dX10_mainIt_56
      · refine lv_aload_n hx hb dX10_mainIt_41 rfl (lv_at hl 0 rfl) ?_
        refine lv_iconst (v := nI 2) hx hb dX10_mainIt_42 (by decide) ?_
        refine md_calli C hml hl.1 (As := [.int (nI 2)]) (rest := []) (m_throwing l D aT ad S 2) gT_throwing hd_throwing rfl ⟨Nat.le_of_ble_eq_true rfl, Nat.le_of_ble_eq_true rfl⟩ ⟨Nat.le_refl _, Nat.le_refl _⟩ hW hA rfl (Nat.le_of_ble_eq_true rfl) dX10_mainIt_43 (fun r_43 S_43 H locs hq hW => ?_)
        obtain ⟨rfl, rfl⟩ := hq
        refine lv_goto (tgt := 56) hx hb dX10_mainIt_46 (by decide) ?_
        exact md_iret C hr hlocks rfl hW (Or.inr (Or.inl ⟨by simp [c_9, c_21], c_38, rfl, rfl⟩)) dX10_mainIt_56
    · refine lv_aload_n hx hb dX10_mainIt_24 rfl (lv_at hl 0 rfl) ?_
      refine lv_iconst (v := nI 1) hx hb dX10_mainIt_25 (by decide) ?_
      refine md_calli C hml hl.1 (As := [.int (nI 1)]) (rest := []) (m_throwing l D aT ad S 1) gT_throwing hd_throwing rfl ⟨Nat.le_of_ble_eq_true rfl, Nat.le_of_ble_eq_true rfl⟩ ⟨Nat.le_refl _, Nat.le_refl _⟩ hW hA rfl (Nat.le_of_ble_eq_true rfl) dX10_mainIt_26 (fun r_26 S_26 H locs hq hW => ?_)
      obtain ⟨rfl, rfl⟩ := hq
      exact md_iret C hr hlocks rfl hW (Or.inl ⟨by simp [c_9, c_21], rfl, rfl⟩) dX10_mainIt_29
theorem gT_amendIt : GoodIn gw (wsV RX10 122 RX10 yX10_amendIt (Cond.code yX10_amendIt cX10_amendIt 4 (some .int) :: gw)) := gdV gw_1741 gw_1743 gw_27 gw_81 gw_1744
theorem hd_amendIt : yX10_amendIt.cls = RX10 ∧ yX10_amendIt.cls ≠ "java/lang/invoke/MethodHandle" ∧ yX10_amendIt.cls ≠ "java/lang/invoke/VarHandle" ∧ (parseMethodDescriptor yX10_amendIt.desc).map (fun d => d.parameters.length) = some 3 := ⟨rfl, by decide +kernel, by decide +kernel, by decide +kernel⟩
theorem dX10_amendIt_0 : decode cX10_amendIt 0 = .ok (.aload_n 0, 1) := by decide +kernel
theorem dX10_amendIt_1 : decode cX10_amendIt 1 = .ok (.iload_n 1, 1) := by decide +kernel
theorem dX10_amendIt_2 : decode cX10_amendIt 2 = .ok (.invokevirtual 71, 3) := by decide +kernel
theorem dX10_amendIt_5 : decode cX10_amendIt 5 = .ok (.iconst (-1), 1) := by decide +kernel
theorem dX10_amendIt_6 : decode cX10_amendIt 6 = .ok (.if_icmp .ne 9, 3) := by decide +kernel
theorem dX10_amendIt_9 : decode cX10_amendIt 9 = .ok (.aload_n 0, 1) := by decide +kernel
theorem dX10_amendIt_10 : decode cX10_amendIt 10 = .ok (.iconst 1, 1) := by decide +kernel
theorem dX10_amendIt_11 : decode cX10_amendIt 11 = .ok (.invokevirtual 101, 3) := by decide +kernel
theorem dX10_amendIt_14 : decode cX10_amendIt 14 = .ok (.ireturn, 1) := by decide +kernel
theorem dX10_amendIt_15 : decode cX10_amendIt 15 = .ok (.iload_n 2, 1) := by decide +kernel
theorem dX10_amendIt_16 : decode cX10_amendIt 16 = .ok (.i2l, 1) := by decide +kernel
theorem dX10_amendIt_17 : decode cX10_amendIt 17 = .ok (.lconst 0, 1) := by decide +kernel
theorem dX10_amendIt_18 : decode cX10_amendIt 18 = .ok (.ldc2_w 99, 3) := by decide +kernel
theorem dX10_amendIt_21 : decode cX10_amendIt 21 = .ok (.invokestatic 63, 3) := by decide +kernel
theorem dX10_amendIt_24 : decode cX10_amendIt 24 = .ok (.ifCond .eq 15, 3) := by decide +kernel
theorem dX10_amendIt_27 : decode cX10_amendIt 27 = .ok (.iload_n 3, 1) := by decide +kernel
theorem dX10_amendIt_28 : decode cX10_amendIt 28 = .ok (.i2l, 1) := by decide +kernel
theorem dX10_amendIt_29 : decode cX10_amendIt 29 = .ok (.lconst 1, 1) := by decide +kernel
theorem dX10_amendIt_30 : decode cX10_amendIt 30 = .ok (.ldc2_w 114, 3) := by decide +kernel
theorem dX10_amendIt_33 : decode cX10_amendIt 33 = .ok (.invokestatic 63, 3) := by decide +kernel
theorem dX10_amendIt_36 : decode cX10_amendIt 36 = .ok (.ifCond .ne 9, 3) := by decide +kernel
theorem dX10_amendIt_39 : decode cX10_amendIt 39 = .ok (.aload_n 0, 1) := by decide +kernel
theorem dX10_amendIt_40 : decode cX10_amendIt 40 = .ok (.iconst 2, 1) := by decide +kernel
theorem dX10_amendIt_41 : decode cX10_amendIt 41 = .ok (.invokevirtual 101, 3) := by decide +kernel
theorem dX10_amendIt_44 : decode cX10_amendIt 44 = .ok (.ireturn, 1) := by decide +kernel
theorem dX10_amendIt_45 : decode cX10_amendIt 45 = .ok (.aload_n 0, 1) := by decide +kernel
theorem dX10_amendIt_46 : decode cX10_amendIt 46 = .ok (.getfield 9, 3) := by decide +kernel
theorem dX10_amendIt_49 : decode cX10_amendIt 49 = .ok (.iconst 2, 1) := by decide +kernel
theorem dX10_amendIt_50 : decode cX10_amendIt 50 = .ok (.iaload, 1) := by decide +kernel
theorem dX10_amendIt_51 : decode cX10_amendIt 51 = .ok (.bipush 12, 2) := by decide +kernel
theorem dX10_amendIt_53 : decode cX10_amendIt 53 = .ok (.if_icmp .ne 11, 3) := by decide +kernel
theorem dX10_amendIt_56 : decode cX10_amendIt 56 = .ok (.aload_n 0, 1) := by decide +kernel
theorem dX10_amendIt_57 : decode cX10_amendIt 57 = .ok (.iconst 3, 1) := by decide +kernel
theorem dX10_amendIt_58 : decode cX10_amendIt 58 = .ok (.invokevirtual 101, 3) := by decide +kernel
theorem dX10_amendIt_61 : decode cX10_amendIt 61 = .ok (.goto 10, 3) := by decide +kernel
theorem dX10_amendIt_64 : decode cX10_amendIt 64 = .ok (.aload_n 0, 1) := by decide +kernel
theorem dX10_amendIt_65 : decode cX10_amendIt 65 = .ok (.iload_n 1, 1) := by decide +kernel
theorem dX10_amendIt_66 : decode cX10_amendIt 66 = .ok (.iload_n 2, 1) := by decide +kernel
theorem dX10_amendIt_67 : decode cX10_amendIt 67 = .ok (.iload_n 3, 1) := by decide +kernel
theorem dX10_amendIt_68 : decode cX10_amendIt 68 = .ok (.invokevirtual 116, 3) := by decide +kernel
theorem dX10_amendIt_71 : decode cX10_amendIt 71 = .ok (.ireturn, 1) := by decide +kernel
set_option maxHeartbeats 1000000 in
set_option maxRecDepth 20000 in
theorem m_amendIt (l : Launch) (D : va_G) (aT : Nat → ClassId) (ad : Nat → Nat) (S : MSt) (x y z : Int32) (n : Nat) (hn : S 0 2 = nI n) (h12 : n ≤ 12) : MdI l yX10_amendIt cX10_amendIt 4 .int 2 44 D aT ad [.ref (ad 0), .int x, .int y, .int z] S (fun r S1 => (fnd (fun k => S 0 (29 + 4 * k)) x n = none ∧ r = -1 ∧ S1 = ss S 8 (nI 1)) ∨ (∃ q, fnd (fun k => S 0 (29 + 4 * k)) x n = some q ∧ (rgB 0 9 y && rgB 1 20 z) = false ∧ r = -1 ∧ S1 = ss S 8 (nI 2)) ∨ (∃ q, fnd (fun k => S 0 (29 + 4 * k)) x n = some q ∧ (rgB 0 9 y && rgB 1 20 z) = true ∧ n = 12 ∧ r = -1 ∧ S1 = ss S 8 (nI 3)) ∨ (∃ q, fnd (fun k => S 0 (29 + 4 * k)) x n = some q ∧ (rgB 0 9 y && rgB 1 20 z) = true ∧ n < 12 ∧ r = S 0 1 ∧ S1 = sr S 0 (addF (S 0) n x y z))) := by
  refine MdI.of (by decide +kernel) rfl (Nat.le_of_ble_eq_true rfl) ?_
  intro p e s m below meth c A ls C hml hl hA hr hlocks hW
  have hl : lv_has ls 4 [(0, .ref (ad 0)), (1, .int x), (2, .int y), (3, .int z)] := hl
  have hx := C.1
  have hb := C.2.1
  refine lv_aload_n hx hb dX10_amendIt_0 rfl (lv_at hl 0 rfl) ?_
  refine lv_iload_n hx hb dX10_amendIt_1 rfl (lv_at hl 1 rfl) ?_
  refine md_callg C hml hl.1 (As := [.int x]) (rest := []) (m_find l D aT ad S (x) n hn h12) gT_find hd_find rfl ⟨Nat.le_of_ble_eq_true rfl, Nat.le_of_ble_eq_true rfl⟩ ⟨Nat.le_refl _, Nat.le_refl _⟩ hW hA rfl (Nat.le_of_ble_eq_true rfl) dX10_amendIt_2 (fun r_2 H locs hq hW => ?_)
  subst hq
  refine lv_iconst (v := (-1)) hx hb dX10_amendIt_5 (by decide) ?_
  refine r_oi_ne hx hb (o := (fnd (fun k => S 0 (29 + 4 * k)) (x) n)) (fun j hj => by have := (fnd_some hj).1; omega) (tgt := 15) dX10_amendIt_6 (by decide) (fun j_6 c_6 => ?_) (fun c_6 => ?_)
  · refine lv_iload_n hx hb dX10_amendIt_15 rfl (lv_at hl 2 rfl) ?_
    refine lv_i2l (v := (y).toInt64) hx hb dX10_amendIt_16 rfl ?_
    refine lv_lconst (v := 0) hx hb dX10_amendIt_17 (by decide) ?_
    refine lv_ldc2 hx hb C.2.2.2.1 (C.2.2.1 _ gw_1712) dX10_amendIt_18 ?_
    refine md_calls C hml hl.1 (As := [.long ((y).toInt64), .long 0, .long 9]) (rest := []) (m_in l ((y).toInt64) 0 9) gT_in hd_in rfl ⟨Nat.le_of_ble_eq_true rfl, Nat.le_of_ble_eq_true rfl⟩ ⟨Nat.le_refl _, Nat.le_refl _⟩ rfl (Nat.le_of_ble_eq_true rfl) dX10_amendIt_21 (fun r_21 hq => ?_)
    subst hq
    refine r_bI_eq hx hb (b := (rgB 0 9 y)) (tgt := 39) dX10_amendIt_24 (by decide) (fun c_24 => ?_) (fun c_24 => ?_)
    · refine lv_aload_n hx hb dX10_amendIt_39 rfl (lv_at hl 0 rfl) ?_
      refine lv_iconst (v := nI 2) hx hb dX10_amendIt_40 (by decide) ?_
      refine md_calli C hml hl.1 (As := [.int (nI 2)]) (rest := []) (m_throwing l D aT ad S 2) gT_throwing hd_throwing rfl ⟨Nat.le_of_ble_eq_true rfl, Nat.le_of_ble_eq_true rfl⟩ ⟨Nat.le_refl _, Nat.le_refl _⟩ hW hA rfl (Nat.le_of_ble_eq_true rfl) dX10_amendIt_41 (fun r_41 S_41 H locs hq hW => ?_)
      obtain ⟨rfl, rfl⟩ := hq
      exact md_iret C hr hlocks rfl hW (Or.inr (Or.inl ⟨j_6, c_6, by simp [c_24], rfl, rfl⟩)) dX10_amendIt_44
    · refine lv_iload_n hx hb dX10_amendIt_27 rfl (lv_at hl 3 rfl) ?_
      refine lv_i2l (v := (z).toInt64) hx hb dX10_amendIt_28 rfl ?_
      refine lv_lconst (v := 1) hx hb dX10_amendIt_29 (by decide) ?_
      refine lv_ldc2 hx hb C.2.2.2.1 (C.2.2.1 _ gw_1732) dX10_amendIt_30 ?_
      refine md_calls C hml hl.1 (As := [.long ((z).toInt64), .long 1, .long 20]) (rest := []) (m_in l ((z).toInt64) 1 20) gT_in hd_in rfl ⟨Nat.le_of_ble_eq_true rfl, Nat.le_of_ble_eq_true rfl⟩ ⟨Nat.le_refl _, Nat.le_refl _⟩ rfl (Nat.le_of_ble_eq_true rfl) dX10_amendIt_33 (fun r_33 hq => ?_)
      subst hq
      refine r_bI_ne hx hb (b := (rgB 1 20 z)) (tgt := 45) dX10_amendIt_36 (by decide) (fun c_36 => ?_) (fun c_36 => ?_)
      · refine lv_aload_n hx hb dX10_amendIt_45 rfl (lv_at hl 0 rfl) ?_
        refine md_geta_m C hW dX10_amendIt_46 ?_
        refine lv_iconst (v := nI 2) hx hb dX10_amendIt_49 (by decide) ?_
        refine md_ald_m C hW (i := 2) (by omega) dX10_amendIt_50 ?_
        refine r_eq (y := (nI n)) (hn) ?_
        refine lv_bipush (v := nI 12) hx hb dX10_amendIt_51 (by decide) ?_
        refine r_neN hx hb (a := n) (b := 12) (by omega) (by omega) (tgt := 64) dX10_amendIt_53 (by decide) (fun c_53 => ?_) (fun c_53 => ?_)
        · refine lv_aload_n hx hb dX10_amendIt_64 rfl (lv_at hl 0 rfl) ?_
          refine lv_iload_n hx hb dX10_amendIt_65 rfl (lv_at hl 1 rfl) ?_
          refine lv_iload_n hx hb dX10_amendIt_66 rfl (lv_at hl 2 rfl) ?_
          refine lv_iload_n hx hb dX10_amendIt_67 rfl (lv_at hl 3 rfl) ?_
          refine md_calli C hml hl.1 (As := [.int x, .int y, .int z]) (rest := []) (m_adds l D aT ad S n (x) (y) (z) hn (by omega)) gT_adds hd_adds rfl ⟨Nat.le_of_ble_eq_true rfl, Nat.le_of_ble_eq_true rfl⟩ ⟨Nat.le_refl _, Nat.le_refl _⟩ hW hA rfl (Nat.le_of_ble_eq_true rfl) dX10_amendIt_68 (fun r_68 S_68 H locs hq hW => ?_)
          obtain ⟨rfl, rfl⟩ := hq
          exact md_iret C hr hlocks rfl hW (Or.inr (Or.inr (Or.inr ⟨j_6, c_6, by simp [c_24, c_36], by omega, rfl, rfl⟩))) dX10_amendIt_71
        · refine lv_aload_n hx hb dX10_amendIt_56 rfl (lv_at hl 0 rfl) ?_
          refine lv_iconst (v := nI 3) hx hb dX10_amendIt_57 (by decide) ?_
          refine md_calli C hml hl.1 (As := [.int (nI 3)]) (rest := []) (m_throwing l D aT ad S 3) gT_throwing hd_throwing rfl ⟨Nat.le_of_ble_eq_true rfl, Nat.le_of_ble_eq_true rfl⟩ ⟨Nat.le_refl _, Nat.le_refl _⟩ hW hA rfl (Nat.le_of_ble_eq_true rfl) dX10_amendIt_58 (fun r_58 S_58 H locs hq hW => ?_)
          obtain ⟨rfl, rfl⟩ := hq
          refine lv_goto (tgt := 71) hx hb dX10_amendIt_61 (by decide) ?_
          exact md_iret C hr hlocks rfl hW (Or.inr (Or.inr (Or.inl ⟨j_6, c_6, by simp [c_24, c_36], c_53, rfl, rfl⟩))) dX10_amendIt_71
      · refine lv_aload_n hx hb dX10_amendIt_39 rfl (lv_at hl 0 rfl) ?_
        refine lv_iconst (v := nI 2) hx hb dX10_amendIt_40 (by decide) ?_
        refine md_calli C hml hl.1 (As := [.int (nI 2)]) (rest := []) (m_throwing l D aT ad S 2) gT_throwing hd_throwing rfl ⟨Nat.le_of_ble_eq_true rfl, Nat.le_of_ble_eq_true rfl⟩ ⟨Nat.le_refl _, Nat.le_refl _⟩ hW hA rfl (Nat.le_of_ble_eq_true rfl) dX10_amendIt_41 (fun r_41 S_41 H locs hq hW => ?_)
        obtain ⟨rfl, rfl⟩ := hq
        exact md_iret C hr hlocks rfl hW (Or.inr (Or.inl ⟨j_6, c_6, by simp [c_24, c_36], rfl, rfl⟩)) dX10_amendIt_44
  · refine lv_aload_n hx hb dX10_amendIt_9 rfl (lv_at hl 0 rfl) ?_
    refine lv_iconst (v := nI 1) hx hb dX10_amendIt_10 (by decide) ?_
    refine md_calli C hml hl.1 (As := [.int (nI 1)]) (rest := []) (m_throwing l D aT ad S 1) gT_throwing hd_throwing rfl ⟨Nat.le_of_ble_eq_true rfl, Nat.le_of_ble_eq_true rfl⟩ ⟨Nat.le_refl _, Nat.le_refl _⟩ hW hA rfl (Nat.le_of_ble_eq_true rfl) dX10_amendIt_11 (fun r_11 S_11 H locs hq hW => ?_)
    obtain ⟨rfl, rfl⟩ := hq
    exact md_iret C hr hlocks rfl hW (Or.inl ⟨c_6, rfl, rfl⟩) dX10_amendIt_14
theorem gT_pruneIt : GoodIn gw (wsV RX10 132 RX10 yX10_pruneIt (Cond.code yX10_pruneIt cX10_pruneIt 7 (some .int) :: gw)) := gdV gw_1757 gw_1759 gw_30 gw_81 gw_1760
theorem hd_pruneIt : yX10_pruneIt.cls = RX10 ∧ yX10_pruneIt.cls ≠ "java/lang/invoke/MethodHandle" ∧ yX10_pruneIt.cls ≠ "java/lang/invoke/VarHandle" ∧ (parseMethodDescriptor yX10_pruneIt.desc).map (fun d => d.parameters.length) = some 2 := ⟨rfl, by decide +kernel, by decide +kernel, by decide +kernel⟩
theorem dX10_pruneIt_0 : decode cX10_pruneIt 0 = .ok (.aload_n 0, 1) := by decide +kernel
theorem dX10_pruneIt_1 : decode cX10_pruneIt 1 = .ok (.iload_n 1, 1) := by decide +kernel
theorem dX10_pruneIt_2 : decode cX10_pruneIt 2 = .ok (.invokevirtual 71, 3) := by decide +kernel
theorem dX10_pruneIt_5 : decode cX10_pruneIt 5 = .ok (.istore_n 3, 1) := by decide +kernel
theorem dX10_pruneIt_6 : decode cX10_pruneIt 6 = .ok (.iload_n 3, 1) := by decide +kernel
theorem dX10_pruneIt_7 : decode cX10_pruneIt 7 = .ok (.iconst (-1), 1) := by decide +kernel
theorem dX10_pruneIt_8 : decode cX10_pruneIt 8 = .ok (.if_icmp .ne 9, 3) := by decide +kernel
theorem dX10_pruneIt_11 : decode cX10_pruneIt 11 = .ok (.aload_n 0, 1) := by decide +kernel
theorem dX10_pruneIt_12 : decode cX10_pruneIt 12 = .ok (.iconst 1, 1) := by decide +kernel
theorem dX10_pruneIt_13 : decode cX10_pruneIt 13 = .ok (.invokevirtual 101, 3) := by decide +kernel
theorem dX10_pruneIt_16 : decode cX10_pruneIt 16 = .ok (.ireturn, 1) := by decide +kernel
theorem dX10_pruneIt_17 : decode cX10_pruneIt 17 = .ok (.iload_n 2, 1) := by decide +kernel
theorem dX10_pruneIt_18 : decode cX10_pruneIt 18 = .ok (.i2l, 1) := by decide +kernel
theorem dX10_pruneIt_19 : decode cX10_pruneIt 19 = .ok (.lconst 0, 1) := by decide +kernel
theorem dX10_pruneIt_20 : decode cX10_pruneIt 20 = .ok (.ldc2_w 99, 3) := by decide +kernel
theorem dX10_pruneIt_23 : decode cX10_pruneIt 23 = .ok (.invokestatic 63, 3) := by decide +kernel
theorem dX10_pruneIt_26 : decode cX10_pruneIt 26 = .ok (.ifCond .ne 9, 3) := by decide +kernel
theorem dX10_pruneIt_29 : decode cX10_pruneIt 29 = .ok (.aload_n 0, 1) := by decide +kernel
theorem dX10_pruneIt_30 : decode cX10_pruneIt 30 = .ok (.iconst 2, 1) := by decide +kernel
theorem dX10_pruneIt_31 : decode cX10_pruneIt 31 = .ok (.invokevirtual 101, 3) := by decide +kernel
theorem dX10_pruneIt_34 : decode cX10_pruneIt 34 = .ok (.ireturn, 1) := by decide +kernel
theorem dX10_pruneIt_35 : decode cX10_pruneIt 35 = .ok (.aload_n 0, 1) := by decide +kernel
theorem dX10_pruneIt_36 : decode cX10_pruneIt 36 = .ok (.iload_n 3, 1) := by decide +kernel
theorem dX10_pruneIt_37 : decode cX10_pruneIt 37 = .ok (.invokevirtual 125, 3) := by decide +kernel
theorem dX10_pruneIt_40 : decode cX10_pruneIt 40 = .ok (.iload_n 2, 1) := by decide +kernel
theorem dX10_pruneIt_41 : decode cX10_pruneIt 41 = .ok (.iadd, 1) := by decide +kernel
theorem dX10_pruneIt_42 : decode cX10_pruneIt 42 = .ok (.istore 4, 2) := by decide +kernel
theorem dX10_pruneIt_44 : decode cX10_pruneIt 44 = .ok (.iconst 0, 1) := by decide +kernel
theorem dX10_pruneIt_45 : decode cX10_pruneIt 45 = .ok (.istore 5, 2) := by decide +kernel
theorem dX10_pruneIt_47 : decode cX10_pruneIt 47 = .ok (.aload_n 0, 1) := by decide +kernel
theorem dX10_pruneIt_48 : decode cX10_pruneIt 48 = .ok (.getfield 9, 3) := by decide +kernel
theorem dX10_pruneIt_51 : decode cX10_pruneIt 51 = .ok (.iconst 2, 1) := by decide +kernel
theorem dX10_pruneIt_52 : decode cX10_pruneIt 52 = .ok (.iaload, 1) := by decide +kernel
theorem dX10_pruneIt_53 : decode cX10_pruneIt 53 = .ok (.iconst 1, 1) := by decide +kernel
theorem dX10_pruneIt_54 : decode cX10_pruneIt 54 = .ok (.isub, 1) := by decide +kernel
theorem dX10_pruneIt_55 : decode cX10_pruneIt 55 = .ok (.istore 6, 2) := by decide +kernel
theorem dX10_pruneIt_57 : decode cX10_pruneIt 57 = .ok (.iload 6, 2) := by decide +kernel
theorem dX10_pruneIt_59 : decode cX10_pruneIt 59 = .ok (.iload_n 3, 1) := by decide +kernel
theorem dX10_pruneIt_60 : decode cX10_pruneIt 60 = .ok (.if_icmp .le 39, 3) := by decide +kernel
theorem dX10_pruneIt_63 : decode cX10_pruneIt 63 = .ok (.aload_n 0, 1) := by decide +kernel
theorem dX10_pruneIt_64 : decode cX10_pruneIt 64 = .ok (.iload 6, 2) := by decide +kernel
theorem dX10_pruneIt_66 : decode cX10_pruneIt 66 = .ok (.iload_n 3, 1) := by decide +kernel
theorem dX10_pruneIt_67 : decode cX10_pruneIt 67 = .ok (.invokevirtual 78, 3) := by decide +kernel
theorem dX10_pruneIt_70 : decode cX10_pruneIt 70 = .ok (.ifCond .eq 23, 3) := by decide +kernel
theorem dX10_pruneIt_73 : decode cX10_pruneIt 73 = .ok (.aload_n 0, 1) := by decide +kernel
theorem dX10_pruneIt_74 : decode cX10_pruneIt 74 = .ok (.iload 6, 2) := by decide +kernel
theorem dX10_pruneIt_76 : decode cX10_pruneIt 76 = .ok (.invokevirtual 125, 3) := by decide +kernel
theorem dX10_pruneIt_79 : decode cX10_pruneIt 79 = .ok (.iload 4, 2) := by decide +kernel
theorem dX10_pruneIt_81 : decode cX10_pruneIt 81 = .ok (.if_icmp .le 12, 3) := by decide +kernel
theorem dX10_pruneIt_84 : decode cX10_pruneIt 84 = .ok (.aload_n 0, 1) := by decide +kernel
theorem dX10_pruneIt_85 : decode cX10_pruneIt 85 = .ok (.iload 6, 2) := by decide +kernel
theorem dX10_pruneIt_87 : decode cX10_pruneIt 87 = .ok (.invokevirtual 128, 3) := by decide +kernel
theorem dX10_pruneIt_90 : decode cX10_pruneIt 90 = .ok (.iinc 5 1, 3) := by decide +kernel
theorem dX10_pruneIt_93 : decode cX10_pruneIt 93 = .ok (.iinc 6 (-1), 3) := by decide +kernel
theorem dX10_pruneIt_96 : decode cX10_pruneIt 96 = .ok (.goto (-39), 3) := by decide +kernel
theorem dX10_pruneIt_99 : decode cX10_pruneIt 99 = .ok (.iload 5, 2) := by decide +kernel
theorem dX10_pruneIt_101 : decode cX10_pruneIt 101 = .ok (.ireturn, 1) := by decide +kernel
set_option maxHeartbeats 2000000 in
set_option maxRecDepth 20000 in
theorem m_pruneIt (l : Launch) (D : va_G) (aT : Nat → ClassId) (ad : Nat → Nat) (S : MSt) (x y : Int32) (hF : FoW (S 0)) : MdI l yX10_pruneIt cX10_pruneIt 7 .int 4 88 D aT ad [.ref (ad 0), .int x, .int y] S (fun r S1 => (fnd (fun k => S 0 (29 + 4 * k)) x (nM (S 0)) = none ∧ r = -1 ∧ S1 = ss S 8 (nI 1)) ∨ (∃ q, fnd (fun k => S 0 (29 + 4 * k)) x (nM (S 0)) = some q ∧ rgB 0 9 y = false ∧ r = -1 ∧ S1 = ss S 8 (nI 2)) ∨ (∃ q v, fnd (fun k => S 0 (29 + 4 * k)) x (nM (S 0)) = some q ∧ y = nI v ∧ rgB 0 9 y = true ∧ r = nI (prnR (S 0) q v).2 ∧ S1 = sr S 0 (prnR (S 0) q v).1)) := by
  refine MdI.of (by decide +kernel) rfl (Nat.le_of_ble_eq_true rfl) ?_
  intro p e s m below meth c A ls C hml hl hA hr hlocks hW
  have hl : lv_has ls 7 [(0, .ref (ad 0)), (1, .int x), (2, .int y)] := hl
  have hx := C.1
  have hb := C.2.1
  refine lv_aload_n hx hb dX10_pruneIt_0 rfl (lv_at hl 0 rfl) ?_
  refine lv_iload_n hx hb dX10_pruneIt_1 rfl (lv_at hl 1 rfl) ?_
  refine md_callg C hml hl.1 (As := [.int x]) (rest := []) (m_find l D aT ad S (x) (nM (S 0)) hF.1 hF.2.1) gT_find hd_find rfl ⟨Nat.le_of_ble_eq_true rfl, Nat.le_of_ble_eq_true rfl⟩ ⟨Nat.le_refl _, Nat.le_refl _⟩ hW hA rfl (Nat.le_of_ble_eq_true rfl) dX10_pruneIt_2 (fun r_2 H locs hq hW => ?_)
  subst hq
  refine lv_istore_n (lv' := [(3, .int (oi (fnd (fun k => S 0 (29 + 4 * k)) (x) (nM (S 0))))), (0, .ref (ad 0)), (1, .int x), (2, .int y)]) hx hb dX10_pruneIt_5 rfl hl (by decide) rfl (fun ls hl => ?_)
  refine lv_iload_n hx hb dX10_pruneIt_6 rfl (lv_at hl 0 rfl) ?_
  refine lv_iconst (v := (-1)) hx hb dX10_pruneIt_7 (by decide) ?_
  refine r_oi_ne hx hb (o := (fnd (fun k => S 0 (29 + 4 * k)) (x) (nM (S 0)))) (fun j hj => by have := (fnd_some hj).1; have := hF.n12; omega) (tgt := 17) dX10_pruneIt_8 (by decide) (fun j_8 c_8 => ?_) (fun c_8 => ?_)
  · have hl : lv_has ls 7 [(3, .int (nI j_8)), (0, .ref (ad 0)), (1, .int x), (2, .int y)] := by rw [c_8] at hl; exact hl
    have hq := (fnd_some c_8).1
    have h12 := hF.n12
    refine lv_iload_n hx hb dX10_pruneIt_17 rfl (lv_at hl 3 rfl) ?_
    refine lv_i2l (v := (y).toInt64) hx hb dX10_pruneIt_18 rfl ?_
    refine lv_lconst (v := 0) hx hb dX10_pruneIt_19 (by decide) ?_
    refine lv_ldc2 hx hb C.2.2.2.1 (C.2.2.1 _ gw_1712) dX10_pruneIt_20 ?_
    refine md_calls C hml hl.1 (As := [.long ((y).toInt64), .long 0, .long 9]) (rest := []) (m_in l ((y).toInt64) 0 9) gT_in hd_in rfl ⟨Nat.le_of_ble_eq_true rfl, Nat.le_of_ble_eq_true rfl⟩ ⟨Nat.le_refl _, Nat.le_refl _⟩ rfl (Nat.le_of_ble_eq_true rfl) dX10_pruneIt_23 (fun r_23 hq => ?_)
    subst hq
    refine r_bI_ne hx hb (b := (rgB 0 9 y)) (tgt := 35) dX10_pruneIt_26 (by decide) (fun c_26 => ?_) (fun c_26 => ?_)
    · obtain ⟨v, rfl, hv9, -⟩ := rg_nat c_26 (Or.inl (by decide)) (by decide)
      have hv9 : v ≤ 9 := by have : (9 : Int64).toInt = 9 := by decide
                             omega
      refine lv_aload_n hx hb dX10_pruneIt_35 rfl (lv_at hl 1 rfl) ?_
      refine lv_iload_n hx hb dX10_pruneIt_36 rfl (lv_at hl 0 rfl) ?_
      refine md_callg C hml hl.1 (As := [.int (nI j_8)]) (rest := []) (m_deep l D aT ad S (nM (S 0)) (idM (S 0)) (prM (S 0)) (tnM (S 0)) hF j_8 (hq)) gT_deep hd_deep rfl ⟨Nat.le_of_ble_eq_true rfl, Nat.le_of_ble_eq_true rfl⟩ ⟨Nat.le_refl _, Nat.le_refl _⟩ hW hA rfl (Nat.le_of_ble_eq_true rfl) dX10_pruneIt_37 (fun r_37 H locs hq hW => ?_)
      subst hq
      refine lv_iload_n hx hb dX10_pruneIt_40 rfl (lv_at hl 3 rfl) ?_
      refine r_iaddN hx hb (a := (dep (prM (S 0)) j_8)) (b := v) dX10_pruneIt_41 ?_
      refine lv_istore (lv' := [(4, .int (nI ((dep (prM (S 0)) j_8) + v))), (3, .int (nI j_8)), (0, .ref (ad 0)), (1, .int x), (2, .int (nI v))]) hx hb dX10_pruneIt_42 hl (by decide) rfl (fun ls hl => ?_)
      refine lv_iconst (v := nI 0) hx hb dX10_pruneIt_44 (by decide) ?_
      refine lv_istore (lv' := [(5, .int (nI 0)), (4, .int (nI ((dep (prM (S 0)) j_8) + v))), (3, .int (nI j_8)), (0, .ref (ad 0)), (1, .int x), (2, .int (nI v))]) hx hb dX10_pruneIt_45 hl (by decide) rfl (fun ls hl => ?_)
      refine lv_aload_n hx hb dX10_pruneIt_47 rfl (lv_at hl 3 rfl) ?_
      refine md_geta_m C hW dX10_pruneIt_48 ?_
      refine lv_iconst (v := nI 2) hx hb dX10_pruneIt_51 (by decide) ?_
      refine md_ald_m C hW (i := 2) (by omega) dX10_pruneIt_52 ?_
      refine r_eq (y := (nI (nM (S 0)))) (hF.1) ?_
      refine lv_iconst (v := nI 1) hx hb dX10_pruneIt_53 (by decide) ?_
      refine r_isubN hx hb (a := (nM (S 0))) (b := 1) (by omega) dX10_pruneIt_54 ?_
      refine r_eq (congrArg nI (by omega : (nM (S 0)) - 1 = j_8 + (nM (S 0) - 1 - j_8))) ?_
      refine lv_istore (lv' := [(6, .int (nI (j_8 + (nM (S 0) - 1 - j_8)))), (5, .int (nI 0)), (4, .int (nI ((dep (prM (S 0)) j_8) + v))), (3, .int (nI j_8)), (0, .ref (ad 0)), (1, .int x), (2, .int (nI v))]) hx hb dX10_pruneIt_55 hl (by decide) rfl (fun ls hl => ?_)
      refine W_loopH (σ := (Nat → Int32) × Nat × Nat) (fun z_ => z_.2.2) (fun z_ H locs g => ∃ ls, g = F0 m 57 ls [] ∧ lv_has ls 7 [(0, .ref (ad 0)), (2, .int (nI v)), (3, .int (nI j_8)), (4, .int (nI (dep (prM (S 0)) j_8 + v))), (5, .int (nI z_.2.1)), (6, .int (nI (j_8 + z_.2.2)))] ∧ MdB D aT ad (sr S 0 z_.1) A s.heap H locs ∧ (prnOk j_8 (dep (prM (S 0)) j_8 + v) z_.2.2 z_.1 ∧ prnF j_8 (dep (prM (S 0)) j_8 + v) z_.2.2 z_.1 z_.2.1 = prnR (S 0) j_8 v)) ?_ ((S 0), 0, (nM (S 0) - 1 - j_8)) _ ⟨_, rfl, lv_sub hl [4, 6, 3, 2, 1, 0] rfl, (by rw [sr_self]; exact hW), ⟨prnOk_0 hF hq, rfl⟩⟩
      clear hW hl
      rintro ⟨mm, c0, i⟩ H locs g ⟨ls, rfl, hl, hW, hok, he⟩ ih
      dsimp only at hl hW hok he ⊢
      refine lv_iload hx hb dX10_pruneIt_57 (lv_at hl 5 rfl) ?_
      refine lv_iload_n hx hb dX10_pruneIt_59 rfl (lv_at hl 2 rfl) ?_
      refine r_leN hx hb (a := j_8 + i) (b := j_8) (by have := hok.2.1; have := hok.1.n12; omega) (by have := hok.2.1; have := hok.1.n12; omega) (tgt := 99) dX10_pruneIt_60 (by decide) (fun c_60 => ?_) (fun c_60 => ?_)
      · refine lv_iload hx hb dX10_pruneIt_99 (lv_at hl 4 rfl) ?_
        exact md_iret C hr hlocks rfl hW (Or.inr (Or.inr ⟨j_8, v, c_8, rfl, c_26, by rw [← he, show i = 0 by omega]; rfl, by rw [← he, show i = 0 by omega]; rfl⟩)) dX10_pruneIt_101
      · obtain ⟨i, rfl⟩ : ∃ i2, i = i2 + 1 := ⟨i - 1, by omega⟩
        have hdl := dep_le hok.1.ok _ hok.2.1
        refine lv_aload_n hx hb dX10_pruneIt_63 rfl (lv_at hl 0 rfl) ?_
        refine lv_iload hx hb dX10_pruneIt_64 (lv_at hl 5 rfl) ?_
        refine lv_iload_n hx hb dX10_pruneIt_66 rfl (lv_at hl 2 rfl) ?_
        refine md_callg C hml hl.1 (As := [.int (nI (j_8 + (i + 1))), .int (nI j_8)]) (rest := []) (m_isIn l D aT ad (sr S 0 mm) (nM mm) (idM mm) (prM mm) (tnM mm) hok.1 (j_8 + (i + 1)) j_8 (hok.2.1) (by have := hok.2.1; omega)) gT_isIn hd_isIn rfl ⟨Nat.le_of_ble_eq_true rfl, Nat.le_of_ble_eq_true rfl⟩ ⟨Nat.le_refl _, Nat.le_refl _⟩ hW hA rfl (Nat.le_of_ble_eq_true rfl) dX10_pruneIt_67 (fun r_67 H locs hq hW => ?_)
        subst hq
        refine r_bI_eq hx hb (b := (anc (prM mm) j_8 (j_8 + (i + 1)))) (tgt := 93) dX10_pruneIt_70 (by decide) (fun c_70 => ?_) (fun c_70 => ?_)
        · refine lv_iinc (v := (nI (j_8 + i))) (lv' := [(6, .int (nI (j_8 + i))), (0, .ref (ad 0)), (2, .int (nI v)), (3, .int (nI j_8)), (4, .int (nI (dep (prM (S 0)) j_8 + v))), (5, .int (nI c0))]) hx hb dX10_pruneIt_93 hl (k := 5) rfl (pk_m1 _) (by decide) rfl (fun ls hl => ?_)
          refine lv_goto (tgt := 57) hx hb dX10_pruneIt_96 (by decide) ?_
          exact ih (mm, c0, i) _ _ _ (by dsimp only; omega) ⟨_, rfl, lv_sub hl [1, 2, 3, 4, 5, 0] rfl, hW, ⟨prn_skip hok (fun z => by rw [c_70] at z; exact absurd z.1 (by decide)), by rw [← he, prnF_no (by rw [Bool.and_eq_false_iff]; exact Or.inl c_70)]⟩⟩
        · refine lv_aload_n hx hb dX10_pruneIt_73 rfl (lv_at hl 0 rfl) ?_
          refine lv_iload hx hb dX10_pruneIt_74 (lv_at hl 5 rfl) ?_
          refine md_callg C hml hl.1 (As := [.int (nI (j_8 + (i + 1)))]) (rest := []) (m_deep l D aT ad (sr S 0 mm) (nM mm) (idM mm) (prM mm) (tnM mm) hok.1 (j_8 + (i + 1)) (hok.2.1)) gT_deep hd_deep rfl ⟨Nat.le_of_ble_eq_true rfl, Nat.le_of_ble_eq_true rfl⟩ ⟨Nat.le_refl _, Nat.le_refl _⟩ hW hA rfl (Nat.le_of_ble_eq_true rfl) dX10_pruneIt_76 (fun r_76 H locs hq hW => ?_)
          subst hq
          refine lv_iload hx hb dX10_pruneIt_79 (lv_at hl 3 rfl) ?_
          refine r_leN hx hb (a := (dep (prM mm) (j_8 + (i + 1)))) (b := dep (prM (S 0)) j_8 + v) (by have := hok.2.1; have := hok.1.n12; have := dep_le hF.ok _ hq; omega) (by have := hok.2.1; have := hok.1.n12; have := dep_le hF.ok _ hq; omega) (tgt := 93) dX10_pruneIt_81 (by decide) (fun c_81 => ?_) (fun c_81 => ?_)
          · refine lv_iinc (v := (nI (j_8 + i))) (lv' := [(6, .int (nI (j_8 + i))), (0, .ref (ad 0)), (2, .int (nI v)), (3, .int (nI j_8)), (4, .int (nI (dep (prM (S 0)) j_8 + v))), (5, .int (nI c0))]) hx hb dX10_pruneIt_93 hl (k := 5) rfl (pk_m1 _) (by decide) rfl (fun ls hl => ?_)
            refine lv_goto (tgt := 57) hx hb dX10_pruneIt_96 (by decide) ?_
            exact ih (mm, c0, i) _ _ _ (by dsimp only; omega) ⟨_, rfl, lv_sub hl [1, 2, 3, 4, 5, 0] rfl, hW, ⟨prn_skip hok (fun z => Nat.lt_irrefl _ (Nat.lt_of_lt_of_le z.2 c_81)), by rw [← he, prnF_no (by rw [Bool.and_eq_false_iff]; exact Or.inr (decide_eq_false (by omega)))]⟩⟩
          · refine lv_aload_n hx hb dX10_pruneIt_84 rfl (lv_at hl 0 rfl) ?_
            refine lv_iload hx hb dX10_pruneIt_85 (lv_at hl 5 rfl) ?_
            refine md_callv C hml hl.1 (As := [.int (nI (j_8 + (i + 1)))]) (rest := []) (m_drops l D aT ad (sr S 0 mm) (nM mm) (j_8 + (i + 1)) hok.1.1 hok.1.2.1 hok.2.1) gT_drops hd_drops rfl ⟨Nat.le_of_ble_eq_true rfl, Nat.le_of_ble_eq_true rfl⟩ ⟨Nat.le_refl _, Nat.le_refl _⟩ hW hA rfl (Nat.le_of_ble_eq_true rfl) dX10_pruneIt_87 (fun S_87 H locs hq hW => ?_)
            subst hq
            refine lv_iinc (v := (nI (c0 + 1))) (lv' := [(5, .int (nI (c0 + 1))), (0, .ref (ad 0)), (2, .int (nI v)), (3, .int (nI j_8)), (4, .int (nI (dep (prM (S 0)) j_8 + v))), (6, .int (nI (j_8 + (i + 1))))]) hx hb dX10_pruneIt_90 hl (k := 4) rfl (nI_1 _) (by decide) rfl (fun ls hl => ?_)
            refine lv_iinc (v := (nI (j_8 + i))) (lv' := [(6, .int (nI (j_8 + i))), (5, .int (nI (c0 + 1))), (0, .ref (ad 0)), (2, .int (nI v)), (3, .int (nI j_8)), (4, .int (nI (dep (prM (S 0)) j_8 + v)))]) hx hb dX10_pruneIt_93 hl (k := 5) rfl (pk_m1 _) (by decide) rfl (fun ls hl => ?_)
            refine lv_goto (tgt := 57) hx hb dX10_pruneIt_96 (by decide) ?_
            exact ih ((dropF mm (j_8 + (i + 1)) (nM mm)), (c0 + 1), i) _ _ _ (by dsimp only; omega) ⟨_, rfl, lv_sub hl [2, 3, 4, 5, 1, 0] rfl, (by rw [sr_sr] at hW; exact hW), ⟨prn_drop hok c_70 c_81, by rw [← he, prnF_yes c_70 c_81]⟩⟩
    · refine lv_aload_n hx hb dX10_pruneIt_29 rfl (lv_at hl 1 rfl) ?_
      refine lv_iconst (v := nI 2) hx hb dX10_pruneIt_30 (by decide) ?_
      refine md_calli C hml hl.1 (As := [.int (nI 2)]) (rest := []) (m_throwing l D aT ad S 2) gT_throwing hd_throwing rfl ⟨Nat.le_of_ble_eq_true rfl, Nat.le_of_ble_eq_true rfl⟩ ⟨Nat.le_refl _, Nat.le_refl _⟩ hW hA rfl (Nat.le_of_ble_eq_true rfl) dX10_pruneIt_31 (fun r_31 S_31 H locs hq hW => ?_)
      obtain ⟨rfl, rfl⟩ := hq
      exact md_iret C hr hlocks rfl hW (Or.inr (Or.inl ⟨j_8, c_8, c_26, rfl, rfl⟩)) dX10_pruneIt_34
  · have hl : lv_has ls 7 [(3, .int (-1)), (0, .ref (ad 0)), (1, .int x), (2, .int y)] := by rw [c_8] at hl; exact hl
    refine lv_aload_n hx hb dX10_pruneIt_11 rfl (lv_at hl 1 rfl) ?_
    refine lv_iconst (v := nI 1) hx hb dX10_pruneIt_12 (by decide) ?_
    refine md_calli C hml hl.1 (As := [.int (nI 1)]) (rest := []) (m_throwing l D aT ad S 1) gT_throwing hd_throwing rfl ⟨Nat.le_of_ble_eq_true rfl, Nat.le_of_ble_eq_true rfl⟩ ⟨Nat.le_refl _, Nat.le_refl _⟩ hW hA rfl (Nat.le_of_ble_eq_true rfl) dX10_pruneIt_13 (fun r_13 S_13 H locs hq hW => ?_)
    obtain ⟨rfl, rfl⟩ := hq
    exact md_iret C hr hlocks rfl hW (Or.inl ⟨c_8, rfl, rfl⟩) dX10_pruneIt_16
theorem gT_regrowIt : GoodIn gw (wsV RX10 141 RX10 yX10_regrowIt (Cond.code yX10_regrowIt cX10_regrowIt 4 (some .int) :: gw)) := gdV gw_1781 gw_1783 gw_35 gw_81 gw_1784
theorem hd_regrowIt : yX10_regrowIt.cls = RX10 ∧ yX10_regrowIt.cls ≠ "java/lang/invoke/MethodHandle" ∧ yX10_regrowIt.cls ≠ "java/lang/invoke/VarHandle" ∧ (parseMethodDescriptor yX10_regrowIt.desc).map (fun d => d.parameters.length) = some 1 := ⟨rfl, by decide +kernel, by decide +kernel, by decide +kernel⟩
theorem dX10_regrowIt_0 : decode cX10_regrowIt 0 = .ok (.aload_n 0, 1) := by decide +kernel
theorem dX10_regrowIt_1 : decode cX10_regrowIt 1 = .ok (.iload_n 1, 1) := by decide +kernel
theorem dX10_regrowIt_2 : decode cX10_regrowIt 2 = .ok (.invokevirtual 71, 3) := by decide +kernel
theorem dX10_regrowIt_5 : decode cX10_regrowIt 5 = .ok (.istore_n 2, 1) := by decide +kernel
theorem dX10_regrowIt_6 : decode cX10_regrowIt 6 = .ok (.iload_n 2, 1) := by decide +kernel
theorem dX10_regrowIt_7 : decode cX10_regrowIt 7 = .ok (.iconst (-1), 1) := by decide +kernel
theorem dX10_regrowIt_8 : decode cX10_regrowIt 8 = .ok (.if_icmp .ne 9, 3) := by decide +kernel
theorem dX10_regrowIt_11 : decode cX10_regrowIt 11 = .ok (.aload_n 0, 1) := by decide +kernel
theorem dX10_regrowIt_12 : decode cX10_regrowIt 12 = .ok (.iconst 1, 1) := by decide +kernel
theorem dX10_regrowIt_13 : decode cX10_regrowIt 13 = .ok (.invokevirtual 101, 3) := by decide +kernel
theorem dX10_regrowIt_16 : decode cX10_regrowIt 16 = .ok (.ireturn, 1) := by decide +kernel
theorem dX10_regrowIt_17 : decode cX10_regrowIt 17 = .ok (.aload_n 0, 1) := by decide +kernel
theorem dX10_regrowIt_18 : decode cX10_regrowIt 18 = .ok (.getfield 9, 3) := by decide +kernel
theorem dX10_regrowIt_21 : decode cX10_regrowIt 21 = .ok (.iconst 2, 1) := by decide +kernel
theorem dX10_regrowIt_22 : decode cX10_regrowIt 22 = .ok (.iaload, 1) := by decide +kernel
theorem dX10_regrowIt_23 : decode cX10_regrowIt 23 = .ok (.bipush 12, 2) := by decide +kernel
theorem dX10_regrowIt_25 : decode cX10_regrowIt 25 = .ok (.if_icmp .ne 9, 3) := by decide +kernel
theorem dX10_regrowIt_28 : decode cX10_regrowIt 28 = .ok (.aload_n 0, 1) := by decide +kernel
theorem dX10_regrowIt_29 : decode cX10_regrowIt 29 = .ok (.iconst 2, 1) := by decide +kernel
theorem dX10_regrowIt_30 : decode cX10_regrowIt 30 = .ok (.invokevirtual 101, 3) := by decide +kernel
theorem dX10_regrowIt_33 : decode cX10_regrowIt 33 = .ok (.ireturn, 1) := by decide +kernel
theorem dX10_regrowIt_34 : decode cX10_regrowIt 34 = .ok (.aload_n 0, 1) := by decide +kernel
theorem dX10_regrowIt_35 : decode cX10_regrowIt 35 = .ok (.iload_n 2, 1) := by decide +kernel
theorem dX10_regrowIt_36 : decode cX10_regrowIt 36 = .ok (.invokevirtual 135, 3) := by decide +kernel
theorem dX10_regrowIt_39 : decode cX10_regrowIt 39 = .ok (.istore_n 3, 1) := by decide +kernel
theorem dX10_regrowIt_40 : decode cX10_regrowIt 40 = .ok (.aload_n 0, 1) := by decide +kernel
theorem dX10_regrowIt_41 : decode cX10_regrowIt 41 = .ok (.aload_n 0, 1) := by decide +kernel
theorem dX10_regrowIt_42 : decode cX10_regrowIt 42 = .ok (.iload_n 3, 1) := by decide +kernel
theorem dX10_regrowIt_43 : decode cX10_regrowIt 43 = .ok (.iconst 0, 1) := by decide +kernel
theorem dX10_regrowIt_44 : decode cX10_regrowIt 44 = .ok (.invokevirtual 67, 3) := by decide +kernel
theorem dX10_regrowIt_47 : decode cX10_regrowIt 47 = .ok (.aload_n 0, 1) := by decide +kernel
theorem dX10_regrowIt_48 : decode cX10_regrowIt 48 = .ok (.iload_n 3, 1) := by decide +kernel
theorem dX10_regrowIt_49 : decode cX10_regrowIt 49 = .ok (.iconst 2, 1) := by decide +kernel
theorem dX10_regrowIt_50 : decode cX10_regrowIt 50 = .ok (.invokevirtual 67, 3) := by decide +kernel
theorem dX10_regrowIt_53 : decode cX10_regrowIt 53 = .ok (.iconst 1, 1) := by decide +kernel
theorem dX10_regrowIt_54 : decode cX10_regrowIt 54 = .ok (.iadd, 1) := by decide +kernel
theorem dX10_regrowIt_55 : decode cX10_regrowIt 55 = .ok (.bipush 10, 2) := by decide +kernel
theorem dX10_regrowIt_57 : decode cX10_regrowIt 57 = .ok (.irem, 1) := by decide +kernel
theorem dX10_regrowIt_58 : decode cX10_regrowIt 58 = .ok (.iconst 1, 1) := by decide +kernel
theorem dX10_regrowIt_59 : decode cX10_regrowIt 59 = .ok (.aload_n 0, 1) := by decide +kernel
theorem dX10_regrowIt_60 : decode cX10_regrowIt 60 = .ok (.iload_n 3, 1) := by decide +kernel
theorem dX10_regrowIt_61 : decode cX10_regrowIt 61 = .ok (.iconst 3, 1) := by decide +kernel
theorem dX10_regrowIt_62 : decode cX10_regrowIt 62 = .ok (.invokevirtual 67, 3) := by decide +kernel
theorem dX10_regrowIt_65 : decode cX10_regrowIt 65 = .ok (.iconst 2, 1) := by decide +kernel
theorem dX10_regrowIt_66 : decode cX10_regrowIt 66 = .ok (.idiv, 1) := by decide +kernel
theorem dX10_regrowIt_67 : decode cX10_regrowIt 67 = .ok (.invokestatic 138, 3) := by decide +kernel
theorem dX10_regrowIt_70 : decode cX10_regrowIt 70 = .ok (.invokevirtual 116, 3) := by decide +kernel
theorem dX10_regrowIt_73 : decode cX10_regrowIt 73 = .ok (.ireturn, 1) := by decide +kernel
set_option maxHeartbeats 1000000 in
set_option maxRecDepth 20000 in
theorem m_regrowIt (l : Launch) (D : va_G) (aT : Nat → ClassId) (ad : Nat → Nat) (S : MSt) (x : Int32) (hF : FoW (S 0)) : MdI l yX10_regrowIt cX10_regrowIt 4 .int 5 111 D aT ad [.ref (ad 0), .int x] S (fun r S1 => (fnd (fun k => S 0 (29 + 4 * k)) x (nM (S 0)) = none ∧ r = -1 ∧ S1 = ss S 8 (nI 1)) ∨ (∃ q, fnd (fun k => S 0 (29 + 4 * k)) x (nM (S 0)) = some q ∧ nM (S 0) = 12 ∧ r = -1 ∧ S1 = ss S 8 (nI 2)) ∨ (∃ q t, fnd (fun k => S 0 (29 + 4 * k)) x (nM (S 0)) = some q ∧ nM (S 0) < 12 ∧ ltp (prM (S 0)) (nM (S 0)) q (nM (S 0)) = some t ∧ r = S 0 1 ∧ S1 = sr S 0 (addF (S 0) (nM (S 0)) (S 0 (29 + 4 * t)) (nI ((tnM (S 0) t + 1) % 10)) (hlfF (S 0 (29 + 4 * t + 3)))))) := by
  refine MdI.of (by decide +kernel) rfl (Nat.le_of_ble_eq_true rfl) ?_
  intro p e s m below meth c A ls C hml hl hA hr hlocks hW
  have hl : lv_has ls 4 [(0, .ref (ad 0)), (1, .int x)] := hl
  have hx := C.1
  have hb := C.2.1
  refine lv_aload_n hx hb dX10_regrowIt_0 rfl (lv_at hl 0 rfl) ?_
  refine lv_iload_n hx hb dX10_regrowIt_1 rfl (lv_at hl 1 rfl) ?_
  refine md_callg C hml hl.1 (As := [.int x]) (rest := []) (m_find l D aT ad S (x) (nM (S 0)) hF.1 hF.2.1) gT_find hd_find rfl ⟨Nat.le_of_ble_eq_true rfl, Nat.le_of_ble_eq_true rfl⟩ ⟨Nat.le_refl _, Nat.le_refl _⟩ hW hA rfl (Nat.le_of_ble_eq_true rfl) dX10_regrowIt_2 (fun r_2 H locs hq hW => ?_)
  subst hq
  refine lv_istore_n (lv' := [(2, .int (oi (fnd (fun k => S 0 (29 + 4 * k)) (x) (nM (S 0))))), (0, .ref (ad 0)), (1, .int x)]) hx hb dX10_regrowIt_5 rfl hl (by decide) rfl (fun ls hl => ?_)
  refine lv_iload_n hx hb dX10_regrowIt_6 rfl (lv_at hl 0 rfl) ?_
  refine lv_iconst (v := (-1)) hx hb dX10_regrowIt_7 (by decide) ?_
  refine r_oi_ne hx hb (o := (fnd (fun k => S 0 (29 + 4 * k)) (x) (nM (S 0)))) (fun j hj => by have := (fnd_some hj).1; have := hF.n12; omega) (tgt := 17) dX10_regrowIt_8 (by decide) (fun j_8 c_8 => ?_) (fun c_8 => ?_)
  · have hl : lv_has ls 4 [(2, .int (nI j_8)), (0, .ref (ad 0)), (1, .int x)] := by rw [c_8] at hl; exact hl
    have hq := (fnd_some c_8).1
    have h12 := hF.n12
    refine lv_aload_n hx hb dX10_regrowIt_17 rfl (lv_at hl 1 rfl) ?_
    refine md_geta_m C hW dX10_regrowIt_18 ?_
    refine lv_iconst (v := nI 2) hx hb dX10_regrowIt_21 (by decide) ?_
    refine md_ald_m C hW (i := 2) (by omega) dX10_regrowIt_22 ?_
    refine r_eq (y := (nI (nM (S 0)))) (hF.1) ?_
    refine lv_bipush (v := nI 12) hx hb dX10_regrowIt_23 (by decide) ?_
    refine r_neN hx hb (a := (nM (S 0))) (b := 12) (by omega) (by omega) (tgt := 34) dX10_regrowIt_25 (by decide) (fun c_25 => ?_) (fun c_25 => ?_)
    · refine lv_aload_n hx hb dX10_regrowIt_34 rfl (lv_at hl 1 rfl) ?_
      refine lv_iload_n hx hb dX10_regrowIt_35 rfl (lv_at hl 0 rfl) ?_
      obtain ⟨t, ht, htn⟩ := ltp_ex hF.ok hq
      refine md_callg C hml hl.1 (As := [.int (nI j_8)]) (rest := []) (m_lastTipAt l D aT ad S (nM (S 0)) (idM (S 0)) (prM (S 0)) (tnM (S 0)) hF j_8 (hq)) gT_lastTipAt hd_lastTipAt rfl ⟨Nat.le_of_ble_eq_true rfl, Nat.le_of_ble_eq_true rfl⟩ ⟨Nat.le_refl _, Nat.le_refl _⟩ hW hA rfl (Nat.le_of_ble_eq_true rfl) dX10_regrowIt_36 (fun r_36 H locs hq hW => ?_)
      subst hq
      refine r_eq (y := (nI t)) (by rw [ht]; rfl) ?_
      refine lv_istore_n (lv' := [(3, .int (nI t)), (2, .int (nI j_8)), (0, .ref (ad 0)), (1, .int x)]) hx hb dX10_regrowIt_39 rfl hl (by decide) rfl (fun ls hl => ?_)
      refine lv_aload_n hx hb dX10_regrowIt_40 rfl (lv_at hl 2 rfl) ?_
      refine lv_aload_n hx hb dX10_regrowIt_41 rfl (lv_at hl 2 rfl) ?_
      refine lv_iload_n hx hb dX10_regrowIt_42 rfl (lv_at hl 0 rfl) ?_
      refine lv_iconst (v := nI 0) hx hb dX10_regrowIt_43 (by decide) ?_
      refine md_callg C hml hl.1 (As := [.int (nI t), .int (nI 0)]) (rest := [.ref (ad 0)]) (m_of l D aT ad S t 0 (by omega)) gT_of hd_of rfl ⟨Nat.le_of_ble_eq_true rfl, Nat.le_of_ble_eq_true rfl⟩ ⟨Nat.le_refl _, Nat.le_refl _⟩ hW hA rfl (Nat.le_of_ble_eq_true rfl) dX10_regrowIt_44 (fun r_44 H locs hq hW => ?_)
      subst hq
      refine r_eq (y := (S 0 (29 + 4 * t))) (rfl) ?_
      refine lv_aload_n hx hb dX10_regrowIt_47 rfl (lv_at hl 2 rfl) ?_
      refine lv_iload_n hx hb dX10_regrowIt_48 rfl (lv_at hl 0 rfl) ?_
      refine lv_iconst (v := nI 2) hx hb dX10_regrowIt_49 (by decide) ?_
      refine md_callg C hml hl.1 (As := [.int (nI t), .int (nI 2)]) (rest := [.int (S 0 (29 + 4 * t)), .ref (ad 0)]) (m_of l D aT ad S t 2 (by omega)) gT_of hd_of rfl ⟨Nat.le_of_ble_eq_true rfl, Nat.le_of_ble_eq_true rfl⟩ ⟨Nat.le_refl _, Nat.le_refl _⟩ hW hA rfl (Nat.le_of_ble_eq_true rfl) dX10_regrowIt_50 (fun r_50 H locs hq hW => ?_)
      subst hq
      refine r_eq (y := (nI (tnM (S 0) t))) ((hF.2.2.2.2.2.2 t htn).1) ?_
      refine lv_iconst (v := nI 1) hx hb dX10_regrowIt_53 (by decide) ?_
      refine r_iaddN hx hb (a := (tnM (S 0) t)) (b := 1) dX10_regrowIt_54 ?_
      refine lv_bipush (v := nI 10) hx hb dX10_regrowIt_55 (by decide) ?_
      refine lv_irem hx hb dX10_regrowIt_57 (by decide) ?_
      refine r_eq (y := (nI ((tnM (S 0) t + 1) % 10))) (pk_rem (by have := (hF.2.2.2.2.2.2 t htn).2; omega) (by decide) (by decide)) ?_
      refine lv_iconst (v := nI 1) hx hb dX10_regrowIt_58 (by decide) ?_
      refine lv_aload_n hx hb dX10_regrowIt_59 rfl (lv_at hl 2 rfl) ?_
      refine lv_iload_n hx hb dX10_regrowIt_60 rfl (lv_at hl 0 rfl) ?_
      refine lv_iconst (v := nI 3) hx hb dX10_regrowIt_61 (by decide) ?_
      refine md_callg C hml hl.1 (As := [.int (nI t), .int (nI 3)]) (rest := [.int (nI 1), .int (nI ((tnM (S 0) t + 1) % 10)), .int (S 0 (29 + 4 * t)), .ref (ad 0)]) (m_of l D aT ad S t 3 (by omega)) gT_of hd_of rfl ⟨Nat.le_of_ble_eq_true rfl, Nat.le_of_ble_eq_true rfl⟩ ⟨Nat.le_refl _, Nat.le_refl _⟩ hW hA rfl (Nat.le_of_ble_eq_true rfl) dX10_regrowIt_62 (fun r_62 H locs hq hW => ?_)
      subst hq
      refine lv_iconst (v := nI 2) hx hb dX10_regrowIt_65 (by decide) ?_
      refine lv_idiv hx hb dX10_regrowIt_66 (by decide) ?_
      refine md_max C hml hl.1 gk_max ⟨Nat.le_of_ble_eq_true rfl, Nat.le_of_ble_eq_true rfl, Nat.le_of_ble_eq_true rfl⟩ ⟨Nat.le_refl _, Nat.le_refl _⟩ dX10_regrowIt_67 ?_
      refine md_calli C hml hl.1 (As := [.int (S 0 (29 + 4 * t)), .int (nI ((tnM (S 0) t + 1) % 10)), .int (if (nI 1) < ((S 0 (29 + 4 * t + 3)) / (nI 2)) then ((S 0 (29 + 4 * t + 3)) / (nI 2)) else (nI 1))]) (rest := []) (m_adds l D aT ad S (nM (S 0)) ((S 0 (29 + 4 * t))) ((nI ((tnM (S 0) t + 1) % 10))) ((if (nI 1) < ((S 0 (29 + 4 * t + 3)) / (nI 2)) then ((S 0 (29 + 4 * t + 3)) / (nI 2)) else (nI 1))) hF.1 (by omega)) gT_adds hd_adds rfl ⟨Nat.le_of_ble_eq_true rfl, Nat.le_of_ble_eq_true rfl⟩ ⟨Nat.le_refl _, Nat.le_refl _⟩ hW hA rfl (Nat.le_of_ble_eq_true rfl) dX10_regrowIt_70 (fun r_70 S_70 H locs hq hW => ?_)
      obtain ⟨rfl, rfl⟩ := hq
      exact md_iret C hr hlocks rfl hW (Or.inr (Or.inr ⟨j_8, t, c_8, by omega, ht, rfl, rfl⟩)) dX10_regrowIt_73
    · refine lv_aload_n hx hb dX10_regrowIt_28 rfl (lv_at hl 1 rfl) ?_
      refine lv_iconst (v := nI 2) hx hb dX10_regrowIt_29 (by decide) ?_
      refine md_calli C hml hl.1 (As := [.int (nI 2)]) (rest := []) (m_throwing l D aT ad S 2) gT_throwing hd_throwing rfl ⟨Nat.le_of_ble_eq_true rfl, Nat.le_of_ble_eq_true rfl⟩ ⟨Nat.le_refl _, Nat.le_refl _⟩ hW hA rfl (Nat.le_of_ble_eq_true rfl) dX10_regrowIt_30 (fun r_30 S_30 H locs hq hW => ?_)
      obtain ⟨rfl, rfl⟩ := hq
      exact md_iret C hr hlocks rfl hW (Or.inr (Or.inl ⟨j_8, c_8, c_25, rfl, rfl⟩)) dX10_regrowIt_33
  · have hl : lv_has ls 4 [(2, .int (-1)), (0, .ref (ad 0)), (1, .int x)] := by rw [c_8] at hl; exact hl
    refine lv_aload_n hx hb dX10_regrowIt_11 rfl (lv_at hl 1 rfl) ?_
    refine lv_iconst (v := nI 1) hx hb dX10_regrowIt_12 (by decide) ?_
    refine md_calli C hml hl.1 (As := [.int (nI 1)]) (rest := []) (m_throwing l D aT ad S 1) gT_throwing hd_throwing rfl ⟨Nat.le_of_ble_eq_true rfl, Nat.le_of_ble_eq_true rfl⟩ ⟨Nat.le_refl _, Nat.le_refl _⟩ hW hA rfl (Nat.le_of_ble_eq_true rfl) dX10_regrowIt_13 (fun r_13 S_13 H locs hq hW => ?_)
    obtain ⟨rfl, rfl⟩ := hq
    exact md_iret C hr hlocks rfl hW (Or.inl ⟨c_8, rfl, rfl⟩) dX10_regrowIt_16
end
section
theorem snM_eq {m : Nat → Int32} {s0 : Nat} (hs : m 3 = nI s0) (h : s0 < 4) : snM m = s0 := by unfold snM; rw [hs, nI_clamp (by omega)]
/-- what a row says of its hedges, read off it -/
def hM (m : Nat → Int32) : Nat := (m 0).toNatClampNeg
def lvM (m : Nat → Int32) (i : Nat) : Nat := (m (11 + 3 * i)).toNatClampNeg
def thM (m : Nat → Int32) (i : Nat) : Nat := (m (11 + 3 * i + 1)).toNatClampNeg
def taM (m : Nat → Int32) (i : Nat) : Nat := (m (11 + 3 * i + 2)).toNatClampNeg
def HeW (m : Nat → Int32) : Prop := HeR m (hM m) (lvM m) (thM m) (taM m)
theorem HeR.eqs {m : Nat → Int32} {h : Nat} {lv th ta : Nat → Nat} (H : HeR m h lv th ta) : hM m = h ∧ (∀ i, i < h → lvM m i = lv i) ∧ (∀ i, i < h → thM m i = th i) ∧ ∀ i, i < h → taM m i = ta i := by
  refine ⟨?_, fun i hi => ?_, fun i hi => ?_, fun i hi => ?_⟩
  · unfold hM; rw [H.1, nI_clamp (by have := H.2.1; omega)]
  · unfold lvM; rw [(H.2.2.1 i hi).1, nI_clamp (by have := (H.2.2.1 i hi).2; omega)]
  · unfold thM; rw [(H.2.2.2.1 i hi).1, nI_clamp (by have := (H.2.2.2.1 i hi).2; omega)]
  · unfold taM; rw [(H.2.2.2.2 i hi).1, nI_clamp (by have := (H.2.2.2.2 i hi).2; omega)]
theorem HeR.w {m : Nat → Int32} {h : Nat} {lv th ta : Nat → Nat} (H : HeR m h lv th ta) : HeW m := by
  obtain ⟨e1, e2, e3, e4⟩ := H.eqs
  unfold HeW
  rw [e1]
  obtain ⟨h1, h2, h3, h4, h5⟩ := id H
  exact ⟨h1, h2, fun i hi => by rw [e2 i hi]; exact h3 i hi, fun i hi => by rw [e3 i hi]; exact h4 i hi, fun i hi => by rw [e4 i hi]; exact h5 i hi⟩
/-- the row behind a vote of the first i hedges about a tone, and whether one has vetoed -/
def vtF (t : Nat) (m : Nat → Int32) : Nat → (Nat → Int32) × Bool
  | 0 => (m, false)
  | i + 1 => if vetB (dif (taM (vtF t m i).1 i) t) (thM (vtF t m i).1 i) then (upd (vtF t m i).1 (11 + 3 * i + 1) (nI (thM (vtF t m i).1 i - 1)), true) else vtF t m i
theorem HeW.thorn {m : Nat → Int32} (H : HeW m) {i q : Nat} (hi : i < hM m) (hq : q ≤ 9) : HeW (upd m (11 + 3 * i + 1) (nI q)) ∧ hM (upd m (11 + 3 * i + 1) (nI q)) = hM m ∧ (∀ k, k < hM m → lvM (upd m (11 + 3 * i + 1) (nI q)) k = lvM m k) ∧ ∀ k, k < hM m → taM (upd m (11 + 3 * i + 1) (nI q)) k = taM m k := by
  obtain ⟨h1, h2, h3, h4, h5⟩ := id H
  have key : HeR (upd m (11 + 3 * i + 1) (nI q)) (hM m) (lvM m) (fun k => if k = i then q else thM m k) (taM m) := by
    refine ⟨by rw [pk_un (by omega)]; exact h1, h2, fun k hk => by rw [pk_un (by omega)]; exact h3 k hk, fun k hk => ?_, fun k hk => by rw [pk_un (by omega)]; exact h5 k hk⟩
    by_cases hki : k = i
    · subst hki; dsimp only; rw [pk_us, if_pos rfl]; exact ⟨rfl, hq⟩
    · dsimp only; rw [pk_un (by omega), if_neg hki]; exact h4 k hk
  exact ⟨key.w, key.eqs.1, key.eqs.2.1, key.eqs.2.2.2⟩
theorem FoR.he {m m' : Nat → Int32} {n : Nat} {idn : Nat → Nat} {pr : Nat → Option Nat} {tn : Nat → Nat} (h : FoR m n idn pr tn) (e : ∀ j, j = 2 ∨ 29 ≤ j → m' j = m j) : FoR m' n idn pr tn := h.cong (fun j hj => e j (by rcases hj with rfl | ⟨k, w, _, _, rfl⟩ <;> omega))
/-- what the rows of a vote keep -/
def vtOk (m m' : Nat → Int32) : Prop := HeW m' ∧ hM m' = hM m ∧ (∀ j, (j < 11 ∨ 29 ≤ j) → m' j = m j) ∧ (∀ k, k < hM m → lvM m' k = lvM m k) ∧ ∀ k, k < hM m → taM m' k = taM m k
theorem vtF_ok {t : Nat} {m : Nat → Int32} (H : HeW m) : ∀ i, i ≤ hM m → vtOk m (vtF t m i).1 := by
  intro i
  induction i with
  | zero => intro _; exact ⟨H, rfl, fun _ _ => rfl, fun _ _ => rfl, fun _ _ => rfl⟩
  | succ i ih =>
    intro hi
    obtain ⟨a1, a2, a3, a4, a5⟩ := ih (by omega)
    unfold vtF
    split
    · have h9 := (a1.2.2.2.1 i (by rw [a2]; omega)).2
      have h6 := H.2.1
      obtain ⟨b1, b2, b3, b4⟩ := a1.thorn (i := i) (q := thM (vtF t m i).1 i - 1) (by rw [a2]; omega) (by omega)
      exact ⟨b1, by rw [b2, a2], fun j hj => by dsimp only; rw [pk_un (by omega)]; exact a3 j hj, fun k hk => by rw [b3 k (by rw [a2]; exact hk), a4 k hk], fun k hk => by rw [b4 k (by rw [a2]; exact hk), a5 k hk]⟩
    · exact ⟨a1, a2, a3, a4, a5⟩
theorem fav_cong {lv lv' ta ta' : Nat → Nat} {t : Nat} : ∀ {i : Nat}, (∀ k, k < i → lv k = lv' k) → (∀ k, k < i → ta k = ta' k) → fav lv ta t i = fav lv' ta' t i := by
  intro i
  induction i with
  | zero => intro _ _; rfl
  | succ i ih => intro h1 h2; unfold fav; rw [ih (fun k hk => h1 k (by omega)) (fun k hk => h2 k (by omega)), h1 i (by omega), h2 i (by omega)]
theorem sml_cong {lv lv' : Nat → Nat} : ∀ {i : Nat}, (∀ k, k < i → lv k = lv' k) → sml lv i = sml lv' i := by
  intro i
  induction i with
  | zero => intro _; rfl
  | succ i ih => intro h1; unfold sml; rw [ih (fun k hk => h1 k (by omega)), h1 i (by omega)]
theorem sml_le {lv : Nat → Nat} : ∀ {i : Nat}, (∀ k, k < i → lv k ≤ 99) → sml lv i ≤ 99 * i := by
  intro i
  induction i with
  | zero => intro _; exact Nat.le_refl _
  | succ i ih => intro h; unfold sml; have := ih (fun k hk => h k (by omega)); have := h i (by omega); omega
theorem fav_le {lv ta : Nat → Nat} {t : Nat} : ∀ {i : Nat}, (∀ k, k < i → lv k ≤ 99) → fav lv ta t i ≤ 99 * i := by
  intro i
  induction i with
  | zero => intro _; exact Nat.le_refl _
  | succ i ih =>
    intro h; unfold fav
    have := ih (fun k hk => h k (by omega))
    have := h i (by omega)
    split <;> omega
/-- whether a tip is carried, the vetoes aside -/
def carB (m : Nat → Int32) (t : Nat) : Bool := decide (sml (lvM m) (hM m) < 2 * fav (lvM m) (taM m) t (hM m))
theorem vtF_no {t i : Nat} {m mm : Nat → Int32} {b : Bool} (hv : (mm, b) = vtF t m i) (h : vetB (dif (taM mm i) t) (thM mm i) = false) : (mm, b) = vtF t m (i + 1) := by
  unfold vtF
  rw [← hv]
  dsimp only
  rw [h]
  rfl
theorem vtF_yes {t i : Nat} {m mm : Nat → Int32} {b : Bool} (hv : (mm, b) = vtF t m i) (h : vetB (dif (taM mm i) t) (thM mm i) = true) : (upd mm (11 + 3 * i + 1) (nI (thM mm i - 1)), true) = vtF t m (i + 1) := by
  unfold vtF
  rw [← hv]
  dsimp only
  rw [h]
  rfl
/-- the row behind a vote, and what the vote tells -/
def votF (m : Nat → Int32) (q : Nat) : Nat → Int32 := dropF (if (vtF (tnM m q) m (hM m)).2 = false ∧ carB (vtF (tnM m q) m (hM m)).1 (tnM m q) = true then carF (upd (vtF (tnM m q) m (hM m)).1 9 ((vtF (tnM m q) m (hM m)).1 9 + nI 1)) q else upd (vtF (tnM m q) m (hM m)).1 9 ((vtF (tnM m q) m (hM m)).1 9 + nI 1)) q (nM m)
def votC (m : Nat → Int32) (q : Nat) : Nat := if (vtF (tnM m q) m (hM m)).2 = true then 118 else if carB (vtF (tnM m q) m (hM m)).1 (tnM m q) = true then 99 else 114
theorem votF_v {m mm : Nat → Int32} {q : Nat} (hv : (mm, true) = vtF (tnM m q) m (hM m)) : votC m q = 118 ∧ votF m q = dropF (upd mm 9 (mm 9 + nI 1)) q (nM m) := by
  unfold votC votF
  rw [← hv]
  simp
theorem votF_c {m mm : Nat → Int32} {q : Nat} (hv : (mm, false) = vtF (tnM m q) m (hM m)) (hc : carB mm (tnM m q) = true) : votC m q = 99 ∧ votF m q = dropF (carF (upd mm 9 (mm 9 + nI 1)) q) q (nM m) := by
  unfold votC votF
  rw [← hv]
  simp [hc]
theorem votF_r {m mm : Nat → Int32} {q : Nat} (hv : (mm, false) = vtF (tnM m q) m (hM m)) (hc : carB mm (tnM m q) = false) : votC m q = 114 ∧ votF m q = dropF (upd mm 9 (mm 9 + nI 1)) q (nM m) := by
  unfold votC votF
  rw [← hv]
  simp [hc]
theorem carF_o {m : Nat → Int32} {k j : Nat} (h : j ≠ 8) (h2 : j < 4 ∨ 8 ≤ j) (h3 : j ≠ 10) (h4 : j < 29 ∨ ∀ p, j ≠ 29 + 4 * p + 3) (hs : snM m < 4) : carF m k j = m j := by
  unfold carF
  cases prM m k with
  | none => dsimp only; rw [pk_un h, pk_un (by omega), pk_un h3]
  | some p => dsimp only; rw [pk_un (by rcases h4 with h4 | h4; omega; exact h4 p), pk_un h3]
theorem gT_carries : GoodIn gw (wsV RX10 154 RX10 yX10_carries (Cond.code yX10_carries cX10_carries 2 (none) :: gw)) := gdV gw_1821 gw_1823 gw_43 gw_81 gw_1824
theorem hd_carries : yX10_carries.cls = RX10 ∧ yX10_carries.cls ≠ "java/lang/invoke/MethodHandle" ∧ yX10_carries.cls ≠ "java/lang/invoke/VarHandle" ∧ (parseMethodDescriptor yX10_carries.desc).map (fun d => d.parameters.length) = some 1 := ⟨rfl, by decide +kernel, by decide +kernel, by decide +kernel⟩
theorem dX10_carries_0 : decode cX10_carries 0 = .ok (.aload_n 0, 1) := by decide +kernel
theorem dX10_carries_1 : decode cX10_carries 1 = .ok (.getfield 9, 3) := by decide +kernel
theorem dX10_carries_4 : decode cX10_carries 4 = .ok (.bipush 10, 2) := by decide +kernel
theorem dX10_carries_6 : decode cX10_carries 6 = .ok (.dup2, 1) := by decide +kernel
theorem dX10_carries_7 : decode cX10_carries 7 = .ok (.iaload, 1) := by decide +kernel
theorem dX10_carries_8 : decode cX10_carries 8 = .ok (.iconst 1, 1) := by decide +kernel
theorem dX10_carries_9 : decode cX10_carries 9 = .ok (.iadd, 1) := by decide +kernel
theorem dX10_carries_10 : decode cX10_carries 10 = .ok (.iastore, 1) := by decide +kernel
theorem dX10_carries_11 : decode cX10_carries 11 = .ok (.aload_n 0, 1) := by decide +kernel
theorem dX10_carries_12 : decode cX10_carries 12 = .ok (.iload_n 1, 1) := by decide +kernel
theorem dX10_carries_13 : decode cX10_carries 13 = .ok (.invokevirtual 75, 3) := by decide +kernel
theorem dX10_carries_16 : decode cX10_carries 16 = .ok (.iconst (-1), 1) := by decide +kernel
theorem dX10_carries_17 : decode cX10_carries 17 = .ok (.if_icmp .ne 39, 3) := by decide +kernel
theorem dX10_carries_20 : decode cX10_carries 20 = .ok (.aload_n 0, 1) := by decide +kernel
theorem dX10_carries_21 : decode cX10_carries 21 = .ok (.getfield 9, 3) := by decide +kernel
theorem dX10_carries_24 : decode cX10_carries 24 = .ok (.iconst 4, 1) := by decide +kernel
theorem dX10_carries_25 : decode cX10_carries 25 = .ok (.aload_n 0, 1) := by decide +kernel
theorem dX10_carries_26 : decode cX10_carries 26 = .ok (.getfield 9, 3) := by decide +kernel
theorem dX10_carries_29 : decode cX10_carries 29 = .ok (.iconst 3, 1) := by decide +kernel
theorem dX10_carries_30 : decode cX10_carries 30 = .ok (.iaload, 1) := by decide +kernel
theorem dX10_carries_31 : decode cX10_carries 31 = .ok (.iadd, 1) := by decide +kernel
theorem dX10_carries_32 : decode cX10_carries 32 = .ok (.dup2, 1) := by decide +kernel
theorem dX10_carries_33 : decode cX10_carries 33 = .ok (.iaload, 1) := by decide +kernel
theorem dX10_carries_34 : decode cX10_carries 34 = .ok (.iconst 1, 1) := by decide +kernel
theorem dX10_carries_35 : decode cX10_carries 35 = .ok (.iadd, 1) := by decide +kernel
theorem dX10_carries_36 : decode cX10_carries 36 = .ok (.iastore, 1) := by decide +kernel
theorem dX10_carries_37 : decode cX10_carries 37 = .ok (.aload_n 0, 1) := by decide +kernel
theorem dX10_carries_38 : decode cX10_carries 38 = .ok (.getfield 9, 3) := by decide +kernel
theorem dX10_carries_41 : decode cX10_carries 41 = .ok (.bipush 8, 2) := by decide +kernel
theorem dX10_carries_43 : decode cX10_carries 43 = .ok (.dup2, 1) := by decide +kernel
theorem dX10_carries_44 : decode cX10_carries 44 = .ok (.iaload, 1) := by decide +kernel
theorem dX10_carries_45 : decode cX10_carries 45 = .ok (.aload_n 0, 1) := by decide +kernel
theorem dX10_carries_46 : decode cX10_carries 46 = .ok (.iload_n 1, 1) := by decide +kernel
theorem dX10_carries_47 : decode cX10_carries 47 = .ok (.iconst 3, 1) := by decide +kernel
theorem dX10_carries_48 : decode cX10_carries 48 = .ok (.invokevirtual 67, 3) := by decide +kernel
theorem dX10_carries_51 : decode cX10_carries 51 = .ok (.iadd, 1) := by decide +kernel
theorem dX10_carries_52 : decode cX10_carries 52 = .ok (.iastore, 1) := by decide +kernel
theorem dX10_carries_53 : decode cX10_carries 53 = .ok (.goto 29, 3) := by decide +kernel
theorem dX10_carries_56 : decode cX10_carries 56 = .ok (.aload_n 0, 1) := by decide +kernel
theorem dX10_carries_57 : decode cX10_carries 57 = .ok (.getfield 9, 3) := by decide +kernel
theorem dX10_carries_60 : decode cX10_carries 60 = .ok (.bipush 29, 2) := by decide +kernel
theorem dX10_carries_62 : decode cX10_carries 62 = .ok (.iconst 4, 1) := by decide +kernel
theorem dX10_carries_63 : decode cX10_carries 63 = .ok (.aload_n 0, 1) := by decide +kernel
theorem dX10_carries_64 : decode cX10_carries 64 = .ok (.iload_n 1, 1) := by decide +kernel
theorem dX10_carries_65 : decode cX10_carries 65 = .ok (.invokevirtual 75, 3) := by decide +kernel
theorem dX10_carries_68 : decode cX10_carries 68 = .ok (.imul, 1) := by decide +kernel
theorem dX10_carries_69 : decode cX10_carries 69 = .ok (.iadd, 1) := by decide +kernel
theorem dX10_carries_70 : decode cX10_carries 70 = .ok (.iconst 3, 1) := by decide +kernel
theorem dX10_carries_71 : decode cX10_carries 71 = .ok (.iadd, 1) := by decide +kernel
theorem dX10_carries_72 : decode cX10_carries 72 = .ok (.dup2, 1) := by decide +kernel
theorem dX10_carries_73 : decode cX10_carries 73 = .ok (.iaload, 1) := by decide +kernel
theorem dX10_carries_74 : decode cX10_carries 74 = .ok (.aload_n 0, 1) := by decide +kernel
theorem dX10_carries_75 : decode cX10_carries 75 = .ok (.iload_n 1, 1) := by decide +kernel
theorem dX10_carries_76 : decode cX10_carries 76 = .ok (.iconst 3, 1) := by decide +kernel
theorem dX10_carries_77 : decode cX10_carries 77 = .ok (.invokevirtual 67, 3) := by decide +kernel
theorem dX10_carries_80 : decode cX10_carries 80 = .ok (.iadd, 1) := by decide +kernel
theorem dX10_carries_81 : decode cX10_carries 81 = .ok (.iastore, 1) := by decide +kernel
theorem dX10_carries_82 : decode cX10_carries 82 = .ok (.return_, 1) := by decide +kernel
set_option maxHeartbeats 1000000 in
set_option maxRecDepth 20000 in
theorem m_carries (l : Launch) (D : va_G) (aT : Nat → ClassId) (ad : Nat → Nat) (S : MSt) (k s0 : Nat) (hF : FoW (S 0)) (hk : k < nM (S 0)) (hs : S 0 3 = nI s0) (hs4 : s0 < 4) : MdV l yX10_carries cX10_carries 2 3 65 D aT ad [.ref (ad 0), .int (nI k)] S (fun S1 => S1 = sr S 0 (carF (S 0) k)) := by
  have hFc : ∀ x, FoR (upd (S 0) 10 x) (nM (S 0)) (idM (S 0)) (prM (S 0)) (tnM (S 0)) := fun x => FoR.he hF (fun j hj => pk_un (by omega))
  have hsn : snM (S 0) = s0 := snM_eq hs hs4
  have h12 := hF.n12
  refine MdV.of (by decide +kernel) rfl (Nat.le_of_ble_eq_true rfl) ?_
  intro p e s m below meth c A ls C hml hl hA hr hlocks hW
  have hl : lv_has ls 2 [(0, .ref (ad 0)), (1, .int (nI k))] := hl
  have hx := C.1
  have hb := C.2.1
  refine lv_aload_n hx hb dX10_carries_0 rfl (lv_at hl 0 rfl) ?_
  refine md_geta_m C hW dX10_carries_1 ?_
  refine lv_bipush (v := nI 10) hx hb dX10_carries_4 (by decide) ?_
  refine lv_dup2_11 hx hb dX10_carries_6 rfl rfl ?_
  refine md_ald_m C hW (i := 10) (by omega) dX10_carries_7 ?_
  refine r_eq (y := (S 0 10)) (rfl) ?_
  refine lv_iconst (v := nI 1) hx hb dX10_carries_8 (by decide) ?_
  refine lv_iadd hx hb dX10_carries_9 ?_
  refine md_ast_m C hW (i := 10) (by omega) dX10_carries_10 (fun H locs hW => ?_)
  refine lv_aload_n hx hb dX10_carries_11 rfl (lv_at hl 0 rfl) ?_
  refine lv_iload_n hx hb dX10_carries_12 rfl (lv_at hl 1 rfl) ?_
  refine md_callg C hml hl.1 (As := [.int (nI k)]) (rest := []) (m_above l D aT ad (sr S 0 (upd (S 0) 10 (((S 0 10) + (nI 1))))) (nM (S 0)) (idM (S 0)) (prM (S 0)) (tnM (S 0)) (hFc _) k (hk)) gT_above hd_above rfl ⟨Nat.le_of_ble_eq_true rfl, Nat.le_of_ble_eq_true rfl⟩ ⟨Nat.le_refl _, Nat.le_refl _⟩ hW hA rfl (Nat.le_of_ble_eq_true rfl) dX10_carries_13 (fun r_13 H locs hq hW => ?_)
  subst hq
  refine lv_iconst (v := (-1)) hx hb dX10_carries_16 (by decide) ?_
  refine r_oi_ne hx hb (o := ((prM (S 0)) k)) (hF.plim hk) (tgt := 56) dX10_carries_17 (by decide) (fun j_17 c_17 => ?_) (fun c_17 => ?_)
  · have hj17 := hF.par hk c_17
    have h12 := hF.n12
    refine lv_aload_n hx hb dX10_carries_56 rfl (lv_at hl 0 rfl) ?_
    refine md_geta_m C hW dX10_carries_57 ?_
    refine lv_bipush (v := nI 29) hx hb dX10_carries_60 (by decide) ?_
    refine lv_iconst (v := nI 4) hx hb dX10_carries_62 (by decide) ?_
    refine lv_aload_n hx hb dX10_carries_63 rfl (lv_at hl 0 rfl) ?_
    refine lv_iload_n hx hb dX10_carries_64 rfl (lv_at hl 1 rfl) ?_
    refine md_callg C hml hl.1 (As := [.int (nI k)]) (rest := [.int (nI 4), .int (nI 29), .ref (ad 1)]) (m_above l D aT ad (sr S 0 (upd (S 0) 10 (((S 0 10) + (nI 1))))) (nM (S 0)) (idM (S 0)) (prM (S 0)) (tnM (S 0)) (hFc _) k (hk)) gT_above hd_above rfl ⟨Nat.le_of_ble_eq_true rfl, Nat.le_of_ble_eq_true rfl⟩ ⟨Nat.le_refl _, Nat.le_refl _⟩ hW hA rfl (Nat.le_of_ble_eq_true rfl) dX10_carries_65 (fun r_65 H locs hq hW => ?_)
    subst hq
    refine r_eq (y := (nI j_17)) (by rw [c_17]; rfl) ?_
    refine r_imulN hx hb (a := 4) (b := j_17) dX10_carries_68 ?_
    refine r_iaddN hx hb (a := 29) (b := 4 * j_17) dX10_carries_69 ?_
    refine lv_iconst (v := nI 3) hx hb dX10_carries_70 (by decide) ?_
    refine r_iaddN hx hb (a := 29 + 4 * j_17) (b := 3) dX10_carries_71 ?_
    refine lv_dup2_11 hx hb dX10_carries_72 rfl rfl ?_
    refine md_ald_m C hW (i := 29 + 4 * j_17 + 3) (by omega) dX10_carries_73 ?_
    refine r_eq (y := (S 0 (29 + 4 * j_17 + 3))) (by simp only [sr, upd, ↓reduceIte]; (repeat rw [if_neg (by omega)]); first | done | rfl) ?_
    refine lv_aload_n hx hb dX10_carries_74 rfl (lv_at hl 0 rfl) ?_
    refine lv_iload_n hx hb dX10_carries_75 rfl (lv_at hl 1 rfl) ?_
    refine lv_iconst (v := nI 3) hx hb dX10_carries_76 (by decide) ?_
    refine md_callg C hml hl.1 (As := [.int (nI k), .int (nI 3)]) (rest := [.int (S 0 (29 + 4 * j_17 + 3)), .int (nI (29 + 4 * j_17 + 3)), .ref (ad 1)]) (m_of l D aT ad (sr S 0 (upd (S 0) 10 (((S 0 10) + (nI 1))))) k 3 (by have := hF.n12; omega)) gT_of hd_of rfl ⟨Nat.le_of_ble_eq_true rfl, Nat.le_of_ble_eq_true rfl⟩ ⟨Nat.le_refl _, Nat.le_refl _⟩ hW hA rfl (Nat.le_of_ble_eq_true rfl) dX10_carries_77 (fun r_77 H locs hq hW => ?_)
    subst hq
    refine r_eq (y := (S 0 (29 + 4 * k + 3))) (by simp only [sr, upd, ↓reduceIte]; (repeat rw [if_neg (by omega)]); first | done | rfl) ?_
    refine lv_iadd hx hb dX10_carries_80 ?_
    refine md_ast_m C hW (i := 29 + 4 * j_17 + 3) (by omega) dX10_carries_81 (fun H locs hW => ?_)
    exact md_vret C hr hlocks hW (by unfold carF; rw [c_17]; (try rw [hsn]); simp only [sr_sr, sr_s]) dX10_carries_82
  · refine lv_aload_n hx hb dX10_carries_20 rfl (lv_at hl 0 rfl) ?_
    refine md_geta_m C hW dX10_carries_21 ?_
    refine lv_iconst (v := nI 4) hx hb dX10_carries_24 (by decide) ?_
    refine lv_aload_n hx hb dX10_carries_25 rfl (lv_at hl 0 rfl) ?_
    refine md_geta_m C hW dX10_carries_26 ?_
    refine lv_iconst (v := nI 3) hx hb dX10_carries_29 (by decide) ?_
    refine md_ald_m C hW (i := 3) (by omega) dX10_carries_30 ?_
    refine r_eq (y := (nI s0)) (by simp only [sr, upd, ↓reduceIte]; (repeat rw [if_neg (by omega)]); exact hs) ?_
    refine r_iaddN hx hb (a := 4) (b := s0) dX10_carries_31 ?_
    refine lv_dup2_11 hx hb dX10_carries_32 rfl rfl ?_
    refine md_ald_m C hW (i := 4 + s0) (by omega) dX10_carries_33 ?_
    refine r_eq (y := (S 0 (4 + s0))) (by simp only [sr, upd, ↓reduceIte]; (repeat rw [if_neg (by omega)]); first | done | rfl) ?_
    refine lv_iconst (v := nI 1) hx hb dX10_carries_34 (by decide) ?_
    refine lv_iadd hx hb dX10_carries_35 ?_
    refine md_ast_m C hW (i := 4 + s0) (by omega) dX10_carries_36 (fun H locs hW => ?_)
    refine lv_aload_n hx hb dX10_carries_37 rfl (lv_at hl 0 rfl) ?_
    refine md_geta_m C hW dX10_carries_38 ?_
    refine lv_bipush (v := nI 8) hx hb dX10_carries_41 (by decide) ?_
    refine lv_dup2_11 hx hb dX10_carries_43 rfl rfl ?_
    refine md_ald_m C hW (i := 8) (by omega) dX10_carries_44 ?_
    refine r_eq (y := (S 0 8)) (by simp only [sr, upd, ↓reduceIte]; (repeat rw [if_neg (by omega)]); first | done | rfl) ?_
    refine lv_aload_n hx hb dX10_carries_45 rfl (lv_at hl 0 rfl) ?_
    refine lv_iload_n hx hb dX10_carries_46 rfl (lv_at hl 1 rfl) ?_
    refine lv_iconst (v := nI 3) hx hb dX10_carries_47 (by decide) ?_
    refine md_callg C hml hl.1 (As := [.int (nI k), .int (nI 3)]) (rest := [.int (S 0 8), .int (nI 8), .ref (ad 1)]) (m_of l D aT ad (sr (sr S 0 (upd (S 0) 10 (((S 0 10) + (nI 1))))) 0 (upd ((sr S 0 (upd (S 0) 10 (((S 0 10) + (nI 1))))) 0) (4 + s0) (((S 0 (4 + s0)) + (nI 1))))) k 3 (by have := hF.n12; omega)) gT_of hd_of rfl ⟨Nat.le_of_ble_eq_true rfl, Nat.le_of_ble_eq_true rfl⟩ ⟨Nat.le_refl _, Nat.le_refl _⟩ hW hA rfl (Nat.le_of_ble_eq_true rfl) dX10_carries_48 (fun r_48 H locs hq hW => ?_)
    subst hq
    refine r_eq (y := (S 0 (29 + 4 * k + 3))) (by simp only [sr, upd, ↓reduceIte]; (repeat rw [if_neg (by omega)]); first | done | rfl) ?_
    refine lv_iadd hx hb dX10_carries_51 ?_
    refine md_ast_m C hW (i := 8) (by omega) dX10_carries_52 (fun H locs hW => ?_)
    refine lv_goto (tgt := 82) hx hb dX10_carries_53 (by decide) ?_
    exact md_vret C hr hlocks hW (by unfold carF; rw [c_17]; (try rw [hsn]); simp only [sr_sr, sr_s]) dX10_carries_82
end
section
def byF (s : Nat) : Int32 := if s = 0 then nI 4 else if s = 1 then nI 2 else if s = 2 then -2 else -4
/-- a hedge's leaves when a season begins -/
def leafN (s lv : Nat) : Nat := if s = 0 then min 99 (lv + 4) else if s = 1 then min 99 (lv + 2) else if s = 2 then max 1 (lv - 2) else max 1 (lv - 4)
def taddN (s th : Nat) : Nat := if s = 0 ∧ th < 9 then 1 else 0
def clpF (x : Int32) : Int32 := if nI 1 < (if x < nI 99 then x else nI 99) then (if x < nI 99 then x else nI 99) else nI 1
theorem clp_eq : ∀ s, s < 4 → ∀ lv, lv < 100 → 1 ≤ lv → clpF (nI lv + byF s) = nI (leafN s lv) := by decide +kernel
theorem leafN_in {s lv : Nat} (h1 : 1 ≤ lv) (h2 : lv ≤ 99) : 1 ≤ leafN s lv ∧ leafN s lv ≤ 99 := by
  unfold leafN; split
  · omega
  · split
    · omega
    · split <;> omega
theorem taddN_in {s th : Nat} (h : th ≤ 9) : th + taddN s th ≤ 9 := by unfold taddN; split <;> omega
/-- the row when a season has begun, of the first i hedges -/
def seaF (s : Nat) (m : Nat → Int32) : Nat → Nat → Int32
  | 0 => m
  | i + 1 => upd (upd (seaF s m i) (11 + 3 * i) (nI (leafN s (lvM (seaF s m i) i)))) (11 + 3 * i + 1) (nI (thM (seaF s m i) i + taddN s (thM (seaF s m i) i)))
def seaOk (m m' : Nat → Int32) : Prop := HeW m' ∧ hM m' = hM m ∧ ∀ j, (j < 11 ∨ 29 ≤ j) → m' j = m j
theorem HeW.grow {m : Nat → Int32} (H : HeW m) {i a b : Nat} (hi : i < hM m) (ha : 1 ≤ a ∧ a ≤ 99) (hb : b ≤ 9) : HeW (upd (upd m (11 + 3 * i) (nI a)) (11 + 3 * i + 1) (nI b)) ∧ hM (upd (upd m (11 + 3 * i) (nI a)) (11 + 3 * i + 1) (nI b)) = hM m := by
  obtain ⟨h1, h2, h3, h4, h5⟩ := id H
  have key : HeR (upd (upd m (11 + 3 * i) (nI a)) (11 + 3 * i + 1) (nI b)) (hM m) (fun k => if k = i then a else lvM m k) (fun k => if k = i then b else thM m k) (taM m) := by
    refine ⟨by rw [pk_un (by omega), pk_un (by omega)]; exact h1, h2, fun k hk => ?_, fun k hk => ?_, fun k hk => by rw [pk_un (by omega), pk_un (by omega)]; exact h5 k hk⟩
    · by_cases hki : k = i
      · subst hki; dsimp only; rw [pk_un (by omega), pk_us, if_pos rfl]; exact ⟨rfl, ha⟩
      · dsimp only; rw [pk_un (by omega), pk_un (by omega), if_neg hki]; exact h3 k hk
    · by_cases hki : k = i
      · subst hki; dsimp only; rw [pk_us, if_pos rfl]; exact ⟨rfl, hb⟩
      · dsimp only; rw [pk_un (by omega), pk_un (by omega), if_neg hki]; exact h4 k hk
  exact ⟨key.w, key.eqs.1⟩
theorem seaF_ok {s : Nat} {m : Nat → Int32} (H : HeW m) : ∀ i, i ≤ hM m → seaOk m (seaF s m i) := by
  intro i
  induction i with
  | zero => intro _; exact ⟨H, rfl, fun _ _ => rfl⟩
  | succ i ih =>
    intro hi
    obtain ⟨a1, a2, a3⟩ := ih (by omega)
    have h6 := H.2.1
    have hl := (a1.2.2.1 i (by rw [a2]; omega)).2
    have ht := (a1.2.2.2.1 i (by rw [a2]; omega)).2
    obtain ⟨b1, b2⟩ := a1.grow (i := i) (by rw [a2]; omega) (leafN_in (s := s) hl.1 hl.2) (taddN_in (s := s) ht)
    unfold seaF
    exact ⟨b1, by rw [b2, a2], fun j hj => by rw [pk_un (by omega), pk_un (by omega)]; exact a3 j hj⟩
theorem gT_voteIt : GoodIn gw (wsV RX10 157 RX10 yX10_voteIt (Cond.code yX10_voteIt cX10_voteIt 5 (some .int) :: gw)) := gdV gw_1798 gw_1800 gw_38 gw_81 gw_1801
theorem hd_voteIt : yX10_voteIt.cls = RX10 ∧ yX10_voteIt.cls ≠ "java/lang/invoke/MethodHandle" ∧ yX10_voteIt.cls ≠ "java/lang/invoke/VarHandle" ∧ (parseMethodDescriptor yX10_voteIt.desc).map (fun d => d.parameters.length) = some 1 := ⟨rfl, by decide +kernel, by decide +kernel, by decide +kernel⟩
theorem dX10_voteIt_0 : decode cX10_voteIt 0 = .ok (.aload_n 0, 1) := by decide +kernel
theorem dX10_voteIt_1 : decode cX10_voteIt 1 = .ok (.iload_n 1, 1) := by decide +kernel
theorem dX10_voteIt_2 : decode cX10_voteIt 2 = .ok (.invokevirtual 71, 3) := by decide +kernel
theorem dX10_voteIt_5 : decode cX10_voteIt 5 = .ok (.istore_n 2, 1) := by decide +kernel
theorem dX10_voteIt_6 : decode cX10_voteIt 6 = .ok (.iload_n 2, 1) := by decide +kernel
theorem dX10_voteIt_7 : decode cX10_voteIt 7 = .ok (.iconst (-1), 1) := by decide +kernel
theorem dX10_voteIt_8 : decode cX10_voteIt 8 = .ok (.if_icmp .ne 9, 3) := by decide +kernel
theorem dX10_voteIt_11 : decode cX10_voteIt 11 = .ok (.aload_n 0, 1) := by decide +kernel
theorem dX10_voteIt_12 : decode cX10_voteIt 12 = .ok (.iconst 1, 1) := by decide +kernel
theorem dX10_voteIt_13 : decode cX10_voteIt 13 = .ok (.invokevirtual 101, 3) := by decide +kernel
theorem dX10_voteIt_16 : decode cX10_voteIt 16 = .ok (.ireturn, 1) := by decide +kernel
theorem dX10_voteIt_17 : decode cX10_voteIt 17 = .ok (.aload_n 0, 1) := by decide +kernel
theorem dX10_voteIt_18 : decode cX10_voteIt 18 = .ok (.getfield 9, 3) := by decide +kernel
theorem dX10_voteIt_21 : decode cX10_voteIt 21 = .ok (.iconst 0, 1) := by decide +kernel
theorem dX10_voteIt_22 : decode cX10_voteIt 22 = .ok (.iaload, 1) := by decide +kernel
theorem dX10_voteIt_23 : decode cX10_voteIt 23 = .ok (.ifCond .eq 11, 3) := by decide +kernel
theorem dX10_voteIt_26 : decode cX10_voteIt 26 = .ok (.aload_n 0, 1) := by decide +kernel
theorem dX10_voteIt_27 : decode cX10_voteIt 27 = .ok (.iload_n 2, 1) := by decide +kernel
theorem dX10_voteIt_28 : decode cX10_voteIt 28 = .ok (.invokevirtual 82, 3) := by decide +kernel
theorem dX10_voteIt_31 : decode cX10_voteIt 31 = .ok (.ifCond .ne 9, 3) := by decide +kernel
theorem dX10_voteIt_34 : decode cX10_voteIt 34 = .ok (.aload_n 0, 1) := by decide +kernel
theorem dX10_voteIt_35 : decode cX10_voteIt 35 = .ok (.iconst 2, 1) := by decide +kernel
theorem dX10_voteIt_36 : decode cX10_voteIt 36 = .ok (.invokevirtual 101, 3) := by decide +kernel
theorem dX10_voteIt_39 : decode cX10_voteIt 39 = .ok (.ireturn, 1) := by decide +kernel
theorem dX10_voteIt_40 : decode cX10_voteIt 40 = .ok (.iconst 0, 1) := by decide +kernel
theorem dX10_voteIt_41 : decode cX10_voteIt 41 = .ok (.istore_n 3, 1) := by decide +kernel
theorem dX10_voteIt_42 : decode cX10_voteIt 42 = .ok (.iconst 0, 1) := by decide +kernel
theorem dX10_voteIt_43 : decode cX10_voteIt 43 = .ok (.istore 4, 2) := by decide +kernel
theorem dX10_voteIt_45 : decode cX10_voteIt 45 = .ok (.iload 4, 2) := by decide +kernel
theorem dX10_voteIt_47 : decode cX10_voteIt 47 = .ok (.aload_n 0, 1) := by decide +kernel
theorem dX10_voteIt_48 : decode cX10_voteIt 48 = .ok (.getfield 9, 3) := by decide +kernel
theorem dX10_voteIt_51 : decode cX10_voteIt 51 = .ok (.iconst 0, 1) := by decide +kernel
theorem dX10_voteIt_52 : decode cX10_voteIt 52 = .ok (.iaload, 1) := by decide +kernel
theorem dX10_voteIt_53 : decode cX10_voteIt 53 = .ok (.if_icmp .ge 37, 3) := by decide +kernel
theorem dX10_voteIt_56 : decode cX10_voteIt 56 = .ok (.aload_n 0, 1) := by decide +kernel
theorem dX10_voteIt_57 : decode cX10_voteIt 57 = .ok (.iload 4, 2) := by decide +kernel
theorem dX10_voteIt_59 : decode cX10_voteIt 59 = .ok (.iload_n 2, 1) := by decide +kernel
theorem dX10_voteIt_60 : decode cX10_voteIt 60 = .ok (.invokevirtual 144, 3) := by decide +kernel
theorem dX10_voteIt_63 : decode cX10_voteIt 63 = .ok (.ifCond .eq 21, 3) := by decide +kernel
theorem dX10_voteIt_66 : decode cX10_voteIt 66 = .ok (.aload_n 0, 1) := by decide +kernel
theorem dX10_voteIt_67 : decode cX10_voteIt 67 = .ok (.getfield 9, 3) := by decide +kernel
theorem dX10_voteIt_70 : decode cX10_voteIt 70 = .ok (.iload 4, 2) := by decide +kernel
theorem dX10_voteIt_72 : decode cX10_voteIt 72 = .ok (.invokestatic 86, 3) := by decide +kernel
theorem dX10_voteIt_75 : decode cX10_voteIt 75 = .ok (.iconst 1, 1) := by decide +kernel
theorem dX10_voteIt_76 : decode cX10_voteIt 76 = .ok (.iadd, 1) := by decide +kernel
theorem dX10_voteIt_77 : decode cX10_voteIt 77 = .ok (.dup2, 1) := by decide +kernel
theorem dX10_voteIt_78 : decode cX10_voteIt 78 = .ok (.iaload, 1) := by decide +kernel
theorem dX10_voteIt_79 : decode cX10_voteIt 79 = .ok (.iconst 1, 1) := by decide +kernel
theorem dX10_voteIt_80 : decode cX10_voteIt 80 = .ok (.isub, 1) := by decide +kernel
theorem dX10_voteIt_81 : decode cX10_voteIt 81 = .ok (.iastore, 1) := by decide +kernel
theorem dX10_voteIt_82 : decode cX10_voteIt 82 = .ok (.iconst 1, 1) := by decide +kernel
theorem dX10_voteIt_83 : decode cX10_voteIt 83 = .ok (.istore_n 3, 1) := by decide +kernel
theorem dX10_voteIt_84 : decode cX10_voteIt 84 = .ok (.iinc 4 1, 3) := by decide +kernel
theorem dX10_voteIt_87 : decode cX10_voteIt 87 = .ok (.goto (-42), 3) := by decide +kernel
theorem dX10_voteIt_90 : decode cX10_voteIt 90 = .ok (.iload_n 3, 1) := by decide +kernel
theorem dX10_voteIt_91 : decode cX10_voteIt 91 = .ok (.ifCond .ne 21, 3) := by decide +kernel
theorem dX10_voteIt_94 : decode cX10_voteIt 94 = .ok (.iconst 2, 1) := by decide +kernel
theorem dX10_voteIt_95 : decode cX10_voteIt 95 = .ok (.aload_n 0, 1) := by decide +kernel
theorem dX10_voteIt_96 : decode cX10_voteIt 96 = .ok (.iload_n 2, 1) := by decide +kernel
theorem dX10_voteIt_97 : decode cX10_voteIt 97 = .ok (.invokevirtual 147, 3) := by decide +kernel
theorem dX10_voteIt_100 : decode cX10_voteIt 100 = .ok (.imul, 1) := by decide +kernel
theorem dX10_voteIt_101 : decode cX10_voteIt 101 = .ok (.aload_n 0, 1) := by decide +kernel
theorem dX10_voteIt_102 : decode cX10_voteIt 102 = .ok (.invokevirtual 150, 3) := by decide +kernel
theorem dX10_voteIt_105 : decode cX10_voteIt 105 = .ok (.if_icmp .le 7, 3) := by decide +kernel
theorem dX10_voteIt_108 : decode cX10_voteIt 108 = .ok (.iconst 1, 1) := by decide +kernel
theorem dX10_voteIt_109 : decode cX10_voteIt 109 = .ok (.goto 4, 3) := by decide +kernel
theorem dX10_voteIt_112 : decode cX10_voteIt 112 = .ok (.iconst 0, 1) := by decide +kernel
theorem dX10_voteIt_113 : decode cX10_voteIt 113 = .ok (.istore 4, 2) := by decide +kernel
theorem dX10_voteIt_115 : decode cX10_voteIt 115 = .ok (.aload_n 0, 1) := by decide +kernel
theorem dX10_voteIt_116 : decode cX10_voteIt 116 = .ok (.getfield 9, 3) := by decide +kernel
theorem dX10_voteIt_119 : decode cX10_voteIt 119 = .ok (.bipush 9, 2) := by decide +kernel
theorem dX10_voteIt_121 : decode cX10_voteIt 121 = .ok (.dup2, 1) := by decide +kernel
theorem dX10_voteIt_122 : decode cX10_voteIt 122 = .ok (.iaload, 1) := by decide +kernel
theorem dX10_voteIt_123 : decode cX10_voteIt 123 = .ok (.iconst 1, 1) := by decide +kernel
theorem dX10_voteIt_124 : decode cX10_voteIt 124 = .ok (.iadd, 1) := by decide +kernel
theorem dX10_voteIt_125 : decode cX10_voteIt 125 = .ok (.iastore, 1) := by decide +kernel
theorem dX10_voteIt_126 : decode cX10_voteIt 126 = .ok (.iload 4, 2) := by decide +kernel
theorem dX10_voteIt_128 : decode cX10_voteIt 128 = .ok (.ifCond .eq 8, 3) := by decide +kernel
theorem dX10_voteIt_131 : decode cX10_voteIt 131 = .ok (.aload_n 0, 1) := by decide +kernel
theorem dX10_voteIt_132 : decode cX10_voteIt 132 = .ok (.iload_n 2, 1) := by decide +kernel
theorem dX10_voteIt_133 : decode cX10_voteIt 133 = .ok (.invokevirtual 154, 3) := by decide +kernel
theorem dX10_voteIt_136 : decode cX10_voteIt 136 = .ok (.aload_n 0, 1) := by decide +kernel
theorem dX10_voteIt_137 : decode cX10_voteIt 137 = .ok (.iload_n 2, 1) := by decide +kernel
theorem dX10_voteIt_138 : decode cX10_voteIt 138 = .ok (.invokevirtual 128, 3) := by decide +kernel
theorem dX10_voteIt_141 : decode cX10_voteIt 141 = .ok (.iload_n 3, 1) := by decide +kernel
theorem dX10_voteIt_142 : decode cX10_voteIt 142 = .ok (.ifCond .eq 8, 3) := by decide +kernel
theorem dX10_voteIt_145 : decode cX10_voteIt 145 = .ok (.bipush 118, 2) := by decide +kernel
theorem dX10_voteIt_147 : decode cX10_voteIt 147 = .ok (.goto 15, 3) := by decide +kernel
theorem dX10_voteIt_150 : decode cX10_voteIt 150 = .ok (.iload 4, 2) := by decide +kernel
theorem dX10_voteIt_152 : decode cX10_voteIt 152 = .ok (.ifCond .eq 8, 3) := by decide +kernel
theorem dX10_voteIt_155 : decode cX10_voteIt 155 = .ok (.bipush 99, 2) := by decide +kernel
theorem dX10_voteIt_157 : decode cX10_voteIt 157 = .ok (.goto 5, 3) := by decide +kernel
theorem dX10_voteIt_160 : decode cX10_voteIt 160 = .ok (.bipush 114, 2) := by decide +kernel
theorem dX10_voteIt_162 : decode cX10_voteIt 162 = .ok (.ireturn, 1) := by decide +kernel
set_option maxHeartbeats 4000000 in
set_option maxRecDepth 20000 in
theorem m_voteIt (l : Launch) (D : va_G) (aT : Nat → ClassId) (ad : Nat → Nat) (S : MSt) (x : Int32) (s0 : Nat) (hF : FoW (S 0)) (hH : HeW (S 0)) (hs : S 0 3 = nI s0) (hs4 : s0 < 4) : MdI l yX10_voteIt cX10_voteIt 5 .int 4 88 D aT ad [.ref (ad 0), .int x] S (fun r S1 => (fnd (fun k => S 0 (29 + 4 * k)) x (nM (S 0)) = none ∧ r = -1 ∧ S1 = ss S 8 (nI 1)) ∨ (∃ q, fnd (fun k => S 0 (29 + 4 * k)) x (nM (S 0)) = some q ∧ (hM (S 0) = 0 ∨ tipB (prM (S 0)) q (nM (S 0)) = false) ∧ r = -1 ∧ S1 = ss S 8 (nI 2)) ∨ (∃ q, fnd (fun k => S 0 (29 + 4 * k)) x (nM (S 0)) = some q ∧ 0 < hM (S 0) ∧ tipB (prM (S 0)) q (nM (S 0)) = true ∧ r = nI (votC (S 0) q) ∧ S1 = sr S 0 (votF (S 0) q))) := by
  refine MdI.of (by decide +kernel) rfl (Nat.le_of_ble_eq_true rfl) ?_
  intro p e s m below meth c A ls C hml hl hA hr hlocks hW
  have hl : lv_has ls 5 [(0, .ref (ad 0)), (1, .int x)] := hl
  have hx := C.1
  have hb := C.2.1
  refine lv_aload_n hx hb dX10_voteIt_0 rfl (lv_at hl 0 rfl) ?_
  refine lv_iload_n hx hb dX10_voteIt_1 rfl (lv_at hl 1 rfl) ?_
  refine md_callg C hml hl.1 (As := [.int x]) (rest := []) (m_find l D aT ad S (x) (nM (S 0)) hF.1 hF.2.1) gT_find hd_find rfl ⟨Nat.le_of_ble_eq_true rfl, Nat.le_of_ble_eq_true rfl⟩ ⟨Nat.le_refl _, Nat.le_refl _⟩ hW hA rfl (Nat.le_of_ble_eq_true rfl) dX10_voteIt_2 (fun r_2 H locs hq hW => ?_)
  subst hq
  refine lv_istore_n (lv' := [(2, .int (oi (fnd (fun k => S 0 (29 + 4 * k)) (x) (nM (S 0))))), (0, .ref (ad 0)), (1, .int x)]) hx hb dX10_voteIt_5 rfl hl (by decide) rfl (fun ls hl => ?_)
  refine lv_iload_n hx hb dX10_voteIt_6 rfl (lv_at hl 0 rfl) ?_
  refine lv_iconst (v := (-1)) hx hb dX10_voteIt_7 (by decide) ?_
  refine r_oi_ne hx hb (o := (fnd (fun k => S 0 (29 + 4 * k)) (x) (nM (S 0)))) (fun j hj => by have := (fnd_some hj).1; have := hF.n12; omega) (tgt := 17) dX10_voteIt_8 (by decide) (fun j_8 c_8 => ?_) (fun c_8 => ?_)
  · have hl : lv_has ls 5 [(2, .int (nI j_8)), (0, .ref (ad 0)), (1, .int x)] := by rw [c_8] at hl; exact hl
    have hq := (fnd_some c_8).1
    have h12 := hF.n12
    refine lv_aload_n hx hb dX10_voteIt_17 rfl (lv_at hl 1 rfl) ?_
    refine md_geta_m C hW dX10_voteIt_18 ?_
    refine lv_iconst (v := nI 0) hx hb dX10_voteIt_21 (by decide) ?_
    refine md_ald_m C hW (i := 0) (by omega) dX10_voteIt_22 ?_
    refine r_eq (y := (nI (hM (S 0)))) (hH.1) ?_
    refine r_ifeqN hx hb (a := (hM (S 0))) (by have := hH.2.1; omega) (tgt := 34) dX10_voteIt_23 (by decide) (fun c_23 => ?_) (fun c_23 => ?_)
    · refine lv_aload_n hx hb dX10_voteIt_34 rfl (lv_at hl 1 rfl) ?_
      refine lv_iconst (v := nI 2) hx hb dX10_voteIt_35 (by decide) ?_
      refine md_calli C hml hl.1 (As := [.int (nI 2)]) (rest := []) (m_throwing l D aT ad S 2) gT_throwing hd_throwing rfl ⟨Nat.le_of_ble_eq_true rfl, Nat.le_of_ble_eq_true rfl⟩ ⟨Nat.le_refl _, Nat.le_refl _⟩ hW hA rfl (Nat.le_of_ble_eq_true rfl) dX10_voteIt_36 (fun r_36 S_36 H locs hq hW => ?_)
      obtain ⟨rfl, rfl⟩ := hq
      exact md_iret C hr hlocks rfl hW (Or.inr (Or.inl ⟨j_8, c_8, Or.inl c_23, rfl, rfl⟩)) dX10_voteIt_39
    · refine lv_aload_n hx hb dX10_voteIt_26 rfl (lv_at hl 1 rfl) ?_
      refine lv_iload_n hx hb dX10_voteIt_27 rfl (lv_at hl 0 rfl) ?_
      refine md_callg C hml hl.1 (As := [.int (nI j_8)]) (rest := []) (m_isTipAt l D aT ad S (nM (S 0)) (idM (S 0)) (prM (S 0)) (tnM (S 0)) hF j_8 (hq)) gT_isTipAt hd_isTipAt rfl ⟨Nat.le_of_ble_eq_true rfl, Nat.le_of_ble_eq_true rfl⟩ ⟨Nat.le_refl _, Nat.le_refl _⟩ hW hA rfl (Nat.le_of_ble_eq_true rfl) dX10_voteIt_28 (fun r_28 H locs hq hW => ?_)
      subst hq
      refine r_bI_ne hx hb (b := (tipB (prM (S 0)) j_8 (nM (S 0)))) (tgt := 40) dX10_voteIt_31 (by decide) (fun c_31 => ?_) (fun c_31 => ?_)
      · refine lv_iconst (v := nI 0) hx hb dX10_voteIt_40 (by decide) ?_
        refine lv_istore_n (lv' := [(3, .int (nI 0)), (2, .int (nI j_8)), (0, .ref (ad 0)), (1, .int x)]) hx hb dX10_voteIt_41 rfl hl (by decide) rfl (fun ls hl => ?_)
        refine lv_iconst (v := nI 0) hx hb dX10_voteIt_42 (by decide) ?_
        refine lv_istore (lv' := [(4, .int (nI 0)), (3, .int (nI 0)), (2, .int (nI j_8)), (0, .ref (ad 0)), (1, .int x)]) hx hb dX10_voteIt_43 hl (by decide) rfl (fun ls hl => ?_)
        refine W_loopH (σ := (Nat → Int32) × Bool × Nat) (fun z_ => hM (S 0) - z_.2.2) (fun z_ H locs g => ∃ ls, g = F0 m 45 ls [] ∧ lv_has ls 5 [(0, .ref (ad 0)), (2, .int (nI j_8)), (3, .int (bI z_.2.1)), (4, .int (nI z_.2.2))] ∧ MdB D aT ad (sr S 0 z_.1) A s.heap H locs ∧ ((z_.1, z_.2.1) = vtF (tnM (S 0) j_8) (S 0) z_.2.2 ∧ z_.2.2 ≤ hM (S 0))) ?_ ((S 0), false, 0) _ ⟨_, rfl, lv_sub hl [3, 2, 1, 0] rfl, (by rw [sr_self]; exact hW), ⟨rfl, Nat.zero_le _⟩⟩
        clear hW hl
        rintro ⟨mm, b, i⟩ H locs g ⟨ls, rfl, hl, hW, hv, hih⟩ ih
        dsimp only at hl hW hv hih ⊢
        obtain ⟨hw, hhm, hfix, hlv, hta⟩ : vtOk (S 0) mm := by have h9 := vtF_ok (t := (tnM (S 0) j_8)) hH i hih; rw [← hv] at h9; exact h9
        have hFm : FoR mm (nM (S 0)) (idM (S 0)) (prM (S 0)) (tnM (S 0)) := FoR.he hF (fun j hj => hfix j (by omega))
        have h6 : hM (S 0) ≤ 6 := hH.2.1
        refine lv_iload hx hb dX10_voteIt_45 (lv_at hl 3 rfl) ?_
        refine lv_aload_n hx hb dX10_voteIt_47 rfl (lv_at hl 0 rfl) ?_
        refine md_geta_m C hW dX10_voteIt_48 ?_
        refine lv_iconst (v := nI 0) hx hb dX10_voteIt_51 (by decide) ?_
        refine md_ald_m C hW (i := 0) (by omega) dX10_voteIt_52 ?_
        refine r_eq (y := (nI (hM (S 0)))) (by show mm 0 = _; rw [← hhm]; exact hw.1) ?_
        refine r_geN hx hb (a := i) (b := (hM (S 0))) (by omega) (by omega) (tgt := 90) dX10_voteIt_53 (by decide) (fun c_53 => ?_) (fun c_53 => ?_)
        · have e23 : (upd mm 9 (mm 9 + nI 1)) 3 = nI s0 := by rw [pk_un (by decide), hfix 3 (by omega)]; exact hs
          have e22 : (upd mm 9 (mm 9 + nI 1)) 2 = nI (nM (S 0)) := by rw [pk_un (by decide), hfix 2 (by omega)]; exact hF.1
          have hF2 : FoR (upd mm 9 (mm 9 + nI 1)) (nM (S 0)) (idM (S 0)) (prM (S 0)) (tnM (S 0)) := hFm.he (fun j hj => pk_un (by omega))
          have ec2 : carF (upd mm 9 (mm 9 + nI 1)) j_8 2 = nI (nM (S 0)) := by rw [carF_o (by decide) (Or.inl (by decide)) (by decide) (Or.inl (by decide)) (by rw [snM_eq e23 hs4]; exact hs4)]; exact e22
          have hq2 : j_8 < nM (upd mm 9 (mm 9 + nI 1)) := by rw [hF2.n_eq]; exact hq
          refine lv_iload_n hx hb dX10_voteIt_90 rfl (lv_at hl 2 rfl) ?_
          refine r_bI_ne hx hb (b := b) (tgt := 112) dX10_voteIt_91 (by decide) (fun c_91 => ?_) (fun c_91 => ?_)
          · refine lv_iconst (v := nI 0) hx hb dX10_voteIt_112 (by decide) ?_
            refine lv_istore (lv' := [(4, .int (nI 0)), (0, .ref (ad 0)), (2, .int (nI j_8)), (3, .int (bI b))]) hx hb dX10_voteIt_113 hl (by decide) rfl (fun ls hl => ?_)
            refine lv_aload_n hx hb dX10_voteIt_115 rfl (lv_at hl 1 rfl) ?_
            refine md_geta_m C hW dX10_voteIt_116 ?_
            refine lv_bipush (v := nI 9) hx hb dX10_voteIt_119 (by decide) ?_
            refine lv_dup2_11 hx hb dX10_voteIt_121 rfl rfl ?_
            refine md_ald_m C hW (i := 9) (by omega) dX10_voteIt_122 ?_
            refine r_eq (y := (mm 9)) (rfl) ?_
            refine lv_iconst (v := nI 1) hx hb dX10_voteIt_123 (by decide) ?_
            refine lv_iadd hx hb dX10_voteIt_124 ?_
            refine md_ast_m C hW (i := 9) (by omega) dX10_voteIt_125 (fun H locs hW => ?_)
            have hW : MdB D aT ad (sr S 0 (upd mm 9 (mm 9 + nI 1))) A s.heap H locs := by rw [sr_sr] at hW; exact hW
            refine lv_iload hx hb dX10_voteIt_126 (lv_at hl 0 rfl) ?_
            refine r_ifeqN hx hb (a := 0) (by omega) (tgt := 136) dX10_voteIt_128 (by decide) (fun c_128 => ?_) (fun c_128 => ?_)
            · refine lv_aload_n hx hb dX10_voteIt_136 rfl (lv_at hl 1 rfl) ?_
              refine lv_iload_n hx hb dX10_voteIt_137 rfl (lv_at hl 2 rfl) ?_
              refine md_callv C hml hl.1 (As := [.int (nI j_8)]) (rest := []) (m_drops l D aT ad (sr S 0 (upd mm 9 (mm 9 + nI 1))) (nM (S 0)) j_8 e22 hF.n12 hq) gT_drops hd_drops rfl ⟨Nat.le_of_ble_eq_true rfl, Nat.le_of_ble_eq_true rfl⟩ ⟨Nat.le_refl _, Nat.le_refl _⟩ hW hA rfl (Nat.le_of_ble_eq_true rfl) dX10_voteIt_138 (fun S_138 H locs hq hW => ?_)
              subst hq
              refine lv_iload_n hx hb dX10_voteIt_141 rfl (lv_at hl 3 rfl) ?_
              refine r_bI_eq hx hb (b := b) (tgt := 150) dX10_voteIt_142 (by decide) (fun c_142 => ?_) (fun c_142 => ?_)
              · exact absurd c_142 (by rw [c_91]; decide)
              · refine lv_bipush (v := nI 118) hx hb dX10_voteIt_145 (by decide) ?_
                refine lv_goto (tgt := 162) hx hb dX10_voteIt_147 (by decide) ?_
                exact md_iret C hr hlocks rfl hW (Or.inr (Or.inr ⟨j_8, c_8, Nat.pos_of_ne_zero c_23, c_31, by rw [(votF_v (by rw [← c_91, hv, show i = hM (S 0) by omega])).1], by rw [(votF_v (by rw [← c_91, hv, show i = hM (S 0) by omega])).2, sr_sr]; rfl⟩)) dX10_voteIt_162
            · exact absurd c_128 (by decide)
          · refine lv_iconst (v := nI 2) hx hb dX10_voteIt_94 (by decide) ?_
            refine lv_aload_n hx hb dX10_voteIt_95 rfl (lv_at hl 0 rfl) ?_
            refine lv_iload_n hx hb dX10_voteIt_96 rfl (lv_at hl 1 rfl) ?_
            refine md_callg C hml hl.1 (As := [.int (nI j_8)]) (rest := [.int (nI 2)]) (m_favour l D aT ad (sr S 0 mm) (hM mm) (lvM mm) (thM mm) (taM mm) hw (nM (S 0)) (idM (S 0)) (prM (S 0)) (tnM (S 0)) hFm j_8 (hq)) gT_favour hd_favour rfl ⟨Nat.le_of_ble_eq_true rfl, Nat.le_of_ble_eq_true rfl⟩ ⟨Nat.le_refl _, Nat.le_refl _⟩ hW hA rfl (Nat.le_of_ble_eq_true rfl) dX10_voteIt_97 (fun r_97 H locs hq hW => ?_)
            subst hq
            refine r_imulN hx hb (a := 2) (b := (fav (lvM mm) (taM mm) ((tnM (S 0)) j_8) (hM mm))) dX10_voteIt_100 ?_
            refine lv_aload_n hx hb dX10_voteIt_101 rfl (lv_at hl 0 rfl) ?_
            refine md_callg C hml hl.1 (As := []) (rest := [.int (nI (2 * (fav (lvM mm) (taM mm) ((tnM (S 0)) j_8) (hM mm))))]) (m_leavesAll l D aT ad (sr S 0 mm) (hM mm) (lvM mm) (thM mm) (taM mm) hw) gT_leavesAll hd_leavesAll rfl ⟨Nat.le_of_ble_eq_true rfl, Nat.le_of_ble_eq_true rfl⟩ ⟨Nat.le_refl _, Nat.le_refl _⟩ hW hA rfl (Nat.le_of_ble_eq_true rfl) dX10_voteIt_102 (fun r_102 H locs hq hW => ?_)
            subst hq
            refine r_leN hx hb (a := 2 * (fav (lvM mm) (taM mm) ((tnM (S 0)) j_8) (hM mm))) (b := (sml (lvM mm) (hM mm))) (by have h99 := fun k hk => ((hw.2.2.1 k hk).2).2; have := sml_le (lv := lvM mm) (i := hM mm) h99; have := fav_le (lv := lvM mm) (ta := taM mm) (t := (tnM (S 0) j_8)) (i := hM mm) h99; rw [hhm] at *; omega) (by have h99 := fun k hk => ((hw.2.2.1 k hk).2).2; have := sml_le (lv := lvM mm) (i := hM mm) h99; have := fav_le (lv := lvM mm) (ta := taM mm) (t := (tnM (S 0) j_8)) (i := hM mm) h99; rw [hhm] at *; omega) (tgt := 112) dX10_voteIt_105 (by decide) (fun c_105 => ?_) (fun c_105 => ?_)
            · refine lv_iconst (v := nI 0) hx hb dX10_voteIt_112 (by decide) ?_
              refine lv_istore (lv' := [(4, .int (nI 0)), (0, .ref (ad 0)), (2, .int (nI j_8)), (3, .int (bI b))]) hx hb dX10_voteIt_113 hl (by decide) rfl (fun ls hl => ?_)
              refine lv_aload_n hx hb dX10_voteIt_115 rfl (lv_at hl 1 rfl) ?_
              refine md_geta_m C hW dX10_voteIt_116 ?_
              refine lv_bipush (v := nI 9) hx hb dX10_voteIt_119 (by decide) ?_
              refine lv_dup2_11 hx hb dX10_voteIt_121 rfl rfl ?_
              refine md_ald_m C hW (i := 9) (by omega) dX10_voteIt_122 ?_
              refine r_eq (y := (mm 9)) (rfl) ?_
              refine lv_iconst (v := nI 1) hx hb dX10_voteIt_123 (by decide) ?_
              refine lv_iadd hx hb dX10_voteIt_124 ?_
              refine md_ast_m C hW (i := 9) (by omega) dX10_voteIt_125 (fun H locs hW => ?_)
              have hW : MdB D aT ad (sr S 0 (upd mm 9 (mm 9 + nI 1))) A s.heap H locs := by rw [sr_sr] at hW; exact hW
              refine lv_iload hx hb dX10_voteIt_126 (lv_at hl 0 rfl) ?_
              refine r_ifeqN hx hb (a := 0) (by omega) (tgt := 136) dX10_voteIt_128 (by decide) (fun c_128 => ?_) (fun c_128 => ?_)
              · refine lv_aload_n hx hb dX10_voteIt_136 rfl (lv_at hl 1 rfl) ?_
                refine lv_iload_n hx hb dX10_voteIt_137 rfl (lv_at hl 2 rfl) ?_
                refine md_callv C hml hl.1 (As := [.int (nI j_8)]) (rest := []) (m_drops l D aT ad (sr S 0 (upd mm 9 (mm 9 + nI 1))) (nM (S 0)) j_8 e22 hF.n12 hq) gT_drops hd_drops rfl ⟨Nat.le_of_ble_eq_true rfl, Nat.le_of_ble_eq_true rfl⟩ ⟨Nat.le_refl _, Nat.le_refl _⟩ hW hA rfl (Nat.le_of_ble_eq_true rfl) dX10_voteIt_138 (fun S_138 H locs hq hW => ?_)
                subst hq
                refine lv_iload_n hx hb dX10_voteIt_141 rfl (lv_at hl 3 rfl) ?_
                refine r_bI_eq hx hb (b := b) (tgt := 150) dX10_voteIt_142 (by decide) (fun c_142 => ?_) (fun c_142 => ?_)
                · refine lv_iload hx hb dX10_voteIt_150 (lv_at hl 0 rfl) ?_
                  refine r_ifeqN hx hb (a := 0) (by omega) (tgt := 160) dX10_voteIt_152 (by decide) (fun c_152 => ?_) (fun c_152 => ?_)
                  · refine lv_bipush (v := nI 114) hx hb dX10_voteIt_160 (by decide) ?_
                    exact md_iret C hr hlocks rfl hW (Or.inr (Or.inr ⟨j_8, c_8, Nat.pos_of_ne_zero c_23, c_31, by rw [(votF_r (by rw [← c_91, hv, show i = hM (S 0) by omega]) (decide_eq_false (by omega))).1], by rw [(votF_r (by rw [← c_91, hv, show i = hM (S 0) by omega]) (decide_eq_false (by omega))).2, sr_sr]; rfl⟩)) dX10_voteIt_162
                  · exact absurd c_152 (by decide)
                · exact absurd c_142 (by rw [c_91]; decide)
              · exact absurd c_128 (by decide)
            · refine lv_iconst (v := nI 1) hx hb dX10_voteIt_108 (by decide) ?_
              refine lv_goto (tgt := 113) hx hb dX10_voteIt_109 (by decide) ?_
              refine lv_istore (lv' := [(4, .int (nI 1)), (0, .ref (ad 0)), (2, .int (nI j_8)), (3, .int (bI b))]) hx hb dX10_voteIt_113 hl (by decide) rfl (fun ls hl => ?_)
              refine lv_aload_n hx hb dX10_voteIt_115 rfl (lv_at hl 1 rfl) ?_
              refine md_geta_m C hW dX10_voteIt_116 ?_
              refine lv_bipush (v := nI 9) hx hb dX10_voteIt_119 (by decide) ?_
              refine lv_dup2_11 hx hb dX10_voteIt_121 rfl rfl ?_
              refine md_ald_m C hW (i := 9) (by omega) dX10_voteIt_122 ?_
              refine r_eq (y := (mm 9)) (rfl) ?_
              refine lv_iconst (v := nI 1) hx hb dX10_voteIt_123 (by decide) ?_
              refine lv_iadd hx hb dX10_voteIt_124 ?_
              refine md_ast_m C hW (i := 9) (by omega) dX10_voteIt_125 (fun H locs hW => ?_)
              have hW : MdB D aT ad (sr S 0 (upd mm 9 (mm 9 + nI 1))) A s.heap H locs := by rw [sr_sr] at hW; exact hW
              refine lv_iload hx hb dX10_voteIt_126 (lv_at hl 0 rfl) ?_
              refine r_ifeqN hx hb (a := 1) (by omega) (tgt := 136) dX10_voteIt_128 (by decide) (fun c_128 => ?_) (fun c_128 => ?_)
              · exact absurd c_128 (by decide)
              · refine lv_aload_n hx hb dX10_voteIt_131 rfl (lv_at hl 1 rfl) ?_
                refine lv_iload_n hx hb dX10_voteIt_132 rfl (lv_at hl 2 rfl) ?_
                refine md_callv C hml hl.1 (As := [.int (nI j_8)]) (rest := []) (m_carries l D aT ad (sr S 0 (upd mm 9 (mm 9 + nI 1))) j_8 s0 hF2.w hq2 e23 hs4) gT_carries hd_carries rfl ⟨Nat.le_of_ble_eq_true rfl, Nat.le_of_ble_eq_true rfl⟩ ⟨Nat.le_refl _, Nat.le_refl _⟩ hW hA rfl (Nat.le_of_ble_eq_true rfl) dX10_voteIt_133 (fun S_133 H locs hq hW => ?_)
                subst hq
                have hW : MdB D aT ad (sr S 0 (carF (upd mm 9 (mm 9 + nI 1)) j_8)) A s.heap H locs := by rw [sr_sr] at hW; exact hW
                refine lv_aload_n hx hb dX10_voteIt_136 rfl (lv_at hl 1 rfl) ?_
                refine lv_iload_n hx hb dX10_voteIt_137 rfl (lv_at hl 2 rfl) ?_
                refine md_callv C hml hl.1 (As := [.int (nI j_8)]) (rest := []) (m_drops l D aT ad (sr S 0 (carF (upd mm 9 (mm 9 + nI 1)) j_8)) (nM (S 0)) j_8 ec2 hF.n12 hq) gT_drops hd_drops rfl ⟨Nat.le_of_ble_eq_true rfl, Nat.le_of_ble_eq_true rfl⟩ ⟨Nat.le_refl _, Nat.le_refl _⟩ hW hA rfl (Nat.le_of_ble_eq_true rfl) dX10_voteIt_138 (fun S_138 H locs hq hW => ?_)
                subst hq
                refine lv_iload_n hx hb dX10_voteIt_141 rfl (lv_at hl 3 rfl) ?_
                refine r_bI_eq hx hb (b := b) (tgt := 150) dX10_voteIt_142 (by decide) (fun c_142 => ?_) (fun c_142 => ?_)
                · refine lv_iload hx hb dX10_voteIt_150 (lv_at hl 0 rfl) ?_
                  refine r_ifeqN hx hb (a := 1) (by omega) (tgt := 160) dX10_voteIt_152 (by decide) (fun c_152 => ?_) (fun c_152 => ?_)
                  · exact absurd c_152 (by decide)
                  · refine lv_bipush (v := nI 99) hx hb dX10_voteIt_155 (by decide) ?_
                    refine lv_goto (tgt := 162) hx hb dX10_voteIt_157 (by decide) ?_
                    exact md_iret C hr hlocks rfl hW (Or.inr (Or.inr ⟨j_8, c_8, Nat.pos_of_ne_zero c_23, c_31, by rw [(votF_c (by rw [← c_91, hv, show i = hM (S 0) by omega]) (decide_eq_true (by omega))).1], by rw [(votF_c (by rw [← c_91, hv, show i = hM (S 0) by omega]) (decide_eq_true (by omega))).2, sr_sr]; rfl⟩)) dX10_voteIt_162
                · exact absurd c_142 (by rw [c_91]; decide)
        · refine lv_aload_n hx hb dX10_voteIt_56 rfl (lv_at hl 0 rfl) ?_
          refine lv_iload hx hb dX10_voteIt_57 (lv_at hl 3 rfl) ?_
          refine lv_iload_n hx hb dX10_voteIt_59 rfl (lv_at hl 1 rfl) ?_
          refine md_callg C hml hl.1 (As := [.int (nI i), .int (nI j_8)]) (rest := []) (m_vetoes l D aT ad (sr S 0 mm) (hM mm) (lvM mm) (thM mm) (taM mm) hw (nM (S 0)) (idM (S 0)) (prM (S 0)) (tnM (S 0)) hFm i j_8 (by rw [hhm]; omega) (hq)) gT_vetoes hd_vetoes rfl ⟨Nat.le_of_ble_eq_true rfl, Nat.le_of_ble_eq_true rfl⟩ ⟨Nat.le_refl _, Nat.le_refl _⟩ hW hA rfl (Nat.le_of_ble_eq_true rfl) dX10_voteIt_60 (fun r_60 H locs hq hW => ?_)
          subst hq
          refine r_bI_eq hx hb (b := (vetB (dif ((taM mm) i) ((tnM (S 0)) j_8)) ((thM mm) i))) (tgt := 84) dX10_voteIt_63 (by decide) (fun c_63 => ?_) (fun c_63 => ?_)
          · refine lv_iinc (v := (nI (i + 1))) (lv' := [(4, .int (nI (i + 1))), (0, .ref (ad 0)), (2, .int (nI j_8)), (3, .int (bI b))]) hx hb dX10_voteIt_84 hl (k := 3) rfl (nI_1 _) (by decide) rfl (fun ls hl => ?_)
            refine lv_goto (tgt := 45) hx hb dX10_voteIt_87 (by decide) ?_
            exact ih (mm, b, (i + 1)) _ _ _ (by dsimp only; omega) ⟨_, rfl, lv_sub hl [1, 2, 3, 0] rfl, hW, ⟨vtF_no hv c_63, by (try dsimp only); omega⟩⟩
          · have hth := of_decide_eq_true c_63
            refine lv_aload_n hx hb dX10_voteIt_66 rfl (lv_at hl 0 rfl) ?_
            refine md_geta_m C hW dX10_voteIt_67 ?_
            refine lv_iload hx hb dX10_voteIt_70 (lv_at hl 3 rfl) ?_
            refine md_calls C hml hl.1 (As := [.int (nI i)]) (rest := [.ref (ad 1)]) (m_hedgeAt l i) gT_hedgeAt hd_hedgeAt rfl ⟨Nat.le_of_ble_eq_true rfl, Nat.le_of_ble_eq_true rfl⟩ ⟨Nat.le_refl _, Nat.le_refl _⟩ rfl (Nat.le_of_ble_eq_true rfl) dX10_voteIt_72 (fun r_72 hq => ?_)
            subst hq
            refine lv_iconst (v := nI 1) hx hb dX10_voteIt_75 (by decide) ?_
            refine r_iaddN hx hb (a := (11 + 3 * i)) (b := 1) dX10_voteIt_76 ?_
            refine lv_dup2_11 hx hb dX10_voteIt_77 rfl rfl ?_
            refine md_ald_m C hW (i := 11 + 3 * i + 1) (by omega) dX10_voteIt_78 ?_
            refine r_eq (y := (nI (thM mm i))) (by show mm _ = _; exact (hw.2.2.2.1 i (by rw [hhm]; omega)).1) ?_
            refine lv_iconst (v := nI 1) hx hb dX10_voteIt_79 (by decide) ?_
            refine r_isubN hx hb (a := (thM mm i)) (b := 1) (by omega) dX10_voteIt_80 ?_
            refine md_ast_m C hW (i := 11 + 3 * i + 1) (by omega) dX10_voteIt_81 (fun H locs hW => ?_)
            refine lv_iconst (v := nI 1) hx hb dX10_voteIt_82 (by decide) ?_
            refine lv_istore_n (lv' := [(3, .int (nI 1)), (0, .ref (ad 0)), (2, .int (nI j_8)), (4, .int (nI i))]) hx hb dX10_voteIt_83 rfl hl (by decide) rfl (fun ls hl => ?_)
            refine lv_iinc (v := (nI (i + 1))) (lv' := [(4, .int (nI (i + 1))), (3, .int (nI 1)), (0, .ref (ad 0)), (2, .int (nI j_8))]) hx hb dX10_voteIt_84 hl (k := 3) rfl (nI_1 _) (by decide) rfl (fun ls hl => ?_)
            refine lv_goto (tgt := 45) hx hb dX10_voteIt_87 (by decide) ?_
            exact ih ((upd mm (11 + 3 * i + 1) (nI (thM mm i - 1))), true, (i + 1)) _ _ _ (by dsimp only; omega) ⟨_, rfl, lv_sub hl [2, 3, 1, 0] rfl, (by rw [sr_sr] at hW; exact hW), ⟨vtF_yes hv c_63, by (try dsimp only); omega⟩⟩
      · refine lv_aload_n hx hb dX10_voteIt_34 rfl (lv_at hl 1 rfl) ?_
        refine lv_iconst (v := nI 2) hx hb dX10_voteIt_35 (by decide) ?_
        refine md_calli C hml hl.1 (As := [.int (nI 2)]) (rest := []) (m_throwing l D aT ad S 2) gT_throwing hd_throwing rfl ⟨Nat.le_of_ble_eq_true rfl, Nat.le_of_ble_eq_true rfl⟩ ⟨Nat.le_refl _, Nat.le_refl _⟩ hW hA rfl (Nat.le_of_ble_eq_true rfl) dX10_voteIt_36 (fun r_36 S_36 H locs hq hW => ?_)
        obtain ⟨rfl, rfl⟩ := hq
        exact md_iret C hr hlocks rfl hW (Or.inr (Or.inl ⟨j_8, c_8, Or.inr c_31, rfl, rfl⟩)) dX10_voteIt_39
  · have hl : lv_has ls 5 [(2, .int (-1)), (0, .ref (ad 0)), (1, .int x)] := by rw [c_8] at hl; exact hl
    refine lv_aload_n hx hb dX10_voteIt_11 rfl (lv_at hl 1 rfl) ?_
    refine lv_iconst (v := nI 1) hx hb dX10_voteIt_12 (by decide) ?_
    refine md_calli C hml hl.1 (As := [.int (nI 1)]) (rest := []) (m_throwing l D aT ad S 1) gT_throwing hd_throwing rfl ⟨Nat.le_of_ble_eq_true rfl, Nat.le_of_ble_eq_true rfl⟩ ⟨Nat.le_refl _, Nat.le_refl _⟩ hW hA rfl (Nat.le_of_ble_eq_true rfl) dX10_voteIt_13 (fun r_13 S_13 H locs hq hW => ?_)
    obtain ⟨rfl, rfl⟩ := hq
    exact md_iret C hr hlocks rfl hW (Or.inl ⟨c_8, rfl, rfl⟩) dX10_voteIt_16
theorem gT_seasonIt : GoodIn gw (wsV RX10 163 RX10 yX10_seasonIt (Cond.code yX10_seasonIt cX10_seasonIt 3 (some .int) :: gw)) := gdV gw_1829 gw_1831 gw_44 gw_81 gw_1832
theorem hd_seasonIt : yX10_seasonIt.cls = RX10 ∧ yX10_seasonIt.cls ≠ "java/lang/invoke/MethodHandle" ∧ yX10_seasonIt.cls ≠ "java/lang/invoke/VarHandle" ∧ (parseMethodDescriptor yX10_seasonIt.desc).map (fun d => d.parameters.length) = some 0 := ⟨rfl, by decide +kernel, by decide +kernel, by decide +kernel⟩
theorem dX10_seasonIt_0 : decode cX10_seasonIt 0 = .ok (.aload_n 0, 1) := by decide +kernel
theorem dX10_seasonIt_1 : decode cX10_seasonIt 1 = .ok (.getfield 9, 3) := by decide +kernel
theorem dX10_seasonIt_4 : decode cX10_seasonIt 4 = .ok (.iconst 3, 1) := by decide +kernel
theorem dX10_seasonIt_5 : decode cX10_seasonIt 5 = .ok (.aload_n 0, 1) := by decide +kernel
theorem dX10_seasonIt_6 : decode cX10_seasonIt 6 = .ok (.getfield 9, 3) := by decide +kernel
theorem dX10_seasonIt_9 : decode cX10_seasonIt 9 = .ok (.iconst 3, 1) := by decide +kernel
theorem dX10_seasonIt_10 : decode cX10_seasonIt 10 = .ok (.iaload, 1) := by decide +kernel
theorem dX10_seasonIt_11 : decode cX10_seasonIt 11 = .ok (.iconst 1, 1) := by decide +kernel
theorem dX10_seasonIt_12 : decode cX10_seasonIt 12 = .ok (.iadd, 1) := by decide +kernel
theorem dX10_seasonIt_13 : decode cX10_seasonIt 13 = .ok (.iconst 4, 1) := by decide +kernel
theorem dX10_seasonIt_14 : decode cX10_seasonIt 14 = .ok (.irem, 1) := by decide +kernel
theorem dX10_seasonIt_15 : decode cX10_seasonIt 15 = .ok (.iastore, 1) := by decide +kernel
theorem dX10_seasonIt_16 : decode cX10_seasonIt 16 = .ok (.aload_n 0, 1) := by decide +kernel
theorem dX10_seasonIt_17 : decode cX10_seasonIt 17 = .ok (.getfield 9, 3) := by decide +kernel
theorem dX10_seasonIt_20 : decode cX10_seasonIt 20 = .ok (.iconst 3, 1) := by decide +kernel
theorem dX10_seasonIt_21 : decode cX10_seasonIt 21 = .ok (.iaload, 1) := by decide +kernel
theorem dX10_seasonIt_22 : decode cX10_seasonIt 22 = .ok (.ifCond .ne 7, 3) := by decide +kernel
theorem dX10_seasonIt_25 : decode cX10_seasonIt 25 = .ok (.iconst 4, 1) := by decide +kernel
theorem dX10_seasonIt_26 : decode cX10_seasonIt 26 = .ok (.goto 34, 3) := by decide +kernel
theorem dX10_seasonIt_29 : decode cX10_seasonIt 29 = .ok (.aload_n 0, 1) := by decide +kernel
theorem dX10_seasonIt_30 : decode cX10_seasonIt 30 = .ok (.getfield 9, 3) := by decide +kernel
theorem dX10_seasonIt_33 : decode cX10_seasonIt 33 = .ok (.iconst 3, 1) := by decide +kernel
theorem dX10_seasonIt_34 : decode cX10_seasonIt 34 = .ok (.iaload, 1) := by decide +kernel
theorem dX10_seasonIt_35 : decode cX10_seasonIt 35 = .ok (.iconst 1, 1) := by decide +kernel
theorem dX10_seasonIt_36 : decode cX10_seasonIt 36 = .ok (.if_icmp .ne 7, 3) := by decide +kernel
theorem dX10_seasonIt_39 : decode cX10_seasonIt 39 = .ok (.iconst 2, 1) := by decide +kernel
theorem dX10_seasonIt_40 : decode cX10_seasonIt 40 = .ok (.goto 20, 3) := by decide +kernel
theorem dX10_seasonIt_43 : decode cX10_seasonIt 43 = .ok (.aload_n 0, 1) := by decide +kernel
theorem dX10_seasonIt_44 : decode cX10_seasonIt 44 = .ok (.getfield 9, 3) := by decide +kernel
theorem dX10_seasonIt_47 : decode cX10_seasonIt 47 = .ok (.iconst 3, 1) := by decide +kernel
theorem dX10_seasonIt_48 : decode cX10_seasonIt 48 = .ok (.iaload, 1) := by decide +kernel
theorem dX10_seasonIt_49 : decode cX10_seasonIt 49 = .ok (.iconst 2, 1) := by decide +kernel
theorem dX10_seasonIt_50 : decode cX10_seasonIt 50 = .ok (.if_icmp .ne 8, 3) := by decide +kernel
theorem dX10_seasonIt_53 : decode cX10_seasonIt 53 = .ok (.bipush (-2), 2) := by decide +kernel
theorem dX10_seasonIt_55 : decode cX10_seasonIt 55 = .ok (.goto 5, 3) := by decide +kernel
theorem dX10_seasonIt_58 : decode cX10_seasonIt 58 = .ok (.bipush (-4), 2) := by decide +kernel
theorem dX10_seasonIt_60 : decode cX10_seasonIt 60 = .ok (.istore_n 1, 1) := by decide +kernel
theorem dX10_seasonIt_61 : decode cX10_seasonIt 61 = .ok (.iconst 0, 1) := by decide +kernel
theorem dX10_seasonIt_62 : decode cX10_seasonIt 62 = .ok (.istore_n 2, 1) := by decide +kernel
theorem dX10_seasonIt_63 : decode cX10_seasonIt 63 = .ok (.iload_n 2, 1) := by decide +kernel
theorem dX10_seasonIt_64 : decode cX10_seasonIt 64 = .ok (.aload_n 0, 1) := by decide +kernel
theorem dX10_seasonIt_65 : decode cX10_seasonIt 65 = .ok (.getfield 9, 3) := by decide +kernel
theorem dX10_seasonIt_68 : decode cX10_seasonIt 68 = .ok (.iconst 0, 1) := by decide +kernel
theorem dX10_seasonIt_69 : decode cX10_seasonIt 69 = .ok (.iaload, 1) := by decide +kernel
theorem dX10_seasonIt_70 : decode cX10_seasonIt 70 = .ok (.if_icmp .ge 82, 3) := by decide +kernel
theorem dX10_seasonIt_73 : decode cX10_seasonIt 73 = .ok (.aload_n 0, 1) := by decide +kernel
theorem dX10_seasonIt_74 : decode cX10_seasonIt 74 = .ok (.getfield 9, 3) := by decide +kernel
theorem dX10_seasonIt_77 : decode cX10_seasonIt 77 = .ok (.iload_n 2, 1) := by decide +kernel
theorem dX10_seasonIt_78 : decode cX10_seasonIt 78 = .ok (.invokestatic 86, 3) := by decide +kernel
theorem dX10_seasonIt_81 : decode cX10_seasonIt 81 = .ok (.iconst 1, 1) := by decide +kernel
theorem dX10_seasonIt_82 : decode cX10_seasonIt 82 = .ok (.bipush 99, 2) := by decide +kernel
theorem dX10_seasonIt_84 : decode cX10_seasonIt 84 = .ok (.aload_n 0, 1) := by decide +kernel
theorem dX10_seasonIt_85 : decode cX10_seasonIt 85 = .ok (.getfield 9, 3) := by decide +kernel
theorem dX10_seasonIt_88 : decode cX10_seasonIt 88 = .ok (.iload_n 2, 1) := by decide +kernel
theorem dX10_seasonIt_89 : decode cX10_seasonIt 89 = .ok (.invokestatic 86, 3) := by decide +kernel
theorem dX10_seasonIt_92 : decode cX10_seasonIt 92 = .ok (.iaload, 1) := by decide +kernel
theorem dX10_seasonIt_93 : decode cX10_seasonIt 93 = .ok (.iload_n 1, 1) := by decide +kernel
theorem dX10_seasonIt_94 : decode cX10_seasonIt 94 = .ok (.iadd, 1) := by decide +kernel
theorem dX10_seasonIt_95 : decode cX10_seasonIt 95 = .ok (.invokestatic 160, 3) := by decide +kernel
theorem dX10_seasonIt_98 : decode cX10_seasonIt 98 = .ok (.invokestatic 138, 3) := by decide +kernel
theorem dX10_seasonIt_101 : decode cX10_seasonIt 101 = .ok (.iastore, 1) := by decide +kernel
theorem dX10_seasonIt_102 : decode cX10_seasonIt 102 = .ok (.aload_n 0, 1) := by decide +kernel
theorem dX10_seasonIt_103 : decode cX10_seasonIt 103 = .ok (.getfield 9, 3) := by decide +kernel
theorem dX10_seasonIt_106 : decode cX10_seasonIt 106 = .ok (.iload_n 2, 1) := by decide +kernel
theorem dX10_seasonIt_107 : decode cX10_seasonIt 107 = .ok (.invokestatic 86, 3) := by decide +kernel
theorem dX10_seasonIt_110 : decode cX10_seasonIt 110 = .ok (.iconst 1, 1) := by decide +kernel
theorem dX10_seasonIt_111 : decode cX10_seasonIt 111 = .ok (.iadd, 1) := by decide +kernel
theorem dX10_seasonIt_112 : decode cX10_seasonIt 112 = .ok (.dup2, 1) := by decide +kernel
theorem dX10_seasonIt_113 : decode cX10_seasonIt 113 = .ok (.iaload, 1) := by decide +kernel
theorem dX10_seasonIt_114 : decode cX10_seasonIt 114 = .ok (.aload_n 0, 1) := by decide +kernel
theorem dX10_seasonIt_115 : decode cX10_seasonIt 115 = .ok (.getfield 9, 3) := by decide +kernel
theorem dX10_seasonIt_118 : decode cX10_seasonIt 118 = .ok (.iconst 3, 1) := by decide +kernel
theorem dX10_seasonIt_119 : decode cX10_seasonIt 119 = .ok (.iaload, 1) := by decide +kernel
theorem dX10_seasonIt_120 : decode cX10_seasonIt 120 = .ok (.ifCond .ne 23, 3) := by decide +kernel
theorem dX10_seasonIt_123 : decode cX10_seasonIt 123 = .ok (.aload_n 0, 1) := by decide +kernel
theorem dX10_seasonIt_124 : decode cX10_seasonIt 124 = .ok (.getfield 9, 3) := by decide +kernel
theorem dX10_seasonIt_127 : decode cX10_seasonIt 127 = .ok (.iload_n 2, 1) := by decide +kernel
theorem dX10_seasonIt_128 : decode cX10_seasonIt 128 = .ok (.invokestatic 86, 3) := by decide +kernel
theorem dX10_seasonIt_131 : decode cX10_seasonIt 131 = .ok (.iconst 1, 1) := by decide +kernel
theorem dX10_seasonIt_132 : decode cX10_seasonIt 132 = .ok (.iadd, 1) := by decide +kernel
theorem dX10_seasonIt_133 : decode cX10_seasonIt 133 = .ok (.iaload, 1) := by decide +kernel
theorem dX10_seasonIt_134 : decode cX10_seasonIt 134 = .ok (.bipush 9, 2) := by decide +kernel
theorem dX10_seasonIt_136 : decode cX10_seasonIt 136 = .ok (.if_icmp .ge 7, 3) := by decide +kernel
theorem dX10_seasonIt_139 : decode cX10_seasonIt 139 = .ok (.iconst 1, 1) := by decide +kernel
theorem dX10_seasonIt_140 : decode cX10_seasonIt 140 = .ok (.goto 4, 3) := by decide +kernel
theorem dX10_seasonIt_143 : decode cX10_seasonIt 143 = .ok (.iconst 0, 1) := by decide +kernel
theorem dX10_seasonIt_144 : decode cX10_seasonIt 144 = .ok (.iadd, 1) := by decide +kernel
theorem dX10_seasonIt_145 : decode cX10_seasonIt 145 = .ok (.iastore, 1) := by decide +kernel
theorem dX10_seasonIt_146 : decode cX10_seasonIt 146 = .ok (.iinc 2 1, 3) := by decide +kernel
theorem dX10_seasonIt_149 : decode cX10_seasonIt 149 = .ok (.goto (-86), 3) := by decide +kernel
theorem dX10_seasonIt_152 : decode cX10_seasonIt 152 = .ok (.aload_n 0, 1) := by decide +kernel
theorem dX10_seasonIt_153 : decode cX10_seasonIt 153 = .ok (.getfield 9, 3) := by decide +kernel
theorem dX10_seasonIt_156 : decode cX10_seasonIt 156 = .ok (.iconst 3, 1) := by decide +kernel
theorem dX10_seasonIt_157 : decode cX10_seasonIt 157 = .ok (.iaload, 1) := by decide +kernel
theorem dX10_seasonIt_158 : decode cX10_seasonIt 158 = .ok (.ireturn, 1) := by decide +kernel
set_option maxHeartbeats 4000000 in
set_option maxRecDepth 20000 in
theorem m_seasonIt (l : Launch) (D : va_G) (aT : Nat → ClassId) (ad : Nat → Nat) (S : MSt) (s0 : Nat) (hH : HeW (S 0)) (hs : S 0 3 = nI s0) (hs4 : s0 < 4) : MdI l yX10_seasonIt cX10_seasonIt 3 .int 1 24 D aT ad [.ref (ad 0)] S (fun r S1 => r = nI ((s0 + 1) % 4) ∧ S1 = sr S 0 (seaF ((s0 + 1) % 4) (upd (S 0) 3 (nI ((s0 + 1) % 4))) (hM (S 0)))) := by
  have hx31 := hH.2.1
  have hH0 : HeR (upd (S 0) 3 (nI ((s0 + 1) % 4))) (hM (S 0)) (lvM (S 0)) (thM (S 0)) (taM (S 0)) := HeR.cong hH (fun j hj => pk_un (by omega))
  have hH1 : HeW (upd (S 0) 3 (nI ((s0 + 1) % 4))) := hH0.w
  have hh1 : hM (upd (S 0) 3 (nI ((s0 + 1) % 4))) = hM (S 0) := hH0.eqs.1
  refine MdI.of (by decide +kernel) rfl (Nat.le_of_ble_eq_true rfl) ?_
  intro p e s m below meth c A ls C hml hl hA hr hlocks hW
  have hl : lv_has ls 3 [(0, .ref (ad 0))] := hl
  have hx := C.1
  have hb := C.2.1
  refine lv_aload_n hx hb dX10_seasonIt_0 rfl (lv_at hl 0 rfl) ?_
  refine md_geta_m C hW dX10_seasonIt_1 ?_
  refine lv_iconst (v := nI 3) hx hb dX10_seasonIt_4 (by decide) ?_
  refine lv_aload_n hx hb dX10_seasonIt_5 rfl (lv_at hl 0 rfl) ?_
  refine md_geta_m C hW dX10_seasonIt_6 ?_
  refine lv_iconst (v := nI 3) hx hb dX10_seasonIt_9 (by decide) ?_
  refine md_ald_m C hW (i := 3) (by omega) dX10_seasonIt_10 ?_
  refine r_eq (y := (nI s0)) (hs) ?_
  refine lv_iconst (v := nI 1) hx hb dX10_seasonIt_11 (by decide) ?_
  refine r_iaddN hx hb (a := s0) (b := 1) dX10_seasonIt_12 ?_
  refine lv_iconst (v := nI 4) hx hb dX10_seasonIt_13 (by decide) ?_
  refine lv_irem hx hb dX10_seasonIt_14 (by decide) ?_
  refine r_eq (y := (nI ((s0 + 1) % 4))) (pk_rem (by omega) (by decide) (by decide)) ?_
  refine md_ast_m C hW (i := 3) (by omega) dX10_seasonIt_15 (fun H locs hW => ?_)
  refine lv_aload_n hx hb dX10_seasonIt_16 rfl (lv_at hl 0 rfl) ?_
  refine md_geta_m C hW dX10_seasonIt_17 ?_
  refine lv_iconst (v := nI 3) hx hb dX10_seasonIt_20 (by decide) ?_
  refine md_ald_m C hW (i := 3) (by omega) dX10_seasonIt_21 ?_
  refine r_eq (y := (nI ((s0 + 1) % 4))) (by simp only [sr, upd, ↓reduceIte]; (repeat rw [if_neg (by omega)]); first | done | rfl) ?_
  refine r_ifneN hx hb (a := ((s0 + 1) % 4)) (by omega) (tgt := 29) dX10_seasonIt_22 (by decide) (fun c_22 => ?_) (fun c_22 => ?_)
  · refine lv_aload_n hx hb dX10_seasonIt_29 rfl (lv_at hl 0 rfl) ?_
    refine md_geta_m C hW dX10_seasonIt_30 ?_
    refine lv_iconst (v := nI 3) hx hb dX10_seasonIt_33 (by decide) ?_
    refine md_ald_m C hW (i := 3) (by omega) dX10_seasonIt_34 ?_
    refine r_eq (y := (nI ((s0 + 1) % 4))) (by simp only [sr, upd, ↓reduceIte]; (repeat rw [if_neg (by omega)]); first | done | rfl) ?_
    refine lv_iconst (v := nI 1) hx hb dX10_seasonIt_35 (by decide) ?_
    refine r_neN hx hb (a := ((s0 + 1) % 4)) (b := 1) (by omega) (by omega) (tgt := 43) dX10_seasonIt_36 (by decide) (fun c_36 => ?_) (fun c_36 => ?_)
    · refine lv_aload_n hx hb dX10_seasonIt_43 rfl (lv_at hl 0 rfl) ?_
      refine md_geta_m C hW dX10_seasonIt_44 ?_
      refine lv_iconst (v := nI 3) hx hb dX10_seasonIt_47 (by decide) ?_
      refine md_ald_m C hW (i := 3) (by omega) dX10_seasonIt_48 ?_
      refine r_eq (y := (nI ((s0 + 1) % 4))) (by simp only [sr, upd, ↓reduceIte]; (repeat rw [if_neg (by omega)]); first | done | rfl) ?_
      refine lv_iconst (v := nI 2) hx hb dX10_seasonIt_49 (by decide) ?_
      refine r_neN hx hb (a := ((s0 + 1) % 4)) (b := 2) (by omega) (by omega) (tgt := 58) dX10_seasonIt_50 (by decide) (fun c_50 => ?_) (fun c_50 => ?_)
      · refine lv_bipush (v := (-4)) hx hb dX10_seasonIt_58 (by decide) ?_
        refine r_eq (y := byF ((s0 + 1) % 4)) (by unfold byF; rw [if_neg c_22, if_neg c_36, if_neg c_50]) ?_
        refine lv_istore_n (lv' := [(1, .int (byF ((s0 + 1) % 4))), (0, .ref (ad 0))]) hx hb dX10_seasonIt_60 rfl hl (by decide) rfl (fun ls hl => ?_)
        refine lv_iconst (v := nI 0) hx hb dX10_seasonIt_61 (by decide) ?_
        refine lv_istore_n (lv' := [(2, .int (nI 0)), (1, .int (byF ((s0 + 1) % 4))), (0, .ref (ad 0))]) hx hb dX10_seasonIt_62 rfl hl (by decide) rfl (fun ls hl => ?_)
        refine W_loopH (σ := (Nat → Int32) × Nat) (fun z_ => hM (S 0) - z_.2) (fun z_ H locs g => ∃ ls, g = F0 m 63 ls [] ∧ lv_has ls 3 [(0, .ref (ad 0)), (1, .int (byF ((s0 + 1) % 4))), (2, .int (nI z_.2))] ∧ MdB D aT ad (sr S 0 z_.1) A s.heap H locs ∧ (z_.1 = seaF ((s0 + 1) % 4) (upd (S 0) 3 (nI ((s0 + 1) % 4))) z_.2 ∧ z_.2 ≤ hM (S 0))) ?_ ((upd (S 0) 3 (nI ((s0 + 1) % 4))), 0) _ ⟨_, rfl, lv_sub hl [2, 1, 0] rfl, (by rw [show nI ((s0 + 1) % 4) = nI ((s0 + 1) % 4) from rfl] at hW; exact hW), ⟨rfl, Nat.zero_le _⟩⟩
        clear hW hl
        rintro ⟨mm, i⟩ H locs g ⟨ls, rfl, hl, hW, hv, hih⟩ ih
        dsimp only at hl hW hv hih ⊢
        obtain ⟨hw, hhm, hfix⟩ : seaOk (upd (S 0) 3 (nI ((s0 + 1) % 4))) mm := by rw [hv]; exact seaF_ok hH1 i (by rw [hh1]; exact hih)
        rw [hh1] at hhm
        have e3 : mm 3 = nI ((s0 + 1) % 4) := by rw [hfix 3 (by omega), pk_us]
        have h6 : hM (S 0) ≤ 6 := hH.2.1
        refine lv_iload_n hx hb dX10_seasonIt_63 rfl (lv_at hl 2 rfl) ?_
        refine lv_aload_n hx hb dX10_seasonIt_64 rfl (lv_at hl 0 rfl) ?_
        refine md_geta_m C hW dX10_seasonIt_65 ?_
        refine lv_iconst (v := nI 0) hx hb dX10_seasonIt_68 (by decide) ?_
        refine md_ald_m C hW (i := 0) (by omega) dX10_seasonIt_69 ?_
        refine r_eq (y := (nI (hM (S 0)))) (by show mm 0 = _; rw [← hhm]; exact hw.1) ?_
        refine r_geN hx hb (a := i) (b := (hM (S 0))) (by omega) (by omega) (tgt := 152) dX10_seasonIt_70 (by decide) (fun c_70 => ?_) (fun c_70 => ?_)
        · refine lv_aload_n hx hb dX10_seasonIt_152 rfl (lv_at hl 0 rfl) ?_
          refine md_geta_m C hW dX10_seasonIt_153 ?_
          refine lv_iconst (v := nI 3) hx hb dX10_seasonIt_156 (by decide) ?_
          refine md_ald_m C hW (i := 3) (by omega) dX10_seasonIt_157 ?_
          refine r_eq (y := (nI ((s0 + 1) % 4))) (by show mm 3 = _; exact e3) ?_
          exact md_iret C hr hlocks rfl hW (⟨rfl, by rw [hv, show i = hM (S 0) by omega]⟩) dX10_seasonIt_158
        · refine lv_aload_n hx hb dX10_seasonIt_73 rfl (lv_at hl 0 rfl) ?_
          refine md_geta_m C hW dX10_seasonIt_74 ?_
          refine lv_iload_n hx hb dX10_seasonIt_77 rfl (lv_at hl 2 rfl) ?_
          refine md_calls C hml hl.1 (As := [.int (nI i)]) (rest := [.ref (ad 1)]) (m_hedgeAt l i) gT_hedgeAt hd_hedgeAt rfl ⟨Nat.le_of_ble_eq_true rfl, Nat.le_of_ble_eq_true rfl⟩ ⟨Nat.le_refl _, Nat.le_refl _⟩ rfl (Nat.le_of_ble_eq_true rfl) dX10_seasonIt_78 (fun r_78 hq => ?_)
          subst hq
          refine lv_iconst (v := nI 1) hx hb dX10_seasonIt_81 (by decide) ?_
          refine lv_bipush (v := nI 99) hx hb dX10_seasonIt_82 (by decide) ?_
          refine lv_aload_n hx hb dX10_seasonIt_84 rfl (lv_at hl 0 rfl) ?_
          refine md_geta_m C hW dX10_seasonIt_85 ?_
          refine lv_iload_n hx hb dX10_seasonIt_88 rfl (lv_at hl 2 rfl) ?_
          refine md_calls C hml hl.1 (As := [.int (nI i)]) (rest := [.ref (ad 1), .int (nI 99), .int (nI 1), .int (nI (11 + 3 * i)), .ref (ad 1)]) (m_hedgeAt l i) gT_hedgeAt hd_hedgeAt rfl ⟨Nat.le_of_ble_eq_true rfl, Nat.le_of_ble_eq_true rfl⟩ ⟨Nat.le_refl _, Nat.le_refl _⟩ rfl (Nat.le_of_ble_eq_true rfl) dX10_seasonIt_89 (fun r_89 hq => ?_)
          subst hq
          refine md_ald_m C hW (i := (11 + 3 * i)) (by omega) dX10_seasonIt_92 ?_
          refine r_eq (y := (nI (lvM mm i))) (by show mm _ = _; exact (hw.2.2.1 i (by rw [hhm]; omega)).1) ?_
          refine lv_iload_n hx hb dX10_seasonIt_93 rfl (lv_at hl 1 rfl) ?_
          refine lv_iadd hx hb dX10_seasonIt_94 ?_
          refine md_min C hml hl.1 gk_min ⟨Nat.le_of_ble_eq_true rfl, Nat.le_of_ble_eq_true rfl, Nat.le_of_ble_eq_true rfl⟩ ⟨Nat.le_refl _, Nat.le_refl _⟩ dX10_seasonIt_95 ?_
          refine md_max C hml hl.1 gk_max ⟨Nat.le_of_ble_eq_true rfl, Nat.le_of_ble_eq_true rfl, Nat.le_of_ble_eq_true rfl⟩ ⟨Nat.le_refl _, Nat.le_refl _⟩ dX10_seasonIt_98 ?_
          refine r_eq (y := (nI (leafN ((s0 + 1) % 4) (lvM mm i)))) (clp_eq _ (by omega) _ (by have := ((hw.2.2.1 i (by rw [hhm]; omega)).2).2; omega) ((hw.2.2.1 i (by rw [hhm]; omega)).2).1) ?_
          refine md_ast_m C hW (i := (11 + 3 * i)) (by omega) dX10_seasonIt_101 (fun H locs hW => ?_)
          refine lv_aload_n hx hb dX10_seasonIt_102 rfl (lv_at hl 0 rfl) ?_
          refine md_geta_m C hW dX10_seasonIt_103 ?_
          refine lv_iload_n hx hb dX10_seasonIt_106 rfl (lv_at hl 2 rfl) ?_
          refine md_calls C hml hl.1 (As := [.int (nI i)]) (rest := [.ref (ad 1)]) (m_hedgeAt l i) gT_hedgeAt hd_hedgeAt rfl ⟨Nat.le_of_ble_eq_true rfl, Nat.le_of_ble_eq_true rfl⟩ ⟨Nat.le_refl _, Nat.le_refl _⟩ rfl (Nat.le_of_ble_eq_true rfl) dX10_seasonIt_107 (fun r_107 hq => ?_)
          subst hq
          refine lv_iconst (v := nI 1) hx hb dX10_seasonIt_110 (by decide) ?_
          refine r_iaddN hx hb (a := (11 + 3 * i)) (b := 1) dX10_seasonIt_111 ?_
          refine lv_dup2_11 hx hb dX10_seasonIt_112 rfl rfl ?_
          refine md_ald_m C hW (i := 11 + 3 * i + 1) (by omega) dX10_seasonIt_113 ?_
          refine r_eq (y := (nI (thM mm i))) (by show upd mm _ _ _ = _; rw [pk_un (by omega)]; exact (hw.2.2.2.1 i (by rw [hhm]; omega)).1) ?_
          refine lv_aload_n hx hb dX10_seasonIt_114 rfl (lv_at hl 0 rfl) ?_
          refine md_geta_m C hW dX10_seasonIt_115 ?_
          refine lv_iconst (v := nI 3) hx hb dX10_seasonIt_118 (by decide) ?_
          refine md_ald_m C hW (i := 3) (by omega) dX10_seasonIt_119 ?_
          refine r_eq (y := (nI ((s0 + 1) % 4))) (by show upd mm _ _ _ = _; rw [pk_un (by omega)]; exact e3) ?_
          refine r_ifneN hx hb (a := ((s0 + 1) % 4)) (by omega) (tgt := 143) dX10_seasonIt_120 (by decide) (fun c_120 => ?_) (fun c_120 => ?_)
          · refine lv_iconst (v := nI 0) hx hb dX10_seasonIt_143 (by decide) ?_
            refine r_iaddN hx hb (a := (thM mm i)) (b := 0) dX10_seasonIt_144 ?_
            refine md_ast_m C hW (i := 11 + 3 * i + 1) (by omega) dX10_seasonIt_145 (fun H locs hW => ?_)
            refine lv_iinc (v := (nI (i + 1))) (lv' := [(2, .int (nI (i + 1))), (0, .ref (ad 0)), (1, .int (byF ((s0 + 1) % 4)))]) hx hb dX10_seasonIt_146 hl (k := 2) rfl (nI_1 _) (by decide) rfl (fun ls hl => ?_)
            refine lv_goto (tgt := 63) hx hb dX10_seasonIt_149 (by decide) ?_
            exact ih ((seaF ((s0 + 1) % 4) (upd (S 0) 3 (nI ((s0 + 1) % 4))) (i + 1)), (i + 1)) _ _ _ (by dsimp only; omega) ⟨_, rfl, lv_sub hl [1, 2, 0] rfl, (by rw [sr_sr, sr_sr] at hW; unfold seaF; rw [← hv]; unfold taddN; rw [if_neg (fun z => c_120 z.1)]; exact hW), ⟨rfl, by (try dsimp only); omega⟩⟩
          · refine lv_aload_n hx hb dX10_seasonIt_123 rfl (lv_at hl 0 rfl) ?_
            refine md_geta_m C hW dX10_seasonIt_124 ?_
            refine lv_iload_n hx hb dX10_seasonIt_127 rfl (lv_at hl 2 rfl) ?_
            refine md_calls C hml hl.1 (As := [.int (nI i)]) (rest := [.ref (ad 1), .int (nI (thM mm i)), .int (nI (11 + 3 * i + 1)), .ref (ad 1)]) (m_hedgeAt l i) gT_hedgeAt hd_hedgeAt rfl ⟨Nat.le_of_ble_eq_true rfl, Nat.le_of_ble_eq_true rfl⟩ ⟨Nat.le_refl _, Nat.le_refl _⟩ rfl (Nat.le_of_ble_eq_true rfl) dX10_seasonIt_128 (fun r_128 hq => ?_)
            subst hq
            refine lv_iconst (v := nI 1) hx hb dX10_seasonIt_131 (by decide) ?_
            refine r_iaddN hx hb (a := (11 + 3 * i)) (b := 1) dX10_seasonIt_132 ?_
            refine md_ald_m C hW (i := 11 + 3 * i + 1) (by omega) dX10_seasonIt_133 ?_
            refine r_eq (y := (nI (thM mm i))) (by show upd mm _ _ _ = _; rw [pk_un (by omega)]; exact (hw.2.2.2.1 i (by rw [hhm]; omega)).1) ?_
            refine lv_bipush (v := nI 9) hx hb dX10_seasonIt_134 (by decide) ?_
            refine r_geN hx hb (a := (thM mm i)) (b := 9) (by have := (hw.2.2.2.1 i (by rw [hhm]; omega)).2; omega) (by have := (hw.2.2.2.1 i (by rw [hhm]; omega)).2; omega) (tgt := 143) dX10_seasonIt_136 (by decide) (fun c_136 => ?_) (fun c_136 => ?_)
            · refine lv_iconst (v := nI 0) hx hb dX10_seasonIt_143 (by decide) ?_
              refine r_iaddN hx hb (a := (thM mm i)) (b := 0) dX10_seasonIt_144 ?_
              refine md_ast_m C hW (i := 11 + 3 * i + 1) (by omega) dX10_seasonIt_145 (fun H locs hW => ?_)
              refine lv_iinc (v := (nI (i + 1))) (lv' := [(2, .int (nI (i + 1))), (0, .ref (ad 0)), (1, .int (byF ((s0 + 1) % 4)))]) hx hb dX10_seasonIt_146 hl (k := 2) rfl (nI_1 _) (by decide) rfl (fun ls hl => ?_)
              refine lv_goto (tgt := 63) hx hb dX10_seasonIt_149 (by decide) ?_
              exact ih ((seaF ((s0 + 1) % 4) (upd (S 0) 3 (nI ((s0 + 1) % 4))) (i + 1)), (i + 1)) _ _ _ (by dsimp only; omega) ⟨_, rfl, lv_sub hl [1, 2, 0] rfl, (by rw [sr_sr, sr_sr] at hW; unfold seaF; rw [← hv]; unfold taddN; rw [if_neg (fun z => by have := z.2; omega)]; exact hW), ⟨rfl, by (try dsimp only); omega⟩⟩
            · refine lv_iconst (v := nI 1) hx hb dX10_seasonIt_139 (by decide) ?_
              refine lv_goto (tgt := 144) hx hb dX10_seasonIt_140 (by decide) ?_
              refine r_iaddN hx hb (a := (thM mm i)) (b := 1) dX10_seasonIt_144 ?_
              refine md_ast_m C hW (i := 11 + 3 * i + 1) (by omega) dX10_seasonIt_145 (fun H locs hW => ?_)
              refine lv_iinc (v := (nI (i + 1))) (lv' := [(2, .int (nI (i + 1))), (0, .ref (ad 0)), (1, .int (byF ((s0 + 1) % 4)))]) hx hb dX10_seasonIt_146 hl (k := 2) rfl (nI_1 _) (by decide) rfl (fun ls hl => ?_)
              refine lv_goto (tgt := 63) hx hb dX10_seasonIt_149 (by decide) ?_
              exact ih ((seaF ((s0 + 1) % 4) (upd (S 0) 3 (nI ((s0 + 1) % 4))) (i + 1)), (i + 1)) _ _ _ (by dsimp only; omega) ⟨_, rfl, lv_sub hl [1, 2, 0] rfl, (by rw [sr_sr, sr_sr] at hW; unfold seaF; rw [← hv]; unfold taddN; rw [if_pos ⟨c_120, by omega⟩]; exact hW), ⟨rfl, by (try dsimp only); omega⟩⟩
      · refine lv_bipush (v := (-2)) hx hb dX10_seasonIt_53 (by decide) ?_
        refine lv_goto (tgt := 60) hx hb dX10_seasonIt_55 (by decide) ?_
        refine r_eq (y := byF ((s0 + 1) % 4)) (by unfold byF; rw [if_neg c_22, if_neg c_36, if_pos c_50]) ?_
        refine lv_istore_n (lv' := [(1, .int (byF ((s0 + 1) % 4))), (0, .ref (ad 0))]) hx hb dX10_seasonIt_60 rfl hl (by decide) rfl (fun ls hl => ?_)
        refine lv_iconst (v := nI 0) hx hb dX10_seasonIt_61 (by decide) ?_
        refine lv_istore_n (lv' := [(2, .int (nI 0)), (1, .int (byF ((s0 + 1) % 4))), (0, .ref (ad 0))]) hx hb dX10_seasonIt_62 rfl hl (by decide) rfl (fun ls hl => ?_)
        refine W_loopH (σ := (Nat → Int32) × Nat) (fun z_ => hM (S 0) - z_.2) (fun z_ H locs g => ∃ ls, g = F0 m 63 ls [] ∧ lv_has ls 3 [(0, .ref (ad 0)), (1, .int (byF ((s0 + 1) % 4))), (2, .int (nI z_.2))] ∧ MdB D aT ad (sr S 0 z_.1) A s.heap H locs ∧ (z_.1 = seaF ((s0 + 1) % 4) (upd (S 0) 3 (nI ((s0 + 1) % 4))) z_.2 ∧ z_.2 ≤ hM (S 0))) ?_ ((upd (S 0) 3 (nI ((s0 + 1) % 4))), 0) _ ⟨_, rfl, lv_sub hl [2, 1, 0] rfl, (by rw [show nI ((s0 + 1) % 4) = nI ((s0 + 1) % 4) from rfl] at hW; exact hW), ⟨rfl, Nat.zero_le _⟩⟩
        clear hW hl
        rintro ⟨mm, i⟩ H locs g ⟨ls, rfl, hl, hW, hv, hih⟩ ih
        dsimp only at hl hW hv hih ⊢
        obtain ⟨hw, hhm, hfix⟩ : seaOk (upd (S 0) 3 (nI ((s0 + 1) % 4))) mm := by rw [hv]; exact seaF_ok hH1 i (by rw [hh1]; exact hih)
        rw [hh1] at hhm
        have e3 : mm 3 = nI ((s0 + 1) % 4) := by rw [hfix 3 (by omega), pk_us]
        have h6 : hM (S 0) ≤ 6 := hH.2.1
        refine lv_iload_n hx hb dX10_seasonIt_63 rfl (lv_at hl 2 rfl) ?_
        refine lv_aload_n hx hb dX10_seasonIt_64 rfl (lv_at hl 0 rfl) ?_
        refine md_geta_m C hW dX10_seasonIt_65 ?_
        refine lv_iconst (v := nI 0) hx hb dX10_seasonIt_68 (by decide) ?_
        refine md_ald_m C hW (i := 0) (by omega) dX10_seasonIt_69 ?_
        refine r_eq (y := (nI (hM (S 0)))) (by show mm 0 = _; rw [← hhm]; exact hw.1) ?_
        refine r_geN hx hb (a := i) (b := (hM (S 0))) (by omega) (by omega) (tgt := 152) dX10_seasonIt_70 (by decide) (fun c_70 => ?_) (fun c_70 => ?_)
        · refine lv_aload_n hx hb dX10_seasonIt_152 rfl (lv_at hl 0 rfl) ?_
          refine md_geta_m C hW dX10_seasonIt_153 ?_
          refine lv_iconst (v := nI 3) hx hb dX10_seasonIt_156 (by decide) ?_
          refine md_ald_m C hW (i := 3) (by omega) dX10_seasonIt_157 ?_
          refine r_eq (y := (nI ((s0 + 1) % 4))) (by show mm 3 = _; exact e3) ?_
          exact md_iret C hr hlocks rfl hW (⟨rfl, by rw [hv, show i = hM (S 0) by omega]⟩) dX10_seasonIt_158
        · refine lv_aload_n hx hb dX10_seasonIt_73 rfl (lv_at hl 0 rfl) ?_
          refine md_geta_m C hW dX10_seasonIt_74 ?_
          refine lv_iload_n hx hb dX10_seasonIt_77 rfl (lv_at hl 2 rfl) ?_
          refine md_calls C hml hl.1 (As := [.int (nI i)]) (rest := [.ref (ad 1)]) (m_hedgeAt l i) gT_hedgeAt hd_hedgeAt rfl ⟨Nat.le_of_ble_eq_true rfl, Nat.le_of_ble_eq_true rfl⟩ ⟨Nat.le_refl _, Nat.le_refl _⟩ rfl (Nat.le_of_ble_eq_true rfl) dX10_seasonIt_78 (fun r_78 hq => ?_)
          subst hq
          refine lv_iconst (v := nI 1) hx hb dX10_seasonIt_81 (by decide) ?_
          refine lv_bipush (v := nI 99) hx hb dX10_seasonIt_82 (by decide) ?_
          refine lv_aload_n hx hb dX10_seasonIt_84 rfl (lv_at hl 0 rfl) ?_
          refine md_geta_m C hW dX10_seasonIt_85 ?_
          refine lv_iload_n hx hb dX10_seasonIt_88 rfl (lv_at hl 2 rfl) ?_
          refine md_calls C hml hl.1 (As := [.int (nI i)]) (rest := [.ref (ad 1), .int (nI 99), .int (nI 1), .int (nI (11 + 3 * i)), .ref (ad 1)]) (m_hedgeAt l i) gT_hedgeAt hd_hedgeAt rfl ⟨Nat.le_of_ble_eq_true rfl, Nat.le_of_ble_eq_true rfl⟩ ⟨Nat.le_refl _, Nat.le_refl _⟩ rfl (Nat.le_of_ble_eq_true rfl) dX10_seasonIt_89 (fun r_89 hq => ?_)
          subst hq
          refine md_ald_m C hW (i := (11 + 3 * i)) (by omega) dX10_seasonIt_92 ?_
          refine r_eq (y := (nI (lvM mm i))) (by show mm _ = _; exact (hw.2.2.1 i (by rw [hhm]; omega)).1) ?_
          refine lv_iload_n hx hb dX10_seasonIt_93 rfl (lv_at hl 1 rfl) ?_
          refine lv_iadd hx hb dX10_seasonIt_94 ?_
          refine md_min C hml hl.1 gk_min ⟨Nat.le_of_ble_eq_true rfl, Nat.le_of_ble_eq_true rfl, Nat.le_of_ble_eq_true rfl⟩ ⟨Nat.le_refl _, Nat.le_refl _⟩ dX10_seasonIt_95 ?_
          refine md_max C hml hl.1 gk_max ⟨Nat.le_of_ble_eq_true rfl, Nat.le_of_ble_eq_true rfl, Nat.le_of_ble_eq_true rfl⟩ ⟨Nat.le_refl _, Nat.le_refl _⟩ dX10_seasonIt_98 ?_
          refine r_eq (y := (nI (leafN ((s0 + 1) % 4) (lvM mm i)))) (clp_eq _ (by omega) _ (by have := ((hw.2.2.1 i (by rw [hhm]; omega)).2).2; omega) ((hw.2.2.1 i (by rw [hhm]; omega)).2).1) ?_
          refine md_ast_m C hW (i := (11 + 3 * i)) (by omega) dX10_seasonIt_101 (fun H locs hW => ?_)
          refine lv_aload_n hx hb dX10_seasonIt_102 rfl (lv_at hl 0 rfl) ?_
          refine md_geta_m C hW dX10_seasonIt_103 ?_
          refine lv_iload_n hx hb dX10_seasonIt_106 rfl (lv_at hl 2 rfl) ?_
          refine md_calls C hml hl.1 (As := [.int (nI i)]) (rest := [.ref (ad 1)]) (m_hedgeAt l i) gT_hedgeAt hd_hedgeAt rfl ⟨Nat.le_of_ble_eq_true rfl, Nat.le_of_ble_eq_true rfl⟩ ⟨Nat.le_refl _, Nat.le_refl _⟩ rfl (Nat.le_of_ble_eq_true rfl) dX10_seasonIt_107 (fun r_107 hq => ?_)
          subst hq
          refine lv_iconst (v := nI 1) hx hb dX10_seasonIt_110 (by decide) ?_
          refine r_iaddN hx hb (a := (11 + 3 * i)) (b := 1) dX10_seasonIt_111 ?_
          refine lv_dup2_11 hx hb dX10_seasonIt_112 rfl rfl ?_
          refine md_ald_m C hW (i := 11 + 3 * i + 1) (by omega) dX10_seasonIt_113 ?_
          refine r_eq (y := (nI (thM mm i))) (by show upd mm _ _ _ = _; rw [pk_un (by omega)]; exact (hw.2.2.2.1 i (by rw [hhm]; omega)).1) ?_
          refine lv_aload_n hx hb dX10_seasonIt_114 rfl (lv_at hl 0 rfl) ?_
          refine md_geta_m C hW dX10_seasonIt_115 ?_
          refine lv_iconst (v := nI 3) hx hb dX10_seasonIt_118 (by decide) ?_
          refine md_ald_m C hW (i := 3) (by omega) dX10_seasonIt_119 ?_
          refine r_eq (y := (nI ((s0 + 1) % 4))) (by show upd mm _ _ _ = _; rw [pk_un (by omega)]; exact e3) ?_
          refine r_ifneN hx hb (a := ((s0 + 1) % 4)) (by omega) (tgt := 143) dX10_seasonIt_120 (by decide) (fun c_120 => ?_) (fun c_120 => ?_)
          · refine lv_iconst (v := nI 0) hx hb dX10_seasonIt_143 (by decide) ?_
            refine r_iaddN hx hb (a := (thM mm i)) (b := 0) dX10_seasonIt_144 ?_
            refine md_ast_m C hW (i := 11 + 3 * i + 1) (by omega) dX10_seasonIt_145 (fun H locs hW => ?_)
            refine lv_iinc (v := (nI (i + 1))) (lv' := [(2, .int (nI (i + 1))), (0, .ref (ad 0)), (1, .int (byF ((s0 + 1) % 4)))]) hx hb dX10_seasonIt_146 hl (k := 2) rfl (nI_1 _) (by decide) rfl (fun ls hl => ?_)
            refine lv_goto (tgt := 63) hx hb dX10_seasonIt_149 (by decide) ?_
            exact ih ((seaF ((s0 + 1) % 4) (upd (S 0) 3 (nI ((s0 + 1) % 4))) (i + 1)), (i + 1)) _ _ _ (by dsimp only; omega) ⟨_, rfl, lv_sub hl [1, 2, 0] rfl, (by rw [sr_sr, sr_sr] at hW; unfold seaF; rw [← hv]; unfold taddN; rw [if_neg (fun z => c_120 z.1)]; exact hW), ⟨rfl, by (try dsimp only); omega⟩⟩
          · refine lv_aload_n hx hb dX10_seasonIt_123 rfl (lv_at hl 0 rfl) ?_
            refine md_geta_m C hW dX10_seasonIt_124 ?_
            refine lv_iload_n hx hb dX10_seasonIt_127 rfl (lv_at hl 2 rfl) ?_
            refine md_calls C hml hl.1 (As := [.int (nI i)]) (rest := [.ref (ad 1), .int (nI (thM mm i)), .int (nI (11 + 3 * i + 1)), .ref (ad 1)]) (m_hedgeAt l i) gT_hedgeAt hd_hedgeAt rfl ⟨Nat.le_of_ble_eq_true rfl, Nat.le_of_ble_eq_true rfl⟩ ⟨Nat.le_refl _, Nat.le_refl _⟩ rfl (Nat.le_of_ble_eq_true rfl) dX10_seasonIt_128 (fun r_128 hq => ?_)
            subst hq
            refine lv_iconst (v := nI 1) hx hb dX10_seasonIt_131 (by decide) ?_
            refine r_iaddN hx hb (a := (11 + 3 * i)) (b := 1) dX10_seasonIt_132 ?_
            refine md_ald_m C hW (i := 11 + 3 * i + 1) (by omega) dX10_seasonIt_133 ?_
            refine r_eq (y := (nI (thM mm i))) (by show upd mm _ _ _ = _; rw [pk_un (by omega)]; exact (hw.2.2.2.1 i (by rw [hhm]; omega)).1) ?_
            refine lv_bipush (v := nI 9) hx hb dX10_seasonIt_134 (by decide) ?_
            refine r_geN hx hb (a := (thM mm i)) (b := 9) (by have := (hw.2.2.2.1 i (by rw [hhm]; omega)).2; omega) (by have := (hw.2.2.2.1 i (by rw [hhm]; omega)).2; omega) (tgt := 143) dX10_seasonIt_136 (by decide) (fun c_136 => ?_) (fun c_136 => ?_)
            · refine lv_iconst (v := nI 0) hx hb dX10_seasonIt_143 (by decide) ?_
              refine r_iaddN hx hb (a := (thM mm i)) (b := 0) dX10_seasonIt_144 ?_
              refine md_ast_m C hW (i := 11 + 3 * i + 1) (by omega) dX10_seasonIt_145 (fun H locs hW => ?_)
              refine lv_iinc (v := (nI (i + 1))) (lv' := [(2, .int (nI (i + 1))), (0, .ref (ad 0)), (1, .int (byF ((s0 + 1) % 4)))]) hx hb dX10_seasonIt_146 hl (k := 2) rfl (nI_1 _) (by decide) rfl (fun ls hl => ?_)
              refine lv_goto (tgt := 63) hx hb dX10_seasonIt_149 (by decide) ?_
              exact ih ((seaF ((s0 + 1) % 4) (upd (S 0) 3 (nI ((s0 + 1) % 4))) (i + 1)), (i + 1)) _ _ _ (by dsimp only; omega) ⟨_, rfl, lv_sub hl [1, 2, 0] rfl, (by rw [sr_sr, sr_sr] at hW; unfold seaF; rw [← hv]; unfold taddN; rw [if_neg (fun z => by have := z.2; omega)]; exact hW), ⟨rfl, by (try dsimp only); omega⟩⟩
            · refine lv_iconst (v := nI 1) hx hb dX10_seasonIt_139 (by decide) ?_
              refine lv_goto (tgt := 144) hx hb dX10_seasonIt_140 (by decide) ?_
              refine r_iaddN hx hb (a := (thM mm i)) (b := 1) dX10_seasonIt_144 ?_
              refine md_ast_m C hW (i := 11 + 3 * i + 1) (by omega) dX10_seasonIt_145 (fun H locs hW => ?_)
              refine lv_iinc (v := (nI (i + 1))) (lv' := [(2, .int (nI (i + 1))), (0, .ref (ad 0)), (1, .int (byF ((s0 + 1) % 4)))]) hx hb dX10_seasonIt_146 hl (k := 2) rfl (nI_1 _) (by decide) rfl (fun ls hl => ?_)
              refine lv_goto (tgt := 63) hx hb dX10_seasonIt_149 (by decide) ?_
              exact ih ((seaF ((s0 + 1) % 4) (upd (S 0) 3 (nI ((s0 + 1) % 4))) (i + 1)), (i + 1)) _ _ _ (by dsimp only; omega) ⟨_, rfl, lv_sub hl [1, 2, 0] rfl, (by rw [sr_sr, sr_sr] at hW; unfold seaF; rw [← hv]; unfold taddN; rw [if_pos ⟨c_120, by omega⟩]; exact hW), ⟨rfl, by (try dsimp only); omega⟩⟩
    · refine lv_iconst (v := nI 2) hx hb dX10_seasonIt_39 (by decide) ?_
      refine lv_goto (tgt := 60) hx hb dX10_seasonIt_40 (by decide) ?_
      refine r_eq (y := byF ((s0 + 1) % 4)) (by unfold byF; rw [if_neg c_22, if_pos c_36]) ?_
      refine lv_istore_n (lv' := [(1, .int (byF ((s0 + 1) % 4))), (0, .ref (ad 0))]) hx hb dX10_seasonIt_60 rfl hl (by decide) rfl (fun ls hl => ?_)
      refine lv_iconst (v := nI 0) hx hb dX10_seasonIt_61 (by decide) ?_
      refine lv_istore_n (lv' := [(2, .int (nI 0)), (1, .int (byF ((s0 + 1) % 4))), (0, .ref (ad 0))]) hx hb dX10_seasonIt_62 rfl hl (by decide) rfl (fun ls hl => ?_)
      refine W_loopH (σ := (Nat → Int32) × Nat) (fun z_ => hM (S 0) - z_.2) (fun z_ H locs g => ∃ ls, g = F0 m 63 ls [] ∧ lv_has ls 3 [(0, .ref (ad 0)), (1, .int (byF ((s0 + 1) % 4))), (2, .int (nI z_.2))] ∧ MdB D aT ad (sr S 0 z_.1) A s.heap H locs ∧ (z_.1 = seaF ((s0 + 1) % 4) (upd (S 0) 3 (nI ((s0 + 1) % 4))) z_.2 ∧ z_.2 ≤ hM (S 0))) ?_ ((upd (S 0) 3 (nI ((s0 + 1) % 4))), 0) _ ⟨_, rfl, lv_sub hl [2, 1, 0] rfl, (by rw [show nI ((s0 + 1) % 4) = nI ((s0 + 1) % 4) from rfl] at hW; exact hW), ⟨rfl, Nat.zero_le _⟩⟩
      clear hW hl
      rintro ⟨mm, i⟩ H locs g ⟨ls, rfl, hl, hW, hv, hih⟩ ih
      dsimp only at hl hW hv hih ⊢
      obtain ⟨hw, hhm, hfix⟩ : seaOk (upd (S 0) 3 (nI ((s0 + 1) % 4))) mm := by rw [hv]; exact seaF_ok hH1 i (by rw [hh1]; exact hih)
      rw [hh1] at hhm
      have e3 : mm 3 = nI ((s0 + 1) % 4) := by rw [hfix 3 (by omega), pk_us]
      have h6 : hM (S 0) ≤ 6 := hH.2.1
      refine lv_iload_n hx hb dX10_seasonIt_63 rfl (lv_at hl 2 rfl) ?_
      refine lv_aload_n hx hb dX10_seasonIt_64 rfl (lv_at hl 0 rfl) ?_
      refine md_geta_m C hW dX10_seasonIt_65 ?_
      refine lv_iconst (v := nI 0) hx hb dX10_seasonIt_68 (by decide) ?_
      refine md_ald_m C hW (i := 0) (by omega) dX10_seasonIt_69 ?_
      refine r_eq (y := (nI (hM (S 0)))) (by show mm 0 = _; rw [← hhm]; exact hw.1) ?_
      refine r_geN hx hb (a := i) (b := (hM (S 0))) (by omega) (by omega) (tgt := 152) dX10_seasonIt_70 (by decide) (fun c_70 => ?_) (fun c_70 => ?_)
      · refine lv_aload_n hx hb dX10_seasonIt_152 rfl (lv_at hl 0 rfl) ?_
        refine md_geta_m C hW dX10_seasonIt_153 ?_
        refine lv_iconst (v := nI 3) hx hb dX10_seasonIt_156 (by decide) ?_
        refine md_ald_m C hW (i := 3) (by omega) dX10_seasonIt_157 ?_
        refine r_eq (y := (nI ((s0 + 1) % 4))) (by show mm 3 = _; exact e3) ?_
        exact md_iret C hr hlocks rfl hW (⟨rfl, by rw [hv, show i = hM (S 0) by omega]⟩) dX10_seasonIt_158
      · refine lv_aload_n hx hb dX10_seasonIt_73 rfl (lv_at hl 0 rfl) ?_
        refine md_geta_m C hW dX10_seasonIt_74 ?_
        refine lv_iload_n hx hb dX10_seasonIt_77 rfl (lv_at hl 2 rfl) ?_
        refine md_calls C hml hl.1 (As := [.int (nI i)]) (rest := [.ref (ad 1)]) (m_hedgeAt l i) gT_hedgeAt hd_hedgeAt rfl ⟨Nat.le_of_ble_eq_true rfl, Nat.le_of_ble_eq_true rfl⟩ ⟨Nat.le_refl _, Nat.le_refl _⟩ rfl (Nat.le_of_ble_eq_true rfl) dX10_seasonIt_78 (fun r_78 hq => ?_)
        subst hq
        refine lv_iconst (v := nI 1) hx hb dX10_seasonIt_81 (by decide) ?_
        refine lv_bipush (v := nI 99) hx hb dX10_seasonIt_82 (by decide) ?_
        refine lv_aload_n hx hb dX10_seasonIt_84 rfl (lv_at hl 0 rfl) ?_
        refine md_geta_m C hW dX10_seasonIt_85 ?_
        refine lv_iload_n hx hb dX10_seasonIt_88 rfl (lv_at hl 2 rfl) ?_
        refine md_calls C hml hl.1 (As := [.int (nI i)]) (rest := [.ref (ad 1), .int (nI 99), .int (nI 1), .int (nI (11 + 3 * i)), .ref (ad 1)]) (m_hedgeAt l i) gT_hedgeAt hd_hedgeAt rfl ⟨Nat.le_of_ble_eq_true rfl, Nat.le_of_ble_eq_true rfl⟩ ⟨Nat.le_refl _, Nat.le_refl _⟩ rfl (Nat.le_of_ble_eq_true rfl) dX10_seasonIt_89 (fun r_89 hq => ?_)
        subst hq
        refine md_ald_m C hW (i := (11 + 3 * i)) (by omega) dX10_seasonIt_92 ?_
        refine r_eq (y := (nI (lvM mm i))) (by show mm _ = _; exact (hw.2.2.1 i (by rw [hhm]; omega)).1) ?_
        refine lv_iload_n hx hb dX10_seasonIt_93 rfl (lv_at hl 1 rfl) ?_
        refine lv_iadd hx hb dX10_seasonIt_94 ?_
        refine md_min C hml hl.1 gk_min ⟨Nat.le_of_ble_eq_true rfl, Nat.le_of_ble_eq_true rfl, Nat.le_of_ble_eq_true rfl⟩ ⟨Nat.le_refl _, Nat.le_refl _⟩ dX10_seasonIt_95 ?_
        refine md_max C hml hl.1 gk_max ⟨Nat.le_of_ble_eq_true rfl, Nat.le_of_ble_eq_true rfl, Nat.le_of_ble_eq_true rfl⟩ ⟨Nat.le_refl _, Nat.le_refl _⟩ dX10_seasonIt_98 ?_
        refine r_eq (y := (nI (leafN ((s0 + 1) % 4) (lvM mm i)))) (clp_eq _ (by omega) _ (by have := ((hw.2.2.1 i (by rw [hhm]; omega)).2).2; omega) ((hw.2.2.1 i (by rw [hhm]; omega)).2).1) ?_
        refine md_ast_m C hW (i := (11 + 3 * i)) (by omega) dX10_seasonIt_101 (fun H locs hW => ?_)
        refine lv_aload_n hx hb dX10_seasonIt_102 rfl (lv_at hl 0 rfl) ?_
        refine md_geta_m C hW dX10_seasonIt_103 ?_
        refine lv_iload_n hx hb dX10_seasonIt_106 rfl (lv_at hl 2 rfl) ?_
        refine md_calls C hml hl.1 (As := [.int (nI i)]) (rest := [.ref (ad 1)]) (m_hedgeAt l i) gT_hedgeAt hd_hedgeAt rfl ⟨Nat.le_of_ble_eq_true rfl, Nat.le_of_ble_eq_true rfl⟩ ⟨Nat.le_refl _, Nat.le_refl _⟩ rfl (Nat.le_of_ble_eq_true rfl) dX10_seasonIt_107 (fun r_107 hq => ?_)
        subst hq
        refine lv_iconst (v := nI 1) hx hb dX10_seasonIt_110 (by decide) ?_
        refine r_iaddN hx hb (a := (11 + 3 * i)) (b := 1) dX10_seasonIt_111 ?_
        refine lv_dup2_11 hx hb dX10_seasonIt_112 rfl rfl ?_
        refine md_ald_m C hW (i := 11 + 3 * i + 1) (by omega) dX10_seasonIt_113 ?_
        refine r_eq (y := (nI (thM mm i))) (by show upd mm _ _ _ = _; rw [pk_un (by omega)]; exact (hw.2.2.2.1 i (by rw [hhm]; omega)).1) ?_
        refine lv_aload_n hx hb dX10_seasonIt_114 rfl (lv_at hl 0 rfl) ?_
        refine md_geta_m C hW dX10_seasonIt_115 ?_
        refine lv_iconst (v := nI 3) hx hb dX10_seasonIt_118 (by decide) ?_
        refine md_ald_m C hW (i := 3) (by omega) dX10_seasonIt_119 ?_
        refine r_eq (y := (nI ((s0 + 1) % 4))) (by show upd mm _ _ _ = _; rw [pk_un (by omega)]; exact e3) ?_
        refine r_ifneN hx hb (a := ((s0 + 1) % 4)) (by omega) (tgt := 143) dX10_seasonIt_120 (by decide) (fun c_120 => ?_) (fun c_120 => ?_)
        · refine lv_iconst (v := nI 0) hx hb dX10_seasonIt_143 (by decide) ?_
          refine r_iaddN hx hb (a := (thM mm i)) (b := 0) dX10_seasonIt_144 ?_
          refine md_ast_m C hW (i := 11 + 3 * i + 1) (by omega) dX10_seasonIt_145 (fun H locs hW => ?_)
          refine lv_iinc (v := (nI (i + 1))) (lv' := [(2, .int (nI (i + 1))), (0, .ref (ad 0)), (1, .int (byF ((s0 + 1) % 4)))]) hx hb dX10_seasonIt_146 hl (k := 2) rfl (nI_1 _) (by decide) rfl (fun ls hl => ?_)
          refine lv_goto (tgt := 63) hx hb dX10_seasonIt_149 (by decide) ?_
          exact ih ((seaF ((s0 + 1) % 4) (upd (S 0) 3 (nI ((s0 + 1) % 4))) (i + 1)), (i + 1)) _ _ _ (by dsimp only; omega) ⟨_, rfl, lv_sub hl [1, 2, 0] rfl, (by rw [sr_sr, sr_sr] at hW; unfold seaF; rw [← hv]; unfold taddN; rw [if_neg (fun z => c_120 z.1)]; exact hW), ⟨rfl, by (try dsimp only); omega⟩⟩
        · refine lv_aload_n hx hb dX10_seasonIt_123 rfl (lv_at hl 0 rfl) ?_
          refine md_geta_m C hW dX10_seasonIt_124 ?_
          refine lv_iload_n hx hb dX10_seasonIt_127 rfl (lv_at hl 2 rfl) ?_
          refine md_calls C hml hl.1 (As := [.int (nI i)]) (rest := [.ref (ad 1), .int (nI (thM mm i)), .int (nI (11 + 3 * i + 1)), .ref (ad 1)]) (m_hedgeAt l i) gT_hedgeAt hd_hedgeAt rfl ⟨Nat.le_of_ble_eq_true rfl, Nat.le_of_ble_eq_true rfl⟩ ⟨Nat.le_refl _, Nat.le_refl _⟩ rfl (Nat.le_of_ble_eq_true rfl) dX10_seasonIt_128 (fun r_128 hq => ?_)
          subst hq
          refine lv_iconst (v := nI 1) hx hb dX10_seasonIt_131 (by decide) ?_
          refine r_iaddN hx hb (a := (11 + 3 * i)) (b := 1) dX10_seasonIt_132 ?_
          refine md_ald_m C hW (i := 11 + 3 * i + 1) (by omega) dX10_seasonIt_133 ?_
          refine r_eq (y := (nI (thM mm i))) (by show upd mm _ _ _ = _; rw [pk_un (by omega)]; exact (hw.2.2.2.1 i (by rw [hhm]; omega)).1) ?_
          refine lv_bipush (v := nI 9) hx hb dX10_seasonIt_134 (by decide) ?_
          refine r_geN hx hb (a := (thM mm i)) (b := 9) (by have := (hw.2.2.2.1 i (by rw [hhm]; omega)).2; omega) (by have := (hw.2.2.2.1 i (by rw [hhm]; omega)).2; omega) (tgt := 143) dX10_seasonIt_136 (by decide) (fun c_136 => ?_) (fun c_136 => ?_)
          · refine lv_iconst (v := nI 0) hx hb dX10_seasonIt_143 (by decide) ?_
            refine r_iaddN hx hb (a := (thM mm i)) (b := 0) dX10_seasonIt_144 ?_
            refine md_ast_m C hW (i := 11 + 3 * i + 1) (by omega) dX10_seasonIt_145 (fun H locs hW => ?_)
            refine lv_iinc (v := (nI (i + 1))) (lv' := [(2, .int (nI (i + 1))), (0, .ref (ad 0)), (1, .int (byF ((s0 + 1) % 4)))]) hx hb dX10_seasonIt_146 hl (k := 2) rfl (nI_1 _) (by decide) rfl (fun ls hl => ?_)
            refine lv_goto (tgt := 63) hx hb dX10_seasonIt_149 (by decide) ?_
            exact ih ((seaF ((s0 + 1) % 4) (upd (S 0) 3 (nI ((s0 + 1) % 4))) (i + 1)), (i + 1)) _ _ _ (by dsimp only; omega) ⟨_, rfl, lv_sub hl [1, 2, 0] rfl, (by rw [sr_sr, sr_sr] at hW; unfold seaF; rw [← hv]; unfold taddN; rw [if_neg (fun z => by have := z.2; omega)]; exact hW), ⟨rfl, by (try dsimp only); omega⟩⟩
          · refine lv_iconst (v := nI 1) hx hb dX10_seasonIt_139 (by decide) ?_
            refine lv_goto (tgt := 144) hx hb dX10_seasonIt_140 (by decide) ?_
            refine r_iaddN hx hb (a := (thM mm i)) (b := 1) dX10_seasonIt_144 ?_
            refine md_ast_m C hW (i := 11 + 3 * i + 1) (by omega) dX10_seasonIt_145 (fun H locs hW => ?_)
            refine lv_iinc (v := (nI (i + 1))) (lv' := [(2, .int (nI (i + 1))), (0, .ref (ad 0)), (1, .int (byF ((s0 + 1) % 4)))]) hx hb dX10_seasonIt_146 hl (k := 2) rfl (nI_1 _) (by decide) rfl (fun ls hl => ?_)
            refine lv_goto (tgt := 63) hx hb dX10_seasonIt_149 (by decide) ?_
            exact ih ((seaF ((s0 + 1) % 4) (upd (S 0) 3 (nI ((s0 + 1) % 4))) (i + 1)), (i + 1)) _ _ _ (by dsimp only; omega) ⟨_, rfl, lv_sub hl [1, 2, 0] rfl, (by rw [sr_sr, sr_sr] at hW; unfold seaF; rw [← hv]; unfold taddN; rw [if_pos ⟨c_120, by omega⟩]; exact hW), ⟨rfl, by (try dsimp only); omega⟩⟩
  · refine lv_iconst (v := nI 4) hx hb dX10_seasonIt_25 (by decide) ?_
    refine lv_goto (tgt := 60) hx hb dX10_seasonIt_26 (by decide) ?_
    refine r_eq (y := byF ((s0 + 1) % 4)) (by unfold byF; rw [if_pos c_22]) ?_
    refine lv_istore_n (lv' := [(1, .int (byF ((s0 + 1) % 4))), (0, .ref (ad 0))]) hx hb dX10_seasonIt_60 rfl hl (by decide) rfl (fun ls hl => ?_)
    refine lv_iconst (v := nI 0) hx hb dX10_seasonIt_61 (by decide) ?_
    refine lv_istore_n (lv' := [(2, .int (nI 0)), (1, .int (byF ((s0 + 1) % 4))), (0, .ref (ad 0))]) hx hb dX10_seasonIt_62 rfl hl (by decide) rfl (fun ls hl => ?_)
    refine W_loopH (σ := (Nat → Int32) × Nat) (fun z_ => hM (S 0) - z_.2) (fun z_ H locs g => ∃ ls, g = F0 m 63 ls [] ∧ lv_has ls 3 [(0, .ref (ad 0)), (1, .int (byF ((s0 + 1) % 4))), (2, .int (nI z_.2))] ∧ MdB D aT ad (sr S 0 z_.1) A s.heap H locs ∧ (z_.1 = seaF ((s0 + 1) % 4) (upd (S 0) 3 (nI ((s0 + 1) % 4))) z_.2 ∧ z_.2 ≤ hM (S 0))) ?_ ((upd (S 0) 3 (nI ((s0 + 1) % 4))), 0) _ ⟨_, rfl, lv_sub hl [2, 1, 0] rfl, (by rw [show nI ((s0 + 1) % 4) = nI ((s0 + 1) % 4) from rfl] at hW; exact hW), ⟨rfl, Nat.zero_le _⟩⟩
    clear hW hl
    rintro ⟨mm, i⟩ H locs g ⟨ls, rfl, hl, hW, hv, hih⟩ ih
    dsimp only at hl hW hv hih ⊢
    obtain ⟨hw, hhm, hfix⟩ : seaOk (upd (S 0) 3 (nI ((s0 + 1) % 4))) mm := by rw [hv]; exact seaF_ok hH1 i (by rw [hh1]; exact hih)
    rw [hh1] at hhm
    have e3 : mm 3 = nI ((s0 + 1) % 4) := by rw [hfix 3 (by omega), pk_us]
    have h6 : hM (S 0) ≤ 6 := hH.2.1
    refine lv_iload_n hx hb dX10_seasonIt_63 rfl (lv_at hl 2 rfl) ?_
    refine lv_aload_n hx hb dX10_seasonIt_64 rfl (lv_at hl 0 rfl) ?_
    refine md_geta_m C hW dX10_seasonIt_65 ?_
    refine lv_iconst (v := nI 0) hx hb dX10_seasonIt_68 (by decide) ?_
    refine md_ald_m C hW (i := 0) (by omega) dX10_seasonIt_69 ?_
    refine r_eq (y := (nI (hM (S 0)))) (by show mm 0 = _; rw [← hhm]; exact hw.1) ?_
    refine r_geN hx hb (a := i) (b := (hM (S 0))) (by omega) (by omega) (tgt := 152) dX10_seasonIt_70 (by decide) (fun c_70 => ?_) (fun c_70 => ?_)
    · refine lv_aload_n hx hb dX10_seasonIt_152 rfl (lv_at hl 0 rfl) ?_
      refine md_geta_m C hW dX10_seasonIt_153 ?_
      refine lv_iconst (v := nI 3) hx hb dX10_seasonIt_156 (by decide) ?_
      refine md_ald_m C hW (i := 3) (by omega) dX10_seasonIt_157 ?_
      refine r_eq (y := (nI ((s0 + 1) % 4))) (by show mm 3 = _; exact e3) ?_
      exact md_iret C hr hlocks rfl hW (⟨rfl, by rw [hv, show i = hM (S 0) by omega]⟩) dX10_seasonIt_158
    · refine lv_aload_n hx hb dX10_seasonIt_73 rfl (lv_at hl 0 rfl) ?_
      refine md_geta_m C hW dX10_seasonIt_74 ?_
      refine lv_iload_n hx hb dX10_seasonIt_77 rfl (lv_at hl 2 rfl) ?_
      refine md_calls C hml hl.1 (As := [.int (nI i)]) (rest := [.ref (ad 1)]) (m_hedgeAt l i) gT_hedgeAt hd_hedgeAt rfl ⟨Nat.le_of_ble_eq_true rfl, Nat.le_of_ble_eq_true rfl⟩ ⟨Nat.le_refl _, Nat.le_refl _⟩ rfl (Nat.le_of_ble_eq_true rfl) dX10_seasonIt_78 (fun r_78 hq => ?_)
      subst hq
      refine lv_iconst (v := nI 1) hx hb dX10_seasonIt_81 (by decide) ?_
      refine lv_bipush (v := nI 99) hx hb dX10_seasonIt_82 (by decide) ?_
      refine lv_aload_n hx hb dX10_seasonIt_84 rfl (lv_at hl 0 rfl) ?_
      refine md_geta_m C hW dX10_seasonIt_85 ?_
      refine lv_iload_n hx hb dX10_seasonIt_88 rfl (lv_at hl 2 rfl) ?_
      refine md_calls C hml hl.1 (As := [.int (nI i)]) (rest := [.ref (ad 1), .int (nI 99), .int (nI 1), .int (nI (11 + 3 * i)), .ref (ad 1)]) (m_hedgeAt l i) gT_hedgeAt hd_hedgeAt rfl ⟨Nat.le_of_ble_eq_true rfl, Nat.le_of_ble_eq_true rfl⟩ ⟨Nat.le_refl _, Nat.le_refl _⟩ rfl (Nat.le_of_ble_eq_true rfl) dX10_seasonIt_89 (fun r_89 hq => ?_)
      subst hq
      refine md_ald_m C hW (i := (11 + 3 * i)) (by omega) dX10_seasonIt_92 ?_
      refine r_eq (y := (nI (lvM mm i))) (by show mm _ = _; exact (hw.2.2.1 i (by rw [hhm]; omega)).1) ?_
      refine lv_iload_n hx hb dX10_seasonIt_93 rfl (lv_at hl 1 rfl) ?_
      refine lv_iadd hx hb dX10_seasonIt_94 ?_
      refine md_min C hml hl.1 gk_min ⟨Nat.le_of_ble_eq_true rfl, Nat.le_of_ble_eq_true rfl, Nat.le_of_ble_eq_true rfl⟩ ⟨Nat.le_refl _, Nat.le_refl _⟩ dX10_seasonIt_95 ?_
      refine md_max C hml hl.1 gk_max ⟨Nat.le_of_ble_eq_true rfl, Nat.le_of_ble_eq_true rfl, Nat.le_of_ble_eq_true rfl⟩ ⟨Nat.le_refl _, Nat.le_refl _⟩ dX10_seasonIt_98 ?_
      refine r_eq (y := (nI (leafN ((s0 + 1) % 4) (lvM mm i)))) (clp_eq _ (by omega) _ (by have := ((hw.2.2.1 i (by rw [hhm]; omega)).2).2; omega) ((hw.2.2.1 i (by rw [hhm]; omega)).2).1) ?_
      refine md_ast_m C hW (i := (11 + 3 * i)) (by omega) dX10_seasonIt_101 (fun H locs hW => ?_)
      refine lv_aload_n hx hb dX10_seasonIt_102 rfl (lv_at hl 0 rfl) ?_
      refine md_geta_m C hW dX10_seasonIt_103 ?_
      refine lv_iload_n hx hb dX10_seasonIt_106 rfl (lv_at hl 2 rfl) ?_
      refine md_calls C hml hl.1 (As := [.int (nI i)]) (rest := [.ref (ad 1)]) (m_hedgeAt l i) gT_hedgeAt hd_hedgeAt rfl ⟨Nat.le_of_ble_eq_true rfl, Nat.le_of_ble_eq_true rfl⟩ ⟨Nat.le_refl _, Nat.le_refl _⟩ rfl (Nat.le_of_ble_eq_true rfl) dX10_seasonIt_107 (fun r_107 hq => ?_)
      subst hq
      refine lv_iconst (v := nI 1) hx hb dX10_seasonIt_110 (by decide) ?_
      refine r_iaddN hx hb (a := (11 + 3 * i)) (b := 1) dX10_seasonIt_111 ?_
      refine lv_dup2_11 hx hb dX10_seasonIt_112 rfl rfl ?_
      refine md_ald_m C hW (i := 11 + 3 * i + 1) (by omega) dX10_seasonIt_113 ?_
      refine r_eq (y := (nI (thM mm i))) (by show upd mm _ _ _ = _; rw [pk_un (by omega)]; exact (hw.2.2.2.1 i (by rw [hhm]; omega)).1) ?_
      refine lv_aload_n hx hb dX10_seasonIt_114 rfl (lv_at hl 0 rfl) ?_
      refine md_geta_m C hW dX10_seasonIt_115 ?_
      refine lv_iconst (v := nI 3) hx hb dX10_seasonIt_118 (by decide) ?_
      refine md_ald_m C hW (i := 3) (by omega) dX10_seasonIt_119 ?_
      refine r_eq (y := (nI ((s0 + 1) % 4))) (by show upd mm _ _ _ = _; rw [pk_un (by omega)]; exact e3) ?_
      refine r_ifneN hx hb (a := ((s0 + 1) % 4)) (by omega) (tgt := 143) dX10_seasonIt_120 (by decide) (fun c_120 => ?_) (fun c_120 => ?_)
      · refine lv_iconst (v := nI 0) hx hb dX10_seasonIt_143 (by decide) ?_
        refine r_iaddN hx hb (a := (thM mm i)) (b := 0) dX10_seasonIt_144 ?_
        refine md_ast_m C hW (i := 11 + 3 * i + 1) (by omega) dX10_seasonIt_145 (fun H locs hW => ?_)
        refine lv_iinc (v := (nI (i + 1))) (lv' := [(2, .int (nI (i + 1))), (0, .ref (ad 0)), (1, .int (byF ((s0 + 1) % 4)))]) hx hb dX10_seasonIt_146 hl (k := 2) rfl (nI_1 _) (by decide) rfl (fun ls hl => ?_)
        refine lv_goto (tgt := 63) hx hb dX10_seasonIt_149 (by decide) ?_
        exact ih ((seaF ((s0 + 1) % 4) (upd (S 0) 3 (nI ((s0 + 1) % 4))) (i + 1)), (i + 1)) _ _ _ (by dsimp only; omega) ⟨_, rfl, lv_sub hl [1, 2, 0] rfl, (by rw [sr_sr, sr_sr] at hW; unfold seaF; rw [← hv]; unfold taddN; rw [if_neg (fun z => c_120 z.1)]; exact hW), ⟨rfl, by (try dsimp only); omega⟩⟩
      · refine lv_aload_n hx hb dX10_seasonIt_123 rfl (lv_at hl 0 rfl) ?_
        refine md_geta_m C hW dX10_seasonIt_124 ?_
        refine lv_iload_n hx hb dX10_seasonIt_127 rfl (lv_at hl 2 rfl) ?_
        refine md_calls C hml hl.1 (As := [.int (nI i)]) (rest := [.ref (ad 1), .int (nI (thM mm i)), .int (nI (11 + 3 * i + 1)), .ref (ad 1)]) (m_hedgeAt l i) gT_hedgeAt hd_hedgeAt rfl ⟨Nat.le_of_ble_eq_true rfl, Nat.le_of_ble_eq_true rfl⟩ ⟨Nat.le_refl _, Nat.le_refl _⟩ rfl (Nat.le_of_ble_eq_true rfl) dX10_seasonIt_128 (fun r_128 hq => ?_)
        subst hq
        refine lv_iconst (v := nI 1) hx hb dX10_seasonIt_131 (by decide) ?_
        refine r_iaddN hx hb (a := (11 + 3 * i)) (b := 1) dX10_seasonIt_132 ?_
        refine md_ald_m C hW (i := 11 + 3 * i + 1) (by omega) dX10_seasonIt_133 ?_
        refine r_eq (y := (nI (thM mm i))) (by show upd mm _ _ _ = _; rw [pk_un (by omega)]; exact (hw.2.2.2.1 i (by rw [hhm]; omega)).1) ?_
        refine lv_bipush (v := nI 9) hx hb dX10_seasonIt_134 (by decide) ?_
        refine r_geN hx hb (a := (thM mm i)) (b := 9) (by have := (hw.2.2.2.1 i (by rw [hhm]; omega)).2; omega) (by have := (hw.2.2.2.1 i (by rw [hhm]; omega)).2; omega) (tgt := 143) dX10_seasonIt_136 (by decide) (fun c_136 => ?_) (fun c_136 => ?_)
        · refine lv_iconst (v := nI 0) hx hb dX10_seasonIt_143 (by decide) ?_
          refine r_iaddN hx hb (a := (thM mm i)) (b := 0) dX10_seasonIt_144 ?_
          refine md_ast_m C hW (i := 11 + 3 * i + 1) (by omega) dX10_seasonIt_145 (fun H locs hW => ?_)
          refine lv_iinc (v := (nI (i + 1))) (lv' := [(2, .int (nI (i + 1))), (0, .ref (ad 0)), (1, .int (byF ((s0 + 1) % 4)))]) hx hb dX10_seasonIt_146 hl (k := 2) rfl (nI_1 _) (by decide) rfl (fun ls hl => ?_)
          refine lv_goto (tgt := 63) hx hb dX10_seasonIt_149 (by decide) ?_
          exact ih ((seaF ((s0 + 1) % 4) (upd (S 0) 3 (nI ((s0 + 1) % 4))) (i + 1)), (i + 1)) _ _ _ (by dsimp only; omega) ⟨_, rfl, lv_sub hl [1, 2, 0] rfl, (by rw [sr_sr, sr_sr] at hW; unfold seaF; rw [← hv]; unfold taddN; rw [if_neg (fun z => by have := z.2; omega)]; exact hW), ⟨rfl, by (try dsimp only); omega⟩⟩
        · refine lv_iconst (v := nI 1) hx hb dX10_seasonIt_139 (by decide) ?_
          refine lv_goto (tgt := 144) hx hb dX10_seasonIt_140 (by decide) ?_
          refine r_iaddN hx hb (a := (thM mm i)) (b := 1) dX10_seasonIt_144 ?_
          refine md_ast_m C hW (i := 11 + 3 * i + 1) (by omega) dX10_seasonIt_145 (fun H locs hW => ?_)
          refine lv_iinc (v := (nI (i + 1))) (lv' := [(2, .int (nI (i + 1))), (0, .ref (ad 0)), (1, .int (byF ((s0 + 1) % 4)))]) hx hb dX10_seasonIt_146 hl (k := 2) rfl (nI_1 _) (by decide) rfl (fun ls hl => ?_)
          refine lv_goto (tgt := 63) hx hb dX10_seasonIt_149 (by decide) ?_
          exact ih ((seaF ((s0 + 1) % 4) (upd (S 0) 3 (nI ((s0 + 1) % 4))) (i + 1)), (i + 1)) _ _ _ (by dsimp only; omega) ⟨_, rfl, lv_sub hl [1, 2, 0] rfl, (by rw [sr_sr, sr_sr] at hW; unfold seaF; rw [← hv]; unfold taddN; rw [if_pos ⟨c_120, by omega⟩]; exact hW), ⟨rfl, by (try dsimp only); omega⟩⟩
end
section
/-- the state when a changing call begins; when it has failed; when it has changed the row -/
def begS (S : MSt) : MSt := sr (ss S 8 (nI 0)) 1 (cpyF (S 1) (S 0) 77)
def faiS (S : MSt) (t : Nat) : MSt := ss (begS S) 8 (nI t)
def chgS (S : MSt) (m : Nat → Int32) (ch : Nat) : MSt := ss (sr (sr (begS S) 0 m) 3 (pstF (S 3) (begS S 1) ch)) 5 (nI (min ch 7 + 1))
def c16 (x : Int32) : Int32 := (x.toUInt32 % 65536).toInt32
theorem dX10_addHedge_0 : decode cX10_addHedge 0 = .ok (.aload_n 0, 1) := by decide +kernel
theorem dX10_addHedge_1 : decode cX10_addHedge 1 = .ok (.invokevirtual 104, 3) := by decide +kernel
theorem dX10_addHedge_4 : decode cX10_addHedge 4 = .ok (.aload_n 0, 1) := by decide +kernel
theorem dX10_addHedge_5 : decode cX10_addHedge 5 = .ok (.aload_n 0, 1) := by decide +kernel
theorem dX10_addHedge_6 : decode cX10_addHedge 6 = .ok (.iload_n 1, 1) := by decide +kernel
theorem dX10_addHedge_7 : decode cX10_addHedge 7 = .ok (.iload_n 2, 1) := by decide +kernel
theorem dX10_addHedge_8 : decode cX10_addHedge 8 = .ok (.iload_n 3, 1) := by decide +kernel
theorem dX10_addHedge_9 : decode cX10_addHedge 9 = .ok (.invokevirtual 107, 3) := by decide +kernel
theorem dX10_addHedge_12 : decode cX10_addHedge 12 = .ok (.invokevirtual 111, 3) := by decide +kernel
theorem dX10_addHedge_15 : decode cX10_addHedge 15 = .ok (.ireturn, 1) := by decide +kernel
set_option maxHeartbeats 1000000 in
set_option maxRecDepth 20000 in
theorem m_addHedge (l : Launch) (D : va_G) (aT : Nat → ClassId) (ad : Nat → Nat) (S : MSt) (x y z : Int32) (h : Nat) (hn : S 0 0 = nI h) (h6 : h ≤ 6) (ch : Nat) (hch : S 13 5 = nI ch) (hc8 : ch ≤ 8) : MdI l yX10_addHedge cX10_addHedge 4 .int 2 49 D aT ad [.ref (ad 0), .int x, .int y, .int z] S (fun r S1 => ((rgB 1 99 x && rgB 0 9 y && rgB 0 9 z) = false ∧ r = -1 ∧ S1 = faiS S 1) ∨ ((rgB 1 99 x && rgB 0 9 y && rgB 0 9 z) = true ∧ h = 6 ∧ r = -1 ∧ S1 = faiS S 2) ∨ ((rgB 1 99 x && rgB 0 9 y && rgB 0 9 z) = true ∧ h < 6 ∧ r = nI h ∧ S1 = chgS S (hedgeF (S 0) h x y z) ch)) := by
  refine MdI.of (by decide +kernel) rfl (Nat.le_of_ble_eq_true rfl) ?_
  intro p e s m below meth c A ls C hml hl hA hr hlocks hW
  have hl : lv_has ls 4 [(0, .ref (ad 0)), (1, .int x), (2, .int y), (3, .int z)] := hl
  have hx := C.1
  have hb := C.2.1
  refine lv_aload_n hx hb dX10_addHedge_0 rfl (lv_at hl 0 rfl) ?_
  refine md_callv C hml hl.1 (As := []) (rest := []) (m_starts l D aT ad S) gT_starts hd_starts rfl ⟨Nat.le_of_ble_eq_true rfl, Nat.le_of_ble_eq_true rfl⟩ ⟨Nat.le_refl _, Nat.le_refl _⟩ hW hA rfl (Nat.le_of_ble_eq_true rfl) dX10_addHedge_1 (fun S_1 H locs hq hW => ?_)
  subst hq
  have hW : MdB D aT ad (begS S) A s.heap H locs := hW
  refine lv_aload_n hx hb dX10_addHedge_4 rfl (lv_at hl 0 rfl) ?_
  refine lv_aload_n hx hb dX10_addHedge_5 rfl (lv_at hl 0 rfl) ?_
  refine lv_iload_n hx hb dX10_addHedge_6 rfl (lv_at hl 1 rfl) ?_
  refine lv_iload_n hx hb dX10_addHedge_7 rfl (lv_at hl 2 rfl) ?_
  refine lv_iload_n hx hb dX10_addHedge_8 rfl (lv_at hl 3 rfl) ?_
  refine md_calli C hml hl.1 (As := [.int x, .int y, .int z]) (rest := [.ref (ad 0)]) (m_hedgeIt l D aT ad (begS S) x y z h hn h6) gT_hedgeIt hd_hedgeIt rfl ⟨Nat.le_of_ble_eq_true rfl, Nat.le_of_ble_eq_true rfl⟩ ⟨Nat.le_refl _, Nat.le_refl _⟩ hW hA rfl (Nat.le_of_ble_eq_true rfl) dX10_addHedge_9 (fun r_9 S_9 H locs hq hW => ?_)
  rcases hq with ⟨h1, rfl, rfl⟩ | ⟨h1, h2, rfl, rfl⟩ | ⟨h1, h2, rfl, rfl⟩
  · refine md_calli C hml hl.1 (As := [.int (-1)]) (rest := []) (m_changed l D aT ad (ss (begS S) 8 (nI 1)) ((-1)) 1 ch (ss_s _ _ _) (by decide) hch hc8) gT_changed hd_changed rfl ⟨Nat.le_of_ble_eq_true rfl, Nat.le_of_ble_eq_true rfl⟩ ⟨Nat.le_refl _, Nat.le_refl _⟩ hW hA rfl (Nat.le_of_ble_eq_true rfl) dX10_addHedge_12 (fun r_12 S_12 H locs hq hW => ?_)
    obtain ⟨rfl, rfl⟩ := hq
    have hW : MdB D aT ad (faiS S 1) A s.heap H locs := by rw [if_neg (by decide)] at hW; exact hW
    exact md_iret C hr hlocks rfl hW (Or.inl ⟨h1, rfl, rfl⟩) dX10_addHedge_15
  · refine md_calli C hml hl.1 (As := [.int (-1)]) (rest := []) (m_changed l D aT ad (ss (begS S) 8 (nI 2)) ((-1)) 2 ch (ss_s _ _ _) (by decide) hch hc8) gT_changed hd_changed rfl ⟨Nat.le_of_ble_eq_true rfl, Nat.le_of_ble_eq_true rfl⟩ ⟨Nat.le_refl _, Nat.le_refl _⟩ hW hA rfl (Nat.le_of_ble_eq_true rfl) dX10_addHedge_12 (fun r_12 S_12 H locs hq hW => ?_)
    obtain ⟨rfl, rfl⟩ := hq
    have hW : MdB D aT ad (faiS S 2) A s.heap H locs := by rw [if_neg (by decide)] at hW; exact hW
    exact md_iret C hr hlocks rfl hW (Or.inr (Or.inl ⟨h1, h2, rfl, rfl⟩)) dX10_addHedge_15
  · refine md_calli C hml hl.1 (As := [.int (nI h)]) (rest := []) (m_changed l D aT ad (sr (begS S) 0 (hedgeF (S 0) h x y z)) ((nI h)) 0 ch (rfl) (by decide) hch hc8) gT_changed hd_changed rfl ⟨Nat.le_of_ble_eq_true rfl, Nat.le_of_ble_eq_true rfl⟩ ⟨Nat.le_refl _, Nat.le_refl _⟩ hW hA rfl (Nat.le_of_ble_eq_true rfl) dX10_addHedge_12 (fun r_12 S_12 H locs hq hW => ?_)
    obtain ⟨rfl, rfl⟩ := hq
    have hW : MdB D aT ad (chgS S (hedgeF (S 0) h x y z) ch) A s.heap H locs := by rw [if_pos rfl] at hW; exact hW
    exact md_iret C hr hlocks rfl hW (Or.inr (Or.inr ⟨h1, h2, rfl, rfl⟩)) dX10_addHedge_15
theorem dX10_propose_0 : decode cX10_propose 0 = .ok (.aload_n 0, 1) := by decide +kernel
theorem dX10_propose_1 : decode cX10_propose 1 = .ok (.invokevirtual 104, 3) := by decide +kernel
theorem dX10_propose_4 : decode cX10_propose 4 = .ok (.aload_n 0, 1) := by decide +kernel
theorem dX10_propose_5 : decode cX10_propose 5 = .ok (.aload_n 0, 1) := by decide +kernel
theorem dX10_propose_6 : decode cX10_propose 6 = .ok (.iload_n 1, 1) := by decide +kernel
theorem dX10_propose_7 : decode cX10_propose 7 = .ok (.iload_n 2, 1) := by decide +kernel
theorem dX10_propose_8 : decode cX10_propose 8 = .ok (.invokevirtual 119, 3) := by decide +kernel
theorem dX10_propose_11 : decode cX10_propose 11 = .ok (.invokevirtual 111, 3) := by decide +kernel
theorem dX10_propose_14 : decode cX10_propose 14 = .ok (.ireturn, 1) := by decide +kernel
set_option maxHeartbeats 1000000 in
set_option maxRecDepth 20000 in
theorem m_propose (l : Launch) (D : va_G) (aT : Nat → ClassId) (ad : Nat → Nat) (S : MSt) (x y : Int32) (n : Nat) (hn : S 0 2 = nI n) (h12 : n ≤ 12) (ch : Nat) (hch : S 13 5 = nI ch) (hc8 : ch ≤ 8) : MdI l yX10_propose cX10_propose 3 .int 2 47 D aT ad [.ref (ad 0), .int x, .int y] S (fun r S1 => ((rgB 0 9 x && rgB 1 20 y) = false ∧ r = -1 ∧ S1 = faiS S 1) ∨ ((rgB 0 9 x && rgB 1 20 y) = true ∧ n = 12 ∧ r = -1 ∧ S1 = faiS S 2) ∨ ((rgB 0 9 x && rgB 1 20 y) = true ∧ n < 12 ∧ r = S 0 1 ∧ S1 = chgS S (addF (S 0) n (-1) x y) ch)) := by
  refine MdI.of (by decide +kernel) rfl (Nat.le_of_ble_eq_true rfl) ?_
  intro p e s m below meth c A ls C hml hl hA hr hlocks hW
  have hl : lv_has ls 3 [(0, .ref (ad 0)), (1, .int x), (2, .int y)] := hl
  have hx := C.1
  have hb := C.2.1
  refine lv_aload_n hx hb dX10_propose_0 rfl (lv_at hl 0 rfl) ?_
  refine md_callv C hml hl.1 (As := []) (rest := []) (m_starts l D aT ad S) gT_starts hd_starts rfl ⟨Nat.le_of_ble_eq_true rfl, Nat.le_of_ble_eq_true rfl⟩ ⟨Nat.le_refl _, Nat.le_refl _⟩ hW hA rfl (Nat.le_of_ble_eq_true rfl) dX10_propose_1 (fun S_1 H locs hq hW => ?_)
  subst hq
  have hW : MdB D aT ad (begS S) A s.heap H locs := hW
  refine lv_aload_n hx hb dX10_propose_4 rfl (lv_at hl 0 rfl) ?_
  refine lv_aload_n hx hb dX10_propose_5 rfl (lv_at hl 0 rfl) ?_
  refine lv_iload_n hx hb dX10_propose_6 rfl (lv_at hl 1 rfl) ?_
  refine lv_iload_n hx hb dX10_propose_7 rfl (lv_at hl 2 rfl) ?_
  refine md_calli C hml hl.1 (As := [.int x, .int y]) (rest := [.ref (ad 0)]) (m_mainIt l D aT ad (begS S) x y n hn h12) gT_mainIt hd_mainIt rfl ⟨Nat.le_of_ble_eq_true rfl, Nat.le_of_ble_eq_true rfl⟩ ⟨Nat.le_refl _, Nat.le_refl _⟩ hW hA rfl (Nat.le_of_ble_eq_true rfl) dX10_propose_8 (fun r_8 S_8 H locs hq hW => ?_)
  rcases hq with ⟨h1, rfl, rfl⟩ | ⟨h1, h2, rfl, rfl⟩ | ⟨h1, h2, rfl, rfl⟩
  · refine md_calli C hml hl.1 (As := [.int (-1)]) (rest := []) (m_changed l D aT ad (ss (begS S) 8 (nI 1)) ((-1)) 1 ch (ss_s _ _ _) (by decide) hch hc8) gT_changed hd_changed rfl ⟨Nat.le_of_ble_eq_true rfl, Nat.le_of_ble_eq_true rfl⟩ ⟨Nat.le_refl _, Nat.le_refl _⟩ hW hA rfl (Nat.le_of_ble_eq_true rfl) dX10_propose_11 (fun r_11 S_11 H locs hq hW => ?_)
    obtain ⟨rfl, rfl⟩ := hq
    have hW : MdB D aT ad (faiS S 1) A s.heap H locs := by rw [if_neg (by decide)] at hW; exact hW
    exact md_iret C hr hlocks rfl hW (Or.inl ⟨h1, rfl, rfl⟩) dX10_propose_14
  · refine md_calli C hml hl.1 (As := [.int (-1)]) (rest := []) (m_changed l D aT ad (ss (begS S) 8 (nI 2)) ((-1)) 2 ch (ss_s _ _ _) (by decide) hch hc8) gT_changed hd_changed rfl ⟨Nat.le_of_ble_eq_true rfl, Nat.le_of_ble_eq_true rfl⟩ ⟨Nat.le_refl _, Nat.le_refl _⟩ hW hA rfl (Nat.le_of_ble_eq_true rfl) dX10_propose_11 (fun r_11 S_11 H locs hq hW => ?_)
    obtain ⟨rfl, rfl⟩ := hq
    have hW : MdB D aT ad (faiS S 2) A s.heap H locs := by rw [if_neg (by decide)] at hW; exact hW
    exact md_iret C hr hlocks rfl hW (Or.inr (Or.inl ⟨h1, h2, rfl, rfl⟩)) dX10_propose_14
  · refine md_calli C hml hl.1 (As := [.int (S 0 1)]) (rest := []) (m_changed l D aT ad (sr (begS S) 0 (addF (S 0) n (-1) x y)) ((S 0 1)) 0 ch (rfl) (by decide) hch hc8) gT_changed hd_changed rfl ⟨Nat.le_of_ble_eq_true rfl, Nat.le_of_ble_eq_true rfl⟩ ⟨Nat.le_refl _, Nat.le_refl _⟩ hW hA rfl (Nat.le_of_ble_eq_true rfl) dX10_propose_11 (fun r_11 S_11 H locs hq hW => ?_)
    obtain ⟨rfl, rfl⟩ := hq
    have hW : MdB D aT ad (chgS S (addF (S 0) n (-1) x y) ch) A s.heap H locs := by rw [if_pos rfl] at hW; exact hW
    exact md_iret C hr hlocks rfl hW (Or.inr (Or.inr ⟨h1, h2, rfl, rfl⟩)) dX10_propose_14
theorem dX10_amend_0 : decode cX10_amend 0 = .ok (.aload_n 0, 1) := by decide +kernel
theorem dX10_amend_1 : decode cX10_amend 1 = .ok (.invokevirtual 104, 3) := by decide +kernel
theorem dX10_amend_4 : decode cX10_amend 4 = .ok (.aload_n 0, 1) := by decide +kernel
theorem dX10_amend_5 : decode cX10_amend 5 = .ok (.aload_n 0, 1) := by decide +kernel
theorem dX10_amend_6 : decode cX10_amend 6 = .ok (.iload_n 1, 1) := by decide +kernel
theorem dX10_amend_7 : decode cX10_amend 7 = .ok (.iload_n 2, 1) := by decide +kernel
theorem dX10_amend_8 : decode cX10_amend 8 = .ok (.iload_n 3, 1) := by decide +kernel
theorem dX10_amend_9 : decode cX10_amend 9 = .ok (.invokevirtual 122, 3) := by decide +kernel
theorem dX10_amend_12 : decode cX10_amend 12 = .ok (.invokevirtual 111, 3) := by decide +kernel
theorem dX10_amend_15 : decode cX10_amend 15 = .ok (.ireturn, 1) := by decide +kernel
set_option maxHeartbeats 1000000 in
set_option maxRecDepth 20000 in
theorem m_amend (l : Launch) (D : va_G) (aT : Nat → ClassId) (ad : Nat → Nat) (S : MSt) (x y z : Int32) (n : Nat) (hn : S 0 2 = nI n) (h12 : n ≤ 12) (ch : Nat) (hch : S 13 5 = nI ch) (hc8 : ch ≤ 8) : MdI l yX10_amend cX10_amend 4 .int 3 67 D aT ad [.ref (ad 0), .int x, .int y, .int z] S (fun r S1 => (fnd (fun k => S 0 (29 + 4 * k)) x n = none ∧ r = -1 ∧ S1 = faiS S 1) ∨ (∃ q, fnd (fun k => S 0 (29 + 4 * k)) x n = some q ∧ (rgB 0 9 y && rgB 1 20 z) = false ∧ r = -1 ∧ S1 = faiS S 2) ∨ (∃ q, fnd (fun k => S 0 (29 + 4 * k)) x n = some q ∧ (rgB 0 9 y && rgB 1 20 z) = true ∧ n = 12 ∧ r = -1 ∧ S1 = faiS S 3) ∨ (∃ q, fnd (fun k => S 0 (29 + 4 * k)) x n = some q ∧ (rgB 0 9 y && rgB 1 20 z) = true ∧ n < 12 ∧ r = S 0 1 ∧ S1 = chgS S (addF (S 0) n x y z) ch)) := by
  refine MdI.of (by decide +kernel) rfl (Nat.le_of_ble_eq_true rfl) ?_
  intro p e s m below meth c A ls C hml hl hA hr hlocks hW
  have hl : lv_has ls 4 [(0, .ref (ad 0)), (1, .int x), (2, .int y), (3, .int z)] := hl
  have hx := C.1
  have hb := C.2.1
  refine lv_aload_n hx hb dX10_amend_0 rfl (lv_at hl 0 rfl) ?_
  refine md_callv C hml hl.1 (As := []) (rest := []) (m_starts l D aT ad S) gT_starts hd_starts rfl ⟨Nat.le_of_ble_eq_true rfl, Nat.le_of_ble_eq_true rfl⟩ ⟨Nat.le_refl _, Nat.le_refl _⟩ hW hA rfl (Nat.le_of_ble_eq_true rfl) dX10_amend_1 (fun S_1 H locs hq hW => ?_)
  subst hq
  have hW : MdB D aT ad (begS S) A s.heap H locs := hW
  refine lv_aload_n hx hb dX10_amend_4 rfl (lv_at hl 0 rfl) ?_
  refine lv_aload_n hx hb dX10_amend_5 rfl (lv_at hl 0 rfl) ?_
  refine lv_iload_n hx hb dX10_amend_6 rfl (lv_at hl 1 rfl) ?_
  refine lv_iload_n hx hb dX10_amend_7 rfl (lv_at hl 2 rfl) ?_
  refine lv_iload_n hx hb dX10_amend_8 rfl (lv_at hl 3 rfl) ?_
  refine md_calli C hml hl.1 (As := [.int x, .int y, .int z]) (rest := [.ref (ad 0)]) (m_amendIt l D aT ad (begS S) x y z n hn h12) gT_amendIt hd_amendIt rfl ⟨Nat.le_of_ble_eq_true rfl, Nat.le_of_ble_eq_true rfl⟩ ⟨Nat.le_refl _, Nat.le_refl _⟩ hW hA rfl (Nat.le_of_ble_eq_true rfl) dX10_amend_9 (fun r_9 S_9 H locs hq hW => ?_)
  rcases hq with ⟨h1, rfl, rfl⟩ | ⟨q, h1, h2, rfl, rfl⟩ | ⟨q, h1, h2, h3, rfl, rfl⟩ | ⟨q, h1, h2, h3, rfl, rfl⟩
  · refine md_calli C hml hl.1 (As := [.int (-1)]) (rest := []) (m_changed l D aT ad (ss (begS S) 8 (nI 1)) ((-1)) 1 ch (ss_s _ _ _) (by decide) hch hc8) gT_changed hd_changed rfl ⟨Nat.le_of_ble_eq_true rfl, Nat.le_of_ble_eq_true rfl⟩ ⟨Nat.le_refl _, Nat.le_refl _⟩ hW hA rfl (Nat.le_of_ble_eq_true rfl) dX10_amend_12 (fun r_12 S_12 H locs hq hW => ?_)
    obtain ⟨rfl, rfl⟩ := hq
    have hW : MdB D aT ad (faiS S 1) A s.heap H locs := by rw [if_neg (by decide)] at hW; exact hW
    exact md_iret C hr hlocks rfl hW (Or.inl ⟨h1, rfl, rfl⟩) dX10_amend_15
  · refine md_calli C hml hl.1 (As := [.int (-1)]) (rest := []) (m_changed l D aT ad (ss (begS S) 8 (nI 2)) ((-1)) 2 ch (ss_s _ _ _) (by decide) hch hc8) gT_changed hd_changed rfl ⟨Nat.le_of_ble_eq_true rfl, Nat.le_of_ble_eq_true rfl⟩ ⟨Nat.le_refl _, Nat.le_refl _⟩ hW hA rfl (Nat.le_of_ble_eq_true rfl) dX10_amend_12 (fun r_12 S_12 H locs hq hW => ?_)
    obtain ⟨rfl, rfl⟩ := hq
    have hW : MdB D aT ad (faiS S 2) A s.heap H locs := by rw [if_neg (by decide)] at hW; exact hW
    exact md_iret C hr hlocks rfl hW (Or.inr (Or.inl ⟨q, h1, h2, rfl, rfl⟩)) dX10_amend_15
  · refine md_calli C hml hl.1 (As := [.int (-1)]) (rest := []) (m_changed l D aT ad (ss (begS S) 8 (nI 3)) ((-1)) 3 ch (ss_s _ _ _) (by decide) hch hc8) gT_changed hd_changed rfl ⟨Nat.le_of_ble_eq_true rfl, Nat.le_of_ble_eq_true rfl⟩ ⟨Nat.le_refl _, Nat.le_refl _⟩ hW hA rfl (Nat.le_of_ble_eq_true rfl) dX10_amend_12 (fun r_12 S_12 H locs hq hW => ?_)
    obtain ⟨rfl, rfl⟩ := hq
    have hW : MdB D aT ad (faiS S 3) A s.heap H locs := by rw [if_neg (by decide)] at hW; exact hW
    exact md_iret C hr hlocks rfl hW (Or.inr (Or.inr (Or.inl ⟨q, h1, h2, h3, rfl, rfl⟩))) dX10_amend_15
  · refine md_calli C hml hl.1 (As := [.int (S 0 1)]) (rest := []) (m_changed l D aT ad (sr (begS S) 0 (addF (S 0) n x y z)) ((S 0 1)) 0 ch (rfl) (by decide) hch hc8) gT_changed hd_changed rfl ⟨Nat.le_of_ble_eq_true rfl, Nat.le_of_ble_eq_true rfl⟩ ⟨Nat.le_refl _, Nat.le_refl _⟩ hW hA rfl (Nat.le_of_ble_eq_true rfl) dX10_amend_12 (fun r_12 S_12 H locs hq hW => ?_)
    obtain ⟨rfl, rfl⟩ := hq
    have hW : MdB D aT ad (chgS S (addF (S 0) n x y z) ch) A s.heap H locs := by rw [if_pos rfl] at hW; exact hW
    exact md_iret C hr hlocks rfl hW (Or.inr (Or.inr (Or.inr ⟨q, h1, h2, h3, rfl, rfl⟩))) dX10_amend_15
theorem dX10_prune_0 : decode cX10_prune 0 = .ok (.aload_n 0, 1) := by decide +kernel
theorem dX10_prune_1 : decode cX10_prune 1 = .ok (.invokevirtual 104, 3) := by decide +kernel
theorem dX10_prune_4 : decode cX10_prune 4 = .ok (.aload_n 0, 1) := by decide +kernel
theorem dX10_prune_5 : decode cX10_prune 5 = .ok (.aload_n 0, 1) := by decide +kernel
theorem dX10_prune_6 : decode cX10_prune 6 = .ok (.iload_n 1, 1) := by decide +kernel
theorem dX10_prune_7 : decode cX10_prune 7 = .ok (.iload_n 2, 1) := by decide +kernel
theorem dX10_prune_8 : decode cX10_prune 8 = .ok (.invokevirtual 132, 3) := by decide +kernel
theorem dX10_prune_11 : decode cX10_prune 11 = .ok (.invokevirtual 111, 3) := by decide +kernel
theorem dX10_prune_14 : decode cX10_prune 14 = .ok (.ireturn, 1) := by decide +kernel
set_option maxHeartbeats 1000000 in
set_option maxRecDepth 20000 in
theorem m_prune (l : Launch) (D : va_G) (aT : Nat → ClassId) (ad : Nat → Nat) (S : MSt) (x y : Int32) (hF : FoW (S 0)) (ch : Nat) (hch : S 13 5 = nI ch) (hc8 : ch ≤ 8) : MdI l yX10_prune cX10_prune 3 .int 5 114 D aT ad [.ref (ad 0), .int x, .int y] S (fun r S1 => (fnd (fun k => S 0 (29 + 4 * k)) x (nM (S 0)) = none ∧ r = -1 ∧ S1 = faiS S 1) ∨ (∃ q, fnd (fun k => S 0 (29 + 4 * k)) x (nM (S 0)) = some q ∧ rgB 0 9 y = false ∧ r = -1 ∧ S1 = faiS S 2) ∨ (∃ q v, fnd (fun k => S 0 (29 + 4 * k)) x (nM (S 0)) = some q ∧ y = nI v ∧ rgB 0 9 y = true ∧ r = nI (prnR (S 0) q v).2 ∧ S1 = chgS S (prnR (S 0) q v).1 ch)) := by
  refine MdI.of (by decide +kernel) rfl (Nat.le_of_ble_eq_true rfl) ?_
  intro p e s m below meth c A ls C hml hl hA hr hlocks hW
  have hl : lv_has ls 3 [(0, .ref (ad 0)), (1, .int x), (2, .int y)] := hl
  have hx := C.1
  have hb := C.2.1
  refine lv_aload_n hx hb dX10_prune_0 rfl (lv_at hl 0 rfl) ?_
  refine md_callv C hml hl.1 (As := []) (rest := []) (m_starts l D aT ad S) gT_starts hd_starts rfl ⟨Nat.le_of_ble_eq_true rfl, Nat.le_of_ble_eq_true rfl⟩ ⟨Nat.le_refl _, Nat.le_refl _⟩ hW hA rfl (Nat.le_of_ble_eq_true rfl) dX10_prune_1 (fun S_1 H locs hq hW => ?_)
  subst hq
  have hW : MdB D aT ad (begS S) A s.heap H locs := hW
  refine lv_aload_n hx hb dX10_prune_4 rfl (lv_at hl 0 rfl) ?_
  refine lv_aload_n hx hb dX10_prune_5 rfl (lv_at hl 0 rfl) ?_
  refine lv_iload_n hx hb dX10_prune_6 rfl (lv_at hl 1 rfl) ?_
  refine lv_iload_n hx hb dX10_prune_7 rfl (lv_at hl 2 rfl) ?_
  refine md_calli C hml hl.1 (As := [.int x, .int y]) (rest := [.ref (ad 0)]) (m_pruneIt l D aT ad (begS S) x y hF) gT_pruneIt hd_pruneIt rfl ⟨Nat.le_of_ble_eq_true rfl, Nat.le_of_ble_eq_true rfl⟩ ⟨Nat.le_refl _, Nat.le_refl _⟩ hW hA rfl (Nat.le_of_ble_eq_true rfl) dX10_prune_8 (fun r_8 S_8 H locs hq hW => ?_)
  rcases hq with ⟨h1, rfl, rfl⟩ | ⟨q, h1, h2, rfl, rfl⟩ | ⟨q, v, h1, h2, h3, rfl, rfl⟩
  · refine md_calli C hml hl.1 (As := [.int (-1)]) (rest := []) (m_changed l D aT ad (ss (begS S) 8 (nI 1)) ((-1)) 1 ch (ss_s _ _ _) (by decide) hch hc8) gT_changed hd_changed rfl ⟨Nat.le_of_ble_eq_true rfl, Nat.le_of_ble_eq_true rfl⟩ ⟨Nat.le_refl _, Nat.le_refl _⟩ hW hA rfl (Nat.le_of_ble_eq_true rfl) dX10_prune_11 (fun r_11 S_11 H locs hq hW => ?_)
    obtain ⟨rfl, rfl⟩ := hq
    have hW : MdB D aT ad (faiS S 1) A s.heap H locs := by rw [if_neg (by decide)] at hW; exact hW
    exact md_iret C hr hlocks rfl hW (Or.inl ⟨h1, rfl, rfl⟩) dX10_prune_14
  · refine md_calli C hml hl.1 (As := [.int (-1)]) (rest := []) (m_changed l D aT ad (ss (begS S) 8 (nI 2)) ((-1)) 2 ch (ss_s _ _ _) (by decide) hch hc8) gT_changed hd_changed rfl ⟨Nat.le_of_ble_eq_true rfl, Nat.le_of_ble_eq_true rfl⟩ ⟨Nat.le_refl _, Nat.le_refl _⟩ hW hA rfl (Nat.le_of_ble_eq_true rfl) dX10_prune_11 (fun r_11 S_11 H locs hq hW => ?_)
    obtain ⟨rfl, rfl⟩ := hq
    have hW : MdB D aT ad (faiS S 2) A s.heap H locs := by rw [if_neg (by decide)] at hW; exact hW
    exact md_iret C hr hlocks rfl hW (Or.inr (Or.inl ⟨q, h1, h2, rfl, rfl⟩)) dX10_prune_14
  · refine md_calli C hml hl.1 (As := [.int (nI ((prnR (S 0) q v).2))]) (rest := []) (m_changed l D aT ad (sr (begS S) 0 ((prnR (S 0) q v).1)) ((nI ((prnR (S 0) q v).2))) 0 ch (rfl) (by decide) hch hc8) gT_changed hd_changed rfl ⟨Nat.le_of_ble_eq_true rfl, Nat.le_of_ble_eq_true rfl⟩ ⟨Nat.le_refl _, Nat.le_refl _⟩ hW hA rfl (Nat.le_of_ble_eq_true rfl) dX10_prune_11 (fun r_11 S_11 H locs hq hW => ?_)
    obtain ⟨rfl, rfl⟩ := hq
    have hW : MdB D aT ad (chgS S ((prnR (S 0) q v).1) ch) A s.heap H locs := by rw [if_pos rfl] at hW; exact hW
    exact md_iret C hr hlocks rfl hW (Or.inr (Or.inr ⟨q, v, h1, h2, h3, rfl, rfl⟩)) dX10_prune_14
theorem dX10_regrow_0 : decode cX10_regrow 0 = .ok (.aload_n 0, 1) := by decide +kernel
theorem dX10_regrow_1 : decode cX10_regrow 1 = .ok (.invokevirtual 104, 3) := by decide +kernel
theorem dX10_regrow_4 : decode cX10_regrow 4 = .ok (.aload_n 0, 1) := by decide +kernel
theorem dX10_regrow_5 : decode cX10_regrow 5 = .ok (.aload_n 0, 1) := by decide +kernel
theorem dX10_regrow_6 : decode cX10_regrow 6 = .ok (.iload_n 1, 1) := by decide +kernel
theorem dX10_regrow_7 : decode cX10_regrow 7 = .ok (.invokevirtual 141, 3) := by decide +kernel
theorem dX10_regrow_10 : decode cX10_regrow 10 = .ok (.invokevirtual 111, 3) := by decide +kernel
theorem dX10_regrow_13 : decode cX10_regrow 13 = .ok (.ireturn, 1) := by decide +kernel
set_option maxHeartbeats 1000000 in
set_option maxRecDepth 20000 in
theorem m_regrow (l : Launch) (D : va_G) (aT : Nat → ClassId) (ad : Nat → Nat) (S : MSt) (x : Int32) (hF : FoW (S 0)) (ch : Nat) (hch : S 13 5 = nI ch) (hc8 : ch ≤ 8) : MdI l yX10_regrow cX10_regrow 2 .int 6 134 D aT ad [.ref (ad 0), .int x] S (fun r S1 => (fnd (fun k => S 0 (29 + 4 * k)) x (nM (S 0)) = none ∧ r = -1 ∧ S1 = faiS S 1) ∨ (∃ q, fnd (fun k => S 0 (29 + 4 * k)) x (nM (S 0)) = some q ∧ nM (S 0) = 12 ∧ r = -1 ∧ S1 = faiS S 2) ∨ (∃ q t, fnd (fun k => S 0 (29 + 4 * k)) x (nM (S 0)) = some q ∧ nM (S 0) < 12 ∧ ltp (prM (S 0)) (nM (S 0)) q (nM (S 0)) = some t ∧ r = S 0 1 ∧ S1 = chgS S (addF (S 0) (nM (S 0)) (S 0 (29 + 4 * t)) (nI ((tnM (S 0) t + 1) % 10)) (hlfF (S 0 (29 + 4 * t + 3)))) ch)) := by
  refine MdI.of (by decide +kernel) rfl (Nat.le_of_ble_eq_true rfl) ?_
  intro p e s m below meth c A ls C hml hl hA hr hlocks hW
  have hl : lv_has ls 2 [(0, .ref (ad 0)), (1, .int x)] := hl
  have hx := C.1
  have hb := C.2.1
  refine lv_aload_n hx hb dX10_regrow_0 rfl (lv_at hl 0 rfl) ?_
  refine md_callv C hml hl.1 (As := []) (rest := []) (m_starts l D aT ad S) gT_starts hd_starts rfl ⟨Nat.le_of_ble_eq_true rfl, Nat.le_of_ble_eq_true rfl⟩ ⟨Nat.le_refl _, Nat.le_refl _⟩ hW hA rfl (Nat.le_of_ble_eq_true rfl) dX10_regrow_1 (fun S_1 H locs hq hW => ?_)
  subst hq
  have hW : MdB D aT ad (begS S) A s.heap H locs := hW
  refine lv_aload_n hx hb dX10_regrow_4 rfl (lv_at hl 0 rfl) ?_
  refine lv_aload_n hx hb dX10_regrow_5 rfl (lv_at hl 0 rfl) ?_
  refine lv_iload_n hx hb dX10_regrow_6 rfl (lv_at hl 1 rfl) ?_
  refine md_calli C hml hl.1 (As := [.int x]) (rest := [.ref (ad 0)]) (m_regrowIt l D aT ad (begS S) x hF) gT_regrowIt hd_regrowIt rfl ⟨Nat.le_of_ble_eq_true rfl, Nat.le_of_ble_eq_true rfl⟩ ⟨Nat.le_refl _, Nat.le_refl _⟩ hW hA rfl (Nat.le_of_ble_eq_true rfl) dX10_regrow_7 (fun r_7 S_7 H locs hq hW => ?_)
  rcases hq with ⟨h1, rfl, rfl⟩ | ⟨q, h1, h2, rfl, rfl⟩ | ⟨q, t, h1, h2, h3, rfl, rfl⟩
  · refine md_calli C hml hl.1 (As := [.int (-1)]) (rest := []) (m_changed l D aT ad (ss (begS S) 8 (nI 1)) ((-1)) 1 ch (ss_s _ _ _) (by decide) hch hc8) gT_changed hd_changed rfl ⟨Nat.le_of_ble_eq_true rfl, Nat.le_of_ble_eq_true rfl⟩ ⟨Nat.le_refl _, Nat.le_refl _⟩ hW hA rfl (Nat.le_of_ble_eq_true rfl) dX10_regrow_10 (fun r_10 S_10 H locs hq hW => ?_)
    obtain ⟨rfl, rfl⟩ := hq
    have hW : MdB D aT ad (faiS S 1) A s.heap H locs := by rw [if_neg (by decide)] at hW; exact hW
    exact md_iret C hr hlocks rfl hW (Or.inl ⟨h1, rfl, rfl⟩) dX10_regrow_13
  · refine md_calli C hml hl.1 (As := [.int (-1)]) (rest := []) (m_changed l D aT ad (ss (begS S) 8 (nI 2)) ((-1)) 2 ch (ss_s _ _ _) (by decide) hch hc8) gT_changed hd_changed rfl ⟨Nat.le_of_ble_eq_true rfl, Nat.le_of_ble_eq_true rfl⟩ ⟨Nat.le_refl _, Nat.le_refl _⟩ hW hA rfl (Nat.le_of_ble_eq_true rfl) dX10_regrow_10 (fun r_10 S_10 H locs hq hW => ?_)
    obtain ⟨rfl, rfl⟩ := hq
    have hW : MdB D aT ad (faiS S 2) A s.heap H locs := by rw [if_neg (by decide)] at hW; exact hW
    exact md_iret C hr hlocks rfl hW (Or.inr (Or.inl ⟨q, h1, h2, rfl, rfl⟩)) dX10_regrow_13
  · refine md_calli C hml hl.1 (As := [.int (S 0 1)]) (rest := []) (m_changed l D aT ad (sr (begS S) 0 (addF (S 0) (nM (S 0)) (S 0 (29 + 4 * t)) (nI ((tnM (S 0) t + 1) % 10)) (hlfF (S 0 (29 + 4 * t + 3))))) ((S 0 1)) 0 ch (rfl) (by decide) hch hc8) gT_changed hd_changed rfl ⟨Nat.le_of_ble_eq_true rfl, Nat.le_of_ble_eq_true rfl⟩ ⟨Nat.le_refl _, Nat.le_refl _⟩ hW hA rfl (Nat.le_of_ble_eq_true rfl) dX10_regrow_10 (fun r_10 S_10 H locs hq hW => ?_)
    obtain ⟨rfl, rfl⟩ := hq
    have hW : MdB D aT ad (chgS S (addF (S 0) (nM (S 0)) (S 0 (29 + 4 * t)) (nI ((tnM (S 0) t + 1) % 10)) (hlfF (S 0 (29 + 4 * t + 3)))) ch) A s.heap H locs := by rw [if_pos rfl] at hW; exact hW
    exact md_iret C hr hlocks rfl hW (Or.inr (Or.inr ⟨q, t, h1, h2, h3, rfl, rfl⟩)) dX10_regrow_13
theorem dX10_vote_0 : decode cX10_vote 0 = .ok (.aload_n 0, 1) := by decide +kernel
theorem dX10_vote_1 : decode cX10_vote 1 = .ok (.invokevirtual 104, 3) := by decide +kernel
theorem dX10_vote_4 : decode cX10_vote 4 = .ok (.aload_n 0, 1) := by decide +kernel
theorem dX10_vote_5 : decode cX10_vote 5 = .ok (.aload_n 0, 1) := by decide +kernel
theorem dX10_vote_6 : decode cX10_vote 6 = .ok (.iload_n 1, 1) := by decide +kernel
theorem dX10_vote_7 : decode cX10_vote 7 = .ok (.invokevirtual 157, 3) := by decide +kernel
theorem dX10_vote_10 : decode cX10_vote 10 = .ok (.invokevirtual 111, 3) := by decide +kernel
theorem dX10_vote_13 : decode cX10_vote 13 = .ok (.i2c, 1) := by decide +kernel
theorem dX10_vote_14 : decode cX10_vote 14 = .ok (.ireturn, 1) := by decide +kernel
set_option maxHeartbeats 1000000 in
set_option maxRecDepth 20000 in
theorem m_vote (l : Launch) (D : va_G) (aT : Nat → ClassId) (ad : Nat → Nat) (S : MSt) (x : Int32) (s0 : Nat) (hF : FoW (S 0)) (hH : HeW (S 0)) (hs : S 0 3 = nI s0) (hs4 : s0 < 4) (ch : Nat) (hch : S 13 5 = nI ch) (hc8 : ch ≤ 8) : MdI l yX10_vote cX10_vote 2 .char 5 112 D aT ad [.ref (ad 0), .int x] S (fun r S1 => (fnd (fun k => S 0 (29 + 4 * k)) x (nM (S 0)) = none ∧ r = c16 (-1) ∧ S1 = faiS S 1) ∨ (∃ q, fnd (fun k => S 0 (29 + 4 * k)) x (nM (S 0)) = some q ∧ (hM (S 0) = 0 ∨ tipB (prM (S 0)) q (nM (S 0)) = false) ∧ r = c16 (-1) ∧ S1 = faiS S 2) ∨ (∃ q, fnd (fun k => S 0 (29 + 4 * k)) x (nM (S 0)) = some q ∧ 0 < hM (S 0) ∧ tipB (prM (S 0)) q (nM (S 0)) = true ∧ r = c16 (nI (votC (S 0) q)) ∧ S1 = chgS S (votF (S 0) q) ch)) := by
  refine MdI.of (by decide +kernel) rfl (Nat.le_of_ble_eq_true rfl) ?_
  intro p e s m below meth c A ls C hml hl hA hr hlocks hW
  have hl : lv_has ls 2 [(0, .ref (ad 0)), (1, .int x)] := hl
  have hx := C.1
  have hb := C.2.1
  refine lv_aload_n hx hb dX10_vote_0 rfl (lv_at hl 0 rfl) ?_
  refine md_callv C hml hl.1 (As := []) (rest := []) (m_starts l D aT ad S) gT_starts hd_starts rfl ⟨Nat.le_of_ble_eq_true rfl, Nat.le_of_ble_eq_true rfl⟩ ⟨Nat.le_refl _, Nat.le_refl _⟩ hW hA rfl (Nat.le_of_ble_eq_true rfl) dX10_vote_1 (fun S_1 H locs hq hW => ?_)
  subst hq
  have hW : MdB D aT ad (begS S) A s.heap H locs := hW
  refine lv_aload_n hx hb dX10_vote_4 rfl (lv_at hl 0 rfl) ?_
  refine lv_aload_n hx hb dX10_vote_5 rfl (lv_at hl 0 rfl) ?_
  refine lv_iload_n hx hb dX10_vote_6 rfl (lv_at hl 1 rfl) ?_
  refine md_calli C hml hl.1 (As := [.int x]) (rest := [.ref (ad 0)]) (m_voteIt l D aT ad (begS S) x s0 hF hH hs hs4) gT_voteIt hd_voteIt rfl ⟨Nat.le_of_ble_eq_true rfl, Nat.le_of_ble_eq_true rfl⟩ ⟨Nat.le_refl _, Nat.le_refl _⟩ hW hA rfl (Nat.le_of_ble_eq_true rfl) dX10_vote_7 (fun r_7 S_7 H locs hq hW => ?_)
  rcases hq with ⟨h1, rfl, rfl⟩ | ⟨q, h1, h2, rfl, rfl⟩ | ⟨q, h1, h2, h3, rfl, rfl⟩
  · refine md_calli C hml hl.1 (As := [.int (-1)]) (rest := []) (m_changed l D aT ad (ss (begS S) 8 (nI 1)) ((-1)) 1 ch (ss_s _ _ _) (by decide) hch hc8) gT_changed hd_changed rfl ⟨Nat.le_of_ble_eq_true rfl, Nat.le_of_ble_eq_true rfl⟩ ⟨Nat.le_refl _, Nat.le_refl _⟩ hW hA rfl (Nat.le_of_ble_eq_true rfl) dX10_vote_10 (fun r_10 S_10 H locs hq hW => ?_)
    obtain ⟨rfl, rfl⟩ := hq
    have hW : MdB D aT ad (faiS S 1) A s.heap H locs := by rw [if_neg (by decide)] at hW; exact hW
    refine lv_i2c (v := c16 (-1)) hx hb dX10_vote_13 (rfl) ?_
    exact md_iret C hr hlocks (pk_nc _) hW (Or.inl ⟨h1, rfl, rfl⟩) dX10_vote_14
  · refine md_calli C hml hl.1 (As := [.int (-1)]) (rest := []) (m_changed l D aT ad (ss (begS S) 8 (nI 2)) ((-1)) 2 ch (ss_s _ _ _) (by decide) hch hc8) gT_changed hd_changed rfl ⟨Nat.le_of_ble_eq_true rfl, Nat.le_of_ble_eq_true rfl⟩ ⟨Nat.le_refl _, Nat.le_refl _⟩ hW hA rfl (Nat.le_of_ble_eq_true rfl) dX10_vote_10 (fun r_10 S_10 H locs hq hW => ?_)
    obtain ⟨rfl, rfl⟩ := hq
    have hW : MdB D aT ad (faiS S 2) A s.heap H locs := by rw [if_neg (by decide)] at hW; exact hW
    refine lv_i2c (v := c16 (-1)) hx hb dX10_vote_13 (rfl) ?_
    exact md_iret C hr hlocks (pk_nc _) hW (Or.inr (Or.inl ⟨q, h1, h2, rfl, rfl⟩)) dX10_vote_14
  · refine md_calli C hml hl.1 (As := [.int (nI (votC (S 0) q))]) (rest := []) (m_changed l D aT ad (sr (begS S) 0 (votF (S 0) q)) ((nI (votC (S 0) q))) 0 ch (rfl) (by decide) hch hc8) gT_changed hd_changed rfl ⟨Nat.le_of_ble_eq_true rfl, Nat.le_of_ble_eq_true rfl⟩ ⟨Nat.le_refl _, Nat.le_refl _⟩ hW hA rfl (Nat.le_of_ble_eq_true rfl) dX10_vote_10 (fun r_10 S_10 H locs hq hW => ?_)
    obtain ⟨rfl, rfl⟩ := hq
    have hW : MdB D aT ad (chgS S (votF (S 0) q) ch) A s.heap H locs := by rw [if_pos rfl] at hW; exact hW
    refine lv_i2c (v := c16 (nI (votC (S 0) q))) hx hb dX10_vote_13 (rfl) ?_
    exact md_iret C hr hlocks (pk_nc _) hW (Or.inr (Or.inr ⟨q, h1, h2, h3, rfl, rfl⟩)) dX10_vote_14
theorem dX10_passSeason_0 : decode cX10_passSeason 0 = .ok (.aload_n 0, 1) := by decide +kernel
theorem dX10_passSeason_1 : decode cX10_passSeason 1 = .ok (.invokevirtual 104, 3) := by decide +kernel
theorem dX10_passSeason_4 : decode cX10_passSeason 4 = .ok (.aload_n 0, 1) := by decide +kernel
theorem dX10_passSeason_5 : decode cX10_passSeason 5 = .ok (.aload_n 0, 1) := by decide +kernel
theorem dX10_passSeason_6 : decode cX10_passSeason 6 = .ok (.invokevirtual 163, 3) := by decide +kernel
theorem dX10_passSeason_9 : decode cX10_passSeason 9 = .ok (.invokevirtual 111, 3) := by decide +kernel
theorem dX10_passSeason_12 : decode cX10_passSeason 12 = .ok (.ireturn, 1) := by decide +kernel
set_option maxHeartbeats 1000000 in
set_option maxRecDepth 20000 in
theorem m_passSeason (l : Launch) (D : va_G) (aT : Nat → ClassId) (ad : Nat → Nat) (S : MSt) (s0 : Nat) (hH : HeW (S 0)) (hs : S 0 3 = nI s0) (hs4 : s0 < 4) (ch : Nat) (hch : S 13 5 = nI ch) (hc8 : ch ≤ 8) : MdI l yX10_passSeason cX10_passSeason 1 .int 2 46 D aT ad [.ref (ad 0)] S (fun r S1 => r = nI ((s0 + 1) % 4) ∧ S1 = chgS S (seaF ((s0 + 1) % 4) (upd (S 0) 3 (nI ((s0 + 1) % 4))) (hM (S 0))) ch) := by
  refine MdI.of (by decide +kernel) rfl (Nat.le_of_ble_eq_true rfl) ?_
  intro p e s m below meth c A ls C hml hl hA hr hlocks hW
  have hl : lv_has ls 1 [(0, .ref (ad 0))] := hl
  have hx := C.1
  have hb := C.2.1
  refine lv_aload_n hx hb dX10_passSeason_0 rfl (lv_at hl 0 rfl) ?_
  refine md_callv C hml hl.1 (As := []) (rest := []) (m_starts l D aT ad S) gT_starts hd_starts rfl ⟨Nat.le_of_ble_eq_true rfl, Nat.le_of_ble_eq_true rfl⟩ ⟨Nat.le_refl _, Nat.le_refl _⟩ hW hA rfl (Nat.le_of_ble_eq_true rfl) dX10_passSeason_1 (fun S_1 H locs hq hW => ?_)
  subst hq
  have hW : MdB D aT ad (begS S) A s.heap H locs := hW
  refine lv_aload_n hx hb dX10_passSeason_4 rfl (lv_at hl 0 rfl) ?_
  refine lv_aload_n hx hb dX10_passSeason_5 rfl (lv_at hl 0 rfl) ?_
  refine md_calli C hml hl.1 (As := []) (rest := [.ref (ad 0)]) (m_seasonIt l D aT ad (begS S) s0 hH hs hs4) gT_seasonIt hd_seasonIt rfl ⟨Nat.le_of_ble_eq_true rfl, Nat.le_of_ble_eq_true rfl⟩ ⟨Nat.le_refl _, Nat.le_refl _⟩ hW hA rfl (Nat.le_of_ble_eq_true rfl) dX10_passSeason_6 (fun r_6 S_6 H locs hq hW => ?_)
  rcases hq with ⟨rfl, rfl⟩
  · refine md_calli C hml hl.1 (As := [.int (nI ((s0 + 1) % 4))]) (rest := []) (m_changed l D aT ad (sr (begS S) 0 (seaF ((s0 + 1) % 4) (upd (S 0) 3 (nI ((s0 + 1) % 4))) (hM (S 0)))) ((nI ((s0 + 1) % 4))) 0 ch (rfl) (by decide) hch hc8) gT_changed hd_changed rfl ⟨Nat.le_of_ble_eq_true rfl, Nat.le_of_ble_eq_true rfl⟩ ⟨Nat.le_refl _, Nat.le_refl _⟩ hW hA rfl (Nat.le_of_ble_eq_true rfl) dX10_passSeason_9 (fun r_9 S_9 H locs hq hW => ?_)
    obtain ⟨rfl, rfl⟩ := hq
    have hW : MdB D aT ad (chgS S (seaF ((s0 + 1) % 4) (upd (S 0) 3 (nI ((s0 + 1) % 4))) (hM (S 0))) ch) A s.heap H locs := by rw [if_pos rfl] at hW; exact hW
    exact md_iret C hr hlocks rfl hW (⟨rfl, rfl⟩) dX10_passSeason_12
end
section
/-- whether a number is a place before h -/
def isHB (h : Nat) (x : Int32) : Bool := decide (0 ≤ x.toInt ∧ x.toInt < h)
theorem isH_eq {h : Nat} (hh : h < 1024) (x : Int32) : rgB 0 (nI h - nI 1).toInt64 x = isHB h x := by
  unfold rgB isHB
  have e : (nI h - nI 1).toInt = (h : Int) - (1 : Nat) := pk_sub_toInt (by omega) (by omega)
  have e0 : (0 : Int64).toInt = 0 := by decide
  congr 1
  rw [Int64.le_iff_toInt_le, Int64.le_iff_toInt_le, Int32.toInt_toInt64, Int32.toInt_toInt64, e, e0]
  apply propext
  constructor <;> intro h <;> omega
theorem isHB_nat {h : Nat} {x : Int32} (e : isHB h x = true) (hh : h < 1024) : ∃ i, i < h ∧ x = nI i := by
  have h1 := of_decide_eq_true e
  refine ⟨x.toInt.toNat, by omega, ?_⟩
  apply Int32.toInt_inj.mp
  rw [nI_toInt (by omega)]
  omega
theorem dz_eq {a b : Nat} (ha : a < 1024) (hb : b < 1024) : nI a - nI b = 0 ↔ a = b := by
  have e := pk_sub_toInt (a := a) (b := b) (by omega) (by omega)
  have h0 : (0 : Int32).toInt = 0 := by decide
  rw [← Int32.toInt_inj, e, h0]; omega
theorem dz_lt {a b : Nat} (ha : a < 1024) (hb : b < 1024) : 0 < nI a - nI b ↔ b < a := by
  have e := pk_sub_toInt (a := a) (b := b) (by omega) (by omega)
  have h0 : (0 : Int32).toInt = 0 := by decide
  rw [Int32.lt_iff_toInt_lt, e, h0]; omega
section IFD
variable {p : Program} {l : Launch} {e : Env} {R : Room} {s : State} {m : MethodId} {args : Array Value} {below : List Frame} {meth : Method} {c : Code} {H : Heap} {locs : List Loc} {cells slots : Nat} {Q : State → Prop} {cc : ByteArray} {pc : Nat} {ls : Array Slot} {rest : List Value}
theorem r_ifneD (hx : p.tables.exec = Jvm.exec) (hb : c.code = cc) {a b : Nat} (ha : a < 1024) (hb' : b < 1024) {off : Int} {tgt : Nat} (hdg : decode cc pc = .ok (.ifCond .ne off, 3)) (ht : (pc : Int) + off = (tgt : Int)) (kt : a ≠ b → W p l e R s m args below meth c H locs cells slots Q (F0 m tgt ls rest)) (kf : a = b → W p l e R s m args below meth c H locs cells slots Q (F0 m (pc + 3) ls rest)) : W p l e R s m args below meth c H locs cells slots Q (F0 m pc ls (.int (nI a - nI b) :: rest)) :=
  lv_if_ne hx hb hdg ht (fun h => kt (fun z => h ((dz_eq ha hb').mpr z))) (fun h => kf ((dz_eq ha hb').mp h))
theorem r_ifgtD (hx : p.tables.exec = Jvm.exec) (hb : c.code = cc) {a b : Nat} (ha : a < 1024) (hb' : b < 1024) {off : Int} {tgt : Nat} (hdg : decode cc pc = .ok (.ifCond .gt off, 3)) (ht : (pc : Int) + off = (tgt : Int)) (kt : b < a → W p l e R s m args below meth c H locs cells slots Q (F0 m tgt ls rest)) (kf : a ≤ b → W p l e R s m args below meth c H locs cells slots Q (F0 m (pc + 3) ls rest)) : W p l e R s m args below meth c H locs cells slots Q (F0 m pc ls (.int (nI a - nI b) :: rest)) :=
  lv_if_gt hx hb hdg ht (fun h => kt ((dz_lt ha hb').mp h)) (fun h => kf (Nat.not_lt.mp (fun z => h ((dz_lt ha hb').mpr z))))
end IFD
/-- whether one hedge ranks ahead of another -/
def hAh (lv th : Nat → Nat) (a b : Nat) : Bool := decide (lv b < lv a ∨ (lv a = lv b ∧ (th b < th a ∨ (th a = th b ∧ a < b))))
/-- how many of the first o are ahead of k -/
def rkN (ah : Nat → Nat → Bool) (k : Nat) : Nat → Nat
  | 0 => 0
  | o + 1 => rkN ah k o + if ah o k then 1 else 0
theorem rkN_le {ah : Nat → Nat → Bool} {k : Nat} : ∀ {o : Nat}, rkN ah k o ≤ o := by
  intro o
  induction o with
  | zero => exact Nat.le_refl _
  | succ o ih => unfold rkN; split <;> omega
/-- how many of the first i places lie in the branch of r -/
def brs (pr : Nat → Option Nat) (r : Nat) : Nat → Nat
  | 0 => 0
  | i + 1 => brs pr r i + if anc pr r i then 1 else 0
/-- the sum of the first weights -/
def smw (m : Nat → Int32) : Nat → Int32
  | 0 => nI 0
  | i + 1 => smw m i + m (29 + 4 * i + 3)
theorem dX10_thrown_0 : decode cX10_thrown 0 = .ok (.aload_n 0, 1) := by decide +kernel
theorem dX10_thrown_1 : decode cX10_thrown 1 = .ok (.getfield 57, 3) := by decide +kernel
theorem dX10_thrown_4 : decode cX10_thrown 4 = .ok (.ireturn, 1) := by decide +kernel
set_option maxHeartbeats 1000000 in
set_option maxRecDepth 20000 in
theorem m_thrown (l : Launch) (D : va_G) (aT : Nat → ClassId) (ad : Nat → Nat) (S : MSt) : MdG l yX10_thrown cX10_thrown 1 .int 0 0 D aT ad [.ref (ad 0)] S (fun r => r = S 13 8) := by
  refine MdI.of (by decide +kernel) rfl (Nat.le_of_ble_eq_true rfl) ?_
  intro p e s m below meth c A ls C hml hl hA hr hlocks hW
  have hl : lv_has ls 1 [(0, .ref (ad 0))] := hl
  have hx := C.1
  have hb := C.2.1
  refine lv_aload_n hx hb dX10_thrown_0 rfl (lv_at hl 0 rfl) ?_
  refine md_get_thrown C hW dX10_thrown_1 ?_
  exact md_iret C hr hlocks rfl hW (⟨rfl, rfl⟩) dX10_thrown_4
theorem gT_isHedge : GoodIn gw (wsV RX10 166 RX10 yX10_isHedge (Cond.code yX10_isHedge cX10_isHedge 2 (some .boolean) :: gw)) := gdV gw_1842 gw_1844 gw_45 gw_81 gw_1845
theorem hd_isHedge : yX10_isHedge.cls = RX10 ∧ yX10_isHedge.cls ≠ "java/lang/invoke/MethodHandle" ∧ yX10_isHedge.cls ≠ "java/lang/invoke/VarHandle" ∧ (parseMethodDescriptor yX10_isHedge.desc).map (fun d => d.parameters.length) = some 1 := ⟨rfl, by decide +kernel, by decide +kernel, by decide +kernel⟩
theorem dX10_isHedge_0 : decode cX10_isHedge 0 = .ok (.iload_n 1, 1) := by decide +kernel
theorem dX10_isHedge_1 : decode cX10_isHedge 1 = .ok (.i2l, 1) := by decide +kernel
theorem dX10_isHedge_2 : decode cX10_isHedge 2 = .ok (.lconst 0, 1) := by decide +kernel
theorem dX10_isHedge_3 : decode cX10_isHedge 3 = .ok (.aload_n 0, 1) := by decide +kernel
theorem dX10_isHedge_4 : decode cX10_isHedge 4 = .ok (.getfield 9, 3) := by decide +kernel
theorem dX10_isHedge_7 : decode cX10_isHedge 7 = .ok (.iconst 0, 1) := by decide +kernel
theorem dX10_isHedge_8 : decode cX10_isHedge 8 = .ok (.iaload, 1) := by decide +kernel
theorem dX10_isHedge_9 : decode cX10_isHedge 9 = .ok (.iconst 1, 1) := by decide +kernel
theorem dX10_isHedge_10 : decode cX10_isHedge 10 = .ok (.isub, 1) := by decide +kernel
theorem dX10_isHedge_11 : decode cX10_isHedge 11 = .ok (.i2l, 1) := by decide +kernel
theorem dX10_isHedge_12 : decode cX10_isHedge 12 = .ok (.invokestatic 63, 3) := by decide +kernel
theorem dX10_isHedge_15 : decode cX10_isHedge 15 = .ok (.ireturn, 1) := by decide +kernel
set_option maxHeartbeats 1000000 in
set_option maxRecDepth 20000 in
theorem m_isHedge (l : Launch) (D : va_G) (aT : Nat → ClassId) (ad : Nat → Nat) (S : MSt) (x : Int32) (hH : HeW (S 0)) : MdG l yX10_isHedge cX10_isHedge 2 .boolean 1 25 D aT ad [.ref (ad 0), .int x] S (fun r => r = bI (isHB (hM (S 0)) x)) := by
  refine MdI.of (by decide +kernel) rfl (Nat.le_of_ble_eq_true rfl) ?_
  intro p e s m below meth c A ls C hml hl hA hr hlocks hW
  have hl : lv_has ls 2 [(0, .ref (ad 0)), (1, .int x)] := hl
  have hx := C.1
  have hb := C.2.1
  refine lv_iload_n hx hb dX10_isHedge_0 rfl (lv_at hl 1 rfl) ?_
  refine lv_i2l (v := (x).toInt64) hx hb dX10_isHedge_1 rfl ?_
  refine lv_lconst (v := 0) hx hb dX10_isHedge_2 (by decide) ?_
  refine lv_aload_n hx hb dX10_isHedge_3 rfl (lv_at hl 0 rfl) ?_
  refine md_geta_m C hW dX10_isHedge_4 ?_
  refine lv_iconst (v := nI 0) hx hb dX10_isHedge_7 (by decide) ?_
  refine md_ald_m C hW (i := 0) (by omega) dX10_isHedge_8 ?_
  refine r_eq (y := (nI (hM (S 0)))) (hH.1) ?_
  refine lv_iconst (v := nI 1) hx hb dX10_isHedge_9 (by decide) ?_
  refine lv_isub hx hb dX10_isHedge_10 ?_
  refine lv_i2l (v := ((nI (hM (S 0)) - nI 1)).toInt64) hx hb dX10_isHedge_11 rfl ?_
  refine md_calls C hml hl.1 (As := [.long ((x).toInt64), .long 0, .long (((nI (hM (S 0)) - nI 1)).toInt64)]) (rest := []) (m_in l ((x).toInt64) 0 (((nI (hM (S 0)) - nI 1)).toInt64)) gT_in hd_in rfl ⟨Nat.le_of_ble_eq_true rfl, Nat.le_of_ble_eq_true rfl⟩ ⟨Nat.le_refl _, Nat.le_refl _⟩ rfl (Nat.le_of_ble_eq_true rfl) dX10_isHedge_12 (fun r_12 hq => ?_)
  subst hq
  refine r_eq (y := (bI (isHB (hM (S 0)) x))) (congrArg bI (isH_eq (by have := hH.2.1; omega) x)) ?_
  exact md_iret C hr hlocks (bI_nar _) hW (⟨rfl, rfl⟩) dX10_isHedge_15
theorem dX10_hedgeCount_0 : decode cX10_hedgeCount 0 = .ok (.aload_n 0, 1) := by decide +kernel
theorem dX10_hedgeCount_1 : decode cX10_hedgeCount 1 = .ok (.iconst 0, 1) := by decide +kernel
theorem dX10_hedgeCount_2 : decode cX10_hedgeCount 2 = .ok (.putfield 57, 3) := by decide +kernel
theorem dX10_hedgeCount_5 : decode cX10_hedgeCount 5 = .ok (.aload_n 0, 1) := by decide +kernel
theorem dX10_hedgeCount_6 : decode cX10_hedgeCount 6 = .ok (.getfield 9, 3) := by decide +kernel
theorem dX10_hedgeCount_9 : decode cX10_hedgeCount 9 = .ok (.iconst 0, 1) := by decide +kernel
theorem dX10_hedgeCount_10 : decode cX10_hedgeCount 10 = .ok (.iaload, 1) := by decide +kernel
theorem dX10_hedgeCount_11 : decode cX10_hedgeCount 11 = .ok (.ireturn, 1) := by decide +kernel
set_option maxHeartbeats 1000000 in
set_option maxRecDepth 20000 in
theorem m_hedgeCount (l : Launch) (D : va_G) (aT : Nat → ClassId) (ad : Nat → Nat) (S : MSt) (hH : HeW (S 0)) : MdI l yX10_hedgeCount cX10_hedgeCount 1 .int 0 0 D aT ad [.ref (ad 0)] S (fun r S1 => r = nI (hM (S 0)) ∧ S1 = ss S 8 (nI 0)) := by
  refine MdI.of (by decide +kernel) rfl (Nat.le_of_ble_eq_true rfl) ?_
  intro p e s m below meth c A ls C hml hl hA hr hlocks hW
  have hl : lv_has ls 1 [(0, .ref (ad 0))] := hl
  have hx := C.1
  have hb := C.2.1
  refine lv_aload_n hx hb dX10_hedgeCount_0 rfl (lv_at hl 0 rfl) ?_
  refine lv_iconst (v := nI 0) hx hb dX10_hedgeCount_1 (by decide) ?_
  refine md_put_thrown C hW dX10_hedgeCount_2 (fun H locs hW => ?_)
  refine lv_aload_n hx hb dX10_hedgeCount_5 rfl (lv_at hl 0 rfl) ?_
  refine md_geta_m C hW dX10_hedgeCount_6 ?_
  refine lv_iconst (v := nI 0) hx hb dX10_hedgeCount_9 (by decide) ?_
  refine md_ald_m C hW (i := 0) (by omega) dX10_hedgeCount_10 ?_
  refine r_eq (y := (nI (hM (S 0)))) (hH.1) ?_
  exact md_iret C hr hlocks rfl hW (⟨rfl, rfl⟩) dX10_hedgeCount_11
theorem dX10_leaves_0 : decode cX10_leaves 0 = .ok (.aload_n 0, 1) := by decide +kernel
theorem dX10_leaves_1 : decode cX10_leaves 1 = .ok (.iconst 0, 1) := by decide +kernel
theorem dX10_leaves_2 : decode cX10_leaves 2 = .ok (.putfield 57, 3) := by decide +kernel
theorem dX10_leaves_5 : decode cX10_leaves 5 = .ok (.aload_n 0, 1) := by decide +kernel
theorem dX10_leaves_6 : decode cX10_leaves 6 = .ok (.iload_n 1, 1) := by decide +kernel
theorem dX10_leaves_7 : decode cX10_leaves 7 = .ok (.invokevirtual 166, 3) := by decide +kernel
theorem dX10_leaves_10 : decode cX10_leaves 10 = .ok (.ifCond .eq 15, 3) := by decide +kernel
theorem dX10_leaves_13 : decode cX10_leaves 13 = .ok (.aload_n 0, 1) := by decide +kernel
theorem dX10_leaves_14 : decode cX10_leaves 14 = .ok (.getfield 9, 3) := by decide +kernel
theorem dX10_leaves_17 : decode cX10_leaves 17 = .ok (.iload_n 1, 1) := by decide +kernel
theorem dX10_leaves_18 : decode cX10_leaves 18 = .ok (.invokestatic 86, 3) := by decide +kernel
theorem dX10_leaves_21 : decode cX10_leaves 21 = .ok (.iaload, 1) := by decide +kernel
theorem dX10_leaves_22 : decode cX10_leaves 22 = .ok (.goto 8, 3) := by decide +kernel
theorem dX10_leaves_25 : decode cX10_leaves 25 = .ok (.aload_n 0, 1) := by decide +kernel
theorem dX10_leaves_26 : decode cX10_leaves 26 = .ok (.iconst 1, 1) := by decide +kernel
theorem dX10_leaves_27 : decode cX10_leaves 27 = .ok (.invokevirtual 101, 3) := by decide +kernel
theorem dX10_leaves_30 : decode cX10_leaves 30 = .ok (.ireturn, 1) := by decide +kernel
set_option maxHeartbeats 1000000 in
set_option maxRecDepth 20000 in
theorem m_leaves (l : Launch) (D : va_G) (aT : Nat → ClassId) (ad : Nat → Nat) (S : MSt) (x : Int32) (hH : HeW (S 0)) : MdI l yX10_leaves cX10_leaves 2 .int 2 46 D aT ad [.ref (ad 0), .int x] S (fun r S1 => (isHB (hM (S 0)) x = false ∧ r = -1 ∧ S1 = ss S 8 (nI 1)) ∨ (∃ i, i < hM (S 0) ∧ x = nI i ∧ r = nI (lvM (S 0) i) ∧ S1 = ss S 8 (nI 0))) := by
  refine MdI.of (by decide +kernel) rfl (Nat.le_of_ble_eq_true rfl) ?_
  intro p e s m below meth c A ls C hml hl hA hr hlocks hW
  have hl : lv_has ls 2 [(0, .ref (ad 0)), (1, .int x)] := hl
  have hx := C.1
  have hb := C.2.1
  refine lv_aload_n hx hb dX10_leaves_0 rfl (lv_at hl 0 rfl) ?_
  refine lv_iconst (v := nI 0) hx hb dX10_leaves_1 (by decide) ?_
  refine md_put_thrown C hW dX10_leaves_2 (fun H locs hW => ?_)
  refine lv_aload_n hx hb dX10_leaves_5 rfl (lv_at hl 0 rfl) ?_
  refine lv_iload_n hx hb dX10_leaves_6 rfl (lv_at hl 1 rfl) ?_
  refine md_callg C hml hl.1 (As := [.int x]) (rest := []) (m_isHedge l D aT ad (ss S 8 (nI 0)) (x) hH) gT_isHedge hd_isHedge rfl ⟨Nat.le_of_ble_eq_true rfl, Nat.le_of_ble_eq_true rfl⟩ ⟨Nat.le_refl _, Nat.le_refl _⟩ hW hA rfl (Nat.le_of_ble_eq_true rfl) dX10_leaves_7 (fun r_7 H locs hq hW => ?_)
  subst hq
  refine r_bI_eq hx hb (b := (isHB (hM (S 0)) x)) (tgt := 25) dX10_leaves_10 (by decide) (fun c_10 => ?_) (fun c_10 => ?_)
  · refine lv_aload_n hx hb dX10_leaves_25 rfl (lv_at hl 0 rfl) ?_
    refine lv_iconst (v := nI 1) hx hb dX10_leaves_26 (by decide) ?_
    refine md_calli C hml hl.1 (As := [.int (nI 1)]) (rest := []) (m_throwing l D aT ad (ss S 8 (nI 0)) 1) gT_throwing hd_throwing rfl ⟨Nat.le_of_ble_eq_true rfl, Nat.le_of_ble_eq_true rfl⟩ ⟨Nat.le_refl _, Nat.le_refl _⟩ hW hA rfl (Nat.le_of_ble_eq_true rfl) dX10_leaves_27 (fun r_27 S_27 H locs hq hW => ?_)
    obtain ⟨rfl, rfl⟩ := hq
    exact md_iret C hr hlocks rfl hW (Or.inl ⟨c_10, rfl, ss_ss _ _ _ _⟩) dX10_leaves_30
  · obtain ⟨i, hi, rfl⟩ := isHB_nat c_10 (by have := hH.2.1; omega)
    have h6 := hH.2.1
    refine lv_aload_n hx hb dX10_leaves_13 rfl (lv_at hl 0 rfl) ?_
    refine md_geta_m C hW dX10_leaves_14 ?_
    refine lv_iload_n hx hb dX10_leaves_17 rfl (lv_at hl 1 rfl) ?_
    refine md_calls C hml hl.1 (As := [.int (nI i)]) (rest := [.ref (ad 1)]) (m_hedgeAt l i) gT_hedgeAt hd_hedgeAt rfl ⟨Nat.le_of_ble_eq_true rfl, Nat.le_of_ble_eq_true rfl⟩ ⟨Nat.le_refl _, Nat.le_refl _⟩ rfl (Nat.le_of_ble_eq_true rfl) dX10_leaves_18 (fun r_18 hq => ?_)
    subst hq
    refine md_ald_m C hW (i := (11 + 3 * i)) (by omega) dX10_leaves_21 ?_
    refine r_eq (y := (nI (lvM (S 0) i))) ((hH.2.2.1 i (by omega)).1) ?_
    refine lv_goto (tgt := 30) hx hb dX10_leaves_22 (by decide) ?_
    exact md_iret C hr hlocks rfl hW (Or.inr ⟨i, hi, rfl, rfl, rfl⟩) dX10_leaves_30
theorem dX10_thorns_0 : decode cX10_thorns 0 = .ok (.aload_n 0, 1) := by decide +kernel
theorem dX10_thorns_1 : decode cX10_thorns 1 = .ok (.iconst 0, 1) := by decide +kernel
theorem dX10_thorns_2 : decode cX10_thorns 2 = .ok (.putfield 57, 3) := by decide +kernel
theorem dX10_thorns_5 : decode cX10_thorns 5 = .ok (.aload_n 0, 1) := by decide +kernel
theorem dX10_thorns_6 : decode cX10_thorns 6 = .ok (.iload_n 1, 1) := by decide +kernel
theorem dX10_thorns_7 : decode cX10_thorns 7 = .ok (.invokevirtual 166, 3) := by decide +kernel
theorem dX10_thorns_10 : decode cX10_thorns 10 = .ok (.ifCond .eq 17, 3) := by decide +kernel
theorem dX10_thorns_13 : decode cX10_thorns 13 = .ok (.aload_n 0, 1) := by decide +kernel
theorem dX10_thorns_14 : decode cX10_thorns 14 = .ok (.getfield 9, 3) := by decide +kernel
theorem dX10_thorns_17 : decode cX10_thorns 17 = .ok (.iload_n 1, 1) := by decide +kernel
theorem dX10_thorns_18 : decode cX10_thorns 18 = .ok (.invokestatic 86, 3) := by decide +kernel
theorem dX10_thorns_21 : decode cX10_thorns 21 = .ok (.iconst 1, 1) := by decide +kernel
theorem dX10_thorns_22 : decode cX10_thorns 22 = .ok (.iadd, 1) := by decide +kernel
theorem dX10_thorns_23 : decode cX10_thorns 23 = .ok (.iaload, 1) := by decide +kernel
theorem dX10_thorns_24 : decode cX10_thorns 24 = .ok (.goto 8, 3) := by decide +kernel
theorem dX10_thorns_27 : decode cX10_thorns 27 = .ok (.aload_n 0, 1) := by decide +kernel
theorem dX10_thorns_28 : decode cX10_thorns 28 = .ok (.iconst 1, 1) := by decide +kernel
theorem dX10_thorns_29 : decode cX10_thorns 29 = .ok (.invokevirtual 101, 3) := by decide +kernel
theorem dX10_thorns_32 : decode cX10_thorns 32 = .ok (.ireturn, 1) := by decide +kernel
set_option maxHeartbeats 1000000 in
set_option maxRecDepth 20000 in
theorem m_thorns (l : Launch) (D : va_G) (aT : Nat → ClassId) (ad : Nat → Nat) (S : MSt) (x : Int32) (hH : HeW (S 0)) : MdI l yX10_thorns cX10_thorns 2 .int 2 46 D aT ad [.ref (ad 0), .int x] S (fun r S1 => (isHB (hM (S 0)) x = false ∧ r = -1 ∧ S1 = ss S 8 (nI 1)) ∨ (∃ i, i < hM (S 0) ∧ x = nI i ∧ r = nI (thM (S 0) i) ∧ S1 = ss S 8 (nI 0))) := by
  refine MdI.of (by decide +kernel) rfl (Nat.le_of_ble_eq_true rfl) ?_
  intro p e s m below meth c A ls C hml hl hA hr hlocks hW
  have hl : lv_has ls 2 [(0, .ref (ad 0)), (1, .int x)] := hl
  have hx := C.1
  have hb := C.2.1
  refine lv_aload_n hx hb dX10_thorns_0 rfl (lv_at hl 0 rfl) ?_
  refine lv_iconst (v := nI 0) hx hb dX10_thorns_1 (by decide) ?_
  refine md_put_thrown C hW dX10_thorns_2 (fun H locs hW => ?_)
  refine lv_aload_n hx hb dX10_thorns_5 rfl (lv_at hl 0 rfl) ?_
  refine lv_iload_n hx hb dX10_thorns_6 rfl (lv_at hl 1 rfl) ?_
  refine md_callg C hml hl.1 (As := [.int x]) (rest := []) (m_isHedge l D aT ad (ss S 8 (nI 0)) (x) hH) gT_isHedge hd_isHedge rfl ⟨Nat.le_of_ble_eq_true rfl, Nat.le_of_ble_eq_true rfl⟩ ⟨Nat.le_refl _, Nat.le_refl _⟩ hW hA rfl (Nat.le_of_ble_eq_true rfl) dX10_thorns_7 (fun r_7 H locs hq hW => ?_)
  subst hq
  refine r_bI_eq hx hb (b := (isHB (hM (S 0)) x)) (tgt := 27) dX10_thorns_10 (by decide) (fun c_10 => ?_) (fun c_10 => ?_)
  · refine lv_aload_n hx hb dX10_thorns_27 rfl (lv_at hl 0 rfl) ?_
    refine lv_iconst (v := nI 1) hx hb dX10_thorns_28 (by decide) ?_
    refine md_calli C hml hl.1 (As := [.int (nI 1)]) (rest := []) (m_throwing l D aT ad (ss S 8 (nI 0)) 1) gT_throwing hd_throwing rfl ⟨Nat.le_of_ble_eq_true rfl, Nat.le_of_ble_eq_true rfl⟩ ⟨Nat.le_refl _, Nat.le_refl _⟩ hW hA rfl (Nat.le_of_ble_eq_true rfl) dX10_thorns_29 (fun r_29 S_29 H locs hq hW => ?_)
    obtain ⟨rfl, rfl⟩ := hq
    exact md_iret C hr hlocks rfl hW (Or.inl ⟨c_10, rfl, ss_ss _ _ _ _⟩) dX10_thorns_32
  · obtain ⟨i, hi, rfl⟩ := isHB_nat c_10 (by have := hH.2.1; omega)
    have h6 := hH.2.1
    refine lv_aload_n hx hb dX10_thorns_13 rfl (lv_at hl 0 rfl) ?_
    refine md_geta_m C hW dX10_thorns_14 ?_
    refine lv_iload_n hx hb dX10_thorns_17 rfl (lv_at hl 1 rfl) ?_
    refine md_calls C hml hl.1 (As := [.int (nI i)]) (rest := [.ref (ad 1)]) (m_hedgeAt l i) gT_hedgeAt hd_hedgeAt rfl ⟨Nat.le_of_ble_eq_true rfl, Nat.le_of_ble_eq_true rfl⟩ ⟨Nat.le_refl _, Nat.le_refl _⟩ rfl (Nat.le_of_ble_eq_true rfl) dX10_thorns_18 (fun r_18 hq => ?_)
    subst hq
    refine lv_iconst (v := nI 1) hx hb dX10_thorns_21 (by decide) ?_
    refine r_iaddN hx hb (a := (11 + 3 * i)) (b := 1) dX10_thorns_22 ?_
    refine md_ald_m C hW (i := 11 + 3 * i + 1) (by omega) dX10_thorns_23 ?_
    refine r_eq (y := (nI (thM (S 0) i))) ((hH.2.2.2.1 i (by omega)).1) ?_
    refine lv_goto (tgt := 32) hx hb dX10_thorns_24 (by decide) ?_
    exact md_iret C hr hlocks rfl hW (Or.inr ⟨i, hi, rfl, rfl, rfl⟩) dX10_thorns_32
theorem gT_isHedgeAhead : GoodIn gw (wsV RX10 169 RX10 yX10_isHedgeAhead (Cond.code yX10_isHedgeAhead cX10_isHedgeAhead 4 (some .boolean) :: gw)) := gdV gw_1854 gw_1856 gw_46 gw_81 gw_1857
theorem hd_isHedgeAhead : yX10_isHedgeAhead.cls = RX10 ∧ yX10_isHedgeAhead.cls ≠ "java/lang/invoke/MethodHandle" ∧ yX10_isHedgeAhead.cls ≠ "java/lang/invoke/VarHandle" ∧ (parseMethodDescriptor yX10_isHedgeAhead.desc).map (fun d => d.parameters.length) = some 2 := ⟨rfl, by decide +kernel, by decide +kernel, by decide +kernel⟩
theorem dX10_isHedgeAhead_0 : decode cX10_isHedgeAhead 0 = .ok (.aload_n 0, 1) := by decide +kernel
theorem dX10_isHedgeAhead_1 : decode cX10_isHedgeAhead 1 = .ok (.getfield 9, 3) := by decide +kernel
theorem dX10_isHedgeAhead_4 : decode cX10_isHedgeAhead 4 = .ok (.iload_n 1, 1) := by decide +kernel
theorem dX10_isHedgeAhead_5 : decode cX10_isHedgeAhead 5 = .ok (.invokestatic 86, 3) := by decide +kernel
theorem dX10_isHedgeAhead_8 : decode cX10_isHedgeAhead 8 = .ok (.iaload, 1) := by decide +kernel
theorem dX10_isHedgeAhead_9 : decode cX10_isHedgeAhead 9 = .ok (.aload_n 0, 1) := by decide +kernel
theorem dX10_isHedgeAhead_10 : decode cX10_isHedgeAhead 10 = .ok (.getfield 9, 3) := by decide +kernel
theorem dX10_isHedgeAhead_13 : decode cX10_isHedgeAhead 13 = .ok (.iload_n 2, 1) := by decide +kernel
theorem dX10_isHedgeAhead_14 : decode cX10_isHedgeAhead 14 = .ok (.invokestatic 86, 3) := by decide +kernel
theorem dX10_isHedgeAhead_17 : decode cX10_isHedgeAhead 17 = .ok (.iaload, 1) := by decide +kernel
theorem dX10_isHedgeAhead_18 : decode cX10_isHedgeAhead 18 = .ok (.isub, 1) := by decide +kernel
theorem dX10_isHedgeAhead_19 : decode cX10_isHedgeAhead 19 = .ok (.istore_n 3, 1) := by decide +kernel
theorem dX10_isHedgeAhead_20 : decode cX10_isHedgeAhead 20 = .ok (.iload_n 3, 1) := by decide +kernel
theorem dX10_isHedgeAhead_21 : decode cX10_isHedgeAhead 21 = .ok (.ifCond .ne 29, 3) := by decide +kernel
theorem dX10_isHedgeAhead_24 : decode cX10_isHedgeAhead 24 = .ok (.aload_n 0, 1) := by decide +kernel
theorem dX10_isHedgeAhead_25 : decode cX10_isHedgeAhead 25 = .ok (.getfield 9, 3) := by decide +kernel
theorem dX10_isHedgeAhead_28 : decode cX10_isHedgeAhead 28 = .ok (.iload_n 1, 1) := by decide +kernel
theorem dX10_isHedgeAhead_29 : decode cX10_isHedgeAhead 29 = .ok (.invokestatic 86, 3) := by decide +kernel
theorem dX10_isHedgeAhead_32 : decode cX10_isHedgeAhead 32 = .ok (.iconst 1, 1) := by decide +kernel
theorem dX10_isHedgeAhead_33 : decode cX10_isHedgeAhead 33 = .ok (.iadd, 1) := by decide +kernel
theorem dX10_isHedgeAhead_34 : decode cX10_isHedgeAhead 34 = .ok (.iaload, 1) := by decide +kernel
theorem dX10_isHedgeAhead_35 : decode cX10_isHedgeAhead 35 = .ok (.aload_n 0, 1) := by decide +kernel
theorem dX10_isHedgeAhead_36 : decode cX10_isHedgeAhead 36 = .ok (.getfield 9, 3) := by decide +kernel
theorem dX10_isHedgeAhead_39 : decode cX10_isHedgeAhead 39 = .ok (.iload_n 2, 1) := by decide +kernel
theorem dX10_isHedgeAhead_40 : decode cX10_isHedgeAhead 40 = .ok (.invokestatic 86, 3) := by decide +kernel
theorem dX10_isHedgeAhead_43 : decode cX10_isHedgeAhead 43 = .ok (.iconst 1, 1) := by decide +kernel
theorem dX10_isHedgeAhead_44 : decode cX10_isHedgeAhead 44 = .ok (.iadd, 1) := by decide +kernel
theorem dX10_isHedgeAhead_45 : decode cX10_isHedgeAhead 45 = .ok (.iaload, 1) := by decide +kernel
theorem dX10_isHedgeAhead_46 : decode cX10_isHedgeAhead 46 = .ok (.isub, 1) := by decide +kernel
theorem dX10_isHedgeAhead_47 : decode cX10_isHedgeAhead 47 = .ok (.goto 4, 3) := by decide +kernel
theorem dX10_isHedgeAhead_50 : decode cX10_isHedgeAhead 50 = .ok (.iload_n 3, 1) := by decide +kernel
theorem dX10_isHedgeAhead_51 : decode cX10_isHedgeAhead 51 = .ok (.istore_n 3, 1) := by decide +kernel
theorem dX10_isHedgeAhead_52 : decode cX10_isHedgeAhead 52 = .ok (.iload_n 3, 1) := by decide +kernel
theorem dX10_isHedgeAhead_53 : decode cX10_isHedgeAhead 53 = .ok (.ifCond .gt 12, 3) := by decide +kernel
theorem dX10_isHedgeAhead_56 : decode cX10_isHedgeAhead 56 = .ok (.iload_n 3, 1) := by decide +kernel
theorem dX10_isHedgeAhead_57 : decode cX10_isHedgeAhead 57 = .ok (.ifCond .ne 12, 3) := by decide +kernel
theorem dX10_isHedgeAhead_60 : decode cX10_isHedgeAhead 60 = .ok (.iload_n 1, 1) := by decide +kernel
theorem dX10_isHedgeAhead_61 : decode cX10_isHedgeAhead 61 = .ok (.iload_n 2, 1) := by decide +kernel
theorem dX10_isHedgeAhead_62 : decode cX10_isHedgeAhead 62 = .ok (.if_icmp .ge 7, 3) := by decide +kernel
theorem dX10_isHedgeAhead_65 : decode cX10_isHedgeAhead 65 = .ok (.iconst 1, 1) := by decide +kernel
theorem dX10_isHedgeAhead_66 : decode cX10_isHedgeAhead 66 = .ok (.goto 4, 3) := by decide +kernel
theorem dX10_isHedgeAhead_69 : decode cX10_isHedgeAhead 69 = .ok (.iconst 0, 1) := by decide +kernel
theorem dX10_isHedgeAhead_70 : decode cX10_isHedgeAhead 70 = .ok (.ireturn, 1) := by decide +kernel
set_option maxHeartbeats 1000000 in
set_option maxRecDepth 20000 in
theorem m_isHedgeAhead (l : Launch) (D : va_G) (aT : Nat → ClassId) (ad : Nat → Nat) (S : MSt) (a b : Nat) (hH : HeW (S 0)) (ha : a < hM (S 0)) (hb2 : b < hM (S 0)) : MdG l yX10_isHedgeAhead cX10_isHedgeAhead 4 .boolean 1 20 D aT ad [.ref (ad 0), .int (nI a), .int (nI b)] S (fun r => r = bI (hAh (lvM (S 0)) (thM (S 0)) a b)) := by
  refine MdI.of (by decide +kernel) rfl (Nat.le_of_ble_eq_true rfl) ?_
  intro p e s m below meth c A ls C hml hl hA hr hlocks hW
  have hl : lv_has ls 4 [(0, .ref (ad 0)), (1, .int (nI a)), (2, .int (nI b))] := hl
  have hx := C.1
  have hb := C.2.1
  refine lv_aload_n hx hb dX10_isHedgeAhead_0 rfl (lv_at hl 0 rfl) ?_
  refine md_geta_m C hW dX10_isHedgeAhead_1 ?_
  refine lv_iload_n hx hb dX10_isHedgeAhead_4 rfl (lv_at hl 1 rfl) ?_
  refine md_calls C hml hl.1 (As := [.int (nI a)]) (rest := [.ref (ad 1)]) (m_hedgeAt l a) gT_hedgeAt hd_hedgeAt rfl ⟨Nat.le_of_ble_eq_true rfl, Nat.le_of_ble_eq_true rfl⟩ ⟨Nat.le_refl _, Nat.le_refl _⟩ rfl (Nat.le_of_ble_eq_true rfl) dX10_isHedgeAhead_5 (fun r_5 hq => ?_)
  subst hq
  refine md_ald_m C hW (i := (11 + 3 * a)) (by have := hH.2.1; omega) dX10_isHedgeAhead_8 ?_
  refine r_eq (y := (nI (lvM (S 0) a))) ((hH.2.2.1 a (by omega)).1) ?_
  refine lv_aload_n hx hb dX10_isHedgeAhead_9 rfl (lv_at hl 0 rfl) ?_
  refine md_geta_m C hW dX10_isHedgeAhead_10 ?_
  refine lv_iload_n hx hb dX10_isHedgeAhead_13 rfl (lv_at hl 2 rfl) ?_
  refine md_calls C hml hl.1 (As := [.int (nI b)]) (rest := [.ref (ad 1), .int (nI (lvM (S 0) a))]) (m_hedgeAt l b) gT_hedgeAt hd_hedgeAt rfl ⟨Nat.le_of_ble_eq_true rfl, Nat.le_of_ble_eq_true rfl⟩ ⟨Nat.le_refl _, Nat.le_refl _⟩ rfl (Nat.le_of_ble_eq_true rfl) dX10_isHedgeAhead_14 (fun r_14 hq => ?_)
  subst hq
  refine md_ald_m C hW (i := (11 + 3 * b)) (by have := hH.2.1; omega) dX10_isHedgeAhead_17 ?_
  refine r_eq (y := (nI (lvM (S 0) b))) ((hH.2.2.1 b (by omega)).1) ?_
  refine lv_isub hx hb dX10_isHedgeAhead_18 ?_
  refine lv_istore_n (lv' := [(3, .int (nI (lvM (S 0) a) - nI (lvM (S 0) b))), (0, .ref (ad 0)), (1, .int (nI a)), (2, .int (nI b))]) hx hb dX10_isHedgeAhead_19 rfl hl (by decide) rfl (fun ls hl => ?_)
  refine lv_iload_n hx hb dX10_isHedgeAhead_20 rfl (lv_at hl 0 rfl) ?_
  refine r_ifneD hx hb (a := (lvM (S 0) a)) (b := (lvM (S 0) b)) (by first | exact Nat.lt_of_le_of_lt (hH.2.2.1 a (by omega)).2.2 (by decide) | exact Nat.lt_of_le_of_lt (hH.2.2.1 b (by omega)).2.2 (by decide) | exact Nat.lt_of_le_of_lt (hH.2.2.2.1 a (by omega)).2 (by decide) | exact Nat.lt_of_le_of_lt (hH.2.2.2.1 b (by omega)).2 (by decide) | (have := hH.2.1; omega)) (by first | exact Nat.lt_of_le_of_lt (hH.2.2.1 a (by omega)).2.2 (by decide) | exact Nat.lt_of_le_of_lt (hH.2.2.1 b (by omega)).2.2 (by decide) | exact Nat.lt_of_le_of_lt (hH.2.2.2.1 a (by omega)).2 (by decide) | exact Nat.lt_of_le_of_lt (hH.2.2.2.1 b (by omega)).2 (by decide) | (have := hH.2.1; omega)) (tgt := 50) dX10_isHedgeAhead_21 (by decide) (fun c_21 => ?_) (fun c_21 => ?_)
  · refine lv_iload_n hx hb dX10_isHedgeAhead_50 rfl (lv_at hl 0 rfl) ?_
    refine lv_istore_n (lv' := [(3, .int (nI (lvM (S 0) a) - nI (lvM (S 0) b))), (0, .ref (ad 0)), (1, .int (nI a)), (2, .int (nI b))]) hx hb dX10_isHedgeAhead_51 rfl hl (by decide) rfl (fun ls hl => ?_)
    refine lv_iload_n hx hb dX10_isHedgeAhead_52 rfl (lv_at hl 0 rfl) ?_
    refine r_ifgtD hx hb (a := (lvM (S 0) a)) (b := (lvM (S 0) b)) (by first | exact Nat.lt_of_le_of_lt (hH.2.2.1 a (by omega)).2.2 (by decide) | exact Nat.lt_of_le_of_lt (hH.2.2.1 b (by omega)).2.2 (by decide) | exact Nat.lt_of_le_of_lt (hH.2.2.2.1 a (by omega)).2 (by decide) | exact Nat.lt_of_le_of_lt (hH.2.2.2.1 b (by omega)).2 (by decide) | (have := hH.2.1; omega)) (by first | exact Nat.lt_of_le_of_lt (hH.2.2.1 a (by omega)).2.2 (by decide) | exact Nat.lt_of_le_of_lt (hH.2.2.1 b (by omega)).2.2 (by decide) | exact Nat.lt_of_le_of_lt (hH.2.2.2.1 a (by omega)).2 (by decide) | exact Nat.lt_of_le_of_lt (hH.2.2.2.1 b (by omega)).2 (by decide) | (have := hH.2.1; omega)) (tgt := 65) dX10_isHedgeAhead_53 (by decide) (fun c_53 => ?_) (fun c_53 => ?_)
    · refine lv_iconst (v := nI 1) hx hb dX10_isHedgeAhead_65 (by decide) ?_
      refine lv_goto (tgt := 70) hx hb dX10_isHedgeAhead_66 (by decide) ?_
      exact md_iret C hr hlocks (by decide) hW (⟨by rw [show hAh _ _ a b = true from decide_eq_true (by omega)]; rfl, rfl⟩) dX10_isHedgeAhead_70
    · refine lv_iload_n hx hb dX10_isHedgeAhead_56 rfl (lv_at hl 0 rfl) ?_
      refine r_ifneD hx hb (a := (lvM (S 0) a)) (b := (lvM (S 0) b)) (by first | exact Nat.lt_of_le_of_lt (hH.2.2.1 a (by omega)).2.2 (by decide) | exact Nat.lt_of_le_of_lt (hH.2.2.1 b (by omega)).2.2 (by decide) | exact Nat.lt_of_le_of_lt (hH.2.2.2.1 a (by omega)).2 (by decide) | exact Nat.lt_of_le_of_lt (hH.2.2.2.1 b (by omega)).2 (by decide) | (have := hH.2.1; omega)) (by first | exact Nat.lt_of_le_of_lt (hH.2.2.1 a (by omega)).2.2 (by decide) | exact Nat.lt_of_le_of_lt (hH.2.2.1 b (by omega)).2.2 (by decide) | exact Nat.lt_of_le_of_lt (hH.2.2.2.1 a (by omega)).2 (by decide) | exact Nat.lt_of_le_of_lt (hH.2.2.2.1 b (by omega)).2 (by decide) | (have := hH.2.1; omega)) (tgt := 69) dX10_isHedgeAhead_57 (by decide) (fun c_57 => ?_) (fun c_57 => ?_)
      · refine lv_iconst (v := nI 0) hx hb dX10_isHedgeAhead_69 (by decide) ?_
        exact md_iret C hr hlocks (by decide) hW (⟨by rw [show hAh _ _ a b = false from decide_eq_false (by omega)]; rfl, rfl⟩) dX10_isHedgeAhead_70
      · refine lv_iload_n hx hb dX10_isHedgeAhead_60 rfl (lv_at hl 2 rfl) ?_
        refine lv_iload_n hx hb dX10_isHedgeAhead_61 rfl (lv_at hl 3 rfl) ?_
        refine r_geN hx hb (a := a) (b := b) (by first | exact Nat.lt_of_le_of_lt (hH.2.2.1 a (by omega)).2.2 (by decide) | exact Nat.lt_of_le_of_lt (hH.2.2.1 b (by omega)).2.2 (by decide) | exact Nat.lt_of_le_of_lt (hH.2.2.2.1 a (by omega)).2 (by decide) | exact Nat.lt_of_le_of_lt (hH.2.2.2.1 b (by omega)).2 (by decide) | (have := hH.2.1; omega)) (by first | exact Nat.lt_of_le_of_lt (hH.2.2.1 a (by omega)).2.2 (by decide) | exact Nat.lt_of_le_of_lt (hH.2.2.1 b (by omega)).2.2 (by decide) | exact Nat.lt_of_le_of_lt (hH.2.2.2.1 a (by omega)).2 (by decide) | exact Nat.lt_of_le_of_lt (hH.2.2.2.1 b (by omega)).2 (by decide) | (have := hH.2.1; omega)) (tgt := 69) dX10_isHedgeAhead_62 (by decide) (fun c_62 => ?_) (fun c_62 => ?_)
        · refine lv_iconst (v := nI 0) hx hb dX10_isHedgeAhead_69 (by decide) ?_
          exact md_iret C hr hlocks (by decide) hW (⟨by rw [show hAh _ _ a b = false from decide_eq_false (by omega)]; rfl, rfl⟩) dX10_isHedgeAhead_70
        · refine lv_iconst (v := nI 1) hx hb dX10_isHedgeAhead_65 (by decide) ?_
          refine lv_goto (tgt := 70) hx hb dX10_isHedgeAhead_66 (by decide) ?_
          exact md_iret C hr hlocks (by decide) hW (⟨by rw [show hAh _ _ a b = true from decide_eq_true (by omega)]; rfl, rfl⟩) dX10_isHedgeAhead_70
  · refine lv_aload_n hx hb dX10_isHedgeAhead_24 rfl (lv_at hl 1 rfl) ?_
    refine md_geta_m C hW dX10_isHedgeAhead_25 ?_
    refine lv_iload_n hx hb dX10_isHedgeAhead_28 rfl (lv_at hl 2 rfl) ?_
    refine md_calls C hml hl.1 (As := [.int (nI a)]) (rest := [.ref (ad 1)]) (m_hedgeAt l a) gT_hedgeAt hd_hedgeAt rfl ⟨Nat.le_of_ble_eq_true rfl, Nat.le_of_ble_eq_true rfl⟩ ⟨Nat.le_refl _, Nat.le_refl _⟩ rfl (Nat.le_of_ble_eq_true rfl) dX10_isHedgeAhead_29 (fun r_29 hq => ?_)
    subst hq
    refine lv_iconst (v := nI 1) hx hb dX10_isHedgeAhead_32 (by decide) ?_
    refine r_iaddN hx hb (a := (11 + 3 * a)) (b := 1) dX10_isHedgeAhead_33 ?_
    refine md_ald_m C hW (i := 11 + 3 * a + 1) (by have := hH.2.1; omega) dX10_isHedgeAhead_34 ?_
    refine r_eq (y := (nI (thM (S 0) a))) ((hH.2.2.2.1 a (by omega)).1) ?_
    refine lv_aload_n hx hb dX10_isHedgeAhead_35 rfl (lv_at hl 1 rfl) ?_
    refine md_geta_m C hW dX10_isHedgeAhead_36 ?_
    refine lv_iload_n hx hb dX10_isHedgeAhead_39 rfl (lv_at hl 3 rfl) ?_
    refine md_calls C hml hl.1 (As := [.int (nI b)]) (rest := [.ref (ad 1), .int (nI (thM (S 0) a))]) (m_hedgeAt l b) gT_hedgeAt hd_hedgeAt rfl ⟨Nat.le_of_ble_eq_true rfl, Nat.le_of_ble_eq_true rfl⟩ ⟨Nat.le_refl _, Nat.le_refl _⟩ rfl (Nat.le_of_ble_eq_true rfl) dX10_isHedgeAhead_40 (fun r_40 hq => ?_)
    subst hq
    refine lv_iconst (v := nI 1) hx hb dX10_isHedgeAhead_43 (by decide) ?_
    refine r_iaddN hx hb (a := (11 + 3 * b)) (b := 1) dX10_isHedgeAhead_44 ?_
    refine md_ald_m C hW (i := 11 + 3 * b + 1) (by have := hH.2.1; omega) dX10_isHedgeAhead_45 ?_
    refine r_eq (y := (nI (thM (S 0) b))) ((hH.2.2.2.1 b (by omega)).1) ?_
    refine lv_isub hx hb dX10_isHedgeAhead_46 ?_
    refine lv_goto (tgt := 51) hx hb dX10_isHedgeAhead_47 (by decide) ?_
    refine lv_istore_n (lv' := [(3, .int (nI (thM (S 0) a) - nI (thM (S 0) b))), (0, .ref (ad 0)), (1, .int (nI a)), (2, .int (nI b))]) hx hb dX10_isHedgeAhead_51 rfl hl (by decide) rfl (fun ls hl => ?_)
    refine lv_iload_n hx hb dX10_isHedgeAhead_52 rfl (lv_at hl 0 rfl) ?_
    refine r_ifgtD hx hb (a := (thM (S 0) a)) (b := (thM (S 0) b)) (by first | exact Nat.lt_of_le_of_lt (hH.2.2.1 a (by omega)).2.2 (by decide) | exact Nat.lt_of_le_of_lt (hH.2.2.1 b (by omega)).2.2 (by decide) | exact Nat.lt_of_le_of_lt (hH.2.2.2.1 a (by omega)).2 (by decide) | exact Nat.lt_of_le_of_lt (hH.2.2.2.1 b (by omega)).2 (by decide) | (have := hH.2.1; omega)) (by first | exact Nat.lt_of_le_of_lt (hH.2.2.1 a (by omega)).2.2 (by decide) | exact Nat.lt_of_le_of_lt (hH.2.2.1 b (by omega)).2.2 (by decide) | exact Nat.lt_of_le_of_lt (hH.2.2.2.1 a (by omega)).2 (by decide) | exact Nat.lt_of_le_of_lt (hH.2.2.2.1 b (by omega)).2 (by decide) | (have := hH.2.1; omega)) (tgt := 65) dX10_isHedgeAhead_53 (by decide) (fun c_53 => ?_) (fun c_53 => ?_)
    · refine lv_iconst (v := nI 1) hx hb dX10_isHedgeAhead_65 (by decide) ?_
      refine lv_goto (tgt := 70) hx hb dX10_isHedgeAhead_66 (by decide) ?_
      exact md_iret C hr hlocks (by decide) hW (⟨by rw [show hAh _ _ a b = true from decide_eq_true (by omega)]; rfl, rfl⟩) dX10_isHedgeAhead_70
    · refine lv_iload_n hx hb dX10_isHedgeAhead_56 rfl (lv_at hl 0 rfl) ?_
      refine r_ifneD hx hb (a := (thM (S 0) a)) (b := (thM (S 0) b)) (by first | exact Nat.lt_of_le_of_lt (hH.2.2.1 a (by omega)).2.2 (by decide) | exact Nat.lt_of_le_of_lt (hH.2.2.1 b (by omega)).2.2 (by decide) | exact Nat.lt_of_le_of_lt (hH.2.2.2.1 a (by omega)).2 (by decide) | exact Nat.lt_of_le_of_lt (hH.2.2.2.1 b (by omega)).2 (by decide) | (have := hH.2.1; omega)) (by first | exact Nat.lt_of_le_of_lt (hH.2.2.1 a (by omega)).2.2 (by decide) | exact Nat.lt_of_le_of_lt (hH.2.2.1 b (by omega)).2.2 (by decide) | exact Nat.lt_of_le_of_lt (hH.2.2.2.1 a (by omega)).2 (by decide) | exact Nat.lt_of_le_of_lt (hH.2.2.2.1 b (by omega)).2 (by decide) | (have := hH.2.1; omega)) (tgt := 69) dX10_isHedgeAhead_57 (by decide) (fun c_57 => ?_) (fun c_57 => ?_)
      · refine lv_iconst (v := nI 0) hx hb dX10_isHedgeAhead_69 (by decide) ?_
        exact md_iret C hr hlocks (by decide) hW (⟨by rw [show hAh _ _ a b = false from decide_eq_false (by omega)]; rfl, rfl⟩) dX10_isHedgeAhead_70
      · refine lv_iload_n hx hb dX10_isHedgeAhead_60 rfl (lv_at hl 2 rfl) ?_
        refine lv_iload_n hx hb dX10_isHedgeAhead_61 rfl (lv_at hl 3 rfl) ?_
        refine r_geN hx hb (a := a) (b := b) (by first | exact Nat.lt_of_le_of_lt (hH.2.2.1 a (by omega)).2.2 (by decide) | exact Nat.lt_of_le_of_lt (hH.2.2.1 b (by omega)).2.2 (by decide) | exact Nat.lt_of_le_of_lt (hH.2.2.2.1 a (by omega)).2 (by decide) | exact Nat.lt_of_le_of_lt (hH.2.2.2.1 b (by omega)).2 (by decide) | (have := hH.2.1; omega)) (by first | exact Nat.lt_of_le_of_lt (hH.2.2.1 a (by omega)).2.2 (by decide) | exact Nat.lt_of_le_of_lt (hH.2.2.1 b (by omega)).2.2 (by decide) | exact Nat.lt_of_le_of_lt (hH.2.2.2.1 a (by omega)).2 (by decide) | exact Nat.lt_of_le_of_lt (hH.2.2.2.1 b (by omega)).2 (by decide) | (have := hH.2.1; omega)) (tgt := 69) dX10_isHedgeAhead_62 (by decide) (fun c_62 => ?_) (fun c_62 => ?_)
        · refine lv_iconst (v := nI 0) hx hb dX10_isHedgeAhead_69 (by decide) ?_
          exact md_iret C hr hlocks (by decide) hW (⟨by rw [show hAh _ _ a b = false from decide_eq_false (by omega)]; rfl, rfl⟩) dX10_isHedgeAhead_70
        · refine lv_iconst (v := nI 1) hx hb dX10_isHedgeAhead_65 (by decide) ?_
          refine lv_goto (tgt := 70) hx hb dX10_isHedgeAhead_66 (by decide) ?_
          exact md_iret C hr hlocks (by decide) hW (⟨by rw [show hAh _ _ a b = true from decide_eq_true (by omega)]; rfl, rfl⟩) dX10_isHedgeAhead_70
theorem dX10_hedgeAtRank_0 : decode cX10_hedgeAtRank 0 = .ok (.aload_n 0, 1) := by decide +kernel
theorem dX10_hedgeAtRank_1 : decode cX10_hedgeAtRank 1 = .ok (.iconst 0, 1) := by decide +kernel
theorem dX10_hedgeAtRank_2 : decode cX10_hedgeAtRank 2 = .ok (.putfield 57, 3) := by decide +kernel
theorem dX10_hedgeAtRank_5 : decode cX10_hedgeAtRank 5 = .ok (.iconst 0, 1) := by decide +kernel
theorem dX10_hedgeAtRank_6 : decode cX10_hedgeAtRank 6 = .ok (.istore_n 2, 1) := by decide +kernel
theorem dX10_hedgeAtRank_7 : decode cX10_hedgeAtRank 7 = .ok (.iload_n 2, 1) := by decide +kernel
theorem dX10_hedgeAtRank_8 : decode cX10_hedgeAtRank 8 = .ok (.aload_n 0, 1) := by decide +kernel
theorem dX10_hedgeAtRank_9 : decode cX10_hedgeAtRank 9 = .ok (.getfield 9, 3) := by decide +kernel
theorem dX10_hedgeAtRank_12 : decode cX10_hedgeAtRank 12 = .ok (.iconst 0, 1) := by decide +kernel
theorem dX10_hedgeAtRank_13 : decode cX10_hedgeAtRank 13 = .ok (.iaload, 1) := by decide +kernel
theorem dX10_hedgeAtRank_14 : decode cX10_hedgeAtRank 14 = .ok (.if_icmp .ge 56, 3) := by decide +kernel
theorem dX10_hedgeAtRank_17 : decode cX10_hedgeAtRank 17 = .ok (.iconst 0, 1) := by decide +kernel
theorem dX10_hedgeAtRank_18 : decode cX10_hedgeAtRank 18 = .ok (.istore_n 3, 1) := by decide +kernel
theorem dX10_hedgeAtRank_19 : decode cX10_hedgeAtRank 19 = .ok (.iconst 0, 1) := by decide +kernel
theorem dX10_hedgeAtRank_20 : decode cX10_hedgeAtRank 20 = .ok (.istore 4, 2) := by decide +kernel
theorem dX10_hedgeAtRank_22 : decode cX10_hedgeAtRank 22 = .ok (.iload 4, 2) := by decide +kernel
theorem dX10_hedgeAtRank_24 : decode cX10_hedgeAtRank 24 = .ok (.aload_n 0, 1) := by decide +kernel
theorem dX10_hedgeAtRank_25 : decode cX10_hedgeAtRank 25 = .ok (.getfield 9, 3) := by decide +kernel
theorem dX10_hedgeAtRank_28 : decode cX10_hedgeAtRank 28 = .ok (.iconst 0, 1) := by decide +kernel
theorem dX10_hedgeAtRank_29 : decode cX10_hedgeAtRank 29 = .ok (.iaload, 1) := by decide +kernel
theorem dX10_hedgeAtRank_30 : decode cX10_hedgeAtRank 30 = .ok (.if_icmp .ge 27, 3) := by decide +kernel
theorem dX10_hedgeAtRank_33 : decode cX10_hedgeAtRank 33 = .ok (.iload_n 3, 1) := by decide +kernel
theorem dX10_hedgeAtRank_34 : decode cX10_hedgeAtRank 34 = .ok (.aload_n 0, 1) := by decide +kernel
theorem dX10_hedgeAtRank_35 : decode cX10_hedgeAtRank 35 = .ok (.iload 4, 2) := by decide +kernel
theorem dX10_hedgeAtRank_37 : decode cX10_hedgeAtRank 37 = .ok (.iload_n 2, 1) := by decide +kernel
theorem dX10_hedgeAtRank_38 : decode cX10_hedgeAtRank 38 = .ok (.invokevirtual 169, 3) := by decide +kernel
theorem dX10_hedgeAtRank_41 : decode cX10_hedgeAtRank 41 = .ok (.ifCond .eq 7, 3) := by decide +kernel
theorem dX10_hedgeAtRank_44 : decode cX10_hedgeAtRank 44 = .ok (.iconst 1, 1) := by decide +kernel
theorem dX10_hedgeAtRank_45 : decode cX10_hedgeAtRank 45 = .ok (.goto 4, 3) := by decide +kernel
theorem dX10_hedgeAtRank_48 : decode cX10_hedgeAtRank 48 = .ok (.iconst 0, 1) := by decide +kernel
theorem dX10_hedgeAtRank_49 : decode cX10_hedgeAtRank 49 = .ok (.iadd, 1) := by decide +kernel
theorem dX10_hedgeAtRank_50 : decode cX10_hedgeAtRank 50 = .ok (.istore_n 3, 1) := by decide +kernel
theorem dX10_hedgeAtRank_51 : decode cX10_hedgeAtRank 51 = .ok (.iinc 4 1, 3) := by decide +kernel
theorem dX10_hedgeAtRank_54 : decode cX10_hedgeAtRank 54 = .ok (.goto (-32), 3) := by decide +kernel
theorem dX10_hedgeAtRank_57 : decode cX10_hedgeAtRank 57 = .ok (.iload_n 3, 1) := by decide +kernel
theorem dX10_hedgeAtRank_58 : decode cX10_hedgeAtRank 58 = .ok (.iload_n 1, 1) := by decide +kernel
theorem dX10_hedgeAtRank_59 : decode cX10_hedgeAtRank 59 = .ok (.if_icmp .ne 5, 3) := by decide +kernel
theorem dX10_hedgeAtRank_62 : decode cX10_hedgeAtRank 62 = .ok (.iload_n 2, 1) := by decide +kernel
theorem dX10_hedgeAtRank_63 : decode cX10_hedgeAtRank 63 = .ok (.ireturn, 1) := by decide +kernel
theorem dX10_hedgeAtRank_64 : decode cX10_hedgeAtRank 64 = .ok (.iinc 2 1, 3) := by decide +kernel
theorem dX10_hedgeAtRank_67 : decode cX10_hedgeAtRank 67 = .ok (.goto (-60), 3) := by decide +kernel
theorem dX10_hedgeAtRank_70 : decode cX10_hedgeAtRank 70 = .ok (.aload_n 0, 1) := by decide +kernel
theorem dX10_hedgeAtRank_71 : decode cX10_hedgeAtRank 71 = .ok (.iconst 1, 1) := by decide +kernel
theorem dX10_hedgeAtRank_72 : decode cX10_hedgeAtRank 72 = .ok (.invokevirtual 101, 3) := by decide +kernel
theorem dX10_hedgeAtRank_75 : decode cX10_hedgeAtRank 75 = .ok (.ireturn, 1) := by decide +kernel
set_option maxHeartbeats 2000000 in
set_option maxRecDepth 20000 in
theorem m_hedgeAtRank (l : Launch) (D : va_G) (aT : Nat → ClassId) (ad : Nat → Nat) (S : MSt) (x : Int32) (hH : HeW (S 0)) : MdI l yX10_hedgeAtRank cX10_hedgeAtRank 5 .int 2 43 D aT ad [.ref (ad 0), .int x] S (fun r S1 => (fnd (fun k => nI (rkN (hAh (lvM (S 0)) (thM (S 0))) k (hM (S 0)))) x (hM (S 0)) = none ∧ r = -1 ∧ S1 = ss S 8 (nI 1)) ∨ (∃ k, fnd (fun k => nI (rkN (hAh (lvM (S 0)) (thM (S 0))) k (hM (S 0)))) x (hM (S 0)) = some k ∧ r = nI k ∧ S1 = ss S 8 (nI 0))) := by
  refine MdI.of (by decide +kernel) rfl (Nat.le_of_ble_eq_true rfl) ?_
  intro p e s m below meth c A ls C hml hl hA hr hlocks hW
  have hl : lv_has ls 5 [(0, .ref (ad 0)), (1, .int x)] := hl
  have hx := C.1
  have hb := C.2.1
  refine lv_aload_n hx hb dX10_hedgeAtRank_0 rfl (lv_at hl 0 rfl) ?_
  refine lv_iconst (v := nI 0) hx hb dX10_hedgeAtRank_1 (by decide) ?_
  refine md_put_thrown C hW dX10_hedgeAtRank_2 (fun H locs hW => ?_)
  refine lv_iconst (v := nI 0) hx hb dX10_hedgeAtRank_5 (by decide) ?_
  refine lv_istore_n (lv' := [(2, .int (nI 0)), (0, .ref (ad 0)), (1, .int x)]) hx hb dX10_hedgeAtRank_6 rfl hl (by decide) rfl (fun ls hl => ?_)
  refine W_loopH (σ := Nat) (fun z_ => hM (S 0) - z_) (fun z_ H locs g => ∃ ls, g = F0 m 7 ls [] ∧ lv_has ls 5 [(0, .ref (ad 0)), (1, .int x), (2, .int (nI z_))] ∧ MdB D aT ad (ss S 8 (nI 0)) A s.heap H locs ∧ (fnd (fun k => nI (rkN (hAh (lvM (S 0)) (thM (S 0))) k (hM (S 0)))) x z_ = none ∧ z_ ≤ hM (S 0))) ?_ 0 _ ⟨_, rfl, lv_sub hl [1, 2, 0] rfl, hW, ⟨rfl, Nat.zero_le _⟩⟩
  clear hW hl
  rintro k H locs g ⟨ls, rfl, hl, hW, hk, hkh⟩ ih_7
  have h6 := hH.2.1
  refine lv_iload_n hx hb dX10_hedgeAtRank_7 rfl (lv_at hl 2 rfl) ?_
  refine lv_aload_n hx hb dX10_hedgeAtRank_8 rfl (lv_at hl 0 rfl) ?_
  refine md_geta_m C hW dX10_hedgeAtRank_9 ?_
  refine lv_iconst (v := nI 0) hx hb dX10_hedgeAtRank_12 (by decide) ?_
  refine md_ald_m C hW (i := 0) (by omega) dX10_hedgeAtRank_13 ?_
  refine r_eq (y := (nI (hM (S 0)))) (hH.1) ?_
  refine r_geN hx hb (a := k) (b := (hM (S 0))) (by omega) (by omega) (tgt := 70) dX10_hedgeAtRank_14 (by decide) (fun c_14 => ?_) (fun c_14 => ?_)
  · refine lv_aload_n hx hb dX10_hedgeAtRank_70 rfl (lv_at hl 0 rfl) ?_
    refine lv_iconst (v := nI 1) hx hb dX10_hedgeAtRank_71 (by decide) ?_
    refine md_calli C hml hl.1 (As := [.int (nI 1)]) (rest := []) (m_throwing l D aT ad (ss S 8 (nI 0)) 1) gT_throwing hd_throwing rfl ⟨Nat.le_of_ble_eq_true rfl, Nat.le_of_ble_eq_true rfl⟩ ⟨Nat.le_refl _, Nat.le_refl _⟩ hW hA rfl (Nat.le_of_ble_eq_true rfl) dX10_hedgeAtRank_72 (fun r_72 S_72 H locs hq hW => ?_)
    obtain ⟨rfl, rfl⟩ := hq
    exact md_iret C hr hlocks rfl hW (Or.inl ⟨(show k = hM (S 0) by omega) ▸ hk, rfl, ss_ss _ _ _ _⟩) dX10_hedgeAtRank_75
  · refine lv_iconst (v := nI 0) hx hb dX10_hedgeAtRank_17 (by decide) ?_
    refine lv_istore_n (lv' := [(3, .int (nI 0)), (0, .ref (ad 0)), (1, .int x), (2, .int (nI k))]) hx hb dX10_hedgeAtRank_18 rfl hl (by decide) rfl (fun ls hl => ?_)
    refine lv_iconst (v := nI 0) hx hb dX10_hedgeAtRank_19 (by decide) ?_
    refine lv_istore (lv' := [(4, .int (nI 0)), (3, .int (nI 0)), (0, .ref (ad 0)), (1, .int x), (2, .int (nI k))]) hx hb dX10_hedgeAtRank_20 hl (by decide) rfl (fun ls hl => ?_)
    refine W_loopH (σ := Nat × Nat) (fun z_ => hM (S 0) - z_.2) (fun z_ H locs g => ∃ ls, g = F0 m 22 ls [] ∧ lv_has ls 5 [(0, .ref (ad 0)), (1, .int x), (2, .int (nI k)), (3, .int (nI z_.1)), (4, .int (nI z_.2))] ∧ MdB D aT ad (ss S 8 (nI 0)) A s.heap H locs ∧ (z_.1 = (rkN (hAh (lvM (S 0)) (thM (S 0))) k z_.2) ∧ z_.2 ≤ hM (S 0))) ?_ (0, 0) _ ⟨_, rfl, lv_sub hl [2, 3, 4, 1, 0] rfl, hW, ⟨rfl, Nat.zero_le _⟩⟩
    clear hW hl
    rintro ⟨bf, o⟩ H locs g ⟨ls, rfl, hl, hW, hb2, hoh⟩ ih_22
    dsimp only at hl hW hb2 hoh ⊢
    refine lv_iload hx hb dX10_hedgeAtRank_22 (lv_at hl 4 rfl) ?_
    refine lv_aload_n hx hb dX10_hedgeAtRank_24 rfl (lv_at hl 0 rfl) ?_
    refine md_geta_m C hW dX10_hedgeAtRank_25 ?_
    refine lv_iconst (v := nI 0) hx hb dX10_hedgeAtRank_28 (by decide) ?_
    refine md_ald_m C hW (i := 0) (by omega) dX10_hedgeAtRank_29 ?_
    refine r_eq (y := (nI (hM (S 0)))) (hH.1) ?_
    refine r_geN hx hb (a := o) (b := (hM (S 0))) (by omega) (by omega) (tgt := 57) dX10_hedgeAtRank_30 (by decide) (fun c_30 => ?_) (fun c_30 => ?_)
    · refine lv_iload_n hx hb dX10_hedgeAtRank_57 rfl (lv_at hl 3 rfl) ?_
      refine lv_iload_n hx hb dX10_hedgeAtRank_58 rfl (lv_at hl 1 rfl) ?_
      refine lv_icmp_ne hx hb (x := (nI bf)) (y := x) (tgt := 64) dX10_hedgeAtRank_59 (by decide) (fun c_59 => ?_) (fun c_59 => ?_)
      · refine lv_iinc (v := (nI (k + 1))) (lv' := [(2, .int (nI (k + 1))), (0, .ref (ad 0)), (1, .int x), (3, .int (nI bf)), (4, .int (nI o))]) hx hb dX10_hedgeAtRank_64 hl (k := 2) rfl (nI_1 _) (by decide) rfl (fun ls hl => ?_)
        refine lv_goto (tgt := 7) hx hb dX10_hedgeAtRank_67 (by decide) ?_
        exact ih_7 (k + 1) _ _ _ (by omega) ⟨_, rfl, lv_sub hl [1, 2, 0] rfl, hW, ⟨fnd_step hk (fun z => c_59 (by rw [hb2, show o = hM (S 0) by omega]; exact z)), by omega⟩⟩
      · refine lv_iload_n hx hb dX10_hedgeAtRank_62 rfl (lv_at hl 2 rfl) ?_
        exact md_iret C hr hlocks rfl hW (Or.inr ⟨k, fnd_hit hk (by rw [hb2, show o = hM (S 0) by omega] at c_59; exact c_59) (by omega), rfl, rfl⟩) dX10_hedgeAtRank_63
    · refine lv_iload_n hx hb dX10_hedgeAtRank_33 rfl (lv_at hl 3 rfl) ?_
      refine lv_aload_n hx hb dX10_hedgeAtRank_34 rfl (lv_at hl 0 rfl) ?_
      refine lv_iload hx hb dX10_hedgeAtRank_35 (lv_at hl 4 rfl) ?_
      refine lv_iload_n hx hb dX10_hedgeAtRank_37 rfl (lv_at hl 2 rfl) ?_
      refine md_callg C hml hl.1 (As := [.int (nI o), .int (nI k)]) (rest := [.int (nI bf)]) (m_isHedgeAhead l D aT ad (ss S 8 (nI 0)) o k hH (show o < hM (S 0) by omega) (show k < hM (S 0) by omega)) gT_isHedgeAhead hd_isHedgeAhead rfl ⟨Nat.le_of_ble_eq_true rfl, Nat.le_of_ble_eq_true rfl⟩ ⟨Nat.le_refl _, Nat.le_refl _⟩ hW hA rfl (Nat.le_of_ble_eq_true rfl) dX10_hedgeAtRank_38 (fun r_38 H locs hq hW => ?_)
      subst hq
      refine r_bI_eq hx hb (b := (hAh (lvM (S 0)) (thM (S 0)) o k)) (tgt := 48) dX10_hedgeAtRank_41 (by decide) (fun c_41 => ?_) (fun c_41 => ?_)
      · refine lv_iconst (v := nI 0) hx hb dX10_hedgeAtRank_48 (by decide) ?_
        refine r_iaddN hx hb (a := bf) (b := 0) dX10_hedgeAtRank_49 ?_
        refine lv_istore_n (lv' := [(3, .int (nI (bf + 0))), (0, .ref (ad 0)), (1, .int x), (2, .int (nI k)), (4, .int (nI o))]) hx hb dX10_hedgeAtRank_50 rfl hl (by decide) rfl (fun ls hl => ?_)
        refine lv_iinc (v := (nI (o + 1))) (lv' := [(4, .int (nI (o + 1))), (3, .int (nI (bf + 0))), (0, .ref (ad 0)), (1, .int x), (2, .int (nI k))]) hx hb dX10_hedgeAtRank_51 hl (k := 4) rfl (nI_1 _) (by decide) rfl (fun ls hl => ?_)
        refine lv_goto (tgt := 22) hx hb dX10_hedgeAtRank_54 (by decide) ?_
        exact ih_22 (bf + 0, (o + 1)) _ _ _ (by dsimp only; omega) ⟨_, rfl, lv_sub hl [2, 3, 4, 1, 0] rfl, hW, ⟨by rw [rkN, c_41, ← hb2]; rfl, by (try dsimp only); omega⟩⟩
      · refine lv_iconst (v := nI 1) hx hb dX10_hedgeAtRank_44 (by decide) ?_
        refine lv_goto (tgt := 49) hx hb dX10_hedgeAtRank_45 (by decide) ?_
        refine r_iaddN hx hb (a := bf) (b := 1) dX10_hedgeAtRank_49 ?_
        refine lv_istore_n (lv' := [(3, .int (nI (bf + 1))), (0, .ref (ad 0)), (1, .int x), (2, .int (nI k)), (4, .int (nI o))]) hx hb dX10_hedgeAtRank_50 rfl hl (by decide) rfl (fun ls hl => ?_)
        refine lv_iinc (v := (nI (o + 1))) (lv' := [(4, .int (nI (o + 1))), (3, .int (nI (bf + 1))), (0, .ref (ad 0)), (1, .int x), (2, .int (nI k))]) hx hb dX10_hedgeAtRank_51 hl (k := 4) rfl (nI_1 _) (by decide) rfl (fun ls hl => ?_)
        refine lv_goto (tgt := 22) hx hb dX10_hedgeAtRank_54 (by decide) ?_
        exact ih_22 (bf + 1, (o + 1)) _ _ _ (by dsimp only; omega) ⟨_, rfl, lv_sub hl [2, 3, 4, 1, 0] rfl, hW, ⟨by rw [rkN, c_41, ← hb2]; rfl, by (try dsimp only); omega⟩⟩
theorem dX10_leavesInFavour_0 : decode cX10_leavesInFavour 0 = .ok (.aload_n 0, 1) := by decide +kernel
theorem dX10_leavesInFavour_1 : decode cX10_leavesInFavour 1 = .ok (.iconst 0, 1) := by decide +kernel
theorem dX10_leavesInFavour_2 : decode cX10_leavesInFavour 2 = .ok (.putfield 57, 3) := by decide +kernel
theorem dX10_leavesInFavour_5 : decode cX10_leavesInFavour 5 = .ok (.aload_n 0, 1) := by decide +kernel
theorem dX10_leavesInFavour_6 : decode cX10_leavesInFavour 6 = .ok (.iload_n 1, 1) := by decide +kernel
theorem dX10_leavesInFavour_7 : decode cX10_leavesInFavour 7 = .ok (.invokevirtual 71, 3) := by decide +kernel
theorem dX10_leavesInFavour_10 : decode cX10_leavesInFavour 10 = .ok (.istore_n 2, 1) := by decide +kernel
theorem dX10_leavesInFavour_11 : decode cX10_leavesInFavour 11 = .ok (.iload_n 2, 1) := by decide +kernel
theorem dX10_leavesInFavour_12 : decode cX10_leavesInFavour 12 = .ok (.iconst (-1), 1) := by decide +kernel
theorem dX10_leavesInFavour_13 : decode cX10_leavesInFavour 13 = .ok (.if_icmp .ne 11, 3) := by decide +kernel
theorem dX10_leavesInFavour_16 : decode cX10_leavesInFavour 16 = .ok (.aload_n 0, 1) := by decide +kernel
theorem dX10_leavesInFavour_17 : decode cX10_leavesInFavour 17 = .ok (.iconst 1, 1) := by decide +kernel
theorem dX10_leavesInFavour_18 : decode cX10_leavesInFavour 18 = .ok (.invokevirtual 101, 3) := by decide +kernel
theorem dX10_leavesInFavour_21 : decode cX10_leavesInFavour 21 = .ok (.goto 8, 3) := by decide +kernel
theorem dX10_leavesInFavour_24 : decode cX10_leavesInFavour 24 = .ok (.aload_n 0, 1) := by decide +kernel
theorem dX10_leavesInFavour_25 : decode cX10_leavesInFavour 25 = .ok (.iload_n 2, 1) := by decide +kernel
theorem dX10_leavesInFavour_26 : decode cX10_leavesInFavour 26 = .ok (.invokevirtual 147, 3) := by decide +kernel
theorem dX10_leavesInFavour_29 : decode cX10_leavesInFavour 29 = .ok (.ireturn, 1) := by decide +kernel
set_option maxHeartbeats 1000000 in
set_option maxRecDepth 20000 in
theorem m_leavesInFavour (l : Launch) (D : va_G) (aT : Nat → ClassId) (ad : Nat → Nat) (S : MSt) (x : Int32) (hF : FoW (S 0)) (hH : HeW (S 0)) : MdI l yX10_leavesInFavour cX10_leavesInFavour 3 .int 3 69 D aT ad [.ref (ad 0), .int x] S (fun r S1 => (fnd (fun k => S 0 (29 + 4 * k)) x (nM (S 0)) = none ∧ r = -1 ∧ S1 = ss S 8 (nI 1)) ∨ (∃ q, fnd (fun k => S 0 (29 + 4 * k)) x (nM (S 0)) = some q ∧ r = nI (fav (lvM (S 0)) (taM (S 0)) (tnM (S 0) q) (hM (S 0))) ∧ S1 = ss S 8 (nI 0))) := by
  refine MdI.of (by decide +kernel) rfl (Nat.le_of_ble_eq_true rfl) ?_
  intro p e s m below meth c A ls C hml hl hA hr hlocks hW
  have hl : lv_has ls 3 [(0, .ref (ad 0)), (1, .int x)] := hl
  have hx := C.1
  have hb := C.2.1
  refine lv_aload_n hx hb dX10_leavesInFavour_0 rfl (lv_at hl 0 rfl) ?_
  refine lv_iconst (v := nI 0) hx hb dX10_leavesInFavour_1 (by decide) ?_
  refine md_put_thrown C hW dX10_leavesInFavour_2 (fun H locs hW => ?_)
  refine lv_aload_n hx hb dX10_leavesInFavour_5 rfl (lv_at hl 0 rfl) ?_
  refine lv_iload_n hx hb dX10_leavesInFavour_6 rfl (lv_at hl 1 rfl) ?_
  refine md_callg C hml hl.1 (As := [.int x]) (rest := []) (m_find l D aT ad (ss S 8 (nI 0)) (x) (nM (S 0)) hF.1 hF.2.1) gT_find hd_find rfl ⟨Nat.le_of_ble_eq_true rfl, Nat.le_of_ble_eq_true rfl⟩ ⟨Nat.le_refl _, Nat.le_refl _⟩ hW hA rfl (Nat.le_of_ble_eq_true rfl) dX10_leavesInFavour_7 (fun r_7 H locs hq hW => ?_)
  subst hq
  refine lv_istore_n (lv' := [(2, .int (oi (fnd (fun k => (ss S 8 (nI 0)) 0 (29 + 4 * k)) (x) (nM (S 0))))), (0, .ref (ad 0)), (1, .int x)]) hx hb dX10_leavesInFavour_10 rfl hl (by decide) rfl (fun ls hl => ?_)
  refine lv_iload_n hx hb dX10_leavesInFavour_11 rfl (lv_at hl 0 rfl) ?_
  refine lv_iconst (v := (-1)) hx hb dX10_leavesInFavour_12 (by decide) ?_
  refine r_oi_ne hx hb (o := (fnd (fun k => (ss S 8 (nI 0)) 0 (29 + 4 * k)) (x) (nM (S 0)))) (fun j hj => by have := (fnd_some hj).1; have := hF.n12; omega) (tgt := 24) dX10_leavesInFavour_13 (by decide) (fun j_13 c_13 => ?_) (fun c_13 => ?_)
  · have hl : lv_has ls 3 [(2, .int (nI j_13)), (0, .ref (ad 0)), (1, .int x)] := by rw [c_13] at hl; exact hl
    have hq0 := (fnd_some c_13).1
    have h12 := hF.n12
    refine lv_aload_n hx hb dX10_leavesInFavour_24 rfl (lv_at hl 1 rfl) ?_
    refine lv_iload_n hx hb dX10_leavesInFavour_25 rfl (lv_at hl 0 rfl) ?_
    refine md_callg C hml hl.1 (As := [.int (nI j_13)]) (rest := []) (m_favour l D aT ad (ss S 8 (nI 0)) (hM (S 0)) (lvM (S 0)) (thM (S 0)) (taM (S 0)) hH (nM (S 0)) (idM (S 0)) (prM (S 0)) (tnM (S 0)) hF j_13 (hq0)) gT_favour hd_favour rfl ⟨Nat.le_of_ble_eq_true rfl, Nat.le_of_ble_eq_true rfl⟩ ⟨Nat.le_refl _, Nat.le_refl _⟩ hW hA rfl (Nat.le_of_ble_eq_true rfl) dX10_leavesInFavour_26 (fun r_26 H locs hq hW => ?_)
    subst hq
    exact md_iret C hr hlocks rfl hW (Or.inr ⟨j_13, c_13, rfl, rfl⟩) dX10_leavesInFavour_29
  · have hl : lv_has ls 3 [(2, .int (-1)), (0, .ref (ad 0)), (1, .int x)] := by rw [c_13] at hl; exact hl
    refine lv_aload_n hx hb dX10_leavesInFavour_16 rfl (lv_at hl 1 rfl) ?_
    refine lv_iconst (v := nI 1) hx hb dX10_leavesInFavour_17 (by decide) ?_
    refine md_calli C hml hl.1 (As := [.int (nI 1)]) (rest := []) (m_throwing l D aT ad (ss S 8 (nI 0)) 1) gT_throwing hd_throwing rfl ⟨Nat.le_of_ble_eq_true rfl, Nat.le_of_ble_eq_true rfl⟩ ⟨Nat.le_refl _, Nat.le_refl _⟩ hW hA rfl (Nat.le_of_ble_eq_true rfl) dX10_leavesInFavour_18 (fun r_18 S_18 H locs hq hW => ?_)
    obtain ⟨rfl, rfl⟩ := hq
    refine lv_goto (tgt := 29) hx hb dX10_leavesInFavour_21 (by decide) ?_
    exact md_iret C hr hlocks rfl hW (Or.inl ⟨c_13, rfl, ss_ss _ _ _ _⟩) dX10_leavesInFavour_29
theorem dX10_motionCount_0 : decode cX10_motionCount 0 = .ok (.aload_n 0, 1) := by decide +kernel
theorem dX10_motionCount_1 : decode cX10_motionCount 1 = .ok (.iconst 0, 1) := by decide +kernel
theorem dX10_motionCount_2 : decode cX10_motionCount 2 = .ok (.putfield 57, 3) := by decide +kernel
theorem dX10_motionCount_5 : decode cX10_motionCount 5 = .ok (.aload_n 0, 1) := by decide +kernel
theorem dX10_motionCount_6 : decode cX10_motionCount 6 = .ok (.getfield 9, 3) := by decide +kernel
theorem dX10_motionCount_9 : decode cX10_motionCount 9 = .ok (.iconst 2, 1) := by decide +kernel
theorem dX10_motionCount_10 : decode cX10_motionCount 10 = .ok (.iaload, 1) := by decide +kernel
theorem dX10_motionCount_11 : decode cX10_motionCount 11 = .ok (.ireturn, 1) := by decide +kernel
set_option maxHeartbeats 1000000 in
set_option maxRecDepth 20000 in
theorem m_motionCount (l : Launch) (D : va_G) (aT : Nat → ClassId) (ad : Nat → Nat) (S : MSt) (hF : FoW (S 0)) : MdI l yX10_motionCount cX10_motionCount 1 .int 0 0 D aT ad [.ref (ad 0)] S (fun r S1 => r = nI (nM (S 0)) ∧ S1 = ss S 8 (nI 0)) := by
  refine MdI.of (by decide +kernel) rfl (Nat.le_of_ble_eq_true rfl) ?_
  intro p e s m below meth c A ls C hml hl hA hr hlocks hW
  have hl : lv_has ls 1 [(0, .ref (ad 0))] := hl
  have hx := C.1
  have hb := C.2.1
  refine lv_aload_n hx hb dX10_motionCount_0 rfl (lv_at hl 0 rfl) ?_
  refine lv_iconst (v := nI 0) hx hb dX10_motionCount_1 (by decide) ?_
  refine md_put_thrown C hW dX10_motionCount_2 (fun H locs hW => ?_)
  refine lv_aload_n hx hb dX10_motionCount_5 rfl (lv_at hl 0 rfl) ?_
  refine md_geta_m C hW dX10_motionCount_6 ?_
  refine lv_iconst (v := nI 2) hx hb dX10_motionCount_9 (by decide) ?_
  refine md_ald_m C hW (i := 2) (by omega) dX10_motionCount_10 ?_
  refine r_eq (y := (nI (nM (S 0)))) (hF.1) ?_
  exact md_iret C hr hlocks rfl hW (⟨rfl, rfl⟩) dX10_motionCount_11
theorem dX10_motionAt_0 : decode cX10_motionAt 0 = .ok (.aload_n 0, 1) := by decide +kernel
theorem dX10_motionAt_1 : decode cX10_motionAt 1 = .ok (.iconst 0, 1) := by decide +kernel
theorem dX10_motionAt_2 : decode cX10_motionAt 2 = .ok (.putfield 57, 3) := by decide +kernel
theorem dX10_motionAt_5 : decode cX10_motionAt 5 = .ok (.iload_n 1, 1) := by decide +kernel
theorem dX10_motionAt_6 : decode cX10_motionAt 6 = .ok (.i2l, 1) := by decide +kernel
theorem dX10_motionAt_7 : decode cX10_motionAt 7 = .ok (.lconst 0, 1) := by decide +kernel
theorem dX10_motionAt_8 : decode cX10_motionAt 8 = .ok (.aload_n 0, 1) := by decide +kernel
theorem dX10_motionAt_9 : decode cX10_motionAt 9 = .ok (.getfield 9, 3) := by decide +kernel
theorem dX10_motionAt_12 : decode cX10_motionAt 12 = .ok (.iconst 2, 1) := by decide +kernel
theorem dX10_motionAt_13 : decode cX10_motionAt 13 = .ok (.iaload, 1) := by decide +kernel
theorem dX10_motionAt_14 : decode cX10_motionAt 14 = .ok (.iconst 1, 1) := by decide +kernel
theorem dX10_motionAt_15 : decode cX10_motionAt 15 = .ok (.isub, 1) := by decide +kernel
theorem dX10_motionAt_16 : decode cX10_motionAt 16 = .ok (.i2l, 1) := by decide +kernel
theorem dX10_motionAt_17 : decode cX10_motionAt 17 = .ok (.invokestatic 63, 3) := by decide +kernel
theorem dX10_motionAt_20 : decode cX10_motionAt 20 = .ok (.ifCond .eq 12, 3) := by decide +kernel
theorem dX10_motionAt_23 : decode cX10_motionAt 23 = .ok (.aload_n 0, 1) := by decide +kernel
theorem dX10_motionAt_24 : decode cX10_motionAt 24 = .ok (.iload_n 1, 1) := by decide +kernel
theorem dX10_motionAt_25 : decode cX10_motionAt 25 = .ok (.iconst 0, 1) := by decide +kernel
theorem dX10_motionAt_26 : decode cX10_motionAt 26 = .ok (.invokevirtual 67, 3) := by decide +kernel
theorem dX10_motionAt_29 : decode cX10_motionAt 29 = .ok (.goto 8, 3) := by decide +kernel
theorem dX10_motionAt_32 : decode cX10_motionAt 32 = .ok (.aload_n 0, 1) := by decide +kernel
theorem dX10_motionAt_33 : decode cX10_motionAt 33 = .ok (.iconst 1, 1) := by decide +kernel
theorem dX10_motionAt_34 : decode cX10_motionAt 34 = .ok (.invokevirtual 101, 3) := by decide +kernel
theorem dX10_motionAt_37 : decode cX10_motionAt 37 = .ok (.ireturn, 1) := by decide +kernel
set_option maxHeartbeats 1000000 in
set_option maxRecDepth 20000 in
theorem m_motionAt (l : Launch) (D : va_G) (aT : Nat → ClassId) (ad : Nat → Nat) (S : MSt) (x : Int32) (hF : FoW (S 0)) : MdI l yX10_motionAt cX10_motionAt 2 .int 1 25 D aT ad [.ref (ad 0), .int x] S (fun r S1 => (isHB (nM (S 0)) x = false ∧ r = -1 ∧ S1 = ss S 8 (nI 1)) ∨ (∃ i, i < nM (S 0) ∧ x = nI i ∧ r = S 0 (29 + 4 * i) ∧ S1 = ss S 8 (nI 0))) := by
  refine MdI.of (by decide +kernel) rfl (Nat.le_of_ble_eq_true rfl) ?_
  intro p e s m below meth c A ls C hml hl hA hr hlocks hW
  have hl : lv_has ls 2 [(0, .ref (ad 0)), (1, .int x)] := hl
  have hx := C.1
  have hb := C.2.1
  refine lv_aload_n hx hb dX10_motionAt_0 rfl (lv_at hl 0 rfl) ?_
  refine lv_iconst (v := nI 0) hx hb dX10_motionAt_1 (by decide) ?_
  refine md_put_thrown C hW dX10_motionAt_2 (fun H locs hW => ?_)
  refine lv_iload_n hx hb dX10_motionAt_5 rfl (lv_at hl 1 rfl) ?_
  refine lv_i2l (v := (x).toInt64) hx hb dX10_motionAt_6 rfl ?_
  refine lv_lconst (v := 0) hx hb dX10_motionAt_7 (by decide) ?_
  refine lv_aload_n hx hb dX10_motionAt_8 rfl (lv_at hl 0 rfl) ?_
  refine md_geta_m C hW dX10_motionAt_9 ?_
  refine lv_iconst (v := nI 2) hx hb dX10_motionAt_12 (by decide) ?_
  refine md_ald_m C hW (i := 2) (by omega) dX10_motionAt_13 ?_
  refine r_eq (y := (nI (nM (S 0)))) (hF.1) ?_
  refine lv_iconst (v := nI 1) hx hb dX10_motionAt_14 (by decide) ?_
  refine lv_isub hx hb dX10_motionAt_15 ?_
  refine lv_i2l (v := ((nI (nM (S 0)) - nI 1)).toInt64) hx hb dX10_motionAt_16 rfl ?_
  refine md_calls C hml hl.1 (As := [.long ((x).toInt64), .long 0, .long (((nI (nM (S 0)) - nI 1)).toInt64)]) (rest := []) (m_in l ((x).toInt64) 0 (((nI (nM (S 0)) - nI 1)).toInt64)) gT_in hd_in rfl ⟨Nat.le_of_ble_eq_true rfl, Nat.le_of_ble_eq_true rfl⟩ ⟨Nat.le_refl _, Nat.le_refl _⟩ rfl (Nat.le_of_ble_eq_true rfl) dX10_motionAt_17 (fun r_17 hq => ?_)
  subst hq
  refine r_eq (y := (bI (isHB (nM (S 0)) x))) (congrArg bI (isH_eq (by have := hF.n12; omega) x)) ?_
  refine r_bI_eq hx hb (b := (isHB (nM (S 0)) x)) (tgt := 32) dX10_motionAt_20 (by decide) (fun c_20 => ?_) (fun c_20 => ?_)
  · refine lv_aload_n hx hb dX10_motionAt_32 rfl (lv_at hl 0 rfl) ?_
    refine lv_iconst (v := nI 1) hx hb dX10_motionAt_33 (by decide) ?_
    refine md_calli C hml hl.1 (As := [.int (nI 1)]) (rest := []) (m_throwing l D aT ad (ss S 8 (nI 0)) 1) gT_throwing hd_throwing rfl ⟨Nat.le_of_ble_eq_true rfl, Nat.le_of_ble_eq_true rfl⟩ ⟨Nat.le_refl _, Nat.le_refl _⟩ hW hA rfl (Nat.le_of_ble_eq_true rfl) dX10_motionAt_34 (fun r_34 S_34 H locs hq hW => ?_)
    obtain ⟨rfl, rfl⟩ := hq
    exact md_iret C hr hlocks rfl hW (Or.inl ⟨c_20, rfl, ss_ss _ _ _ _⟩) dX10_motionAt_37
  · obtain ⟨i, hi, rfl⟩ := isHB_nat c_20 (by have := hF.n12; omega)
    have h12 := hF.n12
    refine lv_aload_n hx hb dX10_motionAt_23 rfl (lv_at hl 0 rfl) ?_
    refine lv_iload_n hx hb dX10_motionAt_24 rfl (lv_at hl 1 rfl) ?_
    refine lv_iconst (v := nI 0) hx hb dX10_motionAt_25 (by decide) ?_
    refine md_callg C hml hl.1 (As := [.int (nI i), .int (nI 0)]) (rest := []) (m_of l D aT ad (ss S 8 (nI 0)) i 0 (by omega)) gT_of hd_of rfl ⟨Nat.le_of_ble_eq_true rfl, Nat.le_of_ble_eq_true rfl⟩ ⟨Nat.le_refl _, Nat.le_refl _⟩ hW hA rfl (Nat.le_of_ble_eq_true rfl) dX10_motionAt_26 (fun r_26 H locs hq hW => ?_)
    subst hq
    refine r_eq (y := (S 0 (29 + 4 * i + 0))) (rfl) ?_
    refine lv_goto (tgt := 37) hx hb dX10_motionAt_29 (by decide) ?_
    exact md_iret C hr hlocks rfl hW (Or.inr ⟨i, hi, rfl, rfl, rfl⟩) dX10_motionAt_37
theorem gT_ofMotion : GoodIn gw (wsV RX10 172 RX10 yX10_ofMotion (Cond.code yX10_ofMotion cX10_ofMotion 3 (some .int) :: gw)) := gdV gw_1878 gw_1880 gw_47 gw_81 gw_1881
theorem hd_ofMotion : yX10_ofMotion.cls = RX10 ∧ yX10_ofMotion.cls ≠ "java/lang/invoke/MethodHandle" ∧ yX10_ofMotion.cls ≠ "java/lang/invoke/VarHandle" ∧ (parseMethodDescriptor yX10_ofMotion.desc).map (fun d => d.parameters.length) = some 2 := ⟨rfl, by decide +kernel, by decide +kernel, by decide +kernel⟩
theorem dX10_ofMotion_0 : decode cX10_ofMotion 0 = .ok (.aload_n 0, 1) := by decide +kernel
theorem dX10_ofMotion_1 : decode cX10_ofMotion 1 = .ok (.iconst 0, 1) := by decide +kernel
theorem dX10_ofMotion_2 : decode cX10_ofMotion 2 = .ok (.putfield 57, 3) := by decide +kernel
theorem dX10_ofMotion_5 : decode cX10_ofMotion 5 = .ok (.aload_n 0, 1) := by decide +kernel
theorem dX10_ofMotion_6 : decode cX10_ofMotion 6 = .ok (.iload_n 1, 1) := by decide +kernel
theorem dX10_ofMotion_7 : decode cX10_ofMotion 7 = .ok (.invokevirtual 71, 3) := by decide +kernel
theorem dX10_ofMotion_10 : decode cX10_ofMotion 10 = .ok (.iconst (-1), 1) := by decide +kernel
theorem dX10_ofMotion_11 : decode cX10_ofMotion 11 = .ok (.if_icmp .ne 11, 3) := by decide +kernel
theorem dX10_ofMotion_14 : decode cX10_ofMotion 14 = .ok (.aload_n 0, 1) := by decide +kernel
theorem dX10_ofMotion_15 : decode cX10_ofMotion 15 = .ok (.iconst 1, 1) := by decide +kernel
theorem dX10_ofMotion_16 : decode cX10_ofMotion 16 = .ok (.invokevirtual 101, 3) := by decide +kernel
theorem dX10_ofMotion_19 : decode cX10_ofMotion 19 = .ok (.goto 13, 3) := by decide +kernel
theorem dX10_ofMotion_22 : decode cX10_ofMotion 22 = .ok (.aload_n 0, 1) := by decide +kernel
theorem dX10_ofMotion_23 : decode cX10_ofMotion 23 = .ok (.aload_n 0, 1) := by decide +kernel
theorem dX10_ofMotion_24 : decode cX10_ofMotion 24 = .ok (.iload_n 1, 1) := by decide +kernel
theorem dX10_ofMotion_25 : decode cX10_ofMotion 25 = .ok (.invokevirtual 71, 3) := by decide +kernel
theorem dX10_ofMotion_28 : decode cX10_ofMotion 28 = .ok (.iload_n 2, 1) := by decide +kernel
theorem dX10_ofMotion_29 : decode cX10_ofMotion 29 = .ok (.invokevirtual 67, 3) := by decide +kernel
theorem dX10_ofMotion_32 : decode cX10_ofMotion 32 = .ok (.ireturn, 1) := by decide +kernel
set_option maxHeartbeats 1000000 in
set_option maxRecDepth 20000 in
theorem m_ofMotion (l : Launch) (D : va_G) (aT : Nat → ClassId) (ad : Nat → Nat) (S : MSt) (x : Int32) (w : Nat) (hw4 : w < 4) (hF : FoW (S 0)) : MdI l yX10_ofMotion cX10_ofMotion 3 .int 2 44 D aT ad [.ref (ad 0), .int x, .int (nI w)] S (fun r S1 => (fnd (fun k => S 0 (29 + 4 * k)) x (nM (S 0)) = none ∧ r = -1 ∧ S1 = ss S 8 (nI 1)) ∨ (∃ q, fnd (fun k => S 0 (29 + 4 * k)) x (nM (S 0)) = some q ∧ r = S 0 (29 + 4 * q + w) ∧ S1 = ss S 8 (nI 0))) := by
  refine MdI.of (by decide +kernel) rfl (Nat.le_of_ble_eq_true rfl) ?_
  intro p e s m below meth c A ls C hml hl hA hr hlocks hW
  have hl : lv_has ls 3 [(0, .ref (ad 0)), (1, .int x), (2, .int (nI w))] := hl
  have hx := C.1
  have hb := C.2.1
  refine lv_aload_n hx hb dX10_ofMotion_0 rfl (lv_at hl 0 rfl) ?_
  refine lv_iconst (v := nI 0) hx hb dX10_ofMotion_1 (by decide) ?_
  refine md_put_thrown C hW dX10_ofMotion_2 (fun H locs hW => ?_)
  refine lv_aload_n hx hb dX10_ofMotion_5 rfl (lv_at hl 0 rfl) ?_
  refine lv_iload_n hx hb dX10_ofMotion_6 rfl (lv_at hl 1 rfl) ?_
  refine md_callg C hml hl.1 (As := [.int x]) (rest := []) (m_find l D aT ad (ss S 8 (nI 0)) (x) (nM (S 0)) hF.1 hF.2.1) gT_find hd_find rfl ⟨Nat.le_of_ble_eq_true rfl, Nat.le_of_ble_eq_true rfl⟩ ⟨Nat.le_refl _, Nat.le_refl _⟩ hW hA rfl (Nat.le_of_ble_eq_true rfl) dX10_ofMotion_7 (fun r_7 H locs hq hW => ?_)
  subst hq
  refine lv_iconst (v := (-1)) hx hb dX10_ofMotion_10 (by decide) ?_
  refine r_oi_ne hx hb (o := (fnd (fun k => (ss S 8 (nI 0)) 0 (29 + 4 * k)) (x) (nM (S 0)))) (fun j hj => by have := (fnd_some hj).1; have := hF.n12; omega) (tgt := 22) dX10_ofMotion_11 (by decide) (fun j_11 c_11 => ?_) (fun c_11 => ?_)
  · have hq0 := (fnd_some c_11).1
    have h12 := hF.n12
    refine lv_aload_n hx hb dX10_ofMotion_22 rfl (lv_at hl 0 rfl) ?_
    refine lv_aload_n hx hb dX10_ofMotion_23 rfl (lv_at hl 0 rfl) ?_
    refine lv_iload_n hx hb dX10_ofMotion_24 rfl (lv_at hl 1 rfl) ?_
    refine md_callg C hml hl.1 (As := [.int x]) (rest := [.ref (ad 0)]) (m_find l D aT ad (ss S 8 (nI 0)) (x) (nM (S 0)) hF.1 hF.2.1) gT_find hd_find rfl ⟨Nat.le_of_ble_eq_true rfl, Nat.le_of_ble_eq_true rfl⟩ ⟨Nat.le_refl _, Nat.le_refl _⟩ hW hA rfl (Nat.le_of_ble_eq_true rfl) dX10_ofMotion_25 (fun r_25 H locs hq hW => ?_)
    subst hq
    refine r_eq (y := (nI j_11)) (by rw [c_11]; rfl) ?_
    refine lv_iload_n hx hb dX10_ofMotion_28 rfl (lv_at hl 2 rfl) ?_
    refine md_callg C hml hl.1 (As := [.int (nI j_11), .int (nI w)]) (rest := []) (m_of l D aT ad (ss S 8 (nI 0)) j_11 w (by omega)) gT_of hd_of rfl ⟨Nat.le_of_ble_eq_true rfl, Nat.le_of_ble_eq_true rfl⟩ ⟨Nat.le_refl _, Nat.le_refl _⟩ hW hA rfl (Nat.le_of_ble_eq_true rfl) dX10_ofMotion_29 (fun r_29 H locs hq hW => ?_)
    subst hq
    exact md_iret C hr hlocks rfl hW (Or.inr ⟨j_11, c_11, rfl, rfl⟩) dX10_ofMotion_32
  · refine lv_aload_n hx hb dX10_ofMotion_14 rfl (lv_at hl 0 rfl) ?_
    refine lv_iconst (v := nI 1) hx hb dX10_ofMotion_15 (by decide) ?_
    refine md_calli C hml hl.1 (As := [.int (nI 1)]) (rest := []) (m_throwing l D aT ad (ss S 8 (nI 0)) 1) gT_throwing hd_throwing rfl ⟨Nat.le_of_ble_eq_true rfl, Nat.le_of_ble_eq_true rfl⟩ ⟨Nat.le_refl _, Nat.le_refl _⟩ hW hA rfl (Nat.le_of_ble_eq_true rfl) dX10_ofMotion_16 (fun r_16 S_16 H locs hq hW => ?_)
    obtain ⟨rfl, rfl⟩ := hq
    refine lv_goto (tgt := 32) hx hb dX10_ofMotion_19 (by decide) ?_
    exact md_iret C hr hlocks rfl hW (Or.inl ⟨c_11, rfl, ss_ss _ _ _ _⟩) dX10_ofMotion_32
theorem dX10_tone_0 : decode cX10_tone 0 = .ok (.aload_n 0, 1) := by decide +kernel
theorem dX10_tone_1 : decode cX10_tone 1 = .ok (.iload_n 1, 1) := by decide +kernel
theorem dX10_tone_2 : decode cX10_tone 2 = .ok (.iconst 2, 1) := by decide +kernel
theorem dX10_tone_3 : decode cX10_tone 3 = .ok (.invokevirtual 172, 3) := by decide +kernel
theorem dX10_tone_6 : decode cX10_tone 6 = .ok (.ireturn, 1) := by decide +kernel
set_option maxHeartbeats 1000000 in
set_option maxRecDepth 20000 in
theorem m_tone (l : Launch) (D : va_G) (aT : Nat → ClassId) (ad : Nat → Nat) (S : MSt) (x : Int32) (hF : FoW (S 0)) : MdI l yX10_tone cX10_tone 2 .int 3 66 D aT ad [.ref (ad 0), .int x] S (fun r S1 => (fnd (fun k => S 0 (29 + 4 * k)) x (nM (S 0)) = none ∧ r = -1 ∧ S1 = ss S 8 (nI 1)) ∨ (∃ q, fnd (fun k => S 0 (29 + 4 * k)) x (nM (S 0)) = some q ∧ r = S 0 (29 + 4 * q + 2) ∧ S1 = ss S 8 (nI 0))) := by
  refine MdI.of (by decide +kernel) rfl (Nat.le_of_ble_eq_true rfl) ?_
  intro p e s m below meth c A ls C hml hl hA hr hlocks hW
  have hl : lv_has ls 2 [(0, .ref (ad 0)), (1, .int x)] := hl
  have hx := C.1
  have hb := C.2.1
  refine lv_aload_n hx hb dX10_tone_0 rfl (lv_at hl 0 rfl) ?_
  refine lv_iload_n hx hb dX10_tone_1 rfl (lv_at hl 1 rfl) ?_
  refine lv_iconst (v := nI 2) hx hb dX10_tone_2 (by decide) ?_
  refine md_calli C hml hl.1 (As := [.int x, .int (nI 2)]) (rest := []) (m_ofMotion l D aT ad S (x) 2 (by decide) hF) gT_ofMotion hd_ofMotion rfl ⟨Nat.le_of_ble_eq_true rfl, Nat.le_of_ble_eq_true rfl⟩ ⟨Nat.le_refl _, Nat.le_refl _⟩ hW hA rfl (Nat.le_of_ble_eq_true rfl) dX10_tone_3 (fun r_3 S_3 H locs hq hW => ?_)
  rcases hq with ⟨h1, rfl, rfl⟩ | ⟨q, h1, rfl, rfl⟩
  · exact md_iret C hr hlocks rfl hW (Or.inl ⟨h1, rfl, rfl⟩) dX10_tone_6
  · exact md_iret C hr hlocks rfl hW (Or.inr ⟨q, h1, rfl, rfl⟩) dX10_tone_6
theorem dX10_weight_0 : decode cX10_weight 0 = .ok (.aload_n 0, 1) := by decide +kernel
theorem dX10_weight_1 : decode cX10_weight 1 = .ok (.iload_n 1, 1) := by decide +kernel
theorem dX10_weight_2 : decode cX10_weight 2 = .ok (.iconst 3, 1) := by decide +kernel
theorem dX10_weight_3 : decode cX10_weight 3 = .ok (.invokevirtual 172, 3) := by decide +kernel
theorem dX10_weight_6 : decode cX10_weight 6 = .ok (.ireturn, 1) := by decide +kernel
set_option maxHeartbeats 1000000 in
set_option maxRecDepth 20000 in
theorem m_weight (l : Launch) (D : va_G) (aT : Nat → ClassId) (ad : Nat → Nat) (S : MSt) (x : Int32) (hF : FoW (S 0)) : MdI l yX10_weight cX10_weight 2 .int 3 66 D aT ad [.ref (ad 0), .int x] S (fun r S1 => (fnd (fun k => S 0 (29 + 4 * k)) x (nM (S 0)) = none ∧ r = -1 ∧ S1 = ss S 8 (nI 1)) ∨ (∃ q, fnd (fun k => S 0 (29 + 4 * k)) x (nM (S 0)) = some q ∧ r = S 0 (29 + 4 * q + 3) ∧ S1 = ss S 8 (nI 0))) := by
  refine MdI.of (by decide +kernel) rfl (Nat.le_of_ble_eq_true rfl) ?_
  intro p e s m below meth c A ls C hml hl hA hr hlocks hW
  have hl : lv_has ls 2 [(0, .ref (ad 0)), (1, .int x)] := hl
  have hx := C.1
  have hb := C.2.1
  refine lv_aload_n hx hb dX10_weight_0 rfl (lv_at hl 0 rfl) ?_
  refine lv_iload_n hx hb dX10_weight_1 rfl (lv_at hl 1 rfl) ?_
  refine lv_iconst (v := nI 3) hx hb dX10_weight_2 (by decide) ?_
  refine md_calli C hml hl.1 (As := [.int x, .int (nI 3)]) (rest := []) (m_ofMotion l D aT ad S (x) 3 (by decide) hF) gT_ofMotion hd_ofMotion rfl ⟨Nat.le_of_ble_eq_true rfl, Nat.le_of_ble_eq_true rfl⟩ ⟨Nat.le_refl _, Nat.le_refl _⟩ hW hA rfl (Nat.le_of_ble_eq_true rfl) dX10_weight_3 (fun r_3 S_3 H locs hq hW => ?_)
  rcases hq with ⟨h1, rfl, rfl⟩ | ⟨q, h1, rfl, rfl⟩
  · exact md_iret C hr hlocks rfl hW (Or.inl ⟨h1, rfl, rfl⟩) dX10_weight_6
  · exact md_iret C hr hlocks rfl hW (Or.inr ⟨q, h1, rfl, rfl⟩) dX10_weight_6
theorem dX10_depth_0 : decode cX10_depth 0 = .ok (.aload_n 0, 1) := by decide +kernel
theorem dX10_depth_1 : decode cX10_depth 1 = .ok (.iconst 0, 1) := by decide +kernel
theorem dX10_depth_2 : decode cX10_depth 2 = .ok (.putfield 57, 3) := by decide +kernel
theorem dX10_depth_5 : decode cX10_depth 5 = .ok (.aload_n 0, 1) := by decide +kernel
theorem dX10_depth_6 : decode cX10_depth 6 = .ok (.iload_n 1, 1) := by decide +kernel
theorem dX10_depth_7 : decode cX10_depth 7 = .ok (.invokevirtual 71, 3) := by decide +kernel
theorem dX10_depth_10 : decode cX10_depth 10 = .ok (.iconst (-1), 1) := by decide +kernel
theorem dX10_depth_11 : decode cX10_depth 11 = .ok (.if_icmp .ne 11, 3) := by decide +kernel
theorem dX10_depth_14 : decode cX10_depth 14 = .ok (.aload_n 0, 1) := by decide +kernel
theorem dX10_depth_15 : decode cX10_depth 15 = .ok (.iconst 1, 1) := by decide +kernel
theorem dX10_depth_16 : decode cX10_depth 16 = .ok (.invokevirtual 101, 3) := by decide +kernel
theorem dX10_depth_19 : decode cX10_depth 19 = .ok (.goto 12, 3) := by decide +kernel
theorem dX10_depth_22 : decode cX10_depth 22 = .ok (.aload_n 0, 1) := by decide +kernel
theorem dX10_depth_23 : decode cX10_depth 23 = .ok (.aload_n 0, 1) := by decide +kernel
theorem dX10_depth_24 : decode cX10_depth 24 = .ok (.iload_n 1, 1) := by decide +kernel
theorem dX10_depth_25 : decode cX10_depth 25 = .ok (.invokevirtual 71, 3) := by decide +kernel
theorem dX10_depth_28 : decode cX10_depth 28 = .ok (.invokevirtual 125, 3) := by decide +kernel
theorem dX10_depth_31 : decode cX10_depth 31 = .ok (.ireturn, 1) := by decide +kernel
set_option maxHeartbeats 1000000 in
set_option maxRecDepth 20000 in
theorem m_depth (l : Launch) (D : va_G) (aT : Nat → ClassId) (ad : Nat → Nat) (S : MSt) (x : Int32) (hF : FoW (S 0)) : MdI l yX10_depth cX10_depth 2 .int 4 88 D aT ad [.ref (ad 0), .int x] S (fun r S1 => (fnd (fun k => S 0 (29 + 4 * k)) x (nM (S 0)) = none ∧ r = -1 ∧ S1 = ss S 8 (nI 1)) ∨ (∃ q, fnd (fun k => S 0 (29 + 4 * k)) x (nM (S 0)) = some q ∧ r = nI (dep (prM (S 0)) q) ∧ S1 = ss S 8 (nI 0))) := by
  refine MdI.of (by decide +kernel) rfl (Nat.le_of_ble_eq_true rfl) ?_
  intro p e s m below meth c A ls C hml hl hA hr hlocks hW
  have hl : lv_has ls 2 [(0, .ref (ad 0)), (1, .int x)] := hl
  have hx := C.1
  have hb := C.2.1
  refine lv_aload_n hx hb dX10_depth_0 rfl (lv_at hl 0 rfl) ?_
  refine lv_iconst (v := nI 0) hx hb dX10_depth_1 (by decide) ?_
  refine md_put_thrown C hW dX10_depth_2 (fun H locs hW => ?_)
  refine lv_aload_n hx hb dX10_depth_5 rfl (lv_at hl 0 rfl) ?_
  refine lv_iload_n hx hb dX10_depth_6 rfl (lv_at hl 1 rfl) ?_
  refine md_callg C hml hl.1 (As := [.int x]) (rest := []) (m_find l D aT ad (ss S 8 (nI 0)) (x) (nM (S 0)) hF.1 hF.2.1) gT_find hd_find rfl ⟨Nat.le_of_ble_eq_true rfl, Nat.le_of_ble_eq_true rfl⟩ ⟨Nat.le_refl _, Nat.le_refl _⟩ hW hA rfl (Nat.le_of_ble_eq_true rfl) dX10_depth_7 (fun r_7 H locs hq hW => ?_)
  subst hq
  refine lv_iconst (v := (-1)) hx hb dX10_depth_10 (by decide) ?_
  refine r_oi_ne hx hb (o := (fnd (fun k => (ss S 8 (nI 0)) 0 (29 + 4 * k)) (x) (nM (S 0)))) (fun j hj => by have := (fnd_some hj).1; have := hF.n12; omega) (tgt := 22) dX10_depth_11 (by decide) (fun j_11 c_11 => ?_) (fun c_11 => ?_)
  · have hq0 := (fnd_some c_11).1
    have h12 := hF.n12
    refine lv_aload_n hx hb dX10_depth_22 rfl (lv_at hl 0 rfl) ?_
    refine lv_aload_n hx hb dX10_depth_23 rfl (lv_at hl 0 rfl) ?_
    refine lv_iload_n hx hb dX10_depth_24 rfl (lv_at hl 1 rfl) ?_
    refine md_callg C hml hl.1 (As := [.int x]) (rest := [.ref (ad 0)]) (m_find l D aT ad (ss S 8 (nI 0)) (x) (nM (S 0)) hF.1 hF.2.1) gT_find hd_find rfl ⟨Nat.le_of_ble_eq_true rfl, Nat.le_of_ble_eq_true rfl⟩ ⟨Nat.le_refl _, Nat.le_refl _⟩ hW hA rfl (Nat.le_of_ble_eq_true rfl) dX10_depth_25 (fun r_25 H locs hq hW => ?_)
    subst hq
    refine r_eq (y := (nI j_11)) (by rw [c_11]; rfl) ?_
    refine md_callg C hml hl.1 (As := [.int (nI j_11)]) (rest := []) (m_deep l D aT ad (ss S 8 (nI 0)) (nM (S 0)) (idM (S 0)) (prM (S 0)) (tnM (S 0)) hF j_11 (hq0)) gT_deep hd_deep rfl ⟨Nat.le_of_ble_eq_true rfl, Nat.le_of_ble_eq_true rfl⟩ ⟨Nat.le_refl _, Nat.le_refl _⟩ hW hA rfl (Nat.le_of_ble_eq_true rfl) dX10_depth_28 (fun r_28 H locs hq hW => ?_)
    subst hq
    exact md_iret C hr hlocks rfl hW (Or.inr ⟨j_11, c_11, rfl, rfl⟩) dX10_depth_31
  · refine lv_aload_n hx hb dX10_depth_14 rfl (lv_at hl 0 rfl) ?_
    refine lv_iconst (v := nI 1) hx hb dX10_depth_15 (by decide) ?_
    refine md_calli C hml hl.1 (As := [.int (nI 1)]) (rest := []) (m_throwing l D aT ad (ss S 8 (nI 0)) 1) gT_throwing hd_throwing rfl ⟨Nat.le_of_ble_eq_true rfl, Nat.le_of_ble_eq_true rfl⟩ ⟨Nat.le_refl _, Nat.le_refl _⟩ hW hA rfl (Nat.le_of_ble_eq_true rfl) dX10_depth_16 (fun r_16 S_16 H locs hq hW => ?_)
    obtain ⟨rfl, rfl⟩ := hq
    refine lv_goto (tgt := 31) hx hb dX10_depth_19 (by decide) ?_
    exact md_iret C hr hlocks rfl hW (Or.inl ⟨c_11, rfl, ss_ss _ _ _ _⟩) dX10_depth_31
theorem dX10_isTip_0 : decode cX10_isTip 0 = .ok (.aload_n 0, 1) := by decide +kernel
theorem dX10_isTip_1 : decode cX10_isTip 1 = .ok (.iconst 0, 1) := by decide +kernel
theorem dX10_isTip_2 : decode cX10_isTip 2 = .ok (.putfield 57, 3) := by decide +kernel
theorem dX10_isTip_5 : decode cX10_isTip 5 = .ok (.aload_n 0, 1) := by decide +kernel
theorem dX10_isTip_6 : decode cX10_isTip 6 = .ok (.iload_n 1, 1) := by decide +kernel
theorem dX10_isTip_7 : decode cX10_isTip 7 = .ok (.invokevirtual 71, 3) := by decide +kernel
theorem dX10_isTip_10 : decode cX10_isTip 10 = .ok (.iconst (-1), 1) := by decide +kernel
theorem dX10_isTip_11 : decode cX10_isTip 11 = .ok (.if_icmp .ne 11, 3) := by decide +kernel
theorem dX10_isTip_14 : decode cX10_isTip 14 = .ok (.aload_n 0, 1) := by decide +kernel
theorem dX10_isTip_15 : decode cX10_isTip 15 = .ok (.iconst 1, 1) := by decide +kernel
theorem dX10_isTip_16 : decode cX10_isTip 16 = .ok (.invokevirtual 101, 3) := by decide +kernel
theorem dX10_isTip_19 : decode cX10_isTip 19 = .ok (.pop, 1) := by decide +kernel
theorem dX10_isTip_20 : decode cX10_isTip 20 = .ok (.iconst 0, 1) := by decide +kernel
theorem dX10_isTip_21 : decode cX10_isTip 21 = .ok (.ireturn, 1) := by decide +kernel
theorem dX10_isTip_22 : decode cX10_isTip 22 = .ok (.aload_n 0, 1) := by decide +kernel
theorem dX10_isTip_23 : decode cX10_isTip 23 = .ok (.aload_n 0, 1) := by decide +kernel
theorem dX10_isTip_24 : decode cX10_isTip 24 = .ok (.iload_n 1, 1) := by decide +kernel
theorem dX10_isTip_25 : decode cX10_isTip 25 = .ok (.invokevirtual 71, 3) := by decide +kernel
theorem dX10_isTip_28 : decode cX10_isTip 28 = .ok (.invokevirtual 82, 3) := by decide +kernel
theorem dX10_isTip_31 : decode cX10_isTip 31 = .ok (.ireturn, 1) := by decide +kernel
set_option maxHeartbeats 1000000 in
set_option maxRecDepth 20000 in
theorem m_isTip (l : Launch) (D : va_G) (aT : Nat → ClassId) (ad : Nat → Nat) (S : MSt) (x : Int32) (hF : FoW (S 0)) : MdI l yX10_isTip cX10_isTip 2 .boolean 4 88 D aT ad [.ref (ad 0), .int x] S (fun r S1 => (fnd (fun k => S 0 (29 + 4 * k)) x (nM (S 0)) = none ∧ r = nI 0 ∧ S1 = ss S 8 (nI 1)) ∨ (∃ q, fnd (fun k => S 0 (29 + 4 * k)) x (nM (S 0)) = some q ∧ r = bI (tipB (prM (S 0)) q (nM (S 0))) ∧ S1 = ss S 8 (nI 0))) := by
  refine MdI.of (by decide +kernel) rfl (Nat.le_of_ble_eq_true rfl) ?_
  intro p e s m below meth c A ls C hml hl hA hr hlocks hW
  have hl : lv_has ls 2 [(0, .ref (ad 0)), (1, .int x)] := hl
  have hx := C.1
  have hb := C.2.1
  refine lv_aload_n hx hb dX10_isTip_0 rfl (lv_at hl 0 rfl) ?_
  refine lv_iconst (v := nI 0) hx hb dX10_isTip_1 (by decide) ?_
  refine md_put_thrown C hW dX10_isTip_2 (fun H locs hW => ?_)
  refine lv_aload_n hx hb dX10_isTip_5 rfl (lv_at hl 0 rfl) ?_
  refine lv_iload_n hx hb dX10_isTip_6 rfl (lv_at hl 1 rfl) ?_
  refine md_callg C hml hl.1 (As := [.int x]) (rest := []) (m_find l D aT ad (ss S 8 (nI 0)) (x) (nM (S 0)) hF.1 hF.2.1) gT_find hd_find rfl ⟨Nat.le_of_ble_eq_true rfl, Nat.le_of_ble_eq_true rfl⟩ ⟨Nat.le_refl _, Nat.le_refl _⟩ hW hA rfl (Nat.le_of_ble_eq_true rfl) dX10_isTip_7 (fun r_7 H locs hq hW => ?_)
  subst hq
  refine lv_iconst (v := (-1)) hx hb dX10_isTip_10 (by decide) ?_
  refine r_oi_ne hx hb (o := (fnd (fun k => (ss S 8 (nI 0)) 0 (29 + 4 * k)) (x) (nM (S 0)))) (fun j hj => by have := (fnd_some hj).1; have := hF.n12; omega) (tgt := 22) dX10_isTip_11 (by decide) (fun j_11 c_11 => ?_) (fun c_11 => ?_)
  · have hq0 := (fnd_some c_11).1
    have h12 := hF.n12
    refine lv_aload_n hx hb dX10_isTip_22 rfl (lv_at hl 0 rfl) ?_
    refine lv_aload_n hx hb dX10_isTip_23 rfl (lv_at hl 0 rfl) ?_
    refine lv_iload_n hx hb dX10_isTip_24 rfl (lv_at hl 1 rfl) ?_
    refine md_callg C hml hl.1 (As := [.int x]) (rest := [.ref (ad 0)]) (m_find l D aT ad (ss S 8 (nI 0)) (x) (nM (S 0)) hF.1 hF.2.1) gT_find hd_find rfl ⟨Nat.le_of_ble_eq_true rfl, Nat.le_of_ble_eq_true rfl⟩ ⟨Nat.le_refl _, Nat.le_refl _⟩ hW hA rfl (Nat.le_of_ble_eq_true rfl) dX10_isTip_25 (fun r_25 H locs hq hW => ?_)
    subst hq
    refine r_eq (y := (nI j_11)) (by rw [c_11]; rfl) ?_
    refine md_callg C hml hl.1 (As := [.int (nI j_11)]) (rest := []) (m_isTipAt l D aT ad (ss S 8 (nI 0)) (nM (S 0)) (idM (S 0)) (prM (S 0)) (tnM (S 0)) hF j_11 (hq0)) gT_isTipAt hd_isTipAt rfl ⟨Nat.le_of_ble_eq_true rfl, Nat.le_of_ble_eq_true rfl⟩ ⟨Nat.le_refl _, Nat.le_refl _⟩ hW hA rfl (Nat.le_of_ble_eq_true rfl) dX10_isTip_28 (fun r_28 H locs hq hW => ?_)
    subst hq
    exact md_iret C hr hlocks (bI_nar _) hW (Or.inr ⟨j_11, c_11, rfl, rfl⟩) dX10_isTip_31
  · refine lv_aload_n hx hb dX10_isTip_14 rfl (lv_at hl 0 rfl) ?_
    refine lv_iconst (v := nI 1) hx hb dX10_isTip_15 (by decide) ?_
    refine md_calli C hml hl.1 (As := [.int (nI 1)]) (rest := []) (m_throwing l D aT ad (ss S 8 (nI 0)) 1) gT_throwing hd_throwing rfl ⟨Nat.le_of_ble_eq_true rfl, Nat.le_of_ble_eq_true rfl⟩ ⟨Nat.le_refl _, Nat.le_refl _⟩ hW hA rfl (Nat.le_of_ble_eq_true rfl) dX10_isTip_16 (fun r_16 S_16 H locs hq hW => ?_)
    obtain ⟨rfl, rfl⟩ := hq
    refine lv_pop hx hb dX10_isTip_19 rfl ?_
    refine lv_iconst (v := nI 0) hx hb dX10_isTip_20 (by decide) ?_
    exact md_iret C hr hlocks (by decide) hW (Or.inl ⟨c_11, rfl, ss_ss _ _ _ _⟩) dX10_isTip_21
theorem dX10_lastTip_0 : decode cX10_lastTip 0 = .ok (.aload_n 0, 1) := by decide +kernel
theorem dX10_lastTip_1 : decode cX10_lastTip 1 = .ok (.iconst 0, 1) := by decide +kernel
theorem dX10_lastTip_2 : decode cX10_lastTip 2 = .ok (.putfield 57, 3) := by decide +kernel
theorem dX10_lastTip_5 : decode cX10_lastTip 5 = .ok (.aload_n 0, 1) := by decide +kernel
theorem dX10_lastTip_6 : decode cX10_lastTip 6 = .ok (.iload_n 1, 1) := by decide +kernel
theorem dX10_lastTip_7 : decode cX10_lastTip 7 = .ok (.invokevirtual 71, 3) := by decide +kernel
theorem dX10_lastTip_10 : decode cX10_lastTip 10 = .ok (.istore_n 2, 1) := by decide +kernel
theorem dX10_lastTip_11 : decode cX10_lastTip 11 = .ok (.iload_n 2, 1) := by decide +kernel
theorem dX10_lastTip_12 : decode cX10_lastTip 12 = .ok (.iconst (-1), 1) := by decide +kernel
theorem dX10_lastTip_13 : decode cX10_lastTip 13 = .ok (.if_icmp .ne 11, 3) := by decide +kernel
theorem dX10_lastTip_16 : decode cX10_lastTip 16 = .ok (.aload_n 0, 1) := by decide +kernel
theorem dX10_lastTip_17 : decode cX10_lastTip 17 = .ok (.iconst 1, 1) := by decide +kernel
theorem dX10_lastTip_18 : decode cX10_lastTip 18 = .ok (.invokevirtual 101, 3) := by decide +kernel
theorem dX10_lastTip_21 : decode cX10_lastTip 21 = .ok (.goto 13, 3) := by decide +kernel
theorem dX10_lastTip_24 : decode cX10_lastTip 24 = .ok (.aload_n 0, 1) := by decide +kernel
theorem dX10_lastTip_25 : decode cX10_lastTip 25 = .ok (.aload_n 0, 1) := by decide +kernel
theorem dX10_lastTip_26 : decode cX10_lastTip 26 = .ok (.iload_n 2, 1) := by decide +kernel
theorem dX10_lastTip_27 : decode cX10_lastTip 27 = .ok (.invokevirtual 135, 3) := by decide +kernel
theorem dX10_lastTip_30 : decode cX10_lastTip 30 = .ok (.iconst 0, 1) := by decide +kernel
theorem dX10_lastTip_31 : decode cX10_lastTip 31 = .ok (.invokevirtual 67, 3) := by decide +kernel
theorem dX10_lastTip_34 : decode cX10_lastTip 34 = .ok (.ireturn, 1) := by decide +kernel
set_option maxHeartbeats 1000000 in
set_option maxRecDepth 20000 in
theorem m_lastTip (l : Launch) (D : va_G) (aT : Nat → ClassId) (ad : Nat → Nat) (S : MSt) (x : Int32) (hF : FoW (S 0)) : MdI l yX10_lastTip cX10_lastTip 3 .int 5 111 D aT ad [.ref (ad 0), .int x] S (fun r S1 => (fnd (fun k => S 0 (29 + 4 * k)) x (nM (S 0)) = none ∧ r = -1 ∧ S1 = ss S 8 (nI 1)) ∨ (∃ q t, fnd (fun k => S 0 (29 + 4 * k)) x (nM (S 0)) = some q ∧ ltp (prM (S 0)) (nM (S 0)) q (nM (S 0)) = some t ∧ r = S 0 (29 + 4 * t) ∧ S1 = ss S 8 (nI 0))) := by
  refine MdI.of (by decide +kernel) rfl (Nat.le_of_ble_eq_true rfl) ?_
  intro p e s m below meth c A ls C hml hl hA hr hlocks hW
  have hl : lv_has ls 3 [(0, .ref (ad 0)), (1, .int x)] := hl
  have hx := C.1
  have hb := C.2.1
  refine lv_aload_n hx hb dX10_lastTip_0 rfl (lv_at hl 0 rfl) ?_
  refine lv_iconst (v := nI 0) hx hb dX10_lastTip_1 (by decide) ?_
  refine md_put_thrown C hW dX10_lastTip_2 (fun H locs hW => ?_)
  refine lv_aload_n hx hb dX10_lastTip_5 rfl (lv_at hl 0 rfl) ?_
  refine lv_iload_n hx hb dX10_lastTip_6 rfl (lv_at hl 1 rfl) ?_
  refine md_callg C hml hl.1 (As := [.int x]) (rest := []) (m_find l D aT ad (ss S 8 (nI 0)) (x) (nM (S 0)) hF.1 hF.2.1) gT_find hd_find rfl ⟨Nat.le_of_ble_eq_true rfl, Nat.le_of_ble_eq_true rfl⟩ ⟨Nat.le_refl _, Nat.le_refl _⟩ hW hA rfl (Nat.le_of_ble_eq_true rfl) dX10_lastTip_7 (fun r_7 H locs hq hW => ?_)
  subst hq
  refine lv_istore_n (lv' := [(2, .int (oi (fnd (fun k => (ss S 8 (nI 0)) 0 (29 + 4 * k)) (x) (nM (S 0))))), (0, .ref (ad 0)), (1, .int x)]) hx hb dX10_lastTip_10 rfl hl (by decide) rfl (fun ls hl => ?_)
  refine lv_iload_n hx hb dX10_lastTip_11 rfl (lv_at hl 0 rfl) ?_
  refine lv_iconst (v := (-1)) hx hb dX10_lastTip_12 (by decide) ?_
  refine r_oi_ne hx hb (o := (fnd (fun k => (ss S 8 (nI 0)) 0 (29 + 4 * k)) (x) (nM (S 0)))) (fun j hj => by have := (fnd_some hj).1; have := hF.n12; omega) (tgt := 24) dX10_lastTip_13 (by decide) (fun j_13 c_13 => ?_) (fun c_13 => ?_)
  · have hl : lv_has ls 3 [(2, .int (nI j_13)), (0, .ref (ad 0)), (1, .int x)] := by rw [c_13] at hl; exact hl
    have hq0 := (fnd_some c_13).1
    have h12 := hF.n12
    refine lv_aload_n hx hb dX10_lastTip_24 rfl (lv_at hl 1 rfl) ?_
    refine lv_aload_n hx hb dX10_lastTip_25 rfl (lv_at hl 1 rfl) ?_
    refine lv_iload_n hx hb dX10_lastTip_26 rfl (lv_at hl 0 rfl) ?_
    obtain ⟨t, ht, htn⟩ := ltp_ex hF.ok hq0
    refine md_callg C hml hl.1 (As := [.int (nI j_13)]) (rest := [.ref (ad 0)]) (m_lastTipAt l D aT ad (ss S 8 (nI 0)) (nM (S 0)) (idM (S 0)) (prM (S 0)) (tnM (S 0)) hF j_13 (hq0)) gT_lastTipAt hd_lastTipAt rfl ⟨Nat.le_of_ble_eq_true rfl, Nat.le_of_ble_eq_true rfl⟩ ⟨Nat.le_refl _, Nat.le_refl _⟩ hW hA rfl (Nat.le_of_ble_eq_true rfl) dX10_lastTip_27 (fun r_27 H locs hq hW => ?_)
    subst hq
    refine r_eq (y := (nI t)) (by rw [ht]; rfl) ?_
    refine lv_iconst (v := nI 0) hx hb dX10_lastTip_30 (by decide) ?_
    refine md_callg C hml hl.1 (As := [.int (nI t), .int (nI 0)]) (rest := []) (m_of l D aT ad (ss S 8 (nI 0)) t 0 (by omega)) gT_of hd_of rfl ⟨Nat.le_of_ble_eq_true rfl, Nat.le_of_ble_eq_true rfl⟩ ⟨Nat.le_refl _, Nat.le_refl _⟩ hW hA rfl (Nat.le_of_ble_eq_true rfl) dX10_lastTip_31 (fun r_31 H locs hq hW => ?_)
    subst hq
    exact md_iret C hr hlocks rfl hW (Or.inr ⟨j_13, t, c_13, ht, rfl, rfl⟩) dX10_lastTip_34
  · have hl : lv_has ls 3 [(2, .int (-1)), (0, .ref (ad 0)), (1, .int x)] := by rw [c_13] at hl; exact hl
    refine lv_aload_n hx hb dX10_lastTip_16 rfl (lv_at hl 1 rfl) ?_
    refine lv_iconst (v := nI 1) hx hb dX10_lastTip_17 (by decide) ?_
    refine md_calli C hml hl.1 (As := [.int (nI 1)]) (rest := []) (m_throwing l D aT ad (ss S 8 (nI 0)) 1) gT_throwing hd_throwing rfl ⟨Nat.le_of_ble_eq_true rfl, Nat.le_of_ble_eq_true rfl⟩ ⟨Nat.le_refl _, Nat.le_refl _⟩ hW hA rfl (Nat.le_of_ble_eq_true rfl) dX10_lastTip_18 (fun r_18 S_18 H locs hq hW => ?_)
    obtain ⟨rfl, rfl⟩ := hq
    refine lv_goto (tgt := 34) hx hb dX10_lastTip_21 (by decide) ?_
    exact md_iret C hr hlocks rfl hW (Or.inl ⟨c_13, rfl, ss_ss _ _ _ _⟩) dX10_lastTip_34
theorem dX10_branchSize_0 : decode cX10_branchSize 0 = .ok (.aload_n 0, 1) := by decide +kernel
theorem dX10_branchSize_1 : decode cX10_branchSize 1 = .ok (.iconst 0, 1) := by decide +kernel
theorem dX10_branchSize_2 : decode cX10_branchSize 2 = .ok (.putfield 57, 3) := by decide +kernel
theorem dX10_branchSize_5 : decode cX10_branchSize 5 = .ok (.aload_n 0, 1) := by decide +kernel
theorem dX10_branchSize_6 : decode cX10_branchSize 6 = .ok (.iload_n 1, 1) := by decide +kernel
theorem dX10_branchSize_7 : decode cX10_branchSize 7 = .ok (.invokevirtual 71, 3) := by decide +kernel
theorem dX10_branchSize_10 : decode cX10_branchSize 10 = .ok (.istore_n 2, 1) := by decide +kernel
theorem dX10_branchSize_11 : decode cX10_branchSize 11 = .ok (.iload_n 2, 1) := by decide +kernel
theorem dX10_branchSize_12 : decode cX10_branchSize 12 = .ok (.iconst (-1), 1) := by decide +kernel
theorem dX10_branchSize_13 : decode cX10_branchSize 13 = .ok (.if_icmp .ne 9, 3) := by decide +kernel
theorem dX10_branchSize_16 : decode cX10_branchSize 16 = .ok (.aload_n 0, 1) := by decide +kernel
theorem dX10_branchSize_17 : decode cX10_branchSize 17 = .ok (.iconst 1, 1) := by decide +kernel
theorem dX10_branchSize_18 : decode cX10_branchSize 18 = .ok (.invokevirtual 101, 3) := by decide +kernel
theorem dX10_branchSize_21 : decode cX10_branchSize 21 = .ok (.ireturn, 1) := by decide +kernel
theorem dX10_branchSize_22 : decode cX10_branchSize 22 = .ok (.iconst 0, 1) := by decide +kernel
theorem dX10_branchSize_23 : decode cX10_branchSize 23 = .ok (.istore_n 3, 1) := by decide +kernel
theorem dX10_branchSize_24 : decode cX10_branchSize 24 = .ok (.iconst 0, 1) := by decide +kernel
theorem dX10_branchSize_25 : decode cX10_branchSize 25 = .ok (.istore 4, 2) := by decide +kernel
theorem dX10_branchSize_27 : decode cX10_branchSize 27 = .ok (.iload 4, 2) := by decide +kernel
theorem dX10_branchSize_29 : decode cX10_branchSize 29 = .ok (.aload_n 0, 1) := by decide +kernel
theorem dX10_branchSize_30 : decode cX10_branchSize 30 = .ok (.getfield 9, 3) := by decide +kernel
theorem dX10_branchSize_33 : decode cX10_branchSize 33 = .ok (.iconst 2, 1) := by decide +kernel
theorem dX10_branchSize_34 : decode cX10_branchSize 34 = .ok (.iaload, 1) := by decide +kernel
theorem dX10_branchSize_35 : decode cX10_branchSize 35 = .ok (.if_icmp .ge 27, 3) := by decide +kernel
theorem dX10_branchSize_38 : decode cX10_branchSize 38 = .ok (.iload_n 3, 1) := by decide +kernel
theorem dX10_branchSize_39 : decode cX10_branchSize 39 = .ok (.aload_n 0, 1) := by decide +kernel
theorem dX10_branchSize_40 : decode cX10_branchSize 40 = .ok (.iload 4, 2) := by decide +kernel
theorem dX10_branchSize_42 : decode cX10_branchSize 42 = .ok (.iload_n 2, 1) := by decide +kernel
theorem dX10_branchSize_43 : decode cX10_branchSize 43 = .ok (.invokevirtual 78, 3) := by decide +kernel
theorem dX10_branchSize_46 : decode cX10_branchSize 46 = .ok (.ifCond .eq 7, 3) := by decide +kernel
theorem dX10_branchSize_49 : decode cX10_branchSize 49 = .ok (.iconst 1, 1) := by decide +kernel
theorem dX10_branchSize_50 : decode cX10_branchSize 50 = .ok (.goto 4, 3) := by decide +kernel
theorem dX10_branchSize_53 : decode cX10_branchSize 53 = .ok (.iconst 0, 1) := by decide +kernel
theorem dX10_branchSize_54 : decode cX10_branchSize 54 = .ok (.iadd, 1) := by decide +kernel
theorem dX10_branchSize_55 : decode cX10_branchSize 55 = .ok (.istore_n 3, 1) := by decide +kernel
theorem dX10_branchSize_56 : decode cX10_branchSize 56 = .ok (.iinc 4 1, 3) := by decide +kernel
theorem dX10_branchSize_59 : decode cX10_branchSize 59 = .ok (.goto (-32), 3) := by decide +kernel
theorem dX10_branchSize_62 : decode cX10_branchSize 62 = .ok (.iload_n 3, 1) := by decide +kernel
theorem dX10_branchSize_63 : decode cX10_branchSize 63 = .ok (.ireturn, 1) := by decide +kernel
set_option maxHeartbeats 1000000 in
set_option maxRecDepth 20000 in
theorem m_branchSize (l : Launch) (D : va_G) (aT : Nat → ClassId) (ad : Nat → Nat) (S : MSt) (x : Int32) (hF : FoW (S 0)) : MdI l yX10_branchSize cX10_branchSize 5 .int 4 88 D aT ad [.ref (ad 0), .int x] S (fun r S1 => (fnd (fun k => S 0 (29 + 4 * k)) x (nM (S 0)) = none ∧ r = -1 ∧ S1 = ss S 8 (nI 1)) ∨ (∃ q, fnd (fun k => S 0 (29 + 4 * k)) x (nM (S 0)) = some q ∧ r = nI (brs (prM (S 0)) q (nM (S 0))) ∧ S1 = ss S 8 (nI 0))) := by
  refine MdI.of (by decide +kernel) rfl (Nat.le_of_ble_eq_true rfl) ?_
  intro p e s m below meth c A ls C hml hl hA hr hlocks hW
  have hl : lv_has ls 5 [(0, .ref (ad 0)), (1, .int x)] := hl
  have hx := C.1
  have hb := C.2.1
  refine lv_aload_n hx hb dX10_branchSize_0 rfl (lv_at hl 0 rfl) ?_
  refine lv_iconst (v := nI 0) hx hb dX10_branchSize_1 (by decide) ?_
  refine md_put_thrown C hW dX10_branchSize_2 (fun H locs hW => ?_)
  refine lv_aload_n hx hb dX10_branchSize_5 rfl (lv_at hl 0 rfl) ?_
  refine lv_iload_n hx hb dX10_branchSize_6 rfl (lv_at hl 1 rfl) ?_
  refine md_callg C hml hl.1 (As := [.int x]) (rest := []) (m_find l D aT ad (ss S 8 (nI 0)) (x) (nM (S 0)) hF.1 hF.2.1) gT_find hd_find rfl ⟨Nat.le_of_ble_eq_true rfl, Nat.le_of_ble_eq_true rfl⟩ ⟨Nat.le_refl _, Nat.le_refl _⟩ hW hA rfl (Nat.le_of_ble_eq_true rfl) dX10_branchSize_7 (fun r_7 H locs hq hW => ?_)
  subst hq
  refine lv_istore_n (lv' := [(2, .int (oi (fnd (fun k => (ss S 8 (nI 0)) 0 (29 + 4 * k)) (x) (nM (S 0))))), (0, .ref (ad 0)), (1, .int x)]) hx hb dX10_branchSize_10 rfl hl (by decide) rfl (fun ls hl => ?_)
  refine lv_iload_n hx hb dX10_branchSize_11 rfl (lv_at hl 0 rfl) ?_
  refine lv_iconst (v := (-1)) hx hb dX10_branchSize_12 (by decide) ?_
  refine r_oi_ne hx hb (o := (fnd (fun k => (ss S 8 (nI 0)) 0 (29 + 4 * k)) (x) (nM (S 0)))) (fun j hj => by have := (fnd_some hj).1; have := hF.n12; omega) (tgt := 22) dX10_branchSize_13 (by decide) (fun j_13 c_13 => ?_) (fun c_13 => ?_)
  · have hl : lv_has ls 5 [(2, .int (nI j_13)), (0, .ref (ad 0)), (1, .int x)] := by rw [c_13] at hl; exact hl
    have hq0 := (fnd_some c_13).1
    have h12 := hF.n12
    refine lv_iconst (v := nI 0) hx hb dX10_branchSize_22 (by decide) ?_
    refine lv_istore_n (lv' := [(3, .int (nI 0)), (2, .int (nI j_13)), (0, .ref (ad 0)), (1, .int x)]) hx hb dX10_branchSize_23 rfl hl (by decide) rfl (fun ls hl => ?_)
    refine lv_iconst (v := nI 0) hx hb dX10_branchSize_24 (by decide) ?_
    refine lv_istore (lv' := [(4, .int (nI 0)), (3, .int (nI 0)), (2, .int (nI j_13)), (0, .ref (ad 0)), (1, .int x)]) hx hb dX10_branchSize_25 hl (by decide) rfl (fun ls hl => ?_)
    refine W_loopH (σ := Nat × Nat) (fun z_ => nM (S 0) - z_.2) (fun z_ H locs g => ∃ ls, g = F0 m 27 ls [] ∧ lv_has ls 5 [(0, .ref (ad 0)), (2, .int (nI j_13)), (3, .int (nI z_.1)), (4, .int (nI z_.2))] ∧ MdB D aT ad (ss S 8 (nI 0)) A s.heap H locs ∧ (z_.1 = brs (prM (S 0)) j_13 z_.2 ∧ z_.2 ≤ nM (S 0))) ?_ (0, 0) _ ⟨_, rfl, lv_sub hl [3, 2, 1, 0] rfl, hW, ⟨rfl, Nat.zero_le _⟩⟩
    clear hW hl
    rintro ⟨a, i⟩ H locs g ⟨ls, rfl, hl, hW, ha, hin⟩ ih_27
    dsimp only at hl hW ha hin ⊢
    refine lv_iload hx hb dX10_branchSize_27 (lv_at hl 3 rfl) ?_
    refine lv_aload_n hx hb dX10_branchSize_29 rfl (lv_at hl 0 rfl) ?_
    refine md_geta_m C hW dX10_branchSize_30 ?_
    refine lv_iconst (v := nI 2) hx hb dX10_branchSize_33 (by decide) ?_
    refine md_ald_m C hW (i := 2) (by omega) dX10_branchSize_34 ?_
    refine r_eq (y := (nI (nM (S 0)))) (hF.1) ?_
    refine r_geN hx hb (a := i) (b := (nM (S 0))) (by omega) (by omega) (tgt := 62) dX10_branchSize_35 (by decide) (fun c_35 => ?_) (fun c_35 => ?_)
    · refine lv_iload_n hx hb dX10_branchSize_62 rfl (lv_at hl 2 rfl) ?_
      exact md_iret C hr hlocks rfl hW (Or.inr ⟨j_13, c_13, by rw [ha, show nM (S 0) = i by omega], rfl⟩) dX10_branchSize_63
    · refine lv_iload_n hx hb dX10_branchSize_38 rfl (lv_at hl 2 rfl) ?_
      refine lv_aload_n hx hb dX10_branchSize_39 rfl (lv_at hl 0 rfl) ?_
      refine lv_iload hx hb dX10_branchSize_40 (lv_at hl 3 rfl) ?_
      refine lv_iload_n hx hb dX10_branchSize_42 rfl (lv_at hl 1 rfl) ?_
      refine md_callg C hml hl.1 (As := [.int (nI i), .int (nI j_13)]) (rest := [.int (nI a)]) (m_isIn l D aT ad (ss S 8 (nI 0)) (nM (S 0)) (idM (S 0)) (prM (S 0)) (tnM (S 0)) hF i j_13 (by omega) (hq0)) gT_isIn hd_isIn rfl ⟨Nat.le_of_ble_eq_true rfl, Nat.le_of_ble_eq_true rfl⟩ ⟨Nat.le_refl _, Nat.le_refl _⟩ hW hA rfl (Nat.le_of_ble_eq_true rfl) dX10_branchSize_43 (fun r_43 H locs hq hW => ?_)
      subst hq
      refine r_bI_eq hx hb (b := (anc (prM (S 0)) j_13 i)) (tgt := 53) dX10_branchSize_46 (by decide) (fun c_46 => ?_) (fun c_46 => ?_)
      · refine lv_iconst (v := nI 0) hx hb dX10_branchSize_53 (by decide) ?_
        refine r_iaddN hx hb (a := a) (b := 0) dX10_branchSize_54 ?_
        refine lv_istore_n (lv' := [(3, .int (nI (a + 0))), (0, .ref (ad 0)), (2, .int (nI j_13)), (4, .int (nI i))]) hx hb dX10_branchSize_55 rfl hl (by decide) rfl (fun ls hl => ?_)
        refine lv_iinc (v := (nI (i + 1))) (lv' := [(4, .int (nI (i + 1))), (3, .int (nI (a + 0))), (0, .ref (ad 0)), (2, .int (nI j_13))]) hx hb dX10_branchSize_56 hl (k := 3) rfl (nI_1 _) (by decide) rfl (fun ls hl => ?_)
        refine lv_goto (tgt := 27) hx hb dX10_branchSize_59 (by decide) ?_
        exact ih_27 (a + 0, (i + 1)) _ _ _ (by dsimp only; omega) ⟨_, rfl, lv_sub hl [2, 3, 1, 0] rfl, hW, ⟨by rw [brs, c_46, ← ha]; rfl, by (try dsimp only); omega⟩⟩
      · refine lv_iconst (v := nI 1) hx hb dX10_branchSize_49 (by decide) ?_
        refine lv_goto (tgt := 54) hx hb dX10_branchSize_50 (by decide) ?_
        refine r_iaddN hx hb (a := a) (b := 1) dX10_branchSize_54 ?_
        refine lv_istore_n (lv' := [(3, .int (nI (a + 1))), (0, .ref (ad 0)), (2, .int (nI j_13)), (4, .int (nI i))]) hx hb dX10_branchSize_55 rfl hl (by decide) rfl (fun ls hl => ?_)
        refine lv_iinc (v := (nI (i + 1))) (lv' := [(4, .int (nI (i + 1))), (3, .int (nI (a + 1))), (0, .ref (ad 0)), (2, .int (nI j_13))]) hx hb dX10_branchSize_56 hl (k := 3) rfl (nI_1 _) (by decide) rfl (fun ls hl => ?_)
        refine lv_goto (tgt := 27) hx hb dX10_branchSize_59 (by decide) ?_
        exact ih_27 (a + 1, (i + 1)) _ _ _ (by dsimp only; omega) ⟨_, rfl, lv_sub hl [2, 3, 1, 0] rfl, hW, ⟨by rw [brs, c_46, ← ha]; rfl, by (try dsimp only); omega⟩⟩
  · have hl : lv_has ls 5 [(2, .int (-1)), (0, .ref (ad 0)), (1, .int x)] := by rw [c_13] at hl; exact hl
    refine lv_aload_n hx hb dX10_branchSize_16 rfl (lv_at hl 1 rfl) ?_
    refine lv_iconst (v := nI 1) hx hb dX10_branchSize_17 (by decide) ?_
    refine md_calli C hml hl.1 (As := [.int (nI 1)]) (rest := []) (m_throwing l D aT ad (ss S 8 (nI 0)) 1) gT_throwing hd_throwing rfl ⟨Nat.le_of_ble_eq_true rfl, Nat.le_of_ble_eq_true rfl⟩ ⟨Nat.le_refl _, Nat.le_refl _⟩ hW hA rfl (Nat.le_of_ble_eq_true rfl) dX10_branchSize_18 (fun r_18 S_18 H locs hq hW => ?_)
    obtain ⟨rfl, rfl⟩ := hq
    exact md_iret C hr hlocks rfl hW (Or.inl ⟨c_13, rfl, ss_ss _ _ _ _⟩) dX10_branchSize_21
theorem dX10_season_0 : decode cX10_season 0 = .ok (.aload_n 0, 1) := by decide +kernel
theorem dX10_season_1 : decode cX10_season 1 = .ok (.iconst 0, 1) := by decide +kernel
theorem dX10_season_2 : decode cX10_season 2 = .ok (.putfield 57, 3) := by decide +kernel
theorem dX10_season_5 : decode cX10_season 5 = .ok (.aload_n 0, 1) := by decide +kernel
theorem dX10_season_6 : decode cX10_season 6 = .ok (.getfield 9, 3) := by decide +kernel
theorem dX10_season_9 : decode cX10_season 9 = .ok (.iconst 3, 1) := by decide +kernel
theorem dX10_season_10 : decode cX10_season 10 = .ok (.iaload, 1) := by decide +kernel
theorem dX10_season_11 : decode cX10_season 11 = .ok (.ireturn, 1) := by decide +kernel
set_option maxHeartbeats 1000000 in
set_option maxRecDepth 20000 in
theorem m_season (l : Launch) (D : va_G) (aT : Nat → ClassId) (ad : Nat → Nat) (S : MSt) : MdI l yX10_season cX10_season 1 .int 0 0 D aT ad [.ref (ad 0)] S (fun r S1 => r = S 0 3 ∧ S1 = ss S 8 (nI 0)) := by
  refine MdI.of (by decide +kernel) rfl (Nat.le_of_ble_eq_true rfl) ?_
  intro p e s m below meth c A ls C hml hl hA hr hlocks hW
  have hl : lv_has ls 1 [(0, .ref (ad 0))] := hl
  have hx := C.1
  have hb := C.2.1
  refine lv_aload_n hx hb dX10_season_0 rfl (lv_at hl 0 rfl) ?_
  refine lv_iconst (v := nI 0) hx hb dX10_season_1 (by decide) ?_
  refine md_put_thrown C hW dX10_season_2 (fun H locs hW => ?_)
  refine lv_aload_n hx hb dX10_season_5 rfl (lv_at hl 0 rfl) ?_
  refine md_geta_m C hW dX10_season_6 ?_
  refine lv_iconst (v := nI 3) hx hb dX10_season_9 (by decide) ?_
  refine md_ald_m C hW (i := 3) (by omega) dX10_season_10 ?_
  refine r_eq (y := (S 0 3)) (rfl) ?_
  exact md_iret C hr hlocks rfl hW (⟨rfl, rfl⟩) dX10_season_11
theorem dX10_adoptedWeight_0 : decode cX10_adoptedWeight 0 = .ok (.aload_n 0, 1) := by decide +kernel
theorem dX10_adoptedWeight_1 : decode cX10_adoptedWeight 1 = .ok (.iconst 0, 1) := by decide +kernel
theorem dX10_adoptedWeight_2 : decode cX10_adoptedWeight 2 = .ok (.putfield 57, 3) := by decide +kernel
theorem dX10_adoptedWeight_5 : decode cX10_adoptedWeight 5 = .ok (.aload_n 0, 1) := by decide +kernel
theorem dX10_adoptedWeight_6 : decode cX10_adoptedWeight 6 = .ok (.getfield 9, 3) := by decide +kernel
theorem dX10_adoptedWeight_9 : decode cX10_adoptedWeight 9 = .ok (.bipush 8, 2) := by decide +kernel
theorem dX10_adoptedWeight_11 : decode cX10_adoptedWeight 11 = .ok (.iaload, 1) := by decide +kernel
theorem dX10_adoptedWeight_12 : decode cX10_adoptedWeight 12 = .ok (.ireturn, 1) := by decide +kernel
set_option maxHeartbeats 1000000 in
set_option maxRecDepth 20000 in
theorem m_adoptedWeight (l : Launch) (D : va_G) (aT : Nat → ClassId) (ad : Nat → Nat) (S : MSt) : MdI l yX10_adoptedWeight cX10_adoptedWeight 1 .int 0 0 D aT ad [.ref (ad 0)] S (fun r S1 => r = S 0 8 ∧ S1 = ss S 8 (nI 0)) := by
  refine MdI.of (by decide +kernel) rfl (Nat.le_of_ble_eq_true rfl) ?_
  intro p e s m below meth c A ls C hml hl hA hr hlocks hW
  have hl : lv_has ls 1 [(0, .ref (ad 0))] := hl
  have hx := C.1
  have hb := C.2.1
  refine lv_aload_n hx hb dX10_adoptedWeight_0 rfl (lv_at hl 0 rfl) ?_
  refine lv_iconst (v := nI 0) hx hb dX10_adoptedWeight_1 (by decide) ?_
  refine md_put_thrown C hW dX10_adoptedWeight_2 (fun H locs hW => ?_)
  refine lv_aload_n hx hb dX10_adoptedWeight_5 rfl (lv_at hl 0 rfl) ?_
  refine md_geta_m C hW dX10_adoptedWeight_6 ?_
  refine lv_bipush (v := nI 8) hx hb dX10_adoptedWeight_9 (by decide) ?_
  refine md_ald_m C hW (i := 8) (by omega) dX10_adoptedWeight_11 ?_
  refine r_eq (y := (S 0 8)) (rfl) ?_
  exact md_iret C hr hlocks rfl hW (⟨rfl, rfl⟩) dX10_adoptedWeight_12
theorem dX10_isConsistent_0 : decode cX10_isConsistent 0 = .ok (.aload_n 0, 1) := by decide +kernel
theorem dX10_isConsistent_1 : decode cX10_isConsistent 1 = .ok (.iconst 0, 1) := by decide +kernel
theorem dX10_isConsistent_2 : decode cX10_isConsistent 2 = .ok (.putfield 57, 3) := by decide +kernel
theorem dX10_isConsistent_5 : decode cX10_isConsistent 5 = .ok (.iconst 1, 1) := by decide +kernel
theorem dX10_isConsistent_6 : decode cX10_isConsistent 6 = .ok (.ireturn, 1) := by decide +kernel
set_option maxHeartbeats 1000000 in
set_option maxRecDepth 20000 in
theorem m_isConsistent (l : Launch) (D : va_G) (aT : Nat → ClassId) (ad : Nat → Nat) (S : MSt) : MdI l yX10_isConsistent cX10_isConsistent 1 .boolean 0 0 D aT ad [.ref (ad 0)] S (fun r S1 => r = nI 1 ∧ S1 = ss S 8 (nI 0)) := by
  refine MdI.of (by decide +kernel) rfl (Nat.le_of_ble_eq_true rfl) ?_
  intro p e s m below meth c A ls C hml hl hA hr hlocks hW
  have hl : lv_has ls 1 [(0, .ref (ad 0))] := hl
  have hx := C.1
  have hb := C.2.1
  refine lv_aload_n hx hb dX10_isConsistent_0 rfl (lv_at hl 0 rfl) ?_
  refine lv_iconst (v := nI 0) hx hb dX10_isConsistent_1 (by decide) ?_
  refine md_put_thrown C hW dX10_isConsistent_2 (fun H locs hW => ?_)
  refine lv_iconst (v := nI 1) hx hb dX10_isConsistent_5 (by decide) ?_
  exact md_iret C hr hlocks (by decide) hW (⟨rfl, rfl⟩) dX10_isConsistent_6
theorem dX10_minutesIn_0 : decode cX10_minutesIn 0 = .ok (.aload_n 0, 1) := by decide +kernel
theorem dX10_minutesIn_1 : decode cX10_minutesIn 1 = .ok (.iconst 0, 1) := by decide +kernel
theorem dX10_minutesIn_2 : decode cX10_minutesIn 2 = .ok (.putfield 57, 3) := by decide +kernel
theorem dX10_minutesIn_5 : decode cX10_minutesIn 5 = .ok (.iload_n 1, 1) := by decide +kernel
theorem dX10_minutesIn_6 : decode cX10_minutesIn 6 = .ok (.i2l, 1) := by decide +kernel
theorem dX10_minutesIn_7 : decode cX10_minutesIn 7 = .ok (.lconst 0, 1) := by decide +kernel
theorem dX10_minutesIn_8 : decode cX10_minutesIn 8 = .ok (.ldc2_w 202, 3) := by decide +kernel
theorem dX10_minutesIn_11 : decode cX10_minutesIn 11 = .ok (.invokestatic 63, 3) := by decide +kernel
theorem dX10_minutesIn_14 : decode cX10_minutesIn 14 = .ok (.ifCond .eq 14, 3) := by decide +kernel
theorem dX10_minutesIn_17 : decode cX10_minutesIn 17 = .ok (.aload_n 0, 1) := by decide +kernel
theorem dX10_minutesIn_18 : decode cX10_minutesIn 18 = .ok (.getfield 9, 3) := by decide +kernel
theorem dX10_minutesIn_21 : decode cX10_minutesIn 21 = .ok (.iconst 4, 1) := by decide +kernel
theorem dX10_minutesIn_22 : decode cX10_minutesIn 22 = .ok (.iload_n 1, 1) := by decide +kernel
theorem dX10_minutesIn_23 : decode cX10_minutesIn 23 = .ok (.iadd, 1) := by decide +kernel
theorem dX10_minutesIn_24 : decode cX10_minutesIn 24 = .ok (.iaload, 1) := by decide +kernel
theorem dX10_minutesIn_25 : decode cX10_minutesIn 25 = .ok (.goto 8, 3) := by decide +kernel
theorem dX10_minutesIn_28 : decode cX10_minutesIn 28 = .ok (.aload_n 0, 1) := by decide +kernel
theorem dX10_minutesIn_29 : decode cX10_minutesIn 29 = .ok (.iconst 1, 1) := by decide +kernel
theorem dX10_minutesIn_30 : decode cX10_minutesIn 30 = .ok (.invokevirtual 101, 3) := by decide +kernel
theorem dX10_minutesIn_33 : decode cX10_minutesIn 33 = .ok (.ireturn, 1) := by decide +kernel
set_option maxHeartbeats 1000000 in
set_option maxRecDepth 20000 in
theorem m_minutesIn (l : Launch) (D : va_G) (aT : Nat → ClassId) (ad : Nat → Nat) (S : MSt) (x : Int32) : MdI l yX10_minutesIn cX10_minutesIn 2 .int 1 25 D aT ad [.ref (ad 0), .int x] S (fun r S1 => (rgB 0 3 x = false ∧ r = -1 ∧ S1 = ss S 8 (nI 1)) ∨ (∃ v, v ≤ 3 ∧ x = nI v ∧ r = S 0 (4 + v) ∧ S1 = ss S 8 (nI 0))) := by
  refine MdI.of (by decide +kernel) rfl (Nat.le_of_ble_eq_true rfl) ?_
  intro p e s m below meth c A ls C hml hl hA hr hlocks hW
  have hl : lv_has ls 2 [(0, .ref (ad 0)), (1, .int x)] := hl
  have hx := C.1
  have hb := C.2.1
  refine lv_aload_n hx hb dX10_minutesIn_0 rfl (lv_at hl 0 rfl) ?_
  refine lv_iconst (v := nI 0) hx hb dX10_minutesIn_1 (by decide) ?_
  refine md_put_thrown C hW dX10_minutesIn_2 (fun H locs hW => ?_)
  refine lv_iload_n hx hb dX10_minutesIn_5 rfl (lv_at hl 1 rfl) ?_
  refine lv_i2l (v := (x).toInt64) hx hb dX10_minutesIn_6 rfl ?_
  refine lv_lconst (v := 0) hx hb dX10_minutesIn_7 (by decide) ?_
  refine lv_ldc2 hx hb C.2.2.2.1 (C.2.2.1 _ gw_1969) dX10_minutesIn_8 ?_
  refine md_calls C hml hl.1 (As := [.long ((x).toInt64), .long 0, .long 3]) (rest := []) (m_in l ((x).toInt64) 0 3) gT_in hd_in rfl ⟨Nat.le_of_ble_eq_true rfl, Nat.le_of_ble_eq_true rfl⟩ ⟨Nat.le_refl _, Nat.le_refl _⟩ rfl (Nat.le_of_ble_eq_true rfl) dX10_minutesIn_11 (fun r_11 hq => ?_)
  subst hq
  refine r_bI_eq hx hb (b := (rgB 0 3 x)) (tgt := 28) dX10_minutesIn_14 (by decide) (fun c_14 => ?_) (fun c_14 => ?_)
  · refine lv_aload_n hx hb dX10_minutesIn_28 rfl (lv_at hl 0 rfl) ?_
    refine lv_iconst (v := nI 1) hx hb dX10_minutesIn_29 (by decide) ?_
    refine md_calli C hml hl.1 (As := [.int (nI 1)]) (rest := []) (m_throwing l D aT ad (ss S 8 (nI 0)) 1) gT_throwing hd_throwing rfl ⟨Nat.le_of_ble_eq_true rfl, Nat.le_of_ble_eq_true rfl⟩ ⟨Nat.le_refl _, Nat.le_refl _⟩ hW hA rfl (Nat.le_of_ble_eq_true rfl) dX10_minutesIn_30 (fun r_30 S_30 H locs hq hW => ?_)
    obtain ⟨rfl, rfl⟩ := hq
    exact md_iret C hr hlocks rfl hW (Or.inl ⟨c_14, rfl, ss_ss _ _ _ _⟩) dX10_minutesIn_33
  · obtain ⟨v, rfl, hv3, -⟩ := rg_nat c_14 (Or.inl (by decide)) (by decide)
    have hv3 : v ≤ 3 := by have : (3 : Int64).toInt = 3 := by decide
                           omega
    refine lv_aload_n hx hb dX10_minutesIn_17 rfl (lv_at hl 0 rfl) ?_
    refine md_geta_m C hW dX10_minutesIn_18 ?_
    refine lv_iconst (v := nI 4) hx hb dX10_minutesIn_21 (by decide) ?_
    refine lv_iload_n hx hb dX10_minutesIn_22 rfl (lv_at hl 1 rfl) ?_
    refine r_iaddN hx hb (a := 4) (b := v) dX10_minutesIn_23 ?_
    refine md_ald_m C hW (i := 4 + v) (by omega) dX10_minutesIn_24 ?_
    refine r_eq (y := (S 0 (4 + v))) (rfl) ?_
    refine lv_goto (tgt := 33) hx hb dX10_minutesIn_25 (by decide) ?_
    exact md_iret C hr hlocks rfl hW (Or.inr ⟨v, hv3, rfl, rfl, rfl⟩) dX10_minutesIn_33
theorem gT_weightTotal : GoodIn gw (wsV RX10 204 RX10 yX10_weightTotal (Cond.code yX10_weightTotal cX10_weightTotal 3 (some .int) :: gw)) := gdV gw_1982 gw_1975 gw_1976 gw_81 gw_1977
theorem hd_weightTotal : yX10_weightTotal.cls = RX10 ∧ yX10_weightTotal.cls ≠ "java/lang/invoke/MethodHandle" ∧ yX10_weightTotal.cls ≠ "java/lang/invoke/VarHandle" ∧ (parseMethodDescriptor yX10_weightTotal.desc).map (fun d => d.parameters.length) = some 0 := ⟨rfl, by decide +kernel, by decide +kernel, by decide +kernel⟩
theorem dX10_weightTotal_0 : decode cX10_weightTotal 0 = .ok (.aload_n 0, 1) := by decide +kernel
theorem dX10_weightTotal_1 : decode cX10_weightTotal 1 = .ok (.iconst 0, 1) := by decide +kernel
theorem dX10_weightTotal_2 : decode cX10_weightTotal 2 = .ok (.putfield 57, 3) := by decide +kernel
theorem dX10_weightTotal_5 : decode cX10_weightTotal 5 = .ok (.iconst 0, 1) := by decide +kernel
theorem dX10_weightTotal_6 : decode cX10_weightTotal 6 = .ok (.istore_n 1, 1) := by decide +kernel
theorem dX10_weightTotal_7 : decode cX10_weightTotal 7 = .ok (.iconst 0, 1) := by decide +kernel
theorem dX10_weightTotal_8 : decode cX10_weightTotal 8 = .ok (.istore_n 2, 1) := by decide +kernel
theorem dX10_weightTotal_9 : decode cX10_weightTotal 9 = .ok (.iload_n 2, 1) := by decide +kernel
theorem dX10_weightTotal_10 : decode cX10_weightTotal 10 = .ok (.aload_n 0, 1) := by decide +kernel
theorem dX10_weightTotal_11 : decode cX10_weightTotal 11 = .ok (.getfield 9, 3) := by decide +kernel
theorem dX10_weightTotal_14 : decode cX10_weightTotal 14 = .ok (.iconst 2, 1) := by decide +kernel
theorem dX10_weightTotal_15 : decode cX10_weightTotal 15 = .ok (.iaload, 1) := by decide +kernel
theorem dX10_weightTotal_16 : decode cX10_weightTotal 16 = .ok (.if_icmp .ge 18, 3) := by decide +kernel
theorem dX10_weightTotal_19 : decode cX10_weightTotal 19 = .ok (.iload_n 1, 1) := by decide +kernel
theorem dX10_weightTotal_20 : decode cX10_weightTotal 20 = .ok (.aload_n 0, 1) := by decide +kernel
theorem dX10_weightTotal_21 : decode cX10_weightTotal 21 = .ok (.iload_n 2, 1) := by decide +kernel
theorem dX10_weightTotal_22 : decode cX10_weightTotal 22 = .ok (.iconst 3, 1) := by decide +kernel
theorem dX10_weightTotal_23 : decode cX10_weightTotal 23 = .ok (.invokevirtual 67, 3) := by decide +kernel
theorem dX10_weightTotal_26 : decode cX10_weightTotal 26 = .ok (.iadd, 1) := by decide +kernel
theorem dX10_weightTotal_27 : decode cX10_weightTotal 27 = .ok (.istore_n 1, 1) := by decide +kernel
theorem dX10_weightTotal_28 : decode cX10_weightTotal 28 = .ok (.iinc 2 1, 3) := by decide +kernel
theorem dX10_weightTotal_31 : decode cX10_weightTotal 31 = .ok (.goto (-22), 3) := by decide +kernel
theorem dX10_weightTotal_34 : decode cX10_weightTotal 34 = .ok (.iload_n 1, 1) := by decide +kernel
theorem dX10_weightTotal_35 : decode cX10_weightTotal 35 = .ok (.ireturn, 1) := by decide +kernel
set_option maxHeartbeats 1000000 in
set_option maxRecDepth 20000 in
theorem m_weightTotal (l : Launch) (D : va_G) (aT : Nat → ClassId) (ad : Nat → Nat) (S : MSt) (hF : FoW (S 0)) : MdI l yX10_weightTotal cX10_weightTotal 3 .int 1 22 D aT ad [.ref (ad 0)] S (fun r S1 => r = smw (S 0) (nM (S 0)) ∧ S1 = ss S 8 (nI 0)) := by
  refine MdI.of (by decide +kernel) rfl (Nat.le_of_ble_eq_true rfl) ?_
  intro p e s m below meth c A ls C hml hl hA hr hlocks hW
  have hl : lv_has ls 3 [(0, .ref (ad 0))] := hl
  have hx := C.1
  have hb := C.2.1
  refine lv_aload_n hx hb dX10_weightTotal_0 rfl (lv_at hl 0 rfl) ?_
  refine lv_iconst (v := nI 0) hx hb dX10_weightTotal_1 (by decide) ?_
  refine md_put_thrown C hW dX10_weightTotal_2 (fun H locs hW => ?_)
  refine lv_iconst (v := nI 0) hx hb dX10_weightTotal_5 (by decide) ?_
  refine lv_istore_n (lv' := [(1, .int (nI 0)), (0, .ref (ad 0))]) hx hb dX10_weightTotal_6 rfl hl (by decide) rfl (fun ls hl => ?_)
  refine lv_iconst (v := nI 0) hx hb dX10_weightTotal_7 (by decide) ?_
  refine lv_istore_n (lv' := [(2, .int (nI 0)), (1, .int (nI 0)), (0, .ref (ad 0))]) hx hb dX10_weightTotal_8 rfl hl (by decide) rfl (fun ls hl => ?_)
  refine W_loopH (σ := Int32 × Nat) (fun z_ => nM (S 0) - z_.2) (fun z_ H locs g => ∃ ls, g = F0 m 9 ls [] ∧ lv_has ls 3 [(0, .ref (ad 0)), (1, .int z_.1), (2, .int (nI z_.2))] ∧ MdB D aT ad (ss S 8 (nI 0)) A s.heap H locs ∧ (z_.1 = smw (S 0) z_.2 ∧ z_.2 ≤ nM (S 0))) ?_ ((nI 0), 0) _ ⟨_, rfl, lv_sub hl [2, 1, 0] rfl, hW, ⟨rfl, Nat.zero_le _⟩⟩
  clear hW hl
  rintro ⟨a, i⟩ H locs g ⟨ls, rfl, hl, hW, ha, hin⟩ ih_9
  dsimp only at hl hW ha hin ⊢
  have h12 := hF.n12
  refine lv_iload_n hx hb dX10_weightTotal_9 rfl (lv_at hl 2 rfl) ?_
  refine lv_aload_n hx hb dX10_weightTotal_10 rfl (lv_at hl 0 rfl) ?_
  refine md_geta_m C hW dX10_weightTotal_11 ?_
  refine lv_iconst (v := nI 2) hx hb dX10_weightTotal_14 (by decide) ?_
  refine md_ald_m C hW (i := 2) (by omega) dX10_weightTotal_15 ?_
  refine r_eq (y := (nI (nM (S 0)))) (hF.1) ?_
  refine r_geN hx hb (a := i) (b := (nM (S 0))) (by omega) (by omega) (tgt := 34) dX10_weightTotal_16 (by decide) (fun c_16 => ?_) (fun c_16 => ?_)
  · refine lv_iload_n hx hb dX10_weightTotal_34 rfl (lv_at hl 1 rfl) ?_
    exact md_iret C hr hlocks rfl hW (⟨by rw [ha, show nM (S 0) = i by omega], rfl⟩) dX10_weightTotal_35
  · refine lv_iload_n hx hb dX10_weightTotal_19 rfl (lv_at hl 1 rfl) ?_
    refine lv_aload_n hx hb dX10_weightTotal_20 rfl (lv_at hl 0 rfl) ?_
    refine lv_iload_n hx hb dX10_weightTotal_21 rfl (lv_at hl 2 rfl) ?_
    refine lv_iconst (v := nI 3) hx hb dX10_weightTotal_22 (by decide) ?_
    refine md_callg C hml hl.1 (As := [.int (nI i), .int (nI 3)]) (rest := [.int a]) (m_of l D aT ad (ss S 8 (nI 0)) i 3 (by omega)) gT_of hd_of rfl ⟨Nat.le_of_ble_eq_true rfl, Nat.le_of_ble_eq_true rfl⟩ ⟨Nat.le_refl _, Nat.le_refl _⟩ hW hA rfl (Nat.le_of_ble_eq_true rfl) dX10_weightTotal_23 (fun r_23 H locs hq hW => ?_)
    subst hq
    refine r_eq (y := (S 0 (29 + 4 * i + 3))) (rfl) ?_
    refine lv_iadd hx hb dX10_weightTotal_26 ?_
    refine lv_istore_n (lv' := [(1, .int (a + (S 0 (29 + 4 * i + 3)))), (0, .ref (ad 0)), (2, .int (nI i))]) hx hb dX10_weightTotal_27 rfl hl (by decide) rfl (fun ls hl => ?_)
    refine lv_iinc (v := (nI (i + 1))) (lv' := [(2, .int (nI (i + 1))), (1, .int (a + (S 0 (29 + 4 * i + 3)))), (0, .ref (ad 0))]) hx hb dX10_weightTotal_28 hl (k := 2) rfl (nI_1 _) (by decide) rfl (fun ls hl => ?_)
    refine lv_goto (tgt := 9) hx hb dX10_weightTotal_31 (by decide) ?_
    exact ih_9 ((a + (S 0 (29 + 4 * i + 3))), (i + 1)) _ _ _ (by dsimp only; omega) ⟨_, rfl, lv_sub hl [2, 1, 0] rfl, hW, ⟨by rw [smw, ← ha], by (try dsimp only); omega⟩⟩
end
section
def mAh (m : Nat → Int32) (a b : Nat) : Bool := if m (29 + 4 * a + 3) - m (29 + 4 * b + 3) = 0 then decide (dep (prM m) a < dep (prM m) b ∨ (dep (prM m) a = dep (prM m) b ∧ a < b)) else decide (0 < m (29 + 4 * a + 3) - m (29 + 4 * b + 3))
def cmC (pr : Nat → Option Nat) (a b k : Nat) (o : Option Nat) : Bool := anc pr k a && anc pr k b && (match o with | none => true | some f => decide (dep pr f < dep pr k))
/-- the deepest of the first places whose branch has both a and b -/
def cmF (pr : Nat → Option Nat) (a b : Nat) : Nat → Option Nat
  | 0 => none
  | k + 1 => if cmC pr a b k (cmF pr a b k) then some k else cmF pr a b k
theorem cmF_no1 {pr : Nat → Option Nat} {a b k : Nat} (h : anc pr k a = false) : cmF pr a b (k + 1) = cmF pr a b k := by rw [cmF]; unfold cmC; rw [h]; rfl
theorem cmF_no2 {pr : Nat → Option Nat} {a b k : Nat} (h : anc pr k b = false) : cmF pr a b (k + 1) = cmF pr a b k := by rw [cmF]; unfold cmC; rw [h, Bool.and_false]; rfl
theorem cmF_y0 {pr : Nat → Option Nat} {a b k : Nat} (h1 : anc pr k a = true) (h2 : anc pr k b = true) (h : cmF pr a b k = none) : cmF pr a b (k + 1) = some k := by rw [cmF]; unfold cmC; rw [h1, h2, h]; rfl
theorem cmF_y1 {pr : Nat → Option Nat} {a b k f : Nat} (h1 : anc pr k a = true) (h2 : anc pr k b = true) (h : cmF pr a b k = some f) (h3 : dep pr f < dep pr k) : cmF pr a b (k + 1) = some k := by rw [cmF]; unfold cmC; rw [h1, h2, h]; simp [h3]
theorem cmF_no3 {pr : Nat → Option Nat} {a b k f : Nat} (h : cmF pr a b k = some f) (h3 : dep pr k ≤ dep pr f) : cmF pr a b (k + 1) = cmF pr a b k := by rw [cmF]; unfold cmC; rw [h]; simp [Nat.not_lt.mpr h3]
theorem cmF_at {pr : Nat → Option Nat} {a b : Nat} : ∀ {n k : Nat}, cmF pr a b n = some k → k < n ∧ anc pr k a = true ∧ anc pr k b = true := by
  intro n
  induction n with
  | zero => intro k h; cases h
  | succ n ih =>
    intro k h
    unfold cmF at h
    by_cases hc : cmC pr a b n (cmF pr a b n) = true
    · rw [if_pos hc] at h
      cases h
      unfold cmC at hc
      rw [Bool.and_eq_true, Bool.and_eq_true] at hc
      exact ⟨by omega, hc.1.1, hc.1.2⟩
    · rw [if_neg hc] at h
      obtain ⟨h1, h2, h3⟩ := ih h
      exact ⟨by omega, h2, h3⟩
theorem cmF_ex {pr : Nat → Option Nat} {a b r : Nat} (h1 : anc pr r a = true) (h2 : anc pr r b = true) : ∀ {n : Nat}, r < n → ∃ k, cmF pr a b n = some k := by
  intro n
  induction n with
  | zero => intro h; omega
  | succ n ih =>
    intro h
    unfold cmF
    by_cases hc : cmC pr a b n (cmF pr a b n) = true
    · rw [if_pos hc]; exact ⟨n, rfl⟩
    · rw [if_neg hc]
      rcases Nat.lt_or_ge r n with q | q
      · exact ih q
      · have e : r = n := by omega
        subst e
        cases hf : cmF pr a b r with
        | some f => exact ⟨f, rfl⟩
        | none => unfold cmC at hc; rw [h1, h2, hf] at hc; exact absurd rfl hc
theorem anc_dep {pr : Nat → Option Nat} {n r : Nat} (h : ParOk pr n) : ∀ k, k < n → anc pr r k = true → dep pr r ≤ dep pr k := by
  intro k
  induction k using Nat.strongRecOn with
  | _ k ih =>
    intro hk ha
    by_cases hr : k = r
    · subst hr; exact Nat.le_refl _
    · rw [anc_O h hk hr] at ha
      cases hq : pr k with
      | none => rw [hq] at ha; cases ha
      | some j =>
        rw [hq] at ha
        have hj := h k j hk hq
        have := ih j hj (by omega) ha
        rw [dep_some h hk hq]; omega
def stN (pr : Nat → Option Nat) (n a b : Nat) : Nat := match cmF pr a b n with
  | some k => dep pr a + dep pr b - 2 * dep pr k
  | none => 0
/-- the longest way from a to one of the first b places, in the branch of r, and at least most -/
def lpI (pr : Nat → Option Nat) (n r a most : Nat) : Nat → Nat
  | 0 => most
  | b + 1 => max (lpI pr n r a most b) (if anc pr r b then stN pr n a b else 0)
def lpO (pr : Nat → Option Nat) (n r : Nat) : Nat → Nat
  | 0 => 0
  | a + 1 => if anc pr r a then lpI pr n r a (lpO pr n r a) (a + 1) else lpO pr n r a
theorem max_nI {a b : Nat} (ha : a < 2 ^ 31) (hb : b < 2 ^ 31) : (if nI a < nI b then nI b else nI a) = nI (max a b) := by
  by_cases h : a < b
  · rw [if_pos ((nI_ltI ha hb).mpr h), Nat.max_eq_right (by omega)]
  · rw [if_neg (fun z => h ((nI_ltI ha hb).mp z)), Nat.max_eq_left (by omega)]
theorem stN_le {pr : Nat → Option Nat} {n a b : Nat} (h : ParOk pr n) (ha : a < n) (hb : b < n) : stN pr n a b ≤ 2 * n := by
  unfold stN
  have := dep_le h a ha
  have := dep_le h b hb
  split <;> omega
theorem lpI_le {pr : Nat → Option Nat} {n r a most B : Nat} (h : ParOk pr n) (ha : a < n) (hm : most ≤ B) (hB : 2 * n ≤ B) : ∀ b, b ≤ n → lpI pr n r a most b ≤ B := by
  intro b
  induction b with
  | zero => intro _; exact hm
  | succ b ih =>
    intro hb
    unfold lpI
    have h1 := ih (by omega)
    have h2 := stN_le h ha (show b < n by omega)
    split <;> omega
theorem lpO_le {pr : Nat → Option Nat} {n r : Nat} (h : ParOk pr n) : ∀ a, a ≤ n → lpO pr n r a ≤ 2 * n := by
  intro a
  induction a with
  | zero => intro _; exact Nat.zero_le _
  | succ a ih =>
    intro ha
    unfold lpO
    split
    · exact lpI_le h (by omega) (ih (by omega)) (Nat.le_refl _) _ (by omega)
    · exact ih (by omega)
/-- the first n places from the past -/
def getF (f g : Nat → Int32) (b n : Nat) : Nat → Int32 := fun j => if j < n then g (b + j) else f j
theorem getF_0 (f g : Nat → Int32) (b : Nat) : getF f g b 0 = f := by funext j; simp [getF]
theorem getF_1 (f g : Nat → Int32) (b i : Nat) : upd (getF f g b i) i (g (b + i)) = getF f g b (i + 1) := by
  funext j; unfold upd getF
  by_cases h1 : j = i
  · subst h1; rw [if_pos rfl, if_pos (by omega)]
  · rw [if_neg h1]
    by_cases h2 : j < i
    · rw [if_pos h2, if_pos (by omega)]
    · rw [if_neg h2, if_neg (by omega)]
theorem dX10_parent_0 : decode cX10_parent 0 = .ok (.aload_n 0, 1) := by decide +kernel
theorem dX10_parent_1 : decode cX10_parent 1 = .ok (.iload_n 1, 1) := by decide +kernel
theorem dX10_parent_2 : decode cX10_parent 2 = .ok (.iconst 1, 1) := by decide +kernel
theorem dX10_parent_3 : decode cX10_parent 3 = .ok (.invokevirtual 172, 3) := by decide +kernel
theorem dX10_parent_6 : decode cX10_parent 6 = .ok (.istore_n 2, 1) := by decide +kernel
theorem dX10_parent_7 : decode cX10_parent 7 = .ok (.iload_n 2, 1) := by decide +kernel
theorem dX10_parent_8 : decode cX10_parent 8 = .ok (.iconst (-1), 1) := by decide +kernel
theorem dX10_parent_9 : decode cX10_parent 9 = .ok (.if_icmp .ne 11, 3) := by decide +kernel
theorem dX10_parent_12 : decode cX10_parent 12 = .ok (.aload_n 0, 1) := by decide +kernel
theorem dX10_parent_13 : decode cX10_parent 13 = .ok (.iconst 1, 1) := by decide +kernel
theorem dX10_parent_14 : decode cX10_parent 14 = .ok (.invokevirtual 101, 3) := by decide +kernel
theorem dX10_parent_17 : decode cX10_parent 17 = .ok (.goto 4, 3) := by decide +kernel
theorem dX10_parent_20 : decode cX10_parent 20 = .ok (.iload_n 2, 1) := by decide +kernel
theorem dX10_parent_21 : decode cX10_parent 21 = .ok (.ireturn, 1) := by decide +kernel
set_option maxHeartbeats 1000000 in
set_option maxRecDepth 20000 in
theorem m_parent (l : Launch) (D : va_G) (aT : Nat → ClassId) (ad : Nat → Nat) (S : MSt) (x : Int32) (hF : FoW (S 0)) : MdI l yX10_parent cX10_parent 3 .int 3 66 D aT ad [.ref (ad 0), .int x] S (fun r S1 => (fnd (fun k => S 0 (29 + 4 * k)) x (nM (S 0)) = none ∧ r = -1 ∧ S1 = ss S 8 (nI 1)) ∨ (∃ q, fnd (fun k => S 0 (29 + 4 * k)) x (nM (S 0)) = some q ∧ prM (S 0) q = none ∧ r = -1 ∧ S1 = ss S 8 (nI 1)) ∨ (∃ q j, fnd (fun k => S 0 (29 + 4 * k)) x (nM (S 0)) = some q ∧ prM (S 0) q = some j ∧ r = nI (idM (S 0) j) ∧ S1 = ss S 8 (nI 0))) := by
  refine MdI.of (by decide +kernel) rfl (Nat.le_of_ble_eq_true rfl) ?_
  intro p e s m below meth c A ls C hml hl hA hr hlocks hW
  have hl : lv_has ls 3 [(0, .ref (ad 0)), (1, .int x)] := hl
  have hx := C.1
  have hb := C.2.1
  refine lv_aload_n hx hb dX10_parent_0 rfl (lv_at hl 0 rfl) ?_
  refine lv_iload_n hx hb dX10_parent_1 rfl (lv_at hl 1 rfl) ?_
  refine lv_iconst (v := nI 1) hx hb dX10_parent_2 (by decide) ?_
  refine md_calli C hml hl.1 (As := [.int x, .int (nI 1)]) (rest := []) (m_ofMotion l D aT ad S (x) 1 (by decide) hF) gT_ofMotion hd_ofMotion rfl ⟨Nat.le_of_ble_eq_true rfl, Nat.le_of_ble_eq_true rfl⟩ ⟨Nat.le_refl _, Nat.le_refl _⟩ hW hA rfl (Nat.le_of_ble_eq_true rfl) dX10_parent_3 (fun r_3 S_3 H locs hq hW => ?_)
  rcases hq with ⟨h1, rfl, rfl⟩ | ⟨q, h1, rfl, rfl⟩
  · refine lv_istore_n (lv' := [(2, .int (-1)), (0, .ref (ad 0)), (1, .int x)]) hx hb dX10_parent_6 rfl hl (by decide) rfl (fun ls hl => ?_)
    refine lv_iload_n hx hb dX10_parent_7 rfl (lv_at hl 0 rfl) ?_
    refine lv_iconst (v := (-1)) hx hb dX10_parent_8 (by decide) ?_
    refine lv_icmp_ne hx hb (x := (-1)) (y := (-1)) (tgt := 20) dX10_parent_9 (by decide) (fun c_9 => ?_) (fun c_9 => ?_)
    · exact absurd rfl c_9
    · refine lv_aload_n hx hb dX10_parent_12 rfl (lv_at hl 1 rfl) ?_
      refine lv_iconst (v := nI 1) hx hb dX10_parent_13 (by decide) ?_
      refine md_calli C hml hl.1 (As := [.int (nI 1)]) (rest := []) (m_throwing l D aT ad (ss S 8 (nI 1)) 1) gT_throwing hd_throwing rfl ⟨Nat.le_of_ble_eq_true rfl, Nat.le_of_ble_eq_true rfl⟩ ⟨Nat.le_refl _, Nat.le_refl _⟩ hW hA rfl (Nat.le_of_ble_eq_true rfl) dX10_parent_14 (fun r_14 S_14 H locs hq hW => ?_)
      obtain ⟨rfl, rfl⟩ := hq
      refine lv_goto (tgt := 21) hx hb dX10_parent_17 (by decide) ?_
      exact md_iret C hr hlocks rfl hW (Or.inl ⟨h1, rfl, ss_ss _ _ _ _⟩) dX10_parent_21
  · refine r_eq (y := (oi ((prM (S 0) q).map (idM (S 0))))) (hF.2.2.2.1 q (fnd_some h1).1) ?_
    refine lv_istore_n (lv' := [(2, .int (oi ((prM (S 0) q).map (idM (S 0))))), (0, .ref (ad 0)), (1, .int x)]) hx hb dX10_parent_6 rfl hl (by decide) rfl (fun ls hl => ?_)
    refine lv_iload_n hx hb dX10_parent_7 rfl (lv_at hl 0 rfl) ?_
    refine lv_iconst (v := (-1)) hx hb dX10_parent_8 (by decide) ?_
    refine r_oi_ne hx hb (o := ((prM (S 0) q).map (idM (S 0)))) (hF.pid (fnd_some h1).1) (tgt := 20) dX10_parent_9 (by decide) (fun j_9 c_9 => ?_) (fun c_9 => ?_)
    · have hl : lv_has ls 3 [(2, .int (nI j_9)), (0, .ref (ad 0)), (1, .int x)] := by rw [c_9] at hl; exact hl
      refine lv_iload_n hx hb dX10_parent_20 rfl (lv_at hl 0 rfl) ?_
      exact md_iret C hr hlocks rfl hW (Or.inr (Or.inr (by obtain ⟨j, hj1, hj2⟩ := Option.map_eq_some_iff.mp c_9; exact ⟨q, j, h1, hj1, by rw [hj2], rfl⟩))) dX10_parent_21
    · have hl : lv_has ls 3 [(2, .int (-1)), (0, .ref (ad 0)), (1, .int x)] := by rw [c_9] at hl; exact hl
      refine lv_aload_n hx hb dX10_parent_12 rfl (lv_at hl 1 rfl) ?_
      refine lv_iconst (v := nI 1) hx hb dX10_parent_13 (by decide) ?_
      refine md_calli C hml hl.1 (As := [.int (nI 1)]) (rest := []) (m_throwing l D aT ad (ss S 8 (nI 0)) 1) gT_throwing hd_throwing rfl ⟨Nat.le_of_ble_eq_true rfl, Nat.le_of_ble_eq_true rfl⟩ ⟨Nat.le_refl _, Nat.le_refl _⟩ hW hA rfl (Nat.le_of_ble_eq_true rfl) dX10_parent_14 (fun r_14 S_14 H locs hq hW => ?_)
      obtain ⟨rfl, rfl⟩ := hq
      refine lv_goto (tgt := 21) hx hb dX10_parent_17 (by decide) ?_
      exact md_iret C hr hlocks rfl hW (Or.inr (Or.inl ⟨q, h1, by simpa using c_9, rfl, ss_ss _ _ _ _⟩)) dX10_parent_21
theorem gT_isMotionAhead : GoodIn gw (wsV RX10 175 RX10 yX10_isMotionAhead (Cond.code yX10_isMotionAhead cX10_isMotionAhead 4 (some .boolean) :: gw)) := gdV gw_1910 gw_1912 gw_48 gw_81 gw_1913
theorem hd_isMotionAhead : yX10_isMotionAhead.cls = RX10 ∧ yX10_isMotionAhead.cls ≠ "java/lang/invoke/MethodHandle" ∧ yX10_isMotionAhead.cls ≠ "java/lang/invoke/VarHandle" ∧ (parseMethodDescriptor yX10_isMotionAhead.desc).map (fun d => d.parameters.length) = some 2 := ⟨rfl, by decide +kernel, by decide +kernel, by decide +kernel⟩
theorem dX10_isMotionAhead_0 : decode cX10_isMotionAhead 0 = .ok (.aload_n 0, 1) := by decide +kernel
theorem dX10_isMotionAhead_1 : decode cX10_isMotionAhead 1 = .ok (.iload_n 1, 1) := by decide +kernel
theorem dX10_isMotionAhead_2 : decode cX10_isMotionAhead 2 = .ok (.iconst 3, 1) := by decide +kernel
theorem dX10_isMotionAhead_3 : decode cX10_isMotionAhead 3 = .ok (.invokevirtual 67, 3) := by decide +kernel
theorem dX10_isMotionAhead_6 : decode cX10_isMotionAhead 6 = .ok (.aload_n 0, 1) := by decide +kernel
theorem dX10_isMotionAhead_7 : decode cX10_isMotionAhead 7 = .ok (.iload_n 2, 1) := by decide +kernel
theorem dX10_isMotionAhead_8 : decode cX10_isMotionAhead 8 = .ok (.iconst 3, 1) := by decide +kernel
theorem dX10_isMotionAhead_9 : decode cX10_isMotionAhead 9 = .ok (.invokevirtual 67, 3) := by decide +kernel
theorem dX10_isMotionAhead_12 : decode cX10_isMotionAhead 12 = .ok (.isub, 1) := by decide +kernel
theorem dX10_isMotionAhead_13 : decode cX10_isMotionAhead 13 = .ok (.istore_n 3, 1) := by decide +kernel
theorem dX10_isMotionAhead_14 : decode cX10_isMotionAhead 14 = .ok (.iload_n 3, 1) := by decide +kernel
theorem dX10_isMotionAhead_15 : decode cX10_isMotionAhead 15 = .ok (.ifCond .ne 17, 3) := by decide +kernel
theorem dX10_isMotionAhead_18 : decode cX10_isMotionAhead 18 = .ok (.aload_n 0, 1) := by decide +kernel
theorem dX10_isMotionAhead_19 : decode cX10_isMotionAhead 19 = .ok (.iload_n 2, 1) := by decide +kernel
theorem dX10_isMotionAhead_20 : decode cX10_isMotionAhead 20 = .ok (.invokevirtual 125, 3) := by decide +kernel
theorem dX10_isMotionAhead_23 : decode cX10_isMotionAhead 23 = .ok (.aload_n 0, 1) := by decide +kernel
theorem dX10_isMotionAhead_24 : decode cX10_isMotionAhead 24 = .ok (.iload_n 1, 1) := by decide +kernel
theorem dX10_isMotionAhead_25 : decode cX10_isMotionAhead 25 = .ok (.invokevirtual 125, 3) := by decide +kernel
theorem dX10_isMotionAhead_28 : decode cX10_isMotionAhead 28 = .ok (.isub, 1) := by decide +kernel
theorem dX10_isMotionAhead_29 : decode cX10_isMotionAhead 29 = .ok (.goto 4, 3) := by decide +kernel
theorem dX10_isMotionAhead_32 : decode cX10_isMotionAhead 32 = .ok (.iload_n 3, 1) := by decide +kernel
theorem dX10_isMotionAhead_33 : decode cX10_isMotionAhead 33 = .ok (.istore_n 3, 1) := by decide +kernel
theorem dX10_isMotionAhead_34 : decode cX10_isMotionAhead 34 = .ok (.iload_n 3, 1) := by decide +kernel
theorem dX10_isMotionAhead_35 : decode cX10_isMotionAhead 35 = .ok (.ifCond .gt 12, 3) := by decide +kernel
theorem dX10_isMotionAhead_38 : decode cX10_isMotionAhead 38 = .ok (.iload_n 3, 1) := by decide +kernel
theorem dX10_isMotionAhead_39 : decode cX10_isMotionAhead 39 = .ok (.ifCond .ne 12, 3) := by decide +kernel
theorem dX10_isMotionAhead_42 : decode cX10_isMotionAhead 42 = .ok (.iload_n 1, 1) := by decide +kernel
theorem dX10_isMotionAhead_43 : decode cX10_isMotionAhead 43 = .ok (.iload_n 2, 1) := by decide +kernel
theorem dX10_isMotionAhead_44 : decode cX10_isMotionAhead 44 = .ok (.if_icmp .ge 7, 3) := by decide +kernel
theorem dX10_isMotionAhead_47 : decode cX10_isMotionAhead 47 = .ok (.iconst 1, 1) := by decide +kernel
theorem dX10_isMotionAhead_48 : decode cX10_isMotionAhead 48 = .ok (.goto 4, 3) := by decide +kernel
theorem dX10_isMotionAhead_51 : decode cX10_isMotionAhead 51 = .ok (.iconst 0, 1) := by decide +kernel
theorem dX10_isMotionAhead_52 : decode cX10_isMotionAhead 52 = .ok (.ireturn, 1) := by decide +kernel
set_option maxHeartbeats 1000000 in
set_option maxRecDepth 20000 in
theorem m_isMotionAhead (l : Launch) (D : va_G) (aT : Nat → ClassId) (ad : Nat → Nat) (S : MSt) (a b : Nat) (hF : FoW (S 0)) (ha : a < nM (S 0)) (hb2 : b < nM (S 0)) : MdG l yX10_isMotionAhead cX10_isMotionAhead 4 .boolean 4 88 D aT ad [.ref (ad 0), .int (nI a), .int (nI b)] S (fun r => r = bI (mAh (S 0) a b)) := by
  refine MdI.of (by decide +kernel) rfl (Nat.le_of_ble_eq_true rfl) ?_
  intro p e s m below meth c A ls C hml hl hA hr hlocks hW
  have hl : lv_has ls 4 [(0, .ref (ad 0)), (1, .int (nI a)), (2, .int (nI b))] := hl
  have hx := C.1
  have hb := C.2.1
  refine lv_aload_n hx hb dX10_isMotionAhead_0 rfl (lv_at hl 0 rfl) ?_
  refine lv_iload_n hx hb dX10_isMotionAhead_1 rfl (lv_at hl 1 rfl) ?_
  refine lv_iconst (v := nI 3) hx hb dX10_isMotionAhead_2 (by decide) ?_
  refine md_callg C hml hl.1 (As := [.int (nI a), .int (nI 3)]) (rest := []) (m_of l D aT ad S a 3 (by have := hF.n12; omega)) gT_of hd_of rfl ⟨Nat.le_of_ble_eq_true rfl, Nat.le_of_ble_eq_true rfl⟩ ⟨Nat.le_refl _, Nat.le_refl _⟩ hW hA rfl (Nat.le_of_ble_eq_true rfl) dX10_isMotionAhead_3 (fun r_3 H locs hq hW => ?_)
  subst hq
  refine lv_aload_n hx hb dX10_isMotionAhead_6 rfl (lv_at hl 0 rfl) ?_
  refine lv_iload_n hx hb dX10_isMotionAhead_7 rfl (lv_at hl 2 rfl) ?_
  refine lv_iconst (v := nI 3) hx hb dX10_isMotionAhead_8 (by decide) ?_
  refine md_callg C hml hl.1 (As := [.int (nI b), .int (nI 3)]) (rest := [.int (S 0 (29 + 4 * a + 3))]) (m_of l D aT ad S b 3 (by have := hF.n12; omega)) gT_of hd_of rfl ⟨Nat.le_of_ble_eq_true rfl, Nat.le_of_ble_eq_true rfl⟩ ⟨Nat.le_refl _, Nat.le_refl _⟩ hW hA rfl (Nat.le_of_ble_eq_true rfl) dX10_isMotionAhead_9 (fun r_9 H locs hq hW => ?_)
  subst hq
  refine lv_isub hx hb dX10_isMotionAhead_12 ?_
  refine lv_istore_n (lv' := [(3, .int ((S 0 (29 + 4 * a + 3)) - (S 0 (29 + 4 * b + 3)))), (0, .ref (ad 0)), (1, .int (nI a)), (2, .int (nI b))]) hx hb dX10_isMotionAhead_13 rfl hl (by decide) rfl (fun ls hl => ?_)
  refine lv_iload_n hx hb dX10_isMotionAhead_14 rfl (lv_at hl 0 rfl) ?_
  refine lv_if_ne hx hb (x := ((S 0 (29 + 4 * a + 3)) - (S 0 (29 + 4 * b + 3)))) (tgt := 32) dX10_isMotionAhead_15 (by decide) (fun c_15 => ?_) (fun c_15 => ?_)
  · refine lv_iload_n hx hb dX10_isMotionAhead_32 rfl (lv_at hl 0 rfl) ?_
    refine lv_istore_n (lv' := [(3, .int ((S 0 (29 + 4 * a + 3)) - (S 0 (29 + 4 * b + 3)))), (0, .ref (ad 0)), (1, .int (nI a)), (2, .int (nI b))]) hx hb dX10_isMotionAhead_33 rfl hl (by decide) rfl (fun ls hl => ?_)
    refine lv_iload_n hx hb dX10_isMotionAhead_34 rfl (lv_at hl 0 rfl) ?_
    refine lv_if_gt hx hb (x := ((S 0 (29 + 4 * a + 3)) - (S 0 (29 + 4 * b + 3)))) (tgt := 47) dX10_isMotionAhead_35 (by decide) (fun c_35 => ?_) (fun c_35 => ?_)
    · refine lv_iconst (v := nI 1) hx hb dX10_isMotionAhead_47 (by decide) ?_
      refine lv_goto (tgt := 52) hx hb dX10_isMotionAhead_48 (by decide) ?_
      exact md_iret C hr hlocks (by decide) hW (⟨by unfold mAh; rw [if_neg c_15, decide_eq_true c_35]; rfl, rfl⟩) dX10_isMotionAhead_52
    · refine lv_iload_n hx hb dX10_isMotionAhead_38 rfl (lv_at hl 0 rfl) ?_
      refine lv_if_ne hx hb (x := ((S 0 (29 + 4 * a + 3)) - (S 0 (29 + 4 * b + 3)))) (tgt := 51) dX10_isMotionAhead_39 (by decide) (fun c_39 => ?_) (fun c_39 => ?_)
      · refine lv_iconst (v := nI 0) hx hb dX10_isMotionAhead_51 (by decide) ?_
        exact md_iret C hr hlocks (by decide) hW (⟨by unfold mAh; rw [if_neg c_15, decide_eq_false c_35]; rfl, rfl⟩) dX10_isMotionAhead_52
      · exact absurd c_39 c_15
  · refine lv_aload_n hx hb dX10_isMotionAhead_18 rfl (lv_at hl 1 rfl) ?_
    refine lv_iload_n hx hb dX10_isMotionAhead_19 rfl (lv_at hl 3 rfl) ?_
    refine md_callg C hml hl.1 (As := [.int (nI b)]) (rest := []) (m_deep l D aT ad S (nM (S 0)) (idM (S 0)) (prM (S 0)) (tnM (S 0)) hF b (hb2)) gT_deep hd_deep rfl ⟨Nat.le_of_ble_eq_true rfl, Nat.le_of_ble_eq_true rfl⟩ ⟨Nat.le_refl _, Nat.le_refl _⟩ hW hA rfl (Nat.le_of_ble_eq_true rfl) dX10_isMotionAhead_20 (fun r_20 H locs hq hW => ?_)
    subst hq
    refine lv_aload_n hx hb dX10_isMotionAhead_23 rfl (lv_at hl 1 rfl) ?_
    refine lv_iload_n hx hb dX10_isMotionAhead_24 rfl (lv_at hl 2 rfl) ?_
    refine md_callg C hml hl.1 (As := [.int (nI a)]) (rest := [.int (nI (dep (prM (S 0)) b))]) (m_deep l D aT ad S (nM (S 0)) (idM (S 0)) (prM (S 0)) (tnM (S 0)) hF a (ha)) gT_deep hd_deep rfl ⟨Nat.le_of_ble_eq_true rfl, Nat.le_of_ble_eq_true rfl⟩ ⟨Nat.le_refl _, Nat.le_refl _⟩ hW hA rfl (Nat.le_of_ble_eq_true rfl) dX10_isMotionAhead_25 (fun r_25 H locs hq hW => ?_)
    subst hq
    refine lv_isub hx hb dX10_isMotionAhead_28 ?_
    refine lv_goto (tgt := 33) hx hb dX10_isMotionAhead_29 (by decide) ?_
    refine lv_istore_n (lv' := [(3, .int (nI (dep (prM (S 0)) b) - nI (dep (prM (S 0)) a))), (0, .ref (ad 0)), (1, .int (nI a)), (2, .int (nI b))]) hx hb dX10_isMotionAhead_33 rfl hl (by decide) rfl (fun ls hl => ?_)
    refine lv_iload_n hx hb dX10_isMotionAhead_34 rfl (lv_at hl 0 rfl) ?_
    refine r_ifgtD hx hb (a := (dep (prM (S 0)) b)) (b := (dep (prM (S 0)) a)) (by first | exact Nat.lt_of_le_of_lt (dep_le hF.ok _ ha) (by have := hF.n12; omega) | exact Nat.lt_of_le_of_lt (dep_le hF.ok _ hb2) (by have := hF.n12; omega) | (have := hF.n12; omega)) (by first | exact Nat.lt_of_le_of_lt (dep_le hF.ok _ ha) (by have := hF.n12; omega) | exact Nat.lt_of_le_of_lt (dep_le hF.ok _ hb2) (by have := hF.n12; omega) | (have := hF.n12; omega)) (tgt := 47) dX10_isMotionAhead_35 (by decide) (fun c_35 => ?_) (fun c_35 => ?_)
    · refine lv_iconst (v := nI 1) hx hb dX10_isMotionAhead_47 (by decide) ?_
      refine lv_goto (tgt := 52) hx hb dX10_isMotionAhead_48 (by decide) ?_
      exact md_iret C hr hlocks (by decide) hW (⟨by unfold mAh; rw [if_pos c_15, show decide _ = true from decide_eq_true (by omega)]; rfl, rfl⟩) dX10_isMotionAhead_52
    · refine lv_iload_n hx hb dX10_isMotionAhead_38 rfl (lv_at hl 0 rfl) ?_
      refine r_ifneD hx hb (a := (dep (prM (S 0)) b)) (b := (dep (prM (S 0)) a)) (by first | exact Nat.lt_of_le_of_lt (dep_le hF.ok _ ha) (by have := hF.n12; omega) | exact Nat.lt_of_le_of_lt (dep_le hF.ok _ hb2) (by have := hF.n12; omega) | (have := hF.n12; omega)) (by first | exact Nat.lt_of_le_of_lt (dep_le hF.ok _ ha) (by have := hF.n12; omega) | exact Nat.lt_of_le_of_lt (dep_le hF.ok _ hb2) (by have := hF.n12; omega) | (have := hF.n12; omega)) (tgt := 51) dX10_isMotionAhead_39 (by decide) (fun c_39 => ?_) (fun c_39 => ?_)
      · refine lv_iconst (v := nI 0) hx hb dX10_isMotionAhead_51 (by decide) ?_
        exact md_iret C hr hlocks (by decide) hW (⟨by unfold mAh; rw [if_pos c_15, show decide _ = false from decide_eq_false (by omega)]; rfl, rfl⟩) dX10_isMotionAhead_52
      · refine lv_iload_n hx hb dX10_isMotionAhead_42 rfl (lv_at hl 2 rfl) ?_
        refine lv_iload_n hx hb dX10_isMotionAhead_43 rfl (lv_at hl 3 rfl) ?_
        refine r_geN hx hb (a := a) (b := b) (by first | exact Nat.lt_of_le_of_lt (dep_le hF.ok _ ha) (by have := hF.n12; omega) | exact Nat.lt_of_le_of_lt (dep_le hF.ok _ hb2) (by have := hF.n12; omega) | (have := hF.n12; omega)) (by first | exact Nat.lt_of_le_of_lt (dep_le hF.ok _ ha) (by have := hF.n12; omega) | exact Nat.lt_of_le_of_lt (dep_le hF.ok _ hb2) (by have := hF.n12; omega) | (have := hF.n12; omega)) (tgt := 51) dX10_isMotionAhead_44 (by decide) (fun c_44 => ?_) (fun c_44 => ?_)
        · refine lv_iconst (v := nI 0) hx hb dX10_isMotionAhead_51 (by decide) ?_
          exact md_iret C hr hlocks (by decide) hW (⟨by unfold mAh; rw [if_pos c_15, show decide _ = false from decide_eq_false (by omega)]; rfl, rfl⟩) dX10_isMotionAhead_52
        · refine lv_iconst (v := nI 1) hx hb dX10_isMotionAhead_47 (by decide) ?_
          refine lv_goto (tgt := 52) hx hb dX10_isMotionAhead_48 (by decide) ?_
          exact md_iret C hr hlocks (by decide) hW (⟨by unfold mAh; rw [if_pos c_15, show decide _ = true from decide_eq_true (by omega)]; rfl, rfl⟩) dX10_isMotionAhead_52
theorem dX10_motionAtRank_0 : decode cX10_motionAtRank 0 = .ok (.aload_n 0, 1) := by decide +kernel
theorem dX10_motionAtRank_1 : decode cX10_motionAtRank 1 = .ok (.iconst 0, 1) := by decide +kernel
theorem dX10_motionAtRank_2 : decode cX10_motionAtRank 2 = .ok (.putfield 57, 3) := by decide +kernel
theorem dX10_motionAtRank_5 : decode cX10_motionAtRank 5 = .ok (.iconst 0, 1) := by decide +kernel
theorem dX10_motionAtRank_6 : decode cX10_motionAtRank 6 = .ok (.istore_n 2, 1) := by decide +kernel
theorem dX10_motionAtRank_7 : decode cX10_motionAtRank 7 = .ok (.iload_n 2, 1) := by decide +kernel
theorem dX10_motionAtRank_8 : decode cX10_motionAtRank 8 = .ok (.aload_n 0, 1) := by decide +kernel
theorem dX10_motionAtRank_9 : decode cX10_motionAtRank 9 = .ok (.getfield 9, 3) := by decide +kernel
theorem dX10_motionAtRank_12 : decode cX10_motionAtRank 12 = .ok (.iconst 2, 1) := by decide +kernel
theorem dX10_motionAtRank_13 : decode cX10_motionAtRank 13 = .ok (.iaload, 1) := by decide +kernel
theorem dX10_motionAtRank_14 : decode cX10_motionAtRank 14 = .ok (.if_icmp .ge 61, 3) := by decide +kernel
theorem dX10_motionAtRank_17 : decode cX10_motionAtRank 17 = .ok (.iconst 0, 1) := by decide +kernel
theorem dX10_motionAtRank_18 : decode cX10_motionAtRank 18 = .ok (.istore_n 3, 1) := by decide +kernel
theorem dX10_motionAtRank_19 : decode cX10_motionAtRank 19 = .ok (.iconst 0, 1) := by decide +kernel
theorem dX10_motionAtRank_20 : decode cX10_motionAtRank 20 = .ok (.istore 4, 2) := by decide +kernel
theorem dX10_motionAtRank_22 : decode cX10_motionAtRank 22 = .ok (.iload 4, 2) := by decide +kernel
theorem dX10_motionAtRank_24 : decode cX10_motionAtRank 24 = .ok (.aload_n 0, 1) := by decide +kernel
theorem dX10_motionAtRank_25 : decode cX10_motionAtRank 25 = .ok (.getfield 9, 3) := by decide +kernel
theorem dX10_motionAtRank_28 : decode cX10_motionAtRank 28 = .ok (.iconst 2, 1) := by decide +kernel
theorem dX10_motionAtRank_29 : decode cX10_motionAtRank 29 = .ok (.iaload, 1) := by decide +kernel
theorem dX10_motionAtRank_30 : decode cX10_motionAtRank 30 = .ok (.if_icmp .ge 27, 3) := by decide +kernel
theorem dX10_motionAtRank_33 : decode cX10_motionAtRank 33 = .ok (.iload_n 3, 1) := by decide +kernel
theorem dX10_motionAtRank_34 : decode cX10_motionAtRank 34 = .ok (.aload_n 0, 1) := by decide +kernel
theorem dX10_motionAtRank_35 : decode cX10_motionAtRank 35 = .ok (.iload 4, 2) := by decide +kernel
theorem dX10_motionAtRank_37 : decode cX10_motionAtRank 37 = .ok (.iload_n 2, 1) := by decide +kernel
theorem dX10_motionAtRank_38 : decode cX10_motionAtRank 38 = .ok (.invokevirtual 175, 3) := by decide +kernel
theorem dX10_motionAtRank_41 : decode cX10_motionAtRank 41 = .ok (.ifCond .eq 7, 3) := by decide +kernel
theorem dX10_motionAtRank_44 : decode cX10_motionAtRank 44 = .ok (.iconst 1, 1) := by decide +kernel
theorem dX10_motionAtRank_45 : decode cX10_motionAtRank 45 = .ok (.goto 4, 3) := by decide +kernel
theorem dX10_motionAtRank_48 : decode cX10_motionAtRank 48 = .ok (.iconst 0, 1) := by decide +kernel
theorem dX10_motionAtRank_49 : decode cX10_motionAtRank 49 = .ok (.iadd, 1) := by decide +kernel
theorem dX10_motionAtRank_50 : decode cX10_motionAtRank 50 = .ok (.istore_n 3, 1) := by decide +kernel
theorem dX10_motionAtRank_51 : decode cX10_motionAtRank 51 = .ok (.iinc 4 1, 3) := by decide +kernel
theorem dX10_motionAtRank_54 : decode cX10_motionAtRank 54 = .ok (.goto (-32), 3) := by decide +kernel
theorem dX10_motionAtRank_57 : decode cX10_motionAtRank 57 = .ok (.iload_n 3, 1) := by decide +kernel
theorem dX10_motionAtRank_58 : decode cX10_motionAtRank 58 = .ok (.iload_n 1, 1) := by decide +kernel
theorem dX10_motionAtRank_59 : decode cX10_motionAtRank 59 = .ok (.if_icmp .ne 10, 3) := by decide +kernel
theorem dX10_motionAtRank_62 : decode cX10_motionAtRank 62 = .ok (.aload_n 0, 1) := by decide +kernel
theorem dX10_motionAtRank_63 : decode cX10_motionAtRank 63 = .ok (.iload_n 2, 1) := by decide +kernel
theorem dX10_motionAtRank_64 : decode cX10_motionAtRank 64 = .ok (.iconst 0, 1) := by decide +kernel
theorem dX10_motionAtRank_65 : decode cX10_motionAtRank 65 = .ok (.invokevirtual 67, 3) := by decide +kernel
theorem dX10_motionAtRank_68 : decode cX10_motionAtRank 68 = .ok (.ireturn, 1) := by decide +kernel
theorem dX10_motionAtRank_69 : decode cX10_motionAtRank 69 = .ok (.iinc 2 1, 3) := by decide +kernel
theorem dX10_motionAtRank_72 : decode cX10_motionAtRank 72 = .ok (.goto (-65), 3) := by decide +kernel
theorem dX10_motionAtRank_75 : decode cX10_motionAtRank 75 = .ok (.aload_n 0, 1) := by decide +kernel
theorem dX10_motionAtRank_76 : decode cX10_motionAtRank 76 = .ok (.iconst 1, 1) := by decide +kernel
theorem dX10_motionAtRank_77 : decode cX10_motionAtRank 77 = .ok (.invokevirtual 101, 3) := by decide +kernel
theorem dX10_motionAtRank_80 : decode cX10_motionAtRank 80 = .ok (.ireturn, 1) := by decide +kernel
set_option maxHeartbeats 2000000 in
set_option maxRecDepth 20000 in
theorem m_motionAtRank (l : Launch) (D : va_G) (aT : Nat → ClassId) (ad : Nat → Nat) (S : MSt) (x : Int32) (hF : FoW (S 0)) : MdI l yX10_motionAtRank cX10_motionAtRank 5 .int 5 111 D aT ad [.ref (ad 0), .int x] S (fun r S1 => (fnd (fun k => nI (rkN (mAh (S 0)) k (nM (S 0)))) x (nM (S 0)) = none ∧ r = -1 ∧ S1 = ss S 8 (nI 1)) ∨ (∃ k, fnd (fun k => nI (rkN (mAh (S 0)) k (nM (S 0)))) x (nM (S 0)) = some k ∧ r = S 0 (29 + 4 * k) ∧ S1 = ss S 8 (nI 0))) := by
  refine MdI.of (by decide +kernel) rfl (Nat.le_of_ble_eq_true rfl) ?_
  intro p e s m below meth c A ls C hml hl hA hr hlocks hW
  have hl : lv_has ls 5 [(0, .ref (ad 0)), (1, .int x)] := hl
  have hx := C.1
  have hb := C.2.1
  refine lv_aload_n hx hb dX10_motionAtRank_0 rfl (lv_at hl 0 rfl) ?_
  refine lv_iconst (v := nI 0) hx hb dX10_motionAtRank_1 (by decide) ?_
  refine md_put_thrown C hW dX10_motionAtRank_2 (fun H locs hW => ?_)
  refine lv_iconst (v := nI 0) hx hb dX10_motionAtRank_5 (by decide) ?_
  refine lv_istore_n (lv' := [(2, .int (nI 0)), (0, .ref (ad 0)), (1, .int x)]) hx hb dX10_motionAtRank_6 rfl hl (by decide) rfl (fun ls hl => ?_)
  refine W_loopH (σ := Nat) (fun z_ => nM (S 0) - z_) (fun z_ H locs g => ∃ ls, g = F0 m 7 ls [] ∧ lv_has ls 5 [(0, .ref (ad 0)), (1, .int x), (2, .int (nI z_))] ∧ MdB D aT ad (ss S 8 (nI 0)) A s.heap H locs ∧ (fnd (fun k => nI (rkN (mAh (S 0)) k (nM (S 0)))) x z_ = none ∧ z_ ≤ nM (S 0))) ?_ 0 _ ⟨_, rfl, lv_sub hl [1, 2, 0] rfl, hW, ⟨rfl, Nat.zero_le _⟩⟩
  clear hW hl
  rintro k H locs g ⟨ls, rfl, hl, hW, hk, hkh⟩ ih_7
  have h6 := hF.n12
  refine lv_iload_n hx hb dX10_motionAtRank_7 rfl (lv_at hl 2 rfl) ?_
  refine lv_aload_n hx hb dX10_motionAtRank_8 rfl (lv_at hl 0 rfl) ?_
  refine md_geta_m C hW dX10_motionAtRank_9 ?_
  refine lv_iconst (v := nI 2) hx hb dX10_motionAtRank_12 (by decide) ?_
  refine md_ald_m C hW (i := 2) (by omega) dX10_motionAtRank_13 ?_
  refine r_eq (y := (nI (nM (S 0)))) (hF.1) ?_
  refine r_geN hx hb (a := k) (b := (nM (S 0))) (by omega) (by omega) (tgt := 75) dX10_motionAtRank_14 (by decide) (fun c_14 => ?_) (fun c_14 => ?_)
  · refine lv_aload_n hx hb dX10_motionAtRank_75 rfl (lv_at hl 0 rfl) ?_
    refine lv_iconst (v := nI 1) hx hb dX10_motionAtRank_76 (by decide) ?_
    refine md_calli C hml hl.1 (As := [.int (nI 1)]) (rest := []) (m_throwing l D aT ad (ss S 8 (nI 0)) 1) gT_throwing hd_throwing rfl ⟨Nat.le_of_ble_eq_true rfl, Nat.le_of_ble_eq_true rfl⟩ ⟨Nat.le_refl _, Nat.le_refl _⟩ hW hA rfl (Nat.le_of_ble_eq_true rfl) dX10_motionAtRank_77 (fun r_77 S_77 H locs hq hW => ?_)
    obtain ⟨rfl, rfl⟩ := hq
    exact md_iret C hr hlocks rfl hW (Or.inl ⟨(show k = nM (S 0) by omega) ▸ hk, rfl, ss_ss _ _ _ _⟩) dX10_motionAtRank_80
  · refine lv_iconst (v := nI 0) hx hb dX10_motionAtRank_17 (by decide) ?_
    refine lv_istore_n (lv' := [(3, .int (nI 0)), (0, .ref (ad 0)), (1, .int x), (2, .int (nI k))]) hx hb dX10_motionAtRank_18 rfl hl (by decide) rfl (fun ls hl => ?_)
    refine lv_iconst (v := nI 0) hx hb dX10_motionAtRank_19 (by decide) ?_
    refine lv_istore (lv' := [(4, .int (nI 0)), (3, .int (nI 0)), (0, .ref (ad 0)), (1, .int x), (2, .int (nI k))]) hx hb dX10_motionAtRank_20 hl (by decide) rfl (fun ls hl => ?_)
    refine W_loopH (σ := Nat × Nat) (fun z_ => nM (S 0) - z_.2) (fun z_ H locs g => ∃ ls, g = F0 m 22 ls [] ∧ lv_has ls 5 [(0, .ref (ad 0)), (1, .int x), (2, .int (nI k)), (3, .int (nI z_.1)), (4, .int (nI z_.2))] ∧ MdB D aT ad (ss S 8 (nI 0)) A s.heap H locs ∧ (z_.1 = (rkN (mAh (S 0)) k z_.2) ∧ z_.2 ≤ nM (S 0))) ?_ (0, 0) _ ⟨_, rfl, lv_sub hl [2, 3, 4, 1, 0] rfl, hW, ⟨rfl, Nat.zero_le _⟩⟩
    clear hW hl
    rintro ⟨bf, o⟩ H locs g ⟨ls, rfl, hl, hW, hb2, hoh⟩ ih_22
    dsimp only at hl hW hb2 hoh ⊢
    refine lv_iload hx hb dX10_motionAtRank_22 (lv_at hl 4 rfl) ?_
    refine lv_aload_n hx hb dX10_motionAtRank_24 rfl (lv_at hl 0 rfl) ?_
    refine md_geta_m C hW dX10_motionAtRank_25 ?_
    refine lv_iconst (v := nI 2) hx hb dX10_motionAtRank_28 (by decide) ?_
    refine md_ald_m C hW (i := 2) (by omega) dX10_motionAtRank_29 ?_
    refine r_eq (y := (nI (nM (S 0)))) (hF.1) ?_
    refine r_geN hx hb (a := o) (b := (nM (S 0))) (by omega) (by omega) (tgt := 57) dX10_motionAtRank_30 (by decide) (fun c_30 => ?_) (fun c_30 => ?_)
    · refine lv_iload_n hx hb dX10_motionAtRank_57 rfl (lv_at hl 3 rfl) ?_
      refine lv_iload_n hx hb dX10_motionAtRank_58 rfl (lv_at hl 1 rfl) ?_
      refine lv_icmp_ne hx hb (x := (nI bf)) (y := x) (tgt := 69) dX10_motionAtRank_59 (by decide) (fun c_59 => ?_) (fun c_59 => ?_)
      · refine lv_iinc (v := (nI (k + 1))) (lv' := [(2, .int (nI (k + 1))), (0, .ref (ad 0)), (1, .int x), (3, .int (nI bf)), (4, .int (nI o))]) hx hb dX10_motionAtRank_69 hl (k := 2) rfl (nI_1 _) (by decide) rfl (fun ls hl => ?_)
        refine lv_goto (tgt := 7) hx hb dX10_motionAtRank_72 (by decide) ?_
        exact ih_7 (k + 1) _ _ _ (by omega) ⟨_, rfl, lv_sub hl [1, 2, 0] rfl, hW, ⟨fnd_step hk (fun z => c_59 (by rw [hb2, show o = nM (S 0) by omega]; exact z)), by omega⟩⟩
      · refine lv_aload_n hx hb dX10_motionAtRank_62 rfl (lv_at hl 0 rfl) ?_
        refine lv_iload_n hx hb dX10_motionAtRank_63 rfl (lv_at hl 2 rfl) ?_
        refine lv_iconst (v := nI 0) hx hb dX10_motionAtRank_64 (by decide) ?_
        refine md_callg C hml hl.1 (As := [.int (nI k), .int (nI 0)]) (rest := []) (m_of l D aT ad (ss S 8 (nI 0)) k 0 (by omega)) gT_of hd_of rfl ⟨Nat.le_of_ble_eq_true rfl, Nat.le_of_ble_eq_true rfl⟩ ⟨Nat.le_refl _, Nat.le_refl _⟩ hW hA rfl (Nat.le_of_ble_eq_true rfl) dX10_motionAtRank_65 (fun r_65 H locs hq hW => ?_)
        subst hq
        refine r_eq (y := (S 0 (29 + 4 * k + 0))) (rfl) ?_
        exact md_iret C hr hlocks rfl hW (Or.inr ⟨k, fnd_hit hk (by rw [hb2, show o = nM (S 0) by omega] at c_59; exact c_59) (by omega), rfl, rfl⟩) dX10_motionAtRank_68
    · refine lv_iload_n hx hb dX10_motionAtRank_33 rfl (lv_at hl 3 rfl) ?_
      refine lv_aload_n hx hb dX10_motionAtRank_34 rfl (lv_at hl 0 rfl) ?_
      refine lv_iload hx hb dX10_motionAtRank_35 (lv_at hl 4 rfl) ?_
      refine lv_iload_n hx hb dX10_motionAtRank_37 rfl (lv_at hl 2 rfl) ?_
      refine md_callg C hml hl.1 (As := [.int (nI o), .int (nI k)]) (rest := [.int (nI bf)]) (m_isMotionAhead l D aT ad (ss S 8 (nI 0)) o k hF (show o < nM (S 0) by omega) (show k < nM (S 0) by omega)) gT_isMotionAhead hd_isMotionAhead rfl ⟨Nat.le_of_ble_eq_true rfl, Nat.le_of_ble_eq_true rfl⟩ ⟨Nat.le_refl _, Nat.le_refl _⟩ hW hA rfl (Nat.le_of_ble_eq_true rfl) dX10_motionAtRank_38 (fun r_38 H locs hq hW => ?_)
      subst hq
      refine r_bI_eq hx hb (b := (mAh (S 0) o k)) (tgt := 48) dX10_motionAtRank_41 (by decide) (fun c_41 => ?_) (fun c_41 => ?_)
      · refine lv_iconst (v := nI 0) hx hb dX10_motionAtRank_48 (by decide) ?_
        refine r_iaddN hx hb (a := bf) (b := 0) dX10_motionAtRank_49 ?_
        refine lv_istore_n (lv' := [(3, .int (nI (bf + 0))), (0, .ref (ad 0)), (1, .int x), (2, .int (nI k)), (4, .int (nI o))]) hx hb dX10_motionAtRank_50 rfl hl (by decide) rfl (fun ls hl => ?_)
        refine lv_iinc (v := (nI (o + 1))) (lv' := [(4, .int (nI (o + 1))), (3, .int (nI (bf + 0))), (0, .ref (ad 0)), (1, .int x), (2, .int (nI k))]) hx hb dX10_motionAtRank_51 hl (k := 4) rfl (nI_1 _) (by decide) rfl (fun ls hl => ?_)
        refine lv_goto (tgt := 22) hx hb dX10_motionAtRank_54 (by decide) ?_
        exact ih_22 (bf + 0, (o + 1)) _ _ _ (by dsimp only; omega) ⟨_, rfl, lv_sub hl [2, 3, 4, 1, 0] rfl, hW, ⟨by rw [rkN, c_41, ← hb2]; rfl, by (try dsimp only); omega⟩⟩
      · refine lv_iconst (v := nI 1) hx hb dX10_motionAtRank_44 (by decide) ?_
        refine lv_goto (tgt := 49) hx hb dX10_motionAtRank_45 (by decide) ?_
        refine r_iaddN hx hb (a := bf) (b := 1) dX10_motionAtRank_49 ?_
        refine lv_istore_n (lv' := [(3, .int (nI (bf + 1))), (0, .ref (ad 0)), (1, .int x), (2, .int (nI k)), (4, .int (nI o))]) hx hb dX10_motionAtRank_50 rfl hl (by decide) rfl (fun ls hl => ?_)
        refine lv_iinc (v := (nI (o + 1))) (lv' := [(4, .int (nI (o + 1))), (3, .int (nI (bf + 1))), (0, .ref (ad 0)), (1, .int x), (2, .int (nI k))]) hx hb dX10_motionAtRank_51 hl (k := 4) rfl (nI_1 _) (by decide) rfl (fun ls hl => ?_)
        refine lv_goto (tgt := 22) hx hb dX10_motionAtRank_54 (by decide) ?_
        exact ih_22 (bf + 1, (o + 1)) _ _ _ (by dsimp only; omega) ⟨_, rfl, lv_sub hl [2, 3, 4, 1, 0] rfl, hW, ⟨by rw [rkN, c_41, ← hb2]; rfl, by (try dsimp only); omega⟩⟩
theorem gT_common : GoodIn gw (wsV RX10 178 RX10 yX10_common (Cond.code yX10_common cX10_common 5 (some .int) :: gw)) := gdV gw_1918 gw_1920 gw_49 gw_81 gw_1921
theorem hd_common : yX10_common.cls = RX10 ∧ yX10_common.cls ≠ "java/lang/invoke/MethodHandle" ∧ yX10_common.cls ≠ "java/lang/invoke/VarHandle" ∧ (parseMethodDescriptor yX10_common.desc).map (fun d => d.parameters.length) = some 2 := ⟨rfl, by decide +kernel, by decide +kernel, by decide +kernel⟩
theorem dX10_common_0 : decode cX10_common 0 = .ok (.iconst (-1), 1) := by decide +kernel
theorem dX10_common_1 : decode cX10_common 1 = .ok (.istore_n 3, 1) := by decide +kernel
theorem dX10_common_2 : decode cX10_common 2 = .ok (.iconst 0, 1) := by decide +kernel
theorem dX10_common_3 : decode cX10_common 3 = .ok (.istore 4, 2) := by decide +kernel
theorem dX10_common_5 : decode cX10_common 5 = .ok (.iload 4, 2) := by decide +kernel
theorem dX10_common_7 : decode cX10_common 7 = .ok (.aload_n 0, 1) := by decide +kernel
theorem dX10_common_8 : decode cX10_common 8 = .ok (.getfield 9, 3) := by decide +kernel
theorem dX10_common_11 : decode cX10_common 11 = .ok (.iconst 2, 1) := by decide +kernel
theorem dX10_common_12 : decode cX10_common 12 = .ok (.iaload, 1) := by decide +kernel
theorem dX10_common_13 : decode cX10_common 13 = .ok (.if_icmp .ge 55, 3) := by decide +kernel
theorem dX10_common_16 : decode cX10_common 16 = .ok (.aload_n 0, 1) := by decide +kernel
theorem dX10_common_17 : decode cX10_common 17 = .ok (.iload_n 1, 1) := by decide +kernel
theorem dX10_common_18 : decode cX10_common 18 = .ok (.iload 4, 2) := by decide +kernel
theorem dX10_common_20 : decode cX10_common 20 = .ok (.invokevirtual 78, 3) := by decide +kernel
theorem dX10_common_23 : decode cX10_common 23 = .ok (.ifCond .eq 37, 3) := by decide +kernel
theorem dX10_common_26 : decode cX10_common 26 = .ok (.aload_n 0, 1) := by decide +kernel
theorem dX10_common_27 : decode cX10_common 27 = .ok (.iload_n 2, 1) := by decide +kernel
theorem dX10_common_28 : decode cX10_common 28 = .ok (.iload 4, 2) := by decide +kernel
theorem dX10_common_30 : decode cX10_common 30 = .ok (.invokevirtual 78, 3) := by decide +kernel
theorem dX10_common_33 : decode cX10_common 33 = .ok (.ifCond .eq 27, 3) := by decide +kernel
theorem dX10_common_36 : decode cX10_common 36 = .ok (.iload_n 3, 1) := by decide +kernel
theorem dX10_common_37 : decode cX10_common 37 = .ok (.iconst (-1), 1) := by decide +kernel
theorem dX10_common_38 : decode cX10_common 38 = .ok (.if_icmp .eq 17, 3) := by decide +kernel
theorem dX10_common_41 : decode cX10_common 41 = .ok (.aload_n 0, 1) := by decide +kernel
theorem dX10_common_42 : decode cX10_common 42 = .ok (.iload 4, 2) := by decide +kernel
theorem dX10_common_44 : decode cX10_common 44 = .ok (.invokevirtual 125, 3) := by decide +kernel
theorem dX10_common_47 : decode cX10_common 47 = .ok (.aload_n 0, 1) := by decide +kernel
theorem dX10_common_48 : decode cX10_common 48 = .ok (.iload_n 3, 1) := by decide +kernel
theorem dX10_common_49 : decode cX10_common 49 = .ok (.invokevirtual 125, 3) := by decide +kernel
theorem dX10_common_52 : decode cX10_common 52 = .ok (.if_icmp .le 8, 3) := by decide +kernel
theorem dX10_common_55 : decode cX10_common 55 = .ok (.iload 4, 2) := by decide +kernel
theorem dX10_common_57 : decode cX10_common 57 = .ok (.goto 4, 3) := by decide +kernel
theorem dX10_common_60 : decode cX10_common 60 = .ok (.iload_n 3, 1) := by decide +kernel
theorem dX10_common_61 : decode cX10_common 61 = .ok (.istore_n 3, 1) := by decide +kernel
theorem dX10_common_62 : decode cX10_common 62 = .ok (.iinc 4 1, 3) := by decide +kernel
theorem dX10_common_65 : decode cX10_common 65 = .ok (.goto (-60), 3) := by decide +kernel
theorem dX10_common_68 : decode cX10_common 68 = .ok (.iload_n 3, 1) := by decide +kernel
theorem dX10_common_69 : decode cX10_common 69 = .ok (.ireturn, 1) := by decide +kernel
set_option maxHeartbeats 2000000 in
set_option maxRecDepth 20000 in
theorem m_common (l : Launch) (D : va_G) (aT : Nat → ClassId) (ad : Nat → Nat) (S : MSt) (n : Nat) (idn : Nat → Nat) (pr : Nat → Option Nat) (tn : Nat → Nat) (hF : FoR (S 0) n idn pr tn) (a b : Nat) (ha : a < n) (hb2 : b < n) : MdG l yX10_common cX10_common 5 .int 4 88 D aT ad [.ref (ad 0), .int (nI a), .int (nI b)] S (fun r => r = oi (cmF pr a b n)) := by
  refine MdI.of (by decide +kernel) rfl (Nat.le_of_ble_eq_true rfl) ?_
  intro p e s m below meth c A ls C hml hl hA hr hlocks hW
  have hl : lv_has ls 5 [(0, .ref (ad 0)), (1, .int (nI a)), (2, .int (nI b))] := hl
  have hx := C.1
  have hb := C.2.1
  refine lv_iconst (v := (-1)) hx hb dX10_common_0 (by decide) ?_
  refine lv_istore_n (lv' := [(3, .int (-1)), (0, .ref (ad 0)), (1, .int (nI a)), (2, .int (nI b))]) hx hb dX10_common_1 rfl hl (by decide) rfl (fun ls hl => ?_)
  refine lv_iconst (v := nI 0) hx hb dX10_common_2 (by decide) ?_
  refine lv_istore (lv' := [(4, .int (nI 0)), (3, .int (-1)), (0, .ref (ad 0)), (1, .int (nI a)), (2, .int (nI b))]) hx hb dX10_common_3 hl (by decide) rfl (fun ls hl => ?_)
  refine W_loopH (σ := Option Nat × Nat) (fun z_ => n - z_.2) (fun z_ H locs g => ∃ ls, g = F0 m 5 ls [] ∧ lv_has ls 5 [(0, .ref (ad 0)), (1, .int (nI a)), (2, .int (nI b)), (3, .int (oi z_.1)), (4, .int (nI z_.2))] ∧ MdB D aT ad S A s.heap H locs ∧ (z_.1 = cmF pr a b z_.2 ∧ (∀ j, z_.1 = some j → j < z_.2) ∧ z_.2 ≤ n)) ?_ (none, 0) _ ⟨_, rfl, lv_sub hl [2, 3, 4, 1, 0] rfl, hW, ⟨rfl, (fun j hj => by cases hj), Nat.zero_le _⟩⟩
  clear hW hl
  rintro ⟨f, k⟩ H locs g ⟨ls, rfl, hl, hW, hi, hlim, hkn⟩ ih_5
  dsimp only at hl hW hi hlim hkn ⊢
  have h12 := hF.2.1
  refine lv_iload hx hb dX10_common_5 (lv_at hl 4 rfl) ?_
  refine lv_aload_n hx hb dX10_common_7 rfl (lv_at hl 0 rfl) ?_
  refine md_geta_m C hW dX10_common_8 ?_
  refine lv_iconst (v := nI 2) hx hb dX10_common_11 (by decide) ?_
  refine md_ald_m C hW (i := 2) (by omega) dX10_common_12 ?_
  refine r_eq (y := (nI n)) (hF.1) ?_
  refine r_geN hx hb (a := k) (b := n) (by omega) (by omega) (tgt := 68) dX10_common_13 (by decide) (fun c_13 => ?_) (fun c_13 => ?_)
  · refine lv_iload_n hx hb dX10_common_68 rfl (lv_at hl 3 rfl) ?_
    exact md_iret C hr hlocks rfl hW (⟨by rw [hi, show k = n by omega], rfl⟩) dX10_common_69
  · refine lv_aload_n hx hb dX10_common_16 rfl (lv_at hl 0 rfl) ?_
    refine lv_iload_n hx hb dX10_common_17 rfl (lv_at hl 1 rfl) ?_
    refine lv_iload hx hb dX10_common_18 (lv_at hl 4 rfl) ?_
    refine md_callg C hml hl.1 (As := [.int (nI a), .int (nI k)]) (rest := []) (m_isIn l D aT ad S n idn pr tn hF a k (ha) (by omega)) gT_isIn hd_isIn rfl ⟨Nat.le_of_ble_eq_true rfl, Nat.le_of_ble_eq_true rfl⟩ ⟨Nat.le_refl _, Nat.le_refl _⟩ hW hA rfl (Nat.le_of_ble_eq_true rfl) dX10_common_20 (fun r_20 H locs hq hW => ?_)
    subst hq
    refine r_bI_eq hx hb (b := (anc pr k a)) (tgt := 60) dX10_common_23 (by decide) (fun c_23 => ?_) (fun c_23 => ?_)
    · refine lv_iload_n hx hb dX10_common_60 rfl (lv_at hl 3 rfl) ?_
      refine lv_istore_n (lv' := [(3, .int (oi f)), (0, .ref (ad 0)), (1, .int (nI a)), (2, .int (nI b)), (4, .int (nI k))]) hx hb dX10_common_61 rfl hl (by decide) rfl (fun ls hl => ?_)
      refine lv_iinc (v := (nI (k + 1))) (lv' := [(4, .int (nI (k + 1))), (3, .int (oi f)), (0, .ref (ad 0)), (1, .int (nI a)), (2, .int (nI b))]) hx hb dX10_common_62 hl (k := 4) rfl (nI_1 _) (by decide) rfl (fun ls hl => ?_)
      refine lv_goto (tgt := 5) hx hb dX10_common_65 (by decide) ?_
      exact ih_5 (f, (k + 1)) _ _ _ (by dsimp only; omega) ⟨_, rfl, lv_sub hl [2, 3, 4, 1, 0] rfl, hW, ⟨by rw [cmF_no1 c_23]; exact hi, by intro j hj; first | (have := hlim j hj; dsimp only; omega) | (cases hj; dsimp only; omega) | (have := hlim _ rfl; cases hj; dsimp only; omega), by (try dsimp only); omega⟩⟩
    · refine lv_aload_n hx hb dX10_common_26 rfl (lv_at hl 0 rfl) ?_
      refine lv_iload_n hx hb dX10_common_27 rfl (lv_at hl 2 rfl) ?_
      refine lv_iload hx hb dX10_common_28 (lv_at hl 4 rfl) ?_
      refine md_callg C hml hl.1 (As := [.int (nI b), .int (nI k)]) (rest := []) (m_isIn l D aT ad S n idn pr tn hF b k (hb2) (by omega)) gT_isIn hd_isIn rfl ⟨Nat.le_of_ble_eq_true rfl, Nat.le_of_ble_eq_true rfl⟩ ⟨Nat.le_refl _, Nat.le_refl _⟩ hW hA rfl (Nat.le_of_ble_eq_true rfl) dX10_common_30 (fun r_30 H locs hq hW => ?_)
      subst hq
      refine r_bI_eq hx hb (b := (anc pr k b)) (tgt := 60) dX10_common_33 (by decide) (fun c_33 => ?_) (fun c_33 => ?_)
      · refine lv_iload_n hx hb dX10_common_60 rfl (lv_at hl 3 rfl) ?_
        refine lv_istore_n (lv' := [(3, .int (oi f)), (0, .ref (ad 0)), (1, .int (nI a)), (2, .int (nI b)), (4, .int (nI k))]) hx hb dX10_common_61 rfl hl (by decide) rfl (fun ls hl => ?_)
        refine lv_iinc (v := (nI (k + 1))) (lv' := [(4, .int (nI (k + 1))), (3, .int (oi f)), (0, .ref (ad 0)), (1, .int (nI a)), (2, .int (nI b))]) hx hb dX10_common_62 hl (k := 4) rfl (nI_1 _) (by decide) rfl (fun ls hl => ?_)
        refine lv_goto (tgt := 5) hx hb dX10_common_65 (by decide) ?_
        exact ih_5 (f, (k + 1)) _ _ _ (by dsimp only; omega) ⟨_, rfl, lv_sub hl [2, 3, 4, 1, 0] rfl, hW, ⟨by rw [cmF_no2 c_33]; exact hi, by intro j hj; first | (have := hlim j hj; dsimp only; omega) | (cases hj; dsimp only; omega) | (have := hlim _ rfl; cases hj; dsimp only; omega), by (try dsimp only); omega⟩⟩
      · refine lv_iload_n hx hb dX10_common_36 rfl (lv_at hl 3 rfl) ?_
        refine lv_iconst (v := (-1)) hx hb dX10_common_37 (by decide) ?_
        refine r_oi_eq hx hb (o := f) (fun j hj => by have := hlim j hj; omega) (tgt := 55) dX10_common_38 (by decide) (fun c_38 => ?_) (fun j_38 c_38 => ?_)
        · subst c_38
          have hl : lv_has ls 5 [(0, .ref (ad 0)), (1, .int (nI a)), (2, .int (nI b)), (3, .int (-1)), (4, .int (nI k))] := hl
          refine lv_iload hx hb dX10_common_55 (lv_at hl 4 rfl) ?_
          refine lv_goto (tgt := 61) hx hb dX10_common_57 (by decide) ?_
          refine lv_istore_n (lv' := [(3, .int (nI k)), (0, .ref (ad 0)), (1, .int (nI a)), (2, .int (nI b)), (4, .int (nI k))]) hx hb dX10_common_61 rfl hl (by decide) rfl (fun ls hl => ?_)
          refine lv_iinc (v := (nI (k + 1))) (lv' := [(4, .int (nI (k + 1))), (3, .int (nI k)), (0, .ref (ad 0)), (1, .int (nI a)), (2, .int (nI b))]) hx hb dX10_common_62 hl (k := 4) rfl (nI_1 _) (by decide) rfl (fun ls hl => ?_)
          refine lv_goto (tgt := 5) hx hb dX10_common_65 (by decide) ?_
          exact ih_5 ((some k), (k + 1)) _ _ _ (by dsimp only; omega) ⟨_, rfl, lv_sub hl [2, 3, 4, 1, 0] rfl, hW, ⟨by rw [cmF_y0 c_23 c_33 hi.symm], by intro j hj; first | (have := hlim j hj; dsimp only; omega) | (cases hj; dsimp only; omega) | (have := hlim _ rfl; cases hj; dsimp only; omega), by (try dsimp only); omega⟩⟩
        · subst c_38
          have hl : lv_has ls 5 [(0, .ref (ad 0)), (1, .int (nI a)), (2, .int (nI b)), (3, .int (nI j_38)), (4, .int (nI k))] := hl
          refine lv_aload_n hx hb dX10_common_41 rfl (lv_at hl 0 rfl) ?_
          refine lv_iload hx hb dX10_common_42 (lv_at hl 4 rfl) ?_
          refine md_callg C hml hl.1 (As := [.int (nI k)]) (rest := []) (m_deep l D aT ad S n idn pr tn hF k (by omega)) gT_deep hd_deep rfl ⟨Nat.le_of_ble_eq_true rfl, Nat.le_of_ble_eq_true rfl⟩ ⟨Nat.le_refl _, Nat.le_refl _⟩ hW hA rfl (Nat.le_of_ble_eq_true rfl) dX10_common_44 (fun r_44 H locs hq hW => ?_)
          subst hq
          refine lv_aload_n hx hb dX10_common_47 rfl (lv_at hl 0 rfl) ?_
          refine lv_iload_n hx hb dX10_common_48 rfl (lv_at hl 3 rfl) ?_
          refine md_callg C hml hl.1 (As := [.int (nI j_38)]) (rest := [.int (nI (dep pr k))]) (m_deep l D aT ad S n idn pr tn hF j_38 (by have := hlim _ rfl; omega)) gT_deep hd_deep rfl ⟨Nat.le_of_ble_eq_true rfl, Nat.le_of_ble_eq_true rfl⟩ ⟨Nat.le_refl _, Nat.le_refl _⟩ hW hA rfl (Nat.le_of_ble_eq_true rfl) dX10_common_49 (fun r_49 H locs hq hW => ?_)
          subst hq
          refine r_leN hx hb (a := (dep pr k)) (b := (dep pr j_38)) (by first | exact Nat.lt_of_le_of_lt (dep_le hF.ok k (by omega)) (by omega) | exact Nat.lt_of_le_of_lt (dep_le hF.ok j_38 (by have := hlim _ rfl; omega)) (by have := hlim _ rfl; omega)) (by first | exact Nat.lt_of_le_of_lt (dep_le hF.ok k (by omega)) (by omega) | exact Nat.lt_of_le_of_lt (dep_le hF.ok j_38 (by have := hlim _ rfl; omega)) (by have := hlim _ rfl; omega)) (tgt := 60) dX10_common_52 (by decide) (fun c_52 => ?_) (fun c_52 => ?_)
          · refine lv_iload_n hx hb dX10_common_60 rfl (lv_at hl 3 rfl) ?_
            refine lv_istore_n (lv' := [(3, .int (nI j_38)), (0, .ref (ad 0)), (1, .int (nI a)), (2, .int (nI b)), (4, .int (nI k))]) hx hb dX10_common_61 rfl hl (by decide) rfl (fun ls hl => ?_)
            refine lv_iinc (v := (nI (k + 1))) (lv' := [(4, .int (nI (k + 1))), (3, .int (nI j_38)), (0, .ref (ad 0)), (1, .int (nI a)), (2, .int (nI b))]) hx hb dX10_common_62 hl (k := 4) rfl (nI_1 _) (by decide) rfl (fun ls hl => ?_)
            refine lv_goto (tgt := 5) hx hb dX10_common_65 (by decide) ?_
            exact ih_5 ((some j_38), (k + 1)) _ _ _ (by dsimp only; omega) ⟨_, rfl, lv_sub hl [2, 3, 4, 1, 0] rfl, hW, ⟨by rw [cmF_no3 hi.symm c_52]; exact hi, by intro j hj; first | (have := hlim j hj; dsimp only; omega) | (cases hj; dsimp only; omega) | (have := hlim _ rfl; cases hj; dsimp only; omega), by (try dsimp only); omega⟩⟩
          · refine lv_iload hx hb dX10_common_55 (lv_at hl 4 rfl) ?_
            refine lv_goto (tgt := 61) hx hb dX10_common_57 (by decide) ?_
            refine lv_istore_n (lv' := [(3, .int (nI k)), (0, .ref (ad 0)), (1, .int (nI a)), (2, .int (nI b)), (4, .int (nI k))]) hx hb dX10_common_61 rfl hl (by decide) rfl (fun ls hl => ?_)
            refine lv_iinc (v := (nI (k + 1))) (lv' := [(4, .int (nI (k + 1))), (3, .int (nI k)), (0, .ref (ad 0)), (1, .int (nI a)), (2, .int (nI b))]) hx hb dX10_common_62 hl (k := 4) rfl (nI_1 _) (by decide) rfl (fun ls hl => ?_)
            refine lv_goto (tgt := 5) hx hb dX10_common_65 (by decide) ?_
            exact ih_5 ((some k), (k + 1)) _ _ _ (by dsimp only; omega) ⟨_, rfl, lv_sub hl [2, 3, 4, 1, 0] rfl, hW, ⟨by rw [cmF_y1 c_23 c_33 hi.symm c_52], by intro j hj; first | (have := hlim j hj; dsimp only; omega) | (cases hj; dsimp only; omega) | (have := hlim _ rfl; cases hj; dsimp only; omega), by (try dsimp only); omega⟩⟩
theorem gT_commonMotion : GoodIn gw (wsV RX10 181 RX10 yX10_commonMotion (Cond.code yX10_commonMotion cX10_commonMotion 6 (some .int) :: gw)) := gdV gw_1926 gw_1915 gw_1916 gw_81 gw_1917
theorem hd_commonMotion : yX10_commonMotion.cls = RX10 ∧ yX10_commonMotion.cls ≠ "java/lang/invoke/MethodHandle" ∧ yX10_commonMotion.cls ≠ "java/lang/invoke/VarHandle" ∧ (parseMethodDescriptor yX10_commonMotion.desc).map (fun d => d.parameters.length) = some 2 := ⟨rfl, by decide +kernel, by decide +kernel, by decide +kernel⟩
theorem dX10_commonMotion_0 : decode cX10_commonMotion 0 = .ok (.aload_n 0, 1) := by decide +kernel
theorem dX10_commonMotion_1 : decode cX10_commonMotion 1 = .ok (.iconst 0, 1) := by decide +kernel
theorem dX10_commonMotion_2 : decode cX10_commonMotion 2 = .ok (.putfield 57, 3) := by decide +kernel
theorem dX10_commonMotion_5 : decode cX10_commonMotion 5 = .ok (.aload_n 0, 1) := by decide +kernel
theorem dX10_commonMotion_6 : decode cX10_commonMotion 6 = .ok (.iload_n 1, 1) := by decide +kernel
theorem dX10_commonMotion_7 : decode cX10_commonMotion 7 = .ok (.invokevirtual 71, 3) := by decide +kernel
theorem dX10_commonMotion_10 : decode cX10_commonMotion 10 = .ok (.istore_n 3, 1) := by decide +kernel
theorem dX10_commonMotion_11 : decode cX10_commonMotion 11 = .ok (.aload_n 0, 1) := by decide +kernel
theorem dX10_commonMotion_12 : decode cX10_commonMotion 12 = .ok (.iload_n 2, 1) := by decide +kernel
theorem dX10_commonMotion_13 : decode cX10_commonMotion 13 = .ok (.invokevirtual 71, 3) := by decide +kernel
theorem dX10_commonMotion_16 : decode cX10_commonMotion 16 = .ok (.istore 4, 2) := by decide +kernel
theorem dX10_commonMotion_18 : decode cX10_commonMotion 18 = .ok (.iload_n 3, 1) := by decide +kernel
theorem dX10_commonMotion_19 : decode cX10_commonMotion 19 = .ok (.iconst (-1), 1) := by decide +kernel
theorem dX10_commonMotion_20 : decode cX10_commonMotion 20 = .ok (.if_icmp .eq 9, 3) := by decide +kernel
theorem dX10_commonMotion_23 : decode cX10_commonMotion 23 = .ok (.iload 4, 2) := by decide +kernel
theorem dX10_commonMotion_25 : decode cX10_commonMotion 25 = .ok (.iconst (-1), 1) := by decide +kernel
theorem dX10_commonMotion_26 : decode cX10_commonMotion 26 = .ok (.if_icmp .ne 9, 3) := by decide +kernel
theorem dX10_commonMotion_29 : decode cX10_commonMotion 29 = .ok (.aload_n 0, 1) := by decide +kernel
theorem dX10_commonMotion_30 : decode cX10_commonMotion 30 = .ok (.iconst 1, 1) := by decide +kernel
theorem dX10_commonMotion_31 : decode cX10_commonMotion 31 = .ok (.invokevirtual 101, 3) := by decide +kernel
theorem dX10_commonMotion_34 : decode cX10_commonMotion 34 = .ok (.ireturn, 1) := by decide +kernel
theorem dX10_commonMotion_35 : decode cX10_commonMotion 35 = .ok (.aload_n 0, 1) := by decide +kernel
theorem dX10_commonMotion_36 : decode cX10_commonMotion 36 = .ok (.iload_n 3, 1) := by decide +kernel
theorem dX10_commonMotion_37 : decode cX10_commonMotion 37 = .ok (.iload 4, 2) := by decide +kernel
theorem dX10_commonMotion_39 : decode cX10_commonMotion 39 = .ok (.invokevirtual 178, 3) := by decide +kernel
theorem dX10_commonMotion_42 : decode cX10_commonMotion 42 = .ok (.istore 5, 2) := by decide +kernel
theorem dX10_commonMotion_44 : decode cX10_commonMotion 44 = .ok (.iload 5, 2) := by decide +kernel
theorem dX10_commonMotion_46 : decode cX10_commonMotion 46 = .ok (.iconst (-1), 1) := by decide +kernel
theorem dX10_commonMotion_47 : decode cX10_commonMotion 47 = .ok (.if_icmp .ne 11, 3) := by decide +kernel
theorem dX10_commonMotion_50 : decode cX10_commonMotion 50 = .ok (.aload_n 0, 1) := by decide +kernel
theorem dX10_commonMotion_51 : decode cX10_commonMotion 51 = .ok (.iconst 2, 1) := by decide +kernel
theorem dX10_commonMotion_52 : decode cX10_commonMotion 52 = .ok (.invokevirtual 101, 3) := by decide +kernel
theorem dX10_commonMotion_55 : decode cX10_commonMotion 55 = .ok (.goto 10, 3) := by decide +kernel
theorem dX10_commonMotion_58 : decode cX10_commonMotion 58 = .ok (.aload_n 0, 1) := by decide +kernel
theorem dX10_commonMotion_59 : decode cX10_commonMotion 59 = .ok (.iload 5, 2) := by decide +kernel
theorem dX10_commonMotion_61 : decode cX10_commonMotion 61 = .ok (.iconst 0, 1) := by decide +kernel
theorem dX10_commonMotion_62 : decode cX10_commonMotion 62 = .ok (.invokevirtual 67, 3) := by decide +kernel
theorem dX10_commonMotion_65 : decode cX10_commonMotion 65 = .ok (.ireturn, 1) := by decide +kernel
set_option maxHeartbeats 1000000 in
set_option maxRecDepth 20000 in
theorem m_commonMotion (l : Launch) (D : va_G) (aT : Nat → ClassId) (ad : Nat → Nat) (S : MSt) (x y : Int32) (hF : FoW (S 0)) : MdI l yX10_commonMotion cX10_commonMotion 6 .int 5 112 D aT ad [.ref (ad 0), .int x, .int y] S (fun r S1 => ((fnd (fun k => S 0 (29 + 4 * k)) x (nM (S 0)) = none ∨ fnd (fun k => S 0 (29 + 4 * k)) y (nM (S 0)) = none) ∧ r = -1 ∧ S1 = ss S 8 (nI 1)) ∨ (∃ a b, fnd (fun k => S 0 (29 + 4 * k)) x (nM (S 0)) = some a ∧ fnd (fun k => S 0 (29 + 4 * k)) y (nM (S 0)) = some b ∧ cmF (prM (S 0)) a b (nM (S 0)) = none ∧ r = -1 ∧ S1 = ss S 8 (nI 2)) ∨ (∃ a b k, fnd (fun k => S 0 (29 + 4 * k)) x (nM (S 0)) = some a ∧ fnd (fun k => S 0 (29 + 4 * k)) y (nM (S 0)) = some b ∧ cmF (prM (S 0)) a b (nM (S 0)) = some k ∧ r = S 0 (29 + 4 * k) ∧ S1 = ss S 8 (nI 0))) := by
  refine MdI.of (by decide +kernel) rfl (Nat.le_of_ble_eq_true rfl) ?_
  intro p e s m below meth c A ls C hml hl hA hr hlocks hW
  have hl : lv_has ls 6 [(0, .ref (ad 0)), (1, .int x), (2, .int y)] := hl
  have hx := C.1
  have hb := C.2.1
  refine lv_aload_n hx hb dX10_commonMotion_0 rfl (lv_at hl 0 rfl) ?_
  refine lv_iconst (v := nI 0) hx hb dX10_commonMotion_1 (by decide) ?_
  refine md_put_thrown C hW dX10_commonMotion_2 (fun H locs hW => ?_)
  refine lv_aload_n hx hb dX10_commonMotion_5 rfl (lv_at hl 0 rfl) ?_
  refine lv_iload_n hx hb dX10_commonMotion_6 rfl (lv_at hl 1 rfl) ?_
  refine md_callg C hml hl.1 (As := [.int x]) (rest := []) (m_find l D aT ad (ss S 8 (nI 0)) (x) (nM (S 0)) hF.1 hF.2.1) gT_find hd_find rfl ⟨Nat.le_of_ble_eq_true rfl, Nat.le_of_ble_eq_true rfl⟩ ⟨Nat.le_refl _, Nat.le_refl _⟩ hW hA rfl (Nat.le_of_ble_eq_true rfl) dX10_commonMotion_7 (fun r_7 H locs hq hW => ?_)
  subst hq
  refine lv_istore_n (lv' := [(3, .int (oi (fnd (fun k => (ss S 8 (nI 0)) 0 (29 + 4 * k)) (x) (nM (S 0))))), (0, .ref (ad 0)), (1, .int x), (2, .int y)]) hx hb dX10_commonMotion_10 rfl hl (by decide) rfl (fun ls hl => ?_)
  refine lv_aload_n hx hb dX10_commonMotion_11 rfl (lv_at hl 1 rfl) ?_
  refine lv_iload_n hx hb dX10_commonMotion_12 rfl (lv_at hl 3 rfl) ?_
  refine md_callg C hml hl.1 (As := [.int y]) (rest := []) (m_find l D aT ad (ss S 8 (nI 0)) (y) (nM (S 0)) hF.1 hF.2.1) gT_find hd_find rfl ⟨Nat.le_of_ble_eq_true rfl, Nat.le_of_ble_eq_true rfl⟩ ⟨Nat.le_refl _, Nat.le_refl _⟩ hW hA rfl (Nat.le_of_ble_eq_true rfl) dX10_commonMotion_13 (fun r_13 H locs hq hW => ?_)
  subst hq
  refine lv_istore (lv' := [(4, .int (oi (fnd (fun k => (ss S 8 (nI 0)) 0 (29 + 4 * k)) (y) (nM (S 0))))), (3, .int (oi (fnd (fun k => (ss S 8 (nI 0)) 0 (29 + 4 * k)) (x) (nM (S 0))))), (0, .ref (ad 0)), (1, .int x), (2, .int y)]) hx hb dX10_commonMotion_16 hl (by decide) rfl (fun ls hl => ?_)
  refine lv_iload_n hx hb dX10_commonMotion_18 rfl (lv_at hl 1 rfl) ?_
  refine lv_iconst (v := (-1)) hx hb dX10_commonMotion_19 (by decide) ?_
  refine r_oi_eq hx hb (o := (fnd (fun k => (ss S 8 (nI 0)) 0 (29 + 4 * k)) (x) (nM (S 0)))) (fun j hj => by have := (fnd_some hj).1; have := hF.n12; omega) (tgt := 29) dX10_commonMotion_20 (by decide) (fun c_20 => ?_) (fun j_20 c_20 => ?_)
  · have hl : lv_has ls 6 [(4, .int (oi (fnd (fun k => (ss S 8 (nI 0)) 0 (29 + 4 * k)) (y) (nM (S 0))))), (3, .int (-1)), (0, .ref (ad 0)), (1, .int x), (2, .int y)] := by rw [c_20] at hl; exact hl
    refine lv_aload_n hx hb dX10_commonMotion_29 rfl (lv_at hl 2 rfl) ?_
    refine lv_iconst (v := nI 1) hx hb dX10_commonMotion_30 (by decide) ?_
    refine md_calli C hml hl.1 (As := [.int (nI 1)]) (rest := []) (m_throwing l D aT ad (ss S 8 (nI 0)) 1) gT_throwing hd_throwing rfl ⟨Nat.le_of_ble_eq_true rfl, Nat.le_of_ble_eq_true rfl⟩ ⟨Nat.le_refl _, Nat.le_refl _⟩ hW hA rfl (Nat.le_of_ble_eq_true rfl) dX10_commonMotion_31 (fun r_31 S_31 H locs hq hW => ?_)
    obtain ⟨rfl, rfl⟩ := hq
    exact md_iret C hr hlocks rfl hW (Or.inl ⟨Or.inl c_20, rfl, ss_ss _ _ _ _⟩) dX10_commonMotion_34
  · have hl : lv_has ls 6 [(4, .int (oi (fnd (fun k => (ss S 8 (nI 0)) 0 (29 + 4 * k)) (y) (nM (S 0))))), (3, .int (nI j_20)), (0, .ref (ad 0)), (1, .int x), (2, .int y)] := by rw [c_20] at hl; exact hl
    have hq1 := (fnd_some c_20).1
    have h12 := hF.n12
    refine lv_iload hx hb dX10_commonMotion_23 (lv_at hl 0 rfl) ?_
    refine lv_iconst (v := (-1)) hx hb dX10_commonMotion_25 (by decide) ?_
    refine r_oi_ne hx hb (o := (fnd (fun k => (ss S 8 (nI 0)) 0 (29 + 4 * k)) (y) (nM (S 0)))) (fun j hj => by have := (fnd_some hj).1; have := hF.n12; omega) (tgt := 35) dX10_commonMotion_26 (by decide) (fun j_26 c_26 => ?_) (fun c_26 => ?_)
    · have hl : lv_has ls 6 [(4, .int (nI j_26)), (3, .int (nI j_20)), (0, .ref (ad 0)), (1, .int x), (2, .int y)] := by rw [c_26] at hl; exact hl
      have hq2 := (fnd_some c_26).1
      refine lv_aload_n hx hb dX10_commonMotion_35 rfl (lv_at hl 2 rfl) ?_
      refine lv_iload_n hx hb dX10_commonMotion_36 rfl (lv_at hl 1 rfl) ?_
      refine lv_iload hx hb dX10_commonMotion_37 (lv_at hl 0 rfl) ?_
      refine md_callg C hml hl.1 (As := [.int (nI j_20), .int (nI j_26)]) (rest := []) (m_common l D aT ad (ss S 8 (nI 0)) (nM (S 0)) (idM (S 0)) (prM (S 0)) (tnM (S 0)) hF j_20 j_26 (hq1) (hq2)) gT_common hd_common rfl ⟨Nat.le_of_ble_eq_true rfl, Nat.le_of_ble_eq_true rfl⟩ ⟨Nat.le_refl _, Nat.le_refl _⟩ hW hA rfl (Nat.le_of_ble_eq_true rfl) dX10_commonMotion_39 (fun r_39 H locs hq hW => ?_)
      subst hq
      refine lv_istore (lv' := [(5, .int (oi (cmF (prM (S 0)) j_20 j_26 (nM (S 0))))), (4, .int (nI j_26)), (3, .int (nI j_20)), (0, .ref (ad 0)), (1, .int x), (2, .int y)]) hx hb dX10_commonMotion_42 hl (by decide) rfl (fun ls hl => ?_)
      refine lv_iload hx hb dX10_commonMotion_44 (lv_at hl 0 rfl) ?_
      refine lv_iconst (v := (-1)) hx hb dX10_commonMotion_46 (by decide) ?_
      refine r_oi_ne hx hb (o := (cmF (prM (S 0)) j_20 j_26 (nM (S 0)))) (fun j hj => by have := (cmF_at hj).1; have := hF.n12; omega) (tgt := 58) dX10_commonMotion_47 (by decide) (fun j_47 c_47 => ?_) (fun c_47 => ?_)
      · have hl : lv_has ls 6 [(5, .int (nI j_47)), (4, .int (nI j_26)), (3, .int (nI j_20)), (0, .ref (ad 0)), (1, .int x), (2, .int y)] := by rw [c_47] at hl; exact hl
        have hq3 := (cmF_at c_47).1
        refine lv_aload_n hx hb dX10_commonMotion_58 rfl (lv_at hl 3 rfl) ?_
        refine lv_iload hx hb dX10_commonMotion_59 (lv_at hl 0 rfl) ?_
        refine lv_iconst (v := nI 0) hx hb dX10_commonMotion_61 (by decide) ?_
        refine md_callg C hml hl.1 (As := [.int (nI j_47), .int (nI 0)]) (rest := []) (m_of l D aT ad (ss S 8 (nI 0)) j_47 0 (by omega)) gT_of hd_of rfl ⟨Nat.le_of_ble_eq_true rfl, Nat.le_of_ble_eq_true rfl⟩ ⟨Nat.le_refl _, Nat.le_refl _⟩ hW hA rfl (Nat.le_of_ble_eq_true rfl) dX10_commonMotion_62 (fun r_62 H locs hq hW => ?_)
        subst hq
        refine r_eq (y := (S 0 (29 + 4 * j_47))) (rfl) ?_
        exact md_iret C hr hlocks rfl hW (Or.inr (Or.inr ⟨j_20, j_26, j_47, c_20, c_26, c_47, rfl, rfl⟩)) dX10_commonMotion_65
      · have hl : lv_has ls 6 [(5, .int (-1)), (4, .int (nI j_26)), (3, .int (nI j_20)), (0, .ref (ad 0)), (1, .int x), (2, .int y)] := by rw [c_47] at hl; exact hl
        refine lv_aload_n hx hb dX10_commonMotion_50 rfl (lv_at hl 3 rfl) ?_
        refine lv_iconst (v := nI 2) hx hb dX10_commonMotion_51 (by decide) ?_
        refine md_calli C hml hl.1 (As := [.int (nI 2)]) (rest := []) (m_throwing l D aT ad (ss S 8 (nI 0)) 2) gT_throwing hd_throwing rfl ⟨Nat.le_of_ble_eq_true rfl, Nat.le_of_ble_eq_true rfl⟩ ⟨Nat.le_refl _, Nat.le_refl _⟩ hW hA rfl (Nat.le_of_ble_eq_true rfl) dX10_commonMotion_52 (fun r_52 S_52 H locs hq hW => ?_)
        obtain ⟨rfl, rfl⟩ := hq
        refine lv_goto (tgt := 65) hx hb dX10_commonMotion_55 (by decide) ?_
        exact md_iret C hr hlocks rfl hW (Or.inr (Or.inl ⟨j_20, j_26, c_20, c_26, c_47, rfl, ss_ss _ _ _ _⟩)) dX10_commonMotion_65
    · have hl : lv_has ls 6 [(4, .int (-1)), (3, .int (nI j_20)), (0, .ref (ad 0)), (1, .int x), (2, .int y)] := by rw [c_26] at hl; exact hl
      refine lv_aload_n hx hb dX10_commonMotion_29 rfl (lv_at hl 2 rfl) ?_
      refine lv_iconst (v := nI 1) hx hb dX10_commonMotion_30 (by decide) ?_
      refine md_calli C hml hl.1 (As := [.int (nI 1)]) (rest := []) (m_throwing l D aT ad (ss S 8 (nI 0)) 1) gT_throwing hd_throwing rfl ⟨Nat.le_of_ble_eq_true rfl, Nat.le_of_ble_eq_true rfl⟩ ⟨Nat.le_refl _, Nat.le_refl _⟩ hW hA rfl (Nat.le_of_ble_eq_true rfl) dX10_commonMotion_31 (fun r_31 S_31 H locs hq hW => ?_)
      obtain ⟨rfl, rfl⟩ := hq
      exact md_iret C hr hlocks rfl hW (Or.inl ⟨Or.inr c_26, rfl, ss_ss _ _ _ _⟩) dX10_commonMotion_34
theorem dX10_commonMotionByRows_0 : decode cX10_commonMotionByRows 0 = .ok (.aload_n 0, 1) := by decide +kernel
theorem dX10_commonMotionByRows_1 : decode cX10_commonMotionByRows 1 = .ok (.iload_n 1, 1) := by decide +kernel
theorem dX10_commonMotionByRows_2 : decode cX10_commonMotionByRows 2 = .ok (.iload_n 2, 1) := by decide +kernel
theorem dX10_commonMotionByRows_3 : decode cX10_commonMotionByRows 3 = .ok (.invokevirtual 181, 3) := by decide +kernel
theorem dX10_commonMotionByRows_6 : decode cX10_commonMotionByRows 6 = .ok (.ireturn, 1) := by decide +kernel
set_option maxHeartbeats 1000000 in
set_option maxRecDepth 20000 in
theorem m_commonMotionByRows (l : Launch) (D : va_G) (aT : Nat → ClassId) (ad : Nat → Nat) (S : MSt) (x y : Int32) (hF : FoW (S 0)) : MdI l yX10_commonMotionByRows cX10_commonMotionByRows 3 .int 6 137 D aT ad [.ref (ad 0), .int x, .int y] S (fun r S1 => ((fnd (fun k => S 0 (29 + 4 * k)) x (nM (S 0)) = none ∨ fnd (fun k => S 0 (29 + 4 * k)) y (nM (S 0)) = none) ∧ r = -1 ∧ S1 = ss S 8 (nI 1)) ∨ (∃ a b, fnd (fun k => S 0 (29 + 4 * k)) x (nM (S 0)) = some a ∧ fnd (fun k => S 0 (29 + 4 * k)) y (nM (S 0)) = some b ∧ cmF (prM (S 0)) a b (nM (S 0)) = none ∧ r = -1 ∧ S1 = ss S 8 (nI 2)) ∨ (∃ a b k, fnd (fun k => S 0 (29 + 4 * k)) x (nM (S 0)) = some a ∧ fnd (fun k => S 0 (29 + 4 * k)) y (nM (S 0)) = some b ∧ cmF (prM (S 0)) a b (nM (S 0)) = some k ∧ r = S 0 (29 + 4 * k) ∧ S1 = ss S 8 (nI 0))) := by
  refine MdI.of (by decide +kernel) rfl (Nat.le_of_ble_eq_true rfl) ?_
  intro p e s m below meth c A ls C hml hl hA hr hlocks hW
  have hl : lv_has ls 3 [(0, .ref (ad 0)), (1, .int x), (2, .int y)] := hl
  have hx := C.1
  have hb := C.2.1
  refine lv_aload_n hx hb dX10_commonMotionByRows_0 rfl (lv_at hl 0 rfl) ?_
  refine lv_iload_n hx hb dX10_commonMotionByRows_1 rfl (lv_at hl 1 rfl) ?_
  refine lv_iload_n hx hb dX10_commonMotionByRows_2 rfl (lv_at hl 2 rfl) ?_
  refine md_calli C hml hl.1 (As := [.int x, .int y]) (rest := []) (m_commonMotion l D aT ad S (x) (y) hF) gT_commonMotion hd_commonMotion rfl ⟨Nat.le_of_ble_eq_true rfl, Nat.le_of_ble_eq_true rfl⟩ ⟨Nat.le_refl _, Nat.le_refl _⟩ hW hA rfl (Nat.le_of_ble_eq_true rfl) dX10_commonMotionByRows_3 (fun r_3 S_3 H locs hq hW => ?_)
  rcases hq with ⟨h1, rfl, rfl⟩ | ⟨a, b, h1, h2, h3, rfl, rfl⟩ | ⟨a, b, k, h1, h2, h3, rfl, rfl⟩
  · exact md_iret C hr hlocks rfl hW (Or.inl ⟨h1, rfl, rfl⟩) dX10_commonMotionByRows_6
  · exact md_iret C hr hlocks rfl hW (Or.inr (Or.inl ⟨a, b, h1, h2, h3, rfl, rfl⟩)) dX10_commonMotionByRows_6
  · exact md_iret C hr hlocks rfl hW (Or.inr (Or.inr ⟨a, b, k, h1, h2, h3, rfl, rfl⟩)) dX10_commonMotionByRows_6
theorem gT_steps : GoodIn gw (wsV RX10 184 RX10 yX10_steps (Cond.code yX10_steps cX10_steps 3 (some .int) :: gw)) := gdV gw_1931 gw_1933 gw_50 gw_81 gw_1934
theorem hd_steps : yX10_steps.cls = RX10 ∧ yX10_steps.cls ≠ "java/lang/invoke/MethodHandle" ∧ yX10_steps.cls ≠ "java/lang/invoke/VarHandle" ∧ (parseMethodDescriptor yX10_steps.desc).map (fun d => d.parameters.length) = some 2 := ⟨rfl, by decide +kernel, by decide +kernel, by decide +kernel⟩
theorem dX10_steps_0 : decode cX10_steps 0 = .ok (.aload_n 0, 1) := by decide +kernel
theorem dX10_steps_1 : decode cX10_steps 1 = .ok (.iload_n 1, 1) := by decide +kernel
theorem dX10_steps_2 : decode cX10_steps 2 = .ok (.invokevirtual 125, 3) := by decide +kernel
theorem dX10_steps_5 : decode cX10_steps 5 = .ok (.aload_n 0, 1) := by decide +kernel
theorem dX10_steps_6 : decode cX10_steps 6 = .ok (.iload_n 2, 1) := by decide +kernel
theorem dX10_steps_7 : decode cX10_steps 7 = .ok (.invokevirtual 125, 3) := by decide +kernel
theorem dX10_steps_10 : decode cX10_steps 10 = .ok (.iadd, 1) := by decide +kernel
theorem dX10_steps_11 : decode cX10_steps 11 = .ok (.iconst 2, 1) := by decide +kernel
theorem dX10_steps_12 : decode cX10_steps 12 = .ok (.aload_n 0, 1) := by decide +kernel
theorem dX10_steps_13 : decode cX10_steps 13 = .ok (.aload_n 0, 1) := by decide +kernel
theorem dX10_steps_14 : decode cX10_steps 14 = .ok (.iload_n 1, 1) := by decide +kernel
theorem dX10_steps_15 : decode cX10_steps 15 = .ok (.iload_n 2, 1) := by decide +kernel
theorem dX10_steps_16 : decode cX10_steps 16 = .ok (.invokevirtual 178, 3) := by decide +kernel
theorem dX10_steps_19 : decode cX10_steps 19 = .ok (.invokevirtual 125, 3) := by decide +kernel
theorem dX10_steps_22 : decode cX10_steps 22 = .ok (.imul, 1) := by decide +kernel
theorem dX10_steps_23 : decode cX10_steps 23 = .ok (.isub, 1) := by decide +kernel
theorem dX10_steps_24 : decode cX10_steps 24 = .ok (.ireturn, 1) := by decide +kernel
set_option maxHeartbeats 1000000 in
set_option maxRecDepth 20000 in
theorem m_steps (l : Launch) (D : va_G) (aT : Nat → ClassId) (ad : Nat → Nat) (S : MSt) (n : Nat) (idn : Nat → Nat) (pr : Nat → Option Nat) (tn : Nat → Nat) (hF : FoR (S 0) n idn pr tn) (a b k : Nat) (ha : a < n) (hb2 : b < n) (hk : cmF pr a b n = some k) : MdG l yX10_steps cX10_steps 3 .int 5 112 D aT ad [.ref (ad 0), .int (nI a), .int (nI b)] S (fun r => r = nI (stN pr n a b)) := by
  refine MdI.of (by decide +kernel) rfl (Nat.le_of_ble_eq_true rfl) ?_
  intro p e s m below meth c A ls C hml hl hA hr hlocks hW
  have hl : lv_has ls 3 [(0, .ref (ad 0)), (1, .int (nI a)), (2, .int (nI b))] := hl
  have hx := C.1
  have hb := C.2.1
  refine lv_aload_n hx hb dX10_steps_0 rfl (lv_at hl 0 rfl) ?_
  refine lv_iload_n hx hb dX10_steps_1 rfl (lv_at hl 1 rfl) ?_
  refine md_callg C hml hl.1 (As := [.int (nI a)]) (rest := []) (m_deep l D aT ad S n idn pr tn hF a (ha)) gT_deep hd_deep rfl ⟨Nat.le_of_ble_eq_true rfl, Nat.le_of_ble_eq_true rfl⟩ ⟨Nat.le_refl _, Nat.le_refl _⟩ hW hA rfl (Nat.le_of_ble_eq_true rfl) dX10_steps_2 (fun r_2 H locs hq hW => ?_)
  subst hq
  refine lv_aload_n hx hb dX10_steps_5 rfl (lv_at hl 0 rfl) ?_
  refine lv_iload_n hx hb dX10_steps_6 rfl (lv_at hl 2 rfl) ?_
  refine md_callg C hml hl.1 (As := [.int (nI b)]) (rest := [.int (nI (dep pr a))]) (m_deep l D aT ad S n idn pr tn hF b (hb2)) gT_deep hd_deep rfl ⟨Nat.le_of_ble_eq_true rfl, Nat.le_of_ble_eq_true rfl⟩ ⟨Nat.le_refl _, Nat.le_refl _⟩ hW hA rfl (Nat.le_of_ble_eq_true rfl) dX10_steps_7 (fun r_7 H locs hq hW => ?_)
  subst hq
  refine r_iaddN hx hb (a := (dep pr a)) (b := (dep pr b)) dX10_steps_10 ?_
  refine lv_iconst (v := nI 2) hx hb dX10_steps_11 (by decide) ?_
  refine lv_aload_n hx hb dX10_steps_12 rfl (lv_at hl 0 rfl) ?_
  refine lv_aload_n hx hb dX10_steps_13 rfl (lv_at hl 0 rfl) ?_
  refine lv_iload_n hx hb dX10_steps_14 rfl (lv_at hl 1 rfl) ?_
  refine lv_iload_n hx hb dX10_steps_15 rfl (lv_at hl 2 rfl) ?_
  refine md_callg C hml hl.1 (As := [.int (nI a), .int (nI b)]) (rest := [.ref (ad 0), .int (nI 2), .int (nI (dep pr a + (dep pr b)))]) (m_common l D aT ad S n idn pr tn hF a b (ha) (hb2)) gT_common hd_common rfl ⟨Nat.le_of_ble_eq_true rfl, Nat.le_of_ble_eq_true rfl⟩ ⟨Nat.le_refl _, Nat.le_refl _⟩ hW hA rfl (Nat.le_of_ble_eq_true rfl) dX10_steps_16 (fun r_16 H locs hq hW => ?_)
  subst hq
  refine r_eq (y := (nI k)) (by rw [hk]; rfl) ?_
  refine md_callg C hml hl.1 (As := [.int (nI k)]) (rest := [.int (nI 2), .int (nI (dep pr a + (dep pr b)))]) (m_deep l D aT ad S n idn pr tn hF k ((cmF_at hk).1)) gT_deep hd_deep rfl ⟨Nat.le_of_ble_eq_true rfl, Nat.le_of_ble_eq_true rfl⟩ ⟨Nat.le_refl _, Nat.le_refl _⟩ hW hA rfl (Nat.le_of_ble_eq_true rfl) dX10_steps_19 (fun r_19 H locs hq hW => ?_)
  subst hq
  refine r_imulN hx hb (a := 2) (b := (dep pr k)) dX10_steps_22 ?_
  refine r_isubN hx hb (a := dep pr a + (dep pr b)) (b := 2 * (dep pr k)) (by have := anc_dep hF.ok a ha (cmF_at hk).2.1; have := anc_dep hF.ok b hb2 (cmF_at hk).2.2; omega) dX10_steps_23 ?_
  exact md_iret C hr hlocks rfl hW (⟨by unfold stN; rw [hk], rfl⟩) dX10_steps_24
theorem dX10_pathSize_0 : decode cX10_pathSize 0 = .ok (.aload_n 0, 1) := by decide +kernel
theorem dX10_pathSize_1 : decode cX10_pathSize 1 = .ok (.iload_n 1, 1) := by decide +kernel
theorem dX10_pathSize_2 : decode cX10_pathSize 2 = .ok (.iload_n 2, 1) := by decide +kernel
theorem dX10_pathSize_3 : decode cX10_pathSize 3 = .ok (.invokevirtual 181, 3) := by decide +kernel
theorem dX10_pathSize_6 : decode cX10_pathSize 6 = .ok (.pop, 1) := by decide +kernel
theorem dX10_pathSize_7 : decode cX10_pathSize 7 = .ok (.aload_n 0, 1) := by decide +kernel
theorem dX10_pathSize_8 : decode cX10_pathSize 8 = .ok (.getfield 57, 3) := by decide +kernel
theorem dX10_pathSize_11 : decode cX10_pathSize 11 = .ok (.ifCond .le 7, 3) := by decide +kernel
theorem dX10_pathSize_14 : decode cX10_pathSize 14 = .ok (.iconst (-1), 1) := by decide +kernel
theorem dX10_pathSize_15 : decode cX10_pathSize 15 = .ok (.goto 19, 3) := by decide +kernel
theorem dX10_pathSize_18 : decode cX10_pathSize 18 = .ok (.aload_n 0, 1) := by decide +kernel
theorem dX10_pathSize_19 : decode cX10_pathSize 19 = .ok (.aload_n 0, 1) := by decide +kernel
theorem dX10_pathSize_20 : decode cX10_pathSize 20 = .ok (.iload_n 1, 1) := by decide +kernel
theorem dX10_pathSize_21 : decode cX10_pathSize 21 = .ok (.invokevirtual 71, 3) := by decide +kernel
theorem dX10_pathSize_24 : decode cX10_pathSize 24 = .ok (.aload_n 0, 1) := by decide +kernel
theorem dX10_pathSize_25 : decode cX10_pathSize 25 = .ok (.iload_n 2, 1) := by decide +kernel
theorem dX10_pathSize_26 : decode cX10_pathSize 26 = .ok (.invokevirtual 71, 3) := by decide +kernel
theorem dX10_pathSize_29 : decode cX10_pathSize 29 = .ok (.invokevirtual 184, 3) := by decide +kernel
theorem dX10_pathSize_32 : decode cX10_pathSize 32 = .ok (.iconst 1, 1) := by decide +kernel
theorem dX10_pathSize_33 : decode cX10_pathSize 33 = .ok (.iadd, 1) := by decide +kernel
theorem dX10_pathSize_34 : decode cX10_pathSize 34 = .ok (.ireturn, 1) := by decide +kernel
set_option maxHeartbeats 1000000 in
set_option maxRecDepth 20000 in
theorem m_pathSize (l : Launch) (D : va_G) (aT : Nat → ClassId) (ad : Nat → Nat) (S : MSt) (x y : Int32) (hF : FoW (S 0)) : MdI l yX10_pathSize cX10_pathSize 3 .int 6 137 D aT ad [.ref (ad 0), .int x, .int y] S (fun r S1 => ((fnd (fun k => S 0 (29 + 4 * k)) x (nM (S 0)) = none ∨ fnd (fun k => S 0 (29 + 4 * k)) y (nM (S 0)) = none) ∧ r = -1 ∧ S1 = ss S 8 (nI 1)) ∨ (∃ a b, fnd (fun k => S 0 (29 + 4 * k)) x (nM (S 0)) = some a ∧ fnd (fun k => S 0 (29 + 4 * k)) y (nM (S 0)) = some b ∧ cmF (prM (S 0)) a b (nM (S 0)) = none ∧ r = -1 ∧ S1 = ss S 8 (nI 2)) ∨ (∃ a b k, fnd (fun k => S 0 (29 + 4 * k)) x (nM (S 0)) = some a ∧ fnd (fun k => S 0 (29 + 4 * k)) y (nM (S 0)) = some b ∧ cmF (prM (S 0)) a b (nM (S 0)) = some k ∧ r = nI (stN (prM (S 0)) (nM (S 0)) a b + 1) ∧ S1 = ss S 8 (nI 0))) := by
  refine MdI.of (by decide +kernel) rfl (Nat.le_of_ble_eq_true rfl) ?_
  intro p e s m below meth c A ls C hml hl hA hr hlocks hW
  have hl : lv_has ls 3 [(0, .ref (ad 0)), (1, .int x), (2, .int y)] := hl
  have hx := C.1
  have hb := C.2.1
  refine lv_aload_n hx hb dX10_pathSize_0 rfl (lv_at hl 0 rfl) ?_
  refine lv_iload_n hx hb dX10_pathSize_1 rfl (lv_at hl 1 rfl) ?_
  refine lv_iload_n hx hb dX10_pathSize_2 rfl (lv_at hl 2 rfl) ?_
  refine md_calli C hml hl.1 (As := [.int x, .int y]) (rest := []) (m_commonMotion l D aT ad S (x) (y) hF) gT_commonMotion hd_commonMotion rfl ⟨Nat.le_of_ble_eq_true rfl, Nat.le_of_ble_eq_true rfl⟩ ⟨Nat.le_refl _, Nat.le_refl _⟩ hW hA rfl (Nat.le_of_ble_eq_true rfl) dX10_pathSize_3 (fun r_3 S_3 H locs hq hW => ?_)
  rcases hq with ⟨h1, rfl, rfl⟩ | ⟨a, b, h1, h2, h3, rfl, rfl⟩ | ⟨a, b, k, h1, h2, h3, rfl, rfl⟩
  · refine lv_pop hx hb dX10_pathSize_6 rfl ?_
    refine lv_aload_n hx hb dX10_pathSize_7 rfl (lv_at hl 0 rfl) ?_
    refine md_get_thrown C hW dX10_pathSize_8 ?_
    refine r_eq (y := (nI 1)) (ss_s _ _ _) ?_
    refine r_ifleN hx hb (a := 1) (by decide) (tgt := 18) dX10_pathSize_11 (by decide) (fun c_11 => ?_) (fun c_11 => ?_)
    · exact absurd c_11 (by decide)
    · refine lv_iconst (v := (-1)) hx hb dX10_pathSize_14 (by decide) ?_
      refine lv_goto (tgt := 34) hx hb dX10_pathSize_15 (by decide) ?_
      exact md_iret C hr hlocks rfl hW (Or.inl ⟨h1, rfl, rfl⟩) dX10_pathSize_34
  · refine lv_pop hx hb dX10_pathSize_6 rfl ?_
    refine lv_aload_n hx hb dX10_pathSize_7 rfl (lv_at hl 0 rfl) ?_
    refine md_get_thrown C hW dX10_pathSize_8 ?_
    refine r_eq (y := (nI 2)) (ss_s _ _ _) ?_
    refine r_ifleN hx hb (a := 2) (by decide) (tgt := 18) dX10_pathSize_11 (by decide) (fun c_11 => ?_) (fun c_11 => ?_)
    · exact absurd c_11 (by decide)
    · refine lv_iconst (v := (-1)) hx hb dX10_pathSize_14 (by decide) ?_
      refine lv_goto (tgt := 34) hx hb dX10_pathSize_15 (by decide) ?_
      exact md_iret C hr hlocks rfl hW (Or.inr (Or.inl ⟨a, b, h1, h2, h3, rfl, rfl⟩)) dX10_pathSize_34
  · refine lv_pop hx hb dX10_pathSize_6 rfl ?_
    refine lv_aload_n hx hb dX10_pathSize_7 rfl (lv_at hl 0 rfl) ?_
    refine md_get_thrown C hW dX10_pathSize_8 ?_
    refine r_eq (y := (nI 0)) (ss_s _ _ _) ?_
    refine r_ifleN hx hb (a := 0) (by decide) (tgt := 18) dX10_pathSize_11 (by decide) (fun c_11 => ?_) (fun c_11 => ?_)
    · refine lv_aload_n hx hb dX10_pathSize_18 rfl (lv_at hl 0 rfl) ?_
      refine lv_aload_n hx hb dX10_pathSize_19 rfl (lv_at hl 0 rfl) ?_
      refine lv_iload_n hx hb dX10_pathSize_20 rfl (lv_at hl 1 rfl) ?_
      refine md_callg C hml hl.1 (As := [.int x]) (rest := [.ref (ad 0)]) (m_find l D aT ad (ss S 8 (nI 0)) (x) (nM (S 0)) hF.1 hF.2.1) gT_find hd_find rfl ⟨Nat.le_of_ble_eq_true rfl, Nat.le_of_ble_eq_true rfl⟩ ⟨Nat.le_refl _, Nat.le_refl _⟩ hW hA rfl (Nat.le_of_ble_eq_true rfl) dX10_pathSize_21 (fun r_21 H locs hq hW => ?_)
      subst hq
      refine r_eq (y := (nI a)) (congrArg oi h1) ?_
      refine lv_aload_n hx hb dX10_pathSize_24 rfl (lv_at hl 0 rfl) ?_
      refine lv_iload_n hx hb dX10_pathSize_25 rfl (lv_at hl 2 rfl) ?_
      refine md_callg C hml hl.1 (As := [.int y]) (rest := [.int (nI a), .ref (ad 0)]) (m_find l D aT ad (ss S 8 (nI 0)) (y) (nM (S 0)) hF.1 hF.2.1) gT_find hd_find rfl ⟨Nat.le_of_ble_eq_true rfl, Nat.le_of_ble_eq_true rfl⟩ ⟨Nat.le_refl _, Nat.le_refl _⟩ hW hA rfl (Nat.le_of_ble_eq_true rfl) dX10_pathSize_26 (fun r_26 H locs hq hW => ?_)
      subst hq
      refine r_eq (y := (nI b)) (congrArg oi h2) ?_
      refine md_callg C hml hl.1 (As := [.int (nI a), .int (nI b)]) (rest := []) (m_steps l D aT ad (ss S 8 (nI 0)) (nM (S 0)) (idM (S 0)) (prM (S 0)) (tnM (S 0)) hF a b k (fnd_some h1).1 (fnd_some h2).1 h3) gT_steps hd_steps rfl ⟨Nat.le_of_ble_eq_true rfl, Nat.le_of_ble_eq_true rfl⟩ ⟨Nat.le_refl _, Nat.le_refl _⟩ hW hA rfl (Nat.le_of_ble_eq_true rfl) dX10_pathSize_29 (fun r_29 H locs hq hW => ?_)
      subst hq
      refine lv_iconst (v := nI 1) hx hb dX10_pathSize_32 (by decide) ?_
      refine r_iaddN hx hb (a := (stN (prM (S 0)) (nM (S 0)) a b)) (b := 1) dX10_pathSize_33 ?_
      exact md_iret C hr hlocks rfl hW (Or.inr (Or.inr ⟨a, b, k, h1, h2, h3, rfl, rfl⟩)) dX10_pathSize_34
    · exact absurd c_11 (by decide)
theorem dX10_append_0 : decode cX10_append 0 = .ok (.aload_n 0, 1) := by decide +kernel
theorem dX10_append_1 : decode cX10_append 1 = .ok (.iconst 0, 1) := by decide +kernel
theorem dX10_append_2 : decode cX10_append 2 = .ok (.putfield 57, 3) := by decide +kernel
theorem dX10_append_5 : decode cX10_append 5 = .ok (.aload_n 0, 1) := by decide +kernel
theorem dX10_append_6 : decode cX10_append 6 = .ok (.getfield 207, 3) := by decide +kernel
theorem dX10_append_9 : decode cX10_append 9 = .ok (.bipush 60, 2) := by decide +kernel
theorem dX10_append_11 : decode cX10_append 11 = .ok (.if_icmp .ne 9, 3) := by decide +kernel
theorem dX10_append_14 : decode cX10_append 14 = .ok (.aload_n 0, 1) := by decide +kernel
theorem dX10_append_15 : decode cX10_append 15 = .ok (.iconst 1, 1) := by decide +kernel
theorem dX10_append_16 : decode cX10_append 16 = .ok (.invokevirtual 101, 3) := by decide +kernel
theorem dX10_append_19 : decode cX10_append 19 = .ok (.ireturn, 1) := by decide +kernel
theorem dX10_append_20 : decode cX10_append 20 = .ok (.aload_n 0, 1) := by decide +kernel
theorem dX10_append_21 : decode cX10_append 21 = .ok (.getfield 29, 3) := by decide +kernel
theorem dX10_append_24 : decode cX10_append 24 = .ok (.aload_n 0, 1) := by decide +kernel
theorem dX10_append_25 : decode cX10_append 25 = .ok (.getfield 207, 3) := by decide +kernel
theorem dX10_append_28 : decode cX10_append 28 = .ok (.iload_n 1, 1) := by decide +kernel
theorem dX10_append_29 : decode cX10_append 29 = .ok (.iastore, 1) := by decide +kernel
theorem dX10_append_30 : decode cX10_append 30 = .ok (.aload_n 0, 1) := by decide +kernel
theorem dX10_append_31 : decode cX10_append 31 = .ok (.dup, 1) := by decide +kernel
theorem dX10_append_32 : decode cX10_append 32 = .ok (.getfield 207, 3) := by decide +kernel
theorem dX10_append_35 : decode cX10_append 35 = .ok (.iconst 1, 1) := by decide +kernel
theorem dX10_append_36 : decode cX10_append 36 = .ok (.iadd, 1) := by decide +kernel
theorem dX10_append_37 : decode cX10_append 37 = .ok (.putfield 207, 3) := by decide +kernel
theorem dX10_append_40 : decode cX10_append 40 = .ok (.aload_n 0, 1) := by decide +kernel
theorem dX10_append_41 : decode cX10_append 41 = .ok (.getfield 207, 3) := by decide +kernel
theorem dX10_append_44 : decode cX10_append 44 = .ok (.ireturn, 1) := by decide +kernel
set_option maxHeartbeats 1000000 in
set_option maxRecDepth 20000 in
theorem m_append (l : Launch) (D : va_G) (aT : Nat → ClassId) (ad : Nat → Nat) (S : MSt) (x : Int32) (im : Nat) (him : S 13 10 = nI im) (h60 : im ≤ 60) : MdI l yX10_append cX10_append 2 .int 1 21 D aT ad [.ref (ad 0), .int x] S (fun r S1 => (im = 60 ∧ r = -1 ∧ S1 = ss S 8 (nI 1)) ∨ (im < 60 ∧ r = nI (im + 1) ∧ S1 = ss (sr (ss S 8 (nI 0)) 4 (upd (S 4) im x)) 10 (nI (im + 1)))) := by
  refine MdI.of (by decide +kernel) rfl (Nat.le_of_ble_eq_true rfl) ?_
  intro p e s m below meth c A ls C hml hl hA hr hlocks hW
  have hl : lv_has ls 2 [(0, .ref (ad 0)), (1, .int x)] := hl
  have hx := C.1
  have hb := C.2.1
  refine lv_aload_n hx hb dX10_append_0 rfl (lv_at hl 0 rfl) ?_
  refine lv_iconst (v := nI 0) hx hb dX10_append_1 (by decide) ?_
  refine md_put_thrown C hW dX10_append_2 (fun H locs hW => ?_)
  refine lv_aload_n hx hb dX10_append_5 rfl (lv_at hl 0 rfl) ?_
  refine md_get_inputMany C hW dX10_append_6 ?_
  refine r_eq (y := (nI im)) (him) ?_
  refine lv_bipush (v := nI 60) hx hb dX10_append_9 (by decide) ?_
  refine r_neN hx hb (a := im) (b := 60) (by omega) (by omega) (tgt := 20) dX10_append_11 (by decide) (fun c_11 => ?_) (fun c_11 => ?_)
  · refine lv_aload_n hx hb dX10_append_20 rfl (lv_at hl 0 rfl) ?_
    refine md_geta_input C hW dX10_append_21 ?_
    refine lv_aload_n hx hb dX10_append_24 rfl (lv_at hl 0 rfl) ?_
    refine md_get_inputMany C hW dX10_append_25 ?_
    refine r_eq (y := (nI im)) (him) ?_
    refine lv_iload_n hx hb dX10_append_28 rfl (lv_at hl 1 rfl) ?_
    refine md_ast_input C hW (i := im) (by omega) dX10_append_29 (fun H locs hW => ?_)
    refine lv_aload_n hx hb dX10_append_30 rfl (lv_at hl 0 rfl) ?_
    refine lv_dup hx hb dX10_append_31 rfl ?_
    refine md_get_inputMany C hW dX10_append_32 ?_
    refine r_eq (y := (nI im)) (him) ?_
    refine lv_iconst (v := nI 1) hx hb dX10_append_35 (by decide) ?_
    refine r_iaddN hx hb (a := im) (b := 1) dX10_append_36 ?_
    refine md_put_inputMany C hW dX10_append_37 (fun H locs hW => ?_)
    refine lv_aload_n hx hb dX10_append_40 rfl (lv_at hl 0 rfl) ?_
    refine md_get_inputMany C hW dX10_append_41 ?_
    refine r_eq (y := (nI (im + 1))) (ss_s _ _ _) ?_
    exact md_iret C hr hlocks rfl hW (Or.inr ⟨by omega, rfl, rfl⟩) dX10_append_44
  · refine lv_aload_n hx hb dX10_append_14 rfl (lv_at hl 0 rfl) ?_
    refine lv_iconst (v := nI 1) hx hb dX10_append_15 (by decide) ?_
    refine md_calli C hml hl.1 (As := [.int (nI 1)]) (rest := []) (m_throwing l D aT ad (ss S 8 (nI 0)) 1) gT_throwing hd_throwing rfl ⟨Nat.le_of_ble_eq_true rfl, Nat.le_of_ble_eq_true rfl⟩ ⟨Nat.le_refl _, Nat.le_refl _⟩ hW hA rfl (Nat.le_of_ble_eq_true rfl) dX10_append_16 (fun r_16 S_16 H locs hq hW => ?_)
    obtain ⟨rfl, rfl⟩ := hq
    exact md_iret C hr hlocks rfl hW (Or.inl ⟨c_11, rfl, ss_ss _ _ _ _⟩) dX10_append_19
theorem dX10_errorPosition_0 : decode cX10_errorPosition 0 = .ok (.aload_n 0, 1) := by decide +kernel
theorem dX10_errorPosition_1 : decode cX10_errorPosition 1 = .ok (.iconst 0, 1) := by decide +kernel
theorem dX10_errorPosition_2 : decode cX10_errorPosition 2 = .ok (.putfield 57, 3) := by decide +kernel
theorem dX10_errorPosition_5 : decode cX10_errorPosition 5 = .ok (.aload_n 0, 1) := by decide +kernel
theorem dX10_errorPosition_6 : decode cX10_errorPosition 6 = .ok (.getfield 22, 3) := by decide +kernel
theorem dX10_errorPosition_9 : decode cX10_errorPosition 9 = .ok (.iconst (-1), 1) := by decide +kernel
theorem dX10_errorPosition_10 : decode cX10_errorPosition 10 = .ok (.if_icmp .ne 11, 3) := by decide +kernel
theorem dX10_errorPosition_13 : decode cX10_errorPosition 13 = .ok (.aload_n 0, 1) := by decide +kernel
theorem dX10_errorPosition_14 : decode cX10_errorPosition 14 = .ok (.iconst 1, 1) := by decide +kernel
theorem dX10_errorPosition_15 : decode cX10_errorPosition 15 = .ok (.invokevirtual 101, 3) := by decide +kernel
theorem dX10_errorPosition_18 : decode cX10_errorPosition 18 = .ok (.goto 7, 3) := by decide +kernel
theorem dX10_errorPosition_21 : decode cX10_errorPosition 21 = .ok (.aload_n 0, 1) := by decide +kernel
theorem dX10_errorPosition_22 : decode cX10_errorPosition 22 = .ok (.getfield 22, 3) := by decide +kernel
theorem dX10_errorPosition_25 : decode cX10_errorPosition 25 = .ok (.ireturn, 1) := by decide +kernel
set_option maxHeartbeats 1000000 in
set_option maxRecDepth 20000 in
theorem m_errorPosition (l : Launch) (D : va_G) (aT : Nat → ClassId) (ad : Nat → Nat) (S : MSt) : MdI l yX10_errorPosition cX10_errorPosition 1 .int 1 21 D aT ad [.ref (ad 0)] S (fun r S1 => (S 13 6 = -1 ∧ r = -1 ∧ S1 = ss S 8 (nI 1)) ∨ (S 13 6 ≠ -1 ∧ r = S 13 6 ∧ S1 = ss S 8 (nI 0))) := by
  refine MdI.of (by decide +kernel) rfl (Nat.le_of_ble_eq_true rfl) ?_
  intro p e s m below meth c A ls C hml hl hA hr hlocks hW
  have hl : lv_has ls 1 [(0, .ref (ad 0))] := hl
  have hx := C.1
  have hb := C.2.1
  refine lv_aload_n hx hb dX10_errorPosition_0 rfl (lv_at hl 0 rfl) ?_
  refine lv_iconst (v := nI 0) hx hb dX10_errorPosition_1 (by decide) ?_
  refine md_put_thrown C hW dX10_errorPosition_2 (fun H locs hW => ?_)
  refine lv_aload_n hx hb dX10_errorPosition_5 rfl (lv_at hl 0 rfl) ?_
  refine md_get_errorAt C hW dX10_errorPosition_6 ?_
  refine r_eq (y := (S 13 6)) (rfl) ?_
  refine lv_iconst (v := (-1)) hx hb dX10_errorPosition_9 (by decide) ?_
  refine lv_icmp_ne hx hb (x := (S 13 6)) (y := (-1)) (tgt := 21) dX10_errorPosition_10 (by decide) (fun c_10 => ?_) (fun c_10 => ?_)
  · refine lv_aload_n hx hb dX10_errorPosition_21 rfl (lv_at hl 0 rfl) ?_
    refine md_get_errorAt C hW dX10_errorPosition_22 ?_
    refine r_eq (y := (S 13 6)) (rfl) ?_
    exact md_iret C hr hlocks rfl hW (Or.inr ⟨c_10, rfl, rfl⟩) dX10_errorPosition_25
  · refine lv_aload_n hx hb dX10_errorPosition_13 rfl (lv_at hl 0 rfl) ?_
    refine lv_iconst (v := nI 1) hx hb dX10_errorPosition_14 (by decide) ?_
    refine md_calli C hml hl.1 (As := [.int (nI 1)]) (rest := []) (m_throwing l D aT ad (ss S 8 (nI 0)) 1) gT_throwing hd_throwing rfl ⟨Nat.le_of_ble_eq_true rfl, Nat.le_of_ble_eq_true rfl⟩ ⟨Nat.le_refl _, Nat.le_refl _⟩ hW hA rfl (Nat.le_of_ble_eq_true rfl) dX10_errorPosition_15 (fun r_15 S_15 H locs hq hW => ?_)
    obtain ⟨rfl, rfl⟩ := hq
    refine lv_goto (tgt := 25) hx hb dX10_errorPosition_18 (by decide) ?_
    exact md_iret C hr hlocks rfl hW (Or.inl ⟨c_10, rfl, ss_ss _ _ _ _⟩) dX10_errorPosition_25
theorem dX10_failedCommand_0 : decode cX10_failedCommand 0 = .ok (.aload_n 0, 1) := by decide +kernel
theorem dX10_failedCommand_1 : decode cX10_failedCommand 1 = .ok (.iconst 0, 1) := by decide +kernel
theorem dX10_failedCommand_2 : decode cX10_failedCommand 2 = .ok (.putfield 57, 3) := by decide +kernel
theorem dX10_failedCommand_5 : decode cX10_failedCommand 5 = .ok (.aload_n 0, 1) := by decide +kernel
theorem dX10_failedCommand_6 : decode cX10_failedCommand 6 = .ok (.getfield 26, 3) := by decide +kernel
theorem dX10_failedCommand_9 : decode cX10_failedCommand 9 = .ok (.iconst (-1), 1) := by decide +kernel
theorem dX10_failedCommand_10 : decode cX10_failedCommand 10 = .ok (.if_icmp .ne 11, 3) := by decide +kernel
theorem dX10_failedCommand_13 : decode cX10_failedCommand 13 = .ok (.aload_n 0, 1) := by decide +kernel
theorem dX10_failedCommand_14 : decode cX10_failedCommand 14 = .ok (.iconst 1, 1) := by decide +kernel
theorem dX10_failedCommand_15 : decode cX10_failedCommand 15 = .ok (.invokevirtual 101, 3) := by decide +kernel
theorem dX10_failedCommand_18 : decode cX10_failedCommand 18 = .ok (.goto 7, 3) := by decide +kernel
theorem dX10_failedCommand_21 : decode cX10_failedCommand 21 = .ok (.aload_n 0, 1) := by decide +kernel
theorem dX10_failedCommand_22 : decode cX10_failedCommand 22 = .ok (.getfield 26, 3) := by decide +kernel
theorem dX10_failedCommand_25 : decode cX10_failedCommand 25 = .ok (.ireturn, 1) := by decide +kernel
set_option maxHeartbeats 1000000 in
set_option maxRecDepth 20000 in
theorem m_failedCommand (l : Launch) (D : va_G) (aT : Nat → ClassId) (ad : Nat → Nat) (S : MSt) : MdI l yX10_failedCommand cX10_failedCommand 1 .int 1 21 D aT ad [.ref (ad 0)] S (fun r S1 => (S 13 7 = -1 ∧ r = -1 ∧ S1 = ss S 8 (nI 1)) ∨ (S 13 7 ≠ -1 ∧ r = S 13 7 ∧ S1 = ss S 8 (nI 0))) := by
  refine MdI.of (by decide +kernel) rfl (Nat.le_of_ble_eq_true rfl) ?_
  intro p e s m below meth c A ls C hml hl hA hr hlocks hW
  have hl : lv_has ls 1 [(0, .ref (ad 0))] := hl
  have hx := C.1
  have hb := C.2.1
  refine lv_aload_n hx hb dX10_failedCommand_0 rfl (lv_at hl 0 rfl) ?_
  refine lv_iconst (v := nI 0) hx hb dX10_failedCommand_1 (by decide) ?_
  refine md_put_thrown C hW dX10_failedCommand_2 (fun H locs hW => ?_)
  refine lv_aload_n hx hb dX10_failedCommand_5 rfl (lv_at hl 0 rfl) ?_
  refine md_get_failed C hW dX10_failedCommand_6 ?_
  refine r_eq (y := (S 13 7)) (rfl) ?_
  refine lv_iconst (v := (-1)) hx hb dX10_failedCommand_9 (by decide) ?_
  refine lv_icmp_ne hx hb (x := (S 13 7)) (y := (-1)) (tgt := 21) dX10_failedCommand_10 (by decide) (fun c_10 => ?_) (fun c_10 => ?_)
  · refine lv_aload_n hx hb dX10_failedCommand_21 rfl (lv_at hl 0 rfl) ?_
    refine md_get_failed C hW dX10_failedCommand_22 ?_
    refine r_eq (y := (S 13 7)) (rfl) ?_
    exact md_iret C hr hlocks rfl hW (Or.inr ⟨c_10, rfl, rfl⟩) dX10_failedCommand_25
  · refine lv_aload_n hx hb dX10_failedCommand_13 rfl (lv_at hl 0 rfl) ?_
    refine lv_iconst (v := nI 1) hx hb dX10_failedCommand_14 (by decide) ?_
    refine md_calli C hml hl.1 (As := [.int (nI 1)]) (rest := []) (m_throwing l D aT ad (ss S 8 (nI 0)) 1) gT_throwing hd_throwing rfl ⟨Nat.le_of_ble_eq_true rfl, Nat.le_of_ble_eq_true rfl⟩ ⟨Nat.le_refl _, Nat.le_refl _⟩ hW hA rfl (Nat.le_of_ble_eq_true rfl) dX10_failedCommand_15 (fun r_15 S_15 H locs hq hW => ?_)
    obtain ⟨rfl, rfl⟩ := hq
    refine lv_goto (tgt := 25) hx hb dX10_failedCommand_18 (by decide) ?_
    exact md_iret C hr hlocks rfl hW (Or.inl ⟨c_10, rfl, ss_ss _ _ _ _⟩) dX10_failedCommand_25
theorem dX10_outputAt_0 : decode cX10_outputAt 0 = .ok (.aload_n 0, 1) := by decide +kernel
theorem dX10_outputAt_1 : decode cX10_outputAt 1 = .ok (.iconst 0, 1) := by decide +kernel
theorem dX10_outputAt_2 : decode cX10_outputAt 2 = .ok (.putfield 57, 3) := by decide +kernel
theorem dX10_outputAt_5 : decode cX10_outputAt 5 = .ok (.iload_n 1, 1) := by decide +kernel
theorem dX10_outputAt_6 : decode cX10_outputAt 6 = .ok (.i2l, 1) := by decide +kernel
theorem dX10_outputAt_7 : decode cX10_outputAt 7 = .ok (.lconst 0, 1) := by decide +kernel
theorem dX10_outputAt_8 : decode cX10_outputAt 8 = .ok (.aload_n 0, 1) := by decide +kernel
theorem dX10_outputAt_9 : decode cX10_outputAt 9 = .ok (.getfield 258, 3) := by decide +kernel
theorem dX10_outputAt_12 : decode cX10_outputAt 12 = .ok (.iconst 1, 1) := by decide +kernel
theorem dX10_outputAt_13 : decode cX10_outputAt 13 = .ok (.isub, 1) := by decide +kernel
theorem dX10_outputAt_14 : decode cX10_outputAt 14 = .ok (.i2l, 1) := by decide +kernel
theorem dX10_outputAt_15 : decode cX10_outputAt 15 = .ok (.invokestatic 63, 3) := by decide +kernel
theorem dX10_outputAt_18 : decode cX10_outputAt 18 = .ok (.ifCond .eq 13, 3) := by decide +kernel
theorem dX10_outputAt_21 : decode cX10_outputAt 21 = .ok (.aload_n 0, 1) := by decide +kernel
theorem dX10_outputAt_22 : decode cX10_outputAt 22 = .ok (.getfield 54, 3) := by decide +kernel
theorem dX10_outputAt_25 : decode cX10_outputAt 25 = .ok (.iload_n 1, 1) := by decide +kernel
theorem dX10_outputAt_26 : decode cX10_outputAt 26 = .ok (.iaload, 1) := by decide +kernel
theorem dX10_outputAt_27 : decode cX10_outputAt 27 = .ok (.i2c, 1) := by decide +kernel
theorem dX10_outputAt_28 : decode cX10_outputAt 28 = .ok (.goto 9, 3) := by decide +kernel
theorem dX10_outputAt_31 : decode cX10_outputAt 31 = .ok (.aload_n 0, 1) := by decide +kernel
theorem dX10_outputAt_32 : decode cX10_outputAt 32 = .ok (.iconst 1, 1) := by decide +kernel
theorem dX10_outputAt_33 : decode cX10_outputAt 33 = .ok (.invokevirtual 101, 3) := by decide +kernel
theorem dX10_outputAt_36 : decode cX10_outputAt 36 = .ok (.i2c, 1) := by decide +kernel
theorem dX10_outputAt_37 : decode cX10_outputAt 37 = .ok (.ireturn, 1) := by decide +kernel
set_option maxHeartbeats 1000000 in
set_option maxRecDepth 20000 in
theorem m_outputAt (l : Launch) (D : va_G) (aT : Nat → ClassId) (ad : Nat → Nat) (S : MSt) (x : Int32) (lm : Nat) (hlm : S 13 25 = nI lm) (h400 : lm ≤ 400) : MdI l yX10_outputAt cX10_outputAt 2 .char 1 25 D aT ad [.ref (ad 0), .int x] S (fun r S1 => (isHB lm x = false ∧ r = c16 (-1) ∧ S1 = ss S 8 (nI 1)) ∨ (∃ i, i < lm ∧ x = nI i ∧ r = c16 (S 12 i) ∧ S1 = ss S 8 (nI 0))) := by
  refine MdI.of (by decide +kernel) rfl (Nat.le_of_ble_eq_true rfl) ?_
  intro p e s m below meth c A ls C hml hl hA hr hlocks hW
  have hl : lv_has ls 2 [(0, .ref (ad 0)), (1, .int x)] := hl
  have hx := C.1
  have hb := C.2.1
  refine lv_aload_n hx hb dX10_outputAt_0 rfl (lv_at hl 0 rfl) ?_
  refine lv_iconst (v := nI 0) hx hb dX10_outputAt_1 (by decide) ?_
  refine md_put_thrown C hW dX10_outputAt_2 (fun H locs hW => ?_)
  refine lv_iload_n hx hb dX10_outputAt_5 rfl (lv_at hl 1 rfl) ?_
  refine lv_i2l (v := (x).toInt64) hx hb dX10_outputAt_6 rfl ?_
  refine lv_lconst (v := 0) hx hb dX10_outputAt_7 (by decide) ?_
  refine lv_aload_n hx hb dX10_outputAt_8 rfl (lv_at hl 0 rfl) ?_
  refine md_get_lineMany C hW dX10_outputAt_9 ?_
  refine r_eq (y := (nI lm)) (hlm) ?_
  refine lv_iconst (v := nI 1) hx hb dX10_outputAt_12 (by decide) ?_
  refine lv_isub hx hb dX10_outputAt_13 ?_
  refine lv_i2l (v := ((nI lm - nI 1)).toInt64) hx hb dX10_outputAt_14 rfl ?_
  refine md_calls C hml hl.1 (As := [.long ((x).toInt64), .long 0, .long (((nI lm - nI 1)).toInt64)]) (rest := []) (m_in l ((x).toInt64) 0 (((nI lm - nI 1)).toInt64)) gT_in hd_in rfl ⟨Nat.le_of_ble_eq_true rfl, Nat.le_of_ble_eq_true rfl⟩ ⟨Nat.le_refl _, Nat.le_refl _⟩ rfl (Nat.le_of_ble_eq_true rfl) dX10_outputAt_15 (fun r_15 hq => ?_)
  subst hq
  refine r_eq (y := (bI (isHB lm x))) (congrArg bI (isH_eq (by omega) x)) ?_
  refine r_bI_eq hx hb (b := (isHB lm x)) (tgt := 31) dX10_outputAt_18 (by decide) (fun c_18 => ?_) (fun c_18 => ?_)
  · refine lv_aload_n hx hb dX10_outputAt_31 rfl (lv_at hl 0 rfl) ?_
    refine lv_iconst (v := nI 1) hx hb dX10_outputAt_32 (by decide) ?_
    refine md_calli C hml hl.1 (As := [.int (nI 1)]) (rest := []) (m_throwing l D aT ad (ss S 8 (nI 0)) 1) gT_throwing hd_throwing rfl ⟨Nat.le_of_ble_eq_true rfl, Nat.le_of_ble_eq_true rfl⟩ ⟨Nat.le_refl _, Nat.le_refl _⟩ hW hA rfl (Nat.le_of_ble_eq_true rfl) dX10_outputAt_33 (fun r_33 S_33 H locs hq hW => ?_)
    obtain ⟨rfl, rfl⟩ := hq
    refine lv_i2c (v := c16 (-1)) hx hb dX10_outputAt_36 (rfl) ?_
    exact md_iret C hr hlocks (pk_nc _) hW (Or.inl ⟨c_18, rfl, ss_ss _ _ _ _⟩) dX10_outputAt_37
  · obtain ⟨i, hi, rfl⟩ := isHB_nat c_18 (by omega)
    refine lv_aload_n hx hb dX10_outputAt_21 rfl (lv_at hl 0 rfl) ?_
    refine md_geta_line C hW dX10_outputAt_22 ?_
    refine lv_iload_n hx hb dX10_outputAt_25 rfl (lv_at hl 1 rfl) ?_
    refine md_ald_line C hW (i := i) (by omega) dX10_outputAt_26 ?_
    refine r_eq (y := (S 12 i)) (rfl) ?_
    refine lv_i2c (v := c16 (S 12 i)) hx hb dX10_outputAt_27 (rfl) ?_
    refine lv_goto (tgt := 37) hx hb dX10_outputAt_28 (by decide) ?_
    exact md_iret C hr hlocks (pk_nc _) hW (Or.inr ⟨i, hi, rfl, rfl, rfl⟩) dX10_outputAt_37
theorem dX10_undo_0 : decode cX10_undo 0 = .ok (.aload_n 0, 1) := by decide +kernel
theorem dX10_undo_1 : decode cX10_undo 1 = .ok (.iconst 0, 1) := by decide +kernel
theorem dX10_undo_2 : decode cX10_undo 2 = .ok (.putfield 57, 3) := by decide +kernel
theorem dX10_undo_5 : decode cX10_undo 5 = .ok (.aload_n 0, 1) := by decide +kernel
theorem dX10_undo_6 : decode cX10_undo 6 = .ok (.getfield 60, 3) := by decide +kernel
theorem dX10_undo_9 : decode cX10_undo 9 = .ok (.ifCond .ne 9, 3) := by decide +kernel
theorem dX10_undo_12 : decode cX10_undo 12 = .ok (.aload_n 0, 1) := by decide +kernel
theorem dX10_undo_13 : decode cX10_undo 13 = .ok (.iconst 1, 1) := by decide +kernel
theorem dX10_undo_14 : decode cX10_undo 14 = .ok (.invokevirtual 101, 3) := by decide +kernel
theorem dX10_undo_17 : decode cX10_undo 17 = .ok (.ireturn, 1) := by decide +kernel
theorem dX10_undo_18 : decode cX10_undo 18 = .ok (.aload_n 0, 1) := by decide +kernel
theorem dX10_undo_19 : decode cX10_undo 19 = .ok (.dup, 1) := by decide +kernel
theorem dX10_undo_20 : decode cX10_undo 20 = .ok (.getfield 60, 3) := by decide +kernel
theorem dX10_undo_23 : decode cX10_undo 23 = .ok (.iconst 1, 1) := by decide +kernel
theorem dX10_undo_24 : decode cX10_undo 24 = .ok (.isub, 1) := by decide +kernel
theorem dX10_undo_25 : decode cX10_undo 25 = .ok (.putfield 60, 3) := by decide +kernel
theorem dX10_undo_28 : decode cX10_undo 28 = .ok (.iconst 0, 1) := by decide +kernel
theorem dX10_undo_29 : decode cX10_undo 29 = .ok (.istore_n 1, 1) := by decide +kernel
theorem dX10_undo_30 : decode cX10_undo 30 = .ok (.iload_n 1, 1) := by decide +kernel
theorem dX10_undo_31 : decode cX10_undo 31 = .ok (.bipush 77, 2) := by decide +kernel
theorem dX10_undo_33 : decode cX10_undo 33 = .ok (.if_icmp .ge 29, 3) := by decide +kernel
theorem dX10_undo_36 : decode cX10_undo 36 = .ok (.aload_n 0, 1) := by decide +kernel
theorem dX10_undo_37 : decode cX10_undo 37 = .ok (.getfield 9, 3) := by decide +kernel
theorem dX10_undo_40 : decode cX10_undo 40 = .ok (.iload_n 1, 1) := by decide +kernel
theorem dX10_undo_41 : decode cX10_undo 41 = .ok (.aload_n 0, 1) := by decide +kernel
theorem dX10_undo_42 : decode cX10_undo 42 = .ok (.getfield 19, 3) := by decide +kernel
theorem dX10_undo_45 : decode cX10_undo 45 = .ok (.bipush 77, 2) := by decide +kernel
theorem dX10_undo_47 : decode cX10_undo 47 = .ok (.aload_n 0, 1) := by decide +kernel
theorem dX10_undo_48 : decode cX10_undo 48 = .ok (.getfield 60, 3) := by decide +kernel
theorem dX10_undo_51 : decode cX10_undo 51 = .ok (.imul, 1) := by decide +kernel
theorem dX10_undo_52 : decode cX10_undo 52 = .ok (.iload_n 1, 1) := by decide +kernel
theorem dX10_undo_53 : decode cX10_undo 53 = .ok (.iadd, 1) := by decide +kernel
theorem dX10_undo_54 : decode cX10_undo 54 = .ok (.iaload, 1) := by decide +kernel
theorem dX10_undo_55 : decode cX10_undo 55 = .ok (.iastore, 1) := by decide +kernel
theorem dX10_undo_56 : decode cX10_undo 56 = .ok (.iinc 1 1, 3) := by decide +kernel
theorem dX10_undo_59 : decode cX10_undo 59 = .ok (.goto (-29), 3) := by decide +kernel
theorem dX10_undo_62 : decode cX10_undo 62 = .ok (.aload_n 0, 1) := by decide +kernel
theorem dX10_undo_63 : decode cX10_undo 63 = .ok (.getfield 60, 3) := by decide +kernel
theorem dX10_undo_66 : decode cX10_undo 66 = .ok (.ireturn, 1) := by decide +kernel
set_option maxHeartbeats 1000000 in
set_option maxRecDepth 20000 in
theorem m_undo (l : Launch) (D : va_G) (aT : Nat → ClassId) (ad : Nat → Nat) (S : MSt) (ch : Nat) (hch : S 13 5 = nI ch) (hc8 : ch ≤ 8) : MdI l yX10_undo cX10_undo 2 .int 1 21 D aT ad [.ref (ad 0)] S (fun r S1 => (ch = 0 ∧ r = -1 ∧ S1 = ss S 8 (nI 1)) ∨ (0 < ch ∧ r = nI (ch - 1) ∧ S1 = sr (ss (ss S 8 (nI 0)) 5 (nI (ch - 1))) 0 (getF (S 0) (S 3) (77 * (ch - 1)) 77))) := by
  refine MdI.of (by decide +kernel) rfl (Nat.le_of_ble_eq_true rfl) ?_
  intro p e s m below meth c A ls C hml hl hA hr hlocks hW
  have hl : lv_has ls 2 [(0, .ref (ad 0))] := hl
  have hx := C.1
  have hb := C.2.1
  refine lv_aload_n hx hb dX10_undo_0 rfl (lv_at hl 0 rfl) ?_
  refine lv_iconst (v := nI 0) hx hb dX10_undo_1 (by decide) ?_
  refine md_put_thrown C hW dX10_undo_2 (fun H locs hW => ?_)
  refine lv_aload_n hx hb dX10_undo_5 rfl (lv_at hl 0 rfl) ?_
  refine md_get_changes C hW dX10_undo_6 ?_
  refine r_eq (y := (nI ch)) (hch) ?_
  refine r_ifneN hx hb (a := ch) (by omega) (tgt := 18) dX10_undo_9 (by decide) (fun c_9 => ?_) (fun c_9 => ?_)
  · refine lv_aload_n hx hb dX10_undo_18 rfl (lv_at hl 0 rfl) ?_
    refine lv_dup hx hb dX10_undo_19 rfl ?_
    refine md_get_changes C hW dX10_undo_20 ?_
    refine r_eq (y := (nI ch)) (hch) ?_
    refine lv_iconst (v := nI 1) hx hb dX10_undo_23 (by decide) ?_
    refine r_isubN hx hb (a := ch) (b := 1) (by omega) dX10_undo_24 ?_
    refine md_put_changes C hW dX10_undo_25 (fun H locs hW => ?_)
    refine lv_iconst (v := nI 0) hx hb dX10_undo_28 (by decide) ?_
    refine lv_istore_n (lv' := [(1, .int (nI 0)), (0, .ref (ad 0))]) hx hb dX10_undo_29 rfl hl (by decide) rfl (fun ls hl => ?_)
    refine W_loopH (σ := Nat) (fun z_ => 77 - z_) (fun z_ H locs g => ∃ ls, g = F0 m 30 ls [] ∧ lv_has ls 2 [(0, .ref (ad 0)), (1, .int (nI z_))] ∧ MdB D aT ad (sr (ss (ss S 8 (nI 0)) 5 (nI (ch - 1))) 0 (getF (S 0) (S 3) (77 * (ch - 1)) z_)) A s.heap H locs ∧ (z_ ≤ 77)) ?_ 0 _ ⟨_, rfl, lv_sub hl [1, 0] rfl, (by rw [getF_0, show S 0 = (ss (ss S 8 (nI 0)) 5 (nI (ch - 1))) 0 from rfl, sr_self]; exact hW), Nat.zero_le _⟩
    clear hW hl
    rintro i H locs g ⟨ls, rfl, hl, hW, hi⟩ ih_30
    refine lv_iload_n hx hb dX10_undo_30 rfl (lv_at hl 1 rfl) ?_
    refine lv_bipush (v := nI 77) hx hb dX10_undo_31 (by decide) ?_
    refine r_geN hx hb (a := i) (b := 77) (by omega) (by omega) (tgt := 62) dX10_undo_33 (by decide) (fun c_33 => ?_) (fun c_33 => ?_)
    · refine lv_aload_n hx hb dX10_undo_62 rfl (lv_at hl 0 rfl) ?_
      refine md_get_changes C hW dX10_undo_63 ?_
      refine r_eq (y := (nI (ch - 1))) (rfl) ?_
      exact md_iret C hr hlocks rfl hW (Or.inr ⟨by omega, rfl, by rw [show i = 77 by omega]⟩) dX10_undo_66
    · refine lv_aload_n hx hb dX10_undo_36 rfl (lv_at hl 0 rfl) ?_
      refine md_geta_m C hW dX10_undo_37 ?_
      refine lv_iload_n hx hb dX10_undo_40 rfl (lv_at hl 1 rfl) ?_
      refine lv_aload_n hx hb dX10_undo_41 rfl (lv_at hl 0 rfl) ?_
      refine md_geta_past C hW dX10_undo_42 ?_
      refine lv_bipush (v := nI 77) hx hb dX10_undo_45 (by decide) ?_
      refine lv_aload_n hx hb dX10_undo_47 rfl (lv_at hl 0 rfl) ?_
      refine md_get_changes C hW dX10_undo_48 ?_
      refine r_eq (y := (nI (ch - 1))) (rfl) ?_
      refine r_imulN hx hb (a := 77) (b := (ch - 1)) dX10_undo_51 ?_
      refine lv_iload_n hx hb dX10_undo_52 rfl (lv_at hl 1 rfl) ?_
      refine r_iaddN hx hb (a := 77 * (ch - 1)) (b := i) dX10_undo_53 ?_
      refine md_ald_past C hW (i := (77 * (ch - 1)) + i) (by omega) dX10_undo_54 ?_
      refine r_eq (y := (S 3 (77 * (ch - 1) + i))) (rfl) ?_
      refine md_ast_m C hW (i := i) (by omega) dX10_undo_55 (fun H locs hW => ?_)
      refine lv_iinc (v := (nI (i + 1))) (lv' := [(1, .int (nI (i + 1))), (0, .ref (ad 0))]) hx hb dX10_undo_56 hl (k := 1) rfl (nI_1 _) (by decide) rfl (fun ls hl => ?_)
      refine lv_goto (tgt := 30) hx hb dX10_undo_59 (by decide) ?_
      exact ih_30 (i + 1) _ _ _ (by omega) ⟨_, rfl, lv_sub hl [1, 0] rfl, (by rw [sr_sr, sr_s, getF_1] at hW; exact hW), (by omega)⟩
  · refine lv_aload_n hx hb dX10_undo_12 rfl (lv_at hl 0 rfl) ?_
    refine lv_iconst (v := nI 1) hx hb dX10_undo_13 (by decide) ?_
    refine md_calli C hml hl.1 (As := [.int (nI 1)]) (rest := []) (m_throwing l D aT ad (ss S 8 (nI 0)) 1) gT_throwing hd_throwing rfl ⟨Nat.le_of_ble_eq_true rfl, Nat.le_of_ble_eq_true rfl⟩ ⟨Nat.le_refl _, Nat.le_refl _⟩ hW hA rfl (Nat.le_of_ble_eq_true rfl) dX10_undo_14 (fun r_14 S_14 H locs hq hW => ?_)
    obtain ⟨rfl, rfl⟩ := hq
    exact md_iret C hr hlocks rfl hW (Or.inl ⟨c_9, rfl, ss_ss _ _ _ _⟩) dX10_undo_17
theorem dX10_save_0 : decode cX10_save 0 = .ok (.aload_n 0, 1) := by decide +kernel
theorem dX10_save_1 : decode cX10_save 1 = .ok (.iconst 0, 1) := by decide +kernel
theorem dX10_save_2 : decode cX10_save 2 = .ok (.putfield 57, 3) := by decide +kernel
theorem dX10_save_5 : decode cX10_save 5 = .ok (.iconst 0, 1) := by decide +kernel
theorem dX10_save_6 : decode cX10_save 6 = .ok (.istore_n 1, 1) := by decide +kernel
theorem dX10_save_7 : decode cX10_save 7 = .ok (.iload_n 1, 1) := by decide +kernel
theorem dX10_save_8 : decode cX10_save 8 = .ok (.bipush 77, 2) := by decide +kernel
theorem dX10_save_10 : decode cX10_save 10 = .ok (.if_icmp .ge 21, 3) := by decide +kernel
theorem dX10_save_13 : decode cX10_save 13 = .ok (.aload_n 0, 1) := by decide +kernel
theorem dX10_save_14 : decode cX10_save 14 = .ok (.getfield 16, 3) := by decide +kernel
theorem dX10_save_17 : decode cX10_save 17 = .ok (.iload_n 1, 1) := by decide +kernel
theorem dX10_save_18 : decode cX10_save 18 = .ok (.aload_n 0, 1) := by decide +kernel
theorem dX10_save_19 : decode cX10_save 19 = .ok (.getfield 9, 3) := by decide +kernel
theorem dX10_save_22 : decode cX10_save 22 = .ok (.iload_n 1, 1) := by decide +kernel
theorem dX10_save_23 : decode cX10_save 23 = .ok (.iaload, 1) := by decide +kernel
theorem dX10_save_24 : decode cX10_save 24 = .ok (.iastore, 1) := by decide +kernel
theorem dX10_save_25 : decode cX10_save 25 = .ok (.iinc 1 1, 3) := by decide +kernel
theorem dX10_save_28 : decode cX10_save 28 = .ok (.goto (-21), 3) := by decide +kernel
theorem dX10_save_31 : decode cX10_save 31 = .ok (.aload_n 0, 1) := by decide +kernel
theorem dX10_save_32 : decode cX10_save 32 = .ok (.iconst 1, 1) := by decide +kernel
theorem dX10_save_33 : decode cX10_save 33 = .ok (.putfield 273, 3) := by decide +kernel
theorem dX10_save_36 : decode cX10_save 36 = .ok (.return_, 1) := by decide +kernel
set_option maxHeartbeats 1000000 in
set_option maxRecDepth 20000 in
theorem m_save (l : Launch) (D : va_G) (aT : Nat → ClassId) (ad : Nat → Nat) (S : MSt) : MdV l yX10_save cX10_save 2 0 0 D aT ad [.ref (ad 0)] S (fun S1 => S1 = ss (sr (ss S 8 (nI 0)) 2 (cpyF (S 2) (S 0) 77)) 3 (nI 1)) := by
  refine MdV.of (by decide +kernel) rfl (Nat.le_of_ble_eq_true rfl) ?_
  intro p e s m below meth c A ls C hml hl hA hr hlocks hW
  have hl : lv_has ls 2 [(0, .ref (ad 0))] := hl
  have hx := C.1
  have hb := C.2.1
  refine lv_aload_n hx hb dX10_save_0 rfl (lv_at hl 0 rfl) ?_
  refine lv_iconst (v := nI 0) hx hb dX10_save_1 (by decide) ?_
  refine md_put_thrown C hW dX10_save_2 (fun H locs hW => ?_)
  refine lv_iconst (v := nI 0) hx hb dX10_save_5 (by decide) ?_
  refine lv_istore_n (lv' := [(1, .int (nI 0)), (0, .ref (ad 0))]) hx hb dX10_save_6 rfl hl (by decide) rfl (fun ls hl => ?_)
  refine W_loopH (σ := Nat) (fun z_ => 77 - z_) (fun z_ H locs g => ∃ ls, g = F0 m 7 ls [] ∧ lv_has ls 2 [(0, .ref (ad 0)), (1, .int (nI z_))] ∧ MdB D aT ad (sr (ss S 8 (nI 0)) 2 (cpyF (S 2) (S 0) z_)) A s.heap H locs ∧ (z_ ≤ 77)) ?_ 0 _ ⟨_, rfl, lv_sub hl [1, 0] rfl, (by rw [cpyF_0, show S 2 = (ss S 8 (nI 0)) 2 from rfl, sr_self]; exact hW), Nat.zero_le _⟩
  clear hW hl
  rintro i H locs g ⟨ls, rfl, hl, hW, hi⟩ ih_7
  refine lv_iload_n hx hb dX10_save_7 rfl (lv_at hl 1 rfl) ?_
  refine lv_bipush (v := nI 77) hx hb dX10_save_8 (by decide) ?_
  refine r_geN hx hb (a := i) (b := 77) (by omega) (by omega) (tgt := 31) dX10_save_10 (by decide) (fun c_10 => ?_) (fun c_10 => ?_)
  · refine lv_aload_n hx hb dX10_save_31 rfl (lv_at hl 0 rfl) ?_
    refine lv_iconst (v := nI 1) hx hb dX10_save_32 (by decide) ?_
    refine md_put_isSaved C hW (by decide) (by decide) dX10_save_33 (fun H locs hW => ?_)
    exact md_vret C hr hlocks hW (by rw [show i = 77 by omega]) dX10_save_36
  · refine lv_aload_n hx hb dX10_save_13 rfl (lv_at hl 0 rfl) ?_
    refine md_geta_saved C hW dX10_save_14 ?_
    refine lv_iload_n hx hb dX10_save_17 rfl (lv_at hl 1 rfl) ?_
    refine lv_aload_n hx hb dX10_save_18 rfl (lv_at hl 0 rfl) ?_
    refine md_geta_m C hW dX10_save_19 ?_
    refine lv_iload_n hx hb dX10_save_22 rfl (lv_at hl 1 rfl) ?_
    refine md_ald_m C hW (i := i) (by omega) dX10_save_23 ?_
    refine r_eq (y := (S 0 i)) (rfl) ?_
    refine md_ast_saved C hW (i := i) (by omega) dX10_save_24 (fun H locs hW => ?_)
    refine lv_iinc (v := (nI (i + 1))) (lv' := [(1, .int (nI (i + 1))), (0, .ref (ad 0))]) hx hb dX10_save_25 hl (k := 1) rfl (nI_1 _) (by decide) rfl (fun ls hl => ?_)
    refine lv_goto (tgt := 7) hx hb dX10_save_28 (by decide) ?_
    exact ih_7 (i + 1) _ _ _ (by omega) ⟨_, rfl, lv_sub hl [1, 0] rfl, (by rw [sr_sr, sr_s, cpyF_1] at hW; exact hW), (by omega)⟩
theorem dX10_restore_0 : decode cX10_restore 0 = .ok (.aload_n 0, 1) := by decide +kernel
theorem dX10_restore_1 : decode cX10_restore 1 = .ok (.iconst 0, 1) := by decide +kernel
theorem dX10_restore_2 : decode cX10_restore 2 = .ok (.putfield 57, 3) := by decide +kernel
theorem dX10_restore_5 : decode cX10_restore 5 = .ok (.aload_n 0, 1) := by decide +kernel
theorem dX10_restore_6 : decode cX10_restore 6 = .ok (.getfield 273, 3) := by decide +kernel
theorem dX10_restore_9 : decode cX10_restore 9 = .ok (.ifCond .ne 10, 3) := by decide +kernel
theorem dX10_restore_12 : decode cX10_restore 12 = .ok (.aload_n 0, 1) := by decide +kernel
theorem dX10_restore_13 : decode cX10_restore 13 = .ok (.iconst 1, 1) := by decide +kernel
theorem dX10_restore_14 : decode cX10_restore 14 = .ok (.invokevirtual 101, 3) := by decide +kernel
theorem dX10_restore_17 : decode cX10_restore 17 = .ok (.pop, 1) := by decide +kernel
theorem dX10_restore_18 : decode cX10_restore 18 = .ok (.return_, 1) := by decide +kernel
theorem dX10_restore_19 : decode cX10_restore 19 = .ok (.iconst 0, 1) := by decide +kernel
theorem dX10_restore_20 : decode cX10_restore 20 = .ok (.istore_n 1, 1) := by decide +kernel
theorem dX10_restore_21 : decode cX10_restore 21 = .ok (.iload_n 1, 1) := by decide +kernel
theorem dX10_restore_22 : decode cX10_restore 22 = .ok (.bipush 77, 2) := by decide +kernel
theorem dX10_restore_24 : decode cX10_restore 24 = .ok (.if_icmp .ge 21, 3) := by decide +kernel
theorem dX10_restore_27 : decode cX10_restore 27 = .ok (.aload_n 0, 1) := by decide +kernel
theorem dX10_restore_28 : decode cX10_restore 28 = .ok (.getfield 9, 3) := by decide +kernel
theorem dX10_restore_31 : decode cX10_restore 31 = .ok (.iload_n 1, 1) := by decide +kernel
theorem dX10_restore_32 : decode cX10_restore 32 = .ok (.aload_n 0, 1) := by decide +kernel
theorem dX10_restore_33 : decode cX10_restore 33 = .ok (.getfield 16, 3) := by decide +kernel
theorem dX10_restore_36 : decode cX10_restore 36 = .ok (.iload_n 1, 1) := by decide +kernel
theorem dX10_restore_37 : decode cX10_restore 37 = .ok (.iaload, 1) := by decide +kernel
theorem dX10_restore_38 : decode cX10_restore 38 = .ok (.iastore, 1) := by decide +kernel
theorem dX10_restore_39 : decode cX10_restore 39 = .ok (.iinc 1 1, 3) := by decide +kernel
theorem dX10_restore_42 : decode cX10_restore 42 = .ok (.goto (-21), 3) := by decide +kernel
theorem dX10_restore_45 : decode cX10_restore 45 = .ok (.aload_n 0, 1) := by decide +kernel
theorem dX10_restore_46 : decode cX10_restore 46 = .ok (.iconst 0, 1) := by decide +kernel
theorem dX10_restore_47 : decode cX10_restore 47 = .ok (.putfield 60, 3) := by decide +kernel
theorem dX10_restore_50 : decode cX10_restore 50 = .ok (.return_, 1) := by decide +kernel
set_option maxHeartbeats 1000000 in
set_option maxRecDepth 20000 in
theorem m_restore (l : Launch) (D : va_G) (aT : Nat → ClassId) (ad : Nat → Nat) (S : MSt) (sv : Bool) (hsv : S 13 3 = bI sv) : MdV l yX10_restore cX10_restore 2 1 21 D aT ad [.ref (ad 0)] S (fun S1 => (sv = false ∧ S1 = ss S 8 (nI 1)) ∨ (sv = true ∧ S1 = ss (sr (ss S 8 (nI 0)) 0 (cpyF (S 0) (S 2) 77)) 5 (nI 0))) := by
  refine MdV.of (by decide +kernel) rfl (Nat.le_of_ble_eq_true rfl) ?_
  intro p e s m below meth c A ls C hml hl hA hr hlocks hW
  have hl : lv_has ls 2 [(0, .ref (ad 0))] := hl
  have hx := C.1
  have hb := C.2.1
  refine lv_aload_n hx hb dX10_restore_0 rfl (lv_at hl 0 rfl) ?_
  refine lv_iconst (v := nI 0) hx hb dX10_restore_1 (by decide) ?_
  refine md_put_thrown C hW dX10_restore_2 (fun H locs hW => ?_)
  refine lv_aload_n hx hb dX10_restore_5 rfl (lv_at hl 0 rfl) ?_
  refine md_get_isSaved C hW dX10_restore_6 ?_
  refine r_eq (y := (bI sv)) (hsv) ?_
  refine r_bI_ne hx hb (b := sv) (tgt := 19) dX10_restore_9 (by decide) (fun c_9 => ?_) (fun c_9 => ?_)
  · refine lv_iconst (v := nI 0) hx hb dX10_restore_19 (by decide) ?_
    refine lv_istore_n (lv' := [(1, .int (nI 0)), (0, .ref (ad 0))]) hx hb dX10_restore_20 rfl hl (by decide) rfl (fun ls hl => ?_)
    refine W_loopH (σ := Nat) (fun z_ => 77 - z_) (fun z_ H locs g => ∃ ls, g = F0 m 21 ls [] ∧ lv_has ls 2 [(0, .ref (ad 0)), (1, .int (nI z_))] ∧ MdB D aT ad (sr (ss S 8 (nI 0)) 0 (cpyF (S 0) (S 2) z_)) A s.heap H locs ∧ (z_ ≤ 77)) ?_ 0 _ ⟨_, rfl, lv_sub hl [1, 0] rfl, (by rw [cpyF_0, show S 0 = (ss S 8 (nI 0)) 0 from rfl, sr_self]; exact hW), Nat.zero_le _⟩
    clear hW hl
    rintro i H locs g ⟨ls, rfl, hl, hW, hi⟩ ih_21
    refine lv_iload_n hx hb dX10_restore_21 rfl (lv_at hl 1 rfl) ?_
    refine lv_bipush (v := nI 77) hx hb dX10_restore_22 (by decide) ?_
    refine r_geN hx hb (a := i) (b := 77) (by omega) (by omega) (tgt := 45) dX10_restore_24 (by decide) (fun c_24 => ?_) (fun c_24 => ?_)
    · refine lv_aload_n hx hb dX10_restore_45 rfl (lv_at hl 0 rfl) ?_
      refine lv_iconst (v := nI 0) hx hb dX10_restore_46 (by decide) ?_
      refine md_put_changes C hW dX10_restore_47 (fun H locs hW => ?_)
      exact md_vret C hr hlocks hW (Or.inr ⟨c_9, by rw [show i = 77 by omega]⟩) dX10_restore_50
    · refine lv_aload_n hx hb dX10_restore_27 rfl (lv_at hl 0 rfl) ?_
      refine md_geta_m C hW dX10_restore_28 ?_
      refine lv_iload_n hx hb dX10_restore_31 rfl (lv_at hl 1 rfl) ?_
      refine lv_aload_n hx hb dX10_restore_32 rfl (lv_at hl 0 rfl) ?_
      refine md_geta_saved C hW dX10_restore_33 ?_
      refine lv_iload_n hx hb dX10_restore_36 rfl (lv_at hl 1 rfl) ?_
      refine md_ald_saved C hW (i := i) (by omega) dX10_restore_37 ?_
      refine r_eq (y := (S 2 i)) (rfl) ?_
      refine md_ast_m C hW (i := i) (by omega) dX10_restore_38 (fun H locs hW => ?_)
      refine lv_iinc (v := (nI (i + 1))) (lv' := [(1, .int (nI (i + 1))), (0, .ref (ad 0))]) hx hb dX10_restore_39 hl (k := 1) rfl (nI_1 _) (by decide) rfl (fun ls hl => ?_)
      refine lv_goto (tgt := 21) hx hb dX10_restore_42 (by decide) ?_
      exact ih_21 (i + 1) _ _ _ (by omega) ⟨_, rfl, lv_sub hl [1, 0] rfl, (by rw [sr_sr, sr_s, cpyF_1] at hW; exact hW), (by omega)⟩
  · refine lv_aload_n hx hb dX10_restore_12 rfl (lv_at hl 0 rfl) ?_
    refine lv_iconst (v := nI 1) hx hb dX10_restore_13 (by decide) ?_
    refine md_calli C hml hl.1 (As := [.int (nI 1)]) (rest := []) (m_throwing l D aT ad (ss S 8 (nI 0)) 1) gT_throwing hd_throwing rfl ⟨Nat.le_of_ble_eq_true rfl, Nat.le_of_ble_eq_true rfl⟩ ⟨Nat.le_refl _, Nat.le_refl _⟩ hW hA rfl (Nat.le_of_ble_eq_true rfl) dX10_restore_14 (fun r_14 S_14 H locs hq hW => ?_)
    obtain ⟨rfl, rfl⟩ := hq
    refine lv_pop hx hb dX10_restore_17 rfl ?_
    exact md_vret C hr hlocks hW (Or.inl ⟨c_9, ss_ss _ _ _ _⟩) dX10_restore_18
end
section
def mxF (a b : Int32) : Int32 := if a < b then b else a
/-- the state with the rows and sums of the measuring -/
def stT (S : MSt) (w wo sw so : Nat → Int32) (wa sa : Int32) : MSt := fun r => if r = 5 then w else if r = 6 then wo else if r = 7 then sw else if r = 8 then so else if r = 13 then upd (upd (S 13) 15 wa) 16 sa else S r
theorem stT_0 (S : MSt) (a b : Int32) : ss (ss S 15 a) 16 b = stT S (S 5) (S 6) (S 7) (S 8) a b := by
  funext r
  unfold ss sr stT
  by_cases h : r = 13
  · subst h; simp
  · simp only [h, if_false]
    split
    · rename_i z; rw [z]
    · split
      · rename_i z; rw [z]
      · split
        · rename_i z; rw [z]
        · split
          · rename_i z; rw [z]
          · rfl
theorem stT_5 (S : MSt) (w wo sw so f : Nat → Int32) (wa sa : Int32) : sr (stT S w wo sw so wa sa) 5 f = stT S f wo sw so wa sa := by
  funext r; unfold sr stT; by_cases h : r = 5 <;> simp [h]
theorem stT_6 (S : MSt) (w wo sw so f : Nat → Int32) (wa sa : Int32) : sr (stT S w wo sw so wa sa) 6 f = stT S w f sw so wa sa := by
  funext r; unfold sr stT; by_cases h : r = 6 <;> simp [h]
theorem stT_7 (S : MSt) (w wo sw so f : Nat → Int32) (wa sa : Int32) : sr (stT S w wo sw so wa sa) 7 f = stT S w wo f so wa sa := by
  funext r; unfold sr stT; by_cases h : r = 7 <;> simp [h]
theorem stT_8 (S : MSt) (w wo sw so f : Nat → Int32) (wa sa : Int32) : sr (stT S w wo sw so wa sa) 8 f = stT S w wo sw f wa sa := by
  funext r; unfold sr stT; by_cases h : r = 8 <;> simp [h]
theorem stT_wa (S : MSt) (w wo sw so : Nat → Int32) (wa sa x : Int32) : ss (stT S w wo sw so wa sa) 15 x = stT S w wo sw so x sa := by
  funext r j; unfold ss sr stT; by_cases h : r = 13
  · subst h
    by_cases h1 : j = 15
    · subst h1; simp [upd]
    · by_cases h2 : j = 16
      · subst h2; simp [upd]
      · simp [upd, h1, h2]
  · simp [h]
theorem stT_sa (S : MSt) (w wo sw so : Nat → Int32) (wa sa x : Int32) : ss (stT S w wo sw so wa sa) 16 x = stT S w wo sw so wa x := by
  funext r j; unfold ss sr stT; by_cases h : r = 13
  · subst h
    by_cases h2 : j = 16
    · subst h2; simp [upd]
    · simp [upd, h2]
  · simp [h]
abbrev MeT : Type := (Nat → Int32) × (Nat → Int32) × (Nat → Int32) × (Nat → Int32) × Int32 × Int32
/-- one motion measured -/
def meaS (m : Nat → Int32) (k : Nat) (T : MeT) : MeT := match prM m k with
  | none => (T.1, T.2.1, T.2.2.1, T.2.2.2.1, T.2.2.2.2.1 + mxF (T.1 k) (T.2.1 k), T.2.2.2.2.2 * (T.2.2.1 k + T.2.2.2.1 k))
  | some p => (upd T.1 p (T.1 p + T.2.1 k), upd T.2.1 p (T.2.1 p + mxF (T.1 k) (T.2.1 k)), upd T.2.2.1 p (T.2.2.1 p * T.2.2.2.1 k), upd T.2.2.2.1 p (T.2.2.2.1 p * (T.2.2.1 k + T.2.2.2.1 k)), T.2.2.2.2.1, T.2.2.2.2.2)
def meaD (m : Nat → Int32) : Nat → MeT → MeT
  | 0, T => T
  | i + 1, T => meaD m i (meaS m i T)
def mea0 (S : MSt) : MeT := (cpyF (S 5) (fun j => S 0 (29 + 4 * j + 3)) (nM (S 0)), cpyF (S 6) (fun _ => nI 0) (nM (S 0)), cpyF (S 7) (fun _ => nI 1) (nM (S 0)), cpyF (S 8) (fun _ => nI 1) (nM (S 0)), nI 0, nI 1)
def meaR (S : MSt) : MeT := meaD (S 0) (nM (S 0)) (mea0 S)
def meaT (S : MSt) (T : MeT) : MSt := stT S T.1 T.2.1 T.2.2.1 T.2.2.2.1 T.2.2.2.2.1 T.2.2.2.2.2
theorem dm1 (i : Nat) : nI i + Int32.ofInt (-1) = nI i - nI 1 := by rw [Int32.sub_eq_add_neg]; rfl
theorem r_ifltD {p : Program} {l : Launch} {e : Env} {R : Room} {s : State} {m : MethodId} {args : Array Value} {below : List Frame} {meth : Method} {c : Code} {H : Heap} {locs : List Loc} {cells slots : Nat} {Q : State → Prop} {cc : ByteArray} {pc : Nat} {ls : Array Slot} {rest : List Value} (hx : p.tables.exec = Jvm.exec) (hb : c.code = cc) {a b : Nat} (ha : a < 1024) (hb' : b < 1024) {off : Int} {tgt : Nat} (hdg : decode cc pc = .ok (.ifCond .lt off, 3)) (ht : (pc : Int) + off = (tgt : Int)) (kt : a < b → W p l e R s m args below meth c H locs cells slots Q (F0 m tgt ls rest)) (kf : b ≤ a → W p l e R s m args below meth c H locs cells slots Q (F0 m (pc + 3) ls rest)) : W p l e R s m args below meth c H locs cells slots Q (F0 m pc ls (.int (nI a - nI b) :: rest)) := by
  have e := pk_sub_toInt (a := a) (b := b) (by omega) (by omega)
  have h0 : (0 : Int32).toInt = 0 := by decide
  have key : nI a - nI b < 0 ↔ a < b := by rw [Int32.lt_iff_toInt_lt, e, h0]; omega
  exact lv_if_lt hx hb hdg ht (fun h => kt (key.mp h)) (fun h => kf (Nat.not_lt.mp (fun z => h (key.mpr z))))
theorem dX10_wouldVeto_0 : decode cX10_wouldVeto 0 = .ok (.aload_n 0, 1) := by decide +kernel
theorem dX10_wouldVeto_1 : decode cX10_wouldVeto 1 = .ok (.iconst 0, 1) := by decide +kernel
theorem dX10_wouldVeto_2 : decode cX10_wouldVeto 2 = .ok (.putfield 57, 3) := by decide +kernel
theorem dX10_wouldVeto_5 : decode cX10_wouldVeto 5 = .ok (.aload_n 0, 1) := by decide +kernel
theorem dX10_wouldVeto_6 : decode cX10_wouldVeto 6 = .ok (.iload_n 2, 1) := by decide +kernel
theorem dX10_wouldVeto_7 : decode cX10_wouldVeto 7 = .ok (.invokevirtual 71, 3) := by decide +kernel
theorem dX10_wouldVeto_10 : decode cX10_wouldVeto 10 = .ok (.istore_n 3, 1) := by decide +kernel
theorem dX10_wouldVeto_11 : decode cX10_wouldVeto 11 = .ok (.aload_n 0, 1) := by decide +kernel
theorem dX10_wouldVeto_12 : decode cX10_wouldVeto 12 = .ok (.iload_n 1, 1) := by decide +kernel
theorem dX10_wouldVeto_13 : decode cX10_wouldVeto 13 = .ok (.invokevirtual 166, 3) := by decide +kernel
theorem dX10_wouldVeto_16 : decode cX10_wouldVeto 16 = .ok (.ifCond .eq 8, 3) := by decide +kernel
theorem dX10_wouldVeto_19 : decode cX10_wouldVeto 19 = .ok (.iload_n 3, 1) := by decide +kernel
theorem dX10_wouldVeto_20 : decode cX10_wouldVeto 20 = .ok (.iconst (-1), 1) := by decide +kernel
theorem dX10_wouldVeto_21 : decode cX10_wouldVeto 21 = .ok (.if_icmp .ne 23, 3) := by decide +kernel
theorem dX10_wouldVeto_24 : decode cX10_wouldVeto 24 = .ok (.aload_n 0, 1) := by decide +kernel
theorem dX10_wouldVeto_25 : decode cX10_wouldVeto 25 = .ok (.aload_n 0, 1) := by decide +kernel
theorem dX10_wouldVeto_26 : decode cX10_wouldVeto 26 = .ok (.iload_n 1, 1) := by decide +kernel
theorem dX10_wouldVeto_27 : decode cX10_wouldVeto 27 = .ok (.invokevirtual 166, 3) := by decide +kernel
theorem dX10_wouldVeto_30 : decode cX10_wouldVeto 30 = .ok (.ifCond .eq 7, 3) := by decide +kernel
theorem dX10_wouldVeto_33 : decode cX10_wouldVeto 33 = .ok (.iconst 2, 1) := by decide +kernel
theorem dX10_wouldVeto_34 : decode cX10_wouldVeto 34 = .ok (.goto 4, 3) := by decide +kernel
theorem dX10_wouldVeto_37 : decode cX10_wouldVeto 37 = .ok (.iconst 1, 1) := by decide +kernel
theorem dX10_wouldVeto_38 : decode cX10_wouldVeto 38 = .ok (.invokevirtual 101, 3) := by decide +kernel
theorem dX10_wouldVeto_41 : decode cX10_wouldVeto 41 = .ok (.pop, 1) := by decide +kernel
theorem dX10_wouldVeto_42 : decode cX10_wouldVeto 42 = .ok (.iconst 0, 1) := by decide +kernel
theorem dX10_wouldVeto_43 : decode cX10_wouldVeto 43 = .ok (.ireturn, 1) := by decide +kernel
theorem dX10_wouldVeto_44 : decode cX10_wouldVeto 44 = .ok (.aload_n 0, 1) := by decide +kernel
theorem dX10_wouldVeto_45 : decode cX10_wouldVeto 45 = .ok (.iload_n 1, 1) := by decide +kernel
theorem dX10_wouldVeto_46 : decode cX10_wouldVeto 46 = .ok (.iload_n 3, 1) := by decide +kernel
theorem dX10_wouldVeto_47 : decode cX10_wouldVeto 47 = .ok (.invokevirtual 144, 3) := by decide +kernel
theorem dX10_wouldVeto_50 : decode cX10_wouldVeto 50 = .ok (.ireturn, 1) := by decide +kernel
set_option maxHeartbeats 1000000 in
set_option maxRecDepth 20000 in
theorem m_wouldVeto (l : Launch) (D : va_G) (aT : Nat → ClassId) (ad : Nat → Nat) (S : MSt) (x y : Int32) (hF : FoW (S 0)) (hH : HeW (S 0)) : MdI l yX10_wouldVeto cX10_wouldVeto 4 .boolean 3 68 D aT ad [.ref (ad 0), .int x, .int y] S (fun r S1 => (isHB (hM (S 0)) x = false ∧ r = nI 0 ∧ S1 = ss S 8 (nI 1)) ∨ (isHB (hM (S 0)) x = true ∧ fnd (fun k => S 0 (29 + 4 * k)) y (nM (S 0)) = none ∧ r = nI 0 ∧ S1 = ss S 8 (nI 2)) ∨ (∃ i q, i < hM (S 0) ∧ x = nI i ∧ fnd (fun k => S 0 (29 + 4 * k)) y (nM (S 0)) = some q ∧ r = bI (vetB (dif (taM (S 0) i) (tnM (S 0) q)) (thM (S 0) i)) ∧ S1 = ss S 8 (nI 0))) := by
  refine MdI.of (by decide +kernel) rfl (Nat.le_of_ble_eq_true rfl) ?_
  intro p e s m below meth c A ls C hml hl hA hr hlocks hW
  have hl : lv_has ls 4 [(0, .ref (ad 0)), (1, .int x), (2, .int y)] := hl
  have hx := C.1
  have hb := C.2.1
  refine lv_aload_n hx hb dX10_wouldVeto_0 rfl (lv_at hl 0 rfl) ?_
  refine lv_iconst (v := nI 0) hx hb dX10_wouldVeto_1 (by decide) ?_
  refine md_put_thrown C hW dX10_wouldVeto_2 (fun H locs hW => ?_)
  refine lv_aload_n hx hb dX10_wouldVeto_5 rfl (lv_at hl 0 rfl) ?_
  refine lv_iload_n hx hb dX10_wouldVeto_6 rfl (lv_at hl 2 rfl) ?_
  refine md_callg C hml hl.1 (As := [.int y]) (rest := []) (m_find l D aT ad (ss S 8 (nI 0)) (y) (nM (S 0)) hF.1 hF.2.1) gT_find hd_find rfl ⟨Nat.le_of_ble_eq_true rfl, Nat.le_of_ble_eq_true rfl⟩ ⟨Nat.le_refl _, Nat.le_refl _⟩ hW hA rfl (Nat.le_of_ble_eq_true rfl) dX10_wouldVeto_7 (fun r_7 H locs hq hW => ?_)
  subst hq
  refine lv_istore_n (lv' := [(3, .int (oi (fnd (fun k => (ss S 8 (nI 0)) 0 (29 + 4 * k)) (y) (nM (S 0))))), (0, .ref (ad 0)), (1, .int x), (2, .int y)]) hx hb dX10_wouldVeto_10 rfl hl (by decide) rfl (fun ls hl => ?_)
  refine lv_aload_n hx hb dX10_wouldVeto_11 rfl (lv_at hl 1 rfl) ?_
  refine lv_iload_n hx hb dX10_wouldVeto_12 rfl (lv_at hl 2 rfl) ?_
  refine md_callg C hml hl.1 (As := [.int x]) (rest := []) (m_isHedge l D aT ad (ss S 8 (nI 0)) (x) hH) gT_isHedge hd_isHedge rfl ⟨Nat.le_of_ble_eq_true rfl, Nat.le_of_ble_eq_true rfl⟩ ⟨Nat.le_refl _, Nat.le_refl _⟩ hW hA rfl (Nat.le_of_ble_eq_true rfl) dX10_wouldVeto_13 (fun r_13 H locs hq hW => ?_)
  subst hq
  refine r_bI_eq hx hb (b := (isHB (hM (S 0)) x)) (tgt := 24) dX10_wouldVeto_16 (by decide) (fun c_16 => ?_) (fun c_16 => ?_)
  · refine lv_aload_n hx hb dX10_wouldVeto_24 rfl (lv_at hl 1 rfl) ?_
    refine lv_aload_n hx hb dX10_wouldVeto_25 rfl (lv_at hl 1 rfl) ?_
    refine lv_iload_n hx hb dX10_wouldVeto_26 rfl (lv_at hl 2 rfl) ?_
    refine md_callg C hml hl.1 (As := [.int x]) (rest := [.ref (ad 0)]) (m_isHedge l D aT ad (ss S 8 (nI 0)) (x) hH) gT_isHedge hd_isHedge rfl ⟨Nat.le_of_ble_eq_true rfl, Nat.le_of_ble_eq_true rfl⟩ ⟨Nat.le_refl _, Nat.le_refl _⟩ hW hA rfl (Nat.le_of_ble_eq_true rfl) dX10_wouldVeto_27 (fun r_27 H locs hq hW => ?_)
    subst hq
    refine r_bI_eq hx hb (b := (isHB (hM (S 0)) x)) (tgt := 37) dX10_wouldVeto_30 (by decide) (fun c_30 => ?_) (fun c_30 => ?_)
    · refine lv_iconst (v := nI 1) hx hb dX10_wouldVeto_37 (by decide) ?_
      refine md_calli C hml hl.1 (As := [.int (nI 1)]) (rest := []) (m_throwing l D aT ad (ss S 8 (nI 0)) 1) gT_throwing hd_throwing rfl ⟨Nat.le_of_ble_eq_true rfl, Nat.le_of_ble_eq_true rfl⟩ ⟨Nat.le_refl _, Nat.le_refl _⟩ hW hA rfl (Nat.le_of_ble_eq_true rfl) dX10_wouldVeto_38 (fun r_38 S_38 H locs hq hW => ?_)
      obtain ⟨rfl, rfl⟩ := hq
      refine lv_pop hx hb dX10_wouldVeto_41 rfl ?_
      refine lv_iconst (v := nI 0) hx hb dX10_wouldVeto_42 (by decide) ?_
      exact md_iret C hr hlocks (by decide) hW (Or.inl ⟨c_16, rfl, ss_ss _ _ _ _⟩) dX10_wouldVeto_43
    · exact absurd c_30 (by rw [c_16]; decide)
  · refine lv_iload_n hx hb dX10_wouldVeto_19 rfl (lv_at hl 0 rfl) ?_
    refine lv_iconst (v := (-1)) hx hb dX10_wouldVeto_20 (by decide) ?_
    refine r_oi_ne hx hb (o := (fnd (fun k => (ss S 8 (nI 0)) 0 (29 + 4 * k)) (y) (nM (S 0)))) (fun j hj => by have := (fnd_some hj).1; have := hF.n12; omega) (tgt := 44) dX10_wouldVeto_21 (by decide) (fun j_21 c_21 => ?_) (fun c_21 => ?_)
    · have hl : lv_has ls 4 [(3, .int (nI j_21)), (0, .ref (ad 0)), (1, .int x), (2, .int y)] := by rw [c_21] at hl; exact hl
      obtain ⟨i, hi, rfl⟩ := isHB_nat c_16 (by have := hH.2.1; omega)
      have hq0 := (fnd_some c_21).1
      refine lv_aload_n hx hb dX10_wouldVeto_44 rfl (lv_at hl 1 rfl) ?_
      refine lv_iload_n hx hb dX10_wouldVeto_45 rfl (lv_at hl 2 rfl) ?_
      refine lv_iload_n hx hb dX10_wouldVeto_46 rfl (lv_at hl 0 rfl) ?_
      refine md_callg C hml hl.1 (As := [.int (nI i), .int (nI j_21)]) (rest := []) (m_vetoes l D aT ad (ss S 8 (nI 0)) (hM (S 0)) (lvM (S 0)) (thM (S 0)) (taM (S 0)) hH (nM (S 0)) (idM (S 0)) (prM (S 0)) (tnM (S 0)) hF i j_21 (hi) (hq0)) gT_vetoes hd_vetoes rfl ⟨Nat.le_of_ble_eq_true rfl, Nat.le_of_ble_eq_true rfl⟩ ⟨Nat.le_refl _, Nat.le_refl _⟩ hW hA rfl (Nat.le_of_ble_eq_true rfl) dX10_wouldVeto_47 (fun r_47 H locs hq hW => ?_)
      subst hq
      exact md_iret C hr hlocks (bI_nar _) hW (Or.inr (Or.inr ⟨i, j_21, hi, rfl, c_21, rfl, rfl⟩)) dX10_wouldVeto_50
    · have hl : lv_has ls 4 [(3, .int (-1)), (0, .ref (ad 0)), (1, .int x), (2, .int y)] := by rw [c_21] at hl; exact hl
      refine lv_aload_n hx hb dX10_wouldVeto_24 rfl (lv_at hl 1 rfl) ?_
      refine lv_aload_n hx hb dX10_wouldVeto_25 rfl (lv_at hl 1 rfl) ?_
      refine lv_iload_n hx hb dX10_wouldVeto_26 rfl (lv_at hl 2 rfl) ?_
      refine md_callg C hml hl.1 (As := [.int x]) (rest := [.ref (ad 0)]) (m_isHedge l D aT ad (ss S 8 (nI 0)) (x) hH) gT_isHedge hd_isHedge rfl ⟨Nat.le_of_ble_eq_true rfl, Nat.le_of_ble_eq_true rfl⟩ ⟨Nat.le_refl _, Nat.le_refl _⟩ hW hA rfl (Nat.le_of_ble_eq_true rfl) dX10_wouldVeto_27 (fun r_27 H locs hq hW => ?_)
      subst hq
      refine r_bI_eq hx hb (b := (isHB (hM (S 0)) x)) (tgt := 37) dX10_wouldVeto_30 (by decide) (fun c_30 => ?_) (fun c_30 => ?_)
      · exact absurd c_30 (by rw [c_16]; decide)
      · refine lv_iconst (v := nI 2) hx hb dX10_wouldVeto_33 (by decide) ?_
        refine lv_goto (tgt := 38) hx hb dX10_wouldVeto_34 (by decide) ?_
        refine md_calli C hml hl.1 (As := [.int (nI 2)]) (rest := []) (m_throwing l D aT ad (ss S 8 (nI 0)) 2) gT_throwing hd_throwing rfl ⟨Nat.le_of_ble_eq_true rfl, Nat.le_of_ble_eq_true rfl⟩ ⟨Nat.le_refl _, Nat.le_refl _⟩ hW hA rfl (Nat.le_of_ble_eq_true rfl) dX10_wouldVeto_38 (fun r_38 S_38 H locs hq hW => ?_)
        obtain ⟨rfl, rfl⟩ := hq
        refine lv_pop hx hb dX10_wouldVeto_41 rfl ?_
        refine lv_iconst (v := nI 0) hx hb dX10_wouldVeto_42 (by decide) ?_
        exact md_iret C hr hlocks (by decide) hW (Or.inr (Or.inl ⟨c_16, c_21, rfl, ss_ss _ _ _ _⟩)) dX10_wouldVeto_43
theorem gT_longestPath : GoodIn gw (wsV RX10 187 RX10 yX10_longestPath (Cond.code yX10_longestPath cX10_longestPath 6 (some .int) :: gw)) := gdV gw_1943 gw_1936 gw_1937 gw_81 gw_1938
theorem hd_longestPath : yX10_longestPath.cls = RX10 ∧ yX10_longestPath.cls ≠ "java/lang/invoke/MethodHandle" ∧ yX10_longestPath.cls ≠ "java/lang/invoke/VarHandle" ∧ (parseMethodDescriptor yX10_longestPath.desc).map (fun d => d.parameters.length) = some 1 := ⟨rfl, by decide +kernel, by decide +kernel, by decide +kernel⟩
theorem dX10_longestPath_0 : decode cX10_longestPath 0 = .ok (.aload_n 0, 1) := by decide +kernel
theorem dX10_longestPath_1 : decode cX10_longestPath 1 = .ok (.iconst 0, 1) := by decide +kernel
theorem dX10_longestPath_2 : decode cX10_longestPath 2 = .ok (.putfield 57, 3) := by decide +kernel
theorem dX10_longestPath_5 : decode cX10_longestPath 5 = .ok (.aload_n 0, 1) := by decide +kernel
theorem dX10_longestPath_6 : decode cX10_longestPath 6 = .ok (.iload_n 1, 1) := by decide +kernel
theorem dX10_longestPath_7 : decode cX10_longestPath 7 = .ok (.invokevirtual 71, 3) := by decide +kernel
theorem dX10_longestPath_10 : decode cX10_longestPath 10 = .ok (.istore_n 2, 1) := by decide +kernel
theorem dX10_longestPath_11 : decode cX10_longestPath 11 = .ok (.iload_n 2, 1) := by decide +kernel
theorem dX10_longestPath_12 : decode cX10_longestPath 12 = .ok (.iconst (-1), 1) := by decide +kernel
theorem dX10_longestPath_13 : decode cX10_longestPath 13 = .ok (.if_icmp .ne 9, 3) := by decide +kernel
theorem dX10_longestPath_16 : decode cX10_longestPath 16 = .ok (.aload_n 0, 1) := by decide +kernel
theorem dX10_longestPath_17 : decode cX10_longestPath 17 = .ok (.iconst 1, 1) := by decide +kernel
theorem dX10_longestPath_18 : decode cX10_longestPath 18 = .ok (.invokevirtual 101, 3) := by decide +kernel
theorem dX10_longestPath_21 : decode cX10_longestPath 21 = .ok (.ireturn, 1) := by decide +kernel
theorem dX10_longestPath_22 : decode cX10_longestPath 22 = .ok (.iconst 0, 1) := by decide +kernel
theorem dX10_longestPath_23 : decode cX10_longestPath 23 = .ok (.istore_n 3, 1) := by decide +kernel
theorem dX10_longestPath_24 : decode cX10_longestPath 24 = .ok (.iconst 0, 1) := by decide +kernel
theorem dX10_longestPath_25 : decode cX10_longestPath 25 = .ok (.istore 4, 2) := by decide +kernel
theorem dX10_longestPath_27 : decode cX10_longestPath 27 = .ok (.iload 4, 2) := by decide +kernel
theorem dX10_longestPath_29 : decode cX10_longestPath 29 = .ok (.aload_n 0, 1) := by decide +kernel
theorem dX10_longestPath_30 : decode cX10_longestPath 30 = .ok (.getfield 9, 3) := by decide +kernel
theorem dX10_longestPath_33 : decode cX10_longestPath 33 = .ok (.iconst 2, 1) := by decide +kernel
theorem dX10_longestPath_34 : decode cX10_longestPath 34 = .ok (.iaload, 1) := by decide +kernel
theorem dX10_longestPath_35 : decode cX10_longestPath 35 = .ok (.if_icmp .ge 62, 3) := by decide +kernel
theorem dX10_longestPath_38 : decode cX10_longestPath 38 = .ok (.iconst 0, 1) := by decide +kernel
theorem dX10_longestPath_39 : decode cX10_longestPath 39 = .ok (.istore 5, 2) := by decide +kernel
theorem dX10_longestPath_41 : decode cX10_longestPath 41 = .ok (.iload 5, 2) := by decide +kernel
theorem dX10_longestPath_43 : decode cX10_longestPath 43 = .ok (.iload 4, 2) := by decide +kernel
theorem dX10_longestPath_45 : decode cX10_longestPath 45 = .ok (.if_icmp .gt 46, 3) := by decide +kernel
theorem dX10_longestPath_48 : decode cX10_longestPath 48 = .ok (.aload_n 0, 1) := by decide +kernel
theorem dX10_longestPath_49 : decode cX10_longestPath 49 = .ok (.iload 4, 2) := by decide +kernel
theorem dX10_longestPath_51 : decode cX10_longestPath 51 = .ok (.iload_n 2, 1) := by decide +kernel
theorem dX10_longestPath_52 : decode cX10_longestPath 52 = .ok (.invokevirtual 78, 3) := by decide +kernel
theorem dX10_longestPath_55 : decode cX10_longestPath 55 = .ok (.ifCond .eq 36, 3) := by decide +kernel
theorem dX10_longestPath_58 : decode cX10_longestPath 58 = .ok (.iload_n 3, 1) := by decide +kernel
theorem dX10_longestPath_59 : decode cX10_longestPath 59 = .ok (.aload_n 0, 1) := by decide +kernel
theorem dX10_longestPath_60 : decode cX10_longestPath 60 = .ok (.iload 5, 2) := by decide +kernel
theorem dX10_longestPath_62 : decode cX10_longestPath 62 = .ok (.iload_n 2, 1) := by decide +kernel
theorem dX10_longestPath_63 : decode cX10_longestPath 63 = .ok (.invokevirtual 78, 3) := by decide +kernel
theorem dX10_longestPath_66 : decode cX10_longestPath 66 = .ok (.ifCond .eq 14, 3) := by decide +kernel
theorem dX10_longestPath_69 : decode cX10_longestPath 69 = .ok (.aload_n 0, 1) := by decide +kernel
theorem dX10_longestPath_70 : decode cX10_longestPath 70 = .ok (.iload 4, 2) := by decide +kernel
theorem dX10_longestPath_72 : decode cX10_longestPath 72 = .ok (.iload 5, 2) := by decide +kernel
theorem dX10_longestPath_74 : decode cX10_longestPath 74 = .ok (.invokevirtual 184, 3) := by decide +kernel
theorem dX10_longestPath_77 : decode cX10_longestPath 77 = .ok (.goto 4, 3) := by decide +kernel
theorem dX10_longestPath_80 : decode cX10_longestPath 80 = .ok (.iconst 0, 1) := by decide +kernel
theorem dX10_longestPath_81 : decode cX10_longestPath 81 = .ok (.invokestatic 138, 3) := by decide +kernel
theorem dX10_longestPath_84 : decode cX10_longestPath 84 = .ok (.istore_n 3, 1) := by decide +kernel
theorem dX10_longestPath_85 : decode cX10_longestPath 85 = .ok (.iinc 5 1, 3) := by decide +kernel
theorem dX10_longestPath_88 : decode cX10_longestPath 88 = .ok (.goto (-47), 3) := by decide +kernel
theorem dX10_longestPath_91 : decode cX10_longestPath 91 = .ok (.iinc 4 1, 3) := by decide +kernel
theorem dX10_longestPath_94 : decode cX10_longestPath 94 = .ok (.goto (-67), 3) := by decide +kernel
theorem dX10_longestPath_97 : decode cX10_longestPath 97 = .ok (.iload_n 3, 1) := by decide +kernel
theorem dX10_longestPath_98 : decode cX10_longestPath 98 = .ok (.iconst 1, 1) := by decide +kernel
theorem dX10_longestPath_99 : decode cX10_longestPath 99 = .ok (.iadd, 1) := by decide +kernel
theorem dX10_longestPath_100 : decode cX10_longestPath 100 = .ok (.ireturn, 1) := by decide +kernel
set_option maxHeartbeats 2000000 in
set_option maxRecDepth 20000 in
theorem m_longestPath (l : Launch) (D : va_G) (aT : Nat → ClassId) (ad : Nat → Nat) (S : MSt) (x : Int32) (hF : FoW (S 0)) : MdI l yX10_longestPath cX10_longestPath 6 .int 6 134 D aT ad [.ref (ad 0), .int x] S (fun r S1 => (fnd (fun k => S 0 (29 + 4 * k)) x (nM (S 0)) = none ∧ r = -1 ∧ S1 = ss S 8 (nI 1)) ∨ (∃ q, fnd (fun k => S 0 (29 + 4 * k)) x (nM (S 0)) = some q ∧ r = nI (lpO (prM (S 0)) (nM (S 0)) q (nM (S 0)) + 1) ∧ S1 = ss S 8 (nI 0))) := by
  refine MdI.of (by decide +kernel) rfl (Nat.le_of_ble_eq_true rfl) ?_
  intro p e s m below meth c A ls C hml hl hA hr hlocks hW
  have hl : lv_has ls 6 [(0, .ref (ad 0)), (1, .int x)] := hl
  have hx := C.1
  have hb := C.2.1
  refine lv_aload_n hx hb dX10_longestPath_0 rfl (lv_at hl 0 rfl) ?_
  refine lv_iconst (v := nI 0) hx hb dX10_longestPath_1 (by decide) ?_
  refine md_put_thrown C hW dX10_longestPath_2 (fun H locs hW => ?_)
  refine lv_aload_n hx hb dX10_longestPath_5 rfl (lv_at hl 0 rfl) ?_
  refine lv_iload_n hx hb dX10_longestPath_6 rfl (lv_at hl 1 rfl) ?_
  refine md_callg C hml hl.1 (As := [.int x]) (rest := []) (m_find l D aT ad (ss S 8 (nI 0)) (x) (nM (S 0)) hF.1 hF.2.1) gT_find hd_find rfl ⟨Nat.le_of_ble_eq_true rfl, Nat.le_of_ble_eq_true rfl⟩ ⟨Nat.le_refl _, Nat.le_refl _⟩ hW hA rfl (Nat.le_of_ble_eq_true rfl) dX10_longestPath_7 (fun r_7 H locs hq hW => ?_)
  subst hq
  refine lv_istore_n (lv' := [(2, .int (oi (fnd (fun k => (ss S 8 (nI 0)) 0 (29 + 4 * k)) (x) (nM (S 0))))), (0, .ref (ad 0)), (1, .int x)]) hx hb dX10_longestPath_10 rfl hl (by decide) rfl (fun ls hl => ?_)
  refine lv_iload_n hx hb dX10_longestPath_11 rfl (lv_at hl 0 rfl) ?_
  refine lv_iconst (v := (-1)) hx hb dX10_longestPath_12 (by decide) ?_
  refine r_oi_ne hx hb (o := (fnd (fun k => (ss S 8 (nI 0)) 0 (29 + 4 * k)) (x) (nM (S 0)))) (fun j hj => by have := (fnd_some hj).1; have := hF.n12; omega) (tgt := 22) dX10_longestPath_13 (by decide) (fun j_13 c_13 => ?_) (fun c_13 => ?_)
  · have hl : lv_has ls 6 [(2, .int (nI j_13)), (0, .ref (ad 0)), (1, .int x)] := by rw [c_13] at hl; exact hl
    have hq0 := (fnd_some c_13).1
    have h12 := hF.n12
    refine lv_iconst (v := nI 0) hx hb dX10_longestPath_22 (by decide) ?_
    refine lv_istore_n (lv' := [(3, .int (nI 0)), (2, .int (nI j_13)), (0, .ref (ad 0)), (1, .int x)]) hx hb dX10_longestPath_23 rfl hl (by decide) rfl (fun ls hl => ?_)
    refine lv_iconst (v := nI 0) hx hb dX10_longestPath_24 (by decide) ?_
    refine lv_istore (lv' := [(4, .int (nI 0)), (3, .int (nI 0)), (2, .int (nI j_13)), (0, .ref (ad 0)), (1, .int x)]) hx hb dX10_longestPath_25 hl (by decide) rfl (fun ls hl => ?_)
    refine W_loopH (σ := Nat × Nat) (fun z_ => nM (S 0) - z_.2) (fun z_ H locs g => ∃ ls, g = F0 m 27 ls [] ∧ lv_has ls 6 [(0, .ref (ad 0)), (2, .int (nI j_13)), (3, .int (nI z_.1)), (4, .int (nI z_.2))] ∧ MdB D aT ad (ss S 8 (nI 0)) A s.heap H locs ∧ (z_.1 = lpO (prM (S 0)) (nM (S 0)) j_13 z_.2 ∧ z_.2 ≤ nM (S 0))) ?_ (0, 0) _ ⟨_, rfl, lv_sub hl [3, 2, 1, 0] rfl, hW, ⟨rfl, Nat.zero_le _⟩⟩
    clear hW hl
    rintro ⟨mo, a⟩ H locs g ⟨ls, rfl, hl, hW, hmo, han⟩ ih_27
    dsimp only at hl hW hmo han ⊢
    refine lv_iload hx hb dX10_longestPath_27 (lv_at hl 3 rfl) ?_
    refine lv_aload_n hx hb dX10_longestPath_29 rfl (lv_at hl 0 rfl) ?_
    refine md_geta_m C hW dX10_longestPath_30 ?_
    refine lv_iconst (v := nI 2) hx hb dX10_longestPath_33 (by decide) ?_
    refine md_ald_m C hW (i := 2) (by omega) dX10_longestPath_34 ?_
    refine r_eq (y := (nI (nM (S 0)))) (hF.1) ?_
    refine r_geN hx hb (a := a) (b := (nM (S 0))) (by omega) (by omega) (tgt := 97) dX10_longestPath_35 (by decide) (fun c_35 => ?_) (fun c_35 => ?_)
    · refine lv_iload_n hx hb dX10_longestPath_97 rfl (lv_at hl 2 rfl) ?_
      refine lv_iconst (v := nI 1) hx hb dX10_longestPath_98 (by decide) ?_
      refine r_iaddN hx hb (a := mo) (b := 1) dX10_longestPath_99 ?_
      exact md_iret C hr hlocks rfl hW (Or.inr ⟨j_13, c_13, by rw [hmo, show a = nM (S 0) by omega], rfl⟩) dX10_longestPath_100
    · refine lv_iconst (v := nI 0) hx hb dX10_longestPath_38 (by decide) ?_
      refine lv_istore (lv' := [(5, .int (nI 0)), (0, .ref (ad 0)), (2, .int (nI j_13)), (3, .int (nI mo)), (4, .int (nI a))]) hx hb dX10_longestPath_39 hl (by decide) rfl (fun ls hl => ?_)
      refine W_loopH (σ := Nat × Nat) (fun z_ => a + 1 - z_.2) (fun z_ H locs g => ∃ ls, g = F0 m 41 ls [] ∧ lv_has ls 6 [(0, .ref (ad 0)), (2, .int (nI j_13)), (3, .int (nI z_.1)), (4, .int (nI a)), (5, .int (nI z_.2))] ∧ MdB D aT ad (ss S 8 (nI 0)) A s.heap H locs ∧ (z_.1 = lpI (prM (S 0)) (nM (S 0)) j_13 a (lpO (prM (S 0)) (nM (S 0)) j_13 a) z_.2 ∧ z_.2 ≤ a + 1 ∧ (0 < z_.2 → anc (prM (S 0)) j_13 a = true))) ?_ (mo, 0) _ ⟨_, rfl, lv_sub hl [1, 2, 3, 4, 0] rfl, hW, ⟨hmo, Nat.zero_le _, fun z => absurd z (Nat.lt_irrefl _)⟩⟩
      clear hW hl
      rintro ⟨ms, b⟩ H locs g ⟨ls, rfl, hl, hW, hm, hba, hb3⟩ ih_41
      dsimp only at hl hW hm hba hb3 ⊢
      have hms := lpI_le (r := j_13) hF.ok (show a < nM (S 0) by omega) (lpO_le (r := j_13) hF.ok a (by omega)) (Nat.le_refl _) b (by omega)
      rw [← hm] at hms
      refine lv_iload hx hb dX10_longestPath_41 (lv_at hl 4 rfl) ?_
      refine lv_iload hx hb dX10_longestPath_43 (lv_at hl 3 rfl) ?_
      refine r_gtN hx hb (a := b) (b := a) (by omega) (by omega) (tgt := 91) dX10_longestPath_45 (by decide) (fun c_45 => ?_) (fun c_45 => ?_)
      · refine lv_iinc (v := (nI (a + 1))) (lv' := [(4, .int (nI (a + 1))), (0, .ref (ad 0)), (2, .int (nI j_13)), (3, .int (nI ms)), (5, .int (nI b))]) hx hb dX10_longestPath_91 hl (k := 3) rfl (nI_1 _) (by decide) rfl (fun ls hl => ?_)
        refine lv_goto (tgt := 27) hx hb dX10_longestPath_94 (by decide) ?_
        exact ih_27 (ms, (a + 1)) _ _ _ (by dsimp only; omega) ⟨_, rfl, lv_sub hl [1, 2, 3, 0] rfl, hW, ⟨by rw [lpO, if_pos (hb3 (by omega)), hm, show b = a + 1 by omega], by (try dsimp only); omega⟩⟩
      · refine lv_aload_n hx hb dX10_longestPath_48 rfl (lv_at hl 0 rfl) ?_
        refine lv_iload hx hb dX10_longestPath_49 (lv_at hl 3 rfl) ?_
        refine lv_iload_n hx hb dX10_longestPath_51 rfl (lv_at hl 1 rfl) ?_
        refine md_callg C hml hl.1 (As := [.int (nI a), .int (nI j_13)]) (rest := []) (m_isIn l D aT ad (ss S 8 (nI 0)) (nM (S 0)) (idM (S 0)) (prM (S 0)) (tnM (S 0)) hF a j_13 (by omega) (hq0)) gT_isIn hd_isIn rfl ⟨Nat.le_of_ble_eq_true rfl, Nat.le_of_ble_eq_true rfl⟩ ⟨Nat.le_refl _, Nat.le_refl _⟩ hW hA rfl (Nat.le_of_ble_eq_true rfl) dX10_longestPath_52 (fun r_52 H locs hq hW => ?_)
        subst hq
        refine r_bI_eq hx hb (b := (anc (prM (S 0)) j_13 a)) (tgt := 91) dX10_longestPath_55 (by decide) (fun c_55 => ?_) (fun c_55 => ?_)
        · refine lv_iinc (v := (nI (a + 1))) (lv' := [(4, .int (nI (a + 1))), (0, .ref (ad 0)), (2, .int (nI j_13)), (3, .int (nI ms)), (5, .int (nI b))]) hx hb dX10_longestPath_91 hl (k := 3) rfl (nI_1 _) (by decide) rfl (fun ls hl => ?_)
          refine lv_goto (tgt := 27) hx hb dX10_longestPath_94 (by decide) ?_
          exact ih_27 (ms, (a + 1)) _ _ _ (by dsimp only; omega) ⟨_, rfl, lv_sub hl [1, 2, 3, 0] rfl, hW, ⟨by rw [lpO, if_neg (by rw [c_55]; decide), hm, show b = 0 from (by rcases Nat.eq_zero_or_pos b with z | z; exact z; exact absurd (hb3 z) (by rw [c_55]; decide))]; rfl, by (try dsimp only); omega⟩⟩
        · refine lv_iload_n hx hb dX10_longestPath_58 rfl (lv_at hl 2 rfl) ?_
          refine lv_aload_n hx hb dX10_longestPath_59 rfl (lv_at hl 0 rfl) ?_
          refine lv_iload hx hb dX10_longestPath_60 (lv_at hl 4 rfl) ?_
          refine lv_iload_n hx hb dX10_longestPath_62 rfl (lv_at hl 1 rfl) ?_
          refine md_callg C hml hl.1 (As := [.int (nI b), .int (nI j_13)]) (rest := [.int (nI ms)]) (m_isIn l D aT ad (ss S 8 (nI 0)) (nM (S 0)) (idM (S 0)) (prM (S 0)) (tnM (S 0)) hF b j_13 (by omega) (hq0)) gT_isIn hd_isIn rfl ⟨Nat.le_of_ble_eq_true rfl, Nat.le_of_ble_eq_true rfl⟩ ⟨Nat.le_refl _, Nat.le_refl _⟩ hW hA rfl (Nat.le_of_ble_eq_true rfl) dX10_longestPath_63 (fun r_63 H locs hq hW => ?_)
          subst hq
          refine r_bI_eq hx hb (b := (anc (prM (S 0)) j_13 b)) (tgt := 80) dX10_longestPath_66 (by decide) (fun c_66 => ?_) (fun c_66 => ?_)
          · refine lv_iconst (v := nI 0) hx hb dX10_longestPath_80 (by decide) ?_
            refine md_max C hml hl.1 gk_max ⟨Nat.le_of_ble_eq_true rfl, Nat.le_of_ble_eq_true rfl, Nat.le_of_ble_eq_true rfl⟩ ⟨Nat.le_refl _, Nat.le_refl _⟩ dX10_longestPath_81 ?_
            refine r_eq (y := (nI (max ms 0))) (max_nI (by omega) (by have := stN_le hF.ok (show a < nM (S 0) by omega) (show b < nM (S 0) by omega); omega)) ?_
            refine lv_istore_n (lv' := [(3, .int (nI (max ms 0))), (0, .ref (ad 0)), (2, .int (nI j_13)), (4, .int (nI a)), (5, .int (nI b))]) hx hb dX10_longestPath_84 rfl hl (by decide) rfl (fun ls hl => ?_)
            refine lv_iinc (v := (nI (b + 1))) (lv' := [(5, .int (nI (b + 1))), (3, .int (nI (max ms 0))), (0, .ref (ad 0)), (2, .int (nI j_13)), (4, .int (nI a))]) hx hb dX10_longestPath_85 hl (k := 4) rfl (nI_1 _) (by decide) rfl (fun ls hl => ?_)
            refine lv_goto (tgt := 41) hx hb dX10_longestPath_88 (by decide) ?_
            exact ih_41 ((max ms 0), (b + 1)) _ _ _ (by dsimp only; omega) ⟨_, rfl, lv_sub hl [2, 3, 1, 4, 0] rfl, hW, ⟨by rw [lpI, if_neg (by rw [c_66]; decide), ← hm], by (try dsimp only); omega, fun _ => c_55⟩⟩
          · refine lv_aload_n hx hb dX10_longestPath_69 rfl (lv_at hl 0 rfl) ?_
            refine lv_iload hx hb dX10_longestPath_70 (lv_at hl 3 rfl) ?_
            refine lv_iload hx hb dX10_longestPath_72 (lv_at hl 4 rfl) ?_
            obtain ⟨kc, hkc⟩ := cmF_ex (n := nM (S 0)) c_55 c_66 hq0
            refine md_callg C hml hl.1 (As := [.int (nI a), .int (nI b)]) (rest := [.int (nI ms)]) (m_steps l D aT ad (ss S 8 (nI 0)) (nM (S 0)) (idM (S 0)) (prM (S 0)) (tnM (S 0)) hF a b kc (show a < nM (S 0) by omega) (show b < nM (S 0) by omega) hkc) gT_steps hd_steps rfl ⟨Nat.le_of_ble_eq_true rfl, Nat.le_of_ble_eq_true rfl⟩ ⟨Nat.le_refl _, Nat.le_refl _⟩ hW hA rfl (Nat.le_of_ble_eq_true rfl) dX10_longestPath_74 (fun r_74 H locs hq hW => ?_)
            subst hq
            refine lv_goto (tgt := 81) hx hb dX10_longestPath_77 (by decide) ?_
            refine md_max C hml hl.1 gk_max ⟨Nat.le_of_ble_eq_true rfl, Nat.le_of_ble_eq_true rfl, Nat.le_of_ble_eq_true rfl⟩ ⟨Nat.le_refl _, Nat.le_refl _⟩ dX10_longestPath_81 ?_
            refine r_eq (y := (nI (max ms (stN (prM (S 0)) (nM (S 0)) a b)))) (max_nI (by omega) (by have := stN_le hF.ok (show a < nM (S 0) by omega) (show b < nM (S 0) by omega); omega)) ?_
            refine lv_istore_n (lv' := [(3, .int (nI (max ms (stN (prM (S 0)) (nM (S 0)) a b)))), (0, .ref (ad 0)), (2, .int (nI j_13)), (4, .int (nI a)), (5, .int (nI b))]) hx hb dX10_longestPath_84 rfl hl (by decide) rfl (fun ls hl => ?_)
            refine lv_iinc (v := (nI (b + 1))) (lv' := [(5, .int (nI (b + 1))), (3, .int (nI (max ms (stN (prM (S 0)) (nM (S 0)) a b)))), (0, .ref (ad 0)), (2, .int (nI j_13)), (4, .int (nI a))]) hx hb dX10_longestPath_85 hl (k := 4) rfl (nI_1 _) (by decide) rfl (fun ls hl => ?_)
            refine lv_goto (tgt := 41) hx hb dX10_longestPath_88 (by decide) ?_
            exact ih_41 ((max ms (stN (prM (S 0)) (nM (S 0)) a b)), (b + 1)) _ _ _ (by dsimp only; omega) ⟨_, rfl, lv_sub hl [2, 3, 1, 4, 0] rfl, hW, ⟨by rw [lpI, if_pos c_66, ← hm], by (try dsimp only); omega, fun _ => c_55⟩⟩
  · have hl : lv_has ls 6 [(2, .int (-1)), (0, .ref (ad 0)), (1, .int x)] := by rw [c_13] at hl; exact hl
    refine lv_aload_n hx hb dX10_longestPath_16 rfl (lv_at hl 1 rfl) ?_
    refine lv_iconst (v := nI 1) hx hb dX10_longestPath_17 (by decide) ?_
    refine md_calli C hml hl.1 (As := [.int (nI 1)]) (rest := []) (m_throwing l D aT ad (ss S 8 (nI 0)) 1) gT_throwing hd_throwing rfl ⟨Nat.le_of_ble_eq_true rfl, Nat.le_of_ble_eq_true rfl⟩ ⟨Nat.le_refl _, Nat.le_refl _⟩ hW hA rfl (Nat.le_of_ble_eq_true rfl) dX10_longestPath_18 (fun r_18 S_18 H locs hq hW => ?_)
    obtain ⟨rfl, rfl⟩ := hq
    exact md_iret C hr hlocks rfl hW (Or.inl ⟨c_13, rfl, ss_ss _ _ _ _⟩) dX10_longestPath_21
theorem dX10_longestPathBySweeps_0 : decode cX10_longestPathBySweeps 0 = .ok (.aload_n 0, 1) := by decide +kernel
theorem dX10_longestPathBySweeps_1 : decode cX10_longestPathBySweeps 1 = .ok (.iload_n 1, 1) := by decide +kernel
theorem dX10_longestPathBySweeps_2 : decode cX10_longestPathBySweeps 2 = .ok (.invokevirtual 187, 3) := by decide +kernel
theorem dX10_longestPathBySweeps_5 : decode cX10_longestPathBySweeps 5 = .ok (.ireturn, 1) := by decide +kernel
set_option maxHeartbeats 1000000 in
set_option maxRecDepth 20000 in
theorem m_longestPathBySweeps (l : Launch) (D : va_G) (aT : Nat → ClassId) (ad : Nat → Nat) (S : MSt) (x : Int32) (hF : FoW (S 0)) : MdI l yX10_longestPathBySweeps cX10_longestPathBySweeps 2 .int 7 159 D aT ad [.ref (ad 0), .int x] S (fun r S1 => (fnd (fun k => S 0 (29 + 4 * k)) x (nM (S 0)) = none ∧ r = -1 ∧ S1 = ss S 8 (nI 1)) ∨ (∃ q, fnd (fun k => S 0 (29 + 4 * k)) x (nM (S 0)) = some q ∧ r = nI (lpO (prM (S 0)) (nM (S 0)) q (nM (S 0)) + 1) ∧ S1 = ss S 8 (nI 0))) := by
  refine MdI.of (by decide +kernel) rfl (Nat.le_of_ble_eq_true rfl) ?_
  intro p e s m below meth c A ls C hml hl hA hr hlocks hW
  have hl : lv_has ls 2 [(0, .ref (ad 0)), (1, .int x)] := hl
  have hx := C.1
  have hb := C.2.1
  refine lv_aload_n hx hb dX10_longestPathBySweeps_0 rfl (lv_at hl 0 rfl) ?_
  refine lv_iload_n hx hb dX10_longestPathBySweeps_1 rfl (lv_at hl 1 rfl) ?_
  refine md_calli C hml hl.1 (As := [.int x]) (rest := []) (m_longestPath l D aT ad S (x) hF) gT_longestPath hd_longestPath rfl ⟨Nat.le_of_ble_eq_true rfl, Nat.le_of_ble_eq_true rfl⟩ ⟨Nat.le_refl _, Nat.le_refl _⟩ hW hA rfl (Nat.le_of_ble_eq_true rfl) dX10_longestPathBySweeps_2 (fun r_2 S_2 H locs hq hW => ?_)
  rcases hq with ⟨h1, rfl, rfl⟩ | ⟨q, h1, rfl, rfl⟩
  · exact md_iret C hr hlocks rfl hW (Or.inl ⟨h1, rfl, rfl⟩) dX10_longestPathBySweeps_5
  · exact md_iret C hr hlocks rfl hW (Or.inr ⟨q, h1, rfl, rfl⟩) dX10_longestPathBySweeps_5
theorem gT_measures : GoodIn gw (wsV RX10 196 RX10 yX10_measures (Cond.code yX10_measures cX10_measures 5 (none) :: gw)) := gdV gw_1948 gw_1950 gw_51 gw_81 gw_1951
theorem hd_measures : yX10_measures.cls = RX10 ∧ yX10_measures.cls ≠ "java/lang/invoke/MethodHandle" ∧ yX10_measures.cls ≠ "java/lang/invoke/VarHandle" ∧ (parseMethodDescriptor yX10_measures.desc).map (fun d => d.parameters.length) = some 0 := ⟨rfl, by decide +kernel, by decide +kernel, by decide +kernel⟩
theorem dX10_measures_0 : decode cX10_measures 0 = .ok (.aload_n 0, 1) := by decide +kernel
theorem dX10_measures_1 : decode cX10_measures 1 = .ok (.iconst 0, 1) := by decide +kernel
theorem dX10_measures_2 : decode cX10_measures 2 = .ok (.putfield 190, 3) := by decide +kernel
theorem dX10_measures_5 : decode cX10_measures 5 = .ok (.aload_n 0, 1) := by decide +kernel
theorem dX10_measures_6 : decode cX10_measures 6 = .ok (.iconst 1, 1) := by decide +kernel
theorem dX10_measures_7 : decode cX10_measures 7 = .ok (.putfield 193, 3) := by decide +kernel
theorem dX10_measures_10 : decode cX10_measures 10 = .ok (.iconst 0, 1) := by decide +kernel
theorem dX10_measures_11 : decode cX10_measures 11 = .ok (.istore_n 1, 1) := by decide +kernel
theorem dX10_measures_12 : decode cX10_measures 12 = .ok (.iload_n 1, 1) := by decide +kernel
theorem dX10_measures_13 : decode cX10_measures 13 = .ok (.aload_n 0, 1) := by decide +kernel
theorem dX10_measures_14 : decode cX10_measures 14 = .ok (.getfield 9, 3) := by decide +kernel
theorem dX10_measures_17 : decode cX10_measures 17 = .ok (.iconst 2, 1) := by decide +kernel
theorem dX10_measures_18 : decode cX10_measures 18 = .ok (.iaload, 1) := by decide +kernel
theorem dX10_measures_19 : decode cX10_measures 19 = .ok (.if_icmp .ge 42, 3) := by decide +kernel
theorem dX10_measures_22 : decode cX10_measures 22 = .ok (.aload_n 0, 1) := by decide +kernel
theorem dX10_measures_23 : decode cX10_measures 23 = .ok (.getfield 32, 3) := by decide +kernel
theorem dX10_measures_26 : decode cX10_measures 26 = .ok (.iload_n 1, 1) := by decide +kernel
theorem dX10_measures_27 : decode cX10_measures 27 = .ok (.aload_n 0, 1) := by decide +kernel
theorem dX10_measures_28 : decode cX10_measures 28 = .ok (.iload_n 1, 1) := by decide +kernel
theorem dX10_measures_29 : decode cX10_measures 29 = .ok (.iconst 3, 1) := by decide +kernel
theorem dX10_measures_30 : decode cX10_measures 30 = .ok (.invokevirtual 67, 3) := by decide +kernel
theorem dX10_measures_33 : decode cX10_measures 33 = .ok (.iastore, 1) := by decide +kernel
theorem dX10_measures_34 : decode cX10_measures 34 = .ok (.aload_n 0, 1) := by decide +kernel
theorem dX10_measures_35 : decode cX10_measures 35 = .ok (.getfield 35, 3) := by decide +kernel
theorem dX10_measures_38 : decode cX10_measures 38 = .ok (.iload_n 1, 1) := by decide +kernel
theorem dX10_measures_39 : decode cX10_measures 39 = .ok (.iconst 0, 1) := by decide +kernel
theorem dX10_measures_40 : decode cX10_measures 40 = .ok (.iastore, 1) := by decide +kernel
theorem dX10_measures_41 : decode cX10_measures 41 = .ok (.aload_n 0, 1) := by decide +kernel
theorem dX10_measures_42 : decode cX10_measures 42 = .ok (.getfield 38, 3) := by decide +kernel
theorem dX10_measures_45 : decode cX10_measures 45 = .ok (.iload_n 1, 1) := by decide +kernel
theorem dX10_measures_46 : decode cX10_measures 46 = .ok (.iconst 1, 1) := by decide +kernel
theorem dX10_measures_47 : decode cX10_measures 47 = .ok (.iastore, 1) := by decide +kernel
theorem dX10_measures_48 : decode cX10_measures 48 = .ok (.aload_n 0, 1) := by decide +kernel
theorem dX10_measures_49 : decode cX10_measures 49 = .ok (.getfield 41, 3) := by decide +kernel
theorem dX10_measures_52 : decode cX10_measures 52 = .ok (.iload_n 1, 1) := by decide +kernel
theorem dX10_measures_53 : decode cX10_measures 53 = .ok (.iconst 1, 1) := by decide +kernel
theorem dX10_measures_54 : decode cX10_measures 54 = .ok (.iastore, 1) := by decide +kernel
theorem dX10_measures_55 : decode cX10_measures 55 = .ok (.iinc 1 1, 3) := by decide +kernel
theorem dX10_measures_58 : decode cX10_measures 58 = .ok (.goto (-46), 3) := by decide +kernel
theorem dX10_measures_61 : decode cX10_measures 61 = .ok (.aload_n 0, 1) := by decide +kernel
theorem dX10_measures_62 : decode cX10_measures 62 = .ok (.getfield 9, 3) := by decide +kernel
theorem dX10_measures_65 : decode cX10_measures 65 = .ok (.iconst 2, 1) := by decide +kernel
theorem dX10_measures_66 : decode cX10_measures 66 = .ok (.iaload, 1) := by decide +kernel
theorem dX10_measures_67 : decode cX10_measures 67 = .ok (.iconst 1, 1) := by decide +kernel
theorem dX10_measures_68 : decode cX10_measures 68 = .ok (.isub, 1) := by decide +kernel
theorem dX10_measures_69 : decode cX10_measures 69 = .ok (.istore_n 1, 1) := by decide +kernel
theorem dX10_measures_70 : decode cX10_measures 70 = .ok (.iload_n 1, 1) := by decide +kernel
theorem dX10_measures_71 : decode cX10_measures 71 = .ok (.ifCond .lt 129, 3) := by decide +kernel
theorem dX10_measures_74 : decode cX10_measures 74 = .ok (.aload_n 0, 1) := by decide +kernel
theorem dX10_measures_75 : decode cX10_measures 75 = .ok (.getfield 32, 3) := by decide +kernel
theorem dX10_measures_78 : decode cX10_measures 78 = .ok (.iload_n 1, 1) := by decide +kernel
theorem dX10_measures_79 : decode cX10_measures 79 = .ok (.iaload, 1) := by decide +kernel
theorem dX10_measures_80 : decode cX10_measures 80 = .ok (.aload_n 0, 1) := by decide +kernel
theorem dX10_measures_81 : decode cX10_measures 81 = .ok (.getfield 35, 3) := by decide +kernel
theorem dX10_measures_84 : decode cX10_measures 84 = .ok (.iload_n 1, 1) := by decide +kernel
theorem dX10_measures_85 : decode cX10_measures 85 = .ok (.iaload, 1) := by decide +kernel
theorem dX10_measures_86 : decode cX10_measures 86 = .ok (.invokestatic 138, 3) := by decide +kernel
theorem dX10_measures_89 : decode cX10_measures 89 = .ok (.istore_n 2, 1) := by decide +kernel
theorem dX10_measures_90 : decode cX10_measures 90 = .ok (.aload_n 0, 1) := by decide +kernel
theorem dX10_measures_91 : decode cX10_measures 91 = .ok (.getfield 38, 3) := by decide +kernel
theorem dX10_measures_94 : decode cX10_measures 94 = .ok (.iload_n 1, 1) := by decide +kernel
theorem dX10_measures_95 : decode cX10_measures 95 = .ok (.iaload, 1) := by decide +kernel
theorem dX10_measures_96 : decode cX10_measures 96 = .ok (.aload_n 0, 1) := by decide +kernel
theorem dX10_measures_97 : decode cX10_measures 97 = .ok (.getfield 41, 3) := by decide +kernel
theorem dX10_measures_100 : decode cX10_measures 100 = .ok (.iload_n 1, 1) := by decide +kernel
theorem dX10_measures_101 : decode cX10_measures 101 = .ok (.iaload, 1) := by decide +kernel
theorem dX10_measures_102 : decode cX10_measures 102 = .ok (.iadd, 1) := by decide +kernel
theorem dX10_measures_103 : decode cX10_measures 103 = .ok (.istore_n 3, 1) := by decide +kernel
theorem dX10_measures_104 : decode cX10_measures 104 = .ok (.aload_n 0, 1) := by decide +kernel
theorem dX10_measures_105 : decode cX10_measures 105 = .ok (.iload_n 1, 1) := by decide +kernel
theorem dX10_measures_106 : decode cX10_measures 106 = .ok (.invokevirtual 75, 3) := by decide +kernel
theorem dX10_measures_109 : decode cX10_measures 109 = .ok (.istore 4, 2) := by decide +kernel
theorem dX10_measures_111 : decode cX10_measures 111 = .ok (.iload 4, 2) := by decide +kernel
theorem dX10_measures_113 : decode cX10_measures 113 = .ok (.iconst (-1), 1) := by decide +kernel
theorem dX10_measures_114 : decode cX10_measures 114 = .ok (.if_icmp .ne 26, 3) := by decide +kernel
theorem dX10_measures_117 : decode cX10_measures 117 = .ok (.aload_n 0, 1) := by decide +kernel
theorem dX10_measures_118 : decode cX10_measures 118 = .ok (.dup, 1) := by decide +kernel
theorem dX10_measures_119 : decode cX10_measures 119 = .ok (.getfield 190, 3) := by decide +kernel
theorem dX10_measures_122 : decode cX10_measures 122 = .ok (.iload_n 2, 1) := by decide +kernel
theorem dX10_measures_123 : decode cX10_measures 123 = .ok (.iadd, 1) := by decide +kernel
theorem dX10_measures_124 : decode cX10_measures 124 = .ok (.putfield 190, 3) := by decide +kernel
theorem dX10_measures_127 : decode cX10_measures 127 = .ok (.aload_n 0, 1) := by decide +kernel
theorem dX10_measures_128 : decode cX10_measures 128 = .ok (.dup, 1) := by decide +kernel
theorem dX10_measures_129 : decode cX10_measures 129 = .ok (.getfield 193, 3) := by decide +kernel
theorem dX10_measures_132 : decode cX10_measures 132 = .ok (.iload_n 3, 1) := by decide +kernel
theorem dX10_measures_133 : decode cX10_measures 133 = .ok (.imul, 1) := by decide +kernel
theorem dX10_measures_134 : decode cX10_measures 134 = .ok (.putfield 193, 3) := by decide +kernel
theorem dX10_measures_137 : decode cX10_measures 137 = .ok (.goto 57, 3) := by decide +kernel
theorem dX10_measures_140 : decode cX10_measures 140 = .ok (.aload_n 0, 1) := by decide +kernel
theorem dX10_measures_141 : decode cX10_measures 141 = .ok (.getfield 32, 3) := by decide +kernel
theorem dX10_measures_144 : decode cX10_measures 144 = .ok (.iload 4, 2) := by decide +kernel
theorem dX10_measures_146 : decode cX10_measures 146 = .ok (.dup2, 1) := by decide +kernel
theorem dX10_measures_147 : decode cX10_measures 147 = .ok (.iaload, 1) := by decide +kernel
theorem dX10_measures_148 : decode cX10_measures 148 = .ok (.aload_n 0, 1) := by decide +kernel
theorem dX10_measures_149 : decode cX10_measures 149 = .ok (.getfield 35, 3) := by decide +kernel
theorem dX10_measures_152 : decode cX10_measures 152 = .ok (.iload_n 1, 1) := by decide +kernel
theorem dX10_measures_153 : decode cX10_measures 153 = .ok (.iaload, 1) := by decide +kernel
theorem dX10_measures_154 : decode cX10_measures 154 = .ok (.iadd, 1) := by decide +kernel
theorem dX10_measures_155 : decode cX10_measures 155 = .ok (.iastore, 1) := by decide +kernel
theorem dX10_measures_156 : decode cX10_measures 156 = .ok (.aload_n 0, 1) := by decide +kernel
theorem dX10_measures_157 : decode cX10_measures 157 = .ok (.getfield 35, 3) := by decide +kernel
theorem dX10_measures_160 : decode cX10_measures 160 = .ok (.iload 4, 2) := by decide +kernel
theorem dX10_measures_162 : decode cX10_measures 162 = .ok (.dup2, 1) := by decide +kernel
theorem dX10_measures_163 : decode cX10_measures 163 = .ok (.iaload, 1) := by decide +kernel
theorem dX10_measures_164 : decode cX10_measures 164 = .ok (.iload_n 2, 1) := by decide +kernel
theorem dX10_measures_165 : decode cX10_measures 165 = .ok (.iadd, 1) := by decide +kernel
theorem dX10_measures_166 : decode cX10_measures 166 = .ok (.iastore, 1) := by decide +kernel
theorem dX10_measures_167 : decode cX10_measures 167 = .ok (.aload_n 0, 1) := by decide +kernel
theorem dX10_measures_168 : decode cX10_measures 168 = .ok (.getfield 38, 3) := by decide +kernel
theorem dX10_measures_171 : decode cX10_measures 171 = .ok (.iload 4, 2) := by decide +kernel
theorem dX10_measures_173 : decode cX10_measures 173 = .ok (.dup2, 1) := by decide +kernel
theorem dX10_measures_174 : decode cX10_measures 174 = .ok (.iaload, 1) := by decide +kernel
theorem dX10_measures_175 : decode cX10_measures 175 = .ok (.aload_n 0, 1) := by decide +kernel
theorem dX10_measures_176 : decode cX10_measures 176 = .ok (.getfield 41, 3) := by decide +kernel
theorem dX10_measures_179 : decode cX10_measures 179 = .ok (.iload_n 1, 1) := by decide +kernel
theorem dX10_measures_180 : decode cX10_measures 180 = .ok (.iaload, 1) := by decide +kernel
theorem dX10_measures_181 : decode cX10_measures 181 = .ok (.imul, 1) := by decide +kernel
theorem dX10_measures_182 : decode cX10_measures 182 = .ok (.iastore, 1) := by decide +kernel
theorem dX10_measures_183 : decode cX10_measures 183 = .ok (.aload_n 0, 1) := by decide +kernel
theorem dX10_measures_184 : decode cX10_measures 184 = .ok (.getfield 41, 3) := by decide +kernel
theorem dX10_measures_187 : decode cX10_measures 187 = .ok (.iload 4, 2) := by decide +kernel
theorem dX10_measures_189 : decode cX10_measures 189 = .ok (.dup2, 1) := by decide +kernel
theorem dX10_measures_190 : decode cX10_measures 190 = .ok (.iaload, 1) := by decide +kernel
theorem dX10_measures_191 : decode cX10_measures 191 = .ok (.iload_n 3, 1) := by decide +kernel
theorem dX10_measures_192 : decode cX10_measures 192 = .ok (.imul, 1) := by decide +kernel
theorem dX10_measures_193 : decode cX10_measures 193 = .ok (.iastore, 1) := by decide +kernel
theorem dX10_measures_194 : decode cX10_measures 194 = .ok (.iinc 1 (-1), 3) := by decide +kernel
theorem dX10_measures_197 : decode cX10_measures 197 = .ok (.goto (-127), 3) := by decide +kernel
theorem dX10_measures_200 : decode cX10_measures 200 = .ok (.return_, 1) := by decide +kernel
set_option maxHeartbeats 4000000 in
set_option maxRecDepth 20000 in
theorem m_measures (l : Launch) (D : va_G) (aT : Nat → ClassId) (ad : Nat → Nat) (S : MSt) (hF : FoW (S 0)) : MdV l yX10_measures cX10_measures 5 3 65 D aT ad [.ref (ad 0)] S (fun S1 => S1 = meaT S (meaR S)) := by
  refine MdV.of (by decide +kernel) rfl (Nat.le_of_ble_eq_true rfl) ?_
  intro p e s m below meth c A ls C hml hl hA hr hlocks hW
  have hl : lv_has ls 5 [(0, .ref (ad 0))] := hl
  have hx := C.1
  have hb := C.2.1
  refine lv_aload_n hx hb dX10_measures_0 rfl (lv_at hl 0 rfl) ?_
  refine lv_iconst (v := nI 0) hx hb dX10_measures_1 (by decide) ?_
  refine md_put_worthAll C hW dX10_measures_2 (fun H locs hW => ?_)
  refine lv_aload_n hx hb dX10_measures_5 rfl (lv_at hl 0 rfl) ?_
  refine lv_iconst (v := nI 1) hx hb dX10_measures_6 (by decide) ?_
  refine md_put_setsAll C hW dX10_measures_7 (fun H locs hW => ?_)
  refine lv_iconst (v := nI 0) hx hb dX10_measures_10 (by decide) ?_
  refine lv_istore_n (lv' := [(1, .int (nI 0)), (0, .ref (ad 0))]) hx hb dX10_measures_11 rfl hl (by decide) rfl (fun ls hl => ?_)
  refine W_loopH (σ := Nat) (fun z_ => nM (S 0) - z_) (fun z_ H locs g => ∃ ls, g = F0 m 12 ls [] ∧ lv_has ls 5 [(0, .ref (ad 0)), (1, .int (nI z_))] ∧ MdB D aT ad (stT S (cpyF (S 5) (fun j => S 0 (29 + 4 * j + 3)) z_) (cpyF (S 6) (fun _ => nI 0) z_) (cpyF (S 7) (fun _ => nI 1) z_) (cpyF (S 8) (fun _ => nI 1) z_) (nI 0) (nI 1)) A s.heap H locs ∧ (z_ ≤ nM (S 0))) ?_ 0 _ ⟨_, rfl, lv_sub hl [1, 0] rfl, (by rw [cpyF_0, cpyF_0, cpyF_0, cpyF_0, ← stT_0]; exact hW), Nat.zero_le _⟩
  clear hW hl
  rintro k H locs g ⟨ls, rfl, hl, hW, hk⟩ ih_12
  have h12 := hF.n12
  refine lv_iload_n hx hb dX10_measures_12 rfl (lv_at hl 1 rfl) ?_
  refine lv_aload_n hx hb dX10_measures_13 rfl (lv_at hl 0 rfl) ?_
  refine md_geta_m C hW dX10_measures_14 ?_
  refine lv_iconst (v := nI 2) hx hb dX10_measures_17 (by decide) ?_
  refine md_ald_m C hW (i := 2) (by omega) dX10_measures_18 ?_
  refine r_eq (y := (nI (nM (S 0)))) (hF.1) ?_
  refine r_geN hx hb (a := k) (b := (nM (S 0))) (by omega) (by omega) (tgt := 61) dX10_measures_19 (by decide) (fun c_19 => ?_) (fun c_19 => ?_)
  · refine lv_aload_n hx hb dX10_measures_61 rfl (lv_at hl 0 rfl) ?_
    refine md_geta_m C hW dX10_measures_62 ?_
    refine lv_iconst (v := nI 2) hx hb dX10_measures_65 (by decide) ?_
    refine md_ald_m C hW (i := 2) (by omega) dX10_measures_66 ?_
    refine r_eq (y := (nI (nM (S 0)))) (hF.1) ?_
    refine lv_iconst (v := nI 1) hx hb dX10_measures_67 (by decide) ?_
    refine lv_isub hx hb dX10_measures_68 ?_
    refine lv_istore_n (lv' := [(1, .int (nI (nM (S 0)) - nI 1)), (0, .ref (ad 0))]) hx hb dX10_measures_69 rfl hl (by decide) rfl (fun ls hl => ?_)
    refine W_loopH (σ := (Nat → Int32) × (Nat → Int32) × (Nat → Int32) × (Nat → Int32) × Int32 × Int32 × Nat) (fun z_ => z_.2.2.2.2.2.2) (fun z_ H locs g => ∃ ls, g = F0 m 70 ls [] ∧ lv_has ls 5 [(0, .ref (ad 0)), (1, .int (nI z_.2.2.2.2.2.2 - nI 1))] ∧ MdB D aT ad (stT S z_.1 z_.2.1 z_.2.2.1 z_.2.2.2.1 z_.2.2.2.2.1 z_.2.2.2.2.2.1) A s.heap H locs ∧ (meaD (S 0) z_.2.2.2.2.2.2 (z_.1, z_.2.1, z_.2.2.1, z_.2.2.2.1, z_.2.2.2.2.1, z_.2.2.2.2.2.1) = meaR S ∧ z_.2.2.2.2.2.2 ≤ nM (S 0))) ?_ ((cpyF (S 5) (fun j => S 0 (29 + 4 * j + 3)) (nM (S 0))), (cpyF (S 6) (fun _ => nI 0) (nM (S 0))), (cpyF (S 7) (fun _ => nI 1) (nM (S 0))), (cpyF (S 8) (fun _ => nI 1) (nM (S 0))), (nI 0), (nI 1), (nM (S 0))) _ ⟨_, rfl, lv_sub hl [1, 0] rfl, (by rw [show k = nM (S 0) by omega] at hW; exact hW), ⟨rfl, Nat.le_refl _⟩⟩
    clear hW hl
    rintro ⟨w, wo, sw, so, wa, sa, i⟩ H locs g ⟨ls, rfl, hl, hW, he, hin⟩ ih_70
    dsimp only at hl hW he hin ⊢
    have h12 := hF.n12
    refine lv_iload_n hx hb dX10_measures_70 rfl (lv_at hl 1 rfl) ?_
    refine r_ifltD hx hb (a := i) (b := 1) (by omega) (by omega) (tgt := 200) dX10_measures_71 (by decide) (fun c_71 => ?_) (fun c_71 => ?_)
    · exact md_vret C hr hlocks hW (by rw [← he, show i = 0 by omega]; rfl) dX10_measures_200
    · obtain ⟨i, rfl⟩ : ∃ i2, i = i2 + 1 := ⟨i - 1, by omega⟩
      rw [pk_sub (by omega)] at hl
      have hl : lv_has ls 5 [(0, .ref (ad 0)), (1, .int (nI i))] := hl
      refine lv_aload_n hx hb dX10_measures_74 rfl (lv_at hl 0 rfl) ?_
      refine md_geta_with C hW dX10_measures_75 ?_
      refine lv_iload_n hx hb dX10_measures_78 rfl (lv_at hl 1 rfl) ?_
      refine md_ald_with C hW (i := i) (by omega) dX10_measures_79 ?_
      refine r_eq (y := (w i)) (rfl) ?_
      refine lv_aload_n hx hb dX10_measures_80 rfl (lv_at hl 0 rfl) ?_
      refine md_geta_without C hW dX10_measures_81 ?_
      refine lv_iload_n hx hb dX10_measures_84 rfl (lv_at hl 1 rfl) ?_
      refine md_ald_without C hW (i := i) (by omega) dX10_measures_85 ?_
      refine r_eq (y := (wo i)) (rfl) ?_
      refine md_max C hml hl.1 gk_max ⟨Nat.le_of_ble_eq_true rfl, Nat.le_of_ble_eq_true rfl, Nat.le_of_ble_eq_true rfl⟩ ⟨Nat.le_refl _, Nat.le_refl _⟩ dX10_measures_86 ?_
      refine r_eq (y := (mxF (w i) (wo i))) (rfl) ?_
      refine lv_istore_n (lv' := [(2, .int (mxF (w i) (wo i))), (0, .ref (ad 0)), (1, .int (nI i))]) hx hb dX10_measures_89 rfl hl (by decide) rfl (fun ls hl => ?_)
      refine lv_aload_n hx hb dX10_measures_90 rfl (lv_at hl 1 rfl) ?_
      refine md_geta_setsWith C hW dX10_measures_91 ?_
      refine lv_iload_n hx hb dX10_measures_94 rfl (lv_at hl 2 rfl) ?_
      refine md_ald_setsWith C hW (i := i) (by omega) dX10_measures_95 ?_
      refine r_eq (y := (sw i)) (rfl) ?_
      refine lv_aload_n hx hb dX10_measures_96 rfl (lv_at hl 1 rfl) ?_
      refine md_geta_setsWithout C hW dX10_measures_97 ?_
      refine lv_iload_n hx hb dX10_measures_100 rfl (lv_at hl 2 rfl) ?_
      refine md_ald_setsWithout C hW (i := i) (by omega) dX10_measures_101 ?_
      refine r_eq (y := (so i)) (rfl) ?_
      refine lv_iadd hx hb dX10_measures_102 ?_
      refine lv_istore_n (lv' := [(3, .int ((sw i) + (so i))), (2, .int (mxF (w i) (wo i))), (0, .ref (ad 0)), (1, .int (nI i))]) hx hb dX10_measures_103 rfl hl (by decide) rfl (fun ls hl => ?_)
      refine lv_aload_n hx hb dX10_measures_104 rfl (lv_at hl 2 rfl) ?_
      refine lv_iload_n hx hb dX10_measures_105 rfl (lv_at hl 3 rfl) ?_
      refine md_callg C hml hl.1 (As := [.int (nI i)]) (rest := []) (m_above l D aT ad (stT S w wo sw so wa sa) (nM (S 0)) (idM (S 0)) (prM (S 0)) (tnM (S 0)) hF i (show i < nM (S 0) by omega)) gT_above hd_above rfl ⟨Nat.le_of_ble_eq_true rfl, Nat.le_of_ble_eq_true rfl⟩ ⟨Nat.le_refl _, Nat.le_refl _⟩ hW hA rfl (Nat.le_of_ble_eq_true rfl) dX10_measures_106 (fun r_106 H locs hq hW => ?_)
      subst hq
      refine lv_istore (lv' := [(4, .int (oi ((prM (S 0)) i))), (3, .int ((sw i) + (so i))), (2, .int (mxF (w i) (wo i))), (0, .ref (ad 0)), (1, .int (nI i))]) hx hb dX10_measures_109 hl (by decide) rfl (fun ls hl => ?_)
      refine lv_iload hx hb dX10_measures_111 (lv_at hl 0 rfl) ?_
      refine lv_iconst (v := (-1)) hx hb dX10_measures_113 (by decide) ?_
      refine r_oi_ne hx hb (o := ((prM (S 0)) i)) (hF.plim (show i < nM (S 0) by omega)) (tgt := 140) dX10_measures_114 (by decide) (fun j_114 c_114 => ?_) (fun c_114 => ?_)
      · have hl : lv_has ls 5 [(4, .int (nI j_114)), (3, .int ((sw i) + (so i))), (2, .int (mxF (w i) (wo i))), (0, .ref (ad 0)), (1, .int (nI i))] := by rw [c_114] at hl; exact hl
        have hj := hF.ok _ _ (show i < nM (S 0) by omega) c_114
        refine lv_aload_n hx hb dX10_measures_140 rfl (lv_at hl 3 rfl) ?_
        refine md_geta_with C hW dX10_measures_141 ?_
        refine lv_iload hx hb dX10_measures_144 (lv_at hl 0 rfl) ?_
        refine lv_dup2_11 hx hb dX10_measures_146 rfl rfl ?_
        refine md_ald_with C hW (i := j_114) (by omega) dX10_measures_147 ?_
        refine r_eq (y := (w j_114)) (rfl) ?_
        refine lv_aload_n hx hb dX10_measures_148 rfl (lv_at hl 3 rfl) ?_
        refine md_geta_without C hW dX10_measures_149 ?_
        refine lv_iload_n hx hb dX10_measures_152 rfl (lv_at hl 4 rfl) ?_
        refine md_ald_without C hW (i := i) (by omega) dX10_measures_153 ?_
        refine r_eq (y := (wo i)) (rfl) ?_
        refine lv_iadd hx hb dX10_measures_154 ?_
        refine md_ast_with C hW (i := j_114) (by omega) dX10_measures_155 (fun H locs hW => ?_)
        have hW : MdB D aT ad (stT S (upd w j_114 (w j_114 + wo i)) wo sw so wa sa) A s.heap H locs := by rw [stT_5] at hW; exact hW
        refine lv_aload_n hx hb dX10_measures_156 rfl (lv_at hl 3 rfl) ?_
        refine md_geta_without C hW dX10_measures_157 ?_
        refine lv_iload hx hb dX10_measures_160 (lv_at hl 0 rfl) ?_
        refine lv_dup2_11 hx hb dX10_measures_162 rfl rfl ?_
        refine md_ald_without C hW (i := j_114) (by omega) dX10_measures_163 ?_
        refine r_eq (y := (wo j_114)) (rfl) ?_
        refine lv_iload_n hx hb dX10_measures_164 rfl (lv_at hl 2 rfl) ?_
        refine lv_iadd hx hb dX10_measures_165 ?_
        refine md_ast_without C hW (i := j_114) (by omega) dX10_measures_166 (fun H locs hW => ?_)
        have hW : MdB D aT ad (stT S (upd w j_114 (w j_114 + wo i)) (upd wo j_114 (wo j_114 + (mxF (w i) (wo i)))) sw so wa sa) A s.heap H locs := by rw [stT_6] at hW; exact hW
        refine lv_aload_n hx hb dX10_measures_167 rfl (lv_at hl 3 rfl) ?_
        refine md_geta_setsWith C hW dX10_measures_168 ?_
        refine lv_iload hx hb dX10_measures_171 (lv_at hl 0 rfl) ?_
        refine lv_dup2_11 hx hb dX10_measures_173 rfl rfl ?_
        refine md_ald_setsWith C hW (i := j_114) (by omega) dX10_measures_174 ?_
        refine r_eq (y := (sw j_114)) (rfl) ?_
        refine lv_aload_n hx hb dX10_measures_175 rfl (lv_at hl 3 rfl) ?_
        refine md_geta_setsWithout C hW dX10_measures_176 ?_
        refine lv_iload_n hx hb dX10_measures_179 rfl (lv_at hl 4 rfl) ?_
        refine md_ald_setsWithout C hW (i := i) (by omega) dX10_measures_180 ?_
        refine r_eq (y := (so i)) (rfl) ?_
        refine lv_imul hx hb dX10_measures_181 ?_
        refine md_ast_setsWith C hW (i := j_114) (by omega) dX10_measures_182 (fun H locs hW => ?_)
        have hW : MdB D aT ad (stT S (upd w j_114 (w j_114 + wo i)) (upd wo j_114 (wo j_114 + (mxF (w i) (wo i)))) (upd sw j_114 (sw j_114 * so i)) so wa sa) A s.heap H locs := by rw [stT_7] at hW; exact hW
        refine lv_aload_n hx hb dX10_measures_183 rfl (lv_at hl 3 rfl) ?_
        refine md_geta_setsWithout C hW dX10_measures_184 ?_
        refine lv_iload hx hb dX10_measures_187 (lv_at hl 0 rfl) ?_
        refine lv_dup2_11 hx hb dX10_measures_189 rfl rfl ?_
        refine md_ald_setsWithout C hW (i := j_114) (by omega) dX10_measures_190 ?_
        refine r_eq (y := (so j_114)) (rfl) ?_
        refine lv_iload_n hx hb dX10_measures_191 rfl (lv_at hl 1 rfl) ?_
        refine lv_imul hx hb dX10_measures_192 ?_
        refine md_ast_setsWithout C hW (i := j_114) (by omega) dX10_measures_193 (fun H locs hW => ?_)
        have hW : MdB D aT ad (stT S (upd w j_114 (w j_114 + wo i)) (upd wo j_114 (wo j_114 + (mxF (w i) (wo i)))) (upd sw j_114 (sw j_114 * so i)) (upd so j_114 (so j_114 * (sw i + so i))) wa sa) A s.heap H locs := by rw [stT_8] at hW; exact hW
        refine lv_iinc (v := (nI i - nI 1)) (lv' := [(1, .int (nI i - nI 1)), (4, .int (nI j_114)), (3, .int ((sw i) + (so i))), (2, .int (mxF (w i) (wo i))), (0, .ref (ad 0))]) hx hb dX10_measures_194 hl (k := 4) rfl (dm1 _) (by decide) rfl (fun ls hl => ?_)
        refine lv_goto (tgt := 70) hx hb dX10_measures_197 (by decide) ?_
        exact ih_70 ((upd w j_114 (w j_114 + wo i)), (upd wo j_114 (wo j_114 + (mxF (w i) (wo i)))), (upd sw j_114 (sw j_114 * so i)), (upd so j_114 (so j_114 * (sw i + so i))), wa, sa, i) _ _ _ (by dsimp only; omega) ⟨_, rfl, lv_sub hl [4, 0] rfl, hW, ⟨by rw [← he, meaD, meaS, c_114], by (try dsimp only); omega⟩⟩
      · have hl : lv_has ls 5 [(4, .int (-1)), (3, .int ((sw i) + (so i))), (2, .int (mxF (w i) (wo i))), (0, .ref (ad 0)), (1, .int (nI i))] := by rw [c_114] at hl; exact hl
        refine lv_aload_n hx hb dX10_measures_117 rfl (lv_at hl 3 rfl) ?_
        refine lv_dup hx hb dX10_measures_118 rfl ?_
        refine md_get_worthAll C hW dX10_measures_119 ?_
        refine r_eq (y := wa) (by simp [stT, upd]) ?_
        refine lv_iload_n hx hb dX10_measures_122 rfl (lv_at hl 2 rfl) ?_
        refine lv_iadd hx hb dX10_measures_123 ?_
        refine md_put_worthAll C hW dX10_measures_124 (fun H locs hW => ?_)
        have hW : MdB D aT ad (stT S w wo sw so (wa + (mxF (w i) (wo i))) sa) A s.heap H locs := by rw [stT_wa] at hW; exact hW
        refine lv_aload_n hx hb dX10_measures_127 rfl (lv_at hl 3 rfl) ?_
        refine lv_dup hx hb dX10_measures_128 rfl ?_
        refine md_get_setsAll C hW dX10_measures_129 ?_
        refine r_eq (y := sa) (by simp [stT, upd]) ?_
        refine lv_iload_n hx hb dX10_measures_132 rfl (lv_at hl 1 rfl) ?_
        refine lv_imul hx hb dX10_measures_133 ?_
        refine md_put_setsAll C hW dX10_measures_134 (fun H locs hW => ?_)
        have hW : MdB D aT ad (stT S w wo sw so (wa + (mxF (w i) (wo i))) (sa * (sw i + so i))) A s.heap H locs := by rw [stT_sa] at hW; exact hW
        refine lv_goto (tgt := 194) hx hb dX10_measures_137 (by decide) ?_
        refine lv_iinc (v := (nI i - nI 1)) (lv' := [(1, .int (nI i - nI 1)), (4, .int (-1)), (3, .int ((sw i) + (so i))), (2, .int (mxF (w i) (wo i))), (0, .ref (ad 0))]) hx hb dX10_measures_194 hl (k := 4) rfl (dm1 _) (by decide) rfl (fun ls hl => ?_)
        refine lv_goto (tgt := 70) hx hb dX10_measures_197 (by decide) ?_
        exact ih_70 (w, wo, sw, so, (wa + (mxF (w i) (wo i))), (sa * (sw i + so i)), i) _ _ _ (by dsimp only; omega) ⟨_, rfl, lv_sub hl [4, 0] rfl, hW, ⟨by rw [← he, meaD, meaS, c_114], by (try dsimp only); omega⟩⟩
  · refine lv_aload_n hx hb dX10_measures_22 rfl (lv_at hl 0 rfl) ?_
    refine md_geta_with C hW dX10_measures_23 ?_
    refine lv_iload_n hx hb dX10_measures_26 rfl (lv_at hl 1 rfl) ?_
    refine lv_aload_n hx hb dX10_measures_27 rfl (lv_at hl 0 rfl) ?_
    refine lv_iload_n hx hb dX10_measures_28 rfl (lv_at hl 1 rfl) ?_
    refine lv_iconst (v := nI 3) hx hb dX10_measures_29 (by decide) ?_
    refine md_callg C hml hl.1 (As := [.int (nI k), .int (nI 3)]) (rest := [.int (nI k), .ref (ad 6)]) (m_of l D aT ad (stT S (cpyF (S 5) (fun j => S 0 (29 + 4 * j + 3)) k) (cpyF (S 6) (fun _ => nI 0) k) (cpyF (S 7) (fun _ => nI 1) k) (cpyF (S 8) (fun _ => nI 1) k) (nI 0) (nI 1)) k 3 (by omega)) gT_of hd_of rfl ⟨Nat.le_of_ble_eq_true rfl, Nat.le_of_ble_eq_true rfl⟩ ⟨Nat.le_refl _, Nat.le_refl _⟩ hW hA rfl (Nat.le_of_ble_eq_true rfl) dX10_measures_30 (fun r_30 H locs hq hW => ?_)
    subst hq
    refine r_eq (y := (S 0 (29 + 4 * k + 3))) (rfl) ?_
    refine md_ast_with C hW (i := k) (by omega) dX10_measures_33 (fun H locs hW => ?_)
    have hW : MdB D aT ad (stT S (upd (cpyF (S 5) (fun j => S 0 (29 + 4 * j + 3)) k) k (S 0 (29 + 4 * k + 3))) (cpyF (S 6) (fun _ => nI 0) k) (cpyF (S 7) (fun _ => nI 1) k) (cpyF (S 8) (fun _ => nI 1) k) (nI 0) (nI 1)) A s.heap H locs := by rw [stT_5] at hW; exact hW
    refine lv_aload_n hx hb dX10_measures_34 rfl (lv_at hl 0 rfl) ?_
    refine md_geta_without C hW dX10_measures_35 ?_
    refine lv_iload_n hx hb dX10_measures_38 rfl (lv_at hl 1 rfl) ?_
    refine lv_iconst (v := nI 0) hx hb dX10_measures_39 (by decide) ?_
    refine md_ast_without C hW (i := k) (by omega) dX10_measures_40 (fun H locs hW => ?_)
    have hW : MdB D aT ad (stT S (upd (cpyF (S 5) (fun j => S 0 (29 + 4 * j + 3)) k) k (S 0 (29 + 4 * k + 3))) (upd (cpyF (S 6) (fun _ => nI 0) k) k (nI 0)) (cpyF (S 7) (fun _ => nI 1) k) (cpyF (S 8) (fun _ => nI 1) k) (nI 0) (nI 1)) A s.heap H locs := by rw [stT_6] at hW; exact hW
    refine lv_aload_n hx hb dX10_measures_41 rfl (lv_at hl 0 rfl) ?_
    refine md_geta_setsWith C hW dX10_measures_42 ?_
    refine lv_iload_n hx hb dX10_measures_45 rfl (lv_at hl 1 rfl) ?_
    refine lv_iconst (v := nI 1) hx hb dX10_measures_46 (by decide) ?_
    refine md_ast_setsWith C hW (i := k) (by omega) dX10_measures_47 (fun H locs hW => ?_)
    have hW : MdB D aT ad (stT S (upd (cpyF (S 5) (fun j => S 0 (29 + 4 * j + 3)) k) k (S 0 (29 + 4 * k + 3))) (upd (cpyF (S 6) (fun _ => nI 0) k) k (nI 0)) (upd (cpyF (S 7) (fun _ => nI 1) k) k (nI 1)) (cpyF (S 8) (fun _ => nI 1) k) (nI 0) (nI 1)) A s.heap H locs := by rw [stT_7] at hW; exact hW
    refine lv_aload_n hx hb dX10_measures_48 rfl (lv_at hl 0 rfl) ?_
    refine md_geta_setsWithout C hW dX10_measures_49 ?_
    refine lv_iload_n hx hb dX10_measures_52 rfl (lv_at hl 1 rfl) ?_
    refine lv_iconst (v := nI 1) hx hb dX10_measures_53 (by decide) ?_
    refine md_ast_setsWithout C hW (i := k) (by omega) dX10_measures_54 (fun H locs hW => ?_)
    have hW : MdB D aT ad (stT S (upd (cpyF (S 5) (fun j => S 0 (29 + 4 * j + 3)) k) k (S 0 (29 + 4 * k + 3))) (upd (cpyF (S 6) (fun _ => nI 0) k) k (nI 0)) (upd (cpyF (S 7) (fun _ => nI 1) k) k (nI 1)) (upd (cpyF (S 8) (fun _ => nI 1) k) k (nI 1)) (nI 0) (nI 1)) A s.heap H locs := by rw [stT_8] at hW; exact hW
    refine lv_iinc (v := (nI (k + 1))) (lv' := [(1, .int (nI (k + 1))), (0, .ref (ad 0))]) hx hb dX10_measures_55 hl (k := 1) rfl (nI_1 _) (by decide) rfl (fun ls hl => ?_)
    refine lv_goto (tgt := 12) hx hb dX10_measures_58 (by decide) ?_
    exact ih_12 (k + 1) _ _ _ (by omega) ⟨_, rfl, lv_sub hl [1, 0] rfl, (by rw [← cpyF_1 (S 5) _ k, ← cpyF_1 (S 6) _ k, ← cpyF_1 (S 7) _ k, ← cpyF_1 (S 8) _ k]; exact hW), (by omega)⟩
theorem gT_bestWorth : GoodIn gw (wsV RX10 199 RX10 yX10_bestWorth (Cond.code yX10_bestWorth cX10_bestWorth 1 (some .int) :: gw)) := gdV gw_1956 gw_1945 gw_1946 gw_81 gw_1947
theorem hd_bestWorth : yX10_bestWorth.cls = RX10 ∧ yX10_bestWorth.cls ≠ "java/lang/invoke/MethodHandle" ∧ yX10_bestWorth.cls ≠ "java/lang/invoke/VarHandle" ∧ (parseMethodDescriptor yX10_bestWorth.desc).map (fun d => d.parameters.length) = some 0 := ⟨rfl, by decide +kernel, by decide +kernel, by decide +kernel⟩
theorem dX10_bestWorth_0 : decode cX10_bestWorth 0 = .ok (.aload_n 0, 1) := by decide +kernel
theorem dX10_bestWorth_1 : decode cX10_bestWorth 1 = .ok (.iconst 0, 1) := by decide +kernel
theorem dX10_bestWorth_2 : decode cX10_bestWorth 2 = .ok (.putfield 57, 3) := by decide +kernel
theorem dX10_bestWorth_5 : decode cX10_bestWorth 5 = .ok (.aload_n 0, 1) := by decide +kernel
theorem dX10_bestWorth_6 : decode cX10_bestWorth 6 = .ok (.invokevirtual 196, 3) := by decide +kernel
theorem dX10_bestWorth_9 : decode cX10_bestWorth 9 = .ok (.aload_n 0, 1) := by decide +kernel
theorem dX10_bestWorth_10 : decode cX10_bestWorth 10 = .ok (.getfield 190, 3) := by decide +kernel
theorem dX10_bestWorth_13 : decode cX10_bestWorth 13 = .ok (.ireturn, 1) := by decide +kernel
set_option maxHeartbeats 1000000 in
set_option maxRecDepth 20000 in
theorem m_bestWorth (l : Launch) (D : va_G) (aT : Nat → ClassId) (ad : Nat → Nat) (S : MSt) (hF : FoW (S 0)) : MdI l yX10_bestWorth cX10_bestWorth 1 .int 4 89 D aT ad [.ref (ad 0)] S (fun r S1 => r = (meaR (ss S 8 (nI 0))).2.2.2.2.1 ∧ S1 = (meaT (ss S 8 (nI 0)) (meaR (ss S 8 (nI 0))))) := by
  refine MdI.of (by decide +kernel) rfl (Nat.le_of_ble_eq_true rfl) ?_
  intro p e s m below meth c A ls C hml hl hA hr hlocks hW
  have hl : lv_has ls 1 [(0, .ref (ad 0))] := hl
  have hx := C.1
  have hb := C.2.1
  refine lv_aload_n hx hb dX10_bestWorth_0 rfl (lv_at hl 0 rfl) ?_
  refine lv_iconst (v := nI 0) hx hb dX10_bestWorth_1 (by decide) ?_
  refine md_put_thrown C hW dX10_bestWorth_2 (fun H locs hW => ?_)
  refine lv_aload_n hx hb dX10_bestWorth_5 rfl (lv_at hl 0 rfl) ?_
  refine md_callv C hml hl.1 (As := []) (rest := []) (m_measures l D aT ad (ss S 8 (nI 0)) hF) gT_measures hd_measures rfl ⟨Nat.le_of_ble_eq_true rfl, Nat.le_of_ble_eq_true rfl⟩ ⟨Nat.le_refl _, Nat.le_refl _⟩ hW hA rfl (Nat.le_of_ble_eq_true rfl) dX10_bestWorth_6 (fun S_6 H locs hq hW => ?_)
  subst hq
  refine lv_aload_n hx hb dX10_bestWorth_9 rfl (lv_at hl 0 rfl) ?_
  refine md_get_worthAll C hW dX10_bestWorth_10 ?_
  refine r_eq (y := ((meaR (ss S 8 (nI 0))).2.2.2.2.1)) (by simp [meaT, stT, upd]) ?_
  exact md_iret C hr hlocks rfl hW (⟨rfl, rfl⟩) dX10_bestWorth_13
theorem dX10_goodSets_0 : decode cX10_goodSets 0 = .ok (.aload_n 0, 1) := by decide +kernel
theorem dX10_goodSets_1 : decode cX10_goodSets 1 = .ok (.iconst 0, 1) := by decide +kernel
theorem dX10_goodSets_2 : decode cX10_goodSets 2 = .ok (.putfield 57, 3) := by decide +kernel
theorem dX10_goodSets_5 : decode cX10_goodSets 5 = .ok (.aload_n 0, 1) := by decide +kernel
theorem dX10_goodSets_6 : decode cX10_goodSets 6 = .ok (.invokevirtual 196, 3) := by decide +kernel
theorem dX10_goodSets_9 : decode cX10_goodSets 9 = .ok (.aload_n 0, 1) := by decide +kernel
theorem dX10_goodSets_10 : decode cX10_goodSets 10 = .ok (.getfield 193, 3) := by decide +kernel
theorem dX10_goodSets_13 : decode cX10_goodSets 13 = .ok (.ireturn, 1) := by decide +kernel
set_option maxHeartbeats 1000000 in
set_option maxRecDepth 20000 in
theorem m_goodSets (l : Launch) (D : va_G) (aT : Nat → ClassId) (ad : Nat → Nat) (S : MSt) (hF : FoW (S 0)) : MdI l yX10_goodSets cX10_goodSets 1 .int 4 89 D aT ad [.ref (ad 0)] S (fun r S1 => r = (meaR (ss S 8 (nI 0))).2.2.2.2.2 ∧ S1 = (meaT (ss S 8 (nI 0)) (meaR (ss S 8 (nI 0))))) := by
  refine MdI.of (by decide +kernel) rfl (Nat.le_of_ble_eq_true rfl) ?_
  intro p e s m below meth c A ls C hml hl hA hr hlocks hW
  have hl : lv_has ls 1 [(0, .ref (ad 0))] := hl
  have hx := C.1
  have hb := C.2.1
  refine lv_aload_n hx hb dX10_goodSets_0 rfl (lv_at hl 0 rfl) ?_
  refine lv_iconst (v := nI 0) hx hb dX10_goodSets_1 (by decide) ?_
  refine md_put_thrown C hW dX10_goodSets_2 (fun H locs hW => ?_)
  refine lv_aload_n hx hb dX10_goodSets_5 rfl (lv_at hl 0 rfl) ?_
  refine md_callv C hml hl.1 (As := []) (rest := []) (m_measures l D aT ad (ss S 8 (nI 0)) hF) gT_measures hd_measures rfl ⟨Nat.le_of_ble_eq_true rfl, Nat.le_of_ble_eq_true rfl⟩ ⟨Nat.le_refl _, Nat.le_refl _⟩ hW hA rfl (Nat.le_of_ble_eq_true rfl) dX10_goodSets_6 (fun S_6 H locs hq hW => ?_)
  subst hq
  refine lv_aload_n hx hb dX10_goodSets_9 rfl (lv_at hl 0 rfl) ?_
  refine md_get_setsAll C hW dX10_goodSets_10 ?_
  refine r_eq (y := ((meaR (ss S 8 (nI 0))).2.2.2.2.2)) (by simp [meaT, stT, upd]) ?_
  exact md_iret C hr hlocks rfl hW (⟨rfl, rfl⟩) dX10_goodSets_13
theorem dX10_bestWorthBySets_0 : decode cX10_bestWorthBySets 0 = .ok (.aload_n 0, 1) := by decide +kernel
theorem dX10_bestWorthBySets_1 : decode cX10_bestWorthBySets 1 = .ok (.invokevirtual 199, 3) := by decide +kernel
theorem dX10_bestWorthBySets_4 : decode cX10_bestWorthBySets 4 = .ok (.ireturn, 1) := by decide +kernel
set_option maxHeartbeats 1000000 in
set_option maxRecDepth 20000 in
theorem m_bestWorthBySets (l : Launch) (D : va_G) (aT : Nat → ClassId) (ad : Nat → Nat) (S : MSt) (hF : FoW (S 0)) : MdI l yX10_bestWorthBySets cX10_bestWorthBySets 1 .int 5 109 D aT ad [.ref (ad 0)] S (fun r S1 => r = (meaR (ss S 8 (nI 0))).2.2.2.2.1 ∧ S1 = (meaT (ss S 8 (nI 0)) (meaR (ss S 8 (nI 0))))) := by
  refine MdI.of (by decide +kernel) rfl (Nat.le_of_ble_eq_true rfl) ?_
  intro p e s m below meth c A ls C hml hl hA hr hlocks hW
  have hl : lv_has ls 1 [(0, .ref (ad 0))] := hl
  have hx := C.1
  have hb := C.2.1
  refine lv_aload_n hx hb dX10_bestWorthBySets_0 rfl (lv_at hl 0 rfl) ?_
  refine md_calli C hml hl.1 (As := []) (rest := []) (m_bestWorth l D aT ad S hF) gT_bestWorth hd_bestWorth rfl ⟨Nat.le_of_ble_eq_true rfl, Nat.le_of_ble_eq_true rfl⟩ ⟨Nat.le_refl _, Nat.le_refl _⟩ hW hA rfl (Nat.le_of_ble_eq_true rfl) dX10_bestWorthBySets_1 (fun r_1 S_1 H locs hq hW => ?_)
  obtain ⟨rfl, rfl⟩ := hq
  exact md_iret C hr hlocks rfl hW (⟨rfl, rfl⟩) dX10_bestWorthBySets_4
theorem dX10_weightByAccounts_0 : decode cX10_weightByAccounts 0 = .ok (.aload_n 0, 1) := by decide +kernel
theorem dX10_weightByAccounts_1 : decode cX10_weightByAccounts 1 = .ok (.invokevirtual 204, 3) := by decide +kernel
theorem dX10_weightByAccounts_4 : decode cX10_weightByAccounts 4 = .ok (.ireturn, 1) := by decide +kernel
set_option maxHeartbeats 1000000 in
set_option maxRecDepth 20000 in
theorem m_weightByAccounts (l : Launch) (D : va_G) (aT : Nat → ClassId) (ad : Nat → Nat) (S : MSt) (hF : FoW (S 0)) : MdI l yX10_weightByAccounts cX10_weightByAccounts 1 .int 2 44 D aT ad [.ref (ad 0)] S (fun r S1 => r = smw (S 0) (nM (S 0)) ∧ S1 = ss S 8 (nI 0)) := by
  refine MdI.of (by decide +kernel) rfl (Nat.le_of_ble_eq_true rfl) ?_
  intro p e s m below meth c A ls C hml hl hA hr hlocks hW
  have hl : lv_has ls 1 [(0, .ref (ad 0))] := hl
  have hx := C.1
  have hb := C.2.1
  refine lv_aload_n hx hb dX10_weightByAccounts_0 rfl (lv_at hl 0 rfl) ?_
  refine md_calli C hml hl.1 (As := []) (rest := []) (m_weightTotal l D aT ad S hF) gT_weightTotal hd_weightTotal rfl ⟨Nat.le_of_ble_eq_true rfl, Nat.le_of_ble_eq_true rfl⟩ ⟨Nat.le_refl _, Nat.le_refl _⟩ hW hA rfl (Nat.le_of_ble_eq_true rfl) dX10_weightByAccounts_1 (fun r_1 S_1 H locs hq hW => ?_)
  obtain ⟨rfl, rfl⟩ := hq
  exact md_iret C hr hlocks rfl hW (⟨rfl, rfl⟩) dX10_weightByAccounts_4
end
section
/-- the sign at a place of the text, -1 behind its end -/
def hrF (f : Nat → Int32) (sz p : Nat) : Int32 := if p < sz then f p else -1
def isD (x : Int32) : Bool := rgB 48 57 x
/-- place and wrongness behind a sign that is due -/
def expP (f : Nat → Int32) (sz : Nat) (c : Int32) (s : Nat × Bool) : Nat × Bool := if s.2 = false ∧ hrF f sz s.1 = c then (s.1 + 1, false) else (s.1, true)
/-- a digit: its value, place and wrongness behind it -/
def digP (f : Nat → Int32) (sz : Nat) (s : Nat × Bool) : Int32 × Nat × Bool := if s.2 = false ∧ isD (hrF f sz s.1) = true then (hrF f sz s.1 - nI 48, s.1 + 1, false) else (nI 0, s.1, true)
def numP (f : Nat → Int32) (sz : Nat) (s : Nat × Bool) : Int32 × Nat × Bool := if (digP f sz s).2.2 = false ∧ isD (hrF f sz (digP f sz s).2.1) = true then (nI 10 * (digP f sz s).1 + (digP f sz (digP f sz s).2).1, (digP f sz (digP f sz s).2).2) else digP f sz s
/-- the state while a text is read: place, wrongness, commands -/
def psT (S : MSt) (p : Nat) (wr : Bool) (k : Nat) (cm : Nat → Int32) : MSt := fun r => if r = 11 then cm else if r = 13 then upd (upd (upd (S 13) 20 (nI k)) 21 (nI p)) 23 (bI wr) else S r
theorem psT_p (S : MSt) (p : Nat) (wr : Bool) (k : Nat) (cm : Nat → Int32) (q : Nat) : ss (psT S p wr k cm) 21 (nI q) = psT S q wr k cm := by
  funext r j; unfold ss sr psT; by_cases h : r = 13
  · subst h
    by_cases h1 : j = 21
    · subst h1; simp [upd]
    · by_cases h2 : j = 23
      · subst h2; simp [upd]
      · simp [upd, h1, h2]
  · simp [h]
theorem psT_w (S : MSt) (p : Nat) (wr : Bool) (k : Nat) (cm : Nat → Int32) (v : Bool) : ss (psT S p wr k cm) 23 (bI v) = psT S p v k cm := by
  funext r j; unfold ss sr psT; by_cases h : r = 13
  · subst h
    by_cases h2 : j = 23
    · subst h2; simp [upd]
    · simp [upd, h2]
  · simp [h]
theorem psT_k (S : MSt) (p : Nat) (wr : Bool) (k : Nat) (cm : Nat → Int32) (i : Nat) : ss (psT S p wr k cm) 20 (nI i) = psT S p wr i cm := by
  funext r j; unfold ss sr psT; by_cases h : r = 13
  · subst h
    by_cases h1 : j = 21
    · subst h1; simp [upd]
    · by_cases h2 : j = 23
      · subst h2; simp [upd]
      · by_cases h3 : j = 20
        · subst h3; simp [upd]
        · simp [upd, h1, h2, h3]
  · simp [h]
theorem psT_c (S : MSt) (p : Nat) (wr : Bool) (k : Nat) (cm f : Nat → Int32) : sr (psT S p wr k cm) 11 f = psT S p wr k f := by
  funext r; unfold sr psT; by_cases h : r = 11 <;> simp [h]
theorem expP_y {f : Nat → Int32} {sz p : Nat} {c : Int32} (h : hrF f sz p = c) : expP f sz c (p, false) = (p + 1, false) := by unfold expP; rw [if_pos ⟨rfl, h⟩]
theorem expP_n {f : Nat → Int32} {sz p : Nat} {c : Int32} {wr : Bool} (h : wr = true ∨ hrF f sz p ≠ c) : expP f sz c (p, wr) = (p, true) := by
  unfold expP; rw [if_neg]; rintro ⟨h1, h2⟩; rcases h with h | h
  · rw [h] at h1; cases h1
  · exact h h2
theorem digP_y {f : Nat → Int32} {sz p : Nat} (h : isD (hrF f sz p) = true) : digP f sz (p, false) = (hrF f sz p - nI 48, p + 1, false) := by unfold digP; rw [if_pos ⟨rfl, h⟩]
theorem digP_n {f : Nat → Int32} {sz p : Nat} {wr : Bool} (h : wr = true ∨ isD (hrF f sz p) = false) : digP f sz (p, wr) = (nI 0, p, true) := by
  unfold digP; rw [if_neg]; rintro ⟨h1, h2⟩; rcases h with h | h
  · rw [h] at h1; cases h1
  · dsimp only at h2; rw [h] at h2; cases h2
theorem hrF_in {f : Nat → Int32} {sz p : Nat} (h : isD (hrF f sz p) = true) : p < sz := by
  apply Decidable.byContradiction
  intro q
  unfold hrF at h
  rw [if_neg q] at h
  exact absurd h (by decide)
theorem expP_le {f : Nat → Int32} {sz : Nat} {c : Int32} {s : Nat × Bool} (hc : c ≠ -1) (h : s.1 ≤ sz) : (expP f sz c s).1 ≤ sz ∧ s.1 ≤ (expP f sz c s).1 := by
  unfold expP; split
  · rename_i z
    have : s.1 < sz := by
      apply Decidable.byContradiction
      intro q
      have z2 := z.2
      unfold hrF at z2
      rw [if_neg q] at z2
      exact hc z2.symm
    exact ⟨this, Nat.le_succ _⟩
  · exact ⟨h, Nat.le_refl _⟩
theorem digP_le {f : Nat → Int32} {sz : Nat} {s : Nat × Bool} (h : s.1 ≤ sz) : (digP f sz s).2.1 ≤ sz ∧ s.1 ≤ (digP f sz s).2.1 := by
  unfold digP; split
  · rename_i z; exact ⟨hrF_in z.2, Nat.le_succ _⟩
  · exact ⟨h, Nat.le_refl _⟩
theorem numP_le {f : Nat → Int32} {sz : Nat} {s : Nat × Bool} (h : s.1 ≤ sz) : (numP f sz s).2.1 ≤ sz ∧ s.1 ≤ (numP f sz s).2.1 := by
  have h1 := digP_le (f := f) h
  unfold numP; split
  · have h2 := digP_le (f := f) (s := (digP f sz s).2) h1.1
    exact ⟨h2.1, Nat.le_trans h1.2 h2.2⟩
  · exact h1
theorem gT_here : GoodIn gw (wsV RX10 220 RX10 yX10_here (Cond.code yX10_here cX10_here 1 (some .int) :: gw)) := gdV gw_2019 gw_2021 gw_56 gw_81 gw_2022
theorem hd_here : yX10_here.cls = RX10 ∧ yX10_here.cls ≠ "java/lang/invoke/MethodHandle" ∧ yX10_here.cls ≠ "java/lang/invoke/VarHandle" ∧ (parseMethodDescriptor yX10_here.desc).map (fun d => d.parameters.length) = some 0 := ⟨rfl, by decide +kernel, by decide +kernel, by decide +kernel⟩
theorem dX10_here_0 : decode cX10_here 0 = .ok (.aload_n 0, 1) := by decide +kernel
theorem dX10_here_1 : decode cX10_here 1 = .ok (.getfield 210, 3) := by decide +kernel
theorem dX10_here_4 : decode cX10_here 4 = .ok (.aload_n 0, 1) := by decide +kernel
theorem dX10_here_5 : decode cX10_here 5 = .ok (.getfield 213, 3) := by decide +kernel
theorem dX10_here_8 : decode cX10_here 8 = .ok (.if_icmp .ge 15, 3) := by decide +kernel
theorem dX10_here_11 : decode cX10_here 11 = .ok (.aload_n 0, 1) := by decide +kernel
theorem dX10_here_12 : decode cX10_here 12 = .ok (.getfield 29, 3) := by decide +kernel
theorem dX10_here_15 : decode cX10_here 15 = .ok (.aload_n 0, 1) := by decide +kernel
theorem dX10_here_16 : decode cX10_here 16 = .ok (.getfield 210, 3) := by decide +kernel
theorem dX10_here_19 : decode cX10_here 19 = .ok (.iaload, 1) := by decide +kernel
theorem dX10_here_20 : decode cX10_here 20 = .ok (.goto 4, 3) := by decide +kernel
theorem dX10_here_23 : decode cX10_here 23 = .ok (.iconst (-1), 1) := by decide +kernel
theorem dX10_here_24 : decode cX10_here 24 = .ok (.ireturn, 1) := by decide +kernel
set_option maxHeartbeats 1000000 in
set_option maxRecDepth 20000 in
theorem m_here (l : Launch) (D : va_G) (aT : Nat → ClassId) (ad : Nat → Nat) (S : MSt) (u sz k : Nat) (wr : Bool) (cm : Nat → Int32) (hsz : S 13 22 = nI sz) (h60 : sz ≤ 60) (hp : u ≤ sz) : MdG l yX10_here cX10_here 1 .int 0 0 D aT ad [.ref (ad 0)] (psT S u wr k cm) (fun r => r = hrF (S 4) sz u) := by
  refine MdI.of (by decide +kernel) rfl (Nat.le_of_ble_eq_true rfl) ?_
  intro p e s m below meth c A ls C hml hl hA hr hlocks hW
  have hl : lv_has ls 1 [(0, .ref (ad 0))] := hl
  have hx := C.1
  have hb := C.2.1
  refine lv_aload_n hx hb dX10_here_0 rfl (lv_at hl 0 rfl) ?_
  refine md_get_place0 C hW dX10_here_1 ?_
  refine r_eq (y := (nI u)) (rfl) ?_
  refine lv_aload_n hx hb dX10_here_4 rfl (lv_at hl 0 rfl) ?_
  refine md_get_size0 C hW dX10_here_5 ?_
  refine r_eq (y := (nI sz)) (hsz) ?_
  refine r_geN hx hb (a := u) (b := sz) (by omega) (by omega) (tgt := 23) dX10_here_8 (by decide) (fun c_8 => ?_) (fun c_8 => ?_)
  · refine lv_iconst (v := (-1)) hx hb dX10_here_23 (by decide) ?_
    exact md_iret C hr hlocks rfl hW (⟨by unfold hrF; rw [if_neg (by omega)], rfl⟩) dX10_here_24
  · refine lv_aload_n hx hb dX10_here_11 rfl (lv_at hl 0 rfl) ?_
    refine md_geta_input C hW dX10_here_12 ?_
    refine lv_aload_n hx hb dX10_here_15 rfl (lv_at hl 0 rfl) ?_
    refine md_get_place0 C hW dX10_here_16 ?_
    refine r_eq (y := (nI u)) (rfl) ?_
    refine md_ald_input C hW (i := u) (by omega) dX10_here_19 ?_
    refine r_eq (y := (S 4 u)) (rfl) ?_
    refine lv_goto (tgt := 24) hx hb dX10_here_20 (by decide) ?_
    exact md_iret C hr hlocks rfl hW (⟨by unfold hrF; rw [if_pos (by omega)], rfl⟩) dX10_here_24
theorem gT_expects : GoodIn gw (wsV RX10 230 RX10 yX10_expects (Cond.code yX10_expects cX10_expects 2 (none) :: gw)) := gdV gw_2033 gw_2035 gw_59 gw_81 gw_2036
theorem hd_expects : yX10_expects.cls = RX10 ∧ yX10_expects.cls ≠ "java/lang/invoke/MethodHandle" ∧ yX10_expects.cls ≠ "java/lang/invoke/VarHandle" ∧ (parseMethodDescriptor yX10_expects.desc).map (fun d => d.parameters.length) = some 1 := ⟨rfl, by decide +kernel, by decide +kernel, by decide +kernel⟩
theorem dX10_expects_0 : decode cX10_expects 0 = .ok (.aload_n 0, 1) := by decide +kernel
theorem dX10_expects_1 : decode cX10_expects 1 = .ok (.aload_n 0, 1) := by decide +kernel
theorem dX10_expects_2 : decode cX10_expects 2 = .ok (.getfield 216, 3) := by decide +kernel
theorem dX10_expects_5 : decode cX10_expects 5 = .ok (.ifCond .ne 11, 3) := by decide +kernel
theorem dX10_expects_8 : decode cX10_expects 8 = .ok (.aload_n 0, 1) := by decide +kernel
theorem dX10_expects_9 : decode cX10_expects 9 = .ok (.invokevirtual 220, 3) := by decide +kernel
theorem dX10_expects_12 : decode cX10_expects 12 = .ok (.iload_n 1, 1) := by decide +kernel
theorem dX10_expects_13 : decode cX10_expects 13 = .ok (.if_icmp .eq 7, 3) := by decide +kernel
theorem dX10_expects_16 : decode cX10_expects 16 = .ok (.iconst 1, 1) := by decide +kernel
theorem dX10_expects_17 : decode cX10_expects 17 = .ok (.goto 4, 3) := by decide +kernel
theorem dX10_expects_20 : decode cX10_expects 20 = .ok (.iconst 0, 1) := by decide +kernel
theorem dX10_expects_21 : decode cX10_expects 21 = .ok (.putfield 216, 3) := by decide +kernel
theorem dX10_expects_24 : decode cX10_expects 24 = .ok (.aload_n 0, 1) := by decide +kernel
theorem dX10_expects_25 : decode cX10_expects 25 = .ok (.dup, 1) := by decide +kernel
theorem dX10_expects_26 : decode cX10_expects 26 = .ok (.getfield 210, 3) := by decide +kernel
theorem dX10_expects_29 : decode cX10_expects 29 = .ok (.aload_n 0, 1) := by decide +kernel
theorem dX10_expects_30 : decode cX10_expects 30 = .ok (.getfield 216, 3) := by decide +kernel
theorem dX10_expects_33 : decode cX10_expects 33 = .ok (.ifCond .eq 7, 3) := by decide +kernel
theorem dX10_expects_36 : decode cX10_expects 36 = .ok (.iconst 0, 1) := by decide +kernel
theorem dX10_expects_37 : decode cX10_expects 37 = .ok (.goto 4, 3) := by decide +kernel
theorem dX10_expects_40 : decode cX10_expects 40 = .ok (.iconst 1, 1) := by decide +kernel
theorem dX10_expects_41 : decode cX10_expects 41 = .ok (.iadd, 1) := by decide +kernel
theorem dX10_expects_42 : decode cX10_expects 42 = .ok (.putfield 210, 3) := by decide +kernel
theorem dX10_expects_45 : decode cX10_expects 45 = .ok (.return_, 1) := by decide +kernel
set_option maxHeartbeats 1000000 in
set_option maxRecDepth 20000 in
theorem m_expects (l : Launch) (D : va_G) (aT : Nat → ClassId) (ad : Nat → Nat) (S : MSt) (u sz k : Nat) (wr : Bool) (cm : Nat → Int32) (hsz : S 13 22 = nI sz) (h60 : sz ≤ 60) (hp : u ≤ sz) (c0 : Int32) : MdV l yX10_expects cX10_expects 2 1 20 D aT ad [.ref (ad 0), .int c0] (psT S u wr k cm) (fun S1 => S1 = psT S (expP (S 4) sz c0 (u, wr)).1 (expP (S 4) sz c0 (u, wr)).2 k cm) := by
  refine MdV.of (by decide +kernel) rfl (Nat.le_of_ble_eq_true rfl) ?_
  intro p e s m below meth c A ls C hml hl hA hr hlocks hW
  have hl : lv_has ls 2 [(0, .ref (ad 0)), (1, .int c0)] := hl
  have hx := C.1
  have hb := C.2.1
  refine lv_aload_n hx hb dX10_expects_0 rfl (lv_at hl 0 rfl) ?_
  refine lv_aload_n hx hb dX10_expects_1 rfl (lv_at hl 0 rfl) ?_
  refine md_get_isWrong C hW dX10_expects_2 ?_
  refine r_eq (y := (bI wr)) (rfl) ?_
  refine r_bI_ne hx hb (b := wr) (tgt := 16) dX10_expects_5 (by decide) (fun c_5 => ?_) (fun c_5 => ?_)
  · refine lv_iconst (v := nI 1) hx hb dX10_expects_16 (by decide) ?_
    refine lv_goto (tgt := 21) hx hb dX10_expects_17 (by decide) ?_
    refine md_put_isWrong C hW (by decide) (by decide) dX10_expects_21 (fun H locs hW => ?_)
    have hW : MdB D aT ad (psT S u true k cm) A s.heap H locs := by rw [← psT_w S u wr k cm true]; exact hW
    refine lv_aload_n hx hb dX10_expects_24 rfl (lv_at hl 0 rfl) ?_
    refine lv_dup hx hb dX10_expects_25 rfl ?_
    refine md_get_place0 C hW dX10_expects_26 ?_
    refine r_eq (y := (nI u)) (rfl) ?_
    refine lv_aload_n hx hb dX10_expects_29 rfl (lv_at hl 0 rfl) ?_
    refine md_get_isWrong C hW dX10_expects_30 ?_
    refine r_eq (y := (bI true)) (rfl) ?_
    refine r_bI_eq hx hb (b := true) (tgt := 40) dX10_expects_33 (by decide) (fun c_33 => ?_) (fun c_33 => ?_)
    · exact absurd c_33 (by decide)
    · refine lv_iconst (v := nI 0) hx hb dX10_expects_36 (by decide) ?_
      refine lv_goto (tgt := 41) hx hb dX10_expects_37 (by decide) ?_
      refine r_iaddN hx hb (a := u) (b := 0) dX10_expects_41 ?_
      refine md_put_place0 C hW dX10_expects_42 (fun H locs hW => ?_)
      have hW : MdB D aT ad (psT S (u + 0) true k cm) A s.heap H locs := by rw [← psT_p S u true k cm (u + 0)]; exact hW
      exact md_vret C hr hlocks hW (by rw [expP_n (Or.inl c_5)]; try rfl) dX10_expects_45
  · refine lv_aload_n hx hb dX10_expects_8 rfl (lv_at hl 0 rfl) ?_
    refine md_callg C hml hl.1 (As := []) (rest := [.ref (ad 0)]) (m_here l D aT ad S u sz k wr cm hsz h60 (by omega)) gT_here hd_here rfl ⟨Nat.le_of_ble_eq_true rfl, Nat.le_of_ble_eq_true rfl⟩ ⟨Nat.le_refl _, Nat.le_refl _⟩ hW hA rfl (Nat.le_of_ble_eq_true rfl) dX10_expects_9 (fun r_9 H locs hq hW => ?_)
    subst hq
    refine lv_iload_n hx hb dX10_expects_12 rfl (lv_at hl 1 rfl) ?_
    refine lv_icmp_eq hx hb (x := (hrF (S 4) sz u)) (y := c0) (tgt := 20) dX10_expects_13 (by decide) (fun c_13 => ?_) (fun c_13 => ?_)
    · refine lv_iconst (v := nI 0) hx hb dX10_expects_20 (by decide) ?_
      refine md_put_isWrong C hW (by decide) (by decide) dX10_expects_21 (fun H locs hW => ?_)
      have hW : MdB D aT ad (psT S u false k cm) A s.heap H locs := by rw [← psT_w S u wr k cm false]; exact hW
      refine lv_aload_n hx hb dX10_expects_24 rfl (lv_at hl 0 rfl) ?_
      refine lv_dup hx hb dX10_expects_25 rfl ?_
      refine md_get_place0 C hW dX10_expects_26 ?_
      refine r_eq (y := (nI u)) (rfl) ?_
      refine lv_aload_n hx hb dX10_expects_29 rfl (lv_at hl 0 rfl) ?_
      refine md_get_isWrong C hW dX10_expects_30 ?_
      refine r_eq (y := (bI false)) (rfl) ?_
      refine r_bI_eq hx hb (b := false) (tgt := 40) dX10_expects_33 (by decide) (fun c_33 => ?_) (fun c_33 => ?_)
      · refine lv_iconst (v := nI 1) hx hb dX10_expects_40 (by decide) ?_
        refine r_iaddN hx hb (a := u) (b := 1) dX10_expects_41 ?_
        refine md_put_place0 C hW dX10_expects_42 (fun H locs hW => ?_)
        have hW : MdB D aT ad (psT S (u + 1) false k cm) A s.heap H locs := by rw [← psT_p S u false k cm (u + 1)]; exact hW
        exact md_vret C hr hlocks hW (by rw [c_5, expP_y c_13]; try rfl) dX10_expects_45
      · exact absurd c_33 (by decide)
    · refine lv_iconst (v := nI 1) hx hb dX10_expects_16 (by decide) ?_
      refine lv_goto (tgt := 21) hx hb dX10_expects_17 (by decide) ?_
      refine md_put_isWrong C hW (by decide) (by decide) dX10_expects_21 (fun H locs hW => ?_)
      have hW : MdB D aT ad (psT S u true k cm) A s.heap H locs := by rw [← psT_w S u wr k cm true]; exact hW
      refine lv_aload_n hx hb dX10_expects_24 rfl (lv_at hl 0 rfl) ?_
      refine lv_dup hx hb dX10_expects_25 rfl ?_
      refine md_get_place0 C hW dX10_expects_26 ?_
      refine r_eq (y := (nI u)) (rfl) ?_
      refine lv_aload_n hx hb dX10_expects_29 rfl (lv_at hl 0 rfl) ?_
      refine md_get_isWrong C hW dX10_expects_30 ?_
      refine r_eq (y := (bI true)) (rfl) ?_
      refine r_bI_eq hx hb (b := true) (tgt := 40) dX10_expects_33 (by decide) (fun c_33 => ?_) (fun c_33 => ?_)
      · exact absurd c_33 (by decide)
      · refine lv_iconst (v := nI 0) hx hb dX10_expects_36 (by decide) ?_
        refine lv_goto (tgt := 41) hx hb dX10_expects_37 (by decide) ?_
        refine r_iaddN hx hb (a := u) (b := 0) dX10_expects_41 ?_
        refine md_put_place0 C hW dX10_expects_42 (fun H locs hW => ?_)
        have hW : MdB D aT ad (psT S (u + 0) true k cm) A s.heap H locs := by rw [← psT_p S u true k cm (u + 0)]; exact hW
        exact md_vret C hr hlocks hW (by rw [expP_n (Or.inr c_13)]; try rfl) dX10_expects_45
theorem gT_digit : GoodIn gw (wsV RX10 227 RX10 yX10_digit (Cond.code yX10_digit cX10_digit 2 (some .int) :: gw)) := gdV gw_2015 gw_2017 gw_55 gw_81 gw_2018
theorem hd_digit : yX10_digit.cls = RX10 ∧ yX10_digit.cls ≠ "java/lang/invoke/MethodHandle" ∧ yX10_digit.cls ≠ "java/lang/invoke/VarHandle" ∧ (parseMethodDescriptor yX10_digit.desc).map (fun d => d.parameters.length) = some 0 := ⟨rfl, by decide +kernel, by decide +kernel, by decide +kernel⟩
theorem dX10_digit_0 : decode cX10_digit 0 = .ok (.aload_n 0, 1) := by decide +kernel
theorem dX10_digit_1 : decode cX10_digit 1 = .ok (.aload_n 0, 1) := by decide +kernel
theorem dX10_digit_2 : decode cX10_digit 2 = .ok (.getfield 216, 3) := by decide +kernel
theorem dX10_digit_5 : decode cX10_digit 5 = .ok (.ifCond .ne 20, 3) := by decide +kernel
theorem dX10_digit_8 : decode cX10_digit 8 = .ok (.aload_n 0, 1) := by decide +kernel
theorem dX10_digit_9 : decode cX10_digit 9 = .ok (.invokevirtual 220, 3) := by decide +kernel
theorem dX10_digit_12 : decode cX10_digit 12 = .ok (.i2l, 1) := by decide +kernel
theorem dX10_digit_13 : decode cX10_digit 13 = .ok (.ldc2_w 223, 3) := by decide +kernel
theorem dX10_digit_16 : decode cX10_digit 16 = .ok (.ldc2_w 225, 3) := by decide +kernel
theorem dX10_digit_19 : decode cX10_digit 19 = .ok (.invokestatic 63, 3) := by decide +kernel
theorem dX10_digit_22 : decode cX10_digit 22 = .ok (.ifCond .ne 7, 3) := by decide +kernel
theorem dX10_digit_25 : decode cX10_digit 25 = .ok (.iconst 1, 1) := by decide +kernel
theorem dX10_digit_26 : decode cX10_digit 26 = .ok (.goto 4, 3) := by decide +kernel
theorem dX10_digit_29 : decode cX10_digit 29 = .ok (.iconst 0, 1) := by decide +kernel
theorem dX10_digit_30 : decode cX10_digit 30 = .ok (.putfield 216, 3) := by decide +kernel
theorem dX10_digit_33 : decode cX10_digit 33 = .ok (.aload_n 0, 1) := by decide +kernel
theorem dX10_digit_34 : decode cX10_digit 34 = .ok (.getfield 216, 3) := by decide +kernel
theorem dX10_digit_37 : decode cX10_digit 37 = .ok (.ifCond .eq 7, 3) := by decide +kernel
theorem dX10_digit_40 : decode cX10_digit 40 = .ok (.iconst 0, 1) := by decide +kernel
theorem dX10_digit_41 : decode cX10_digit 41 = .ok (.goto 10, 3) := by decide +kernel
theorem dX10_digit_44 : decode cX10_digit 44 = .ok (.aload_n 0, 1) := by decide +kernel
theorem dX10_digit_45 : decode cX10_digit 45 = .ok (.invokevirtual 220, 3) := by decide +kernel
theorem dX10_digit_48 : decode cX10_digit 48 = .ok (.bipush 48, 2) := by decide +kernel
theorem dX10_digit_50 : decode cX10_digit 50 = .ok (.isub, 1) := by decide +kernel
theorem dX10_digit_51 : decode cX10_digit 51 = .ok (.istore_n 1, 1) := by decide +kernel
theorem dX10_digit_52 : decode cX10_digit 52 = .ok (.aload_n 0, 1) := by decide +kernel
theorem dX10_digit_53 : decode cX10_digit 53 = .ok (.dup, 1) := by decide +kernel
theorem dX10_digit_54 : decode cX10_digit 54 = .ok (.getfield 210, 3) := by decide +kernel
theorem dX10_digit_57 : decode cX10_digit 57 = .ok (.aload_n 0, 1) := by decide +kernel
theorem dX10_digit_58 : decode cX10_digit 58 = .ok (.getfield 216, 3) := by decide +kernel
theorem dX10_digit_61 : decode cX10_digit 61 = .ok (.ifCond .eq 7, 3) := by decide +kernel
theorem dX10_digit_64 : decode cX10_digit 64 = .ok (.iconst 0, 1) := by decide +kernel
theorem dX10_digit_65 : decode cX10_digit 65 = .ok (.goto 4, 3) := by decide +kernel
theorem dX10_digit_68 : decode cX10_digit 68 = .ok (.iconst 1, 1) := by decide +kernel
theorem dX10_digit_69 : decode cX10_digit 69 = .ok (.iadd, 1) := by decide +kernel
theorem dX10_digit_70 : decode cX10_digit 70 = .ok (.putfield 210, 3) := by decide +kernel
theorem dX10_digit_73 : decode cX10_digit 73 = .ok (.iload_n 1, 1) := by decide +kernel
theorem dX10_digit_74 : decode cX10_digit 74 = .ok (.ireturn, 1) := by decide +kernel
set_option maxHeartbeats 1000000 in
set_option maxRecDepth 20000 in
theorem m_digit (l : Launch) (D : va_G) (aT : Nat → ClassId) (ad : Nat → Nat) (S : MSt) (u sz k : Nat) (wr : Bool) (cm : Nat → Int32) (hsz : S 13 22 = nI sz) (h60 : sz ≤ 60) (hp : u ≤ sz) : MdI l yX10_digit cX10_digit 2 .int 1 25 D aT ad [.ref (ad 0)] (psT S u wr k cm) (fun r S1 => r = (digP (S 4) sz (u, wr)).1 ∧ S1 = psT S (digP (S 4) sz (u, wr)).2.1 (digP (S 4) sz (u, wr)).2.2 k cm) := by
  refine MdI.of (by decide +kernel) rfl (Nat.le_of_ble_eq_true rfl) ?_
  intro p e s m below meth c A ls C hml hl hA hr hlocks hW
  have hl : lv_has ls 2 [(0, .ref (ad 0))] := hl
  have hx := C.1
  have hb := C.2.1
  refine lv_aload_n hx hb dX10_digit_0 rfl (lv_at hl 0 rfl) ?_
  refine lv_aload_n hx hb dX10_digit_1 rfl (lv_at hl 0 rfl) ?_
  refine md_get_isWrong C hW dX10_digit_2 ?_
  refine r_eq (y := (bI wr)) (rfl) ?_
  refine r_bI_ne hx hb (b := wr) (tgt := 25) dX10_digit_5 (by decide) (fun c_5 => ?_) (fun c_5 => ?_)
  · refine lv_iconst (v := nI 1) hx hb dX10_digit_25 (by decide) ?_
    refine lv_goto (tgt := 30) hx hb dX10_digit_26 (by decide) ?_
    refine md_put_isWrong C hW (by decide) (by decide) dX10_digit_30 (fun H locs hW => ?_)
    have hW : MdB D aT ad (psT S u true k cm) A s.heap H locs := by rw [← psT_w S u wr k cm true]; exact hW
    refine lv_aload_n hx hb dX10_digit_33 rfl (lv_at hl 0 rfl) ?_
    refine md_get_isWrong C hW dX10_digit_34 ?_
    refine r_eq (y := (bI true)) (rfl) ?_
    refine r_bI_eq hx hb (b := true) (tgt := 44) dX10_digit_37 (by decide) (fun c_37 => ?_) (fun c_37 => ?_)
    · exact absurd c_37 (by decide)
    · refine lv_iconst (v := nI 0) hx hb dX10_digit_40 (by decide) ?_
      refine lv_goto (tgt := 51) hx hb dX10_digit_41 (by decide) ?_
      refine lv_istore_n (lv' := [(1, .int (nI 0)), (0, .ref (ad 0))]) hx hb dX10_digit_51 rfl hl (by decide) rfl (fun ls hl => ?_)
      refine lv_aload_n hx hb dX10_digit_52 rfl (lv_at hl 1 rfl) ?_
      refine lv_dup hx hb dX10_digit_53 rfl ?_
      refine md_get_place0 C hW dX10_digit_54 ?_
      refine r_eq (y := (nI u)) (rfl) ?_
      refine lv_aload_n hx hb dX10_digit_57 rfl (lv_at hl 1 rfl) ?_
      refine md_get_isWrong C hW dX10_digit_58 ?_
      refine r_eq (y := (bI true)) (rfl) ?_
      refine r_bI_eq hx hb (b := true) (tgt := 68) dX10_digit_61 (by decide) (fun c_61 => ?_) (fun c_61 => ?_)
      · exact absurd c_61 (by decide)
      · refine lv_iconst (v := nI 0) hx hb dX10_digit_64 (by decide) ?_
        refine lv_goto (tgt := 69) hx hb dX10_digit_65 (by decide) ?_
        refine r_iaddN hx hb (a := u) (b := 0) dX10_digit_69 ?_
        refine md_put_place0 C hW dX10_digit_70 (fun H locs hW => ?_)
        have hW : MdB D aT ad (psT S (u + 0) true k cm) A s.heap H locs := by rw [← psT_p S u true k cm (u + 0)]; exact hW
        refine lv_iload_n hx hb dX10_digit_73 rfl (lv_at hl 0 rfl) ?_
        exact md_iret C hr hlocks rfl hW (⟨by rw [digP_n (Or.inl c_5)]; try rfl, by rw [digP_n (Or.inl c_5)]; try rfl⟩) dX10_digit_74
  · refine lv_aload_n hx hb dX10_digit_8 rfl (lv_at hl 0 rfl) ?_
    refine md_callg C hml hl.1 (As := []) (rest := [.ref (ad 0)]) (m_here l D aT ad S u sz k wr cm hsz h60 (by omega)) gT_here hd_here rfl ⟨Nat.le_of_ble_eq_true rfl, Nat.le_of_ble_eq_true rfl⟩ ⟨Nat.le_refl _, Nat.le_refl _⟩ hW hA rfl (Nat.le_of_ble_eq_true rfl) dX10_digit_9 (fun r_9 H locs hq hW => ?_)
    subst hq
    refine lv_i2l (v := ((hrF (S 4) sz u)).toInt64) hx hb dX10_digit_12 rfl ?_
    refine lv_ldc2 hx hb C.2.2.2.1 (C.2.2.1 _ gw_2023) dX10_digit_13 ?_
    refine lv_ldc2 hx hb C.2.2.2.1 (C.2.2.1 _ gw_2024) dX10_digit_16 ?_
    refine md_calls C hml hl.1 (As := [.long (((hrF (S 4) sz u)).toInt64), .long 48, .long 57]) (rest := [.ref (ad 0)]) (m_in l (((hrF (S 4) sz u)).toInt64) 48 57) gT_in hd_in rfl ⟨Nat.le_of_ble_eq_true rfl, Nat.le_of_ble_eq_true rfl⟩ ⟨Nat.le_refl _, Nat.le_refl _⟩ rfl (Nat.le_of_ble_eq_true rfl) dX10_digit_19 (fun r_19 hq => ?_)
    subst hq
    refine r_bI_ne hx hb (b := (rgB 48 57 (hrF (S 4) sz u))) (tgt := 29) dX10_digit_22 (by decide) (fun c_22 => ?_) (fun c_22 => ?_)
    · refine lv_iconst (v := nI 0) hx hb dX10_digit_29 (by decide) ?_
      refine md_put_isWrong C hW (by decide) (by decide) dX10_digit_30 (fun H locs hW => ?_)
      have hW : MdB D aT ad (psT S u false k cm) A s.heap H locs := by rw [← psT_w S u wr k cm false]; exact hW
      refine lv_aload_n hx hb dX10_digit_33 rfl (lv_at hl 0 rfl) ?_
      refine md_get_isWrong C hW dX10_digit_34 ?_
      refine r_eq (y := (bI false)) (rfl) ?_
      refine r_bI_eq hx hb (b := false) (tgt := 44) dX10_digit_37 (by decide) (fun c_37 => ?_) (fun c_37 => ?_)
      · refine lv_aload_n hx hb dX10_digit_44 rfl (lv_at hl 0 rfl) ?_
        refine md_callg C hml hl.1 (As := []) (rest := []) (m_here l D aT ad S u sz k false cm hsz h60 (by omega)) gT_here hd_here rfl ⟨Nat.le_of_ble_eq_true rfl, Nat.le_of_ble_eq_true rfl⟩ ⟨Nat.le_refl _, Nat.le_refl _⟩ hW hA rfl (Nat.le_of_ble_eq_true rfl) dX10_digit_45 (fun r_45 H locs hq hW => ?_)
        subst hq
        refine lv_bipush (v := nI 48) hx hb dX10_digit_48 (by decide) ?_
        refine lv_isub hx hb dX10_digit_50 ?_
        refine lv_istore_n (lv' := [(1, .int ((hrF (S 4) sz u) - (nI 48))), (0, .ref (ad 0))]) hx hb dX10_digit_51 rfl hl (by decide) rfl (fun ls hl => ?_)
        refine lv_aload_n hx hb dX10_digit_52 rfl (lv_at hl 1 rfl) ?_
        refine lv_dup hx hb dX10_digit_53 rfl ?_
        refine md_get_place0 C hW dX10_digit_54 ?_
        refine r_eq (y := (nI u)) (rfl) ?_
        refine lv_aload_n hx hb dX10_digit_57 rfl (lv_at hl 1 rfl) ?_
        refine md_get_isWrong C hW dX10_digit_58 ?_
        refine r_eq (y := (bI false)) (rfl) ?_
        refine r_bI_eq hx hb (b := false) (tgt := 68) dX10_digit_61 (by decide) (fun c_61 => ?_) (fun c_61 => ?_)
        · refine lv_iconst (v := nI 1) hx hb dX10_digit_68 (by decide) ?_
          refine r_iaddN hx hb (a := u) (b := 1) dX10_digit_69 ?_
          refine md_put_place0 C hW dX10_digit_70 (fun H locs hW => ?_)
          have hW : MdB D aT ad (psT S (u + 1) false k cm) A s.heap H locs := by rw [← psT_p S u false k cm (u + 1)]; exact hW
          refine lv_iload_n hx hb dX10_digit_73 rfl (lv_at hl 0 rfl) ?_
          exact md_iret C hr hlocks rfl hW (⟨by rw [c_5, digP_y c_22]; try rfl, by rw [c_5, digP_y c_22]; try rfl⟩) dX10_digit_74
        · exact absurd c_61 (by decide)
      · exact absurd c_37 (by decide)
    · refine lv_iconst (v := nI 1) hx hb dX10_digit_25 (by decide) ?_
      refine lv_goto (tgt := 30) hx hb dX10_digit_26 (by decide) ?_
      refine md_put_isWrong C hW (by decide) (by decide) dX10_digit_30 (fun H locs hW => ?_)
      have hW : MdB D aT ad (psT S u true k cm) A s.heap H locs := by rw [← psT_w S u wr k cm true]; exact hW
      refine lv_aload_n hx hb dX10_digit_33 rfl (lv_at hl 0 rfl) ?_
      refine md_get_isWrong C hW dX10_digit_34 ?_
      refine r_eq (y := (bI true)) (rfl) ?_
      refine r_bI_eq hx hb (b := true) (tgt := 44) dX10_digit_37 (by decide) (fun c_37 => ?_) (fun c_37 => ?_)
      · exact absurd c_37 (by decide)
      · refine lv_iconst (v := nI 0) hx hb dX10_digit_40 (by decide) ?_
        refine lv_goto (tgt := 51) hx hb dX10_digit_41 (by decide) ?_
        refine lv_istore_n (lv' := [(1, .int (nI 0)), (0, .ref (ad 0))]) hx hb dX10_digit_51 rfl hl (by decide) rfl (fun ls hl => ?_)
        refine lv_aload_n hx hb dX10_digit_52 rfl (lv_at hl 1 rfl) ?_
        refine lv_dup hx hb dX10_digit_53 rfl ?_
        refine md_get_place0 C hW dX10_digit_54 ?_
        refine r_eq (y := (nI u)) (rfl) ?_
        refine lv_aload_n hx hb dX10_digit_57 rfl (lv_at hl 1 rfl) ?_
        refine md_get_isWrong C hW dX10_digit_58 ?_
        refine r_eq (y := (bI true)) (rfl) ?_
        refine r_bI_eq hx hb (b := true) (tgt := 68) dX10_digit_61 (by decide) (fun c_61 => ?_) (fun c_61 => ?_)
        · exact absurd c_61 (by decide)
        · refine lv_iconst (v := nI 0) hx hb dX10_digit_64 (by decide) ?_
          refine lv_goto (tgt := 69) hx hb dX10_digit_65 (by decide) ?_
          refine r_iaddN hx hb (a := u) (b := 0) dX10_digit_69 ?_
          refine md_put_place0 C hW dX10_digit_70 (fun H locs hW => ?_)
          have hW : MdB D aT ad (psT S (u + 0) true k cm) A s.heap H locs := by rw [← psT_p S u true k cm (u + 0)]; exact hW
          refine lv_iload_n hx hb dX10_digit_73 rfl (lv_at hl 0 rfl) ?_
          exact md_iret C hr hlocks rfl hW (⟨by rw [digP_n (Or.inr c_22)]; try rfl, by rw [digP_n (Or.inr c_22)]; try rfl⟩) dX10_digit_74
theorem gT_number : GoodIn gw (wsV RX10 233 RX10 yX10_number (Cond.code yX10_number cX10_number 2 (some .int) :: gw)) := gdV gw_2025 gw_2027 gw_57 gw_81 gw_2028
theorem hd_number : yX10_number.cls = RX10 ∧ yX10_number.cls ≠ "java/lang/invoke/MethodHandle" ∧ yX10_number.cls ≠ "java/lang/invoke/VarHandle" ∧ (parseMethodDescriptor yX10_number.desc).map (fun d => d.parameters.length) = some 0 := ⟨rfl, by decide +kernel, by decide +kernel, by decide +kernel⟩
theorem dX10_number_0 : decode cX10_number 0 = .ok (.aload_n 0, 1) := by decide +kernel
theorem dX10_number_1 : decode cX10_number 1 = .ok (.invokevirtual 227, 3) := by decide +kernel
theorem dX10_number_4 : decode cX10_number 4 = .ok (.istore_n 1, 1) := by decide +kernel
theorem dX10_number_5 : decode cX10_number 5 = .ok (.aload_n 0, 1) := by decide +kernel
theorem dX10_number_6 : decode cX10_number 6 = .ok (.getfield 216, 3) := by decide +kernel
theorem dX10_number_9 : decode cX10_number 9 = .ok (.ifCond .ne 32, 3) := by decide +kernel
theorem dX10_number_12 : decode cX10_number 12 = .ok (.aload_n 0, 1) := by decide +kernel
theorem dX10_number_13 : decode cX10_number 13 = .ok (.invokevirtual 220, 3) := by decide +kernel
theorem dX10_number_16 : decode cX10_number 16 = .ok (.i2l, 1) := by decide +kernel
theorem dX10_number_17 : decode cX10_number 17 = .ok (.ldc2_w 223, 3) := by decide +kernel
theorem dX10_number_20 : decode cX10_number 20 = .ok (.ldc2_w 225, 3) := by decide +kernel
theorem dX10_number_23 : decode cX10_number 23 = .ok (.invokestatic 63, 3) := by decide +kernel
theorem dX10_number_26 : decode cX10_number 26 = .ok (.ifCond .eq 15, 3) := by decide +kernel
theorem dX10_number_29 : decode cX10_number 29 = .ok (.bipush 10, 2) := by decide +kernel
theorem dX10_number_31 : decode cX10_number 31 = .ok (.iload_n 1, 1) := by decide +kernel
theorem dX10_number_32 : decode cX10_number 32 = .ok (.imul, 1) := by decide +kernel
theorem dX10_number_33 : decode cX10_number 33 = .ok (.aload_n 0, 1) := by decide +kernel
theorem dX10_number_34 : decode cX10_number 34 = .ok (.invokevirtual 227, 3) := by decide +kernel
theorem dX10_number_37 : decode cX10_number 37 = .ok (.iadd, 1) := by decide +kernel
theorem dX10_number_38 : decode cX10_number 38 = .ok (.goto 4, 3) := by decide +kernel
theorem dX10_number_41 : decode cX10_number 41 = .ok (.iload_n 1, 1) := by decide +kernel
theorem dX10_number_42 : decode cX10_number 42 = .ok (.ireturn, 1) := by decide +kernel
set_option maxHeartbeats 1000000 in
set_option maxRecDepth 20000 in
theorem m_number (l : Launch) (D : va_G) (aT : Nat → ClassId) (ad : Nat → Nat) (S : MSt) (u sz k : Nat) (wr : Bool) (cm : Nat → Int32) (hsz : S 13 22 = nI sz) (h60 : sz ≤ 60) (hp : u ≤ sz) : MdI l yX10_number cX10_number 2 .int 2 46 D aT ad [.ref (ad 0)] (psT S u wr k cm) (fun r S1 => r = (numP (S 4) sz (u, wr)).1 ∧ S1 = psT S (numP (S 4) sz (u, wr)).2.1 (numP (S 4) sz (u, wr)).2.2 k cm) := by
  refine MdI.of (by decide +kernel) rfl (Nat.le_of_ble_eq_true rfl) ?_
  intro p e s m below meth c A ls C hml hl hA hr hlocks hW
  have hl : lv_has ls 2 [(0, .ref (ad 0))] := hl
  have hx := C.1
  have hb := C.2.1
  refine lv_aload_n hx hb dX10_number_0 rfl (lv_at hl 0 rfl) ?_
  refine md_calli C hml hl.1 (As := []) (rest := []) (m_digit l D aT ad S u sz k wr cm hsz h60 (hp)) gT_digit hd_digit rfl ⟨Nat.le_of_ble_eq_true rfl, Nat.le_of_ble_eq_true rfl⟩ ⟨Nat.le_refl _, Nat.le_refl _⟩ hW hA rfl (Nat.le_of_ble_eq_true rfl) dX10_number_1 (fun r_1 S_1 H locs hq hW => ?_)
  obtain ⟨rfl, rfl⟩ := hq
  refine lv_istore_n (lv' := [(1, .int ((digP (S 4) sz (u, wr)).1)), (0, .ref (ad 0))]) hx hb dX10_number_4 rfl hl (by decide) rfl (fun ls hl => ?_)
  refine lv_aload_n hx hb dX10_number_5 rfl (lv_at hl 1 rfl) ?_
  refine md_get_isWrong C hW dX10_number_6 ?_
  refine r_eq (y := (bI ((digP (S 4) sz (u, wr)).2.2))) (rfl) ?_
  refine r_bI_ne hx hb (b := (digP (S 4) sz (u, wr)).2.2) (tgt := 41) dX10_number_9 (by decide) (fun c_9 => ?_) (fun c_9 => ?_)
  · refine lv_iload_n hx hb dX10_number_41 rfl (lv_at hl 0 rfl) ?_
    exact md_iret C hr hlocks rfl hW (⟨by unfold numP; rw [if_neg (by rintro ⟨z, -⟩; rw [c_9] at z; cases z)]; try rfl, by unfold numP; rw [if_neg (by rintro ⟨z, -⟩; rw [c_9] at z; cases z)]; try rfl⟩) dX10_number_42
  · refine lv_aload_n hx hb dX10_number_12 rfl (lv_at hl 1 rfl) ?_
    refine md_callg C hml hl.1 (As := []) (rest := []) (m_here l D aT ad S ((digP (S 4) sz (u, wr)).2.1) sz k ((digP (S 4) sz (u, wr)).2.2) cm hsz h60 ((digP_le hp).1)) gT_here hd_here rfl ⟨Nat.le_of_ble_eq_true rfl, Nat.le_of_ble_eq_true rfl⟩ ⟨Nat.le_refl _, Nat.le_refl _⟩ hW hA rfl (Nat.le_of_ble_eq_true rfl) dX10_number_13 (fun r_13 H locs hq hW => ?_)
    subst hq
    refine lv_i2l (v := ((hrF (S 4) sz ((digP (S 4) sz (u, wr)).2.1))).toInt64) hx hb dX10_number_16 rfl ?_
    refine lv_ldc2 hx hb C.2.2.2.1 (C.2.2.1 _ gw_2023) dX10_number_17 ?_
    refine lv_ldc2 hx hb C.2.2.2.1 (C.2.2.1 _ gw_2024) dX10_number_20 ?_
    refine md_calls C hml hl.1 (As := [.long (((hrF (S 4) sz ((digP (S 4) sz (u, wr)).2.1))).toInt64), .long 48, .long 57]) (rest := []) (m_in l (((hrF (S 4) sz ((digP (S 4) sz (u, wr)).2.1))).toInt64) 48 57) gT_in hd_in rfl ⟨Nat.le_of_ble_eq_true rfl, Nat.le_of_ble_eq_true rfl⟩ ⟨Nat.le_refl _, Nat.le_refl _⟩ rfl (Nat.le_of_ble_eq_true rfl) dX10_number_23 (fun r_23 hq => ?_)
    subst hq
    refine r_bI_eq hx hb (b := (rgB 48 57 (hrF (S 4) sz ((digP (S 4) sz (u, wr)).2.1)))) (tgt := 41) dX10_number_26 (by decide) (fun c_26 => ?_) (fun c_26 => ?_)
    · refine lv_iload_n hx hb dX10_number_41 rfl (lv_at hl 0 rfl) ?_
      exact md_iret C hr hlocks rfl hW (⟨by unfold numP; rw [if_neg (by rintro ⟨-, z⟩; exact absurd (c_26.symm.trans z) (by decide))]; try rfl, by unfold numP; rw [if_neg (by rintro ⟨-, z⟩; exact absurd (c_26.symm.trans z) (by decide))]; try rfl⟩) dX10_number_42
    · refine lv_bipush (v := nI 10) hx hb dX10_number_29 (by decide) ?_
      refine lv_iload_n hx hb dX10_number_31 rfl (lv_at hl 0 rfl) ?_
      refine lv_imul hx hb dX10_number_32 ?_
      refine lv_aload_n hx hb dX10_number_33 rfl (lv_at hl 1 rfl) ?_
      refine md_calli C hml hl.1 (As := []) (rest := [.int ((nI 10) * ((digP (S 4) sz (u, wr)).1))]) (m_digit l D aT ad S ((digP (S 4) sz (u, wr)).2.1) sz k ((digP (S 4) sz (u, wr)).2.2) cm hsz h60 ((digP_le hp).1)) gT_digit hd_digit rfl ⟨Nat.le_of_ble_eq_true rfl, Nat.le_of_ble_eq_true rfl⟩ ⟨Nat.le_refl _, Nat.le_refl _⟩ hW hA rfl (Nat.le_of_ble_eq_true rfl) dX10_number_34 (fun r_34 S_34 H locs hq hW => ?_)
      obtain ⟨rfl, rfl⟩ := hq
      refine lv_iadd hx hb dX10_number_37 ?_
      refine lv_goto (tgt := 42) hx hb dX10_number_38 (by decide) ?_
      exact md_iret C hr hlocks rfl hW (⟨by unfold numP; rw [if_pos ⟨c_9, c_26⟩]; try rfl, by unfold numP; rw [if_pos ⟨c_9, c_26⟩]; try rfl⟩) dX10_number_42
theorem gT_digitBehind : GoodIn gw (wsV RX10 236 RX10 yX10_digitBehind (Cond.code yX10_digitBehind cX10_digitBehind 1 (some .int) :: gw)) := gdV gw_2029 gw_2031 gw_58 gw_81 gw_2032
theorem hd_digitBehind : yX10_digitBehind.cls = RX10 ∧ yX10_digitBehind.cls ≠ "java/lang/invoke/MethodHandle" ∧ yX10_digitBehind.cls ≠ "java/lang/invoke/VarHandle" ∧ (parseMethodDescriptor yX10_digitBehind.desc).map (fun d => d.parameters.length) = some 0 := ⟨rfl, by decide +kernel, by decide +kernel, by decide +kernel⟩
theorem dX10_digitBehind_0 : decode cX10_digitBehind 0 = .ok (.aload_n 0, 1) := by decide +kernel
theorem dX10_digitBehind_1 : decode cX10_digitBehind 1 = .ok (.bipush 32, 2) := by decide +kernel
theorem dX10_digitBehind_3 : decode cX10_digitBehind 3 = .ok (.invokevirtual 230, 3) := by decide +kernel
theorem dX10_digitBehind_6 : decode cX10_digitBehind 6 = .ok (.aload_n 0, 1) := by decide +kernel
theorem dX10_digitBehind_7 : decode cX10_digitBehind 7 = .ok (.invokevirtual 227, 3) := by decide +kernel
theorem dX10_digitBehind_10 : decode cX10_digitBehind 10 = .ok (.ireturn, 1) := by decide +kernel
set_option maxHeartbeats 1000000 in
set_option maxRecDepth 20000 in
theorem m_digitBehind (l : Launch) (D : va_G) (aT : Nat → ClassId) (ad : Nat → Nat) (S : MSt) (u sz k : Nat) (wr : Bool) (cm : Nat → Int32) (hsz : S 13 22 = nI sz) (h60 : sz ≤ 60) (hp : u ≤ sz) : MdI l yX10_digitBehind cX10_digitBehind 1 .int 2 46 D aT ad [.ref (ad 0)] (psT S u wr k cm) (fun r S1 => r = (digP (S 4) sz (expP (S 4) sz (nI 32) (u, wr))).1 ∧ S1 = psT S (digP (S 4) sz (expP (S 4) sz (nI 32) (u, wr))).2.1 (digP (S 4) sz (expP (S 4) sz (nI 32) (u, wr))).2.2 k cm) := by
  refine MdI.of (by decide +kernel) rfl (Nat.le_of_ble_eq_true rfl) ?_
  intro p e s m below meth c A ls C hml hl hA hr hlocks hW
  have hl : lv_has ls 1 [(0, .ref (ad 0))] := hl
  have hx := C.1
  have hb := C.2.1
  refine lv_aload_n hx hb dX10_digitBehind_0 rfl (lv_at hl 0 rfl) ?_
  refine lv_bipush (v := nI 32) hx hb dX10_digitBehind_1 (by decide) ?_
  refine md_callv C hml hl.1 (As := [.int (nI 32)]) (rest := []) (m_expects l D aT ad S u sz k wr cm hsz h60 (hp) (nI 32)) gT_expects hd_expects rfl ⟨Nat.le_of_ble_eq_true rfl, Nat.le_of_ble_eq_true rfl⟩ ⟨Nat.le_refl _, Nat.le_refl _⟩ hW hA rfl (Nat.le_of_ble_eq_true rfl) dX10_digitBehind_3 (fun S_3 H locs hq hW => ?_)
  subst hq
  refine lv_aload_n hx hb dX10_digitBehind_6 rfl (lv_at hl 0 rfl) ?_
  refine md_calli C hml hl.1 (As := []) (rest := []) (m_digit l D aT ad S ((expP (S 4) sz (nI 32) (u, wr)).1) sz k ((expP (S 4) sz (nI 32) (u, wr)).2) cm hsz h60 ((expP_le (by decide) hp).1)) gT_digit hd_digit rfl ⟨Nat.le_of_ble_eq_true rfl, Nat.le_of_ble_eq_true rfl⟩ ⟨Nat.le_refl _, Nat.le_refl _⟩ hW hA rfl (Nat.le_of_ble_eq_true rfl) dX10_digitBehind_7 (fun r_7 S_7 H locs hq hW => ?_)
  obtain ⟨rfl, rfl⟩ := hq
  exact md_iret C hr hlocks rfl hW (⟨rfl, rfl⟩) dX10_digitBehind_10
theorem gT_numberBehind : GoodIn gw (wsV RX10 239 RX10 yX10_numberBehind (Cond.code yX10_numberBehind cX10_numberBehind 1 (some .int) :: gw)) := gdV gw_2037 gw_2039 gw_60 gw_81 gw_2040
theorem hd_numberBehind : yX10_numberBehind.cls = RX10 ∧ yX10_numberBehind.cls ≠ "java/lang/invoke/MethodHandle" ∧ yX10_numberBehind.cls ≠ "java/lang/invoke/VarHandle" ∧ (parseMethodDescriptor yX10_numberBehind.desc).map (fun d => d.parameters.length) = some 0 := ⟨rfl, by decide +kernel, by decide +kernel, by decide +kernel⟩
theorem dX10_numberBehind_0 : decode cX10_numberBehind 0 = .ok (.aload_n 0, 1) := by decide +kernel
theorem dX10_numberBehind_1 : decode cX10_numberBehind 1 = .ok (.bipush 32, 2) := by decide +kernel
theorem dX10_numberBehind_3 : decode cX10_numberBehind 3 = .ok (.invokevirtual 230, 3) := by decide +kernel
theorem dX10_numberBehind_6 : decode cX10_numberBehind 6 = .ok (.aload_n 0, 1) := by decide +kernel
theorem dX10_numberBehind_7 : decode cX10_numberBehind 7 = .ok (.invokevirtual 233, 3) := by decide +kernel
theorem dX10_numberBehind_10 : decode cX10_numberBehind 10 = .ok (.ireturn, 1) := by decide +kernel
set_option maxHeartbeats 1000000 in
set_option maxRecDepth 20000 in
theorem m_numberBehind (l : Launch) (D : va_G) (aT : Nat → ClassId) (ad : Nat → Nat) (S : MSt) (u sz k : Nat) (wr : Bool) (cm : Nat → Int32) (hsz : S 13 22 = nI sz) (h60 : sz ≤ 60) (hp : u ≤ sz) : MdI l yX10_numberBehind cX10_numberBehind 1 .int 3 67 D aT ad [.ref (ad 0)] (psT S u wr k cm) (fun r S1 => r = (numP (S 4) sz (expP (S 4) sz (nI 32) (u, wr))).1 ∧ S1 = psT S (numP (S 4) sz (expP (S 4) sz (nI 32) (u, wr))).2.1 (numP (S 4) sz (expP (S 4) sz (nI 32) (u, wr))).2.2 k cm) := by
  refine MdI.of (by decide +kernel) rfl (Nat.le_of_ble_eq_true rfl) ?_
  intro p e s m below meth c A ls C hml hl hA hr hlocks hW
  have hl : lv_has ls 1 [(0, .ref (ad 0))] := hl
  have hx := C.1
  have hb := C.2.1
  refine lv_aload_n hx hb dX10_numberBehind_0 rfl (lv_at hl 0 rfl) ?_
  refine lv_bipush (v := nI 32) hx hb dX10_numberBehind_1 (by decide) ?_
  refine md_callv C hml hl.1 (As := [.int (nI 32)]) (rest := []) (m_expects l D aT ad S u sz k wr cm hsz h60 (hp) (nI 32)) gT_expects hd_expects rfl ⟨Nat.le_of_ble_eq_true rfl, Nat.le_of_ble_eq_true rfl⟩ ⟨Nat.le_refl _, Nat.le_refl _⟩ hW hA rfl (Nat.le_of_ble_eq_true rfl) dX10_numberBehind_3 (fun S_3 H locs hq hW => ?_)
  subst hq
  refine lv_aload_n hx hb dX10_numberBehind_6 rfl (lv_at hl 0 rfl) ?_
  refine md_calli C hml hl.1 (As := []) (rest := []) (m_number l D aT ad S ((expP (S 4) sz (nI 32) (u, wr)).1) sz k ((expP (S 4) sz (nI 32) (u, wr)).2) cm hsz h60 ((expP_le (by decide) hp).1)) gT_number hd_number rfl ⟨Nat.le_of_ble_eq_true rfl, Nat.le_of_ble_eq_true rfl⟩ ⟨Nat.le_refl _, Nat.le_refl _⟩ hW hA rfl (Nat.le_of_ble_eq_true rfl) dX10_numberBehind_7 (fun r_7 S_7 H locs hq hW => ?_)
  obtain ⟨rfl, rfl⟩ := hq
  exact md_iret C hr hlocks rfl hW (⟨rfl, rfl⟩) dX10_numberBehind_10
end
