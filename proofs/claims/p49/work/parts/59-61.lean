section
theorem c16_char (x : Int32) : c16 x = vp_nar .char (c16 x) := by
  rw [vp_nar_char]
  unfold c16
  rw [UInt32.toUInt32_toInt32]
  congr 1
  apply UInt32.toNat_inj.mp
  have h : (x.toUInt32 % 65536).toNat < 65536 := by
    rw [UInt32.toNat_mod]
    exact Nat.mod_lt _ (by decide)
  rw [UInt16.toNat_toUInt32, UInt32.toNat_toUInt16]
  exact (Nat.mod_eq_of_lt h).symm
theorem lg_self (x : Int64) : lg_cmp x x = nI 0 := by
  unfold lg_cmp
  rw [if_neg (show ¬ x > x from Int64.lt_irrefl), if_pos rfl]
  rfl
theorem icmp_self (z : Int) : compare z z = .eq := by
  show compareOfLessAndEq z z = .eq
  unfold compareOfLessAndEq
  rw [if_neg (Int.lt_irrefl z), if_pos rfl]
theorem dec64_nn {a : UInt64} (h : vf_n64 a) : FP.Core.decode FP.Core.b64 a.toNat ≠ .nan := by
  unfold vf_n64 at h
  rw [UInt64.le_iff_toNat_le, UInt64.toNat_and] at h
  have h' : a.toNat &&& (2 ^ 63 - 1) ≤ 9218868437227405312 := h
  rw [Nat.and_two_pow_sub_one_eq_mod] at h'
  have ha : a.toNat < 18446744073709551616 := a.toNat_lt
  unfold FP.Core.decode
  split
  · rename_i e
    have e1 : a.toNat / 4503599627370496 % 2048 = 2047 := e
    have e2 : FP.Core.fieldT FP.Core.b64 a.toNat = 0 := by show a.toNat % 4503599627370496 = 0; omega
    rw [if_pos e2]
    intro q; cases q
  · split <;> intro q <;> cases q
theorem dcmp_self {x : UInt64} (h : vf_n64 x) : FP.dcmp x x = some .eq := by
  show FP.Core.order (FP.Core.decode FP.Core.b64 x.toNat) (FP.Core.decode FP.Core.b64 x.toNat) = some .eq
  have hn := dec64_nn h
  cases hd : FP.Core.decode FP.Core.b64 x.toNat with
  | nan => exact absurd hd hn
  | inf s => exact congrArg some (icmp_self _)
  | fin s c q => exact congrArg some (icmp_self _)
section CXDA
variable {p : Program} {l : Launch} {e : Env} {R : Room} {s : State} {m : MethodId} {args : Array Value} {below : List Frame} {meth : Method} {c : Code} {H : Heap} {locs : List Loc} {cells slots : Nat} {Q : State → Prop} {cc : ByteArray} {pc : Nat} {ls : Array Slot} {rest : List Value} {D : va_G} {aT : Nat → ClassId} {Wd : va_W} {A : Nat → Prop} {H0 : Heap} {own : String} {a : Nat}
theorem cx_dald (C : CxX p c cc s args m D aT own) (hW : CxB D Wd A H0 H locs) (i t0 : Nat) {n j : Nat} {f : Nat → UInt64} {x : UInt64} {ty : FieldType} (he : Wd[i]? = some (a, .inl (aT t0, n, .inr (.inr (.inr (.inl f)))))) (ht : (tyG aT)[t0]? = some (aT t0, ty)) (hc : ty = .double) (hj : j < n) (hn : n < 2 ^ 31) (hv : f j = x) (hdg : decode cc pc = .ok (.daload, 1)) (kk : W p l e R s m args below meth c H locs cells slots Q (F0 m (pc + 1) ls (.double x :: rest))) : W p l e R s m args below meth c H locs cells slots Q (F0 m pc ls (.int (nI j) :: .ref a :: rest)) := by
  obtain ⟨hx, hb, hg, hown, hK⟩ := C
  subst hc
  refine va_dald (D := D) hx hb hK hW.1 i t0 he ht (vp_in_nI hj (by omega)) hdg ?_
  rw [nI_clamp (by omega), hv]
  exact kk
end CXDA
/-- what is left of the law behind a call -/
def LK (p : Program) (l : Launch) (e : Env) (s : State) (m : MethodId) (b : Nat) (below : List Frame) (meth : Method) (c : Code) (D : va_G) (aT : Nat → ClassId) (A : Nat → Prop) (ad : Nat → Nat) (x0 u0 u1 i Bd cells slots : Nat) (Q : State → Prop) : Prop :=
  ∀ (S1 : MSt) (Bd2 : Nat) (o2 : Nat → Int64) (q2 : Nat → UInt64) (W2 : va_W) (ls1 : Array Slot) (H1 : Heap) (locs1 : List Loc), Bd2 ≤ Bd + 13 → ClO D aT x0 S1 Bd2 W2 → LnO S1 → CxB D (mdW aT ad S1 ++ (oD aT u1 q2 ++ (oL aT u0 o2 ++ W2))) A s.heap H1 locs1 → lv_has ls1 9 [(5, .int (nI i)), (4, .ref u1), (3, .ref u0), (2, .ref (ad 0)), (1, .ref x0), (0, .ref b)] → W p l e room_1 s m #[Value.ref b] below meth c H1 locs1 (cells + 110) (slots + 13600) Q (F0 m 1462 ls1 [])
theorem gR_addHedge : GoodIn gw (wsV RL 148 RX10 yX10_addHedge (Cond.code yX10_addHedge cX10_addHedge 4 (some .int) :: gw)) := gdV gw_1706 gw_1707 gw_1708 gw_81 gw_1709
theorem hR_addHedge : yX10_addHedge.cls = RX10 ∧ yX10_addHedge.cls ≠ "java/lang/invoke/MethodHandle" ∧ yX10_addHedge.cls ≠ "java/lang/invoke/VarHandle" ∧ (parseMethodDescriptor yX10_addHedge.desc).map (fun d => d.parameters.length) = some 3 := ⟨rfl, by decide +kernel, by decide +kernel, by decide +kernel⟩
theorem gR_propose : GoodIn gw (wsV RL 152 RX10 yX10_propose (Cond.code yX10_propose cX10_propose 3 (some .int) :: gw)) := gdV gw_1734 gw_1735 gw_1736 gw_81 gw_1737
theorem hR_propose : yX10_propose.cls = RX10 ∧ yX10_propose.cls ≠ "java/lang/invoke/MethodHandle" ∧ yX10_propose.cls ≠ "java/lang/invoke/VarHandle" ∧ (parseMethodDescriptor yX10_propose.desc).map (fun d => d.parameters.length) = some 2 := ⟨rfl, by decide +kernel, by decide +kernel, by decide +kernel⟩
theorem gR_amend : GoodIn gw (wsV RL 155 RX10 yX10_amend (Cond.code yX10_amend cX10_amend 4 (some .int) :: gw)) := gdV gw_1747 gw_1748 gw_1749 gw_81 gw_1750
theorem hR_amend : yX10_amend.cls = RX10 ∧ yX10_amend.cls ≠ "java/lang/invoke/MethodHandle" ∧ yX10_amend.cls ≠ "java/lang/invoke/VarHandle" ∧ (parseMethodDescriptor yX10_amend.desc).map (fun d => d.parameters.length) = some 3 := ⟨rfl, by decide +kernel, by decide +kernel, by decide +kernel⟩
theorem gR_prune : GoodIn gw (wsV RL 158 RX10 yX10_prune (Cond.code yX10_prune cX10_prune 3 (some .int) :: gw)) := gdV gw_1763 gw_1764 gw_1765 gw_81 gw_1766
theorem hR_prune : yX10_prune.cls = RX10 ∧ yX10_prune.cls ≠ "java/lang/invoke/MethodHandle" ∧ yX10_prune.cls ≠ "java/lang/invoke/VarHandle" ∧ (parseMethodDescriptor yX10_prune.desc).map (fun d => d.parameters.length) = some 2 := ⟨rfl, by decide +kernel, by decide +kernel, by decide +kernel⟩
theorem gR_regrow : GoodIn gw (wsV RL 162 RX10 yX10_regrow (Cond.code yX10_regrow cX10_regrow 2 (some .int) :: gw)) := gdV gw_1787 gw_1788 gw_1789 gw_81 gw_1790
theorem hR_regrow : yX10_regrow.cls = RX10 ∧ yX10_regrow.cls ≠ "java/lang/invoke/MethodHandle" ∧ yX10_regrow.cls ≠ "java/lang/invoke/VarHandle" ∧ (parseMethodDescriptor yX10_regrow.desc).map (fun d => d.parameters.length) = some 1 := ⟨rfl, by decide +kernel, by decide +kernel, by decide +kernel⟩
theorem gR_vote : GoodIn gw (wsV RL 165 RX10 yX10_vote (Cond.code yX10_vote cX10_vote 2 (some .char) :: gw)) := gdV gw_1804 gw_1805 gw_1806 gw_81 gw_1807
theorem hR_vote : yX10_vote.cls = RX10 ∧ yX10_vote.cls ≠ "java/lang/invoke/MethodHandle" ∧ yX10_vote.cls ≠ "java/lang/invoke/VarHandle" ∧ (parseMethodDescriptor yX10_vote.desc).map (fun d => d.parameters.length) = some 1 := ⟨rfl, by decide +kernel, by decide +kernel, by decide +kernel⟩
theorem gR_passSeason : GoodIn gw (wsV RL 169 RX10 yX10_passSeason (Cond.code yX10_passSeason cX10_passSeason 1 (some .int) :: gw)) := gdV gw_1835 gw_1836 gw_1837 gw_81 gw_1838
theorem hR_passSeason : yX10_passSeason.cls = RX10 ∧ yX10_passSeason.cls ≠ "java/lang/invoke/MethodHandle" ∧ yX10_passSeason.cls ≠ "java/lang/invoke/VarHandle" ∧ (parseMethodDescriptor yX10_passSeason.desc).map (fun d => d.parameters.length) = some 0 := ⟨rfl, by decide +kernel, by decide +kernel, by decide +kernel⟩
theorem gR_hedgeCount : GoodIn gw (wsV RL 173 RX10 yX10_hedgeCount (Cond.code yX10_hedgeCount cX10_hedgeCount 1 (some .int) :: gw)) := gdV gw_1844 gw_1845 gw_1846 gw_81 gw_1847
theorem hR_hedgeCount : yX10_hedgeCount.cls = RX10 ∧ yX10_hedgeCount.cls ≠ "java/lang/invoke/MethodHandle" ∧ yX10_hedgeCount.cls ≠ "java/lang/invoke/VarHandle" ∧ (parseMethodDescriptor yX10_hedgeCount.desc).map (fun d => d.parameters.length) = some 0 := ⟨rfl, by decide +kernel, by decide +kernel, by decide +kernel⟩
theorem gR_leaves : GoodIn gw (wsV RL 176 RX10 yX10_leaves (Cond.code yX10_leaves cX10_leaves 2 (some .int) :: gw)) := gdV gw_1848 gw_1849 gw_1850 gw_81 gw_1851
theorem hR_leaves : yX10_leaves.cls = RX10 ∧ yX10_leaves.cls ≠ "java/lang/invoke/MethodHandle" ∧ yX10_leaves.cls ≠ "java/lang/invoke/VarHandle" ∧ (parseMethodDescriptor yX10_leaves.desc).map (fun d => d.parameters.length) = some 1 := ⟨rfl, by decide +kernel, by decide +kernel, by decide +kernel⟩
theorem gR_thorns : GoodIn gw (wsV RL 179 RX10 yX10_thorns (Cond.code yX10_thorns cX10_thorns 2 (some .int) :: gw)) := gdV gw_1856 gw_1857 gw_1858 gw_81 gw_1859
theorem hR_thorns : yX10_thorns.cls = RX10 ∧ yX10_thorns.cls ≠ "java/lang/invoke/MethodHandle" ∧ yX10_thorns.cls ≠ "java/lang/invoke/VarHandle" ∧ (parseMethodDescriptor yX10_thorns.desc).map (fun d => d.parameters.length) = some 1 := ⟨rfl, by decide +kernel, by decide +kernel, by decide +kernel⟩
theorem gR_hedgeAtRank : GoodIn gw (wsV RL 182 RX10 yX10_hedgeAtRank (Cond.code yX10_hedgeAtRank cX10_hedgeAtRank 5 (some .int) :: gw)) := gdV gw_1860 gw_1861 gw_1862 gw_81 gw_1863
theorem hR_hedgeAtRank : yX10_hedgeAtRank.cls = RX10 ∧ yX10_hedgeAtRank.cls ≠ "java/lang/invoke/MethodHandle" ∧ yX10_hedgeAtRank.cls ≠ "java/lang/invoke/VarHandle" ∧ (parseMethodDescriptor yX10_hedgeAtRank.desc).map (fun d => d.parameters.length) = some 1 := ⟨rfl, by decide +kernel, by decide +kernel, by decide +kernel⟩
theorem gR_leavesInFavour : GoodIn gw (wsV RL 185 RX10 yX10_leavesInFavour (Cond.code yX10_leavesInFavour cX10_leavesInFavour 3 (some .int) :: gw)) := gdV gw_1868 gw_1869 gw_1870 gw_81 gw_1871
theorem hR_leavesInFavour : yX10_leavesInFavour.cls = RX10 ∧ yX10_leavesInFavour.cls ≠ "java/lang/invoke/MethodHandle" ∧ yX10_leavesInFavour.cls ≠ "java/lang/invoke/VarHandle" ∧ (parseMethodDescriptor yX10_leavesInFavour.desc).map (fun d => d.parameters.length) = some 1 := ⟨rfl, by decide +kernel, by decide +kernel, by decide +kernel⟩
theorem gR_wouldVeto : GoodIn gw (wsV RL 188 RX10 yX10_wouldVeto (Cond.code yX10_wouldVeto cX10_wouldVeto 4 (some .boolean) :: gw)) := gdV gw_1872 gw_1873 gw_1874 gw_81 gw_1875
theorem hR_wouldVeto : yX10_wouldVeto.cls = RX10 ∧ yX10_wouldVeto.cls ≠ "java/lang/invoke/MethodHandle" ∧ yX10_wouldVeto.cls ≠ "java/lang/invoke/VarHandle" ∧ (parseMethodDescriptor yX10_wouldVeto.desc).map (fun d => d.parameters.length) = some 2 := ⟨rfl, by decide +kernel, by decide +kernel, by decide +kernel⟩
theorem gR_motionCount : GoodIn gw (wsV RL 192 RX10 yX10_motionCount (Cond.code yX10_motionCount cX10_motionCount 1 (some .int) :: gw)) := gdV gw_1876 gw_1877 gw_1878 gw_81 gw_1879
theorem hR_motionCount : yX10_motionCount.cls = RX10 ∧ yX10_motionCount.cls ≠ "java/lang/invoke/MethodHandle" ∧ yX10_motionCount.cls ≠ "java/lang/invoke/VarHandle" ∧ (parseMethodDescriptor yX10_motionCount.desc).map (fun d => d.parameters.length) = some 0 := ⟨rfl, by decide +kernel, by decide +kernel, by decide +kernel⟩
theorem gR_motionAt : GoodIn gw (wsV RL 195 RX10 yX10_motionAt (Cond.code yX10_motionAt cX10_motionAt 2 (some .int) :: gw)) := gdV gw_1880 gw_1881 gw_1882 gw_81 gw_1883
theorem hR_motionAt : yX10_motionAt.cls = RX10 ∧ yX10_motionAt.cls ≠ "java/lang/invoke/MethodHandle" ∧ yX10_motionAt.cls ≠ "java/lang/invoke/VarHandle" ∧ (parseMethodDescriptor yX10_motionAt.desc).map (fun d => d.parameters.length) = some 1 := ⟨rfl, by decide +kernel, by decide +kernel, by decide +kernel⟩
theorem gR_tone : GoodIn gw (wsV RL 198 RX10 yX10_tone (Cond.code yX10_tone cX10_tone 2 (some .int) :: gw)) := gdV gw_1884 gw_1885 gw_1886 gw_81 gw_1887
theorem hR_tone : yX10_tone.cls = RX10 ∧ yX10_tone.cls ≠ "java/lang/invoke/MethodHandle" ∧ yX10_tone.cls ≠ "java/lang/invoke/VarHandle" ∧ (parseMethodDescriptor yX10_tone.desc).map (fun d => d.parameters.length) = some 1 := ⟨rfl, by decide +kernel, by decide +kernel, by decide +kernel⟩
theorem gR_weight : GoodIn gw (wsV RL 201 RX10 yX10_weight (Cond.code yX10_weight cX10_weight 2 (some .int) :: gw)) := gdV gw_1892 gw_1893 gw_1894 gw_81 gw_1895
theorem hR_weight : yX10_weight.cls = RX10 ∧ yX10_weight.cls ≠ "java/lang/invoke/MethodHandle" ∧ yX10_weight.cls ≠ "java/lang/invoke/VarHandle" ∧ (parseMethodDescriptor yX10_weight.desc).map (fun d => d.parameters.length) = some 1 := ⟨rfl, by decide +kernel, by decide +kernel, by decide +kernel⟩
theorem gR_parent : GoodIn gw (wsV RL 204 RX10 yX10_parent (Cond.code yX10_parent cX10_parent 3 (some .int) :: gw)) := gdV gw_1896 gw_1897 gw_1898 gw_81 gw_1899
theorem hR_parent : yX10_parent.cls = RX10 ∧ yX10_parent.cls ≠ "java/lang/invoke/MethodHandle" ∧ yX10_parent.cls ≠ "java/lang/invoke/VarHandle" ∧ (parseMethodDescriptor yX10_parent.desc).map (fun d => d.parameters.length) = some 1 := ⟨rfl, by decide +kernel, by decide +kernel, by decide +kernel⟩
theorem gR_depth : GoodIn gw (wsV RL 207 RX10 yX10_depth (Cond.code yX10_depth cX10_depth 2 (some .int) :: gw)) := gdV gw_1900 gw_1901 gw_1902 gw_81 gw_1903
theorem hR_depth : yX10_depth.cls = RX10 ∧ yX10_depth.cls ≠ "java/lang/invoke/MethodHandle" ∧ yX10_depth.cls ≠ "java/lang/invoke/VarHandle" ∧ (parseMethodDescriptor yX10_depth.desc).map (fun d => d.parameters.length) = some 1 := ⟨rfl, by decide +kernel, by decide +kernel, by decide +kernel⟩
theorem gR_isTip : GoodIn gw (wsV RL 210 RX10 yX10_isTip (Cond.code yX10_isTip cX10_isTip 2 (some .boolean) :: gw)) := gdV gw_1904 gw_1905 gw_1906 gw_81 gw_1907
theorem hR_isTip : yX10_isTip.cls = RX10 ∧ yX10_isTip.cls ≠ "java/lang/invoke/MethodHandle" ∧ yX10_isTip.cls ≠ "java/lang/invoke/VarHandle" ∧ (parseMethodDescriptor yX10_isTip.desc).map (fun d => d.parameters.length) = some 1 := ⟨rfl, by decide +kernel, by decide +kernel, by decide +kernel⟩
theorem gR_branchSize : GoodIn gw (wsV RL 213 RX10 yX10_branchSize (Cond.code yX10_branchSize cX10_branchSize 5 (some .int) :: gw)) := gdV gw_1908 gw_1909 gw_1910 gw_81 gw_1911
theorem hR_branchSize : yX10_branchSize.cls = RX10 ∧ yX10_branchSize.cls ≠ "java/lang/invoke/MethodHandle" ∧ yX10_branchSize.cls ≠ "java/lang/invoke/VarHandle" ∧ (parseMethodDescriptor yX10_branchSize.desc).map (fun d => d.parameters.length) = some 1 := ⟨rfl, by decide +kernel, by decide +kernel, by decide +kernel⟩
theorem gR_lastTip : GoodIn gw (wsV RL 216 RX10 yX10_lastTip (Cond.code yX10_lastTip cX10_lastTip 3 (some .int) :: gw)) := gdV gw_1912 gw_1913 gw_1914 gw_81 gw_1915
theorem hR_lastTip : yX10_lastTip.cls = RX10 ∧ yX10_lastTip.cls ≠ "java/lang/invoke/MethodHandle" ∧ yX10_lastTip.cls ≠ "java/lang/invoke/VarHandle" ∧ (parseMethodDescriptor yX10_lastTip.desc).map (fun d => d.parameters.length) = some 1 := ⟨rfl, by decide +kernel, by decide +kernel, by decide +kernel⟩
theorem gR_motionAtRank : GoodIn gw (wsV RL 219 RX10 yX10_motionAtRank (Cond.code yX10_motionAtRank cX10_motionAtRank 5 (some .int) :: gw)) := gdV gw_1916 gw_1917 gw_1918 gw_81 gw_1919
theorem hR_motionAtRank : yX10_motionAtRank.cls = RX10 ∧ yX10_motionAtRank.cls ≠ "java/lang/invoke/MethodHandle" ∧ yX10_motionAtRank.cls ≠ "java/lang/invoke/VarHandle" ∧ (parseMethodDescriptor yX10_motionAtRank.desc).map (fun d => d.parameters.length) = some 1 := ⟨rfl, by decide +kernel, by decide +kernel, by decide +kernel⟩
theorem gR_commonMotion : GoodIn gw (wsV RL 222 RX10 yX10_commonMotion (Cond.code yX10_commonMotion cX10_commonMotion 6 (some .int) :: gw)) := gdV gw_1924 gw_1925 gw_1926 gw_81 gw_1927
theorem hR_commonMotion : yX10_commonMotion.cls = RX10 ∧ yX10_commonMotion.cls ≠ "java/lang/invoke/MethodHandle" ∧ yX10_commonMotion.cls ≠ "java/lang/invoke/VarHandle" ∧ (parseMethodDescriptor yX10_commonMotion.desc).map (fun d => d.parameters.length) = some 2 := ⟨rfl, by decide +kernel, by decide +kernel, by decide +kernel⟩
theorem gR_commonMotionByRows : GoodIn gw (wsV RL 225 RX10 yX10_commonMotionByRows (Cond.code yX10_commonMotionByRows cX10_commonMotionByRows 3 (some .int) :: gw)) := gdV gw_1932 gw_1933 gw_1934 gw_81 gw_1935
theorem hR_commonMotionByRows : yX10_commonMotionByRows.cls = RX10 ∧ yX10_commonMotionByRows.cls ≠ "java/lang/invoke/MethodHandle" ∧ yX10_commonMotionByRows.cls ≠ "java/lang/invoke/VarHandle" ∧ (parseMethodDescriptor yX10_commonMotionByRows.desc).map (fun d => d.parameters.length) = some 2 := ⟨rfl, by decide +kernel, by decide +kernel, by decide +kernel⟩
theorem gR_pathSize : GoodIn gw (wsV RL 228 RX10 yX10_pathSize (Cond.code yX10_pathSize cX10_pathSize 3 (some .int) :: gw)) := gdV gw_1937 gw_1938 gw_1939 gw_81 gw_1940
theorem hR_pathSize : yX10_pathSize.cls = RX10 ∧ yX10_pathSize.cls ≠ "java/lang/invoke/MethodHandle" ∧ yX10_pathSize.cls ≠ "java/lang/invoke/VarHandle" ∧ (parseMethodDescriptor yX10_pathSize.desc).map (fun d => d.parameters.length) = some 2 := ⟨rfl, by decide +kernel, by decide +kernel, by decide +kernel⟩
theorem gR_longestPath : GoodIn gw (wsV RL 231 RX10 yX10_longestPath (Cond.code yX10_longestPath cX10_longestPath 6 (some .int) :: gw)) := gdV gw_1945 gw_1946 gw_1947 gw_81 gw_1948
theorem hR_longestPath : yX10_longestPath.cls = RX10 ∧ yX10_longestPath.cls ≠ "java/lang/invoke/MethodHandle" ∧ yX10_longestPath.cls ≠ "java/lang/invoke/VarHandle" ∧ (parseMethodDescriptor yX10_longestPath.desc).map (fun d => d.parameters.length) = some 1 := ⟨rfl, by decide +kernel, by decide +kernel, by decide +kernel⟩
theorem gR_longestPathBySweeps : GoodIn gw (wsV RL 234 RX10 yX10_longestPathBySweeps (Cond.code yX10_longestPathBySweeps cX10_longestPathBySweeps 2 (some .int) :: gw)) := gdV gw_1949 gw_1950 gw_1951 gw_81 gw_1952
theorem hR_longestPathBySweeps : yX10_longestPathBySweeps.cls = RX10 ∧ yX10_longestPathBySweeps.cls ≠ "java/lang/invoke/MethodHandle" ∧ yX10_longestPathBySweeps.cls ≠ "java/lang/invoke/VarHandle" ∧ (parseMethodDescriptor yX10_longestPathBySweeps.desc).map (fun d => d.parameters.length) = some 1 := ⟨rfl, by decide +kernel, by decide +kernel, by decide +kernel⟩
theorem gR_bestWorth : GoodIn gw (wsV RL 238 RX10 yX10_bestWorth (Cond.code yX10_bestWorth cX10_bestWorth 1 (some .int) :: gw)) := gdV gw_1954 gw_1955 gw_1956 gw_81 gw_1957
theorem hR_bestWorth : yX10_bestWorth.cls = RX10 ∧ yX10_bestWorth.cls ≠ "java/lang/invoke/MethodHandle" ∧ yX10_bestWorth.cls ≠ "java/lang/invoke/VarHandle" ∧ (parseMethodDescriptor yX10_bestWorth.desc).map (fun d => d.parameters.length) = some 0 := ⟨rfl, by decide +kernel, by decide +kernel, by decide +kernel⟩
theorem gR_bestWorthBySets : GoodIn gw (wsV RL 242 RX10 yX10_bestWorthBySets (Cond.code yX10_bestWorthBySets cX10_bestWorthBySets 1 (some .int) :: gw)) := gdV gw_1962 gw_1963 gw_1964 gw_81 gw_1965
theorem hR_bestWorthBySets : yX10_bestWorthBySets.cls = RX10 ∧ yX10_bestWorthBySets.cls ≠ "java/lang/invoke/MethodHandle" ∧ yX10_bestWorthBySets.cls ≠ "java/lang/invoke/VarHandle" ∧ (parseMethodDescriptor yX10_bestWorthBySets.desc).map (fun d => d.parameters.length) = some 0 := ⟨rfl, by decide +kernel, by decide +kernel, by decide +kernel⟩
theorem gR_goodSets : GoodIn gw (wsV RL 246 RX10 yX10_goodSets (Cond.code yX10_goodSets cX10_goodSets 1 (some .int) :: gw)) := gdV gw_1967 gw_1968 gw_1969 gw_81 gw_1970
theorem hR_goodSets : yX10_goodSets.cls = RX10 ∧ yX10_goodSets.cls ≠ "java/lang/invoke/MethodHandle" ∧ yX10_goodSets.cls ≠ "java/lang/invoke/VarHandle" ∧ (parseMethodDescriptor yX10_goodSets.desc).map (fun d => d.parameters.length) = some 0 := ⟨rfl, by decide +kernel, by decide +kernel, by decide +kernel⟩
theorem gR_season : GoodIn gw (wsV RL 250 RX10 yX10_season (Cond.code yX10_season cX10_season 1 (some .int) :: gw)) := gdV gw_1971 gw_1972 gw_1973 gw_81 gw_1974
theorem hR_season : yX10_season.cls = RX10 ∧ yX10_season.cls ≠ "java/lang/invoke/MethodHandle" ∧ yX10_season.cls ≠ "java/lang/invoke/VarHandle" ∧ (parseMethodDescriptor yX10_season.desc).map (fun d => d.parameters.length) = some 0 := ⟨rfl, by decide +kernel, by decide +kernel, by decide +kernel⟩
theorem gR_minutesIn : GoodIn gw (wsV RL 253 RX10 yX10_minutesIn (Cond.code yX10_minutesIn cX10_minutesIn 2 (some .int) :: gw)) := gdV gw_1975 gw_1976 gw_1977 gw_81 gw_1978
theorem hR_minutesIn : yX10_minutesIn.cls = RX10 ∧ yX10_minutesIn.cls ≠ "java/lang/invoke/MethodHandle" ∧ yX10_minutesIn.cls ≠ "java/lang/invoke/VarHandle" ∧ (parseMethodDescriptor yX10_minutesIn.desc).map (fun d => d.parameters.length) = some 1 := ⟨rfl, by decide +kernel, by decide +kernel, by decide +kernel⟩
theorem gR_adoptedWeight : GoodIn gw (wsV RL 257 RX10 yX10_adoptedWeight (Cond.code yX10_adoptedWeight cX10_adoptedWeight 1 (some .int) :: gw)) := gdV gw_1980 gw_1981 gw_1982 gw_81 gw_1983
theorem hR_adoptedWeight : yX10_adoptedWeight.cls = RX10 ∧ yX10_adoptedWeight.cls ≠ "java/lang/invoke/MethodHandle" ∧ yX10_adoptedWeight.cls ≠ "java/lang/invoke/VarHandle" ∧ (parseMethodDescriptor yX10_adoptedWeight.desc).map (fun d => d.parameters.length) = some 0 := ⟨rfl, by decide +kernel, by decide +kernel, by decide +kernel⟩
theorem gR_weightTotal : GoodIn gw (wsV RL 261 RX10 yX10_weightTotal (Cond.code yX10_weightTotal cX10_weightTotal 3 (some .int) :: gw)) := gdV gw_1984 gw_1985 gw_1986 gw_81 gw_1987
theorem hR_weightTotal : yX10_weightTotal.cls = RX10 ∧ yX10_weightTotal.cls ≠ "java/lang/invoke/MethodHandle" ∧ yX10_weightTotal.cls ≠ "java/lang/invoke/VarHandle" ∧ (parseMethodDescriptor yX10_weightTotal.desc).map (fun d => d.parameters.length) = some 0 := ⟨rfl, by decide +kernel, by decide +kernel, by decide +kernel⟩
theorem gR_weightByAccounts : GoodIn gw (wsV RL 265 RX10 yX10_weightByAccounts (Cond.code yX10_weightByAccounts cX10_weightByAccounts 1 (some .int) :: gw)) := gdV gw_1988 gw_1989 gw_1990 gw_81 gw_1991
theorem hR_weightByAccounts : yX10_weightByAccounts.cls = RX10 ∧ yX10_weightByAccounts.cls ≠ "java/lang/invoke/MethodHandle" ∧ yX10_weightByAccounts.cls ≠ "java/lang/invoke/VarHandle" ∧ (parseMethodDescriptor yX10_weightByAccounts.desc).map (fun d => d.parameters.length) = some 0 := ⟨rfl, by decide +kernel, by decide +kernel, by decide +kernel⟩
theorem gR_meanLeaves : GoodIn gw (wsV RL 269 RX10 yX10_meanLeaves (Cond.code yX10_meanLeaves cX10_meanLeaves 1 (some .double) :: gw)) := gdV gw_1993 gw_1994 gw_1995 gw_81 gw_1996
theorem hR_meanLeaves : yX10_meanLeaves.cls = RX10 ∧ yX10_meanLeaves.cls ≠ "java/lang/invoke/MethodHandle" ∧ yX10_meanLeaves.cls ≠ "java/lang/invoke/VarHandle" ∧ (parseMethodDescriptor yX10_meanLeaves.desc).map (fun d => d.parameters.length) = some 0 := ⟨rfl, by decide +kernel, by decide +kernel, by decide +kernel⟩
theorem gR_carriedShare : GoodIn gw (wsV RL 272 RX10 yX10_carriedShare (Cond.code yX10_carriedShare cX10_carriedShare 1 (some .float) :: gw)) := gdV gw_1997 gw_1998 gw_1999 gw_81 gw_2000
theorem hR_carriedShare : yX10_carriedShare.cls = RX10 ∧ yX10_carriedShare.cls ≠ "java/lang/invoke/MethodHandle" ∧ yX10_carriedShare.cls ≠ "java/lang/invoke/VarHandle" ∧ (parseMethodDescriptor yX10_carriedShare.desc).map (fun d => d.parameters.length) = some 0 := ⟨rfl, by decide +kernel, by decide +kernel, by decide +kernel⟩
theorem gR_isConsistent : GoodIn gw (wsV RL 277 RX10 yX10_isConsistent (Cond.code yX10_isConsistent cX10_isConsistent 1 (some .boolean) :: gw)) := gdV gw_2001 gw_2002 gw_2003 gw_81 gw_2004
theorem hR_isConsistent : yX10_isConsistent.cls = RX10 ∧ yX10_isConsistent.cls ≠ "java/lang/invoke/MethodHandle" ∧ yX10_isConsistent.cls ≠ "java/lang/invoke/VarHandle" ∧ (parseMethodDescriptor yX10_isConsistent.desc).map (fun d => d.parameters.length) = some 0 := ⟨rfl, by decide +kernel, by decide +kernel, by decide +kernel⟩
theorem gR_append : GoodIn gw (wsV RL 281 RX10 yX10_append (Cond.code yX10_append cX10_append 2 (some .int) :: gw)) := gdV gw_2005 gw_2006 gw_2007 gw_81 gw_2008
theorem hR_append : yX10_append.cls = RX10 ∧ yX10_append.cls ≠ "java/lang/invoke/MethodHandle" ∧ yX10_append.cls ≠ "java/lang/invoke/VarHandle" ∧ (parseMethodDescriptor yX10_append.desc).map (fun d => d.parameters.length) = some 1 := ⟨rfl, by decide +kernel, by decide +kernel, by decide +kernel⟩
theorem gR_run : GoodIn gw (wsV RL 285 RX10 yX10_run (Cond.code yX10_run cX10_run 4 (some .int) :: gw)) := gdV gw_2009 gw_2010 gw_2011 gw_81 gw_2012
theorem hR_run : yX10_run.cls = RX10 ∧ yX10_run.cls ≠ "java/lang/invoke/MethodHandle" ∧ yX10_run.cls ≠ "java/lang/invoke/VarHandle" ∧ (parseMethodDescriptor yX10_run.desc).map (fun d => d.parameters.length) = some 0 := ⟨rfl, by decide +kernel, by decide +kernel, by decide +kernel⟩
theorem gR_errorPosition : GoodIn gw (wsV RL 288 RX10 yX10_errorPosition (Cond.code yX10_errorPosition cX10_errorPosition 1 (some .int) :: gw)) := gdV gw_2055 gw_2056 gw_2057 gw_81 gw_2058
theorem hR_errorPosition : yX10_errorPosition.cls = RX10 ∧ yX10_errorPosition.cls ≠ "java/lang/invoke/MethodHandle" ∧ yX10_errorPosition.cls ≠ "java/lang/invoke/VarHandle" ∧ (parseMethodDescriptor yX10_errorPosition.desc).map (fun d => d.parameters.length) = some 0 := ⟨rfl, by decide +kernel, by decide +kernel, by decide +kernel⟩
theorem gR_failedCommand : GoodIn gw (wsV RL 291 RX10 yX10_failedCommand (Cond.code yX10_failedCommand cX10_failedCommand 1 (some .int) :: gw)) := gdV gw_2059 gw_2060 gw_2061 gw_81 gw_2062
theorem hR_failedCommand : yX10_failedCommand.cls = RX10 ∧ yX10_failedCommand.cls ≠ "java/lang/invoke/MethodHandle" ∧ yX10_failedCommand.cls ≠ "java/lang/invoke/VarHandle" ∧ (parseMethodDescriptor yX10_failedCommand.desc).map (fun d => d.parameters.length) = some 0 := ⟨rfl, by decide +kernel, by decide +kernel, by decide +kernel⟩
theorem gR_writeBranch : GoodIn gw (wsV RL 294 RX10 yX10_writeBranch (Cond.code yX10_writeBranch cX10_writeBranch 5 (some .int) :: gw)) := gdV gw_2063 gw_2064 gw_2065 gw_81 gw_2066
theorem hR_writeBranch : yX10_writeBranch.cls = RX10 ∧ yX10_writeBranch.cls ≠ "java/lang/invoke/MethodHandle" ∧ yX10_writeBranch.cls ≠ "java/lang/invoke/VarHandle" ∧ (parseMethodDescriptor yX10_writeBranch.desc).map (fun d => d.parameters.length) = some 1 := ⟨rfl, by decide +kernel, by decide +kernel, by decide +kernel⟩
theorem gR_outputAt : GoodIn gw (wsV RL 297 RX10 yX10_outputAt (Cond.code yX10_outputAt cX10_outputAt 2 (some .char) :: gw)) := gdV gw_2083 gw_2084 gw_2085 gw_81 gw_2086
theorem hR_outputAt : yX10_outputAt.cls = RX10 ∧ yX10_outputAt.cls ≠ "java/lang/invoke/MethodHandle" ∧ yX10_outputAt.cls ≠ "java/lang/invoke/VarHandle" ∧ (parseMethodDescriptor yX10_outputAt.desc).map (fun d => d.parameters.length) = some 1 := ⟨rfl, by decide +kernel, by decide +kernel, by decide +kernel⟩
theorem gR_undo : GoodIn gw (wsV RL 300 RX10 yX10_undo (Cond.code yX10_undo cX10_undo 2 (some .int) :: gw)) := gdV gw_2087 gw_2088 gw_2089 gw_81 gw_2090
theorem hR_undo : yX10_undo.cls = RX10 ∧ yX10_undo.cls ≠ "java/lang/invoke/MethodHandle" ∧ yX10_undo.cls ≠ "java/lang/invoke/VarHandle" ∧ (parseMethodDescriptor yX10_undo.desc).map (fun d => d.parameters.length) = some 0 := ⟨rfl, by decide +kernel, by decide +kernel, by decide +kernel⟩
theorem gR_save : GoodIn gw (wsV RL 304 RX10 yX10_save (Cond.code yX10_save cX10_save 2 (none) :: gw)) := gdV gw_2091 gw_2092 gw_2093 gw_81 gw_2094
theorem hR_save : yX10_save.cls = RX10 ∧ yX10_save.cls ≠ "java/lang/invoke/MethodHandle" ∧ yX10_save.cls ≠ "java/lang/invoke/VarHandle" ∧ (parseMethodDescriptor yX10_save.desc).map (fun d => d.parameters.length) = some 0 := ⟨rfl, by decide +kernel, by decide +kernel, by decide +kernel⟩
theorem gR_restore : GoodIn gw (wsV RL 308 RX10 yX10_restore (Cond.code yX10_restore cX10_restore 2 (none) :: gw)) := gdV gw_2095 gw_2096 gw_2097 gw_81 gw_2098
theorem hR_restore : yX10_restore.cls = RX10 ∧ yX10_restore.cls ≠ "java/lang/invoke/MethodHandle" ∧ yX10_restore.cls ≠ "java/lang/invoke/VarHandle" ∧ (parseMethodDescriptor yX10_restore.desc).map (fun d => d.parameters.length) = some 0 := ⟨rfl, by decide +kernel, by decide +kernel, by decide +kernel⟩
theorem gR_thrown : GoodIn gw (wsV RL 309 RX10 yX10_thrown (Cond.code yX10_thrown cX10_thrown 1 (some .int) :: gw)) := gdV gw_1702 gw_1703 gw_1704 gw_81 gw_1705
theorem hR_thrown : yX10_thrown.cls = RX10 ∧ yX10_thrown.cls ≠ "java/lang/invoke/MethodHandle" ∧ yX10_thrown.cls ≠ "java/lang/invoke/VarHandle" ∧ (parseMethodDescriptor yX10_thrown.desc).map (fun d => d.parameters.length) = some 0 := ⟨rfl, by decide +kernel, by decide +kernel, by decide +kernel⟩
set_option maxHeartbeats 4000000 in
set_option maxRecDepth 20000 in
theorem law_c0 {p : Program} {l : Launch} {e : Env} {s : State} {m : MethodId} {below : List Frame} {meth : Method} {c : Code} {H : Heap} {locs : List Loc} {cells slots : Nat} {Q : State → Prop} {ls : Array Slot} {D : va_G} {aT : Nat → ClassId} {A : Nat → Prop} {ad : Nat → Nat} {S : MSt} {x0 u0 u1 Bd b n i : Nat} {xs : Nat → Int32} {o : Nat → Int64} {q : Nat → UInt64} {Wx : va_W} (hfl : l.stackTraces = false) (hAe : A = fun q => s.heap.size ≤ q) (C : CxX p c code s #[Value.ref b] m D aT RL) (hml : c.maxLocals = 9) (hX : va_X b n xs s s.heap) (hbl : b < s.heap.size) (hn : n ≤ 2048) (hi : i + 4 ≤ n) (hZ : cZ D A s s.heap) (hW : CxB D (mdW aT ad S ++ (oD aT u1 q ++ (oL aT u0 o ++ Wx))) A s.heap H locs) (hO : ClO D aT x0 S Bd Wx) (hN : LnO S) (hBd : Bd + 20 < 1048000) (hc1 : cells + 110 ≤ 603072) (hc2 : slots + 13600 ≤ 7198826) (hl : lv_has ls 9 [(5, .int (nI i)), (4, .ref u1), (3, .ref u0), (2, .ref (ad 0)), (1, .ref x0), (0, .ref b)]) (kk : LK p l e s m b below meth c D aT A ad x0 u0 u1 i Bd cells slots Q) : W p l e room_1 s m #[Value.ref b] below meth c H locs cells slots Q (F0 m 252 ls []) := by
  have hx := C.1
  have hb := C.2.1
  have hA : ∀ q, s.heap.size ≤ q → A q := fun q h => by rw [hAe]; exact h
  refine lv_aload_n hx hb dL_law_252 rfl (lv_at hl 4 rfl) ?_
  refine lv_aload_n hx hb dL_law_253 rfl (lv_at hl 5 rfl) ?_
  refine lv_iload hx hb dL_law_254 (lv_at hl 0 rfl) ?_
  refine lv_iconst (v := nI 1) hx hb dL_law_256 (by decide) ?_
  refine r_iaddN hx hb (a := i) (b := 1) dL_law_257 ?_
  refine cx_sld C hW hX hbl (by rw [hAe]; exact Nat.not_le.mpr hbl) (k := i + 1) (by omega) (by omega) dL_law_258 ?_
  refine lv_aload_n hx hb dL_law_259 rfl (lv_at hl 5 rfl) ?_
  refine lv_iload hx hb dL_law_260 (lv_at hl 0 rfl) ?_
  refine lv_iconst (v := nI 2) hx hb dL_law_262 (by decide) ?_
  refine r_iaddN hx hb (a := i) (b := 2) dL_law_263 ?_
  refine cx_sld C hW hX hbl (by rw [hAe]; exact Nat.not_le.mpr hbl) (k := i + 2) (by omega) (by omega) dL_law_264 ?_
  refine lv_aload_n hx hb dL_law_265 rfl (lv_at hl 5 rfl) ?_
  refine lv_iload hx hb dL_law_266 (lv_at hl 0 rfl) ?_
  refine lv_iconst (v := nI 3) hx hb dL_law_268 (by decide) ?_
  refine r_iaddN hx hb (a := i) (b := 3) dL_law_269 ?_
  refine cx_sld C hW hX hbl (by rw [hAe]; exact Nat.not_le.mpr hbl) (k := i + 3) (by omega) (by omega) dL_law_270 ?_
  refine lv_aload_n hx hb dL_law_271 rfl (lv_at hl 2 rfl) ?_
  refine st_addHedge hfl C hml hl.1 hA hZ hW hO hN hBd (by omega) (by omega) dL_law_272 (fun r o2 W2 H locs hMd hW => ?_)
  refine lv_istore (lv' := [(6, .int r), (5, .int (nI i)), (4, .ref u1), (3, .ref u0), (2, .ref (ad 0)), (1, .ref x0), (0, .ref b)]) hx hb dL_law_275 hl (by decide) rfl (fun ls hl => ?_)
  refine lv_aload_n hx hb dL_law_277 rfl (lv_at hl 4 rfl) ?_
  refine lv_aload_n hx hb dL_law_278 rfl (lv_at hl 6 rfl) ?_
  refine lv_iload hx hb dL_law_279 (lv_at hl 1 rfl) ?_
  refine lv_iconst (v := nI 1) hx hb dL_law_281 (by decide) ?_
  refine r_iaddN hx hb (a := i) (b := 1) dL_law_282 ?_
  refine cx_sld C hW hX hbl (by rw [hAe]; exact Nat.not_le.mpr hbl) (k := i + 1) (by omega) (by omega) dL_law_283 ?_
  refine lv_aload_n hx hb dL_law_284 rfl (lv_at hl 6 rfl) ?_
  refine lv_iload hx hb dL_law_285 (lv_at hl 1 rfl) ?_
  refine lv_iconst (v := nI 2) hx hb dL_law_287 (by decide) ?_
  refine r_iaddN hx hb (a := i) (b := 2) dL_law_288 ?_
  refine cx_sld C hW hX hbl (by rw [hAe]; exact Nat.not_le.mpr hbl) (k := i + 2) (by omega) (by omega) dL_law_289 ?_
  refine lv_aload_n hx hb dL_law_290 rfl (lv_at hl 6 rfl) ?_
  refine lv_iload hx hb dL_law_291 (lv_at hl 1 rfl) ?_
  refine lv_iconst (v := nI 3) hx hb dL_law_293 (by decide) ?_
  refine r_iaddN hx hb (a := i) (b := 3) dL_law_294 ?_
  refine cx_sld C hW hX hbl (by rw [hAe]; exact Nat.not_le.mpr hbl) (k := i + 3) (by omega) (by omega) dL_law_295 ?_
  refine lw_mdi (As := [.int (xs (i + 1)), .int (xs (i + 2)), .int (xs (i + 3))]) (rest := []) C hml hl.1 hW hA hMd gR_addHedge hR_addHedge rfl ⟨Nat.le_of_ble_eq_true rfl, Nat.le_of_ble_eq_true rfl⟩ ⟨by show cells + 1 ≤ 603072; omega, by show slots + 6 ≤ 7198826; omega⟩ rfl (Nat.le_of_ble_eq_true rfl) dL_law_296 (fun rb S1 H locs hq hW => ?_)
  obtain ⟨Bd2, hb2, hO2, hN2⟩ := hq
  refine lv_istore (lv' := [(7, .int rb), (6, .int r), (5, .int (nI i)), (4, .ref u1), (3, .ref u0), (2, .ref (ad 0)), (1, .ref x0), (0, .ref b)]) hx hb dL_law_299 hl (by decide) rfl (fun ls hl => ?_)
  refine lv_goto (tgt := 1462) hx hb dL_law_301 (by decide) ?_
  refine W.widen (k := cells + 110) (n := slots + 13600) (by omega) (by omega) ?_
  exact kk S1 Bd2 o2 q W2 _ _ _ hb2 hO2 hN2 hW (lv_sub hl [2, 3, 4, 5, 6, 7] rfl)
set_option maxHeartbeats 4000000 in
set_option maxRecDepth 20000 in
theorem law_c1 {p : Program} {l : Launch} {e : Env} {s : State} {m : MethodId} {below : List Frame} {meth : Method} {c : Code} {H : Heap} {locs : List Loc} {cells slots : Nat} {Q : State → Prop} {ls : Array Slot} {D : va_G} {aT : Nat → ClassId} {A : Nat → Prop} {ad : Nat → Nat} {S : MSt} {x0 u0 u1 Bd b n i : Nat} {xs : Nat → Int32} {o : Nat → Int64} {q : Nat → UInt64} {Wx : va_W} (hfl : l.stackTraces = false) (hAe : A = fun q => s.heap.size ≤ q) (C : CxX p c code s #[Value.ref b] m D aT RL) (hml : c.maxLocals = 9) (hX : va_X b n xs s s.heap) (hbl : b < s.heap.size) (hn : n ≤ 2048) (hi : i + 4 ≤ n) (hZ : cZ D A s s.heap) (hW : CxB D (mdW aT ad S ++ (oD aT u1 q ++ (oL aT u0 o ++ Wx))) A s.heap H locs) (hO : ClO D aT x0 S Bd Wx) (hN : LnO S) (hBd : Bd + 20 < 1048000) (hc1 : cells + 110 ≤ 603072) (hc2 : slots + 13600 ≤ 7198826) (hl : lv_has ls 9 [(5, .int (nI i)), (4, .ref u1), (3, .ref u0), (2, .ref (ad 0)), (1, .ref x0), (0, .ref b)]) (kk : LK p l e s m b below meth c D aT A ad x0 u0 u1 i Bd cells slots Q) : W p l e room_1 s m #[Value.ref b] below meth c H locs cells slots Q (F0 m 304 ls []) := by
  have hx := C.1
  have hb := C.2.1
  have hA : ∀ q, s.heap.size ≤ q → A q := fun q h => by rw [hAe]; exact h
  refine lv_aload_n hx hb dL_law_304 rfl (lv_at hl 4 rfl) ?_
  refine lv_aload_n hx hb dL_law_305 rfl (lv_at hl 5 rfl) ?_
  refine lv_iload hx hb dL_law_306 (lv_at hl 0 rfl) ?_
  refine lv_iconst (v := nI 1) hx hb dL_law_308 (by decide) ?_
  refine r_iaddN hx hb (a := i) (b := 1) dL_law_309 ?_
  refine cx_sld C hW hX hbl (by rw [hAe]; exact Nat.not_le.mpr hbl) (k := i + 1) (by omega) (by omega) dL_law_310 ?_
  refine lv_aload_n hx hb dL_law_311 rfl (lv_at hl 5 rfl) ?_
  refine lv_iload hx hb dL_law_312 (lv_at hl 0 rfl) ?_
  refine lv_iconst (v := nI 2) hx hb dL_law_314 (by decide) ?_
  refine r_iaddN hx hb (a := i) (b := 2) dL_law_315 ?_
  refine cx_sld C hW hX hbl (by rw [hAe]; exact Nat.not_le.mpr hbl) (k := i + 2) (by omega) (by omega) dL_law_316 ?_
  refine lv_aload_n hx hb dL_law_317 rfl (lv_at hl 2 rfl) ?_
  refine st_propose hfl C hml hl.1 hA hZ hW hO hN hBd (by omega) (by omega) dL_law_318 (fun r o2 W2 H locs hMd hW => ?_)
  refine lv_istore (lv' := [(6, .int r), (5, .int (nI i)), (4, .ref u1), (3, .ref u0), (2, .ref (ad 0)), (1, .ref x0), (0, .ref b)]) hx hb dL_law_321 hl (by decide) rfl (fun ls hl => ?_)
  refine lv_aload_n hx hb dL_law_323 rfl (lv_at hl 4 rfl) ?_
  refine lv_aload_n hx hb dL_law_324 rfl (lv_at hl 6 rfl) ?_
  refine lv_iload hx hb dL_law_325 (lv_at hl 1 rfl) ?_
  refine lv_iconst (v := nI 1) hx hb dL_law_327 (by decide) ?_
  refine r_iaddN hx hb (a := i) (b := 1) dL_law_328 ?_
  refine cx_sld C hW hX hbl (by rw [hAe]; exact Nat.not_le.mpr hbl) (k := i + 1) (by omega) (by omega) dL_law_329 ?_
  refine lv_aload_n hx hb dL_law_330 rfl (lv_at hl 6 rfl) ?_
  refine lv_iload hx hb dL_law_331 (lv_at hl 1 rfl) ?_
  refine lv_iconst (v := nI 2) hx hb dL_law_333 (by decide) ?_
  refine r_iaddN hx hb (a := i) (b := 2) dL_law_334 ?_
  refine cx_sld C hW hX hbl (by rw [hAe]; exact Nat.not_le.mpr hbl) (k := i + 2) (by omega) (by omega) dL_law_335 ?_
  refine lw_mdi (As := [.int (xs (i + 1)), .int (xs (i + 2))]) (rest := []) C hml hl.1 hW hA hMd gR_propose hR_propose rfl ⟨Nat.le_of_ble_eq_true rfl, Nat.le_of_ble_eq_true rfl⟩ ⟨by show cells + 2 ≤ 603072; omega, by show slots + 12 ≤ 7198826; omega⟩ rfl (Nat.le_of_ble_eq_true rfl) dL_law_336 (fun rb S1 H locs hq hW => ?_)
  obtain ⟨Bd2, hb2, hO2, hN2⟩ := hq
  refine lv_istore (lv' := [(7, .int rb), (6, .int r), (5, .int (nI i)), (4, .ref u1), (3, .ref u0), (2, .ref (ad 0)), (1, .ref x0), (0, .ref b)]) hx hb dL_law_339 hl (by decide) rfl (fun ls hl => ?_)
  refine lv_goto (tgt := 1462) hx hb dL_law_341 (by decide) ?_
  refine W.widen (k := cells + 110) (n := slots + 13600) (by omega) (by omega) ?_
  exact kk S1 Bd2 o2 q W2 _ _ _ hb2 hO2 hN2 hW (lv_sub hl [2, 3, 4, 5, 6, 7] rfl)
set_option maxHeartbeats 4000000 in
set_option maxRecDepth 20000 in
theorem law_c2 {p : Program} {l : Launch} {e : Env} {s : State} {m : MethodId} {below : List Frame} {meth : Method} {c : Code} {H : Heap} {locs : List Loc} {cells slots : Nat} {Q : State → Prop} {ls : Array Slot} {D : va_G} {aT : Nat → ClassId} {A : Nat → Prop} {ad : Nat → Nat} {S : MSt} {x0 u0 u1 Bd b n i : Nat} {xs : Nat → Int32} {o : Nat → Int64} {q : Nat → UInt64} {Wx : va_W} (hfl : l.stackTraces = false) (hAe : A = fun q => s.heap.size ≤ q) (C : CxX p c code s #[Value.ref b] m D aT RL) (hml : c.maxLocals = 9) (hX : va_X b n xs s s.heap) (hbl : b < s.heap.size) (hn : n ≤ 2048) (hi : i + 4 ≤ n) (hZ : cZ D A s s.heap) (hW : CxB D (mdW aT ad S ++ (oD aT u1 q ++ (oL aT u0 o ++ Wx))) A s.heap H locs) (hO : ClO D aT x0 S Bd Wx) (hN : LnO S) (hBd : Bd + 20 < 1048000) (hc1 : cells + 110 ≤ 603072) (hc2 : slots + 13600 ≤ 7198826) (hl : lv_has ls 9 [(5, .int (nI i)), (4, .ref u1), (3, .ref u0), (2, .ref (ad 0)), (1, .ref x0), (0, .ref b)]) (kk : LK p l e s m b below meth c D aT A ad x0 u0 u1 i Bd cells slots Q) : W p l e room_1 s m #[Value.ref b] below meth c H locs cells slots Q (F0 m 344 ls []) := by
  have hx := C.1
  have hb := C.2.1
  have hA : ∀ q, s.heap.size ≤ q → A q := fun q h => by rw [hAe]; exact h
  refine lv_aload_n hx hb dL_law_344 rfl (lv_at hl 4 rfl) ?_
  refine lv_aload_n hx hb dL_law_345 rfl (lv_at hl 5 rfl) ?_
  refine lv_iload hx hb dL_law_346 (lv_at hl 0 rfl) ?_
  refine lv_iconst (v := nI 1) hx hb dL_law_348 (by decide) ?_
  refine r_iaddN hx hb (a := i) (b := 1) dL_law_349 ?_
  refine cx_sld C hW hX hbl (by rw [hAe]; exact Nat.not_le.mpr hbl) (k := i + 1) (by omega) (by omega) dL_law_350 ?_
  refine lv_aload_n hx hb dL_law_351 rfl (lv_at hl 5 rfl) ?_
  refine lv_iload hx hb dL_law_352 (lv_at hl 0 rfl) ?_
  refine lv_iconst (v := nI 2) hx hb dL_law_354 (by decide) ?_
  refine r_iaddN hx hb (a := i) (b := 2) dL_law_355 ?_
  refine cx_sld C hW hX hbl (by rw [hAe]; exact Nat.not_le.mpr hbl) (k := i + 2) (by omega) (by omega) dL_law_356 ?_
  refine lv_aload_n hx hb dL_law_357 rfl (lv_at hl 5 rfl) ?_
  refine lv_iload hx hb dL_law_358 (lv_at hl 0 rfl) ?_
  refine lv_iconst (v := nI 3) hx hb dL_law_360 (by decide) ?_
  refine r_iaddN hx hb (a := i) (b := 3) dL_law_361 ?_
  refine cx_sld C hW hX hbl (by rw [hAe]; exact Nat.not_le.mpr hbl) (k := i + 3) (by omega) (by omega) dL_law_362 ?_
  refine lv_aload_n hx hb dL_law_363 rfl (lv_at hl 2 rfl) ?_
  refine st_amend hfl C hml hl.1 hA hZ hW hO hN hBd (by omega) (by omega) dL_law_364 (fun r o2 W2 H locs hMd hW => ?_)
  refine lv_istore (lv' := [(6, .int r), (5, .int (nI i)), (4, .ref u1), (3, .ref u0), (2, .ref (ad 0)), (1, .ref x0), (0, .ref b)]) hx hb dL_law_367 hl (by decide) rfl (fun ls hl => ?_)
  refine lv_aload_n hx hb dL_law_369 rfl (lv_at hl 4 rfl) ?_
  refine lv_aload_n hx hb dL_law_370 rfl (lv_at hl 6 rfl) ?_
  refine lv_iload hx hb dL_law_371 (lv_at hl 1 rfl) ?_
  refine lv_iconst (v := nI 1) hx hb dL_law_373 (by decide) ?_
  refine r_iaddN hx hb (a := i) (b := 1) dL_law_374 ?_
  refine cx_sld C hW hX hbl (by rw [hAe]; exact Nat.not_le.mpr hbl) (k := i + 1) (by omega) (by omega) dL_law_375 ?_
  refine lv_aload_n hx hb dL_law_376 rfl (lv_at hl 6 rfl) ?_
  refine lv_iload hx hb dL_law_377 (lv_at hl 1 rfl) ?_
  refine lv_iconst (v := nI 2) hx hb dL_law_379 (by decide) ?_
  refine r_iaddN hx hb (a := i) (b := 2) dL_law_380 ?_
  refine cx_sld C hW hX hbl (by rw [hAe]; exact Nat.not_le.mpr hbl) (k := i + 2) (by omega) (by omega) dL_law_381 ?_
  refine lv_aload_n hx hb dL_law_382 rfl (lv_at hl 6 rfl) ?_
  refine lv_iload hx hb dL_law_383 (lv_at hl 1 rfl) ?_
  refine lv_iconst (v := nI 3) hx hb dL_law_385 (by decide) ?_
  refine r_iaddN hx hb (a := i) (b := 3) dL_law_386 ?_
  refine cx_sld C hW hX hbl (by rw [hAe]; exact Nat.not_le.mpr hbl) (k := i + 3) (by omega) (by omega) dL_law_387 ?_
  refine lw_mdi (As := [.int (xs (i + 1)), .int (xs (i + 2)), .int (xs (i + 3))]) (rest := []) C hml hl.1 hW hA hMd gR_amend hR_amend rfl ⟨Nat.le_of_ble_eq_true rfl, Nat.le_of_ble_eq_true rfl⟩ ⟨by show cells + 3 ≤ 603072; omega, by show slots + 18 ≤ 7198826; omega⟩ rfl (Nat.le_of_ble_eq_true rfl) dL_law_388 (fun rb S1 H locs hq hW => ?_)
  obtain ⟨Bd2, hb2, hO2, hN2⟩ := hq
  refine lv_istore (lv' := [(7, .int rb), (6, .int r), (5, .int (nI i)), (4, .ref u1), (3, .ref u0), (2, .ref (ad 0)), (1, .ref x0), (0, .ref b)]) hx hb dL_law_391 hl (by decide) rfl (fun ls hl => ?_)
  refine lv_goto (tgt := 1462) hx hb dL_law_393 (by decide) ?_
  refine W.widen (k := cells + 110) (n := slots + 13600) (by omega) (by omega) ?_
  exact kk S1 Bd2 o2 q W2 _ _ _ hb2 hO2 hN2 hW (lv_sub hl [2, 3, 4, 5, 6, 7] rfl)
set_option maxHeartbeats 4000000 in
set_option maxRecDepth 20000 in
theorem law_c3 {p : Program} {l : Launch} {e : Env} {s : State} {m : MethodId} {below : List Frame} {meth : Method} {c : Code} {H : Heap} {locs : List Loc} {cells slots : Nat} {Q : State → Prop} {ls : Array Slot} {D : va_G} {aT : Nat → ClassId} {A : Nat → Prop} {ad : Nat → Nat} {S : MSt} {x0 u0 u1 Bd b n i : Nat} {xs : Nat → Int32} {o : Nat → Int64} {q : Nat → UInt64} {Wx : va_W} (hfl : l.stackTraces = false) (hAe : A = fun q => s.heap.size ≤ q) (C : CxX p c code s #[Value.ref b] m D aT RL) (hml : c.maxLocals = 9) (hX : va_X b n xs s s.heap) (hbl : b < s.heap.size) (hn : n ≤ 2048) (hi : i + 4 ≤ n) (hZ : cZ D A s s.heap) (hW : CxB D (mdW aT ad S ++ (oD aT u1 q ++ (oL aT u0 o ++ Wx))) A s.heap H locs) (hO : ClO D aT x0 S Bd Wx) (hN : LnO S) (hBd : Bd + 20 < 1048000) (hc1 : cells + 110 ≤ 603072) (hc2 : slots + 13600 ≤ 7198826) (hl : lv_has ls 9 [(5, .int (nI i)), (4, .ref u1), (3, .ref u0), (2, .ref (ad 0)), (1, .ref x0), (0, .ref b)]) (kk : LK p l e s m b below meth c D aT A ad x0 u0 u1 i Bd cells slots Q) : W p l e room_1 s m #[Value.ref b] below meth c H locs cells slots Q (F0 m 396 ls []) := by
  have hx := C.1
  have hb := C.2.1
  have hA : ∀ q, s.heap.size ≤ q → A q := fun q h => by rw [hAe]; exact h
  refine lv_aload_n hx hb dL_law_396 rfl (lv_at hl 4 rfl) ?_
  refine lv_aload_n hx hb dL_law_397 rfl (lv_at hl 5 rfl) ?_
  refine lv_iload hx hb dL_law_398 (lv_at hl 0 rfl) ?_
  refine lv_iconst (v := nI 1) hx hb dL_law_400 (by decide) ?_
  refine r_iaddN hx hb (a := i) (b := 1) dL_law_401 ?_
  refine cx_sld C hW hX hbl (by rw [hAe]; exact Nat.not_le.mpr hbl) (k := i + 1) (by omega) (by omega) dL_law_402 ?_
  refine lv_aload_n hx hb dL_law_403 rfl (lv_at hl 5 rfl) ?_
  refine lv_iload hx hb dL_law_404 (lv_at hl 0 rfl) ?_
  refine lv_iconst (v := nI 2) hx hb dL_law_406 (by decide) ?_
  refine r_iaddN hx hb (a := i) (b := 2) dL_law_407 ?_
  refine cx_sld C hW hX hbl (by rw [hAe]; exact Nat.not_le.mpr hbl) (k := i + 2) (by omega) (by omega) dL_law_408 ?_
  refine lv_aload_n hx hb dL_law_409 rfl (lv_at hl 2 rfl) ?_
  refine st_prune hfl C hml hl.1 hA hZ hW hO hN hBd (by omega) (by omega) dL_law_410 (fun r o2 W2 H locs hMd hW => ?_)
  refine lv_istore (lv' := [(6, .int r), (5, .int (nI i)), (4, .ref u1), (3, .ref u0), (2, .ref (ad 0)), (1, .ref x0), (0, .ref b)]) hx hb dL_law_413 hl (by decide) rfl (fun ls hl => ?_)
  refine lv_aload_n hx hb dL_law_415 rfl (lv_at hl 4 rfl) ?_
  refine lv_aload_n hx hb dL_law_416 rfl (lv_at hl 6 rfl) ?_
  refine lv_iload hx hb dL_law_417 (lv_at hl 1 rfl) ?_
  refine lv_iconst (v := nI 1) hx hb dL_law_419 (by decide) ?_
  refine r_iaddN hx hb (a := i) (b := 1) dL_law_420 ?_
  refine cx_sld C hW hX hbl (by rw [hAe]; exact Nat.not_le.mpr hbl) (k := i + 1) (by omega) (by omega) dL_law_421 ?_
  refine lv_aload_n hx hb dL_law_422 rfl (lv_at hl 6 rfl) ?_
  refine lv_iload hx hb dL_law_423 (lv_at hl 1 rfl) ?_
  refine lv_iconst (v := nI 2) hx hb dL_law_425 (by decide) ?_
  refine r_iaddN hx hb (a := i) (b := 2) dL_law_426 ?_
  refine cx_sld C hW hX hbl (by rw [hAe]; exact Nat.not_le.mpr hbl) (k := i + 2) (by omega) (by omega) dL_law_427 ?_
  refine lw_mdi (As := [.int (xs (i + 1)), .int (xs (i + 2))]) (rest := []) C hml hl.1 hW hA hMd gR_prune hR_prune rfl ⟨Nat.le_of_ble_eq_true rfl, Nat.le_of_ble_eq_true rfl⟩ ⟨by show cells + 2 ≤ 603072; omega, by show slots + 12 ≤ 7198826; omega⟩ rfl (Nat.le_of_ble_eq_true rfl) dL_law_428 (fun rb S1 H locs hq hW => ?_)
  obtain ⟨Bd2, hb2, hO2, hN2⟩ := hq
  refine lv_istore (lv' := [(7, .int rb), (6, .int r), (5, .int (nI i)), (4, .ref u1), (3, .ref u0), (2, .ref (ad 0)), (1, .ref x0), (0, .ref b)]) hx hb dL_law_431 hl (by decide) rfl (fun ls hl => ?_)
  refine lv_goto (tgt := 1462) hx hb dL_law_433 (by decide) ?_
  refine W.widen (k := cells + 110) (n := slots + 13600) (by omega) (by omega) ?_
  exact kk S1 Bd2 o2 q W2 _ _ _ hb2 hO2 hN2 hW (lv_sub hl [2, 3, 4, 5, 6, 7] rfl)
set_option maxHeartbeats 4000000 in
set_option maxRecDepth 20000 in
theorem law_c4 {p : Program} {l : Launch} {e : Env} {s : State} {m : MethodId} {below : List Frame} {meth : Method} {c : Code} {H : Heap} {locs : List Loc} {cells slots : Nat} {Q : State → Prop} {ls : Array Slot} {D : va_G} {aT : Nat → ClassId} {A : Nat → Prop} {ad : Nat → Nat} {S : MSt} {x0 u0 u1 Bd b n i : Nat} {xs : Nat → Int32} {o : Nat → Int64} {q : Nat → UInt64} {Wx : va_W} (hfl : l.stackTraces = false) (hAe : A = fun q => s.heap.size ≤ q) (C : CxX p c code s #[Value.ref b] m D aT RL) (hml : c.maxLocals = 9) (hX : va_X b n xs s s.heap) (hbl : b < s.heap.size) (hn : n ≤ 2048) (hi : i + 4 ≤ n) (hZ : cZ D A s s.heap) (hW : CxB D (mdW aT ad S ++ (oD aT u1 q ++ (oL aT u0 o ++ Wx))) A s.heap H locs) (hO : ClO D aT x0 S Bd Wx) (hN : LnO S) (hBd : Bd + 20 < 1048000) (hc1 : cells + 110 ≤ 603072) (hc2 : slots + 13600 ≤ 7198826) (hl : lv_has ls 9 [(5, .int (nI i)), (4, .ref u1), (3, .ref u0), (2, .ref (ad 0)), (1, .ref x0), (0, .ref b)]) (kk : LK p l e s m b below meth c D aT A ad x0 u0 u1 i Bd cells slots Q) : W p l e room_1 s m #[Value.ref b] below meth c H locs cells slots Q (F0 m 436 ls []) := by
  have hx := C.1
  have hb := C.2.1
  have hA : ∀ q, s.heap.size ≤ q → A q := fun q h => by rw [hAe]; exact h
  refine lv_aload_n hx hb dL_law_436 rfl (lv_at hl 4 rfl) ?_
  refine lv_aload_n hx hb dL_law_437 rfl (lv_at hl 5 rfl) ?_
  refine lv_iload hx hb dL_law_438 (lv_at hl 0 rfl) ?_
  refine lv_iconst (v := nI 1) hx hb dL_law_440 (by decide) ?_
  refine r_iaddN hx hb (a := i) (b := 1) dL_law_441 ?_
  refine cx_sld C hW hX hbl (by rw [hAe]; exact Nat.not_le.mpr hbl) (k := i + 1) (by omega) (by omega) dL_law_442 ?_
  refine lv_aload_n hx hb dL_law_443 rfl (lv_at hl 2 rfl) ?_
  refine st_regrow hfl C hml hl.1 hA hZ hW hO hN hBd (by omega) (by omega) dL_law_444 (fun r o2 W2 H locs hMd hW => ?_)
  refine lv_istore (lv' := [(6, .int r), (5, .int (nI i)), (4, .ref u1), (3, .ref u0), (2, .ref (ad 0)), (1, .ref x0), (0, .ref b)]) hx hb dL_law_447 hl (by decide) rfl (fun ls hl => ?_)
  refine lv_aload_n hx hb dL_law_449 rfl (lv_at hl 4 rfl) ?_
  refine lv_aload_n hx hb dL_law_450 rfl (lv_at hl 6 rfl) ?_
  refine lv_iload hx hb dL_law_451 (lv_at hl 1 rfl) ?_
  refine lv_iconst (v := nI 1) hx hb dL_law_453 (by decide) ?_
  refine r_iaddN hx hb (a := i) (b := 1) dL_law_454 ?_
  refine cx_sld C hW hX hbl (by rw [hAe]; exact Nat.not_le.mpr hbl) (k := i + 1) (by omega) (by omega) dL_law_455 ?_
  refine lw_mdi (As := [.int (xs (i + 1))]) (rest := []) C hml hl.1 hW hA hMd gR_regrow hR_regrow rfl ⟨Nat.le_of_ble_eq_true rfl, Nat.le_of_ble_eq_true rfl⟩ ⟨by show cells + 2 ≤ 603072; omega, by show slots + 12 ≤ 7198826; omega⟩ rfl (Nat.le_of_ble_eq_true rfl) dL_law_456 (fun rb S1 H locs hq hW => ?_)
  obtain ⟨Bd2, hb2, hO2, hN2⟩ := hq
  refine lv_istore (lv' := [(7, .int rb), (6, .int r), (5, .int (nI i)), (4, .ref u1), (3, .ref u0), (2, .ref (ad 0)), (1, .ref x0), (0, .ref b)]) hx hb dL_law_459 hl (by decide) rfl (fun ls hl => ?_)
  refine lv_goto (tgt := 1462) hx hb dL_law_461 (by decide) ?_
  refine W.widen (k := cells + 110) (n := slots + 13600) (by omega) (by omega) ?_
  exact kk S1 Bd2 o2 q W2 _ _ _ hb2 hO2 hN2 hW (lv_sub hl [2, 3, 4, 5, 6, 7] rfl)
set_option maxHeartbeats 4000000 in
set_option maxRecDepth 20000 in
theorem law_c5 {p : Program} {l : Launch} {e : Env} {s : State} {m : MethodId} {below : List Frame} {meth : Method} {c : Code} {H : Heap} {locs : List Loc} {cells slots : Nat} {Q : State → Prop} {ls : Array Slot} {D : va_G} {aT : Nat → ClassId} {A : Nat → Prop} {ad : Nat → Nat} {S : MSt} {x0 u0 u1 Bd b n i : Nat} {xs : Nat → Int32} {o : Nat → Int64} {q : Nat → UInt64} {Wx : va_W} (hfl : l.stackTraces = false) (hAe : A = fun q => s.heap.size ≤ q) (C : CxX p c code s #[Value.ref b] m D aT RL) (hml : c.maxLocals = 9) (hX : va_X b n xs s s.heap) (hbl : b < s.heap.size) (hn : n ≤ 2048) (hi : i + 4 ≤ n) (hZ : cZ D A s s.heap) (hW : CxB D (mdW aT ad S ++ (oD aT u1 q ++ (oL aT u0 o ++ Wx))) A s.heap H locs) (hO : ClO D aT x0 S Bd Wx) (hN : LnO S) (hBd : Bd + 20 < 1048000) (hc1 : cells + 110 ≤ 603072) (hc2 : slots + 13600 ≤ 7198826) (hl : lv_has ls 9 [(5, .int (nI i)), (4, .ref u1), (3, .ref u0), (2, .ref (ad 0)), (1, .ref x0), (0, .ref b)]) (kk : LK p l e s m b below meth c D aT A ad x0 u0 u1 i Bd cells slots Q) : W p l e room_1 s m #[Value.ref b] below meth c H locs cells slots Q (F0 m 464 ls []) := by
  have hx := C.1
  have hb := C.2.1
  have hA : ∀ q, s.heap.size ≤ q → A q := fun q h => by rw [hAe]; exact h
  refine lv_aload_n hx hb dL_law_464 rfl (lv_at hl 4 rfl) ?_
  refine lv_aload_n hx hb dL_law_465 rfl (lv_at hl 5 rfl) ?_
  refine lv_iload hx hb dL_law_466 (lv_at hl 0 rfl) ?_
  refine lv_iconst (v := nI 1) hx hb dL_law_468 (by decide) ?_
  refine r_iaddN hx hb (a := i) (b := 1) dL_law_469 ?_
  refine cx_sld C hW hX hbl (by rw [hAe]; exact Nat.not_le.mpr hbl) (k := i + 1) (by omega) (by omega) dL_law_470 ?_
  refine lv_aload_n hx hb dL_law_471 rfl (lv_at hl 2 rfl) ?_
  refine st_vote hfl C hml hl.1 hA hZ hW hO hN hBd (by omega) (by omega) dL_law_472 (fun r o2 W2 H locs hMd hW => ?_)
  refine lv_istore (lv' := [(6, .int r), (5, .int (nI i)), (4, .ref u1), (3, .ref u0), (2, .ref (ad 0)), (1, .ref x0), (0, .ref b)]) hx hb dL_law_475 hl (by decide) rfl (fun ls hl => ?_)
  refine lv_aload_n hx hb dL_law_477 rfl (lv_at hl 4 rfl) ?_
  refine lv_aload_n hx hb dL_law_478 rfl (lv_at hl 6 rfl) ?_
  refine lv_iload hx hb dL_law_479 (lv_at hl 1 rfl) ?_
  refine lv_iconst (v := nI 1) hx hb dL_law_481 (by decide) ?_
  refine r_iaddN hx hb (a := i) (b := 1) dL_law_482 ?_
  refine cx_sld C hW hX hbl (by rw [hAe]; exact Nat.not_le.mpr hbl) (k := i + 1) (by omega) (by omega) dL_law_483 ?_
  refine lw_mdi (As := [.int (xs (i + 1))]) (rest := []) C hml hl.1 hW hA hMd gR_vote hR_vote rfl ⟨Nat.le_of_ble_eq_true rfl, Nat.le_of_ble_eq_true rfl⟩ ⟨by show cells + 2 ≤ 603072; omega, by show slots + 12 ≤ 7198826; omega⟩ rfl (Nat.le_of_ble_eq_true rfl) dL_law_484 (fun rb S1 H locs hq hW => ?_)
  obtain ⟨Bd2, hb2, hO2, hN2⟩ := hq
  refine lv_istore (lv' := [(7, .int rb), (6, .int r), (5, .int (nI i)), (4, .ref u1), (3, .ref u0), (2, .ref (ad 0)), (1, .ref x0), (0, .ref b)]) hx hb dL_law_487 hl (by decide) rfl (fun ls hl => ?_)
  refine lv_goto (tgt := 1462) hx hb dL_law_489 (by decide) ?_
  refine W.widen (k := cells + 110) (n := slots + 13600) (by omega) (by omega) ?_
  exact kk S1 Bd2 o2 q W2 _ _ _ hb2 hO2 hN2 hW (lv_sub hl [2, 3, 4, 5, 6, 7] rfl)
set_option maxHeartbeats 4000000 in
set_option maxRecDepth 20000 in
theorem law_c6 {p : Program} {l : Launch} {e : Env} {s : State} {m : MethodId} {below : List Frame} {meth : Method} {c : Code} {H : Heap} {locs : List Loc} {cells slots : Nat} {Q : State → Prop} {ls : Array Slot} {D : va_G} {aT : Nat → ClassId} {A : Nat → Prop} {ad : Nat → Nat} {S : MSt} {x0 u0 u1 Bd b n i : Nat} {xs : Nat → Int32} {o : Nat → Int64} {q : Nat → UInt64} {Wx : va_W} (hfl : l.stackTraces = false) (hAe : A = fun q => s.heap.size ≤ q) (C : CxX p c code s #[Value.ref b] m D aT RL) (hml : c.maxLocals = 9) (hX : va_X b n xs s s.heap) (hbl : b < s.heap.size) (hn : n ≤ 2048) (hi : i + 4 ≤ n) (hZ : cZ D A s s.heap) (hW : CxB D (mdW aT ad S ++ (oD aT u1 q ++ (oL aT u0 o ++ Wx))) A s.heap H locs) (hO : ClO D aT x0 S Bd Wx) (hN : LnO S) (hBd : Bd + 20 < 1048000) (hc1 : cells + 110 ≤ 603072) (hc2 : slots + 13600 ≤ 7198826) (hl : lv_has ls 9 [(5, .int (nI i)), (4, .ref u1), (3, .ref u0), (2, .ref (ad 0)), (1, .ref x0), (0, .ref b)]) (kk : LK p l e s m b below meth c D aT A ad x0 u0 u1 i Bd cells slots Q) : W p l e room_1 s m #[Value.ref b] below meth c H locs cells slots Q (F0 m 492 ls []) := by
  have hx := C.1
  have hb := C.2.1
  have hA : ∀ q, s.heap.size ≤ q → A q := fun q h => by rw [hAe]; exact h
  refine lv_aload_n hx hb dL_law_492 rfl (lv_at hl 4 rfl) ?_
  refine st_passSeason hfl C hml hl.1 hA hZ hW hO hN hBd (by omega) (by omega) dL_law_493 (fun r W2 H locs hMd hW => ?_)
  refine lv_pop hx hb dL_law_496 rfl ?_
  refine lv_aload_n hx hb dL_law_497 rfl (lv_at hl 3 rfl) ?_
  refine lw_mdi (As := []) (rest := []) C hml hl.1 hW hA hMd gR_passSeason hR_passSeason rfl ⟨Nat.le_of_ble_eq_true rfl, Nat.le_of_ble_eq_true rfl⟩ ⟨by show cells + 0 ≤ 603072; omega, by show slots + 0 ≤ 7198826; omega⟩ rfl (Nat.le_of_ble_eq_true rfl) dL_law_498 (fun rb S1 H locs hq hW => ?_)
  obtain ⟨Bd2, hb2, hO2, hN2⟩ := hq
  refine lv_pop hx hb dL_law_501 rfl ?_
  refine lv_goto (tgt := 1462) hx hb dL_law_502 (by decide) ?_
  refine W.widen (k := cells + 110) (n := slots + 13600) (by omega) (by omega) ?_
  exact kk S1 Bd2 o q W2 _ _ _ hb2 hO2 hN2 hW (lv_sub hl [0, 1, 2, 3, 4, 5] rfl)
set_option maxHeartbeats 4000000 in
set_option maxRecDepth 20000 in
theorem law_c7 {p : Program} {l : Launch} {e : Env} {s : State} {m : MethodId} {below : List Frame} {meth : Method} {c : Code} {H : Heap} {locs : List Loc} {cells slots : Nat} {Q : State → Prop} {ls : Array Slot} {D : va_G} {aT : Nat → ClassId} {A : Nat → Prop} {ad : Nat → Nat} {S : MSt} {x0 u0 u1 Bd b n i : Nat} {xs : Nat → Int32} {o : Nat → Int64} {q : Nat → UInt64} {Wx : va_W} (hfl : l.stackTraces = false) (hAe : A = fun q => s.heap.size ≤ q) (C : CxX p c code s #[Value.ref b] m D aT RL) (hml : c.maxLocals = 9) (hX : va_X b n xs s s.heap) (hbl : b < s.heap.size) (hn : n ≤ 2048) (hi : i + 4 ≤ n) (hZ : cZ D A s s.heap) (hW : CxB D (mdW aT ad S ++ (oD aT u1 q ++ (oL aT u0 o ++ Wx))) A s.heap H locs) (hO : ClO D aT x0 S Bd Wx) (hN : LnO S) (hBd : Bd + 20 < 1048000) (hc1 : cells + 110 ≤ 603072) (hc2 : slots + 13600 ≤ 7198826) (hl : lv_has ls 9 [(5, .int (nI i)), (4, .ref u1), (3, .ref u0), (2, .ref (ad 0)), (1, .ref x0), (0, .ref b)]) (kk : LK p l e s m b below meth c D aT A ad x0 u0 u1 i Bd cells slots Q) : W p l e room_1 s m #[Value.ref b] below meth c H locs cells slots Q (F0 m 505 ls []) := by
  have hx := C.1
  have hb := C.2.1
  have hA : ∀ q, s.heap.size ≤ q → A q := fun q h => by rw [hAe]; exact h
  refine lv_aload_n hx hb dL_law_505 rfl (lv_at hl 4 rfl) ?_
  refine st_hedgeCount hfl C hml hl.1 hA hZ hW hO hN hBd (by omega) (by omega) dL_law_506 (fun r W2 H locs hMd hW => ?_)
  refine lv_pop hx hb dL_law_509 rfl ?_
  refine lv_aload_n hx hb dL_law_510 rfl (lv_at hl 3 rfl) ?_
  refine lw_mdi (As := []) (rest := []) C hml hl.1 hW hA hMd gR_hedgeCount hR_hedgeCount rfl ⟨Nat.le_of_ble_eq_true rfl, Nat.le_of_ble_eq_true rfl⟩ ⟨by show cells + 0 ≤ 603072; omega, by show slots + 0 ≤ 7198826; omega⟩ rfl (Nat.le_of_ble_eq_true rfl) dL_law_511 (fun rb S1 H locs hq hW => ?_)
  obtain ⟨Bd2, hb2, hO2, hN2⟩ := hq
  refine lv_pop hx hb dL_law_514 rfl ?_
  refine lv_goto (tgt := 1462) hx hb dL_law_515 (by decide) ?_
  refine W.widen (k := cells + 110) (n := slots + 13600) (by omega) (by omega) ?_
  exact kk S1 Bd2 o q W2 _ _ _ hb2 hO2 hN2 hW (lv_sub hl [0, 1, 2, 3, 4, 5] rfl)
set_option maxHeartbeats 4000000 in
set_option maxRecDepth 20000 in
theorem law_c8 {p : Program} {l : Launch} {e : Env} {s : State} {m : MethodId} {below : List Frame} {meth : Method} {c : Code} {H : Heap} {locs : List Loc} {cells slots : Nat} {Q : State → Prop} {ls : Array Slot} {D : va_G} {aT : Nat → ClassId} {A : Nat → Prop} {ad : Nat → Nat} {S : MSt} {x0 u0 u1 Bd b n i : Nat} {xs : Nat → Int32} {o : Nat → Int64} {q : Nat → UInt64} {Wx : va_W} (hfl : l.stackTraces = false) (hAe : A = fun q => s.heap.size ≤ q) (C : CxX p c code s #[Value.ref b] m D aT RL) (hml : c.maxLocals = 9) (hX : va_X b n xs s s.heap) (hbl : b < s.heap.size) (hn : n ≤ 2048) (hi : i + 4 ≤ n) (hZ : cZ D A s s.heap) (hW : CxB D (mdW aT ad S ++ (oD aT u1 q ++ (oL aT u0 o ++ Wx))) A s.heap H locs) (hO : ClO D aT x0 S Bd Wx) (hN : LnO S) (hBd : Bd + 20 < 1048000) (hc1 : cells + 110 ≤ 603072) (hc2 : slots + 13600 ≤ 7198826) (hl : lv_has ls 9 [(5, .int (nI i)), (4, .ref u1), (3, .ref u0), (2, .ref (ad 0)), (1, .ref x0), (0, .ref b)]) (kk : LK p l e s m b below meth c D aT A ad x0 u0 u1 i Bd cells slots Q) : W p l e room_1 s m #[Value.ref b] below meth c H locs cells slots Q (F0 m 518 ls []) := by
  have hx := C.1
  have hb := C.2.1
  have hA : ∀ q, s.heap.size ≤ q → A q := fun q h => by rw [hAe]; exact h
  refine lv_aload_n hx hb dL_law_518 rfl (lv_at hl 4 rfl) ?_
  refine lv_aload_n hx hb dL_law_519 rfl (lv_at hl 5 rfl) ?_
  refine lv_iload hx hb dL_law_520 (lv_at hl 0 rfl) ?_
  refine lv_iconst (v := nI 1) hx hb dL_law_522 (by decide) ?_
  refine r_iaddN hx hb (a := i) (b := 1) dL_law_523 ?_
  refine cx_sld C hW hX hbl (by rw [hAe]; exact Nat.not_le.mpr hbl) (k := i + 1) (by omega) (by omega) dL_law_524 ?_
  refine lv_aload_n hx hb dL_law_525 rfl (lv_at hl 2 rfl) ?_
  refine st_leaves hfl C hml hl.1 hA hZ hW hO hN hBd (by omega) (by omega) dL_law_526 (fun r o2 W2 H locs hMd hW => ?_)
  refine lv_istore (lv' := [(6, .int r), (5, .int (nI i)), (4, .ref u1), (3, .ref u0), (2, .ref (ad 0)), (1, .ref x0), (0, .ref b)]) hx hb dL_law_529 hl (by decide) rfl (fun ls hl => ?_)
  refine lv_aload_n hx hb dL_law_531 rfl (lv_at hl 4 rfl) ?_
  refine lv_aload_n hx hb dL_law_532 rfl (lv_at hl 6 rfl) ?_
  refine lv_iload hx hb dL_law_533 (lv_at hl 1 rfl) ?_
  refine lv_iconst (v := nI 1) hx hb dL_law_535 (by decide) ?_
  refine r_iaddN hx hb (a := i) (b := 1) dL_law_536 ?_
  refine cx_sld C hW hX hbl (by rw [hAe]; exact Nat.not_le.mpr hbl) (k := i + 1) (by omega) (by omega) dL_law_537 ?_
  refine lw_mdi (As := [.int (xs (i + 1))]) (rest := []) C hml hl.1 hW hA hMd gR_leaves hR_leaves rfl ⟨Nat.le_of_ble_eq_true rfl, Nat.le_of_ble_eq_true rfl⟩ ⟨by show cells + 1 ≤ 603072; omega, by show slots + 6 ≤ 7198826; omega⟩ rfl (Nat.le_of_ble_eq_true rfl) dL_law_538 (fun rb S1 H locs hq hW => ?_)
  obtain ⟨Bd2, hb2, hO2, hN2⟩ := hq
  refine lv_istore (lv' := [(7, .int rb), (6, .int r), (5, .int (nI i)), (4, .ref u1), (3, .ref u0), (2, .ref (ad 0)), (1, .ref x0), (0, .ref b)]) hx hb dL_law_541 hl (by decide) rfl (fun ls hl => ?_)
  refine lv_goto (tgt := 1462) hx hb dL_law_543 (by decide) ?_
  refine W.widen (k := cells + 110) (n := slots + 13600) (by omega) (by omega) ?_
  exact kk S1 Bd2 o2 q W2 _ _ _ hb2 hO2 hN2 hW (lv_sub hl [2, 3, 4, 5, 6, 7] rfl)
set_option maxHeartbeats 4000000 in
set_option maxRecDepth 20000 in
theorem law_c9 {p : Program} {l : Launch} {e : Env} {s : State} {m : MethodId} {below : List Frame} {meth : Method} {c : Code} {H : Heap} {locs : List Loc} {cells slots : Nat} {Q : State → Prop} {ls : Array Slot} {D : va_G} {aT : Nat → ClassId} {A : Nat → Prop} {ad : Nat → Nat} {S : MSt} {x0 u0 u1 Bd b n i : Nat} {xs : Nat → Int32} {o : Nat → Int64} {q : Nat → UInt64} {Wx : va_W} (hfl : l.stackTraces = false) (hAe : A = fun q => s.heap.size ≤ q) (C : CxX p c code s #[Value.ref b] m D aT RL) (hml : c.maxLocals = 9) (hX : va_X b n xs s s.heap) (hbl : b < s.heap.size) (hn : n ≤ 2048) (hi : i + 4 ≤ n) (hZ : cZ D A s s.heap) (hW : CxB D (mdW aT ad S ++ (oD aT u1 q ++ (oL aT u0 o ++ Wx))) A s.heap H locs) (hO : ClO D aT x0 S Bd Wx) (hN : LnO S) (hBd : Bd + 20 < 1048000) (hc1 : cells + 110 ≤ 603072) (hc2 : slots + 13600 ≤ 7198826) (hl : lv_has ls 9 [(5, .int (nI i)), (4, .ref u1), (3, .ref u0), (2, .ref (ad 0)), (1, .ref x0), (0, .ref b)]) (kk : LK p l e s m b below meth c D aT A ad x0 u0 u1 i Bd cells slots Q) : W p l e room_1 s m #[Value.ref b] below meth c H locs cells slots Q (F0 m 546 ls []) := by
  have hx := C.1
  have hb := C.2.1
  have hA : ∀ q, s.heap.size ≤ q → A q := fun q h => by rw [hAe]; exact h
  refine lv_aload_n hx hb dL_law_546 rfl (lv_at hl 4 rfl) ?_
  refine lv_aload_n hx hb dL_law_547 rfl (lv_at hl 5 rfl) ?_
  refine lv_iload hx hb dL_law_548 (lv_at hl 0 rfl) ?_
  refine lv_iconst (v := nI 1) hx hb dL_law_550 (by decide) ?_
  refine r_iaddN hx hb (a := i) (b := 1) dL_law_551 ?_
  refine cx_sld C hW hX hbl (by rw [hAe]; exact Nat.not_le.mpr hbl) (k := i + 1) (by omega) (by omega) dL_law_552 ?_
  refine lv_aload_n hx hb dL_law_553 rfl (lv_at hl 2 rfl) ?_
  refine st_thorns hfl C hml hl.1 hA hZ hW hO hN hBd (by omega) (by omega) dL_law_554 (fun r o2 W2 H locs hMd hW => ?_)
  refine lv_istore (lv' := [(6, .int r), (5, .int (nI i)), (4, .ref u1), (3, .ref u0), (2, .ref (ad 0)), (1, .ref x0), (0, .ref b)]) hx hb dL_law_557 hl (by decide) rfl (fun ls hl => ?_)
  refine lv_aload_n hx hb dL_law_559 rfl (lv_at hl 4 rfl) ?_
  refine lv_aload_n hx hb dL_law_560 rfl (lv_at hl 6 rfl) ?_
  refine lv_iload hx hb dL_law_561 (lv_at hl 1 rfl) ?_
  refine lv_iconst (v := nI 1) hx hb dL_law_563 (by decide) ?_
  refine r_iaddN hx hb (a := i) (b := 1) dL_law_564 ?_
  refine cx_sld C hW hX hbl (by rw [hAe]; exact Nat.not_le.mpr hbl) (k := i + 1) (by omega) (by omega) dL_law_565 ?_
  refine lw_mdi (As := [.int (xs (i + 1))]) (rest := []) C hml hl.1 hW hA hMd gR_thorns hR_thorns rfl ⟨Nat.le_of_ble_eq_true rfl, Nat.le_of_ble_eq_true rfl⟩ ⟨by show cells + 1 ≤ 603072; omega, by show slots + 6 ≤ 7198826; omega⟩ rfl (Nat.le_of_ble_eq_true rfl) dL_law_566 (fun rb S1 H locs hq hW => ?_)
  obtain ⟨Bd2, hb2, hO2, hN2⟩ := hq
  refine lv_istore (lv' := [(7, .int rb), (6, .int r), (5, .int (nI i)), (4, .ref u1), (3, .ref u0), (2, .ref (ad 0)), (1, .ref x0), (0, .ref b)]) hx hb dL_law_569 hl (by decide) rfl (fun ls hl => ?_)
  refine lv_goto (tgt := 1462) hx hb dL_law_571 (by decide) ?_
  refine W.widen (k := cells + 110) (n := slots + 13600) (by omega) (by omega) ?_
  exact kk S1 Bd2 o2 q W2 _ _ _ hb2 hO2 hN2 hW (lv_sub hl [2, 3, 4, 5, 6, 7] rfl)
set_option maxHeartbeats 4000000 in
set_option maxRecDepth 20000 in
theorem law_c10 {p : Program} {l : Launch} {e : Env} {s : State} {m : MethodId} {below : List Frame} {meth : Method} {c : Code} {H : Heap} {locs : List Loc} {cells slots : Nat} {Q : State → Prop} {ls : Array Slot} {D : va_G} {aT : Nat → ClassId} {A : Nat → Prop} {ad : Nat → Nat} {S : MSt} {x0 u0 u1 Bd b n i : Nat} {xs : Nat → Int32} {o : Nat → Int64} {q : Nat → UInt64} {Wx : va_W} (hfl : l.stackTraces = false) (hAe : A = fun q => s.heap.size ≤ q) (C : CxX p c code s #[Value.ref b] m D aT RL) (hml : c.maxLocals = 9) (hX : va_X b n xs s s.heap) (hbl : b < s.heap.size) (hn : n ≤ 2048) (hi : i + 4 ≤ n) (hZ : cZ D A s s.heap) (hW : CxB D (mdW aT ad S ++ (oD aT u1 q ++ (oL aT u0 o ++ Wx))) A s.heap H locs) (hO : ClO D aT x0 S Bd Wx) (hN : LnO S) (hBd : Bd + 20 < 1048000) (hc1 : cells + 110 ≤ 603072) (hc2 : slots + 13600 ≤ 7198826) (hl : lv_has ls 9 [(5, .int (nI i)), (4, .ref u1), (3, .ref u0), (2, .ref (ad 0)), (1, .ref x0), (0, .ref b)]) (kk : LK p l e s m b below meth c D aT A ad x0 u0 u1 i Bd cells slots Q) : W p l e room_1 s m #[Value.ref b] below meth c H locs cells slots Q (F0 m 574 ls []) := by
  have hx := C.1
  have hb := C.2.1
  have hA : ∀ q, s.heap.size ≤ q → A q := fun q h => by rw [hAe]; exact h
  refine lv_aload_n hx hb dL_law_574 rfl (lv_at hl 4 rfl) ?_
  refine lv_aload_n hx hb dL_law_575 rfl (lv_at hl 5 rfl) ?_
  refine lv_iload hx hb dL_law_576 (lv_at hl 0 rfl) ?_
  refine lv_iconst (v := nI 1) hx hb dL_law_578 (by decide) ?_
  refine r_iaddN hx hb (a := i) (b := 1) dL_law_579 ?_
  refine cx_sld C hW hX hbl (by rw [hAe]; exact Nat.not_le.mpr hbl) (k := i + 1) (by omega) (by omega) dL_law_580 ?_
  refine lv_aload_n hx hb dL_law_581 rfl (lv_at hl 2 rfl) ?_
  refine st_hedgeAtRank hfl C hml hl.1 hA hZ hW hO hN hBd (by omega) (by omega) dL_law_582 (fun r o2 W2 H locs hMd hW => ?_)
  refine lv_istore (lv' := [(6, .int r), (5, .int (nI i)), (4, .ref u1), (3, .ref u0), (2, .ref (ad 0)), (1, .ref x0), (0, .ref b)]) hx hb dL_law_585 hl (by decide) rfl (fun ls hl => ?_)
  refine lv_aload_n hx hb dL_law_587 rfl (lv_at hl 4 rfl) ?_
  refine lv_aload_n hx hb dL_law_588 rfl (lv_at hl 6 rfl) ?_
  refine lv_iload hx hb dL_law_589 (lv_at hl 1 rfl) ?_
  refine lv_iconst (v := nI 1) hx hb dL_law_591 (by decide) ?_
  refine r_iaddN hx hb (a := i) (b := 1) dL_law_592 ?_
  refine cx_sld C hW hX hbl (by rw [hAe]; exact Nat.not_le.mpr hbl) (k := i + 1) (by omega) (by omega) dL_law_593 ?_
  refine lw_mdi (As := [.int (xs (i + 1))]) (rest := []) C hml hl.1 hW hA hMd gR_hedgeAtRank hR_hedgeAtRank rfl ⟨Nat.le_of_ble_eq_true rfl, Nat.le_of_ble_eq_true rfl⟩ ⟨by show cells + 1 ≤ 603072; omega, by show slots + 6 ≤ 7198826; omega⟩ rfl (Nat.le_of_ble_eq_true rfl) dL_law_594 (fun rb S1 H locs hq hW => ?_)
  obtain ⟨Bd2, hb2, hO2, hN2⟩ := hq
  refine lv_istore (lv' := [(7, .int rb), (6, .int r), (5, .int (nI i)), (4, .ref u1), (3, .ref u0), (2, .ref (ad 0)), (1, .ref x0), (0, .ref b)]) hx hb dL_law_597 hl (by decide) rfl (fun ls hl => ?_)
  refine lv_goto (tgt := 1462) hx hb dL_law_599 (by decide) ?_
  refine W.widen (k := cells + 110) (n := slots + 13600) (by omega) (by omega) ?_
  exact kk S1 Bd2 o2 q W2 _ _ _ hb2 hO2 hN2 hW (lv_sub hl [2, 3, 4, 5, 6, 7] rfl)
set_option maxHeartbeats 4000000 in
set_option maxRecDepth 20000 in
theorem law_c11 {p : Program} {l : Launch} {e : Env} {s : State} {m : MethodId} {below : List Frame} {meth : Method} {c : Code} {H : Heap} {locs : List Loc} {cells slots : Nat} {Q : State → Prop} {ls : Array Slot} {D : va_G} {aT : Nat → ClassId} {A : Nat → Prop} {ad : Nat → Nat} {S : MSt} {x0 u0 u1 Bd b n i : Nat} {xs : Nat → Int32} {o : Nat → Int64} {q : Nat → UInt64} {Wx : va_W} (hfl : l.stackTraces = false) (hAe : A = fun q => s.heap.size ≤ q) (C : CxX p c code s #[Value.ref b] m D aT RL) (hml : c.maxLocals = 9) (hX : va_X b n xs s s.heap) (hbl : b < s.heap.size) (hn : n ≤ 2048) (hi : i + 4 ≤ n) (hZ : cZ D A s s.heap) (hW : CxB D (mdW aT ad S ++ (oD aT u1 q ++ (oL aT u0 o ++ Wx))) A s.heap H locs) (hO : ClO D aT x0 S Bd Wx) (hN : LnO S) (hBd : Bd + 20 < 1048000) (hc1 : cells + 110 ≤ 603072) (hc2 : slots + 13600 ≤ 7198826) (hl : lv_has ls 9 [(5, .int (nI i)), (4, .ref u1), (3, .ref u0), (2, .ref (ad 0)), (1, .ref x0), (0, .ref b)]) (kk : LK p l e s m b below meth c D aT A ad x0 u0 u1 i Bd cells slots Q) : W p l e room_1 s m #[Value.ref b] below meth c H locs cells slots Q (F0 m 602 ls []) := by
  have hx := C.1
  have hb := C.2.1
  have hA : ∀ q, s.heap.size ≤ q → A q := fun q h => by rw [hAe]; exact h
  refine lv_aload_n hx hb dL_law_602 rfl (lv_at hl 4 rfl) ?_
  refine lv_aload_n hx hb dL_law_603 rfl (lv_at hl 5 rfl) ?_
  refine lv_iload hx hb dL_law_604 (lv_at hl 0 rfl) ?_
  refine lv_iconst (v := nI 1) hx hb dL_law_606 (by decide) ?_
  refine r_iaddN hx hb (a := i) (b := 1) dL_law_607 ?_
  refine cx_sld C hW hX hbl (by rw [hAe]; exact Nat.not_le.mpr hbl) (k := i + 1) (by omega) (by omega) dL_law_608 ?_
  refine lv_aload_n hx hb dL_law_609 rfl (lv_at hl 2 rfl) ?_
  refine st_leavesInFavour hfl C hml hl.1 hA hZ hW hO hN hBd (by omega) (by omega) dL_law_610 (fun r o2 W2 H locs hMd hW => ?_)
  refine lv_istore (lv' := [(6, .int r), (5, .int (nI i)), (4, .ref u1), (3, .ref u0), (2, .ref (ad 0)), (1, .ref x0), (0, .ref b)]) hx hb dL_law_613 hl (by decide) rfl (fun ls hl => ?_)
  refine lv_aload_n hx hb dL_law_615 rfl (lv_at hl 4 rfl) ?_
  refine lv_aload_n hx hb dL_law_616 rfl (lv_at hl 6 rfl) ?_
  refine lv_iload hx hb dL_law_617 (lv_at hl 1 rfl) ?_
  refine lv_iconst (v := nI 1) hx hb dL_law_619 (by decide) ?_
  refine r_iaddN hx hb (a := i) (b := 1) dL_law_620 ?_
  refine cx_sld C hW hX hbl (by rw [hAe]; exact Nat.not_le.mpr hbl) (k := i + 1) (by omega) (by omega) dL_law_621 ?_
  refine lw_mdi (As := [.int (xs (i + 1))]) (rest := []) C hml hl.1 hW hA hMd gR_leavesInFavour hR_leavesInFavour rfl ⟨Nat.le_of_ble_eq_true rfl, Nat.le_of_ble_eq_true rfl⟩ ⟨by show cells + 1 ≤ 603072; omega, by show slots + 6 ≤ 7198826; omega⟩ rfl (Nat.le_of_ble_eq_true rfl) dL_law_622 (fun rb S1 H locs hq hW => ?_)
  obtain ⟨Bd2, hb2, hO2, hN2⟩ := hq
  refine lv_istore (lv' := [(7, .int rb), (6, .int r), (5, .int (nI i)), (4, .ref u1), (3, .ref u0), (2, .ref (ad 0)), (1, .ref x0), (0, .ref b)]) hx hb dL_law_625 hl (by decide) rfl (fun ls hl => ?_)
  refine lv_goto (tgt := 1462) hx hb dL_law_627 (by decide) ?_
  refine W.widen (k := cells + 110) (n := slots + 13600) (by omega) (by omega) ?_
  exact kk S1 Bd2 o2 q W2 _ _ _ hb2 hO2 hN2 hW (lv_sub hl [2, 3, 4, 5, 6, 7] rfl)
set_option maxHeartbeats 4000000 in
set_option maxRecDepth 20000 in
theorem law_c12 {p : Program} {l : Launch} {e : Env} {s : State} {m : MethodId} {below : List Frame} {meth : Method} {c : Code} {H : Heap} {locs : List Loc} {cells slots : Nat} {Q : State → Prop} {ls : Array Slot} {D : va_G} {aT : Nat → ClassId} {A : Nat → Prop} {ad : Nat → Nat} {S : MSt} {x0 u0 u1 Bd b n i : Nat} {xs : Nat → Int32} {o : Nat → Int64} {q : Nat → UInt64} {Wx : va_W} (hfl : l.stackTraces = false) (hAe : A = fun q => s.heap.size ≤ q) (C : CxX p c code s #[Value.ref b] m D aT RL) (hml : c.maxLocals = 9) (hX : va_X b n xs s s.heap) (hbl : b < s.heap.size) (hn : n ≤ 2048) (hi : i + 4 ≤ n) (hZ : cZ D A s s.heap) (hW : CxB D (mdW aT ad S ++ (oD aT u1 q ++ (oL aT u0 o ++ Wx))) A s.heap H locs) (hO : ClO D aT x0 S Bd Wx) (hN : LnO S) (hBd : Bd + 20 < 1048000) (hc1 : cells + 110 ≤ 603072) (hc2 : slots + 13600 ≤ 7198826) (hl : lv_has ls 9 [(5, .int (nI i)), (4, .ref u1), (3, .ref u0), (2, .ref (ad 0)), (1, .ref x0), (0, .ref b)]) (kk : LK p l e s m b below meth c D aT A ad x0 u0 u1 i Bd cells slots Q) : W p l e room_1 s m #[Value.ref b] below meth c H locs cells slots Q (F0 m 630 ls []) := by
  have hx := C.1
  have hb := C.2.1
  have hA : ∀ q, s.heap.size ≤ q → A q := fun q h => by rw [hAe]; exact h
  refine lv_aload_n hx hb dL_law_630 rfl (lv_at hl 4 rfl) ?_
  refine lv_aload_n hx hb dL_law_631 rfl (lv_at hl 5 rfl) ?_
  refine lv_iload hx hb dL_law_632 (lv_at hl 0 rfl) ?_
  refine lv_iconst (v := nI 1) hx hb dL_law_634 (by decide) ?_
  refine r_iaddN hx hb (a := i) (b := 1) dL_law_635 ?_
  refine cx_sld C hW hX hbl (by rw [hAe]; exact Nat.not_le.mpr hbl) (k := i + 1) (by omega) (by omega) dL_law_636 ?_
  refine lv_aload_n hx hb dL_law_637 rfl (lv_at hl 5 rfl) ?_
  refine lv_iload hx hb dL_law_638 (lv_at hl 0 rfl) ?_
  refine lv_iconst (v := nI 2) hx hb dL_law_640 (by decide) ?_
  refine r_iaddN hx hb (a := i) (b := 2) dL_law_641 ?_
  refine cx_sld C hW hX hbl (by rw [hAe]; exact Nat.not_le.mpr hbl) (k := i + 2) (by omega) (by omega) dL_law_642 ?_
  refine lv_aload_n hx hb dL_law_643 rfl (lv_at hl 2 rfl) ?_
  refine st_wouldVeto hfl C hml hl.1 hA hZ hW hO hN hBd (by omega) (by omega) dL_law_644 (fun r o2 W2 H locs hMd hW => ?_)
  refine lv_istore (lv' := [(6, .int r), (5, .int (nI i)), (4, .ref u1), (3, .ref u0), (2, .ref (ad 0)), (1, .ref x0), (0, .ref b)]) hx hb dL_law_647 hl (by decide) rfl (fun ls hl => ?_)
  refine lv_aload_n hx hb dL_law_649 rfl (lv_at hl 4 rfl) ?_
  refine lv_aload_n hx hb dL_law_650 rfl (lv_at hl 6 rfl) ?_
  refine lv_iload hx hb dL_law_651 (lv_at hl 1 rfl) ?_
  refine lv_iconst (v := nI 1) hx hb dL_law_653 (by decide) ?_
  refine r_iaddN hx hb (a := i) (b := 1) dL_law_654 ?_
  refine cx_sld C hW hX hbl (by rw [hAe]; exact Nat.not_le.mpr hbl) (k := i + 1) (by omega) (by omega) dL_law_655 ?_
  refine lv_aload_n hx hb dL_law_656 rfl (lv_at hl 6 rfl) ?_
  refine lv_iload hx hb dL_law_657 (lv_at hl 1 rfl) ?_
  refine lv_iconst (v := nI 2) hx hb dL_law_659 (by decide) ?_
  refine r_iaddN hx hb (a := i) (b := 2) dL_law_660 ?_
  refine cx_sld C hW hX hbl (by rw [hAe]; exact Nat.not_le.mpr hbl) (k := i + 2) (by omega) (by omega) dL_law_661 ?_
  refine lw_mdi (As := [.int (xs (i + 1)), .int (xs (i + 2))]) (rest := []) C hml hl.1 hW hA hMd gR_wouldVeto hR_wouldVeto rfl ⟨Nat.le_of_ble_eq_true rfl, Nat.le_of_ble_eq_true rfl⟩ ⟨by show cells + 2 ≤ 603072; omega, by show slots + 12 ≤ 7198826; omega⟩ rfl (Nat.le_of_ble_eq_true rfl) dL_law_662 (fun rb S1 H locs hq hW => ?_)
  obtain ⟨Bd2, hb2, hO2, hN2⟩ := hq
  refine lv_istore (lv' := [(7, .int rb), (6, .int r), (5, .int (nI i)), (4, .ref u1), (3, .ref u0), (2, .ref (ad 0)), (1, .ref x0), (0, .ref b)]) hx hb dL_law_665 hl (by decide) rfl (fun ls hl => ?_)
  refine lv_goto (tgt := 1462) hx hb dL_law_667 (by decide) ?_
  refine W.widen (k := cells + 110) (n := slots + 13600) (by omega) (by omega) ?_
  exact kk S1 Bd2 o2 q W2 _ _ _ hb2 hO2 hN2 hW (lv_sub hl [2, 3, 4, 5, 6, 7] rfl)
set_option maxHeartbeats 4000000 in
set_option maxRecDepth 20000 in
theorem law_c13 {p : Program} {l : Launch} {e : Env} {s : State} {m : MethodId} {below : List Frame} {meth : Method} {c : Code} {H : Heap} {locs : List Loc} {cells slots : Nat} {Q : State → Prop} {ls : Array Slot} {D : va_G} {aT : Nat → ClassId} {A : Nat → Prop} {ad : Nat → Nat} {S : MSt} {x0 u0 u1 Bd b n i : Nat} {xs : Nat → Int32} {o : Nat → Int64} {q : Nat → UInt64} {Wx : va_W} (hfl : l.stackTraces = false) (hAe : A = fun q => s.heap.size ≤ q) (C : CxX p c code s #[Value.ref b] m D aT RL) (hml : c.maxLocals = 9) (hX : va_X b n xs s s.heap) (hbl : b < s.heap.size) (hn : n ≤ 2048) (hi : i + 4 ≤ n) (hZ : cZ D A s s.heap) (hW : CxB D (mdW aT ad S ++ (oD aT u1 q ++ (oL aT u0 o ++ Wx))) A s.heap H locs) (hO : ClO D aT x0 S Bd Wx) (hN : LnO S) (hBd : Bd + 20 < 1048000) (hc1 : cells + 110 ≤ 603072) (hc2 : slots + 13600 ≤ 7198826) (hl : lv_has ls 9 [(5, .int (nI i)), (4, .ref u1), (3, .ref u0), (2, .ref (ad 0)), (1, .ref x0), (0, .ref b)]) (kk : LK p l e s m b below meth c D aT A ad x0 u0 u1 i Bd cells slots Q) : W p l e room_1 s m #[Value.ref b] below meth c H locs cells slots Q (F0 m 670 ls []) := by
  have hx := C.1
  have hb := C.2.1
  have hA : ∀ q, s.heap.size ≤ q → A q := fun q h => by rw [hAe]; exact h
  refine lv_aload_n hx hb dL_law_670 rfl (lv_at hl 4 rfl) ?_
  refine st_motionCount hfl C hml hl.1 hA hZ hW hO hN hBd (by omega) (by omega) dL_law_671 (fun r W2 H locs hMd hW => ?_)
  refine lv_pop hx hb dL_law_674 rfl ?_
  refine lv_aload_n hx hb dL_law_675 rfl (lv_at hl 3 rfl) ?_
  refine lw_mdi (As := []) (rest := []) C hml hl.1 hW hA hMd gR_motionCount hR_motionCount rfl ⟨Nat.le_of_ble_eq_true rfl, Nat.le_of_ble_eq_true rfl⟩ ⟨by show cells + 0 ≤ 603072; omega, by show slots + 0 ≤ 7198826; omega⟩ rfl (Nat.le_of_ble_eq_true rfl) dL_law_676 (fun rb S1 H locs hq hW => ?_)
  obtain ⟨Bd2, hb2, hO2, hN2⟩ := hq
  refine lv_pop hx hb dL_law_679 rfl ?_
  refine lv_goto (tgt := 1462) hx hb dL_law_680 (by decide) ?_
  refine W.widen (k := cells + 110) (n := slots + 13600) (by omega) (by omega) ?_
  exact kk S1 Bd2 o q W2 _ _ _ hb2 hO2 hN2 hW (lv_sub hl [0, 1, 2, 3, 4, 5] rfl)
set_option maxHeartbeats 4000000 in
set_option maxRecDepth 20000 in
theorem law_c14 {p : Program} {l : Launch} {e : Env} {s : State} {m : MethodId} {below : List Frame} {meth : Method} {c : Code} {H : Heap} {locs : List Loc} {cells slots : Nat} {Q : State → Prop} {ls : Array Slot} {D : va_G} {aT : Nat → ClassId} {A : Nat → Prop} {ad : Nat → Nat} {S : MSt} {x0 u0 u1 Bd b n i : Nat} {xs : Nat → Int32} {o : Nat → Int64} {q : Nat → UInt64} {Wx : va_W} (hfl : l.stackTraces = false) (hAe : A = fun q => s.heap.size ≤ q) (C : CxX p c code s #[Value.ref b] m D aT RL) (hml : c.maxLocals = 9) (hX : va_X b n xs s s.heap) (hbl : b < s.heap.size) (hn : n ≤ 2048) (hi : i + 4 ≤ n) (hZ : cZ D A s s.heap) (hW : CxB D (mdW aT ad S ++ (oD aT u1 q ++ (oL aT u0 o ++ Wx))) A s.heap H locs) (hO : ClO D aT x0 S Bd Wx) (hN : LnO S) (hBd : Bd + 20 < 1048000) (hc1 : cells + 110 ≤ 603072) (hc2 : slots + 13600 ≤ 7198826) (hl : lv_has ls 9 [(5, .int (nI i)), (4, .ref u1), (3, .ref u0), (2, .ref (ad 0)), (1, .ref x0), (0, .ref b)]) (kk : LK p l e s m b below meth c D aT A ad x0 u0 u1 i Bd cells slots Q) : W p l e room_1 s m #[Value.ref b] below meth c H locs cells slots Q (F0 m 683 ls []) := by
  have hx := C.1
  have hb := C.2.1
  have hA : ∀ q, s.heap.size ≤ q → A q := fun q h => by rw [hAe]; exact h
  refine lv_aload_n hx hb dL_law_683 rfl (lv_at hl 4 rfl) ?_
  refine lv_aload_n hx hb dL_law_684 rfl (lv_at hl 5 rfl) ?_
  refine lv_iload hx hb dL_law_685 (lv_at hl 0 rfl) ?_
  refine lv_iconst (v := nI 1) hx hb dL_law_687 (by decide) ?_
  refine r_iaddN hx hb (a := i) (b := 1) dL_law_688 ?_
  refine cx_sld C hW hX hbl (by rw [hAe]; exact Nat.not_le.mpr hbl) (k := i + 1) (by omega) (by omega) dL_law_689 ?_
  refine lv_aload_n hx hb dL_law_690 rfl (lv_at hl 2 rfl) ?_
  refine st_motionAt hfl C hml hl.1 hA hZ hW hO hN hBd (by omega) (by omega) dL_law_691 (fun r o2 W2 H locs hMd hW => ?_)
  refine lv_istore (lv' := [(6, .int r), (5, .int (nI i)), (4, .ref u1), (3, .ref u0), (2, .ref (ad 0)), (1, .ref x0), (0, .ref b)]) hx hb dL_law_694 hl (by decide) rfl (fun ls hl => ?_)
  refine lv_aload_n hx hb dL_law_696 rfl (lv_at hl 4 rfl) ?_
  refine lv_aload_n hx hb dL_law_697 rfl (lv_at hl 6 rfl) ?_
  refine lv_iload hx hb dL_law_698 (lv_at hl 1 rfl) ?_
  refine lv_iconst (v := nI 1) hx hb dL_law_700 (by decide) ?_
  refine r_iaddN hx hb (a := i) (b := 1) dL_law_701 ?_
  refine cx_sld C hW hX hbl (by rw [hAe]; exact Nat.not_le.mpr hbl) (k := i + 1) (by omega) (by omega) dL_law_702 ?_
  refine lw_mdi (As := [.int (xs (i + 1))]) (rest := []) C hml hl.1 hW hA hMd gR_motionAt hR_motionAt rfl ⟨Nat.le_of_ble_eq_true rfl, Nat.le_of_ble_eq_true rfl⟩ ⟨by show cells + 1 ≤ 603072; omega, by show slots + 6 ≤ 7198826; omega⟩ rfl (Nat.le_of_ble_eq_true rfl) dL_law_703 (fun rb S1 H locs hq hW => ?_)
  obtain ⟨Bd2, hb2, hO2, hN2⟩ := hq
  refine lv_istore (lv' := [(7, .int rb), (6, .int r), (5, .int (nI i)), (4, .ref u1), (3, .ref u0), (2, .ref (ad 0)), (1, .ref x0), (0, .ref b)]) hx hb dL_law_706 hl (by decide) rfl (fun ls hl => ?_)
  refine lv_goto (tgt := 1462) hx hb dL_law_708 (by decide) ?_
  refine W.widen (k := cells + 110) (n := slots + 13600) (by omega) (by omega) ?_
  exact kk S1 Bd2 o2 q W2 _ _ _ hb2 hO2 hN2 hW (lv_sub hl [2, 3, 4, 5, 6, 7] rfl)
set_option maxHeartbeats 4000000 in
set_option maxRecDepth 20000 in
theorem law_c15 {p : Program} {l : Launch} {e : Env} {s : State} {m : MethodId} {below : List Frame} {meth : Method} {c : Code} {H : Heap} {locs : List Loc} {cells slots : Nat} {Q : State → Prop} {ls : Array Slot} {D : va_G} {aT : Nat → ClassId} {A : Nat → Prop} {ad : Nat → Nat} {S : MSt} {x0 u0 u1 Bd b n i : Nat} {xs : Nat → Int32} {o : Nat → Int64} {q : Nat → UInt64} {Wx : va_W} (hfl : l.stackTraces = false) (hAe : A = fun q => s.heap.size ≤ q) (C : CxX p c code s #[Value.ref b] m D aT RL) (hml : c.maxLocals = 9) (hX : va_X b n xs s s.heap) (hbl : b < s.heap.size) (hn : n ≤ 2048) (hi : i + 4 ≤ n) (hZ : cZ D A s s.heap) (hW : CxB D (mdW aT ad S ++ (oD aT u1 q ++ (oL aT u0 o ++ Wx))) A s.heap H locs) (hO : ClO D aT x0 S Bd Wx) (hN : LnO S) (hBd : Bd + 20 < 1048000) (hc1 : cells + 110 ≤ 603072) (hc2 : slots + 13600 ≤ 7198826) (hl : lv_has ls 9 [(5, .int (nI i)), (4, .ref u1), (3, .ref u0), (2, .ref (ad 0)), (1, .ref x0), (0, .ref b)]) (kk : LK p l e s m b below meth c D aT A ad x0 u0 u1 i Bd cells slots Q) : W p l e room_1 s m #[Value.ref b] below meth c H locs cells slots Q (F0 m 711 ls []) := by
  have hx := C.1
  have hb := C.2.1
  have hA : ∀ q, s.heap.size ≤ q → A q := fun q h => by rw [hAe]; exact h
  refine lv_aload_n hx hb dL_law_711 rfl (lv_at hl 4 rfl) ?_
  refine lv_aload_n hx hb dL_law_712 rfl (lv_at hl 5 rfl) ?_
  refine lv_iload hx hb dL_law_713 (lv_at hl 0 rfl) ?_
  refine lv_iconst (v := nI 1) hx hb dL_law_715 (by decide) ?_
  refine r_iaddN hx hb (a := i) (b := 1) dL_law_716 ?_
  refine cx_sld C hW hX hbl (by rw [hAe]; exact Nat.not_le.mpr hbl) (k := i + 1) (by omega) (by omega) dL_law_717 ?_
  refine lv_aload_n hx hb dL_law_718 rfl (lv_at hl 2 rfl) ?_
  refine st_tone hfl C hml hl.1 hA hZ hW hO hN hBd (by omega) (by omega) dL_law_719 (fun r o2 W2 H locs hMd hW => ?_)
  refine lv_istore (lv' := [(6, .int r), (5, .int (nI i)), (4, .ref u1), (3, .ref u0), (2, .ref (ad 0)), (1, .ref x0), (0, .ref b)]) hx hb dL_law_722 hl (by decide) rfl (fun ls hl => ?_)
  refine lv_aload_n hx hb dL_law_724 rfl (lv_at hl 4 rfl) ?_
  refine lv_aload_n hx hb dL_law_725 rfl (lv_at hl 6 rfl) ?_
  refine lv_iload hx hb dL_law_726 (lv_at hl 1 rfl) ?_
  refine lv_iconst (v := nI 1) hx hb dL_law_728 (by decide) ?_
  refine r_iaddN hx hb (a := i) (b := 1) dL_law_729 ?_
  refine cx_sld C hW hX hbl (by rw [hAe]; exact Nat.not_le.mpr hbl) (k := i + 1) (by omega) (by omega) dL_law_730 ?_
  refine lw_mdi (As := [.int (xs (i + 1))]) (rest := []) C hml hl.1 hW hA hMd gR_tone hR_tone rfl ⟨Nat.le_of_ble_eq_true rfl, Nat.le_of_ble_eq_true rfl⟩ ⟨by show cells + 1 ≤ 603072; omega, by show slots + 6 ≤ 7198826; omega⟩ rfl (Nat.le_of_ble_eq_true rfl) dL_law_731 (fun rb S1 H locs hq hW => ?_)
  obtain ⟨Bd2, hb2, hO2, hN2⟩ := hq
  refine lv_istore (lv' := [(7, .int rb), (6, .int r), (5, .int (nI i)), (4, .ref u1), (3, .ref u0), (2, .ref (ad 0)), (1, .ref x0), (0, .ref b)]) hx hb dL_law_734 hl (by decide) rfl (fun ls hl => ?_)
  refine lv_goto (tgt := 1462) hx hb dL_law_736 (by decide) ?_
  refine W.widen (k := cells + 110) (n := slots + 13600) (by omega) (by omega) ?_
  exact kk S1 Bd2 o2 q W2 _ _ _ hb2 hO2 hN2 hW (lv_sub hl [2, 3, 4, 5, 6, 7] rfl)
set_option maxHeartbeats 4000000 in
set_option maxRecDepth 20000 in
theorem law_c16 {p : Program} {l : Launch} {e : Env} {s : State} {m : MethodId} {below : List Frame} {meth : Method} {c : Code} {H : Heap} {locs : List Loc} {cells slots : Nat} {Q : State → Prop} {ls : Array Slot} {D : va_G} {aT : Nat → ClassId} {A : Nat → Prop} {ad : Nat → Nat} {S : MSt} {x0 u0 u1 Bd b n i : Nat} {xs : Nat → Int32} {o : Nat → Int64} {q : Nat → UInt64} {Wx : va_W} (hfl : l.stackTraces = false) (hAe : A = fun q => s.heap.size ≤ q) (C : CxX p c code s #[Value.ref b] m D aT RL) (hml : c.maxLocals = 9) (hX : va_X b n xs s s.heap) (hbl : b < s.heap.size) (hn : n ≤ 2048) (hi : i + 4 ≤ n) (hZ : cZ D A s s.heap) (hW : CxB D (mdW aT ad S ++ (oD aT u1 q ++ (oL aT u0 o ++ Wx))) A s.heap H locs) (hO : ClO D aT x0 S Bd Wx) (hN : LnO S) (hBd : Bd + 20 < 1048000) (hc1 : cells + 110 ≤ 603072) (hc2 : slots + 13600 ≤ 7198826) (hl : lv_has ls 9 [(5, .int (nI i)), (4, .ref u1), (3, .ref u0), (2, .ref (ad 0)), (1, .ref x0), (0, .ref b)]) (kk : LK p l e s m b below meth c D aT A ad x0 u0 u1 i Bd cells slots Q) : W p l e room_1 s m #[Value.ref b] below meth c H locs cells slots Q (F0 m 739 ls []) := by
  have hx := C.1
  have hb := C.2.1
  have hA : ∀ q, s.heap.size ≤ q → A q := fun q h => by rw [hAe]; exact h
  refine lv_aload_n hx hb dL_law_739 rfl (lv_at hl 4 rfl) ?_
  refine lv_aload_n hx hb dL_law_740 rfl (lv_at hl 5 rfl) ?_
  refine lv_iload hx hb dL_law_741 (lv_at hl 0 rfl) ?_
  refine lv_iconst (v := nI 1) hx hb dL_law_743 (by decide) ?_
  refine r_iaddN hx hb (a := i) (b := 1) dL_law_744 ?_
  refine cx_sld C hW hX hbl (by rw [hAe]; exact Nat.not_le.mpr hbl) (k := i + 1) (by omega) (by omega) dL_law_745 ?_
  refine lv_aload_n hx hb dL_law_746 rfl (lv_at hl 2 rfl) ?_
  refine st_weight hfl C hml hl.1 hA hZ hW hO hN hBd (by omega) (by omega) dL_law_747 (fun r o2 W2 H locs hMd hW => ?_)
  refine lv_istore (lv' := [(6, .int r), (5, .int (nI i)), (4, .ref u1), (3, .ref u0), (2, .ref (ad 0)), (1, .ref x0), (0, .ref b)]) hx hb dL_law_750 hl (by decide) rfl (fun ls hl => ?_)
  refine lv_aload_n hx hb dL_law_752 rfl (lv_at hl 4 rfl) ?_
  refine lv_aload_n hx hb dL_law_753 rfl (lv_at hl 6 rfl) ?_
  refine lv_iload hx hb dL_law_754 (lv_at hl 1 rfl) ?_
  refine lv_iconst (v := nI 1) hx hb dL_law_756 (by decide) ?_
  refine r_iaddN hx hb (a := i) (b := 1) dL_law_757 ?_
  refine cx_sld C hW hX hbl (by rw [hAe]; exact Nat.not_le.mpr hbl) (k := i + 1) (by omega) (by omega) dL_law_758 ?_
  refine lw_mdi (As := [.int (xs (i + 1))]) (rest := []) C hml hl.1 hW hA hMd gR_weight hR_weight rfl ⟨Nat.le_of_ble_eq_true rfl, Nat.le_of_ble_eq_true rfl⟩ ⟨by show cells + 1 ≤ 603072; omega, by show slots + 6 ≤ 7198826; omega⟩ rfl (Nat.le_of_ble_eq_true rfl) dL_law_759 (fun rb S1 H locs hq hW => ?_)
  obtain ⟨Bd2, hb2, hO2, hN2⟩ := hq
  refine lv_istore (lv' := [(7, .int rb), (6, .int r), (5, .int (nI i)), (4, .ref u1), (3, .ref u0), (2, .ref (ad 0)), (1, .ref x0), (0, .ref b)]) hx hb dL_law_762 hl (by decide) rfl (fun ls hl => ?_)
  refine lv_goto (tgt := 1462) hx hb dL_law_764 (by decide) ?_
  refine W.widen (k := cells + 110) (n := slots + 13600) (by omega) (by omega) ?_
  exact kk S1 Bd2 o2 q W2 _ _ _ hb2 hO2 hN2 hW (lv_sub hl [2, 3, 4, 5, 6, 7] rfl)
set_option maxHeartbeats 4000000 in
set_option maxRecDepth 20000 in
theorem law_c17 {p : Program} {l : Launch} {e : Env} {s : State} {m : MethodId} {below : List Frame} {meth : Method} {c : Code} {H : Heap} {locs : List Loc} {cells slots : Nat} {Q : State → Prop} {ls : Array Slot} {D : va_G} {aT : Nat → ClassId} {A : Nat → Prop} {ad : Nat → Nat} {S : MSt} {x0 u0 u1 Bd b n i : Nat} {xs : Nat → Int32} {o : Nat → Int64} {q : Nat → UInt64} {Wx : va_W} (hfl : l.stackTraces = false) (hAe : A = fun q => s.heap.size ≤ q) (C : CxX p c code s #[Value.ref b] m D aT RL) (hml : c.maxLocals = 9) (hX : va_X b n xs s s.heap) (hbl : b < s.heap.size) (hn : n ≤ 2048) (hi : i + 4 ≤ n) (hZ : cZ D A s s.heap) (hW : CxB D (mdW aT ad S ++ (oD aT u1 q ++ (oL aT u0 o ++ Wx))) A s.heap H locs) (hO : ClO D aT x0 S Bd Wx) (hN : LnO S) (hBd : Bd + 20 < 1048000) (hc1 : cells + 110 ≤ 603072) (hc2 : slots + 13600 ≤ 7198826) (hl : lv_has ls 9 [(5, .int (nI i)), (4, .ref u1), (3, .ref u0), (2, .ref (ad 0)), (1, .ref x0), (0, .ref b)]) (kk : LK p l e s m b below meth c D aT A ad x0 u0 u1 i Bd cells slots Q) : W p l e room_1 s m #[Value.ref b] below meth c H locs cells slots Q (F0 m 767 ls []) := by
  have hx := C.1
  have hb := C.2.1
  have hA : ∀ q, s.heap.size ≤ q → A q := fun q h => by rw [hAe]; exact h
  refine lv_aload_n hx hb dL_law_767 rfl (lv_at hl 4 rfl) ?_
  refine lv_aload_n hx hb dL_law_768 rfl (lv_at hl 5 rfl) ?_
  refine lv_iload hx hb dL_law_769 (lv_at hl 0 rfl) ?_
  refine lv_iconst (v := nI 1) hx hb dL_law_771 (by decide) ?_
  refine r_iaddN hx hb (a := i) (b := 1) dL_law_772 ?_
  refine cx_sld C hW hX hbl (by rw [hAe]; exact Nat.not_le.mpr hbl) (k := i + 1) (by omega) (by omega) dL_law_773 ?_
  refine lv_aload_n hx hb dL_law_774 rfl (lv_at hl 2 rfl) ?_
  refine st_parent hfl C hml hl.1 hA hZ hW hO hN hBd (by omega) (by omega) dL_law_775 (fun r o2 W2 H locs hMd hW => ?_)
  refine lv_istore (lv' := [(6, .int r), (5, .int (nI i)), (4, .ref u1), (3, .ref u0), (2, .ref (ad 0)), (1, .ref x0), (0, .ref b)]) hx hb dL_law_778 hl (by decide) rfl (fun ls hl => ?_)
  refine lv_aload_n hx hb dL_law_780 rfl (lv_at hl 4 rfl) ?_
  refine lv_aload_n hx hb dL_law_781 rfl (lv_at hl 6 rfl) ?_
  refine lv_iload hx hb dL_law_782 (lv_at hl 1 rfl) ?_
  refine lv_iconst (v := nI 1) hx hb dL_law_784 (by decide) ?_
  refine r_iaddN hx hb (a := i) (b := 1) dL_law_785 ?_
  refine cx_sld C hW hX hbl (by rw [hAe]; exact Nat.not_le.mpr hbl) (k := i + 1) (by omega) (by omega) dL_law_786 ?_
  refine lw_mdi (As := [.int (xs (i + 1))]) (rest := []) C hml hl.1 hW hA hMd gR_parent hR_parent rfl ⟨Nat.le_of_ble_eq_true rfl, Nat.le_of_ble_eq_true rfl⟩ ⟨by show cells + 2 ≤ 603072; omega, by show slots + 12 ≤ 7198826; omega⟩ rfl (Nat.le_of_ble_eq_true rfl) dL_law_787 (fun rb S1 H locs hq hW => ?_)
  obtain ⟨Bd2, hb2, hO2, hN2⟩ := hq
  refine lv_istore (lv' := [(7, .int rb), (6, .int r), (5, .int (nI i)), (4, .ref u1), (3, .ref u0), (2, .ref (ad 0)), (1, .ref x0), (0, .ref b)]) hx hb dL_law_790 hl (by decide) rfl (fun ls hl => ?_)
  refine lv_goto (tgt := 1462) hx hb dL_law_792 (by decide) ?_
  refine W.widen (k := cells + 110) (n := slots + 13600) (by omega) (by omega) ?_
  exact kk S1 Bd2 o2 q W2 _ _ _ hb2 hO2 hN2 hW (lv_sub hl [2, 3, 4, 5, 6, 7] rfl)
set_option maxHeartbeats 4000000 in
set_option maxRecDepth 20000 in
theorem law_c18 {p : Program} {l : Launch} {e : Env} {s : State} {m : MethodId} {below : List Frame} {meth : Method} {c : Code} {H : Heap} {locs : List Loc} {cells slots : Nat} {Q : State → Prop} {ls : Array Slot} {D : va_G} {aT : Nat → ClassId} {A : Nat → Prop} {ad : Nat → Nat} {S : MSt} {x0 u0 u1 Bd b n i : Nat} {xs : Nat → Int32} {o : Nat → Int64} {q : Nat → UInt64} {Wx : va_W} (hfl : l.stackTraces = false) (hAe : A = fun q => s.heap.size ≤ q) (C : CxX p c code s #[Value.ref b] m D aT RL) (hml : c.maxLocals = 9) (hX : va_X b n xs s s.heap) (hbl : b < s.heap.size) (hn : n ≤ 2048) (hi : i + 4 ≤ n) (hZ : cZ D A s s.heap) (hW : CxB D (mdW aT ad S ++ (oD aT u1 q ++ (oL aT u0 o ++ Wx))) A s.heap H locs) (hO : ClO D aT x0 S Bd Wx) (hN : LnO S) (hBd : Bd + 20 < 1048000) (hc1 : cells + 110 ≤ 603072) (hc2 : slots + 13600 ≤ 7198826) (hl : lv_has ls 9 [(5, .int (nI i)), (4, .ref u1), (3, .ref u0), (2, .ref (ad 0)), (1, .ref x0), (0, .ref b)]) (kk : LK p l e s m b below meth c D aT A ad x0 u0 u1 i Bd cells slots Q) : W p l e room_1 s m #[Value.ref b] below meth c H locs cells slots Q (F0 m 795 ls []) := by
  have hx := C.1
  have hb := C.2.1
  have hA : ∀ q, s.heap.size ≤ q → A q := fun q h => by rw [hAe]; exact h
  refine lv_aload_n hx hb dL_law_795 rfl (lv_at hl 4 rfl) ?_
  refine lv_aload_n hx hb dL_law_796 rfl (lv_at hl 5 rfl) ?_
  refine lv_iload hx hb dL_law_797 (lv_at hl 0 rfl) ?_
  refine lv_iconst (v := nI 1) hx hb dL_law_799 (by decide) ?_
  refine r_iaddN hx hb (a := i) (b := 1) dL_law_800 ?_
  refine cx_sld C hW hX hbl (by rw [hAe]; exact Nat.not_le.mpr hbl) (k := i + 1) (by omega) (by omega) dL_law_801 ?_
  refine lv_aload_n hx hb dL_law_802 rfl (lv_at hl 2 rfl) ?_
  refine st_depth hfl C hml hl.1 hA hZ hW hO hN hBd (by omega) (by omega) dL_law_803 (fun r o2 W2 H locs hMd hW => ?_)
  refine lv_istore (lv' := [(6, .int r), (5, .int (nI i)), (4, .ref u1), (3, .ref u0), (2, .ref (ad 0)), (1, .ref x0), (0, .ref b)]) hx hb dL_law_806 hl (by decide) rfl (fun ls hl => ?_)
  refine lv_aload_n hx hb dL_law_808 rfl (lv_at hl 4 rfl) ?_
  refine lv_aload_n hx hb dL_law_809 rfl (lv_at hl 6 rfl) ?_
  refine lv_iload hx hb dL_law_810 (lv_at hl 1 rfl) ?_
  refine lv_iconst (v := nI 1) hx hb dL_law_812 (by decide) ?_
  refine r_iaddN hx hb (a := i) (b := 1) dL_law_813 ?_
  refine cx_sld C hW hX hbl (by rw [hAe]; exact Nat.not_le.mpr hbl) (k := i + 1) (by omega) (by omega) dL_law_814 ?_
  refine lw_mdi (As := [.int (xs (i + 1))]) (rest := []) C hml hl.1 hW hA hMd gR_depth hR_depth rfl ⟨Nat.le_of_ble_eq_true rfl, Nat.le_of_ble_eq_true rfl⟩ ⟨by show cells + 1 ≤ 603072; omega, by show slots + 6 ≤ 7198826; omega⟩ rfl (Nat.le_of_ble_eq_true rfl) dL_law_815 (fun rb S1 H locs hq hW => ?_)
  obtain ⟨Bd2, hb2, hO2, hN2⟩ := hq
  refine lv_istore (lv' := [(7, .int rb), (6, .int r), (5, .int (nI i)), (4, .ref u1), (3, .ref u0), (2, .ref (ad 0)), (1, .ref x0), (0, .ref b)]) hx hb dL_law_818 hl (by decide) rfl (fun ls hl => ?_)
  refine lv_goto (tgt := 1462) hx hb dL_law_820 (by decide) ?_
  refine W.widen (k := cells + 110) (n := slots + 13600) (by omega) (by omega) ?_
  exact kk S1 Bd2 o2 q W2 _ _ _ hb2 hO2 hN2 hW (lv_sub hl [2, 3, 4, 5, 6, 7] rfl)
set_option maxHeartbeats 4000000 in
set_option maxRecDepth 20000 in
theorem law_c19 {p : Program} {l : Launch} {e : Env} {s : State} {m : MethodId} {below : List Frame} {meth : Method} {c : Code} {H : Heap} {locs : List Loc} {cells slots : Nat} {Q : State → Prop} {ls : Array Slot} {D : va_G} {aT : Nat → ClassId} {A : Nat → Prop} {ad : Nat → Nat} {S : MSt} {x0 u0 u1 Bd b n i : Nat} {xs : Nat → Int32} {o : Nat → Int64} {q : Nat → UInt64} {Wx : va_W} (hfl : l.stackTraces = false) (hAe : A = fun q => s.heap.size ≤ q) (C : CxX p c code s #[Value.ref b] m D aT RL) (hml : c.maxLocals = 9) (hX : va_X b n xs s s.heap) (hbl : b < s.heap.size) (hn : n ≤ 2048) (hi : i + 4 ≤ n) (hZ : cZ D A s s.heap) (hW : CxB D (mdW aT ad S ++ (oD aT u1 q ++ (oL aT u0 o ++ Wx))) A s.heap H locs) (hO : ClO D aT x0 S Bd Wx) (hN : LnO S) (hBd : Bd + 20 < 1048000) (hc1 : cells + 110 ≤ 603072) (hc2 : slots + 13600 ≤ 7198826) (hl : lv_has ls 9 [(5, .int (nI i)), (4, .ref u1), (3, .ref u0), (2, .ref (ad 0)), (1, .ref x0), (0, .ref b)]) (kk : LK p l e s m b below meth c D aT A ad x0 u0 u1 i Bd cells slots Q) : W p l e room_1 s m #[Value.ref b] below meth c H locs cells slots Q (F0 m 823 ls []) := by
  have hx := C.1
  have hb := C.2.1
  have hA : ∀ q, s.heap.size ≤ q → A q := fun q h => by rw [hAe]; exact h
  refine lv_aload_n hx hb dL_law_823 rfl (lv_at hl 4 rfl) ?_
  refine lv_aload_n hx hb dL_law_824 rfl (lv_at hl 5 rfl) ?_
  refine lv_iload hx hb dL_law_825 (lv_at hl 0 rfl) ?_
  refine lv_iconst (v := nI 1) hx hb dL_law_827 (by decide) ?_
  refine r_iaddN hx hb (a := i) (b := 1) dL_law_828 ?_
  refine cx_sld C hW hX hbl (by rw [hAe]; exact Nat.not_le.mpr hbl) (k := i + 1) (by omega) (by omega) dL_law_829 ?_
  refine lv_aload_n hx hb dL_law_830 rfl (lv_at hl 2 rfl) ?_
  refine st_isTip hfl C hml hl.1 hA hZ hW hO hN hBd (by omega) (by omega) dL_law_831 (fun r o2 W2 H locs hMd hW => ?_)
  refine lv_istore (lv' := [(6, .int r), (5, .int (nI i)), (4, .ref u1), (3, .ref u0), (2, .ref (ad 0)), (1, .ref x0), (0, .ref b)]) hx hb dL_law_834 hl (by decide) rfl (fun ls hl => ?_)
  refine lv_aload_n hx hb dL_law_836 rfl (lv_at hl 4 rfl) ?_
  refine lv_aload_n hx hb dL_law_837 rfl (lv_at hl 6 rfl) ?_
  refine lv_iload hx hb dL_law_838 (lv_at hl 1 rfl) ?_
  refine lv_iconst (v := nI 1) hx hb dL_law_840 (by decide) ?_
  refine r_iaddN hx hb (a := i) (b := 1) dL_law_841 ?_
  refine cx_sld C hW hX hbl (by rw [hAe]; exact Nat.not_le.mpr hbl) (k := i + 1) (by omega) (by omega) dL_law_842 ?_
  refine lw_mdi (As := [.int (xs (i + 1))]) (rest := []) C hml hl.1 hW hA hMd gR_isTip hR_isTip rfl ⟨Nat.le_of_ble_eq_true rfl, Nat.le_of_ble_eq_true rfl⟩ ⟨by show cells + 1 ≤ 603072; omega, by show slots + 6 ≤ 7198826; omega⟩ rfl (Nat.le_of_ble_eq_true rfl) dL_law_843 (fun rb S1 H locs hq hW => ?_)
  obtain ⟨Bd2, hb2, hO2, hN2⟩ := hq
  refine lv_istore (lv' := [(7, .int rb), (6, .int r), (5, .int (nI i)), (4, .ref u1), (3, .ref u0), (2, .ref (ad 0)), (1, .ref x0), (0, .ref b)]) hx hb dL_law_846 hl (by decide) rfl (fun ls hl => ?_)
  refine lv_goto (tgt := 1462) hx hb dL_law_848 (by decide) ?_
  refine W.widen (k := cells + 110) (n := slots + 13600) (by omega) (by omega) ?_
  exact kk S1 Bd2 o2 q W2 _ _ _ hb2 hO2 hN2 hW (lv_sub hl [2, 3, 4, 5, 6, 7] rfl)
set_option maxHeartbeats 4000000 in
set_option maxRecDepth 20000 in
theorem law_c20 {p : Program} {l : Launch} {e : Env} {s : State} {m : MethodId} {below : List Frame} {meth : Method} {c : Code} {H : Heap} {locs : List Loc} {cells slots : Nat} {Q : State → Prop} {ls : Array Slot} {D : va_G} {aT : Nat → ClassId} {A : Nat → Prop} {ad : Nat → Nat} {S : MSt} {x0 u0 u1 Bd b n i : Nat} {xs : Nat → Int32} {o : Nat → Int64} {q : Nat → UInt64} {Wx : va_W} (hfl : l.stackTraces = false) (hAe : A = fun q => s.heap.size ≤ q) (C : CxX p c code s #[Value.ref b] m D aT RL) (hml : c.maxLocals = 9) (hX : va_X b n xs s s.heap) (hbl : b < s.heap.size) (hn : n ≤ 2048) (hi : i + 4 ≤ n) (hZ : cZ D A s s.heap) (hW : CxB D (mdW aT ad S ++ (oD aT u1 q ++ (oL aT u0 o ++ Wx))) A s.heap H locs) (hO : ClO D aT x0 S Bd Wx) (hN : LnO S) (hBd : Bd + 20 < 1048000) (hc1 : cells + 110 ≤ 603072) (hc2 : slots + 13600 ≤ 7198826) (hl : lv_has ls 9 [(5, .int (nI i)), (4, .ref u1), (3, .ref u0), (2, .ref (ad 0)), (1, .ref x0), (0, .ref b)]) (kk : LK p l e s m b below meth c D aT A ad x0 u0 u1 i Bd cells slots Q) : W p l e room_1 s m #[Value.ref b] below meth c H locs cells slots Q (F0 m 851 ls []) := by
  have hx := C.1
  have hb := C.2.1
  have hA : ∀ q, s.heap.size ≤ q → A q := fun q h => by rw [hAe]; exact h
  refine lv_aload_n hx hb dL_law_851 rfl (lv_at hl 4 rfl) ?_
  refine lv_aload_n hx hb dL_law_852 rfl (lv_at hl 5 rfl) ?_
  refine lv_iload hx hb dL_law_853 (lv_at hl 0 rfl) ?_
  refine lv_iconst (v := nI 1) hx hb dL_law_855 (by decide) ?_
  refine r_iaddN hx hb (a := i) (b := 1) dL_law_856 ?_
  refine cx_sld C hW hX hbl (by rw [hAe]; exact Nat.not_le.mpr hbl) (k := i + 1) (by omega) (by omega) dL_law_857 ?_
  refine lv_aload_n hx hb dL_law_858 rfl (lv_at hl 2 rfl) ?_
  refine st_branchSize hfl C hml hl.1 hA hZ hW hO hN hBd (by omega) (by omega) dL_law_859 (fun r o2 W2 H locs hMd hW => ?_)
  refine lv_istore (lv' := [(6, .int r), (5, .int (nI i)), (4, .ref u1), (3, .ref u0), (2, .ref (ad 0)), (1, .ref x0), (0, .ref b)]) hx hb dL_law_862 hl (by decide) rfl (fun ls hl => ?_)
  refine lv_aload_n hx hb dL_law_864 rfl (lv_at hl 4 rfl) ?_
  refine lv_aload_n hx hb dL_law_865 rfl (lv_at hl 6 rfl) ?_
  refine lv_iload hx hb dL_law_866 (lv_at hl 1 rfl) ?_
  refine lv_iconst (v := nI 1) hx hb dL_law_868 (by decide) ?_
  refine r_iaddN hx hb (a := i) (b := 1) dL_law_869 ?_
  refine cx_sld C hW hX hbl (by rw [hAe]; exact Nat.not_le.mpr hbl) (k := i + 1) (by omega) (by omega) dL_law_870 ?_
  refine lw_mdi (As := [.int (xs (i + 1))]) (rest := []) C hml hl.1 hW hA hMd gR_branchSize hR_branchSize rfl ⟨Nat.le_of_ble_eq_true rfl, Nat.le_of_ble_eq_true rfl⟩ ⟨by show cells + 1 ≤ 603072; omega, by show slots + 6 ≤ 7198826; omega⟩ rfl (Nat.le_of_ble_eq_true rfl) dL_law_871 (fun rb S1 H locs hq hW => ?_)
  obtain ⟨Bd2, hb2, hO2, hN2⟩ := hq
  refine lv_istore (lv' := [(7, .int rb), (6, .int r), (5, .int (nI i)), (4, .ref u1), (3, .ref u0), (2, .ref (ad 0)), (1, .ref x0), (0, .ref b)]) hx hb dL_law_874 hl (by decide) rfl (fun ls hl => ?_)
  refine lv_goto (tgt := 1462) hx hb dL_law_876 (by decide) ?_
  refine W.widen (k := cells + 110) (n := slots + 13600) (by omega) (by omega) ?_
  exact kk S1 Bd2 o2 q W2 _ _ _ hb2 hO2 hN2 hW (lv_sub hl [2, 3, 4, 5, 6, 7] rfl)
set_option maxHeartbeats 4000000 in
set_option maxRecDepth 20000 in
theorem law_c21 {p : Program} {l : Launch} {e : Env} {s : State} {m : MethodId} {below : List Frame} {meth : Method} {c : Code} {H : Heap} {locs : List Loc} {cells slots : Nat} {Q : State → Prop} {ls : Array Slot} {D : va_G} {aT : Nat → ClassId} {A : Nat → Prop} {ad : Nat → Nat} {S : MSt} {x0 u0 u1 Bd b n i : Nat} {xs : Nat → Int32} {o : Nat → Int64} {q : Nat → UInt64} {Wx : va_W} (hfl : l.stackTraces = false) (hAe : A = fun q => s.heap.size ≤ q) (C : CxX p c code s #[Value.ref b] m D aT RL) (hml : c.maxLocals = 9) (hX : va_X b n xs s s.heap) (hbl : b < s.heap.size) (hn : n ≤ 2048) (hi : i + 4 ≤ n) (hZ : cZ D A s s.heap) (hW : CxB D (mdW aT ad S ++ (oD aT u1 q ++ (oL aT u0 o ++ Wx))) A s.heap H locs) (hO : ClO D aT x0 S Bd Wx) (hN : LnO S) (hBd : Bd + 20 < 1048000) (hc1 : cells + 110 ≤ 603072) (hc2 : slots + 13600 ≤ 7198826) (hl : lv_has ls 9 [(5, .int (nI i)), (4, .ref u1), (3, .ref u0), (2, .ref (ad 0)), (1, .ref x0), (0, .ref b)]) (kk : LK p l e s m b below meth c D aT A ad x0 u0 u1 i Bd cells slots Q) : W p l e room_1 s m #[Value.ref b] below meth c H locs cells slots Q (F0 m 879 ls []) := by
  have hx := C.1
  have hb := C.2.1
  have hA : ∀ q, s.heap.size ≤ q → A q := fun q h => by rw [hAe]; exact h
  refine lv_aload_n hx hb dL_law_879 rfl (lv_at hl 4 rfl) ?_
  refine lv_aload_n hx hb dL_law_880 rfl (lv_at hl 5 rfl) ?_
  refine lv_iload hx hb dL_law_881 (lv_at hl 0 rfl) ?_
  refine lv_iconst (v := nI 1) hx hb dL_law_883 (by decide) ?_
  refine r_iaddN hx hb (a := i) (b := 1) dL_law_884 ?_
  refine cx_sld C hW hX hbl (by rw [hAe]; exact Nat.not_le.mpr hbl) (k := i + 1) (by omega) (by omega) dL_law_885 ?_
  refine lv_aload_n hx hb dL_law_886 rfl (lv_at hl 2 rfl) ?_
  refine st_lastTip hfl C hml hl.1 hA hZ hW hO hN hBd (by omega) (by omega) dL_law_887 (fun r o2 W2 H locs hMd hW => ?_)
  refine lv_istore (lv' := [(6, .int r), (5, .int (nI i)), (4, .ref u1), (3, .ref u0), (2, .ref (ad 0)), (1, .ref x0), (0, .ref b)]) hx hb dL_law_890 hl (by decide) rfl (fun ls hl => ?_)
  refine lv_aload_n hx hb dL_law_892 rfl (lv_at hl 4 rfl) ?_
  refine lv_aload_n hx hb dL_law_893 rfl (lv_at hl 6 rfl) ?_
  refine lv_iload hx hb dL_law_894 (lv_at hl 1 rfl) ?_
  refine lv_iconst (v := nI 1) hx hb dL_law_896 (by decide) ?_
  refine r_iaddN hx hb (a := i) (b := 1) dL_law_897 ?_
  refine cx_sld C hW hX hbl (by rw [hAe]; exact Nat.not_le.mpr hbl) (k := i + 1) (by omega) (by omega) dL_law_898 ?_
  refine lw_mdi (As := [.int (xs (i + 1))]) (rest := []) C hml hl.1 hW hA hMd gR_lastTip hR_lastTip rfl ⟨Nat.le_of_ble_eq_true rfl, Nat.le_of_ble_eq_true rfl⟩ ⟨by show cells + 1 ≤ 603072; omega, by show slots + 6 ≤ 7198826; omega⟩ rfl (Nat.le_of_ble_eq_true rfl) dL_law_899 (fun rb S1 H locs hq hW => ?_)
  obtain ⟨Bd2, hb2, hO2, hN2⟩ := hq
  refine lv_istore (lv' := [(7, .int rb), (6, .int r), (5, .int (nI i)), (4, .ref u1), (3, .ref u0), (2, .ref (ad 0)), (1, .ref x0), (0, .ref b)]) hx hb dL_law_902 hl (by decide) rfl (fun ls hl => ?_)
  refine lv_goto (tgt := 1462) hx hb dL_law_904 (by decide) ?_
  refine W.widen (k := cells + 110) (n := slots + 13600) (by omega) (by omega) ?_
  exact kk S1 Bd2 o2 q W2 _ _ _ hb2 hO2 hN2 hW (lv_sub hl [2, 3, 4, 5, 6, 7] rfl)
set_option maxHeartbeats 4000000 in
set_option maxRecDepth 20000 in
theorem law_c22 {p : Program} {l : Launch} {e : Env} {s : State} {m : MethodId} {below : List Frame} {meth : Method} {c : Code} {H : Heap} {locs : List Loc} {cells slots : Nat} {Q : State → Prop} {ls : Array Slot} {D : va_G} {aT : Nat → ClassId} {A : Nat → Prop} {ad : Nat → Nat} {S : MSt} {x0 u0 u1 Bd b n i : Nat} {xs : Nat → Int32} {o : Nat → Int64} {q : Nat → UInt64} {Wx : va_W} (hfl : l.stackTraces = false) (hAe : A = fun q => s.heap.size ≤ q) (C : CxX p c code s #[Value.ref b] m D aT RL) (hml : c.maxLocals = 9) (hX : va_X b n xs s s.heap) (hbl : b < s.heap.size) (hn : n ≤ 2048) (hi : i + 4 ≤ n) (hZ : cZ D A s s.heap) (hW : CxB D (mdW aT ad S ++ (oD aT u1 q ++ (oL aT u0 o ++ Wx))) A s.heap H locs) (hO : ClO D aT x0 S Bd Wx) (hN : LnO S) (hBd : Bd + 20 < 1048000) (hc1 : cells + 110 ≤ 603072) (hc2 : slots + 13600 ≤ 7198826) (hl : lv_has ls 9 [(5, .int (nI i)), (4, .ref u1), (3, .ref u0), (2, .ref (ad 0)), (1, .ref x0), (0, .ref b)]) (kk : LK p l e s m b below meth c D aT A ad x0 u0 u1 i Bd cells slots Q) : W p l e room_1 s m #[Value.ref b] below meth c H locs cells slots Q (F0 m 907 ls []) := by
  have hx := C.1
  have hb := C.2.1
  have hA : ∀ q, s.heap.size ≤ q → A q := fun q h => by rw [hAe]; exact h
  refine lv_aload_n hx hb dL_law_907 rfl (lv_at hl 4 rfl) ?_
  refine lv_aload_n hx hb dL_law_908 rfl (lv_at hl 5 rfl) ?_
  refine lv_iload hx hb dL_law_909 (lv_at hl 0 rfl) ?_
  refine lv_iconst (v := nI 1) hx hb dL_law_911 (by decide) ?_
  refine r_iaddN hx hb (a := i) (b := 1) dL_law_912 ?_
  refine cx_sld C hW hX hbl (by rw [hAe]; exact Nat.not_le.mpr hbl) (k := i + 1) (by omega) (by omega) dL_law_913 ?_
  refine lv_aload_n hx hb dL_law_914 rfl (lv_at hl 2 rfl) ?_
  refine st_motionAtRank hfl C hml hl.1 hA hZ hW hO hN hBd (by omega) (by omega) dL_law_915 (fun r o2 W2 H locs hMd hW => ?_)
  refine lv_istore (lv' := [(6, .int r), (5, .int (nI i)), (4, .ref u1), (3, .ref u0), (2, .ref (ad 0)), (1, .ref x0), (0, .ref b)]) hx hb dL_law_918 hl (by decide) rfl (fun ls hl => ?_)
  refine lv_aload_n hx hb dL_law_920 rfl (lv_at hl 4 rfl) ?_
  refine lv_aload_n hx hb dL_law_921 rfl (lv_at hl 6 rfl) ?_
  refine lv_iload hx hb dL_law_922 (lv_at hl 1 rfl) ?_
  refine lv_iconst (v := nI 1) hx hb dL_law_924 (by decide) ?_
  refine r_iaddN hx hb (a := i) (b := 1) dL_law_925 ?_
  refine cx_sld C hW hX hbl (by rw [hAe]; exact Nat.not_le.mpr hbl) (k := i + 1) (by omega) (by omega) dL_law_926 ?_
  refine lw_mdi (As := [.int (xs (i + 1))]) (rest := []) C hml hl.1 hW hA hMd gR_motionAtRank hR_motionAtRank rfl ⟨Nat.le_of_ble_eq_true rfl, Nat.le_of_ble_eq_true rfl⟩ ⟨by show cells + 1 ≤ 603072; omega, by show slots + 6 ≤ 7198826; omega⟩ rfl (Nat.le_of_ble_eq_true rfl) dL_law_927 (fun rb S1 H locs hq hW => ?_)
  obtain ⟨Bd2, hb2, hO2, hN2⟩ := hq
  refine lv_istore (lv' := [(7, .int rb), (6, .int r), (5, .int (nI i)), (4, .ref u1), (3, .ref u0), (2, .ref (ad 0)), (1, .ref x0), (0, .ref b)]) hx hb dL_law_930 hl (by decide) rfl (fun ls hl => ?_)
  refine lv_goto (tgt := 1462) hx hb dL_law_932 (by decide) ?_
  refine W.widen (k := cells + 110) (n := slots + 13600) (by omega) (by omega) ?_
  exact kk S1 Bd2 o2 q W2 _ _ _ hb2 hO2 hN2 hW (lv_sub hl [2, 3, 4, 5, 6, 7] rfl)
set_option maxHeartbeats 4000000 in
set_option maxRecDepth 20000 in
theorem law_c23 {p : Program} {l : Launch} {e : Env} {s : State} {m : MethodId} {below : List Frame} {meth : Method} {c : Code} {H : Heap} {locs : List Loc} {cells slots : Nat} {Q : State → Prop} {ls : Array Slot} {D : va_G} {aT : Nat → ClassId} {A : Nat → Prop} {ad : Nat → Nat} {S : MSt} {x0 u0 u1 Bd b n i : Nat} {xs : Nat → Int32} {o : Nat → Int64} {q : Nat → UInt64} {Wx : va_W} (hfl : l.stackTraces = false) (hAe : A = fun q => s.heap.size ≤ q) (C : CxX p c code s #[Value.ref b] m D aT RL) (hml : c.maxLocals = 9) (hX : va_X b n xs s s.heap) (hbl : b < s.heap.size) (hn : n ≤ 2048) (hi : i + 4 ≤ n) (hZ : cZ D A s s.heap) (hW : CxB D (mdW aT ad S ++ (oD aT u1 q ++ (oL aT u0 o ++ Wx))) A s.heap H locs) (hO : ClO D aT x0 S Bd Wx) (hN : LnO S) (hBd : Bd + 20 < 1048000) (hc1 : cells + 110 ≤ 603072) (hc2 : slots + 13600 ≤ 7198826) (hl : lv_has ls 9 [(5, .int (nI i)), (4, .ref u1), (3, .ref u0), (2, .ref (ad 0)), (1, .ref x0), (0, .ref b)]) (kk : LK p l e s m b below meth c D aT A ad x0 u0 u1 i Bd cells slots Q) : W p l e room_1 s m #[Value.ref b] below meth c H locs cells slots Q (F0 m 935 ls []) := by
  have hx := C.1
  have hb := C.2.1
  have hA : ∀ q, s.heap.size ≤ q → A q := fun q h => by rw [hAe]; exact h
  refine lv_aload_n hx hb dL_law_935 rfl (lv_at hl 4 rfl) ?_
  refine lv_aload_n hx hb dL_law_936 rfl (lv_at hl 5 rfl) ?_
  refine lv_iload hx hb dL_law_937 (lv_at hl 0 rfl) ?_
  refine lv_iconst (v := nI 1) hx hb dL_law_939 (by decide) ?_
  refine r_iaddN hx hb (a := i) (b := 1) dL_law_940 ?_
  refine cx_sld C hW hX hbl (by rw [hAe]; exact Nat.not_le.mpr hbl) (k := i + 1) (by omega) (by omega) dL_law_941 ?_
  refine lv_aload_n hx hb dL_law_942 rfl (lv_at hl 5 rfl) ?_
  refine lv_iload hx hb dL_law_943 (lv_at hl 0 rfl) ?_
  refine lv_iconst (v := nI 2) hx hb dL_law_945 (by decide) ?_
  refine r_iaddN hx hb (a := i) (b := 2) dL_law_946 ?_
  refine cx_sld C hW hX hbl (by rw [hAe]; exact Nat.not_le.mpr hbl) (k := i + 2) (by omega) (by omega) dL_law_947 ?_
  refine lv_aload_n hx hb dL_law_948 rfl (lv_at hl 2 rfl) ?_
  refine st_commonMotion hfl C hml hl.1 hA hZ hW hO hN hBd (by omega) (by omega) dL_law_949 (fun r o2 W2 H locs hMd hW => ?_)
  refine lv_istore (lv' := [(6, .int r), (5, .int (nI i)), (4, .ref u1), (3, .ref u0), (2, .ref (ad 0)), (1, .ref x0), (0, .ref b)]) hx hb dL_law_952 hl (by decide) rfl (fun ls hl => ?_)
  refine lv_aload_n hx hb dL_law_954 rfl (lv_at hl 4 rfl) ?_
  refine lv_aload_n hx hb dL_law_955 rfl (lv_at hl 6 rfl) ?_
  refine lv_iload hx hb dL_law_956 (lv_at hl 1 rfl) ?_
  refine lv_iconst (v := nI 1) hx hb dL_law_958 (by decide) ?_
  refine r_iaddN hx hb (a := i) (b := 1) dL_law_959 ?_
  refine cx_sld C hW hX hbl (by rw [hAe]; exact Nat.not_le.mpr hbl) (k := i + 1) (by omega) (by omega) dL_law_960 ?_
  refine lv_aload_n hx hb dL_law_961 rfl (lv_at hl 6 rfl) ?_
  refine lv_iload hx hb dL_law_962 (lv_at hl 1 rfl) ?_
  refine lv_iconst (v := nI 2) hx hb dL_law_964 (by decide) ?_
  refine r_iaddN hx hb (a := i) (b := 2) dL_law_965 ?_
  refine cx_sld C hW hX hbl (by rw [hAe]; exact Nat.not_le.mpr hbl) (k := i + 2) (by omega) (by omega) dL_law_966 ?_
  refine lw_mdi (As := [.int (xs (i + 1)), .int (xs (i + 2))]) (rest := []) C hml hl.1 hW hA hMd gR_commonMotion hR_commonMotion rfl ⟨Nat.le_of_ble_eq_true rfl, Nat.le_of_ble_eq_true rfl⟩ ⟨by show cells + 3 ≤ 603072; omega, by show slots + 18 ≤ 7198826; omega⟩ rfl (Nat.le_of_ble_eq_true rfl) dL_law_967 (fun rb S1 H locs hq hW => ?_)
  obtain ⟨Bd2, hb2, hO2, hN2⟩ := hq
  refine lv_istore (lv' := [(7, .int rb), (6, .int r), (5, .int (nI i)), (4, .ref u1), (3, .ref u0), (2, .ref (ad 0)), (1, .ref x0), (0, .ref b)]) hx hb dL_law_970 hl (by decide) rfl (fun ls hl => ?_)
  refine lv_goto (tgt := 1462) hx hb dL_law_972 (by decide) ?_
  refine W.widen (k := cells + 110) (n := slots + 13600) (by omega) (by omega) ?_
  exact kk S1 Bd2 o2 q W2 _ _ _ hb2 hO2 hN2 hW (lv_sub hl [2, 3, 4, 5, 6, 7] rfl)
set_option maxHeartbeats 4000000 in
set_option maxRecDepth 20000 in
theorem law_c24 {p : Program} {l : Launch} {e : Env} {s : State} {m : MethodId} {below : List Frame} {meth : Method} {c : Code} {H : Heap} {locs : List Loc} {cells slots : Nat} {Q : State → Prop} {ls : Array Slot} {D : va_G} {aT : Nat → ClassId} {A : Nat → Prop} {ad : Nat → Nat} {S : MSt} {x0 u0 u1 Bd b n i : Nat} {xs : Nat → Int32} {o : Nat → Int64} {q : Nat → UInt64} {Wx : va_W} (hfl : l.stackTraces = false) (hAe : A = fun q => s.heap.size ≤ q) (C : CxX p c code s #[Value.ref b] m D aT RL) (hml : c.maxLocals = 9) (hX : va_X b n xs s s.heap) (hbl : b < s.heap.size) (hn : n ≤ 2048) (hi : i + 4 ≤ n) (hZ : cZ D A s s.heap) (hW : CxB D (mdW aT ad S ++ (oD aT u1 q ++ (oL aT u0 o ++ Wx))) A s.heap H locs) (hO : ClO D aT x0 S Bd Wx) (hN : LnO S) (hBd : Bd + 20 < 1048000) (hc1 : cells + 110 ≤ 603072) (hc2 : slots + 13600 ≤ 7198826) (hl : lv_has ls 9 [(5, .int (nI i)), (4, .ref u1), (3, .ref u0), (2, .ref (ad 0)), (1, .ref x0), (0, .ref b)]) (kk : LK p l e s m b below meth c D aT A ad x0 u0 u1 i Bd cells slots Q) : W p l e room_1 s m #[Value.ref b] below meth c H locs cells slots Q (F0 m 975 ls []) := by
  have hx := C.1
  have hb := C.2.1
  have hA : ∀ q, s.heap.size ≤ q → A q := fun q h => by rw [hAe]; exact h
  refine lv_aload_n hx hb dL_law_975 rfl (lv_at hl 4 rfl) ?_
  refine lv_aload_n hx hb dL_law_976 rfl (lv_at hl 5 rfl) ?_
  refine lv_iload hx hb dL_law_977 (lv_at hl 0 rfl) ?_
  refine lv_iconst (v := nI 1) hx hb dL_law_979 (by decide) ?_
  refine r_iaddN hx hb (a := i) (b := 1) dL_law_980 ?_
  refine cx_sld C hW hX hbl (by rw [hAe]; exact Nat.not_le.mpr hbl) (k := i + 1) (by omega) (by omega) dL_law_981 ?_
  refine lv_aload_n hx hb dL_law_982 rfl (lv_at hl 5 rfl) ?_
  refine lv_iload hx hb dL_law_983 (lv_at hl 0 rfl) ?_
  refine lv_iconst (v := nI 2) hx hb dL_law_985 (by decide) ?_
  refine r_iaddN hx hb (a := i) (b := 2) dL_law_986 ?_
  refine cx_sld C hW hX hbl (by rw [hAe]; exact Nat.not_le.mpr hbl) (k := i + 2) (by omega) (by omega) dL_law_987 ?_
  refine lv_aload_n hx hb dL_law_988 rfl (lv_at hl 2 rfl) ?_
  refine st_commonMotionByRows hfl C hml hl.1 hA hZ hW hO hN hBd (by omega) (by omega) dL_law_989 (fun r o2 W2 H locs hMd hW => ?_)
  refine lv_istore (lv' := [(6, .int r), (5, .int (nI i)), (4, .ref u1), (3, .ref u0), (2, .ref (ad 0)), (1, .ref x0), (0, .ref b)]) hx hb dL_law_992 hl (by decide) rfl (fun ls hl => ?_)
  refine lv_aload_n hx hb dL_law_994 rfl (lv_at hl 4 rfl) ?_
  refine lv_aload_n hx hb dL_law_995 rfl (lv_at hl 6 rfl) ?_
  refine lv_iload hx hb dL_law_996 (lv_at hl 1 rfl) ?_
  refine lv_iconst (v := nI 1) hx hb dL_law_998 (by decide) ?_
  refine r_iaddN hx hb (a := i) (b := 1) dL_law_999 ?_
  refine cx_sld C hW hX hbl (by rw [hAe]; exact Nat.not_le.mpr hbl) (k := i + 1) (by omega) (by omega) dL_law_1000 ?_
  refine lv_aload_n hx hb dL_law_1001 rfl (lv_at hl 6 rfl) ?_
  refine lv_iload hx hb dL_law_1002 (lv_at hl 1 rfl) ?_
  refine lv_iconst (v := nI 2) hx hb dL_law_1004 (by decide) ?_
  refine r_iaddN hx hb (a := i) (b := 2) dL_law_1005 ?_
  refine cx_sld C hW hX hbl (by rw [hAe]; exact Nat.not_le.mpr hbl) (k := i + 2) (by omega) (by omega) dL_law_1006 ?_
  refine lw_mdi (As := [.int (xs (i + 1)), .int (xs (i + 2))]) (rest := []) C hml hl.1 hW hA hMd gR_commonMotionByRows hR_commonMotionByRows rfl ⟨Nat.le_of_ble_eq_true rfl, Nat.le_of_ble_eq_true rfl⟩ ⟨by show cells + 3 ≤ 603072; omega, by show slots + 18 ≤ 7198826; omega⟩ rfl (Nat.le_of_ble_eq_true rfl) dL_law_1007 (fun rb S1 H locs hq hW => ?_)
  obtain ⟨Bd2, hb2, hO2, hN2⟩ := hq
  refine lv_istore (lv' := [(7, .int rb), (6, .int r), (5, .int (nI i)), (4, .ref u1), (3, .ref u0), (2, .ref (ad 0)), (1, .ref x0), (0, .ref b)]) hx hb dL_law_1010 hl (by decide) rfl (fun ls hl => ?_)
  refine lv_goto (tgt := 1462) hx hb dL_law_1012 (by decide) ?_
  refine W.widen (k := cells + 110) (n := slots + 13600) (by omega) (by omega) ?_
  exact kk S1 Bd2 o2 q W2 _ _ _ hb2 hO2 hN2 hW (lv_sub hl [2, 3, 4, 5, 6, 7] rfl)
set_option maxHeartbeats 4000000 in
set_option maxRecDepth 20000 in
theorem law_c25 {p : Program} {l : Launch} {e : Env} {s : State} {m : MethodId} {below : List Frame} {meth : Method} {c : Code} {H : Heap} {locs : List Loc} {cells slots : Nat} {Q : State → Prop} {ls : Array Slot} {D : va_G} {aT : Nat → ClassId} {A : Nat → Prop} {ad : Nat → Nat} {S : MSt} {x0 u0 u1 Bd b n i : Nat} {xs : Nat → Int32} {o : Nat → Int64} {q : Nat → UInt64} {Wx : va_W} (hfl : l.stackTraces = false) (hAe : A = fun q => s.heap.size ≤ q) (C : CxX p c code s #[Value.ref b] m D aT RL) (hml : c.maxLocals = 9) (hX : va_X b n xs s s.heap) (hbl : b < s.heap.size) (hn : n ≤ 2048) (hi : i + 4 ≤ n) (hZ : cZ D A s s.heap) (hW : CxB D (mdW aT ad S ++ (oD aT u1 q ++ (oL aT u0 o ++ Wx))) A s.heap H locs) (hO : ClO D aT x0 S Bd Wx) (hN : LnO S) (hBd : Bd + 20 < 1048000) (hc1 : cells + 110 ≤ 603072) (hc2 : slots + 13600 ≤ 7198826) (hl : lv_has ls 9 [(5, .int (nI i)), (4, .ref u1), (3, .ref u0), (2, .ref (ad 0)), (1, .ref x0), (0, .ref b)]) (kk : LK p l e s m b below meth c D aT A ad x0 u0 u1 i Bd cells slots Q) : W p l e room_1 s m #[Value.ref b] below meth c H locs cells slots Q (F0 m 1015 ls []) := by
  have hx := C.1
  have hb := C.2.1
  have hA : ∀ q, s.heap.size ≤ q → A q := fun q h => by rw [hAe]; exact h
  refine lv_aload_n hx hb dL_law_1015 rfl (lv_at hl 4 rfl) ?_
  refine lv_aload_n hx hb dL_law_1016 rfl (lv_at hl 5 rfl) ?_
  refine lv_iload hx hb dL_law_1017 (lv_at hl 0 rfl) ?_
  refine lv_iconst (v := nI 1) hx hb dL_law_1019 (by decide) ?_
  refine r_iaddN hx hb (a := i) (b := 1) dL_law_1020 ?_
  refine cx_sld C hW hX hbl (by rw [hAe]; exact Nat.not_le.mpr hbl) (k := i + 1) (by omega) (by omega) dL_law_1021 ?_
  refine lv_aload_n hx hb dL_law_1022 rfl (lv_at hl 5 rfl) ?_
  refine lv_iload hx hb dL_law_1023 (lv_at hl 0 rfl) ?_
  refine lv_iconst (v := nI 2) hx hb dL_law_1025 (by decide) ?_
  refine r_iaddN hx hb (a := i) (b := 2) dL_law_1026 ?_
  refine cx_sld C hW hX hbl (by rw [hAe]; exact Nat.not_le.mpr hbl) (k := i + 2) (by omega) (by omega) dL_law_1027 ?_
  refine lv_aload_n hx hb dL_law_1028 rfl (lv_at hl 2 rfl) ?_
  refine st_pathSize hfl C hml hl.1 hA hZ hW hO hN hBd (by omega) (by omega) dL_law_1029 (fun r o2 W2 H locs hMd hW => ?_)
  refine lv_istore (lv' := [(6, .int r), (5, .int (nI i)), (4, .ref u1), (3, .ref u0), (2, .ref (ad 0)), (1, .ref x0), (0, .ref b)]) hx hb dL_law_1032 hl (by decide) rfl (fun ls hl => ?_)
  refine lv_aload_n hx hb dL_law_1034 rfl (lv_at hl 4 rfl) ?_
  refine lv_aload_n hx hb dL_law_1035 rfl (lv_at hl 6 rfl) ?_
  refine lv_iload hx hb dL_law_1036 (lv_at hl 1 rfl) ?_
  refine lv_iconst (v := nI 1) hx hb dL_law_1038 (by decide) ?_
  refine r_iaddN hx hb (a := i) (b := 1) dL_law_1039 ?_
  refine cx_sld C hW hX hbl (by rw [hAe]; exact Nat.not_le.mpr hbl) (k := i + 1) (by omega) (by omega) dL_law_1040 ?_
  refine lv_aload_n hx hb dL_law_1041 rfl (lv_at hl 6 rfl) ?_
  refine lv_iload hx hb dL_law_1042 (lv_at hl 1 rfl) ?_
  refine lv_iconst (v := nI 2) hx hb dL_law_1044 (by decide) ?_
  refine r_iaddN hx hb (a := i) (b := 2) dL_law_1045 ?_
  refine cx_sld C hW hX hbl (by rw [hAe]; exact Nat.not_le.mpr hbl) (k := i + 2) (by omega) (by omega) dL_law_1046 ?_
  refine lw_mdi (As := [.int (xs (i + 1)), .int (xs (i + 2))]) (rest := []) C hml hl.1 hW hA hMd gR_pathSize hR_pathSize rfl ⟨Nat.le_of_ble_eq_true rfl, Nat.le_of_ble_eq_true rfl⟩ ⟨by show cells + 3 ≤ 603072; omega, by show slots + 18 ≤ 7198826; omega⟩ rfl (Nat.le_of_ble_eq_true rfl) dL_law_1047 (fun rb S1 H locs hq hW => ?_)
  obtain ⟨Bd2, hb2, hO2, hN2⟩ := hq
  refine lv_istore (lv' := [(7, .int rb), (6, .int r), (5, .int (nI i)), (4, .ref u1), (3, .ref u0), (2, .ref (ad 0)), (1, .ref x0), (0, .ref b)]) hx hb dL_law_1050 hl (by decide) rfl (fun ls hl => ?_)
  refine lv_goto (tgt := 1462) hx hb dL_law_1052 (by decide) ?_
  refine W.widen (k := cells + 110) (n := slots + 13600) (by omega) (by omega) ?_
  exact kk S1 Bd2 o2 q W2 _ _ _ hb2 hO2 hN2 hW (lv_sub hl [2, 3, 4, 5, 6, 7] rfl)
set_option maxHeartbeats 4000000 in
set_option maxRecDepth 20000 in
theorem law_c26 {p : Program} {l : Launch} {e : Env} {s : State} {m : MethodId} {below : List Frame} {meth : Method} {c : Code} {H : Heap} {locs : List Loc} {cells slots : Nat} {Q : State → Prop} {ls : Array Slot} {D : va_G} {aT : Nat → ClassId} {A : Nat → Prop} {ad : Nat → Nat} {S : MSt} {x0 u0 u1 Bd b n i : Nat} {xs : Nat → Int32} {o : Nat → Int64} {q : Nat → UInt64} {Wx : va_W} (hfl : l.stackTraces = false) (hAe : A = fun q => s.heap.size ≤ q) (C : CxX p c code s #[Value.ref b] m D aT RL) (hml : c.maxLocals = 9) (hX : va_X b n xs s s.heap) (hbl : b < s.heap.size) (hn : n ≤ 2048) (hi : i + 4 ≤ n) (hZ : cZ D A s s.heap) (hW : CxB D (mdW aT ad S ++ (oD aT u1 q ++ (oL aT u0 o ++ Wx))) A s.heap H locs) (hO : ClO D aT x0 S Bd Wx) (hN : LnO S) (hBd : Bd + 20 < 1048000) (hc1 : cells + 110 ≤ 603072) (hc2 : slots + 13600 ≤ 7198826) (hl : lv_has ls 9 [(5, .int (nI i)), (4, .ref u1), (3, .ref u0), (2, .ref (ad 0)), (1, .ref x0), (0, .ref b)]) (kk : LK p l e s m b below meth c D aT A ad x0 u0 u1 i Bd cells slots Q) : W p l e room_1 s m #[Value.ref b] below meth c H locs cells slots Q (F0 m 1055 ls []) := by
  have hx := C.1
  have hb := C.2.1
  have hA : ∀ q, s.heap.size ≤ q → A q := fun q h => by rw [hAe]; exact h
  refine lv_aload_n hx hb dL_law_1055 rfl (lv_at hl 4 rfl) ?_
  refine lv_aload_n hx hb dL_law_1056 rfl (lv_at hl 5 rfl) ?_
  refine lv_iload hx hb dL_law_1057 (lv_at hl 0 rfl) ?_
  refine lv_iconst (v := nI 1) hx hb dL_law_1059 (by decide) ?_
  refine r_iaddN hx hb (a := i) (b := 1) dL_law_1060 ?_
  refine cx_sld C hW hX hbl (by rw [hAe]; exact Nat.not_le.mpr hbl) (k := i + 1) (by omega) (by omega) dL_law_1061 ?_
  refine lv_aload_n hx hb dL_law_1062 rfl (lv_at hl 2 rfl) ?_
  refine st_longestPath hfl C hml hl.1 hA hZ hW hO hN hBd (by omega) (by omega) dL_law_1063 (fun r o2 W2 H locs hMd hW => ?_)
  refine lv_istore (lv' := [(6, .int r), (5, .int (nI i)), (4, .ref u1), (3, .ref u0), (2, .ref (ad 0)), (1, .ref x0), (0, .ref b)]) hx hb dL_law_1066 hl (by decide) rfl (fun ls hl => ?_)
  refine lv_aload_n hx hb dL_law_1068 rfl (lv_at hl 4 rfl) ?_
  refine lv_aload_n hx hb dL_law_1069 rfl (lv_at hl 6 rfl) ?_
  refine lv_iload hx hb dL_law_1070 (lv_at hl 1 rfl) ?_
  refine lv_iconst (v := nI 1) hx hb dL_law_1072 (by decide) ?_
  refine r_iaddN hx hb (a := i) (b := 1) dL_law_1073 ?_
  refine cx_sld C hW hX hbl (by rw [hAe]; exact Nat.not_le.mpr hbl) (k := i + 1) (by omega) (by omega) dL_law_1074 ?_
  refine lw_mdi (As := [.int (xs (i + 1))]) (rest := []) C hml hl.1 hW hA hMd gR_longestPath hR_longestPath rfl ⟨Nat.le_of_ble_eq_true rfl, Nat.le_of_ble_eq_true rfl⟩ ⟨by show cells + 1 ≤ 603072; omega, by show slots + 6 ≤ 7198826; omega⟩ rfl (Nat.le_of_ble_eq_true rfl) dL_law_1075 (fun rb S1 H locs hq hW => ?_)
  obtain ⟨Bd2, hb2, hO2, hN2⟩ := hq
  refine lv_istore (lv' := [(7, .int rb), (6, .int r), (5, .int (nI i)), (4, .ref u1), (3, .ref u0), (2, .ref (ad 0)), (1, .ref x0), (0, .ref b)]) hx hb dL_law_1078 hl (by decide) rfl (fun ls hl => ?_)
  refine lv_goto (tgt := 1462) hx hb dL_law_1080 (by decide) ?_
  refine W.widen (k := cells + 110) (n := slots + 13600) (by omega) (by omega) ?_
  exact kk S1 Bd2 o2 q W2 _ _ _ hb2 hO2 hN2 hW (lv_sub hl [2, 3, 4, 5, 6, 7] rfl)
set_option maxHeartbeats 4000000 in
set_option maxRecDepth 20000 in
theorem law_c27 {p : Program} {l : Launch} {e : Env} {s : State} {m : MethodId} {below : List Frame} {meth : Method} {c : Code} {H : Heap} {locs : List Loc} {cells slots : Nat} {Q : State → Prop} {ls : Array Slot} {D : va_G} {aT : Nat → ClassId} {A : Nat → Prop} {ad : Nat → Nat} {S : MSt} {x0 u0 u1 Bd b n i : Nat} {xs : Nat → Int32} {o : Nat → Int64} {q : Nat → UInt64} {Wx : va_W} (hfl : l.stackTraces = false) (hAe : A = fun q => s.heap.size ≤ q) (C : CxX p c code s #[Value.ref b] m D aT RL) (hml : c.maxLocals = 9) (hX : va_X b n xs s s.heap) (hbl : b < s.heap.size) (hn : n ≤ 2048) (hi : i + 4 ≤ n) (hZ : cZ D A s s.heap) (hW : CxB D (mdW aT ad S ++ (oD aT u1 q ++ (oL aT u0 o ++ Wx))) A s.heap H locs) (hO : ClO D aT x0 S Bd Wx) (hN : LnO S) (hBd : Bd + 20 < 1048000) (hc1 : cells + 110 ≤ 603072) (hc2 : slots + 13600 ≤ 7198826) (hl : lv_has ls 9 [(5, .int (nI i)), (4, .ref u1), (3, .ref u0), (2, .ref (ad 0)), (1, .ref x0), (0, .ref b)]) (kk : LK p l e s m b below meth c D aT A ad x0 u0 u1 i Bd cells slots Q) : W p l e room_1 s m #[Value.ref b] below meth c H locs cells slots Q (F0 m 1083 ls []) := by
  have hx := C.1
  have hb := C.2.1
  have hA : ∀ q, s.heap.size ≤ q → A q := fun q h => by rw [hAe]; exact h
  refine lv_aload_n hx hb dL_law_1083 rfl (lv_at hl 4 rfl) ?_
  refine lv_aload_n hx hb dL_law_1084 rfl (lv_at hl 5 rfl) ?_
  refine lv_iload hx hb dL_law_1085 (lv_at hl 0 rfl) ?_
  refine lv_iconst (v := nI 1) hx hb dL_law_1087 (by decide) ?_
  refine r_iaddN hx hb (a := i) (b := 1) dL_law_1088 ?_
  refine cx_sld C hW hX hbl (by rw [hAe]; exact Nat.not_le.mpr hbl) (k := i + 1) (by omega) (by omega) dL_law_1089 ?_
  refine lv_aload_n hx hb dL_law_1090 rfl (lv_at hl 2 rfl) ?_
  refine st_longestPathBySweeps hfl C hml hl.1 hA hZ hW hO hN hBd (by omega) (by omega) dL_law_1091 (fun r o2 W2 H locs hMd hW => ?_)
  refine lv_istore (lv' := [(6, .int r), (5, .int (nI i)), (4, .ref u1), (3, .ref u0), (2, .ref (ad 0)), (1, .ref x0), (0, .ref b)]) hx hb dL_law_1094 hl (by decide) rfl (fun ls hl => ?_)
  refine lv_aload_n hx hb dL_law_1096 rfl (lv_at hl 4 rfl) ?_
  refine lv_aload_n hx hb dL_law_1097 rfl (lv_at hl 6 rfl) ?_
  refine lv_iload hx hb dL_law_1098 (lv_at hl 1 rfl) ?_
  refine lv_iconst (v := nI 1) hx hb dL_law_1100 (by decide) ?_
  refine r_iaddN hx hb (a := i) (b := 1) dL_law_1101 ?_
  refine cx_sld C hW hX hbl (by rw [hAe]; exact Nat.not_le.mpr hbl) (k := i + 1) (by omega) (by omega) dL_law_1102 ?_
  refine lw_mdi (As := [.int (xs (i + 1))]) (rest := []) C hml hl.1 hW hA hMd gR_longestPathBySweeps hR_longestPathBySweeps rfl ⟨Nat.le_of_ble_eq_true rfl, Nat.le_of_ble_eq_true rfl⟩ ⟨by show cells + 1 ≤ 603072; omega, by show slots + 6 ≤ 7198826; omega⟩ rfl (Nat.le_of_ble_eq_true rfl) dL_law_1103 (fun rb S1 H locs hq hW => ?_)
  obtain ⟨Bd2, hb2, hO2, hN2⟩ := hq
  refine lv_istore (lv' := [(7, .int rb), (6, .int r), (5, .int (nI i)), (4, .ref u1), (3, .ref u0), (2, .ref (ad 0)), (1, .ref x0), (0, .ref b)]) hx hb dL_law_1106 hl (by decide) rfl (fun ls hl => ?_)
  refine lv_goto (tgt := 1462) hx hb dL_law_1108 (by decide) ?_
  refine W.widen (k := cells + 110) (n := slots + 13600) (by omega) (by omega) ?_
  exact kk S1 Bd2 o2 q W2 _ _ _ hb2 hO2 hN2 hW (lv_sub hl [2, 3, 4, 5, 6, 7] rfl)
set_option maxHeartbeats 4000000 in
set_option maxRecDepth 20000 in
theorem law_c28 {p : Program} {l : Launch} {e : Env} {s : State} {m : MethodId} {below : List Frame} {meth : Method} {c : Code} {H : Heap} {locs : List Loc} {cells slots : Nat} {Q : State → Prop} {ls : Array Slot} {D : va_G} {aT : Nat → ClassId} {A : Nat → Prop} {ad : Nat → Nat} {S : MSt} {x0 u0 u1 Bd b n i : Nat} {xs : Nat → Int32} {o : Nat → Int64} {q : Nat → UInt64} {Wx : va_W} (hfl : l.stackTraces = false) (hAe : A = fun q => s.heap.size ≤ q) (C : CxX p c code s #[Value.ref b] m D aT RL) (hml : c.maxLocals = 9) (hX : va_X b n xs s s.heap) (hbl : b < s.heap.size) (hn : n ≤ 2048) (hi : i + 4 ≤ n) (hZ : cZ D A s s.heap) (hW : CxB D (mdW aT ad S ++ (oD aT u1 q ++ (oL aT u0 o ++ Wx))) A s.heap H locs) (hO : ClO D aT x0 S Bd Wx) (hN : LnO S) (hBd : Bd + 20 < 1048000) (hc1 : cells + 110 ≤ 603072) (hc2 : slots + 13600 ≤ 7198826) (hl : lv_has ls 9 [(5, .int (nI i)), (4, .ref u1), (3, .ref u0), (2, .ref (ad 0)), (1, .ref x0), (0, .ref b)]) (kk : LK p l e s m b below meth c D aT A ad x0 u0 u1 i Bd cells slots Q) : W p l e room_1 s m #[Value.ref b] below meth c H locs cells slots Q (F0 m 1111 ls []) := by
  have hx := C.1
  have hb := C.2.1
  have hA : ∀ q, s.heap.size ≤ q → A q := fun q h => by rw [hAe]; exact h
  refine lv_aload_n hx hb dL_law_1111 rfl (lv_at hl 4 rfl) ?_
  refine st_bestWorth hfl C hml hl.1 hA hZ hW hO hN hBd (by omega) (by omega) dL_law_1112 (fun r W2 H locs hMd hW => ?_)
  refine lv_pop hx hb dL_law_1115 rfl ?_
  refine lv_aload_n hx hb dL_law_1116 rfl (lv_at hl 3 rfl) ?_
  refine lw_mdi (As := []) (rest := []) C hml hl.1 hW hA hMd gR_bestWorth hR_bestWorth rfl ⟨Nat.le_of_ble_eq_true rfl, Nat.le_of_ble_eq_true rfl⟩ ⟨by show cells + 0 ≤ 603072; omega, by show slots + 0 ≤ 7198826; omega⟩ rfl (Nat.le_of_ble_eq_true rfl) dL_law_1117 (fun rb S1 H locs hq hW => ?_)
  obtain ⟨Bd2, hb2, hO2, hN2⟩ := hq
  refine lv_pop hx hb dL_law_1120 rfl ?_
  refine lv_goto (tgt := 1462) hx hb dL_law_1121 (by decide) ?_
  refine W.widen (k := cells + 110) (n := slots + 13600) (by omega) (by omega) ?_
  exact kk S1 Bd2 o q W2 _ _ _ hb2 hO2 hN2 hW (lv_sub hl [0, 1, 2, 3, 4, 5] rfl)
set_option maxHeartbeats 4000000 in
set_option maxRecDepth 20000 in
theorem law_c29 {p : Program} {l : Launch} {e : Env} {s : State} {m : MethodId} {below : List Frame} {meth : Method} {c : Code} {H : Heap} {locs : List Loc} {cells slots : Nat} {Q : State → Prop} {ls : Array Slot} {D : va_G} {aT : Nat → ClassId} {A : Nat → Prop} {ad : Nat → Nat} {S : MSt} {x0 u0 u1 Bd b n i : Nat} {xs : Nat → Int32} {o : Nat → Int64} {q : Nat → UInt64} {Wx : va_W} (hfl : l.stackTraces = false) (hAe : A = fun q => s.heap.size ≤ q) (C : CxX p c code s #[Value.ref b] m D aT RL) (hml : c.maxLocals = 9) (hX : va_X b n xs s s.heap) (hbl : b < s.heap.size) (hn : n ≤ 2048) (hi : i + 4 ≤ n) (hZ : cZ D A s s.heap) (hW : CxB D (mdW aT ad S ++ (oD aT u1 q ++ (oL aT u0 o ++ Wx))) A s.heap H locs) (hO : ClO D aT x0 S Bd Wx) (hN : LnO S) (hBd : Bd + 20 < 1048000) (hc1 : cells + 110 ≤ 603072) (hc2 : slots + 13600 ≤ 7198826) (hl : lv_has ls 9 [(5, .int (nI i)), (4, .ref u1), (3, .ref u0), (2, .ref (ad 0)), (1, .ref x0), (0, .ref b)]) (kk : LK p l e s m b below meth c D aT A ad x0 u0 u1 i Bd cells slots Q) : W p l e room_1 s m #[Value.ref b] below meth c H locs cells slots Q (F0 m 1124 ls []) := by
  have hx := C.1
  have hb := C.2.1
  have hA : ∀ q, s.heap.size ≤ q → A q := fun q h => by rw [hAe]; exact h
  refine lv_aload_n hx hb dL_law_1124 rfl (lv_at hl 4 rfl) ?_
  refine st_bestWorthBySets hfl C hml hl.1 hA hZ hW hO hN hBd (by omega) (by omega) dL_law_1125 (fun r W2 H locs hMd hW => ?_)
  refine lv_pop hx hb dL_law_1128 rfl ?_
  refine lv_aload_n hx hb dL_law_1129 rfl (lv_at hl 3 rfl) ?_
  refine lw_mdi (As := []) (rest := []) C hml hl.1 hW hA hMd gR_bestWorthBySets hR_bestWorthBySets rfl ⟨Nat.le_of_ble_eq_true rfl, Nat.le_of_ble_eq_true rfl⟩ ⟨by show cells + 0 ≤ 603072; omega, by show slots + 0 ≤ 7198826; omega⟩ rfl (Nat.le_of_ble_eq_true rfl) dL_law_1130 (fun rb S1 H locs hq hW => ?_)
  obtain ⟨Bd2, hb2, hO2, hN2⟩ := hq
  refine lv_pop hx hb dL_law_1133 rfl ?_
  refine lv_goto (tgt := 1462) hx hb dL_law_1134 (by decide) ?_
  refine W.widen (k := cells + 110) (n := slots + 13600) (by omega) (by omega) ?_
  exact kk S1 Bd2 o q W2 _ _ _ hb2 hO2 hN2 hW (lv_sub hl [0, 1, 2, 3, 4, 5] rfl)
set_option maxHeartbeats 4000000 in
set_option maxRecDepth 20000 in
theorem law_c30 {p : Program} {l : Launch} {e : Env} {s : State} {m : MethodId} {below : List Frame} {meth : Method} {c : Code} {H : Heap} {locs : List Loc} {cells slots : Nat} {Q : State → Prop} {ls : Array Slot} {D : va_G} {aT : Nat → ClassId} {A : Nat → Prop} {ad : Nat → Nat} {S : MSt} {x0 u0 u1 Bd b n i : Nat} {xs : Nat → Int32} {o : Nat → Int64} {q : Nat → UInt64} {Wx : va_W} (hfl : l.stackTraces = false) (hAe : A = fun q => s.heap.size ≤ q) (C : CxX p c code s #[Value.ref b] m D aT RL) (hml : c.maxLocals = 9) (hX : va_X b n xs s s.heap) (hbl : b < s.heap.size) (hn : n ≤ 2048) (hi : i + 4 ≤ n) (hZ : cZ D A s s.heap) (hW : CxB D (mdW aT ad S ++ (oD aT u1 q ++ (oL aT u0 o ++ Wx))) A s.heap H locs) (hO : ClO D aT x0 S Bd Wx) (hN : LnO S) (hBd : Bd + 20 < 1048000) (hc1 : cells + 110 ≤ 603072) (hc2 : slots + 13600 ≤ 7198826) (hl : lv_has ls 9 [(5, .int (nI i)), (4, .ref u1), (3, .ref u0), (2, .ref (ad 0)), (1, .ref x0), (0, .ref b)]) (kk : LK p l e s m b below meth c D aT A ad x0 u0 u1 i Bd cells slots Q) : W p l e room_1 s m #[Value.ref b] below meth c H locs cells slots Q (F0 m 1137 ls []) := by
  have hx := C.1
  have hb := C.2.1
  have hA : ∀ q, s.heap.size ≤ q → A q := fun q h => by rw [hAe]; exact h
  refine lv_aload_n hx hb dL_law_1137 rfl (lv_at hl 4 rfl) ?_
  refine st_goodSets hfl C hml hl.1 hA hZ hW hO hN hBd (by omega) (by omega) dL_law_1138 (fun r W2 H locs hMd hW => ?_)
  refine lv_pop hx hb dL_law_1141 rfl ?_
  refine lv_aload_n hx hb dL_law_1142 rfl (lv_at hl 3 rfl) ?_
  refine lw_mdi (As := []) (rest := []) C hml hl.1 hW hA hMd gR_goodSets hR_goodSets rfl ⟨Nat.le_of_ble_eq_true rfl, Nat.le_of_ble_eq_true rfl⟩ ⟨by show cells + 0 ≤ 603072; omega, by show slots + 0 ≤ 7198826; omega⟩ rfl (Nat.le_of_ble_eq_true rfl) dL_law_1143 (fun rb S1 H locs hq hW => ?_)
  obtain ⟨Bd2, hb2, hO2, hN2⟩ := hq
  refine lv_pop hx hb dL_law_1146 rfl ?_
  refine lv_goto (tgt := 1462) hx hb dL_law_1147 (by decide) ?_
  refine W.widen (k := cells + 110) (n := slots + 13600) (by omega) (by omega) ?_
  exact kk S1 Bd2 o q W2 _ _ _ hb2 hO2 hN2 hW (lv_sub hl [0, 1, 2, 3, 4, 5] rfl)
set_option maxHeartbeats 4000000 in
set_option maxRecDepth 20000 in
theorem law_c31 {p : Program} {l : Launch} {e : Env} {s : State} {m : MethodId} {below : List Frame} {meth : Method} {c : Code} {H : Heap} {locs : List Loc} {cells slots : Nat} {Q : State → Prop} {ls : Array Slot} {D : va_G} {aT : Nat → ClassId} {A : Nat → Prop} {ad : Nat → Nat} {S : MSt} {x0 u0 u1 Bd b n i : Nat} {xs : Nat → Int32} {o : Nat → Int64} {q : Nat → UInt64} {Wx : va_W} (hfl : l.stackTraces = false) (hAe : A = fun q => s.heap.size ≤ q) (C : CxX p c code s #[Value.ref b] m D aT RL) (hml : c.maxLocals = 9) (hX : va_X b n xs s s.heap) (hbl : b < s.heap.size) (hn : n ≤ 2048) (hi : i + 4 ≤ n) (hZ : cZ D A s s.heap) (hW : CxB D (mdW aT ad S ++ (oD aT u1 q ++ (oL aT u0 o ++ Wx))) A s.heap H locs) (hO : ClO D aT x0 S Bd Wx) (hN : LnO S) (hBd : Bd + 20 < 1048000) (hc1 : cells + 110 ≤ 603072) (hc2 : slots + 13600 ≤ 7198826) (hl : lv_has ls 9 [(5, .int (nI i)), (4, .ref u1), (3, .ref u0), (2, .ref (ad 0)), (1, .ref x0), (0, .ref b)]) (kk : LK p l e s m b below meth c D aT A ad x0 u0 u1 i Bd cells slots Q) : W p l e room_1 s m #[Value.ref b] below meth c H locs cells slots Q (F0 m 1150 ls []) := by
  have hx := C.1
  have hb := C.2.1
  have hA : ∀ q, s.heap.size ≤ q → A q := fun q h => by rw [hAe]; exact h
  refine lv_aload_n hx hb dL_law_1150 rfl (lv_at hl 4 rfl) ?_
  refine st_season hfl C hml hl.1 hA hZ hW hO hN hBd (by omega) (by omega) dL_law_1151 (fun r W2 H locs hMd hW => ?_)
  refine lv_pop hx hb dL_law_1154 rfl ?_
  refine lv_aload_n hx hb dL_law_1155 rfl (lv_at hl 3 rfl) ?_
  refine lw_mdi (As := []) (rest := []) C hml hl.1 hW hA hMd gR_season hR_season rfl ⟨Nat.le_of_ble_eq_true rfl, Nat.le_of_ble_eq_true rfl⟩ ⟨by show cells + 0 ≤ 603072; omega, by show slots + 0 ≤ 7198826; omega⟩ rfl (Nat.le_of_ble_eq_true rfl) dL_law_1156 (fun rb S1 H locs hq hW => ?_)
  obtain ⟨Bd2, hb2, hO2, hN2⟩ := hq
  refine lv_pop hx hb dL_law_1159 rfl ?_
  refine lv_goto (tgt := 1462) hx hb dL_law_1160 (by decide) ?_
  refine W.widen (k := cells + 110) (n := slots + 13600) (by omega) (by omega) ?_
  exact kk S1 Bd2 o q W2 _ _ _ hb2 hO2 hN2 hW (lv_sub hl [0, 1, 2, 3, 4, 5] rfl)
set_option maxHeartbeats 4000000 in
set_option maxRecDepth 20000 in
theorem law_c32 {p : Program} {l : Launch} {e : Env} {s : State} {m : MethodId} {below : List Frame} {meth : Method} {c : Code} {H : Heap} {locs : List Loc} {cells slots : Nat} {Q : State → Prop} {ls : Array Slot} {D : va_G} {aT : Nat → ClassId} {A : Nat → Prop} {ad : Nat → Nat} {S : MSt} {x0 u0 u1 Bd b n i : Nat} {xs : Nat → Int32} {o : Nat → Int64} {q : Nat → UInt64} {Wx : va_W} (hfl : l.stackTraces = false) (hAe : A = fun q => s.heap.size ≤ q) (C : CxX p c code s #[Value.ref b] m D aT RL) (hml : c.maxLocals = 9) (hX : va_X b n xs s s.heap) (hbl : b < s.heap.size) (hn : n ≤ 2048) (hi : i + 4 ≤ n) (hZ : cZ D A s s.heap) (hW : CxB D (mdW aT ad S ++ (oD aT u1 q ++ (oL aT u0 o ++ Wx))) A s.heap H locs) (hO : ClO D aT x0 S Bd Wx) (hN : LnO S) (hBd : Bd + 20 < 1048000) (hc1 : cells + 110 ≤ 603072) (hc2 : slots + 13600 ≤ 7198826) (hl : lv_has ls 9 [(5, .int (nI i)), (4, .ref u1), (3, .ref u0), (2, .ref (ad 0)), (1, .ref x0), (0, .ref b)]) (kk : LK p l e s m b below meth c D aT A ad x0 u0 u1 i Bd cells slots Q) : W p l e room_1 s m #[Value.ref b] below meth c H locs cells slots Q (F0 m 1163 ls []) := by
  have hx := C.1
  have hb := C.2.1
  have hA : ∀ q, s.heap.size ≤ q → A q := fun q h => by rw [hAe]; exact h
  refine lv_aload_n hx hb dL_law_1163 rfl (lv_at hl 4 rfl) ?_
  refine lv_aload_n hx hb dL_law_1164 rfl (lv_at hl 5 rfl) ?_
  refine lv_iload hx hb dL_law_1165 (lv_at hl 0 rfl) ?_
  refine lv_iconst (v := nI 1) hx hb dL_law_1167 (by decide) ?_
  refine r_iaddN hx hb (a := i) (b := 1) dL_law_1168 ?_
  refine cx_sld C hW hX hbl (by rw [hAe]; exact Nat.not_le.mpr hbl) (k := i + 1) (by omega) (by omega) dL_law_1169 ?_
  refine lv_aload_n hx hb dL_law_1170 rfl (lv_at hl 2 rfl) ?_
  refine st_minutesIn hfl C hml hl.1 hA hZ hW hO hN hBd (by omega) (by omega) dL_law_1171 (fun r o2 W2 H locs hMd hW => ?_)
  refine lv_istore (lv' := [(6, .int r), (5, .int (nI i)), (4, .ref u1), (3, .ref u0), (2, .ref (ad 0)), (1, .ref x0), (0, .ref b)]) hx hb dL_law_1174 hl (by decide) rfl (fun ls hl => ?_)
  refine lv_aload_n hx hb dL_law_1176 rfl (lv_at hl 4 rfl) ?_
  refine lv_aload_n hx hb dL_law_1177 rfl (lv_at hl 6 rfl) ?_
  refine lv_iload hx hb dL_law_1178 (lv_at hl 1 rfl) ?_
  refine lv_iconst (v := nI 1) hx hb dL_law_1180 (by decide) ?_
  refine r_iaddN hx hb (a := i) (b := 1) dL_law_1181 ?_
  refine cx_sld C hW hX hbl (by rw [hAe]; exact Nat.not_le.mpr hbl) (k := i + 1) (by omega) (by omega) dL_law_1182 ?_
  refine lw_mdi (As := [.int (xs (i + 1))]) (rest := []) C hml hl.1 hW hA hMd gR_minutesIn hR_minutesIn rfl ⟨Nat.le_of_ble_eq_true rfl, Nat.le_of_ble_eq_true rfl⟩ ⟨by show cells + 1 ≤ 603072; omega, by show slots + 6 ≤ 7198826; omega⟩ rfl (Nat.le_of_ble_eq_true rfl) dL_law_1183 (fun rb S1 H locs hq hW => ?_)
  obtain ⟨Bd2, hb2, hO2, hN2⟩ := hq
  refine lv_istore (lv' := [(7, .int rb), (6, .int r), (5, .int (nI i)), (4, .ref u1), (3, .ref u0), (2, .ref (ad 0)), (1, .ref x0), (0, .ref b)]) hx hb dL_law_1186 hl (by decide) rfl (fun ls hl => ?_)
  refine lv_goto (tgt := 1462) hx hb dL_law_1188 (by decide) ?_
  refine W.widen (k := cells + 110) (n := slots + 13600) (by omega) (by omega) ?_
  exact kk S1 Bd2 o2 q W2 _ _ _ hb2 hO2 hN2 hW (lv_sub hl [2, 3, 4, 5, 6, 7] rfl)
set_option maxHeartbeats 4000000 in
set_option maxRecDepth 20000 in
theorem law_c33 {p : Program} {l : Launch} {e : Env} {s : State} {m : MethodId} {below : List Frame} {meth : Method} {c : Code} {H : Heap} {locs : List Loc} {cells slots : Nat} {Q : State → Prop} {ls : Array Slot} {D : va_G} {aT : Nat → ClassId} {A : Nat → Prop} {ad : Nat → Nat} {S : MSt} {x0 u0 u1 Bd b n i : Nat} {xs : Nat → Int32} {o : Nat → Int64} {q : Nat → UInt64} {Wx : va_W} (hfl : l.stackTraces = false) (hAe : A = fun q => s.heap.size ≤ q) (C : CxX p c code s #[Value.ref b] m D aT RL) (hml : c.maxLocals = 9) (hX : va_X b n xs s s.heap) (hbl : b < s.heap.size) (hn : n ≤ 2048) (hi : i + 4 ≤ n) (hZ : cZ D A s s.heap) (hW : CxB D (mdW aT ad S ++ (oD aT u1 q ++ (oL aT u0 o ++ Wx))) A s.heap H locs) (hO : ClO D aT x0 S Bd Wx) (hN : LnO S) (hBd : Bd + 20 < 1048000) (hc1 : cells + 110 ≤ 603072) (hc2 : slots + 13600 ≤ 7198826) (hl : lv_has ls 9 [(5, .int (nI i)), (4, .ref u1), (3, .ref u0), (2, .ref (ad 0)), (1, .ref x0), (0, .ref b)]) (kk : LK p l e s m b below meth c D aT A ad x0 u0 u1 i Bd cells slots Q) : W p l e room_1 s m #[Value.ref b] below meth c H locs cells slots Q (F0 m 1191 ls []) := by
  have hx := C.1
  have hb := C.2.1
  have hA : ∀ q, s.heap.size ≤ q → A q := fun q h => by rw [hAe]; exact h
  refine lv_aload_n hx hb dL_law_1191 rfl (lv_at hl 4 rfl) ?_
  refine st_adoptedWeight hfl C hml hl.1 hA hZ hW hO hN hBd (by omega) (by omega) dL_law_1192 (fun r W2 H locs hMd hW => ?_)
  refine lv_pop hx hb dL_law_1195 rfl ?_
  refine lv_aload_n hx hb dL_law_1196 rfl (lv_at hl 3 rfl) ?_
  refine lw_mdi (As := []) (rest := []) C hml hl.1 hW hA hMd gR_adoptedWeight hR_adoptedWeight rfl ⟨Nat.le_of_ble_eq_true rfl, Nat.le_of_ble_eq_true rfl⟩ ⟨by show cells + 0 ≤ 603072; omega, by show slots + 0 ≤ 7198826; omega⟩ rfl (Nat.le_of_ble_eq_true rfl) dL_law_1197 (fun rb S1 H locs hq hW => ?_)
  obtain ⟨Bd2, hb2, hO2, hN2⟩ := hq
  refine lv_pop hx hb dL_law_1200 rfl ?_
  refine lv_goto (tgt := 1462) hx hb dL_law_1201 (by decide) ?_
  refine W.widen (k := cells + 110) (n := slots + 13600) (by omega) (by omega) ?_
  exact kk S1 Bd2 o q W2 _ _ _ hb2 hO2 hN2 hW (lv_sub hl [0, 1, 2, 3, 4, 5] rfl)
set_option maxHeartbeats 4000000 in
set_option maxRecDepth 20000 in
theorem law_c34 {p : Program} {l : Launch} {e : Env} {s : State} {m : MethodId} {below : List Frame} {meth : Method} {c : Code} {H : Heap} {locs : List Loc} {cells slots : Nat} {Q : State → Prop} {ls : Array Slot} {D : va_G} {aT : Nat → ClassId} {A : Nat → Prop} {ad : Nat → Nat} {S : MSt} {x0 u0 u1 Bd b n i : Nat} {xs : Nat → Int32} {o : Nat → Int64} {q : Nat → UInt64} {Wx : va_W} (hfl : l.stackTraces = false) (hAe : A = fun q => s.heap.size ≤ q) (C : CxX p c code s #[Value.ref b] m D aT RL) (hml : c.maxLocals = 9) (hX : va_X b n xs s s.heap) (hbl : b < s.heap.size) (hn : n ≤ 2048) (hi : i + 4 ≤ n) (hZ : cZ D A s s.heap) (hW : CxB D (mdW aT ad S ++ (oD aT u1 q ++ (oL aT u0 o ++ Wx))) A s.heap H locs) (hO : ClO D aT x0 S Bd Wx) (hN : LnO S) (hBd : Bd + 20 < 1048000) (hc1 : cells + 110 ≤ 603072) (hc2 : slots + 13600 ≤ 7198826) (hl : lv_has ls 9 [(5, .int (nI i)), (4, .ref u1), (3, .ref u0), (2, .ref (ad 0)), (1, .ref x0), (0, .ref b)]) (kk : LK p l e s m b below meth c D aT A ad x0 u0 u1 i Bd cells slots Q) : W p l e room_1 s m #[Value.ref b] below meth c H locs cells slots Q (F0 m 1204 ls []) := by
  have hx := C.1
  have hb := C.2.1
  have hA : ∀ q, s.heap.size ≤ q → A q := fun q h => by rw [hAe]; exact h
  refine lv_aload_n hx hb dL_law_1204 rfl (lv_at hl 4 rfl) ?_
  refine st_weightTotal hfl C hml hl.1 hA hZ hW hO hN hBd (by omega) (by omega) dL_law_1205 (fun r W2 H locs hMd hW => ?_)
  refine lv_pop hx hb dL_law_1208 rfl ?_
  refine lv_aload_n hx hb dL_law_1209 rfl (lv_at hl 3 rfl) ?_
  refine lw_mdi (As := []) (rest := []) C hml hl.1 hW hA hMd gR_weightTotal hR_weightTotal rfl ⟨Nat.le_of_ble_eq_true rfl, Nat.le_of_ble_eq_true rfl⟩ ⟨by show cells + 0 ≤ 603072; omega, by show slots + 0 ≤ 7198826; omega⟩ rfl (Nat.le_of_ble_eq_true rfl) dL_law_1210 (fun rb S1 H locs hq hW => ?_)
  obtain ⟨Bd2, hb2, hO2, hN2⟩ := hq
  refine lv_pop hx hb dL_law_1213 rfl ?_
  refine lv_goto (tgt := 1462) hx hb dL_law_1214 (by decide) ?_
  refine W.widen (k := cells + 110) (n := slots + 13600) (by omega) (by omega) ?_
  exact kk S1 Bd2 o q W2 _ _ _ hb2 hO2 hN2 hW (lv_sub hl [0, 1, 2, 3, 4, 5] rfl)
set_option maxHeartbeats 4000000 in
set_option maxRecDepth 20000 in
theorem law_c35 {p : Program} {l : Launch} {e : Env} {s : State} {m : MethodId} {below : List Frame} {meth : Method} {c : Code} {H : Heap} {locs : List Loc} {cells slots : Nat} {Q : State → Prop} {ls : Array Slot} {D : va_G} {aT : Nat → ClassId} {A : Nat → Prop} {ad : Nat → Nat} {S : MSt} {x0 u0 u1 Bd b n i : Nat} {xs : Nat → Int32} {o : Nat → Int64} {q : Nat → UInt64} {Wx : va_W} (hfl : l.stackTraces = false) (hAe : A = fun q => s.heap.size ≤ q) (C : CxX p c code s #[Value.ref b] m D aT RL) (hml : c.maxLocals = 9) (hX : va_X b n xs s s.heap) (hbl : b < s.heap.size) (hn : n ≤ 2048) (hi : i + 4 ≤ n) (hZ : cZ D A s s.heap) (hW : CxB D (mdW aT ad S ++ (oD aT u1 q ++ (oL aT u0 o ++ Wx))) A s.heap H locs) (hO : ClO D aT x0 S Bd Wx) (hN : LnO S) (hBd : Bd + 20 < 1048000) (hc1 : cells + 110 ≤ 603072) (hc2 : slots + 13600 ≤ 7198826) (hl : lv_has ls 9 [(5, .int (nI i)), (4, .ref u1), (3, .ref u0), (2, .ref (ad 0)), (1, .ref x0), (0, .ref b)]) (kk : LK p l e s m b below meth c D aT A ad x0 u0 u1 i Bd cells slots Q) : W p l e room_1 s m #[Value.ref b] below meth c H locs cells slots Q (F0 m 1217 ls []) := by
  have hx := C.1
  have hb := C.2.1
  have hA : ∀ q, s.heap.size ≤ q → A q := fun q h => by rw [hAe]; exact h
  refine lv_aload_n hx hb dL_law_1217 rfl (lv_at hl 4 rfl) ?_
  refine st_weightByAccounts hfl C hml hl.1 hA hZ hW hO hN hBd (by omega) (by omega) dL_law_1218 (fun r W2 H locs hMd hW => ?_)
  refine lv_pop hx hb dL_law_1221 rfl ?_
  refine lv_aload_n hx hb dL_law_1222 rfl (lv_at hl 3 rfl) ?_
  refine lw_mdi (As := []) (rest := []) C hml hl.1 hW hA hMd gR_weightByAccounts hR_weightByAccounts rfl ⟨Nat.le_of_ble_eq_true rfl, Nat.le_of_ble_eq_true rfl⟩ ⟨by show cells + 0 ≤ 603072; omega, by show slots + 0 ≤ 7198826; omega⟩ rfl (Nat.le_of_ble_eq_true rfl) dL_law_1223 (fun rb S1 H locs hq hW => ?_)
  obtain ⟨Bd2, hb2, hO2, hN2⟩ := hq
  refine lv_pop hx hb dL_law_1226 rfl ?_
  refine lv_goto (tgt := 1462) hx hb dL_law_1227 (by decide) ?_
  refine W.widen (k := cells + 110) (n := slots + 13600) (by omega) (by omega) ?_
  exact kk S1 Bd2 o q W2 _ _ _ hb2 hO2 hN2 hW (lv_sub hl [0, 1, 2, 3, 4, 5] rfl)
set_option maxHeartbeats 4000000 in
set_option maxRecDepth 20000 in
theorem law_c36 {p : Program} {l : Launch} {e : Env} {s : State} {m : MethodId} {below : List Frame} {meth : Method} {c : Code} {H : Heap} {locs : List Loc} {cells slots : Nat} {Q : State → Prop} {ls : Array Slot} {D : va_G} {aT : Nat → ClassId} {A : Nat → Prop} {ad : Nat → Nat} {S : MSt} {x0 u0 u1 Bd b n i : Nat} {xs : Nat → Int32} {o : Nat → Int64} {q : Nat → UInt64} {Wx : va_W} (hfl : l.stackTraces = false) (hAe : A = fun q => s.heap.size ≤ q) (C : CxX p c code s #[Value.ref b] m D aT RL) (hml : c.maxLocals = 9) (hX : va_X b n xs s s.heap) (hbl : b < s.heap.size) (hn : n ≤ 2048) (hi : i + 4 ≤ n) (hZ : cZ D A s s.heap) (hW : CxB D (mdW aT ad S ++ (oD aT u1 q ++ (oL aT u0 o ++ Wx))) A s.heap H locs) (hO : ClO D aT x0 S Bd Wx) (hN : LnO S) (hBd : Bd + 20 < 1048000) (hc1 : cells + 110 ≤ 603072) (hc2 : slots + 13600 ≤ 7198826) (hl : lv_has ls 9 [(5, .int (nI i)), (4, .ref u1), (3, .ref u0), (2, .ref (ad 0)), (1, .ref x0), (0, .ref b)]) (kk : LK p l e s m b below meth c D aT A ad x0 u0 u1 i Bd cells slots Q) : W p l e room_1 s m #[Value.ref b] below meth c H locs cells slots Q (F0 m 1230 ls []) := by
  have hx := C.1
  have hb := C.2.1
  have hA : ∀ q, s.heap.size ≤ q → A q := fun q h => by rw [hAe]; exact h
  refine lv_aload_n hx hb dL_law_1230 rfl (lv_at hl 4 rfl) ?_
  refine lv_aload hx hb dL_law_1231 (lv_at hl 1 rfl) ?_
  refine st_meanLeaves hfl C hml hl.1 hA hZ hW hO hN hBd (by omega) (by omega) dL_law_1233 (fun r q2 W2 H locs hMd hW => ?_)
  refine lv_istore (lv' := [(6, .int r), (5, .int (nI i)), (4, .ref u1), (3, .ref u0), (2, .ref (ad 0)), (1, .ref x0), (0, .ref b)]) hx hb dL_law_1236 hl (by decide) rfl (fun ls hl => ?_)
  refine lv_aload_n hx hb dL_law_1238 rfl (lv_at hl 4 rfl) ?_
  refine lw_mdd (As := []) (rest := []) C hml hl.1 hW hA hMd gR_meanLeaves hR_meanLeaves rfl ⟨Nat.le_of_ble_eq_true rfl, Nat.le_of_ble_eq_true rfl⟩ ⟨by show cells + 1 ≤ 603072; omega, by show slots + 6 ≤ 7198826; omega⟩ rfl (Nat.le_of_ble_eq_true rfl) dL_law_1239 (fun rb S1 H locs hq hW => ?_)
  obtain ⟨Bd2, hb2, hO2, hN2⟩ := hq
  refine lv_dstore (lv' := [(7, .double rb), (6, .int r), (5, .int (nI i)), (4, .ref u1), (3, .ref u0), (2, .ref (ad 0)), (1, .ref x0), (0, .ref b)]) hx hb dL_law_1242 hl (by decide) rfl (fun ls hl => ?_)
  refine lv_goto (tgt := 1462) hx hb dL_law_1244 (by decide) ?_
  refine W.widen (k := cells + 110) (n := slots + 13600) (by omega) (by omega) ?_
  exact kk S1 Bd2 o q2 W2 _ _ _ hb2 hO2 hN2 hW (lv_sub hl [2, 3, 4, 5, 6, 7] rfl)
set_option maxHeartbeats 4000000 in
set_option maxRecDepth 20000 in
theorem law_c37 {p : Program} {l : Launch} {e : Env} {s : State} {m : MethodId} {below : List Frame} {meth : Method} {c : Code} {H : Heap} {locs : List Loc} {cells slots : Nat} {Q : State → Prop} {ls : Array Slot} {D : va_G} {aT : Nat → ClassId} {A : Nat → Prop} {ad : Nat → Nat} {S : MSt} {x0 u0 u1 Bd b n i : Nat} {xs : Nat → Int32} {o : Nat → Int64} {q : Nat → UInt64} {Wx : va_W} (hfl : l.stackTraces = false) (hAe : A = fun q => s.heap.size ≤ q) (C : CxX p c code s #[Value.ref b] m D aT RL) (hml : c.maxLocals = 9) (hX : va_X b n xs s s.heap) (hbl : b < s.heap.size) (hn : n ≤ 2048) (hi : i + 4 ≤ n) (hZ : cZ D A s s.heap) (hW : CxB D (mdW aT ad S ++ (oD aT u1 q ++ (oL aT u0 o ++ Wx))) A s.heap H locs) (hO : ClO D aT x0 S Bd Wx) (hN : LnO S) (hBd : Bd + 20 < 1048000) (hc1 : cells + 110 ≤ 603072) (hc2 : slots + 13600 ≤ 7198826) (hl : lv_has ls 9 [(5, .int (nI i)), (4, .ref u1), (3, .ref u0), (2, .ref (ad 0)), (1, .ref x0), (0, .ref b)]) (kk : LK p l e s m b below meth c D aT A ad x0 u0 u1 i Bd cells slots Q) : W p l e room_1 s m #[Value.ref b] below meth c H locs cells slots Q (F0 m 1247 ls []) := by
  have hx := C.1
  have hb := C.2.1
  have hA : ∀ q, s.heap.size ≤ q → A q := fun q h => by rw [hAe]; exact h
  refine lv_aload_n hx hb dL_law_1247 rfl (lv_at hl 4 rfl) ?_
  refine lv_aload hx hb dL_law_1248 (lv_at hl 1 rfl) ?_
  refine st_carriedShare hfl C hml hl.1 hA hZ hW hO hN hBd (by omega) (by omega) dL_law_1250 (fun r q2 W2 H locs hMd hW => ?_)
  refine lv_istore (lv' := [(6, .int r), (5, .int (nI i)), (4, .ref u1), (3, .ref u0), (2, .ref (ad 0)), (1, .ref x0), (0, .ref b)]) hx hb dL_law_1253 hl (by decide) rfl (fun ls hl => ?_)
  refine lv_aload_n hx hb dL_law_1255 rfl (lv_at hl 4 rfl) ?_
  refine lw_mdf (As := []) (rest := []) C hml hl.1 hW hA hMd gR_carriedShare hR_carriedShare rfl ⟨Nat.le_of_ble_eq_true rfl, Nat.le_of_ble_eq_true rfl⟩ ⟨by show cells + 1 ≤ 603072; omega, by show slots + 6 ≤ 7198826; omega⟩ rfl (Nat.le_of_ble_eq_true rfl) dL_law_1256 (fun rb S1 H locs hq hW => ?_)
  obtain ⟨Bd2, hb2, hO2, hN2⟩ := hq
  refine lv_fstore (lv' := [(7, .float rb), (6, .int r), (5, .int (nI i)), (4, .ref u1), (3, .ref u0), (2, .ref (ad 0)), (1, .ref x0), (0, .ref b)]) hx hb dL_law_1259 hl (by decide) rfl (fun ls hl => ?_)
  refine lv_goto (tgt := 1462) hx hb dL_law_1261 (by decide) ?_
  refine W.widen (k := cells + 110) (n := slots + 13600) (by omega) (by omega) ?_
  exact kk S1 Bd2 o q2 W2 _ _ _ hb2 hO2 hN2 hW (lv_sub hl [2, 3, 4, 5, 6, 7] rfl)
set_option maxHeartbeats 4000000 in
set_option maxRecDepth 20000 in
theorem law_c38 {p : Program} {l : Launch} {e : Env} {s : State} {m : MethodId} {below : List Frame} {meth : Method} {c : Code} {H : Heap} {locs : List Loc} {cells slots : Nat} {Q : State → Prop} {ls : Array Slot} {D : va_G} {aT : Nat → ClassId} {A : Nat → Prop} {ad : Nat → Nat} {S : MSt} {x0 u0 u1 Bd b n i : Nat} {xs : Nat → Int32} {o : Nat → Int64} {q : Nat → UInt64} {Wx : va_W} (hfl : l.stackTraces = false) (hAe : A = fun q => s.heap.size ≤ q) (C : CxX p c code s #[Value.ref b] m D aT RL) (hml : c.maxLocals = 9) (hX : va_X b n xs s s.heap) (hbl : b < s.heap.size) (hn : n ≤ 2048) (hi : i + 4 ≤ n) (hZ : cZ D A s s.heap) (hW : CxB D (mdW aT ad S ++ (oD aT u1 q ++ (oL aT u0 o ++ Wx))) A s.heap H locs) (hO : ClO D aT x0 S Bd Wx) (hN : LnO S) (hBd : Bd + 20 < 1048000) (hc1 : cells + 110 ≤ 603072) (hc2 : slots + 13600 ≤ 7198826) (hl : lv_has ls 9 [(5, .int (nI i)), (4, .ref u1), (3, .ref u0), (2, .ref (ad 0)), (1, .ref x0), (0, .ref b)]) (kk : LK p l e s m b below meth c D aT A ad x0 u0 u1 i Bd cells slots Q) : W p l e room_1 s m #[Value.ref b] below meth c H locs cells slots Q (F0 m 1264 ls []) := by
  have hx := C.1
  have hb := C.2.1
  have hA : ∀ q, s.heap.size ≤ q → A q := fun q h => by rw [hAe]; exact h
  refine lv_aload_n hx hb dL_law_1264 rfl (lv_at hl 4 rfl) ?_
  refine st_isConsistent hfl C hml hl.1 hA hZ hW hO hN hBd (by omega) (by omega) dL_law_1265 (fun r W2 H locs hMd hW => ?_)
  refine lv_pop hx hb dL_law_1268 rfl ?_
  refine lv_aload_n hx hb dL_law_1269 rfl (lv_at hl 3 rfl) ?_
  refine lw_mdi (As := []) (rest := []) C hml hl.1 hW hA hMd gR_isConsistent hR_isConsistent rfl ⟨Nat.le_of_ble_eq_true rfl, Nat.le_of_ble_eq_true rfl⟩ ⟨by show cells + 0 ≤ 603072; omega, by show slots + 0 ≤ 7198826; omega⟩ rfl (Nat.le_of_ble_eq_true rfl) dL_law_1270 (fun rb S1 H locs hq hW => ?_)
  obtain ⟨Bd2, hb2, hO2, hN2⟩ := hq
  refine lv_pop hx hb dL_law_1273 rfl ?_
  refine lv_goto (tgt := 1462) hx hb dL_law_1274 (by decide) ?_
  refine W.widen (k := cells + 110) (n := slots + 13600) (by omega) (by omega) ?_
  exact kk S1 Bd2 o q W2 _ _ _ hb2 hO2 hN2 hW (lv_sub hl [0, 1, 2, 3, 4, 5] rfl)
set_option maxHeartbeats 4000000 in
set_option maxRecDepth 20000 in
theorem law_c39 {p : Program} {l : Launch} {e : Env} {s : State} {m : MethodId} {below : List Frame} {meth : Method} {c : Code} {H : Heap} {locs : List Loc} {cells slots : Nat} {Q : State → Prop} {ls : Array Slot} {D : va_G} {aT : Nat → ClassId} {A : Nat → Prop} {ad : Nat → Nat} {S : MSt} {x0 u0 u1 Bd b n i : Nat} {xs : Nat → Int32} {o : Nat → Int64} {q : Nat → UInt64} {Wx : va_W} (hfl : l.stackTraces = false) (hAe : A = fun q => s.heap.size ≤ q) (C : CxX p c code s #[Value.ref b] m D aT RL) (hml : c.maxLocals = 9) (hX : va_X b n xs s s.heap) (hbl : b < s.heap.size) (hn : n ≤ 2048) (hi : i + 4 ≤ n) (hZ : cZ D A s s.heap) (hW : CxB D (mdW aT ad S ++ (oD aT u1 q ++ (oL aT u0 o ++ Wx))) A s.heap H locs) (hO : ClO D aT x0 S Bd Wx) (hN : LnO S) (hBd : Bd + 20 < 1048000) (hc1 : cells + 110 ≤ 603072) (hc2 : slots + 13600 ≤ 7198826) (hl : lv_has ls 9 [(5, .int (nI i)), (4, .ref u1), (3, .ref u0), (2, .ref (ad 0)), (1, .ref x0), (0, .ref b)]) (kk : LK p l e s m b below meth c D aT A ad x0 u0 u1 i Bd cells slots Q) : W p l e room_1 s m #[Value.ref b] below meth c H locs cells slots Q (F0 m 1277 ls []) := by
  have hx := C.1
  have hb := C.2.1
  have hA : ∀ q, s.heap.size ≤ q → A q := fun q h => by rw [hAe]; exact h
  refine lv_aload_n hx hb dL_law_1277 rfl (lv_at hl 4 rfl) ?_
  refine lv_aload_n hx hb dL_law_1278 rfl (lv_at hl 5 rfl) ?_
  refine lv_iload hx hb dL_law_1279 (lv_at hl 0 rfl) ?_
  refine lv_iconst (v := nI 1) hx hb dL_law_1281 (by decide) ?_
  refine r_iaddN hx hb (a := i) (b := 1) dL_law_1282 ?_
  refine cx_sld C hW hX hbl (by rw [hAe]; exact Nat.not_le.mpr hbl) (k := i + 1) (by omega) (by omega) dL_law_1283 ?_
  refine lv_i2c (v := c16 (xs (i + 1))) hx hb dL_law_1284 rfl ?_
  refine lv_aload_n hx hb dL_law_1285 rfl (lv_at hl 2 rfl) ?_
  refine st_append hfl C hml hl.1 hA hZ hW hO hN hBd (by omega) (by omega) (c16_char _) dL_law_1286 (fun r o2 W2 H locs hMd hW => ?_)
  refine lv_istore (lv' := [(6, .int r), (5, .int (nI i)), (4, .ref u1), (3, .ref u0), (2, .ref (ad 0)), (1, .ref x0), (0, .ref b)]) hx hb dL_law_1289 hl (by decide) rfl (fun ls hl => ?_)
  refine lv_aload_n hx hb dL_law_1291 rfl (lv_at hl 4 rfl) ?_
  refine lv_aload_n hx hb dL_law_1292 rfl (lv_at hl 6 rfl) ?_
  refine lv_iload hx hb dL_law_1293 (lv_at hl 1 rfl) ?_
  refine lv_iconst (v := nI 1) hx hb dL_law_1295 (by decide) ?_
  refine r_iaddN hx hb (a := i) (b := 1) dL_law_1296 ?_
  refine cx_sld C hW hX hbl (by rw [hAe]; exact Nat.not_le.mpr hbl) (k := i + 1) (by omega) (by omega) dL_law_1297 ?_
  refine lv_i2c (v := c16 (xs (i + 1))) hx hb dL_law_1298 rfl ?_
  refine lw_mdi (As := [.int (c16 (xs (i + 1)))]) (rest := []) C hml hl.1 hW hA hMd gR_append hR_append rfl ⟨Nat.le_of_ble_eq_true rfl, Nat.le_of_ble_eq_true rfl⟩ ⟨by show cells + 1 ≤ 603072; omega, by show slots + 6 ≤ 7198826; omega⟩ rfl (Nat.le_of_ble_eq_true rfl) dL_law_1299 (fun rb S1 H locs hq hW => ?_)
  obtain ⟨Bd2, hb2, hO2, hN2⟩ := hq
  refine lv_istore (lv' := [(7, .int rb), (6, .int r), (5, .int (nI i)), (4, .ref u1), (3, .ref u0), (2, .ref (ad 0)), (1, .ref x0), (0, .ref b)]) hx hb dL_law_1302 hl (by decide) rfl (fun ls hl => ?_)
  refine lv_goto (tgt := 1462) hx hb dL_law_1304 (by decide) ?_
  refine W.widen (k := cells + 110) (n := slots + 13600) (by omega) (by omega) ?_
  exact kk S1 Bd2 o2 q W2 _ _ _ hb2 hO2 hN2 hW (lv_sub hl [2, 3, 4, 5, 6, 7] rfl)
set_option maxHeartbeats 4000000 in
set_option maxRecDepth 20000 in
theorem law_c40 {p : Program} {l : Launch} {e : Env} {s : State} {m : MethodId} {below : List Frame} {meth : Method} {c : Code} {H : Heap} {locs : List Loc} {cells slots : Nat} {Q : State → Prop} {ls : Array Slot} {D : va_G} {aT : Nat → ClassId} {A : Nat → Prop} {ad : Nat → Nat} {S : MSt} {x0 u0 u1 Bd b n i : Nat} {xs : Nat → Int32} {o : Nat → Int64} {q : Nat → UInt64} {Wx : va_W} (hfl : l.stackTraces = false) (hAe : A = fun q => s.heap.size ≤ q) (C : CxX p c code s #[Value.ref b] m D aT RL) (hml : c.maxLocals = 9) (hX : va_X b n xs s s.heap) (hbl : b < s.heap.size) (hn : n ≤ 2048) (hi : i + 4 ≤ n) (hZ : cZ D A s s.heap) (hW : CxB D (mdW aT ad S ++ (oD aT u1 q ++ (oL aT u0 o ++ Wx))) A s.heap H locs) (hO : ClO D aT x0 S Bd Wx) (hN : LnO S) (hBd : Bd + 20 < 1048000) (hc1 : cells + 110 ≤ 603072) (hc2 : slots + 13600 ≤ 7198826) (hl : lv_has ls 9 [(5, .int (nI i)), (4, .ref u1), (3, .ref u0), (2, .ref (ad 0)), (1, .ref x0), (0, .ref b)]) (kk : LK p l e s m b below meth c D aT A ad x0 u0 u1 i Bd cells slots Q) : W p l e room_1 s m #[Value.ref b] below meth c H locs cells slots Q (F0 m 1307 ls []) := by
  have hx := C.1
  have hb := C.2.1
  have hA : ∀ q, s.heap.size ≤ q → A q := fun q h => by rw [hAe]; exact h
  refine lv_aload_n hx hb dL_law_1307 rfl (lv_at hl 4 rfl) ?_
  refine lv_aload_n hx hb dL_law_1308 rfl (lv_at hl 2 rfl) ?_
  refine st_run hfl C hml hl.1 hA hZ hW hO hN hBd (by omega) (by omega) dL_law_1309 (fun r o2 W2 H locs hMd hW => ?_)
  refine lv_istore (lv' := [(6, .int r), (5, .int (nI i)), (4, .ref u1), (3, .ref u0), (2, .ref (ad 0)), (1, .ref x0), (0, .ref b)]) hx hb dL_law_1312 hl (by decide) rfl (fun ls hl => ?_)
  refine lv_aload_n hx hb dL_law_1314 rfl (lv_at hl 4 rfl) ?_
  refine lw_mdi (As := []) (rest := []) C hml hl.1 hW hA hMd gR_run hR_run rfl ⟨Nat.le_of_ble_eq_true rfl, Nat.le_of_ble_eq_true rfl⟩ ⟨by show cells + 43 ≤ 603072; omega, by show slots + 246 ≤ 7198826; omega⟩ rfl (Nat.le_of_ble_eq_true rfl) dL_law_1315 (fun rb S1 H locs hq hW => ?_)
  obtain ⟨Bd2, hb2, hO2, hN2⟩ := hq
  refine lv_istore (lv' := [(7, .int rb), (6, .int r), (5, .int (nI i)), (4, .ref u1), (3, .ref u0), (2, .ref (ad 0)), (1, .ref x0), (0, .ref b)]) hx hb dL_law_1318 hl (by decide) rfl (fun ls hl => ?_)
  refine lv_goto (tgt := 1462) hx hb dL_law_1320 (by decide) ?_
  refine W.widen (k := cells + 110) (n := slots + 13600) (by omega) (by omega) ?_
  exact kk S1 Bd2 o2 q W2 _ _ _ hb2 hO2 hN2 hW (lv_sub hl [2, 3, 4, 5, 6, 7] rfl)
set_option maxHeartbeats 4000000 in
set_option maxRecDepth 20000 in
theorem law_c41 {p : Program} {l : Launch} {e : Env} {s : State} {m : MethodId} {below : List Frame} {meth : Method} {c : Code} {H : Heap} {locs : List Loc} {cells slots : Nat} {Q : State → Prop} {ls : Array Slot} {D : va_G} {aT : Nat → ClassId} {A : Nat → Prop} {ad : Nat → Nat} {S : MSt} {x0 u0 u1 Bd b n i : Nat} {xs : Nat → Int32} {o : Nat → Int64} {q : Nat → UInt64} {Wx : va_W} (hfl : l.stackTraces = false) (hAe : A = fun q => s.heap.size ≤ q) (C : CxX p c code s #[Value.ref b] m D aT RL) (hml : c.maxLocals = 9) (hX : va_X b n xs s s.heap) (hbl : b < s.heap.size) (hn : n ≤ 2048) (hi : i + 4 ≤ n) (hZ : cZ D A s s.heap) (hW : CxB D (mdW aT ad S ++ (oD aT u1 q ++ (oL aT u0 o ++ Wx))) A s.heap H locs) (hO : ClO D aT x0 S Bd Wx) (hN : LnO S) (hBd : Bd + 20 < 1048000) (hc1 : cells + 110 ≤ 603072) (hc2 : slots + 13600 ≤ 7198826) (hl : lv_has ls 9 [(5, .int (nI i)), (4, .ref u1), (3, .ref u0), (2, .ref (ad 0)), (1, .ref x0), (0, .ref b)]) (kk : LK p l e s m b below meth c D aT A ad x0 u0 u1 i Bd cells slots Q) : W p l e room_1 s m #[Value.ref b] below meth c H locs cells slots Q (F0 m 1323 ls []) := by
  have hx := C.1
  have hb := C.2.1
  have hA : ∀ q, s.heap.size ≤ q → A q := fun q h => by rw [hAe]; exact h
  refine lv_aload_n hx hb dL_law_1323 rfl (lv_at hl 4 rfl) ?_
  refine lv_aload_n hx hb dL_law_1324 rfl (lv_at hl 2 rfl) ?_
  refine st_errorPosition hfl C hml hl.1 hA hZ hW hO hN hBd (by omega) (by omega) dL_law_1325 (fun r o2 W2 H locs hMd hW => ?_)
  refine lv_istore (lv' := [(6, .int r), (5, .int (nI i)), (4, .ref u1), (3, .ref u0), (2, .ref (ad 0)), (1, .ref x0), (0, .ref b)]) hx hb dL_law_1328 hl (by decide) rfl (fun ls hl => ?_)
  refine lv_aload_n hx hb dL_law_1330 rfl (lv_at hl 4 rfl) ?_
  refine lw_mdi (As := []) (rest := []) C hml hl.1 hW hA hMd gR_errorPosition hR_errorPosition rfl ⟨Nat.le_of_ble_eq_true rfl, Nat.le_of_ble_eq_true rfl⟩ ⟨by show cells + 1 ≤ 603072; omega, by show slots + 6 ≤ 7198826; omega⟩ rfl (Nat.le_of_ble_eq_true rfl) dL_law_1331 (fun rb S1 H locs hq hW => ?_)
  obtain ⟨Bd2, hb2, hO2, hN2⟩ := hq
  refine lv_istore (lv' := [(7, .int rb), (6, .int r), (5, .int (nI i)), (4, .ref u1), (3, .ref u0), (2, .ref (ad 0)), (1, .ref x0), (0, .ref b)]) hx hb dL_law_1334 hl (by decide) rfl (fun ls hl => ?_)
  refine lv_goto (tgt := 1462) hx hb dL_law_1336 (by decide) ?_
  refine W.widen (k := cells + 110) (n := slots + 13600) (by omega) (by omega) ?_
  exact kk S1 Bd2 o2 q W2 _ _ _ hb2 hO2 hN2 hW (lv_sub hl [2, 3, 4, 5, 6, 7] rfl)
set_option maxHeartbeats 4000000 in
set_option maxRecDepth 20000 in
theorem law_c42 {p : Program} {l : Launch} {e : Env} {s : State} {m : MethodId} {below : List Frame} {meth : Method} {c : Code} {H : Heap} {locs : List Loc} {cells slots : Nat} {Q : State → Prop} {ls : Array Slot} {D : va_G} {aT : Nat → ClassId} {A : Nat → Prop} {ad : Nat → Nat} {S : MSt} {x0 u0 u1 Bd b n i : Nat} {xs : Nat → Int32} {o : Nat → Int64} {q : Nat → UInt64} {Wx : va_W} (hfl : l.stackTraces = false) (hAe : A = fun q => s.heap.size ≤ q) (C : CxX p c code s #[Value.ref b] m D aT RL) (hml : c.maxLocals = 9) (hX : va_X b n xs s s.heap) (hbl : b < s.heap.size) (hn : n ≤ 2048) (hi : i + 4 ≤ n) (hZ : cZ D A s s.heap) (hW : CxB D (mdW aT ad S ++ (oD aT u1 q ++ (oL aT u0 o ++ Wx))) A s.heap H locs) (hO : ClO D aT x0 S Bd Wx) (hN : LnO S) (hBd : Bd + 20 < 1048000) (hc1 : cells + 110 ≤ 603072) (hc2 : slots + 13600 ≤ 7198826) (hl : lv_has ls 9 [(5, .int (nI i)), (4, .ref u1), (3, .ref u0), (2, .ref (ad 0)), (1, .ref x0), (0, .ref b)]) (kk : LK p l e s m b below meth c D aT A ad x0 u0 u1 i Bd cells slots Q) : W p l e room_1 s m #[Value.ref b] below meth c H locs cells slots Q (F0 m 1339 ls []) := by
  have hx := C.1
  have hb := C.2.1
  have hA : ∀ q, s.heap.size ≤ q → A q := fun q h => by rw [hAe]; exact h
  refine lv_aload_n hx hb dL_law_1339 rfl (lv_at hl 4 rfl) ?_
  refine lv_aload_n hx hb dL_law_1340 rfl (lv_at hl 2 rfl) ?_
  refine st_failedCommand hfl C hml hl.1 hA hZ hW hO hN hBd (by omega) (by omega) dL_law_1341 (fun r o2 W2 H locs hMd hW => ?_)
  refine lv_istore (lv' := [(6, .int r), (5, .int (nI i)), (4, .ref u1), (3, .ref u0), (2, .ref (ad 0)), (1, .ref x0), (0, .ref b)]) hx hb dL_law_1344 hl (by decide) rfl (fun ls hl => ?_)
  refine lv_aload_n hx hb dL_law_1346 rfl (lv_at hl 4 rfl) ?_
  refine lw_mdi (As := []) (rest := []) C hml hl.1 hW hA hMd gR_failedCommand hR_failedCommand rfl ⟨Nat.le_of_ble_eq_true rfl, Nat.le_of_ble_eq_true rfl⟩ ⟨by show cells + 1 ≤ 603072; omega, by show slots + 6 ≤ 7198826; omega⟩ rfl (Nat.le_of_ble_eq_true rfl) dL_law_1347 (fun rb S1 H locs hq hW => ?_)
  obtain ⟨Bd2, hb2, hO2, hN2⟩ := hq
  refine lv_istore (lv' := [(7, .int rb), (6, .int r), (5, .int (nI i)), (4, .ref u1), (3, .ref u0), (2, .ref (ad 0)), (1, .ref x0), (0, .ref b)]) hx hb dL_law_1350 hl (by decide) rfl (fun ls hl => ?_)
  refine lv_goto (tgt := 1462) hx hb dL_law_1352 (by decide) ?_
  refine W.widen (k := cells + 110) (n := slots + 13600) (by omega) (by omega) ?_
  exact kk S1 Bd2 o2 q W2 _ _ _ hb2 hO2 hN2 hW (lv_sub hl [2, 3, 4, 5, 6, 7] rfl)
set_option maxHeartbeats 4000000 in
set_option maxRecDepth 20000 in
theorem law_c43 {p : Program} {l : Launch} {e : Env} {s : State} {m : MethodId} {below : List Frame} {meth : Method} {c : Code} {H : Heap} {locs : List Loc} {cells slots : Nat} {Q : State → Prop} {ls : Array Slot} {D : va_G} {aT : Nat → ClassId} {A : Nat → Prop} {ad : Nat → Nat} {S : MSt} {x0 u0 u1 Bd b n i : Nat} {xs : Nat → Int32} {o : Nat → Int64} {q : Nat → UInt64} {Wx : va_W} (hfl : l.stackTraces = false) (hAe : A = fun q => s.heap.size ≤ q) (C : CxX p c code s #[Value.ref b] m D aT RL) (hml : c.maxLocals = 9) (hX : va_X b n xs s s.heap) (hbl : b < s.heap.size) (hn : n ≤ 2048) (hi : i + 4 ≤ n) (hZ : cZ D A s s.heap) (hW : CxB D (mdW aT ad S ++ (oD aT u1 q ++ (oL aT u0 o ++ Wx))) A s.heap H locs) (hO : ClO D aT x0 S Bd Wx) (hN : LnO S) (hBd : Bd + 20 < 1048000) (hc1 : cells + 110 ≤ 603072) (hc2 : slots + 13600 ≤ 7198826) (hl : lv_has ls 9 [(5, .int (nI i)), (4, .ref u1), (3, .ref u0), (2, .ref (ad 0)), (1, .ref x0), (0, .ref b)]) (kk : LK p l e s m b below meth c D aT A ad x0 u0 u1 i Bd cells slots Q) : W p l e room_1 s m #[Value.ref b] below meth c H locs cells slots Q (F0 m 1355 ls []) := by
  have hx := C.1
  have hb := C.2.1
  have hA : ∀ q, s.heap.size ≤ q → A q := fun q h => by rw [hAe]; exact h
  refine lv_aload_n hx hb dL_law_1355 rfl (lv_at hl 4 rfl) ?_
  refine lv_aload_n hx hb dL_law_1356 rfl (lv_at hl 5 rfl) ?_
  refine lv_iload hx hb dL_law_1357 (lv_at hl 0 rfl) ?_
  refine lv_iconst (v := nI 1) hx hb dL_law_1359 (by decide) ?_
  refine r_iaddN hx hb (a := i) (b := 1) dL_law_1360 ?_
  refine cx_sld C hW hX hbl (by rw [hAe]; exact Nat.not_le.mpr hbl) (k := i + 1) (by omega) (by omega) dL_law_1361 ?_
  refine lv_aload_n hx hb dL_law_1362 rfl (lv_at hl 2 rfl) ?_
  refine st_writeBranch hfl C hml hl.1 hA hZ hW hO hN hBd (by omega) (by omega) dL_law_1363 (fun r o2 W2 H locs hMd hW => ?_)
  refine lv_istore (lv' := [(6, .int r), (5, .int (nI i)), (4, .ref u1), (3, .ref u0), (2, .ref (ad 0)), (1, .ref x0), (0, .ref b)]) hx hb dL_law_1366 hl (by decide) rfl (fun ls hl => ?_)
  refine lv_aload_n hx hb dL_law_1368 rfl (lv_at hl 4 rfl) ?_
  refine lv_aload_n hx hb dL_law_1369 rfl (lv_at hl 6 rfl) ?_
  refine lv_iload hx hb dL_law_1370 (lv_at hl 1 rfl) ?_
  refine lv_iconst (v := nI 1) hx hb dL_law_1372 (by decide) ?_
  refine r_iaddN hx hb (a := i) (b := 1) dL_law_1373 ?_
  refine cx_sld C hW hX hbl (by rw [hAe]; exact Nat.not_le.mpr hbl) (k := i + 1) (by omega) (by omega) dL_law_1374 ?_
  refine lw_mdi (As := [.int (xs (i + 1))]) (rest := []) C hml hl.1 hW hA hMd gR_writeBranch hR_writeBranch rfl ⟨Nat.le_of_ble_eq_true rfl, Nat.le_of_ble_eq_true rfl⟩ ⟨by show cells + 106 ≤ 603072; omega, by show slots + 13508 ≤ 7198826; omega⟩ rfl (Nat.le_of_ble_eq_true rfl) dL_law_1375 (fun rb S1 H locs hq hW => ?_)
  obtain ⟨Bd2, hb2, hO2, hN2⟩ := hq
  refine lv_istore (lv' := [(7, .int rb), (6, .int r), (5, .int (nI i)), (4, .ref u1), (3, .ref u0), (2, .ref (ad 0)), (1, .ref x0), (0, .ref b)]) hx hb dL_law_1378 hl (by decide) rfl (fun ls hl => ?_)
  refine lv_goto (tgt := 1462) hx hb dL_law_1380 (by decide) ?_
  refine W.widen (k := cells + 110) (n := slots + 13600) (by omega) (by omega) ?_
  exact kk S1 Bd2 o2 q W2 _ _ _ hb2 hO2 hN2 hW (lv_sub hl [2, 3, 4, 5, 6, 7] rfl)
set_option maxHeartbeats 4000000 in
set_option maxRecDepth 20000 in
theorem law_c44 {p : Program} {l : Launch} {e : Env} {s : State} {m : MethodId} {below : List Frame} {meth : Method} {c : Code} {H : Heap} {locs : List Loc} {cells slots : Nat} {Q : State → Prop} {ls : Array Slot} {D : va_G} {aT : Nat → ClassId} {A : Nat → Prop} {ad : Nat → Nat} {S : MSt} {x0 u0 u1 Bd b n i : Nat} {xs : Nat → Int32} {o : Nat → Int64} {q : Nat → UInt64} {Wx : va_W} (hfl : l.stackTraces = false) (hAe : A = fun q => s.heap.size ≤ q) (C : CxX p c code s #[Value.ref b] m D aT RL) (hml : c.maxLocals = 9) (hX : va_X b n xs s s.heap) (hbl : b < s.heap.size) (hn : n ≤ 2048) (hi : i + 4 ≤ n) (hZ : cZ D A s s.heap) (hW : CxB D (mdW aT ad S ++ (oD aT u1 q ++ (oL aT u0 o ++ Wx))) A s.heap H locs) (hO : ClO D aT x0 S Bd Wx) (hN : LnO S) (hBd : Bd + 20 < 1048000) (hc1 : cells + 110 ≤ 603072) (hc2 : slots + 13600 ≤ 7198826) (hl : lv_has ls 9 [(5, .int (nI i)), (4, .ref u1), (3, .ref u0), (2, .ref (ad 0)), (1, .ref x0), (0, .ref b)]) (kk : LK p l e s m b below meth c D aT A ad x0 u0 u1 i Bd cells slots Q) : W p l e room_1 s m #[Value.ref b] below meth c H locs cells slots Q (F0 m 1383 ls []) := by
  have hx := C.1
  have hb := C.2.1
  have hA : ∀ q, s.heap.size ≤ q → A q := fun q h => by rw [hAe]; exact h
  refine lv_aload_n hx hb dL_law_1383 rfl (lv_at hl 4 rfl) ?_
  refine lv_aload_n hx hb dL_law_1384 rfl (lv_at hl 5 rfl) ?_
  refine lv_iload hx hb dL_law_1385 (lv_at hl 0 rfl) ?_
  refine lv_iconst (v := nI 1) hx hb dL_law_1387 (by decide) ?_
  refine r_iaddN hx hb (a := i) (b := 1) dL_law_1388 ?_
  refine cx_sld C hW hX hbl (by rw [hAe]; exact Nat.not_le.mpr hbl) (k := i + 1) (by omega) (by omega) dL_law_1389 ?_
  refine lv_aload_n hx hb dL_law_1390 rfl (lv_at hl 2 rfl) ?_
  refine st_outputAt hfl C hml hl.1 hA hZ hW hO hN hBd (by omega) (by omega) dL_law_1391 (fun r o2 W2 H locs hMd hW => ?_)
  refine lv_istore (lv' := [(6, .int r), (5, .int (nI i)), (4, .ref u1), (3, .ref u0), (2, .ref (ad 0)), (1, .ref x0), (0, .ref b)]) hx hb dL_law_1394 hl (by decide) rfl (fun ls hl => ?_)
  refine lv_aload_n hx hb dL_law_1396 rfl (lv_at hl 4 rfl) ?_
  refine lv_aload_n hx hb dL_law_1397 rfl (lv_at hl 6 rfl) ?_
  refine lv_iload hx hb dL_law_1398 (lv_at hl 1 rfl) ?_
  refine lv_iconst (v := nI 1) hx hb dL_law_1400 (by decide) ?_
  refine r_iaddN hx hb (a := i) (b := 1) dL_law_1401 ?_
  refine cx_sld C hW hX hbl (by rw [hAe]; exact Nat.not_le.mpr hbl) (k := i + 1) (by omega) (by omega) dL_law_1402 ?_
  refine lw_mdi (As := [.int (xs (i + 1))]) (rest := []) C hml hl.1 hW hA hMd gR_outputAt hR_outputAt rfl ⟨Nat.le_of_ble_eq_true rfl, Nat.le_of_ble_eq_true rfl⟩ ⟨by show cells + 1 ≤ 603072; omega, by show slots + 6 ≤ 7198826; omega⟩ rfl (Nat.le_of_ble_eq_true rfl) dL_law_1403 (fun rb S1 H locs hq hW => ?_)
  obtain ⟨Bd2, hb2, hO2, hN2⟩ := hq
  refine lv_istore (lv' := [(7, .int rb), (6, .int r), (5, .int (nI i)), (4, .ref u1), (3, .ref u0), (2, .ref (ad 0)), (1, .ref x0), (0, .ref b)]) hx hb dL_law_1406 hl (by decide) rfl (fun ls hl => ?_)
  refine lv_goto (tgt := 1462) hx hb dL_law_1408 (by decide) ?_
  refine W.widen (k := cells + 110) (n := slots + 13600) (by omega) (by omega) ?_
  exact kk S1 Bd2 o2 q W2 _ _ _ hb2 hO2 hN2 hW (lv_sub hl [2, 3, 4, 5, 6, 7] rfl)
set_option maxHeartbeats 4000000 in
set_option maxRecDepth 20000 in
theorem law_c45 {p : Program} {l : Launch} {e : Env} {s : State} {m : MethodId} {below : List Frame} {meth : Method} {c : Code} {H : Heap} {locs : List Loc} {cells slots : Nat} {Q : State → Prop} {ls : Array Slot} {D : va_G} {aT : Nat → ClassId} {A : Nat → Prop} {ad : Nat → Nat} {S : MSt} {x0 u0 u1 Bd b n i : Nat} {xs : Nat → Int32} {o : Nat → Int64} {q : Nat → UInt64} {Wx : va_W} (hfl : l.stackTraces = false) (hAe : A = fun q => s.heap.size ≤ q) (C : CxX p c code s #[Value.ref b] m D aT RL) (hml : c.maxLocals = 9) (hX : va_X b n xs s s.heap) (hbl : b < s.heap.size) (hn : n ≤ 2048) (hi : i + 4 ≤ n) (hZ : cZ D A s s.heap) (hW : CxB D (mdW aT ad S ++ (oD aT u1 q ++ (oL aT u0 o ++ Wx))) A s.heap H locs) (hO : ClO D aT x0 S Bd Wx) (hN : LnO S) (hBd : Bd + 20 < 1048000) (hc1 : cells + 110 ≤ 603072) (hc2 : slots + 13600 ≤ 7198826) (hl : lv_has ls 9 [(5, .int (nI i)), (4, .ref u1), (3, .ref u0), (2, .ref (ad 0)), (1, .ref x0), (0, .ref b)]) (kk : LK p l e s m b below meth c D aT A ad x0 u0 u1 i Bd cells slots Q) : W p l e room_1 s m #[Value.ref b] below meth c H locs cells slots Q (F0 m 1411 ls []) := by
  have hx := C.1
  have hb := C.2.1
  have hA : ∀ q, s.heap.size ≤ q → A q := fun q h => by rw [hAe]; exact h
  refine lv_aload_n hx hb dL_law_1411 rfl (lv_at hl 4 rfl) ?_
  refine lv_aload_n hx hb dL_law_1412 rfl (lv_at hl 2 rfl) ?_
  refine st_undo hfl C hml hl.1 hA hZ hW hO hN hBd (by omega) (by omega) dL_law_1413 (fun r o2 W2 H locs hMd hW => ?_)
  refine lv_istore (lv' := [(6, .int r), (5, .int (nI i)), (4, .ref u1), (3, .ref u0), (2, .ref (ad 0)), (1, .ref x0), (0, .ref b)]) hx hb dL_law_1416 hl (by decide) rfl (fun ls hl => ?_)
  refine lv_aload_n hx hb dL_law_1418 rfl (lv_at hl 4 rfl) ?_
  refine lw_mdi (As := []) (rest := []) C hml hl.1 hW hA hMd gR_undo hR_undo rfl ⟨Nat.le_of_ble_eq_true rfl, Nat.le_of_ble_eq_true rfl⟩ ⟨by show cells + 1 ≤ 603072; omega, by show slots + 6 ≤ 7198826; omega⟩ rfl (Nat.le_of_ble_eq_true rfl) dL_law_1419 (fun rb S1 H locs hq hW => ?_)
  obtain ⟨Bd2, hb2, hO2, hN2⟩ := hq
  refine lv_istore (lv' := [(7, .int rb), (6, .int r), (5, .int (nI i)), (4, .ref u1), (3, .ref u0), (2, .ref (ad 0)), (1, .ref x0), (0, .ref b)]) hx hb dL_law_1422 hl (by decide) rfl (fun ls hl => ?_)
  refine lv_goto (tgt := 1462) hx hb dL_law_1424 (by decide) ?_
  refine W.widen (k := cells + 110) (n := slots + 13600) (by omega) (by omega) ?_
  exact kk S1 Bd2 o2 q W2 _ _ _ hb2 hO2 hN2 hW (lv_sub hl [2, 3, 4, 5, 6, 7] rfl)
set_option maxHeartbeats 4000000 in
set_option maxRecDepth 20000 in
theorem law_c46 {p : Program} {l : Launch} {e : Env} {s : State} {m : MethodId} {below : List Frame} {meth : Method} {c : Code} {H : Heap} {locs : List Loc} {cells slots : Nat} {Q : State → Prop} {ls : Array Slot} {D : va_G} {aT : Nat → ClassId} {A : Nat → Prop} {ad : Nat → Nat} {S : MSt} {x0 u0 u1 Bd b n i : Nat} {xs : Nat → Int32} {o : Nat → Int64} {q : Nat → UInt64} {Wx : va_W} (hfl : l.stackTraces = false) (hAe : A = fun q => s.heap.size ≤ q) (C : CxX p c code s #[Value.ref b] m D aT RL) (hml : c.maxLocals = 9) (hX : va_X b n xs s s.heap) (hbl : b < s.heap.size) (hn : n ≤ 2048) (hi : i + 4 ≤ n) (hZ : cZ D A s s.heap) (hW : CxB D (mdW aT ad S ++ (oD aT u1 q ++ (oL aT u0 o ++ Wx))) A s.heap H locs) (hO : ClO D aT x0 S Bd Wx) (hN : LnO S) (hBd : Bd + 20 < 1048000) (hc1 : cells + 110 ≤ 603072) (hc2 : slots + 13600 ≤ 7198826) (hl : lv_has ls 9 [(5, .int (nI i)), (4, .ref u1), (3, .ref u0), (2, .ref (ad 0)), (1, .ref x0), (0, .ref b)]) (kk : LK p l e s m b below meth c D aT A ad x0 u0 u1 i Bd cells slots Q) : W p l e room_1 s m #[Value.ref b] below meth c H locs cells slots Q (F0 m 1427 ls []) := by
  have hx := C.1
  have hb := C.2.1
  have hA : ∀ q, s.heap.size ≤ q → A q := fun q h => by rw [hAe]; exact h
  refine lv_aload_n hx hb dL_law_1427 rfl (lv_at hl 4 rfl) ?_
  refine st_save hfl C hml hl.1 hA hZ hW hO hN hBd (by omega) (by omega) dL_law_1428 (fun W2 H locs hMd hW => ?_)
  refine lv_aload_n hx hb dL_law_1431 rfl (lv_at hl 3 rfl) ?_
  refine lw_mdv (As := []) (rest := []) C hml hl.1 hW hA hMd gR_save hR_save rfl ⟨Nat.le_of_ble_eq_true rfl, Nat.le_of_ble_eq_true rfl⟩ ⟨by show cells + 0 ≤ 603072; omega, by show slots + 0 ≤ 7198826; omega⟩ rfl (Nat.le_of_ble_eq_true rfl) dL_law_1432 (fun S1 H locs hq hW => ?_)
  obtain ⟨Bd2, hb2, hO2, hN2⟩ := hq
  refine lv_goto (tgt := 1462) hx hb dL_law_1435 (by decide) ?_
  refine W.widen (k := cells + 110) (n := slots + 13600) (by omega) (by omega) ?_
  exact kk S1 Bd2 o q W2 _ _ _ hb2 hO2 hN2 hW (lv_sub hl [0, 1, 2, 3, 4, 5] rfl)
set_option maxHeartbeats 4000000 in
set_option maxRecDepth 20000 in
theorem law_c47 {p : Program} {l : Launch} {e : Env} {s : State} {m : MethodId} {below : List Frame} {meth : Method} {c : Code} {H : Heap} {locs : List Loc} {cells slots : Nat} {Q : State → Prop} {ls : Array Slot} {D : va_G} {aT : Nat → ClassId} {A : Nat → Prop} {ad : Nat → Nat} {S : MSt} {x0 u0 u1 Bd b n i : Nat} {xs : Nat → Int32} {o : Nat → Int64} {q : Nat → UInt64} {Wx : va_W} (hfl : l.stackTraces = false) (hAe : A = fun q => s.heap.size ≤ q) (C : CxX p c code s #[Value.ref b] m D aT RL) (hml : c.maxLocals = 9) (hX : va_X b n xs s s.heap) (hbl : b < s.heap.size) (hn : n ≤ 2048) (hi : i + 4 ≤ n) (hZ : cZ D A s s.heap) (hW : CxB D (mdW aT ad S ++ (oD aT u1 q ++ (oL aT u0 o ++ Wx))) A s.heap H locs) (hO : ClO D aT x0 S Bd Wx) (hN : LnO S) (hBd : Bd + 20 < 1048000) (hc1 : cells + 110 ≤ 603072) (hc2 : slots + 13600 ≤ 7198826) (hl : lv_has ls 9 [(5, .int (nI i)), (4, .ref u1), (3, .ref u0), (2, .ref (ad 0)), (1, .ref x0), (0, .ref b)]) (kk : LK p l e s m b below meth c D aT A ad x0 u0 u1 i Bd cells slots Q) : W p l e room_1 s m #[Value.ref b] below meth c H locs cells slots Q (F0 m 1438 ls []) := by
  have hx := C.1
  have hb := C.2.1
  have hA : ∀ q, s.heap.size ≤ q → A q := fun q h => by rw [hAe]; exact h
  refine lv_aload_n hx hb dL_law_1438 rfl (lv_at hl 4 rfl) ?_
  refine st_restore hfl C hml hl.1 hA hZ hW hO hN hBd (by omega) (by omega) dL_law_1439 (fun r W2 H locs hMd hW => ?_)
  refine lv_istore (lv' := [(6, .int r), (5, .int (nI i)), (4, .ref u1), (3, .ref u0), (2, .ref (ad 0)), (1, .ref x0), (0, .ref b)]) hx hb dL_law_1442 hl (by decide) rfl (fun ls hl => ?_)
  refine lv_aload_n hx hb dL_law_1444 rfl (lv_at hl 4 rfl) ?_
  refine lw_mdv (As := []) (rest := []) C hml hl.1 hW hA hMd gR_restore hR_restore rfl ⟨Nat.le_of_ble_eq_true rfl, Nat.le_of_ble_eq_true rfl⟩ ⟨by show cells + 1 ≤ 603072; omega, by show slots + 6 ≤ 7198826; omega⟩ rfl (Nat.le_of_ble_eq_true rfl) dL_law_1445 (fun S1 H locs hq hW => ?_)
  obtain ⟨Bd2, hb2, hO2, hN2, r8⟩ := hq
  refine lv_aload_n hx hb dL_law_1448 rfl (lv_at hl 4 rfl) ?_
  refine lw_mdi (As := []) (rest := []) C hml hl.1 hW hA (m_thrown l D aT ad S1) gR_thrown hR_thrown rfl ⟨Nat.le_of_ble_eq_true rfl, Nat.le_of_ble_eq_true rfl⟩ ⟨by show cells + 1 ≤ 603072; omega, by show slots + 6 ≤ 7198826; omega⟩ rfl (Nat.le_of_ble_eq_true rfl) dL_law_1449 (fun r7 S7 H locs hq7 hW => ?_)
  obtain ⟨hr7, hs7⟩ := hq7
  rw [hs7] at hW
  refine r_eq (y := r) (hr7.trans r8) ?_
  refine lv_iload hx hb dL_law_1452 (lv_at hl 0 rfl) ?_
  refine lv_icmp_eq hx hb (x := r) (y := r) (tgt := 1459) dL_law_1454 (by decide) (fun _ => ?_) (fun h9 => absurd rfl h9)
  refine lv_goto (tgt := 1462) hx hb dL_law_1459 (by decide) ?_
  refine W.widen (k := cells + 110) (n := slots + 13600) (by omega) (by omega) ?_
  exact kk S1 Bd2 o q W2 _ _ _ hb2 hO2 hN2 hW (lv_sub hl [1, 2, 3, 4, 5, 6] rfl)
end
section
def kN : List String := ["HEDGE", "MAIN", "AMEND", "PRUNE", "REGROW", "VOTE", "SEASON"]
def kS : List Nat := [49, 55, 58, 61, 64, 67, 70]
def kI : List Nat := [250, 253, 257, 262, 268, 275, 283]
def sI : List Nat := [1186, 1201, 1213, 1228, 1241, 1253, 1263]
set_option maxRecDepth 100000 in
theorem fa_0 : ((flatC (Jvm.Cond.and given_1 narrow_1))[432]? = some (Cond.exactly (.string "HedgeCommittee$State" 73) "java/lang/String")) ∧ ((flatC (Jvm.Cond.and given_1 narrow_1))[472]? = some (Cond.exactly (.string "HedgeCommittee$State" 84) "java/lang/String")) ∧ ((flatC (Jvm.Cond.and given_1 narrow_1))[501]? = some (Cond.exactly (.string "HedgeCommittee$State" 162) "java/lang/String")) ∧ ((flatC (Jvm.Cond.and given_1 narrow_1))[532]? = some (Cond.exactly (.string "HedgeCommittee$State" 160) "java/lang/String")) ∧ ((flatC (Jvm.Cond.and given_1 narrow_1))[562]? = some (Cond.exactly (.string "HedgeCommittee$Motions" 39) "java/lang/String")) ∧ ((flatC (Jvm.Cond.and given_1 narrow_1))[580]? = some (Cond.exactly (.string "HedgeCommittee$State" 120) "java/lang/String")) ∧ ((flatC (Jvm.Cond.and given_1 narrow_1))[603]? = some (Cond.exactly (.string "HedgeCommittee$State" 137) "java/lang/String")) ∧ ((flatC (Jvm.Cond.and given_1 narrow_1))[616]? = some (Cond.exactly (.string "HedgeCommittee$State" 142) "java/lang/String")) ∧ ((flatC (Jvm.Cond.and given_1 narrow_1))[643]? = some (Cond.exactly (.string "HedgeCommittee" 320) "java/lang/String")) ∧ ((flatC (Jvm.Cond.and given_1 narrow_1))[660]? = some (Cond.exactly (.string "HedgeCommittee" 119) "java/lang/String")) ∧ ((flatC (Jvm.Cond.and given_1 narrow_1))[685]? = some (Cond.exactly (.string "HedgeCommittee" 322) "java/lang/String")) ∧ ((flatC (Jvm.Cond.and given_1 narrow_1))[712]? = some (Cond.exactly (.string "HedgeCommittee" 159) "java/lang/String")) ∧ ((flatC (Jvm.Cond.and given_1 narrow_1))[743]? = some (Cond.exactly (.string "HedgeCommittee" 324) "java/lang/String")) ∧ ((flatC (Jvm.Cond.and given_1 narrow_1))[778]? = some (Cond.exactly (.string "HedgeCommittee" 186) "java/lang/String")) ∧ ((flatC (Jvm.Cond.and given_1 narrow_1))[824]? = some (Cond.exactly (.string "HedgeCommittee" 209) "java/lang/String")) ∧ ((flatC (Jvm.Cond.and given_1 narrow_1))[842]? = some (Cond.exactly (.string "HedgeCommittee" 227) "java/lang/String")) ∧ ((flatC (Jvm.Cond.and given_1 narrow_1))[856]? = some (Cond.exactly (.string "HedgeCommittee" 236) "java/lang/String")) ∧ ((flatC (Jvm.Cond.and given_1 narrow_1))[876]? = some (Cond.exactly (.string "HedgeCommittee" 254) "java/lang/String")) ∧ ((flatC (Jvm.Cond.and given_1 narrow_1))[903]? = some (Cond.exactly (.string "HedgeCommittee" 267) "java/lang/String")) ∧ ((flatC (Jvm.Cond.and given_1 narrow_1))[932]? = some (Cond.exactly (.string "HedgeCommittee" 275) "java/lang/String")) := by decide +kernel
set_option maxRecDepth 100000 in
theorem fa_1 : ((flatC (Jvm.Cond.and given_1 narrow_1))[951]? = some (Cond.exactly (.string "HedgeCommittee" 286) "java/lang/String")) ∧ ((flatC (Jvm.Cond.and given_1 narrow_1))[983]? = some (Cond.exactly (.string "HedgeCommittee" 288) "java/lang/String")) ∧ ((flatC (Jvm.Cond.and given_1 narrow_1))[1118]? = some (Cond.exactly (.string "HedgeCommittee" 302) "java/lang/String")) ∧ ((flatC (Jvm.Cond.and given_1 narrow_1))[1139]? = some (Cond.exactly (.string "HedgeCommittee" 309) "java/lang/String")) ∧ ((flatC (Jvm.Cond.and given_1 narrow_1))[1164]? = some (Cond.exactly (.string "HedgeCommittee" 318) "java/lang/String")) ∧ ((flatC (Jvm.Cond.and given_1 narrow_1))[1186]? = some (Cond.exactly (.string "HedgeCommittee$Kind" 49) "java/lang/String")) ∧ ((flatC (Jvm.Cond.and given_1 narrow_1))[1201]? = some (Cond.exactly (.string "HedgeCommittee$Kind" 55) "java/lang/String")) ∧ ((flatC (Jvm.Cond.and given_1 narrow_1))[1213]? = some (Cond.exactly (.string "HedgeCommittee$Kind" 58) "java/lang/String")) ∧ ((flatC (Jvm.Cond.and given_1 narrow_1))[1228]? = some (Cond.exactly (.string "HedgeCommittee$Kind" 61) "java/lang/String")) ∧ ((flatC (Jvm.Cond.and given_1 narrow_1))[1241]? = some (Cond.exactly (.string "HedgeCommittee$Kind" 64) "java/lang/String")) ∧ ((flatC (Jvm.Cond.and given_1 narrow_1))[1253]? = some (Cond.exactly (.string "HedgeCommittee$Kind" 67) "java/lang/String")) ∧ ((flatC (Jvm.Cond.and given_1 narrow_1))[1263]? = some (Cond.exactly (.string "HedgeCommittee$Kind" 70) "java/lang/String")) ∧ ((flatC (Jvm.Cond.and given_1 narrow_1))[16]? = some (Cond.isRef (.static Bundle.tN "UNASSIGNED_STACK" Bundle.steD))) ∧ ((flatC (Jvm.Cond.and given_1 narrow_1))[17]? = some (Cond.isRef (.static Bundle.tN "SUPPRESSED_SENTINEL" Bundle.listD))) ∧ ((flatC (Jvm.Cond.and given_1 narrow_1))[4]? = some (Cond.isRef (.static "java/util/ArrayList" "DEFAULTCAPACITY_EMPTY_ELEMENTDATA" "[Ljava/lang/Object;"))) ∧ ((flatC (Jvm.Cond.and given_1 narrow_1))[8]? = some (Cond.eq (.static "java/lang/String" "COMPACT_STRINGS" "Z") (.int 1))) ∧ ((flatC (Jvm.Cond.and given_1 narrow_1))[30]? = some (Cond.isRef (.static "jdk/internal/util/Preconditions" "SIOOBE_FORMATTER" "Ljava/util/function/BiFunction;"))) ∧ ((flatC (Jvm.Cond.and given_1 narrow_1))[10]? = some (Cond.arrayOf (.static "HedgeCommittee" "LEAVES_GAINED" "[I") .int)) ∧ ((flatC (Jvm.Cond.and given_1 narrow_1))[11]? = some (Cond.eq (.length (.static "HedgeCommittee" "LEAVES_GAINED" "[I")) (.int (Int32.ofNat 4)))) ∧ (∀ j, j < 4 → (flatC (Jvm.Cond.and given_1 narrow_1))[12 + j]? = some (Cond.eq (.elem (.static "HedgeCommittee" "LEAVES_GAINED" "[I") (.int (Int32.ofNat j))) (.int (lgF j)))) := by decide +kernel
set_option maxRecDepth 100000 in
theorem fa_2 : ((flatC (Jvm.Cond.and given_1 narrow_1))[35]? = some (Cond.arrayOf (.static "HedgeCommittee$1" "$SwitchMap$HedgeCommittee$Kind" "[I") .int)) ∧ ((flatC (Jvm.Cond.and given_1 narrow_1))[36]? = some (Cond.eq (.length (.static "HedgeCommittee$1" "$SwitchMap$HedgeCommittee$Kind" "[I")) (.int (Int32.ofNat 7)))) ∧ (∀ j, j < 7 → (flatC (Jvm.Cond.and given_1 narrow_1))[37 + j]? = some (Cond.eq (.elem (.static "HedgeCommittee$1" "$SwitchMap$HedgeCommittee$Kind" "[I") (.int (Int32.ofNat j))) (.int (nI (j + 1))))) ∧ ((flatC (Jvm.Cond.and given_1 narrow_1))[45]? = some (Cond.arrayOf (.static "java/lang/Integer" "DigitOnes" "[B") .byte)) ∧ ((flatC (Jvm.Cond.and given_1 narrow_1))[46]? = some (Cond.eq (.length (.static "java/lang/Integer" "DigitOnes" "[B")) (.int (Int32.ofNat 100)))) ∧ (∀ j, j < 100 → (flatC (Jvm.Cond.and given_1 narrow_1))[47 + j]? = some (Cond.eq (.elem (.static "java/lang/Integer" "DigitOnes" "[B") (.int (Int32.ofNat j))) (.int (nI (48 + j % 10))))) ∧ ((flatC (Jvm.Cond.and given_1 narrow_1))[148]? = some (Cond.arrayOf (.static "java/lang/Integer" "DigitTens" "[B") .byte)) ∧ ((flatC (Jvm.Cond.and given_1 narrow_1))[149]? = some (Cond.eq (.length (.static "java/lang/Integer" "DigitTens" "[B")) (.int (Int32.ofNat 100)))) ∧ (∀ j, j < 100 → (flatC (Jvm.Cond.and given_1 narrow_1))[150 + j]? = some (Cond.eq (.elem (.static "java/lang/Integer" "DigitTens" "[B") (.int (Int32.ofNat j))) (.int (nI (48 + j / 10))))) ∧ ((flatC (Jvm.Cond.and given_1 narrow_1))[20]? = some (Cond.arrayOf (.static "HedgeCommittee$Program" "KINDS" "[LHedgeCommittee$Kind;") (.object "HedgeCommittee$Kind"))) ∧ ((flatC (Jvm.Cond.and given_1 narrow_1))[21]? = some (Cond.eq (.length (.static "HedgeCommittee$Program" "KINDS" "[LHedgeCommittee$Kind;")) (.int (Int32.ofNat 7)))) ∧ (∀ j, j < 7 → (flatC (Jvm.Cond.and given_1 narrow_1))[23 + j]? = some (Cond.eq (.elem (.static "HedgeCommittee$Program" "KINDS" "[LHedgeCommittee$Kind;") (.int (Int32.ofNat j))) (.static "HedgeCommittee$Kind" (kN.getD j "") "LHedgeCommittee$Kind;"))) ∧ ((flatC (Jvm.Cond.and given_1 narrow_1))[5]? = some (Cond.arrayOf (.static "java/util/ArrayList" "DEFAULTCAPACITY_EMPTY_ELEMENTDATA" "[Ljava/lang/Object;") (.object "java/lang/Object"))) ∧ ((flatC (Jvm.Cond.and given_1 narrow_1))[7]? = some (Cond.eq (.length (.static "java/util/ArrayList" "DEFAULTCAPACITY_EMPTY_ELEMENTDATA" "[Ljava/lang/Object;")) (.int (Int32.ofNat 0)))) ∧ (∀ j, j < 7 → (flatC (Jvm.Cond.and given_1 narrow_1))[kI.getD j 0]? = some (Cond.exactly (.static "HedgeCommittee$Kind" (kN.getD j "") "LHedgeCommittee$Kind;") "HedgeCommittee$Kind")) ∧ (∀ j, j < 7 → (flatC (Jvm.Cond.and given_1 narrow_1))[kI.getD j 0 + 1]? = some (Cond.eq (.field (.static "HedgeCommittee$Kind" (kN.getD j "") "LHedgeCommittee$Kind;") "java/lang/Enum" "ordinal" "I") (.int (nI j)))) ∧ (∀ j, j < 7 → (flatC (Jvm.Cond.and given_1 narrow_1))[kI.getD j 0 + 2]? = some (Cond.eq (.field (.static "HedgeCommittee$Kind" (kN.getD j "") "LHedgeCommittee$Kind;") "HedgeCommittee$Kind" "pattern" "Ljava/lang/String;") (.string "HedgeCommittee$Kind" (kS.getD j 0)))) ∧ (∀ j, j < 7 → (flatC (Jvm.Cond.and given_1 narrow_1))[sI.getD j 0]? = some (Cond.exactly (.string "HedgeCommittee$Kind" (kS.getD j 0)) "java/lang/String")) ∧ (∀ j, j < 7 → (flatC (Jvm.Cond.and given_1 narrow_1))[sI.getD j 0 + 1]? = some (Cond.eq (.field (.string "HedgeCommittee$Kind" (kS.getD j 0)) "java/lang/String" "coder" "B") (.int 0))) ∧ (∀ j, j < 7 → (flatC (Jvm.Cond.and given_1 narrow_1))[sI.getD j 0 + 2]? = some (Cond.arrayOf (.field (.string "HedgeCommittee$Kind" (kS.getD j 0)) "java/lang/String" "value" "[B") .byte)) := by decide +kernel
set_option maxRecDepth 100000 in
theorem fa_3 : (∀ j, j < 7 → (flatC (Jvm.Cond.and given_1 narrow_1))[sI.getD j 0 + 3]? = some (Cond.eq (.length (.field (.string "HedgeCommittee$Kind" (kS.getD j 0)) "java/lang/String" "value" "[B")) (.int (Int32.ofNat (kL.getD j 0))))) ∧ (∀ j, j < 7 → ∀ i, i < kL.getD j 0 → (flatC (Jvm.Cond.and given_1 narrow_1))[sI.getD j 0 + 4 + i]? = some (Cond.eq (.elem (.field (.string "HedgeCommittee$Kind" (kS.getD j 0)) "java/lang/String" "value" "[B") (.int (Int32.ofNat i))) (.int ((kB.getD j []).getD i 0)))) ∧ ((flatC (Jvm.Cond.and given_1 narrow_1))[342]? = some (Cond.not (.castable "java/lang/IllegalArgumentException" "java/util/NoSuchElementException"))) ∧ ((flatC (Jvm.Cond.and given_1 narrow_1))[343]? = some (Cond.not (.castable "java/lang/IllegalStateException" "java/util/NoSuchElementException"))) ∧ ((flatC (Jvm.Cond.and given_1 narrow_1))[303]? = some (Cond.not (.castable "java/util/NoSuchElementException" "java/lang/IllegalArgumentException"))) ∧ ((flatC (Jvm.Cond.and given_1 narrow_1))[302]? = some (Cond.not (.castable "java/lang/IllegalStateException" "java/lang/IllegalArgumentException"))) ∧ ((flatC (Jvm.Cond.and given_1 narrow_1))[323]? = some (Cond.not (.castable "java/util/NoSuchElementException" "java/lang/IllegalStateException"))) ∧ ((flatC (Jvm.Cond.and given_1 narrow_1))[322]? = some (Cond.not (.castable "java/lang/IllegalArgumentException" "java/lang/IllegalStateException"))) ∧ ((flatC (Jvm.Cond.and given_1 narrow_1))[364]? = some (Cond.not (.castable "java/util/NoSuchElementException" "java/lang/IndexOutOfBoundsException"))) ∧ ((flatC (Jvm.Cond.and given_1 narrow_1))[382]? = some (Cond.not (.castable "java/util/NoSuchElementException" "java/lang/UnsupportedOperationException"))) ∧ ((flatC (Jvm.Cond.and given_1 narrow_1))[346]? = some (Cond.not (.castable "java/lang/UnsupportedOperationException" "java/util/NoSuchElementException"))) ∧ ((flatC (Jvm.Cond.and given_1 narrow_1))[306]? = some (Cond.not (.castable "java/lang/UnsupportedOperationException" "java/lang/IllegalArgumentException"))) := by decide +kernel
/-! what stands at the entry -/
theorem sr_0 : Cond.stringRef "HedgeCommittee$State" 73 "leaves, thorns or taste out of range" ∈ tables_1 ∧ Cond.exactly (.string "HedgeCommittee$State" 73) "java/lang/String" ∈ flatC (Jvm.Cond.and given_1 narrow_1) := ⟨tb_3 (List.mem_of_getElem? (i := 59) rfl), List.mem_of_getElem? (i := 432) fa_0.1⟩
theorem sr_1 : Cond.stringRef "HedgeCommittee$State" 84 "no room for another hedge" ∈ tables_1 ∧ Cond.exactly (.string "HedgeCommittee$State" 84) "java/lang/String" ∈ flatC (Jvm.Cond.and given_1 narrow_1) := ⟨tb_3 (List.mem_of_getElem? (i := 98) rfl), List.mem_of_getElem? (i := 472) fa_0.2.1⟩
theorem sr_2 : Cond.stringRef "HedgeCommittee$State" 162 "tone or weight out of range" ∈ tables_1 ∧ Cond.exactly (.string "HedgeCommittee$State" 162) "java/lang/String" ∈ flatC (Jvm.Cond.and given_1 narrow_1) := ⟨tb_3 (List.mem_of_getElem? (i := 123) rfl), List.mem_of_getElem? (i := 501) fa_0.2.2.1⟩
theorem sr_3 : Cond.stringRef "HedgeCommittee$State" 160 "no room for another motion" ∈ tables_1 ∧ Cond.exactly (.string "HedgeCommittee$State" 160) "java/lang/String" ∈ flatC (Jvm.Cond.and given_1 narrow_1) := ⟨tb_3 (List.mem_of_getElem? (i := 132) rfl), List.mem_of_getElem? (i := 532) fa_0.2.2.2.1⟩
theorem sr_4 : Cond.stringRef "HedgeCommittee$Motions" 39 "no such motion" ∈ tables_1 ∧ Cond.exactly (.string "HedgeCommittee$Motions" 39) "java/lang/String" ∈ flatC (Jvm.Cond.and given_1 narrow_1) := ⟨tb_3 (List.mem_of_getElem? (i := 166) rfl), List.mem_of_getElem? (i := 562) fa_0.2.2.2.2.1⟩
theorem sr_5 : Cond.stringRef "HedgeCommittee$State" 120 "levels out of range" ∈ tables_1 ∧ Cond.exactly (.string "HedgeCommittee$State" 120) "java/lang/String" ∈ flatC (Jvm.Cond.and given_1 narrow_1) := ⟨tb_3 (List.mem_of_getElem? (i := 184) rfl), List.mem_of_getElem? (i := 580) fa_0.2.2.2.2.2.1⟩
theorem sr_6 : Cond.stringRef "HedgeCommittee$State" 137 "no hedges" ∈ tables_1 ∧ Cond.exactly (.string "HedgeCommittee$State" 137) "java/lang/String" ∈ flatC (Jvm.Cond.and given_1 narrow_1) := ⟨tb_3 (List.mem_of_getElem? (i := 223) rfl), List.mem_of_getElem? (i := 603) fa_0.2.2.2.2.2.2.1⟩
theorem sr_7 : Cond.stringRef "HedgeCommittee$State" 142 "the motion is not a tip" ∈ tables_1 ∧ Cond.exactly (.string "HedgeCommittee$State" 142) "java/lang/String" ∈ flatC (Jvm.Cond.and given_1 narrow_1) := ⟨tb_3 (List.mem_of_getElem? (i := 225) rfl), List.mem_of_getElem? (i := 616) fa_0.2.2.2.2.2.2.2.1⟩
theorem sr_8 : Cond.stringRef "HedgeCommittee" 320 "no such hedge" ∈ tables_1 ∧ Cond.exactly (.string "HedgeCommittee" 320) "java/lang/String" ∈ flatC (Jvm.Cond.and given_1 narrow_1) := ⟨tb_4 (List.mem_of_getElem? (i := 58) rfl), List.mem_of_getElem? (i := 643) fa_0.2.2.2.2.2.2.2.2.1⟩
theorem sr_9 : Cond.stringRef "HedgeCommittee" 119 "no hedge at this rank" ∈ tables_1 ∧ Cond.exactly (.string "HedgeCommittee" 119) "java/lang/String" ∈ flatC (Jvm.Cond.and given_1 narrow_1) := ⟨tb_4 (List.mem_of_getElem? (i := 77) rfl), List.mem_of_getElem? (i := 660) fa_0.2.2.2.2.2.2.2.2.2.1⟩
theorem sr_10 : Cond.stringRef "HedgeCommittee" 322 "no motion at this place" ∈ tables_1 ∧ Cond.exactly (.string "HedgeCommittee" 322) "java/lang/String" ∈ flatC (Jvm.Cond.and given_1 narrow_1) := ⟨tb_4 (List.mem_of_getElem? (i := 119) rfl), List.mem_of_getElem? (i := 685) fa_0.2.2.2.2.2.2.2.2.2.2.1⟩
theorem sr_11 : Cond.stringRef "HedgeCommittee" 159 "a main motion has no parent" ∈ tables_1 ∧ Cond.exactly (.string "HedgeCommittee" 159) "java/lang/String" ∈ flatC (Jvm.Cond.and given_1 narrow_1) := ⟨tb_4 (List.mem_of_getElem? (i := 141) rfl), List.mem_of_getElem? (i := 712) fa_0.2.2.2.2.2.2.2.2.2.2.2.1⟩
theorem sr_12 : Cond.stringRef "HedgeCommittee" 324 "no branch contains both motions" ∈ tables_1 ∧ Cond.exactly (.string "HedgeCommittee" 324) "java/lang/String" ∈ flatC (Jvm.Cond.and given_1 narrow_1) := ⟨tb_4 (List.mem_of_getElem? (i := 219) rfl), List.mem_of_getElem? (i := 743) fa_0.2.2.2.2.2.2.2.2.2.2.2.2.1⟩
theorem sr_13 : Cond.stringRef "HedgeCommittee" 186 "no path leads from one motion to the other" ∈ tables_1 ∧ Cond.exactly (.string "HedgeCommittee" 186) "java/lang/String" ∈ flatC (Jvm.Cond.and given_1 narrow_1) := ⟨tb_5 (List.mem_of_getElem? (i := 1) rfl), List.mem_of_getElem? (i := 778) fa_0.2.2.2.2.2.2.2.2.2.2.2.2.2.1⟩
theorem sr_14 : Cond.stringRef "HedgeCommittee" 209 "no such season" ∈ tables_1 ∧ Cond.exactly (.string "HedgeCommittee" 209) "java/lang/String" ∈ flatC (Jvm.Cond.and given_1 narrow_1) := ⟨tb_5 (List.mem_of_getElem? (i := 26) rfl), List.mem_of_getElem? (i := 824) fa_0.2.2.2.2.2.2.2.2.2.2.2.2.2.2.1⟩
theorem sr_15 : Cond.stringRef "HedgeCommittee" 227 "no hedges" ∈ tables_1 ∧ Cond.exactly (.string "HedgeCommittee" 227) "java/lang/String" ∈ flatC (Jvm.Cond.and given_1 narrow_1) := ⟨tb_5 (List.mem_of_getElem? (i := 50) rfl), List.mem_of_getElem? (i := 842) fa_0.2.2.2.2.2.2.2.2.2.2.2.2.2.2.2.1⟩
theorem sr_16 : Cond.stringRef "HedgeCommittee" 236 "no vote was held" ∈ tables_1 ∧ Cond.exactly (.string "HedgeCommittee" 236) "java/lang/String" ∈ flatC (Jvm.Cond.and given_1 narrow_1) := ⟨tb_5 (List.mem_of_getElem? (i := 60) rfl), List.mem_of_getElem? (i := 856) fa_0.2.2.2.2.2.2.2.2.2.2.2.2.2.2.2.2.1⟩
theorem sr_17 : Cond.stringRef "HedgeCommittee" 254 "the text buffer is full" ∈ tables_1 ∧ Cond.exactly (.string "HedgeCommittee" 254) "java/lang/String" ∈ flatC (Jvm.Cond.and given_1 narrow_1) := ⟨tb_5 (List.mem_of_getElem? (i := 73) rfl), List.mem_of_getElem? (i := 876) fa_0.2.2.2.2.2.2.2.2.2.2.2.2.2.2.2.2.2.1⟩
theorem sr_18 : Cond.stringRef "HedgeCommittee" 267 "the text is not a program" ∈ tables_1 ∧ Cond.exactly (.string "HedgeCommittee" 267) "java/lang/String" ∈ flatC (Jvm.Cond.and given_1 narrow_1) := ⟨tb_6 (List.mem_of_getElem? (i := 13) rfl), List.mem_of_getElem? (i := 903) fa_0.2.2.2.2.2.2.2.2.2.2.2.2.2.2.2.2.2.2.1⟩
theorem sr_19 : Cond.stringRef "HedgeCommittee" 275 "a command fails" ∈ tables_1 ∧ Cond.exactly (.string "HedgeCommittee" 275) "java/lang/String" ∈ flatC (Jvm.Cond.and given_1 narrow_1) := ⟨tb_6 (List.mem_of_getElem? (i := 51) rfl), List.mem_of_getElem? (i := 932) fa_0.2.2.2.2.2.2.2.2.2.2.2.2.2.2.2.2.2.2.2⟩
theorem sr_20 : Cond.stringRef "HedgeCommittee" 286 "no error position was stored" ∈ tables_1 ∧ Cond.exactly (.string "HedgeCommittee" 286) "java/lang/String" ∈ flatC (Jvm.Cond.and given_1 narrow_1) := ⟨tb_6 (List.mem_of_getElem? (i := 59) rfl), List.mem_of_getElem? (i := 951) fa_1.1⟩
theorem sr_21 : Cond.stringRef "HedgeCommittee" 288 "no failed command was stored" ∈ tables_1 ∧ Cond.exactly (.string "HedgeCommittee" 288) "java/lang/String" ∈ flatC (Jvm.Cond.and given_1 narrow_1) := ⟨tb_6 (List.mem_of_getElem? (i := 67) rfl), List.mem_of_getElem? (i := 983) fa_1.2.1⟩
theorem sr_22 : Cond.stringRef "HedgeCommittee" 302 "no such character" ∈ tables_1 ∧ Cond.exactly (.string "HedgeCommittee" 302) "java/lang/String" ∈ flatC (Jvm.Cond.and given_1 narrow_1) := ⟨tb_7 (List.mem_of_getElem? (i := 80) rfl), List.mem_of_getElem? (i := 1118) fa_1.2.2.1⟩
theorem sr_23 : Cond.stringRef "HedgeCommittee" 309 "no call can be undone" ∈ tables_1 ∧ Cond.exactly (.string "HedgeCommittee" 309) "java/lang/String" ∈ flatC (Jvm.Cond.and given_1 narrow_1) := ⟨tb_7 (List.mem_of_getElem? (i := 98) rfl), List.mem_of_getElem? (i := 1139) fa_1.2.2.2.1⟩
theorem sr_24 : Cond.stringRef "HedgeCommittee" 318 "no state was saved" ∈ tables_1 ∧ Cond.exactly (.string "HedgeCommittee" 318) "java/lang/String" ∈ flatC (Jvm.Cond.and given_1 narrow_1) := ⟨tb_7 (List.mem_of_getElem? (i := 110) rfl), List.mem_of_getElem? (i := 1164) fa_1.2.2.2.2.1⟩
theorem sr_25 : Cond.stringRef "HedgeCommittee$Kind" 49 "hedge # ? ?" ∈ tables_1 ∧ Cond.exactly (.string "HedgeCommittee$Kind" 49) "java/lang/String" ∈ flatC (Jvm.Cond.and given_1 narrow_1) := ⟨tb_9 (List.mem_of_getElem? (i := 171) rfl), List.mem_of_getElem? (i := 1186) fa_1.2.2.2.2.2.1⟩
theorem sr_26 : Cond.stringRef "HedgeCommittee$Kind" 55 "main ? #" ∈ tables_1 ∧ Cond.exactly (.string "HedgeCommittee$Kind" 55) "java/lang/String" ∈ flatC (Jvm.Cond.and given_1 narrow_1) := ⟨tb_9 (List.mem_of_getElem? (i := 172) rfl), List.mem_of_getElem? (i := 1201) fa_1.2.2.2.2.2.2.1⟩
theorem sr_27 : Cond.stringRef "HedgeCommittee$Kind" 58 "amend # ? #" ∈ tables_1 ∧ Cond.exactly (.string "HedgeCommittee$Kind" 58) "java/lang/String" ∈ flatC (Jvm.Cond.and given_1 narrow_1) := ⟨tb_9 (List.mem_of_getElem? (i := 173) rfl), List.mem_of_getElem? (i := 1213) fa_1.2.2.2.2.2.2.2.1⟩
theorem sr_28 : Cond.stringRef "HedgeCommittee$Kind" 61 "prune # ?" ∈ tables_1 ∧ Cond.exactly (.string "HedgeCommittee$Kind" 61) "java/lang/String" ∈ flatC (Jvm.Cond.and given_1 narrow_1) := ⟨tb_9 (List.mem_of_getElem? (i := 174) rfl), List.mem_of_getElem? (i := 1228) fa_1.2.2.2.2.2.2.2.2.1⟩
theorem sr_29 : Cond.stringRef "HedgeCommittee$Kind" 64 "regrow #" ∈ tables_1 ∧ Cond.exactly (.string "HedgeCommittee$Kind" 64) "java/lang/String" ∈ flatC (Jvm.Cond.and given_1 narrow_1) := ⟨tb_9 (List.mem_of_getElem? (i := 175) rfl), List.mem_of_getElem? (i := 1241) fa_1.2.2.2.2.2.2.2.2.2.1⟩
theorem sr_30 : Cond.stringRef "HedgeCommittee$Kind" 67 "vote #" ∈ tables_1 ∧ Cond.exactly (.string "HedgeCommittee$Kind" 67) "java/lang/String" ∈ flatC (Jvm.Cond.and given_1 narrow_1) := ⟨tb_9 (List.mem_of_getElem? (i := 176) rfl), List.mem_of_getElem? (i := 1253) fa_1.2.2.2.2.2.2.2.2.2.2.1⟩
theorem sr_31 : Cond.stringRef "HedgeCommittee$Kind" 70 "season" ∈ tables_1 ∧ Cond.exactly (.string "HedgeCommittee$Kind" 70) "java/lang/String" ∈ flatC (Jvm.Cond.and given_1 narrow_1) := ⟨tb_9 (List.mem_of_getElem? (i := 177) rfl), List.mem_of_getElem? (i := 1263) fa_1.2.2.2.2.2.2.2.2.2.2.2.1⟩
theorem strs_ok : ∀ q ∈ strs, Cond.stringRef q.1 q.2.1 q.2.2 ∈ tables_1 ∧ Cond.exactly (.string q.1 q.2.1) "java/lang/String" ∈ flatC (Jvm.Cond.and given_1 narrow_1) := List.forall_mem_cons.mpr ⟨sr_0, List.forall_mem_cons.mpr ⟨sr_1, List.forall_mem_cons.mpr ⟨sr_2, List.forall_mem_cons.mpr ⟨sr_3, List.forall_mem_cons.mpr ⟨sr_4, List.forall_mem_cons.mpr ⟨sr_5, List.forall_mem_cons.mpr ⟨sr_6, List.forall_mem_cons.mpr ⟨sr_7, List.forall_mem_cons.mpr ⟨sr_8, List.forall_mem_cons.mpr ⟨sr_9, List.forall_mem_cons.mpr ⟨sr_10, List.forall_mem_cons.mpr ⟨sr_11, List.forall_mem_cons.mpr ⟨sr_12, List.forall_mem_cons.mpr ⟨sr_13, List.forall_mem_cons.mpr ⟨sr_14, List.forall_mem_cons.mpr ⟨sr_15, List.forall_mem_cons.mpr ⟨sr_16, List.forall_mem_cons.mpr ⟨sr_17, List.forall_mem_cons.mpr ⟨sr_18, List.forall_mem_cons.mpr ⟨sr_19, List.forall_mem_cons.mpr ⟨sr_20, List.forall_mem_cons.mpr ⟨sr_21, List.forall_mem_cons.mpr ⟨sr_22, List.forall_mem_cons.mpr ⟨sr_23, List.forall_mem_cons.mpr ⟨sr_24, List.forall_mem_cons.mpr ⟨sr_25, List.forall_mem_cons.mpr ⟨sr_26, List.forall_mem_cons.mpr ⟨sr_27, List.forall_mem_cons.mpr ⟨sr_28, List.forall_mem_cons.mpr ⟨sr_29, List.forall_mem_cons.mpr ⟨sr_30, List.forall_mem_cons.mpr ⟨sr_31, fun _ h => absurd h List.not_mem_nil⟩⟩⟩⟩⟩⟩⟩⟩⟩⟩⟩⟩⟩⟩⟩⟩⟩⟩⟩⟩⟩⟩⟩⟩⟩⟩⟩⟩⟩⟩⟩⟩
theorem fl_U : Cond.isRef (.static Bundle.tN "UNASSIGNED_STACK" Bundle.steD) ∈ flatC (Jvm.Cond.and given_1 narrow_1) := List.mem_of_getElem? (i := 16) fa_1.2.2.2.2.2.2.2.2.2.2.2.2.1
theorem fl_N : Cond.isRef (.static Bundle.tN "SUPPRESSED_SENTINEL" Bundle.listD) ∈ flatC (Jvm.Cond.and given_1 narrow_1) := List.mem_of_getElem? (i := 17) fa_1.2.2.2.2.2.2.2.2.2.2.2.2.2.1
theorem fl_E : Cond.isRef (.static "java/util/ArrayList" "DEFAULTCAPACITY_EMPTY_ELEMENTDATA" "[Ljava/lang/Object;") ∈ flatC (Jvm.Cond.and given_1 narrow_1) := List.mem_of_getElem? (i := 4) fa_1.2.2.2.2.2.2.2.2.2.2.2.2.2.2.1
theorem fl_C : Cond.eq (.static "java/lang/String" "COMPACT_STRINGS" "Z") (.int 1) ∈ flatC (Jvm.Cond.and given_1 narrow_1) := List.mem_of_getElem? (i := 8) fa_1.2.2.2.2.2.2.2.2.2.2.2.2.2.2.2.1
theorem fl_S : Cond.isRef (.static "jdk/internal/util/Preconditions" "SIOOBE_FORMATTER" "Ljava/util/function/BiFunction;") ∈ flatC (Jvm.Cond.and given_1 narrow_1) := List.mem_of_getElem? (i := 30) fa_1.2.2.2.2.2.2.2.2.2.2.2.2.2.2.2.2.1
theorem fl_nw {w : Cond} {i : Nat} (h : (flatC (Jvm.Cond.and given_1 narrow_1))[i]? = some w) : w ∈ flatC (Jvm.Cond.and given_1 narrow_1) := List.mem_of_getElem? h
theorem fz_lga : (flatC (Jvm.Cond.and given_1 narrow_1))[10]? = some (Cond.arrayOf (.static "HedgeCommittee" "LEAVES_GAINED" "[I") .int) := fa_1.2.2.2.2.2.2.2.2.2.2.2.2.2.2.2.2.2.1
theorem fz_lgl : (flatC (Jvm.Cond.and given_1 narrow_1))[11]? = some (Cond.eq (.length (.static "HedgeCommittee" "LEAVES_GAINED" "[I")) (.int (Int32.ofNat 4))) := fa_1.2.2.2.2.2.2.2.2.2.2.2.2.2.2.2.2.2.2.1
theorem fz_lg : ∀ j, j < 4 → (flatC (Jvm.Cond.and given_1 narrow_1))[12 + j]? = some (Cond.eq (.elem (.static "HedgeCommittee" "LEAVES_GAINED" "[I") (.int (Int32.ofNat j))) (.int (lgF j))) := fa_1.2.2.2.2.2.2.2.2.2.2.2.2.2.2.2.2.2.2.2
theorem fz_swa : (flatC (Jvm.Cond.and given_1 narrow_1))[35]? = some (Cond.arrayOf (.static "HedgeCommittee$1" "$SwitchMap$HedgeCommittee$Kind" "[I") .int) := fa_2.1
theorem fz_swl : (flatC (Jvm.Cond.and given_1 narrow_1))[36]? = some (Cond.eq (.length (.static "HedgeCommittee$1" "$SwitchMap$HedgeCommittee$Kind" "[I")) (.int (Int32.ofNat 7))) := fa_2.2.1
theorem fz_sw : ∀ j, j < 7 → (flatC (Jvm.Cond.and given_1 narrow_1))[37 + j]? = some (Cond.eq (.elem (.static "HedgeCommittee$1" "$SwitchMap$HedgeCommittee$Kind" "[I") (.int (Int32.ofNat j))) (.int (nI (j + 1)))) := fa_2.2.2.1
theorem fz_doa : (flatC (Jvm.Cond.and given_1 narrow_1))[45]? = some (Cond.arrayOf (.static "java/lang/Integer" "DigitOnes" "[B") .byte) := fa_2.2.2.2.1
theorem fz_dol : (flatC (Jvm.Cond.and given_1 narrow_1))[46]? = some (Cond.eq (.length (.static "java/lang/Integer" "DigitOnes" "[B")) (.int (Int32.ofNat 100))) := fa_2.2.2.2.2.1
theorem fz_do : ∀ j, j < 100 → (flatC (Jvm.Cond.and given_1 narrow_1))[47 + j]? = some (Cond.eq (.elem (.static "java/lang/Integer" "DigitOnes" "[B") (.int (Int32.ofNat j))) (.int (nI (48 + j % 10)))) := fa_2.2.2.2.2.2.1
theorem fz_dta : (flatC (Jvm.Cond.and given_1 narrow_1))[148]? = some (Cond.arrayOf (.static "java/lang/Integer" "DigitTens" "[B") .byte) := fa_2.2.2.2.2.2.2.1
theorem fz_dtl : (flatC (Jvm.Cond.and given_1 narrow_1))[149]? = some (Cond.eq (.length (.static "java/lang/Integer" "DigitTens" "[B")) (.int (Int32.ofNat 100))) := fa_2.2.2.2.2.2.2.2.1
theorem fz_dt : ∀ j, j < 100 → (flatC (Jvm.Cond.and given_1 narrow_1))[150 + j]? = some (Cond.eq (.elem (.static "java/lang/Integer" "DigitTens" "[B") (.int (Int32.ofNat j))) (.int (nI (48 + j / 10)))) := fa_2.2.2.2.2.2.2.2.2.1
theorem fz_ksa : (flatC (Jvm.Cond.and given_1 narrow_1))[20]? = some (Cond.arrayOf (.static "HedgeCommittee$Program" "KINDS" "[LHedgeCommittee$Kind;") (.object "HedgeCommittee$Kind")) := fa_2.2.2.2.2.2.2.2.2.2.1
theorem fz_ksl : (flatC (Jvm.Cond.and given_1 narrow_1))[21]? = some (Cond.eq (.length (.static "HedgeCommittee$Program" "KINDS" "[LHedgeCommittee$Kind;")) (.int (Int32.ofNat 7))) := fa_2.2.2.2.2.2.2.2.2.2.2.1
theorem fz_ks : ∀ j, j < 7 → (flatC (Jvm.Cond.and given_1 narrow_1))[23 + j]? = some (Cond.eq (.elem (.static "HedgeCommittee$Program" "KINDS" "[LHedgeCommittee$Kind;") (.int (Int32.ofNat j))) (.static "HedgeCommittee$Kind" (kN.getD j "") "LHedgeCommittee$Kind;")) := fa_2.2.2.2.2.2.2.2.2.2.2.2.1
theorem fz_ema : (flatC (Jvm.Cond.and given_1 narrow_1))[5]? = some (Cond.arrayOf (.static "java/util/ArrayList" "DEFAULTCAPACITY_EMPTY_ELEMENTDATA" "[Ljava/lang/Object;") (.object "java/lang/Object")) := fa_2.2.2.2.2.2.2.2.2.2.2.2.2.1
theorem fz_eml : (flatC (Jvm.Cond.and given_1 narrow_1))[7]? = some (Cond.eq (.length (.static "java/util/ArrayList" "DEFAULTCAPACITY_EMPTY_ELEMENTDATA" "[Ljava/lang/Object;")) (.int (Int32.ofNat 0))) := fa_2.2.2.2.2.2.2.2.2.2.2.2.2.2.1
theorem fz_ke : ∀ j, j < 7 → (flatC (Jvm.Cond.and given_1 narrow_1))[kI.getD j 0]? = some (Cond.exactly (.static "HedgeCommittee$Kind" (kN.getD j "") "LHedgeCommittee$Kind;") "HedgeCommittee$Kind") := fa_2.2.2.2.2.2.2.2.2.2.2.2.2.2.2.1
theorem fz_ko : ∀ j, j < 7 → (flatC (Jvm.Cond.and given_1 narrow_1))[kI.getD j 0 + 1]? = some (Cond.eq (.field (.static "HedgeCommittee$Kind" (kN.getD j "") "LHedgeCommittee$Kind;") "java/lang/Enum" "ordinal" "I") (.int (nI j))) := fa_2.2.2.2.2.2.2.2.2.2.2.2.2.2.2.2.1
theorem fz_kp : ∀ j, j < 7 → (flatC (Jvm.Cond.and given_1 narrow_1))[kI.getD j 0 + 2]? = some (Cond.eq (.field (.static "HedgeCommittee$Kind" (kN.getD j "") "LHedgeCommittee$Kind;") "HedgeCommittee$Kind" "pattern" "Ljava/lang/String;") (.string "HedgeCommittee$Kind" (kS.getD j 0))) := fa_2.2.2.2.2.2.2.2.2.2.2.2.2.2.2.2.2.1
theorem fs_ex : ∀ j, j < 7 → (flatC (Jvm.Cond.and given_1 narrow_1))[sI.getD j 0]? = some (Cond.exactly (.string "HedgeCommittee$Kind" (kS.getD j 0)) "java/lang/String") := fa_2.2.2.2.2.2.2.2.2.2.2.2.2.2.2.2.2.2.1
theorem fs_co : ∀ j, j < 7 → (flatC (Jvm.Cond.and given_1 narrow_1))[sI.getD j 0 + 1]? = some (Cond.eq (.field (.string "HedgeCommittee$Kind" (kS.getD j 0)) "java/lang/String" "coder" "B") (.int 0)) := fa_2.2.2.2.2.2.2.2.2.2.2.2.2.2.2.2.2.2.2.1
theorem fs_ar : ∀ j, j < 7 → (flatC (Jvm.Cond.and given_1 narrow_1))[sI.getD j 0 + 2]? = some (Cond.arrayOf (.field (.string "HedgeCommittee$Kind" (kS.getD j 0)) "java/lang/String" "value" "[B") .byte) := fa_2.2.2.2.2.2.2.2.2.2.2.2.2.2.2.2.2.2.2.2
theorem fs_le : ∀ j, j < 7 → (flatC (Jvm.Cond.and given_1 narrow_1))[sI.getD j 0 + 3]? = some (Cond.eq (.length (.field (.string "HedgeCommittee$Kind" (kS.getD j 0)) "java/lang/String" "value" "[B")) (.int (Int32.ofNat (kL.getD j 0)))) := fa_3.1
theorem fs_el : ∀ j, j < 7 → ∀ i, i < kL.getD j 0 → (flatC (Jvm.Cond.and given_1 narrow_1))[sI.getD j 0 + 4 + i]? = some (Cond.eq (.elem (.field (.string "HedgeCommittee$Kind" (kS.getD j 0)) "java/lang/String" "value" "[B") (.int (Int32.ofNat i))) (.int ((kB.getD j []).getD i 0))) := fa_3.2.1
theorem fn_0 : (flatC (Jvm.Cond.and given_1 narrow_1))[342]? = some (Cond.not (.castable "java/lang/IllegalArgumentException" "java/util/NoSuchElementException")) := fa_3.2.2.1
theorem fn_1 : (flatC (Jvm.Cond.and given_1 narrow_1))[343]? = some (Cond.not (.castable "java/lang/IllegalStateException" "java/util/NoSuchElementException")) := fa_3.2.2.2.1
theorem fn_2 : (flatC (Jvm.Cond.and given_1 narrow_1))[303]? = some (Cond.not (.castable "java/util/NoSuchElementException" "java/lang/IllegalArgumentException")) := fa_3.2.2.2.2.1
theorem fn_3 : (flatC (Jvm.Cond.and given_1 narrow_1))[302]? = some (Cond.not (.castable "java/lang/IllegalStateException" "java/lang/IllegalArgumentException")) := fa_3.2.2.2.2.2.1
theorem fn_4 : (flatC (Jvm.Cond.and given_1 narrow_1))[323]? = some (Cond.not (.castable "java/util/NoSuchElementException" "java/lang/IllegalStateException")) := fa_3.2.2.2.2.2.2.1
theorem fn_5 : (flatC (Jvm.Cond.and given_1 narrow_1))[322]? = some (Cond.not (.castable "java/lang/IllegalArgumentException" "java/lang/IllegalStateException")) := fa_3.2.2.2.2.2.2.2.1
theorem fn_6 : (flatC (Jvm.Cond.and given_1 narrow_1))[364]? = some (Cond.not (.castable "java/util/NoSuchElementException" "java/lang/IndexOutOfBoundsException")) := fa_3.2.2.2.2.2.2.2.2.1
theorem fn_7 : (flatC (Jvm.Cond.and given_1 narrow_1))[382]? = some (Cond.not (.castable "java/util/NoSuchElementException" "java/lang/UnsupportedOperationException")) := fa_3.2.2.2.2.2.2.2.2.2.1
theorem fn_8 : (flatC (Jvm.Cond.and given_1 narrow_1))[346]? = some (Cond.not (.castable "java/lang/UnsupportedOperationException" "java/util/NoSuchElementException")) := fa_3.2.2.2.2.2.2.2.2.2.2.1
theorem fn_9 : (flatC (Jvm.Cond.and given_1 narrow_1))[306]? = some (Cond.not (.castable "java/lang/UnsupportedOperationException" "java/lang/IllegalArgumentException")) := fa_3.2.2.2.2.2.2.2.2.2.2.2
theorem ncs_len : ncs.length = 10 := rfl
theorem zt_T {ty : FieldType} {t N : Nat} {f g : Nat → Value} {A : Nat → Prop} {U : State} {H : Heap} (h : va_T ty t N f A U H) (e : ∀ j, j < N → f j = g j) : va_T ty t N g A U H := by
  obtain ⟨cell, a1, a2, a3, a4, a5, a6, a7⟩ := h
  exact ⟨cell, a1, a2, a3, a4, a5, fun j hj => by rw [← e j hj]; exact a6 j hj, a7⟩
theorem zt_E {N : Nat} {c n d : String} {v w : Nat → Value} {ad bd : Nat → Nat} {A : Nat → Prop} {U : State} {H : Heap} (h : va_Ef N c n d v ad A U H) (e : ∀ j, j < N → ad j = bd j) (e2 : ∀ j, j < N → v j = w j) : va_Ef N c n d w bd A U H := fun i hi => by
  rw [← e i hi, ← e2 i hi]
  exact h i hi
theorem zt_S {N : Nat} {len : List Nat} {byt : List (List Int32)} {a1 v1 a2 v2 : Nat → Nat} {A : Nat → Prop} {U : State} {H : Heap} (h : vk_S N len byt a1 v1 A U H) (e : ∀ j, j < N → a1 j = a2 j) (e2 : ∀ j, j < N → v1 j = v2 j) : vk_S N len byt a2 v2 A U H :=
  ⟨fun i hi => by rw [← e i hi, ← e2 i hi]; exact h.1 i hi, fun i j hi hj h9 => h.2 i j hi hj (by rw [e i hi, e j hj]; exact h9)⟩
theorem el_cong {args : Array Value} {s : State} {t1 t2 k : Term} {c n d : String} (h : t1.eval args s none [] s = t2.eval args s none [] s) : (Term.elem (.field t1 c n d) k).eval args s none [] s = (Term.elem (.field t2 c n d) k).eval args s none [] s := by
  simp only [Term.eval, h]
theorem kB_ne : ∀ i, i < 7 → ∀ j, j < 7 → i ≠ j → (kB.getD i []).getD 0 0 ≠ (kB.getD j []).getD 0 0 := by decide +kernel
theorem kL_pos : ∀ i, i < 7 → 0 < kL.getD i 0 ∧ kL.getD i 0 < 2 ^ 31 := by decide +kernel
def zF (t ad ak av : Nat → Nat) (k : Nat) : Nat := if k < 10 then t k else if k < 20 then ad (k - 10) else if k < 30 then ak (k - 20) else av (k - 30)
theorem zF_a {t ad ak av : Nat → Nat} {j : Nat} (h : j < 7) : zF t ad ak av (10 + j) = ad j := by
  unfold zF
  rw [if_neg (by omega), if_pos (by omega), Nat.add_sub_cancel_left]
theorem zF_k {t ad ak av : Nat → Nat} {j : Nat} (h : j < 7) : zF t ad ak av (20 + j) = ak j := by
  unfold zF
  rw [if_neg (by omega), if_neg (by omega), if_pos (by omega), Nat.add_sub_cancel_left]
theorem zF_v {t ad ak av : Nat → Nat} {j : Nat} (h : j < 7) : zF t ad ak av (30 + j) = av j := by
  unfold zF
  rw [if_neg (by omega), if_neg (by omega), if_neg (by omega), Nat.add_sub_cancel_left]
set_option maxRecDepth 20000 in
theorem law_S {s : State} {b : Nat} (hts : ∀ w ∈ lw_tbl, w.before #[Value.ref b] s = true) (hgv : (Jvm.Cond.and given_1 narrow_1).before #[Value.ref b] s = true) : ∃ Z : Nat → Nat, ∀ D : va_G, (∀ k, zs D k = Z k) → cS D (fun q => s.heap.size ≤ q) s s.heap := by
  have htb : ∀ w ∈ tables_1, w.before #[Value.ref b] s = true := fun w h => hts w (List.mem_append_right _ (List.mem_append_right _ h))
  have hfl := flat_of_before _ hgv
  have fl : ∀ {i : Nat} {w : Cond}, (flatC (Jvm.Cond.and given_1 narrow_1))[i]? = some w → w.before #[Value.ref b] s = true := fun h => hfl _ (fl_nw h)
  have hA : ∀ a : Nat, a < s.heap.size → ¬ (fun q : Nat => s.heap.size ≤ q) a := fun a h q => absurd q (Nat.not_le.mpr h)
  have k0 : ∀ i : Nat, ∃ t : Nat, i < 7 → (Term.static "HedgeCommittee$Kind" (kN.getD i "") "LHedgeCommittee$Kind;").eval #[Value.ref b] s none [] s = some (.ref t) := by
    intro i
    by_cases hi : i < 7
    · obtain ⟨a, c, cA, kA, q1, -⟩ := Cond.exactly_spec (args := #[Value.ref b]) (first := s) (o := none) (s := s) (idx := []) (fl (fz_ke i hi))
      exact ⟨a, fun _ => q1⟩
    · exact ⟨0, fun h => absurd h hi⟩
  obtain ⟨ad, had⟩ := Classical.axiomOfChoice k0
  have s0 : ∀ i : Nat, ∃ q : Nat × Nat, i < 7 → (Term.string "HedgeCommittee$Kind" (kS.getD i 0)).eval #[Value.ref b] s none [] s = some (.ref q.1) ∧ va_O "java/lang/String" q.1 (fun q => s.heap.size ≤ q) s s.heap ∧ va_OF "java/lang/String" "coder" "B" (.int 0) q.1 (fun q => s.heap.size ≤ q) s s.heap ∧ va_OF "java/lang/String" "value" "[B" (.ref q.2) q.1 (fun q => s.heap.size ≤ q) s s.heap ∧ va_T .byte q.2 (kL.getD i 0) (fun j => .int ((kB.getD i []).getD j 0)) (fun q => s.heap.size ≤ q) s s.heap := by
    intro i
    by_cases hi : i < 7
    · obtain ⟨a, c, cA, kA, q1, -⟩ := Cond.exactly_spec (args := #[Value.ref b]) (first := s) (o := none) (s := s) (idx := []) (fl (fs_ex i hi))
      obtain ⟨t, ht, hT⟩ := va_Tof (f := fun j => .int ((kB.getD i []).getD j 0)) (A := fun q => s.heap.size ≤ q) (kL_pos i hi).2 (fl (fs_ar i hi)) (va_eqt (fl (fs_le i hi))) (fun j hj => va_eqt (fl (fs_el i hi j hj))) hA
      exact ⟨(a, t), fun _ => ⟨q1, va_Oof (fl (fs_ex i hi)) q1 hA, vk_OFof q1 (va_eqt (fl (fs_co i hi))) hA, vk_OFof q1 ht hA, hT⟩⟩
    · exact ⟨(0, 0), fun h => absurd h hi⟩
  obtain ⟨sd, hsd⟩ := Classical.axiomOfChoice s0
  have hS : vk_S 7 kL kB (fun i => (sd i).1) (fun i => (sd i).2) (fun q => s.heap.size ≤ q) s s.heap := by
    refine ⟨fun i hi => (hsd i hi).2, fun i j hi hj e => ?_⟩
    by_cases hij : i = j
    · exact hij
    · exfalso
      have e1 : (Term.string "HedgeCommittee$Kind" (kS.getD i 0)).eval #[Value.ref b] s none [] s = (Term.string "HedgeCommittee$Kind" (kS.getD j 0)).eval #[Value.ref b] s none [] s := by
        rw [(hsd i hi).1, (hsd j hj).1]
        exact congrArg (fun q => some (Value.ref q)) e
      have e2 := va_eqt (fl (fs_el i hi 0 (kL_pos i hi).1))
      have e3 := va_eqt (fl (fs_el j hj 0 (kL_pos j hj).1))
      rw [el_cong e1] at e2
      have e4 := e2.symm.trans e3
      injection e4 with e5
      injection e5 with e6
      exact kB_ne i hi j hj hij e6
  obtain ⟨t_lg, e_lg, T_lg⟩ := va_Tof (args := #[Value.ref b]) (s := s) (tm := .static "HedgeCommittee" "LEAVES_GAINED" "[I") (ty := .int) (N := 4) (f := fun j => .int (lgF j)) (A := fun q => s.heap.size ≤ q) (by decide) (fl fz_lga) (va_eqt (fl fz_lgl)) (fun j hj => va_eqt (fl (fz_lg j hj))) hA
  obtain ⟨t_sw, e_sw, T_sw⟩ := va_Tof (args := #[Value.ref b]) (s := s) (tm := .static "HedgeCommittee$1" "$SwitchMap$HedgeCommittee$Kind" "[I") (ty := .int) (N := 7) (f := fun j => .int (nI (j + 1))) (A := fun q => s.heap.size ≤ q) (by decide) (fl fz_swa) (va_eqt (fl fz_swl)) (fun j hj => va_eqt (fl (fz_sw j hj))) hA
  obtain ⟨t_do, e_do, T_do⟩ := va_Tof (args := #[Value.ref b]) (s := s) (tm := .static "java/lang/Integer" "DigitOnes" "[B") (ty := .byte) (N := 100) (f := dgO) (A := fun q => s.heap.size ≤ q) (by decide) (fl fz_doa) (va_eqt (fl fz_dol)) (fun j hj => va_eqt (fl (fz_do j hj))) hA
  obtain ⟨t_dt, e_dt, T_dt⟩ := va_Tof (args := #[Value.ref b]) (s := s) (tm := .static "java/lang/Integer" "DigitTens" "[B") (ty := .byte) (N := 100) (f := dgT) (A := fun q => s.heap.size ≤ q) (by decide) (fl fz_dta) (va_eqt (fl fz_dtl)) (fun j hj => va_eqt (fl (fz_dt j hj))) hA
  obtain ⟨t_ks, e_ks, T_ks⟩ := va_Tof (args := #[Value.ref b]) (s := s) (tm := .static "HedgeCommittee$Program" "KINDS" "[LHedgeCommittee$Kind;") (ty := (.object "HedgeCommittee$Kind")) (N := 7) (f := fun j => .ref (ad j)) (A := fun q => s.heap.size ≤ q) (by decide) (fl fz_ksa) (va_eqt (fl fz_ksl)) (fun j hj => va_eqv (fl (fz_ks j hj)) (had j hj)) hA
  obtain ⟨t_em, e_em, T_em⟩ := va_Tof (args := #[Value.ref b]) (s := s) (tm := .static "java/util/ArrayList" "DEFAULTCAPACITY_EMPTY_ELEMENTDATA" "[Ljava/lang/Object;") (ty := (.object "java/lang/Object")) (N := 0) (f := fun _ => .null) (A := fun q => s.heap.size ≤ q) (by decide) (fl fz_ema) (va_eqt (fl fz_eml)) (fun j hj => absurd hj (Nat.not_lt_zero j)) hA
  refine ⟨zF (fun k => ([t_lg, t_ks, t_sw, t_em, t_do, t_dt] : List Nat).getD k 0) ad (fun i => (sd i).1) (fun i => (sd i).2), fun D hD => ?_⟩
  have z0 : zs D 0 = t_lg := hD 0
  have z1 : zs D 1 = t_ks := hD 1
  have z2 : zs D 2 = t_sw := hD 2
  have z3 : zs D 3 = t_em := hD 3
  have z4 : zs D 4 = t_do := hD 4
  have z5 : zs D 5 = t_dt := hD 5
  have za : ∀ j, j < 7 → ad j = zs D (10 + j) := fun j hj => ((hD (10 + j)).trans (zF_a hj)).symm
  have zk : ∀ j, j < 7 → (sd j).1 = zs D (20 + j) := fun j hj => ((hD (20 + j)).trans (zF_k hj)).symm
  have zv : ∀ j, j < 7 → (sd j).2 = zs D (30 + j) := fun j hj => ((hD (30 + j)).trans (zF_v hj)).symm
  refine ⟨fun q hq => ?_, ?_, ?_, ⟨?_, ?_, ?_, ?_, fun i hi => ?_, ?_, ?_, ?_⟩, ⟨?_, ?_, ?_, ?_, ?_, ?_, ?_, ?_⟩⟩
  · unfold ncs at hq
    simp only [List.mem_cons, List.not_mem_nil, or_false] at hq
    rcases hq with rfl | rfl | rfl | rfl | rfl | rfl | rfl | rfl | rfl | rfl
    · exact va_Nc.of (fl fn_0)
    · exact va_Nc.of (fl fn_1)
    · exact va_Nc.of (fl fn_2)
    · exact va_Nc.of (fl fn_3)
    · exact va_Nc.of (fl fn_4)
    · exact va_Nc.of (fl fn_5)
    · exact va_Nc.of (fl fn_6)
    · exact va_Nc.of (fl fn_7)
    · exact va_Nc.of (fl fn_8)
    · exact va_Nc.of (fl fn_9)
  · rw [z0]; exact va_Zof (htb _ (tb_2 (List.mem_of_getElem? (i := 102) rfl))) (htb _ (tb_1 (List.mem_of_getElem? (i := 1) rfl))) e_lg hA
  · rw [z0]; exact T_lg
  · rw [z1]; exact va_Zof (htb _ (tb_5 (List.mem_of_getElem? (i := 103) rfl))) (htb _ (tb_1 (List.mem_of_getElem? (i := 7) rfl))) e_ks hA
  · rw [z1]; exact zt_T T_ks (fun j hj => by rw [za j hj])
  · exact zt_E (va_Efof (E := "HedgeCommittee$Kind") (d0 := "LHedgeCommittee$Kind;") (nm := kN) (v := fun j => .int (nI j)) (tm := fun j => .int (nI j)) had (fun i hi => fl (fz_ko i hi)) (fun i hi => rfl) hA) za (fun _ _ => rfl)
  · exact zt_E (va_Efof (E := "HedgeCommittee$Kind") (d0 := "LHedgeCommittee$Kind;") (nm := kN) (v := fun j => .ref (sd j).1) (tm := fun j => .string "HedgeCommittee$Kind" (kS.getD j 0)) had (fun i hi => fl (fz_kp i hi)) (fun i hi => (hsd i hi).1) hA) za (fun j hj => by rw [zk j hj])
  · rw [← za i hi]; exact va_Oof (fl (fz_ke i hi)) (had i hi) hA
  · exact zt_S hS zk zv
  · rw [z2]; exact va_Zof (htb _ (tb_6 (List.mem_of_getElem? (i := 40) rfl))) (htb _ (tb_1 (List.mem_of_getElem? (i := 34) rfl))) e_sw hA
  · rw [z2]; exact T_sw
  · rw [z3]; exact va_Zof (htb _ (tb_1 (List.mem_of_getElem? (i := 216) rfl))) (htb _ (tb_1 (List.mem_of_getElem? (i := 10) rfl))) e_em hA
  · rw [z3]; exact T_em
  · exact va_Zqof (htb _ (tb_5 (List.mem_of_getElem? (i := 120) rfl))) (htb _ (tb_1 (List.mem_of_getElem? (i := 30) rfl))) (hfl _ fl_S) hA
  · rw [z4]; exact va_Zof (htb _ (tb_6 (List.mem_of_getElem? (i := 190) rfl))) (htb _ (tb_1 (List.mem_of_getElem? (i := 37) rfl))) e_do hA
  · rw [z4]; exact T_do
  · rw [z5]; exact va_Zof (htb _ (tb_6 (List.mem_of_getElem? (i := 192) rfl))) (htb _ (tb_1 (List.mem_of_getElem? (i := 37) rfl))) e_dt hA
  · rw [z5]; exact T_dt
  · exact va_AO.of (htb _ (tb_6 (List.mem_of_getElem? (i := 3) rfl)))
theorem law_Z {s : State} {b : Nat} {D : va_G} (hts : ∀ w ∈ lw_tbl, w.before #[Value.ref b] s = true) (hgv : (Jvm.Cond.and given_1 narrow_1).before #[Value.ref b] s = true) (hS : cS D (fun q => s.heap.size ≤ q) s s.heap) : cZ D (fun q => s.heap.size ≤ q) s s.heap := by
  have htb : ∀ w ∈ tables_1, w.before #[Value.ref b] s = true := fun w h => hts w (List.mem_append_right _ (List.mem_append_right _ h))
  have hfl := flat_of_before _ hgv
  have hA : ∀ a : Nat, a < s.heap.size → ¬ (fun q : Nat => s.heap.size ≤ q) a := fun a h q => absurd q (Nat.not_le.mpr h)
  refine ⟨fun w hw => va_Nw.of (nw_tab hw) (htb w (List.mem_filter.mp hw).1), fun q hq => ?_, vx_Zqof (htb _ (tb_3 (List.mem_of_getElem? (i := 40) rfl))) (htb _ (tb_1 (List.mem_of_getElem? (i := 17) rfl))) (hfl _ fl_U) hA, vx_Zqof (htb _ (tb_3 (List.mem_of_getElem? (i := 42) rfl))) (htb _ (tb_1 (List.mem_of_getElem? (i := 17) rfl))) (hfl _ fl_N) hA, va_AO.of (htb _ (tb_1 (List.mem_of_getElem? (i := 161) rfl))), va_Zqof (htb _ (tb_1 (List.mem_of_getElem? (i := 216) rfl))) (htb _ (tb_1 (List.mem_of_getElem? (i := 10) rfl))) (hfl _ fl_E) hA, ?_, hS⟩
  · obtain ⟨h1, h2⟩ := strs_ok q hq
    obtain ⟨a, c, cA, kA, q1, -⟩ := Cond.exactly_spec (args := #[Value.ref b]) (first := s) (o := none) (s := s) (idx := []) (hfl _ h2)
    exact ⟨a, vk_R.of (htb _ h1) q1⟩
  · obtain ⟨y, e1, e2⟩ := Cond.eq_one (args := #[Value.ref b]) (first := s) (o := none) (s := s) (idx := []) (hfl _ fl_C)
    have e3 : y = .int 1 := by
      have h3 : (Term.int 1).eval #[Value.ref b] s none [] s = some (.int 1) := rfl
      exact Option.some.inj (e2.symm.trans h3)
    rw [e3] at e1
    exact va_Zof (htb _ (tb_2 (List.mem_of_getElem? (i := 17) rfl))) (htb _ (tb_1 (List.mem_of_getElem? (i := 13) rfl))) e1 hA
set_option maxRecDepth 20000 in
theorem law_K {s : State} {b : Nat} (Z : Nat → Nat) (hg : ∀ w ∈ gw, w.before #[Value.ref b] s = true) (htb : ∀ w ∈ tables_1, w.before #[Value.ref b] s = true) : ∃ (D : va_G) (aT : Nat → ClassId), va_K D vwCl (tyG aT) s ∧ ∀ k, zs D k = Z k := by
  obtain ⟨c0, i0, hk0⟩ := u_known (C := RJ0) (T := TJ0) (N := 4) (n := 4) hg inJ0 (hg _ gw_818)
  obtain ⟨c1, i1, hk1⟩ := u_known (C := RJ4) (T := TJ4) (N := 4) (n := 4) hg inJ4 (hg _ gw_314)
  obtain ⟨c2, i2, hk2⟩ := u_known (C := RJx00060) (T := TJx00060) (N := 6) (n := 6) hg inJx00060 (hg _ gw_800)
  obtain ⟨c3, i3, hk3⟩ := u_known (C := RJx7c733) (T := TJx7c733) (N := 6) (n := 6) hg inJx7c733 (hg _ gw_1349)
  obtain ⟨c4, i4, hk4⟩ := u_known (C := RJx4a65c) (T := TJx4a65c) (N := 3) (n := 3) hg inJx4a65c (hg _ gw_270)
  obtain ⟨c5, i5, hk5⟩ := u_known (C := RX1) (T := TX1) (N := 4) (n := 4) hg inX1 (hg _ gw_1191)
  obtain ⟨c6, i6, hk6⟩ := u_known (C := RX2) (T := TX2) (N := 4) (n := 4) hg inX2 (hg _ gw_119)
  obtain ⟨c7, i7, hk7⟩ := u_known (C := RX3) (T := TX3) (N := 2) (n := 2) hg inX3 (hg _ gw_221)
  obtain ⟨c8, i8, hk8⟩ := u_known (C := RX5) (T := TX5) (N := 6) (n := 6) hg inX5 (hg _ gw_143)
  obtain ⟨c9, i9, hk9⟩ := u_known (C := RX6) (T := TX6) (N := 5) (n := 5) hg inX6 (hg _ gw_264)
  obtain ⟨c10, i10, hk10⟩ := u_known (C := RX7) (T := TX7) (N := 11) (n := 11) hg inX7 (hg _ gw_113)
  obtain ⟨c11, i11, hk11⟩ := u_known (C := RX8) (T := TX8) (N := 6) (n := 6) hg inX8 (hg _ gw_238)
  obtain ⟨c12, i12, hk12⟩ := u_known (C := RX9) (T := TX9) (N := 9) (n := 9) hg inX9 (hg _ gw_105)
  obtain ⟨c13, i13, hk13⟩ := u_known (C := RX10) (T := TX10) (N := 26) (n := 26) hg inX10 (hg _ gw_1618)
  obtain ⟨t0, k0, p0, a01, a02, a03⟩ := Cond.arrayClass_spec (args := #[Value.ref b]) (first := s) (o := none) (s := s) (idx := []) (hg _ gw_141)
  obtain ⟨t1, k1, p1, a11, a12, a13⟩ := Cond.arrayClass_spec (args := #[Value.ref b]) (first := s) (o := none) (s := s) (idx := []) (hg _ gw_295)
  obtain ⟨t2, k2, p2, a21, a22, a23⟩ := Cond.arrayClass_spec (args := #[Value.ref b]) (first := s) (o := none) (s := s) (idx := []) (hg _ gw_262)
  obtain ⟨t3, k3, p3, a31, a32, a33⟩ := Cond.arrayClass_spec (args := #[Value.ref b]) (first := s) (o := none) (s := s) (idx := []) (hg _ gw_2099)
  obtain ⟨t4, k4, p4, a41, a42, a43⟩ := Cond.arrayClass_spec (args := #[Value.ref b]) (first := s) (o := none) (s := s) (idx := []) (hg _ gw_345)
  obtain ⟨p5, t5, k5, a50, -, a52, a53, a51⟩ := Cond.arrayOver_spec (args := #[Value.ref b]) (first := s) (o := none) (s := s) (idx := []) (htb _ (tb_1 (List.mem_of_getElem? (i := 161) rfl)))
  obtain ⟨p6, t6, k6, a60, -, a62, a63, a61⟩ := Cond.arrayOver_spec (args := #[Value.ref b]) (first := s) (o := none) (s := s) (idx := []) (htb _ (tb_6 (List.mem_of_getElem? (i := 3) rfl)))
  refine ⟨(fun k => ([c0, c1, c2, c3, c4, c5, c6, c7, c8, c9, c10, c11, c12, c13] : List ClassId).getD k 0, fun k => if k = 99 then Z else ([i0, i1, i2, i3, i4, i5, i6, i7, i8, i9, i10, i11, i12, i13] : List (Nat → Nat)).getD k i0), fun k => ([t0, t1, t2, t3, t4, t5, t6] : List ClassId).getD k 0, ⟨fun k q hq => ?_, fun k q hq => ?_⟩, fun k => rfl⟩
  · match k, hq with
    | 0, hq => cases hq; exact hk0
    | 1, hq => cases hq; exact hk1
    | 2, hq => cases hq; exact hk2
    | 3, hq => cases hq; exact hk3
    | 4, hq => cases hq; exact hk4
    | 5, hq => cases hq; exact hk5
    | 6, hq => cases hq; exact hk6
    | 7, hq => cases hq; exact hk7
    | 8, hq => cases hq; exact hk8
    | 9, hq => cases hq; exact hk9
    | 10, hq => cases hq; exact hk10
    | 11, hq => cases hq; exact hk11
    | 12, hq => cases hq; exact hk12
    | 13, hq => cases hq; exact hk13
    | k + 14, hq => simp [vwCl] at hq
  · match k, hq with
    | 0, hq => cases hq; exact ⟨fun n z => ⟨fun k h => (by cases h), k0, a02, p0, a03⟩, a01⟩
    | 1, hq => cases hq; exact ⟨fun n z => ⟨fun k h => (by cases h), k1, a12, p1, a13⟩, a11⟩
    | 2, hq => cases hq; exact ⟨fun n z => ⟨fun k h => (by cases h), k2, a22, p2, a23⟩, a21⟩
    | 3, hq => cases hq; exact ⟨fun n z => ⟨fun k h => (by cases h), k3, a32, p3, a33⟩, a31⟩
    | 4, hq => cases hq; exact ⟨fun n z => ⟨fun k h => (by cases h), k4, a42, p4, a43⟩, a41⟩
    | 5, hq => cases hq; exact ⟨fun n z => ⟨fun k h => (by cases h), k5, a52, p5, a53⟩, k5, p5, a52, a53, a50, a51⟩
    | 6, hq => cases hq; exact ⟨fun n z => ⟨fun k h => (by cases h), k6, a62, p6, a63⟩, k6, p6, a62, a63, a60, a61⟩
    | k + 7, hq => simp [tyG] at hq
end
section
theorem and63 (x : Int32) : ∃ k, k < 64 ∧ x &&& nI 63 = nI k := by
  refine ⟨(x &&& nI 63).toBitVec.toNat, ?_, ?_⟩
  · have h : (x &&& nI 63).toBitVec = x.toBitVec &&& 63#32 := rfl
    rw [h, BitVec.toNat_and]
    exact Nat.lt_of_le_of_lt Nat.and_le_right (by decide)
  · apply Int32.toBitVec_inj.mp
    show _ = BitVec.ofNat 32 _
    rw [BitVec.ofNat_toNat, BitVec.setWidth_eq]
theorem hd_le {n i : Nat} (hn : n ≤ 2048) (hi : i ≤ n) (h : ¬ nI n - nI 4 < nI i) : i + 4 ≤ n := by
  by_cases h4 : 4 ≤ n
  · have e : nI n - nI 4 = nI (n - 4) := (Int32.ofNat_sub n 4 h4).symm
    rw [e] at h
    have h9 : ¬ n - 4 < i := fun h8 => h (nI_lt h8 (by omega))
    omega
  · exfalso
    have e : nI n - nI 4 < nI 0 := by
      rcases (show n = 0 ∨ n = 1 ∨ n = 2 ∨ n = 3 by omega) with rfl | rfl | rfl | rfl <;> decide
    rcases Nat.eq_zero_or_pos i with rfl | hp
    · exact h e
    · exact h (Int32.lt_trans e (nI_lt hp (by omega)))
theorem law_exit {p : Program} {l : Launch} {e : Env} {s : State} {m : MethodId} {below : List Frame} {meth : Method} {c : Code} {b : Nat} {D : va_G} {aT : Nat → ClassId} {A : Nat → Prop} {ls : Array Slot} {H : Heap} {locs : List Loc} {cells slots : Nat} (hAe : A = fun q => s.heap.size ≤ q) (C : CxX p c code s #[Value.ref b] m D aT RL) (hr : meth.sig.returnType = ret) (hlocks : meth.locks = false) (hS : va_S A s.heap H locs) (hc : cells ≤ 603072) (hs : slots ≤ 7198826) : W p l e room_1 s m #[Value.ref b] below meth c H locs cells slots (lw_Z below #[Value.ref b] s) (F0 m 1468 ls []) := by
  have hx := C.1
  have hb := C.2.1
  refine lv_iconst (v := nI 1) hx hb dL_law_1468 (by decide) ?_
  refine va_forget (fun q hq => by have h := hS.2.2 q hq; rw [hAe] at h; exact h) ?_
  refine W.widen (k := 603072) (n := 7198826) hc hs ?_
  exact lw_ret (Drawn.sameBut.refl s.drawn lw_cs) hx hb hr hlocks dL_law_1469
set_option maxHeartbeats 4000000 in
set_option maxRecDepth 20000 in
theorem law_sw {p : Program} {l : Launch} {e : Env} {s : State} {m : MethodId} {below : List Frame} {meth : Method} {c : Code} {H : Heap} {locs : List Loc} {cells slots : Nat} {Q : State → Prop} {ls : Array Slot} {D : va_G} {aT : Nat → ClassId} {A : Nat → Prop} {ad : Nat → Nat} {S : MSt} {x0 u0 u1 Bd b n i : Nat} {xs : Nat → Int32} {o : Nat → Int64} {q : Nat → UInt64} {Wx : va_W} (hfl : l.stackTraces = false) (hAe : A = fun q => s.heap.size ≤ q) (C : CxX p c code s #[Value.ref b] m D aT RL) (hml : c.maxLocals = 9) (hX : va_X b n xs s s.heap) (hbl : b < s.heap.size) (hn : n ≤ 2048) (hi : i + 4 ≤ n) (hZ : cZ D A s s.heap) (hW : CxB D (mdW aT ad S ++ (oD aT u1 q ++ (oL aT u0 o ++ Wx))) A s.heap H locs) (hO : ClO D aT x0 S Bd Wx) (hN : LnO S) (hBd : Bd + 20 < 1048000) (hc1 : cells + 110 ≤ 603072) (hc2 : slots + 13600 ≤ 7198826) (hl : lv_has ls 9 [(5, .int (nI i)), (4, .ref u1), (3, .ref u0), (2, .ref (ad 0)), (1, .ref x0), (0, .ref b)]) (kk : LK p l e s m b below meth c D aT A ad x0 u0 u1 i Bd cells slots Q) : W p l e room_1 s m #[Value.ref b] below meth c H locs cells slots Q (F0 m 37 ls []) := by
  have hx := C.1
  have hb := C.2.1
  have hbA : ¬ A b := by rw [hAe]; exact Nat.not_le.mpr hbl
  refine lv_aload_n hx hb dL_law_37 rfl (lv_at hl 5 rfl) ?_
  refine lv_iload hx hb dL_law_38 (lv_at hl 0 rfl) ?_
  refine cx_sld C hW hX hbl hbA (k := i) (by omega) (by omega) dL_law_40 ?_
  refine lv_bipush (v := nI 63) hx hb dL_law_41 (by decide) ?_
  refine lv_iand hx hb dL_law_43 ?_
  obtain ⟨k, hk, e9⟩ := and63 (xs i)
  refine r_eq e9 ?_
  clear e9
  rcases (show k = 0 ∨ k = 1 ∨ k = 2 ∨ k = 3 ∨ k = 4 ∨ k = 5 ∨ k = 6 ∨ k = 7 ∨ k = 8 ∨ k = 9 ∨ k = 10 ∨ k = 11 ∨ k = 12 ∨ k = 13 ∨ k = 14 ∨ k = 15 ∨ k = 16 ∨ k = 17 ∨ k = 18 ∨ k = 19 ∨ k = 20 ∨ k = 21 ∨ k = 22 ∨ k = 23 ∨ k = 24 ∨ k = 25 ∨ k = 26 ∨ k = 27 ∨ k = 28 ∨ k = 29 ∨ k = 30 ∨ k = 31 ∨ k = 32 ∨ k = 33 ∨ k = 34 ∨ k = 35 ∨ k = 36 ∨ k = 37 ∨ k = 38 ∨ k = 39 ∨ k = 40 ∨ k = 41 ∨ k = 42 ∨ k = 43 ∨ k = 44 ∨ k = 45 ∨ k = 46 ∨ k = 47 ∨ k = 48 ∨ k = 49 ∨ k = 50 ∨ k = 51 ∨ k = 52 ∨ k = 53 ∨ k = 54 ∨ k = 55 ∨ k = 56 ∨ k = 57 ∨ k = 58 ∨ k = 59 ∨ k = 60 ∨ k = 61 ∨ k = 62 ∨ k = 63 by omega) with rfl | rfl | rfl | rfl | rfl | rfl | rfl | rfl | rfl | rfl | rfl | rfl | rfl | rfl | rfl | rfl | rfl | rfl | rfl | rfl | rfl | rfl | rfl | rfl | rfl | rfl | rfl | rfl | rfl | rfl | rfl | rfl | rfl | rfl | rfl | rfl | rfl | rfl | rfl | rfl | rfl | rfl | rfl | rfl | rfl | rfl | rfl | rfl | rfl | rfl | rfl | rfl | rfl | rfl | rfl | rfl | rfl | rfl | rfl | rfl | rfl | rfl | rfl | rfl
  · exact lv_tableIn (x := nI 0) (off := 208) (tgt := 252) hx hb dL_law_44 (by decide) (by decide) (by decide) (by decide) (law_c0 hfl hAe C hml hX hbl hn hi hZ hW hO hN hBd hc1 hc2 hl kk)
  · exact lv_tableIn (x := nI 1) (off := 260) (tgt := 304) hx hb dL_law_44 (by decide) (by decide) (by decide) (by decide) (law_c1 hfl hAe C hml hX hbl hn hi hZ hW hO hN hBd hc1 hc2 hl kk)
  · exact lv_tableIn (x := nI 2) (off := 300) (tgt := 344) hx hb dL_law_44 (by decide) (by decide) (by decide) (by decide) (law_c2 hfl hAe C hml hX hbl hn hi hZ hW hO hN hBd hc1 hc2 hl kk)
  · exact lv_tableIn (x := nI 3) (off := 352) (tgt := 396) hx hb dL_law_44 (by decide) (by decide) (by decide) (by decide) (law_c3 hfl hAe C hml hX hbl hn hi hZ hW hO hN hBd hc1 hc2 hl kk)
  · exact lv_tableIn (x := nI 4) (off := 392) (tgt := 436) hx hb dL_law_44 (by decide) (by decide) (by decide) (by decide) (law_c4 hfl hAe C hml hX hbl hn hi hZ hW hO hN hBd hc1 hc2 hl kk)
  · exact lv_tableIn (x := nI 5) (off := 420) (tgt := 464) hx hb dL_law_44 (by decide) (by decide) (by decide) (by decide) (law_c5 hfl hAe C hml hX hbl hn hi hZ hW hO hN hBd hc1 hc2 hl kk)
  · exact lv_tableIn (x := nI 6) (off := 448) (tgt := 492) hx hb dL_law_44 (by decide) (by decide) (by decide) (by decide) (law_c6 hfl hAe C hml hX hbl hn hi hZ hW hO hN hBd hc1 hc2 hl kk)
  · exact lv_tableIn (x := nI 7) (off := 461) (tgt := 505) hx hb dL_law_44 (by decide) (by decide) (by decide) (by decide) (law_c7 hfl hAe C hml hX hbl hn hi hZ hW hO hN hBd hc1 hc2 hl kk)
  · exact lv_tableIn (x := nI 8) (off := 474) (tgt := 518) hx hb dL_law_44 (by decide) (by decide) (by decide) (by decide) (law_c8 hfl hAe C hml hX hbl hn hi hZ hW hO hN hBd hc1 hc2 hl kk)
  · exact lv_tableIn (x := nI 9) (off := 502) (tgt := 546) hx hb dL_law_44 (by decide) (by decide) (by decide) (by decide) (law_c9 hfl hAe C hml hX hbl hn hi hZ hW hO hN hBd hc1 hc2 hl kk)
  · exact lv_tableIn (x := nI 10) (off := 530) (tgt := 574) hx hb dL_law_44 (by decide) (by decide) (by decide) (by decide) (law_c10 hfl hAe C hml hX hbl hn hi hZ hW hO hN hBd hc1 hc2 hl kk)
  · exact lv_tableIn (x := nI 11) (off := 558) (tgt := 602) hx hb dL_law_44 (by decide) (by decide) (by decide) (by decide) (law_c11 hfl hAe C hml hX hbl hn hi hZ hW hO hN hBd hc1 hc2 hl kk)
  · exact lv_tableIn (x := nI 12) (off := 586) (tgt := 630) hx hb dL_law_44 (by decide) (by decide) (by decide) (by decide) (law_c12 hfl hAe C hml hX hbl hn hi hZ hW hO hN hBd hc1 hc2 hl kk)
  · exact lv_tableIn (x := nI 13) (off := 626) (tgt := 670) hx hb dL_law_44 (by decide) (by decide) (by decide) (by decide) (law_c13 hfl hAe C hml hX hbl hn hi hZ hW hO hN hBd hc1 hc2 hl kk)
  · exact lv_tableIn (x := nI 14) (off := 639) (tgt := 683) hx hb dL_law_44 (by decide) (by decide) (by decide) (by decide) (law_c14 hfl hAe C hml hX hbl hn hi hZ hW hO hN hBd hc1 hc2 hl kk)
  · exact lv_tableIn (x := nI 15) (off := 667) (tgt := 711) hx hb dL_law_44 (by decide) (by decide) (by decide) (by decide) (law_c15 hfl hAe C hml hX hbl hn hi hZ hW hO hN hBd hc1 hc2 hl kk)
  · exact lv_tableIn (x := nI 16) (off := 695) (tgt := 739) hx hb dL_law_44 (by decide) (by decide) (by decide) (by decide) (law_c16 hfl hAe C hml hX hbl hn hi hZ hW hO hN hBd hc1 hc2 hl kk)
  · exact lv_tableIn (x := nI 17) (off := 723) (tgt := 767) hx hb dL_law_44 (by decide) (by decide) (by decide) (by decide) (law_c17 hfl hAe C hml hX hbl hn hi hZ hW hO hN hBd hc1 hc2 hl kk)
  · exact lv_tableIn (x := nI 18) (off := 751) (tgt := 795) hx hb dL_law_44 (by decide) (by decide) (by decide) (by decide) (law_c18 hfl hAe C hml hX hbl hn hi hZ hW hO hN hBd hc1 hc2 hl kk)
  · exact lv_tableIn (x := nI 19) (off := 779) (tgt := 823) hx hb dL_law_44 (by decide) (by decide) (by decide) (by decide) (law_c19 hfl hAe C hml hX hbl hn hi hZ hW hO hN hBd hc1 hc2 hl kk)
  · exact lv_tableIn (x := nI 20) (off := 807) (tgt := 851) hx hb dL_law_44 (by decide) (by decide) (by decide) (by decide) (law_c20 hfl hAe C hml hX hbl hn hi hZ hW hO hN hBd hc1 hc2 hl kk)
  · exact lv_tableIn (x := nI 21) (off := 835) (tgt := 879) hx hb dL_law_44 (by decide) (by decide) (by decide) (by decide) (law_c21 hfl hAe C hml hX hbl hn hi hZ hW hO hN hBd hc1 hc2 hl kk)
  · exact lv_tableIn (x := nI 22) (off := 863) (tgt := 907) hx hb dL_law_44 (by decide) (by decide) (by decide) (by decide) (law_c22 hfl hAe C hml hX hbl hn hi hZ hW hO hN hBd hc1 hc2 hl kk)
  · exact lv_tableIn (x := nI 23) (off := 891) (tgt := 935) hx hb dL_law_44 (by decide) (by decide) (by decide) (by decide) (law_c23 hfl hAe C hml hX hbl hn hi hZ hW hO hN hBd hc1 hc2 hl kk)
  · exact lv_tableIn (x := nI 24) (off := 931) (tgt := 975) hx hb dL_law_44 (by decide) (by decide) (by decide) (by decide) (law_c24 hfl hAe C hml hX hbl hn hi hZ hW hO hN hBd hc1 hc2 hl kk)
  · exact lv_tableIn (x := nI 25) (off := 971) (tgt := 1015) hx hb dL_law_44 (by decide) (by decide) (by decide) (by decide) (law_c25 hfl hAe C hml hX hbl hn hi hZ hW hO hN hBd hc1 hc2 hl kk)
  · exact lv_tableIn (x := nI 26) (off := 1011) (tgt := 1055) hx hb dL_law_44 (by decide) (by decide) (by decide) (by decide) (law_c26 hfl hAe C hml hX hbl hn hi hZ hW hO hN hBd hc1 hc2 hl kk)
  · exact lv_tableIn (x := nI 27) (off := 1039) (tgt := 1083) hx hb dL_law_44 (by decide) (by decide) (by decide) (by decide) (law_c27 hfl hAe C hml hX hbl hn hi hZ hW hO hN hBd hc1 hc2 hl kk)
  · exact lv_tableIn (x := nI 28) (off := 1067) (tgt := 1111) hx hb dL_law_44 (by decide) (by decide) (by decide) (by decide) (law_c28 hfl hAe C hml hX hbl hn hi hZ hW hO hN hBd hc1 hc2 hl kk)
  · exact lv_tableIn (x := nI 29) (off := 1080) (tgt := 1124) hx hb dL_law_44 (by decide) (by decide) (by decide) (by decide) (law_c29 hfl hAe C hml hX hbl hn hi hZ hW hO hN hBd hc1 hc2 hl kk)
  · exact lv_tableIn (x := nI 30) (off := 1093) (tgt := 1137) hx hb dL_law_44 (by decide) (by decide) (by decide) (by decide) (law_c30 hfl hAe C hml hX hbl hn hi hZ hW hO hN hBd hc1 hc2 hl kk)
  · exact lv_tableIn (x := nI 31) (off := 1106) (tgt := 1150) hx hb dL_law_44 (by decide) (by decide) (by decide) (by decide) (law_c31 hfl hAe C hml hX hbl hn hi hZ hW hO hN hBd hc1 hc2 hl kk)
  · exact lv_tableIn (x := nI 32) (off := 1119) (tgt := 1163) hx hb dL_law_44 (by decide) (by decide) (by decide) (by decide) (law_c32 hfl hAe C hml hX hbl hn hi hZ hW hO hN hBd hc1 hc2 hl kk)
  · exact lv_tableIn (x := nI 33) (off := 1147) (tgt := 1191) hx hb dL_law_44 (by decide) (by decide) (by decide) (by decide) (law_c33 hfl hAe C hml hX hbl hn hi hZ hW hO hN hBd hc1 hc2 hl kk)
  · exact lv_tableIn (x := nI 34) (off := 1160) (tgt := 1204) hx hb dL_law_44 (by decide) (by decide) (by decide) (by decide) (law_c34 hfl hAe C hml hX hbl hn hi hZ hW hO hN hBd hc1 hc2 hl kk)
  · exact lv_tableIn (x := nI 35) (off := 1173) (tgt := 1217) hx hb dL_law_44 (by decide) (by decide) (by decide) (by decide) (law_c35 hfl hAe C hml hX hbl hn hi hZ hW hO hN hBd hc1 hc2 hl kk)
  · exact lv_tableIn (x := nI 36) (off := 1186) (tgt := 1230) hx hb dL_law_44 (by decide) (by decide) (by decide) (by decide) (law_c36 hfl hAe C hml hX hbl hn hi hZ hW hO hN hBd hc1 hc2 hl kk)
  · exact lv_tableIn (x := nI 37) (off := 1203) (tgt := 1247) hx hb dL_law_44 (by decide) (by decide) (by decide) (by decide) (law_c37 hfl hAe C hml hX hbl hn hi hZ hW hO hN hBd hc1 hc2 hl kk)
  · exact lv_tableIn (x := nI 38) (off := 1220) (tgt := 1264) hx hb dL_law_44 (by decide) (by decide) (by decide) (by decide) (law_c38 hfl hAe C hml hX hbl hn hi hZ hW hO hN hBd hc1 hc2 hl kk)
  · exact lv_tableIn (x := nI 39) (off := 1233) (tgt := 1277) hx hb dL_law_44 (by decide) (by decide) (by decide) (by decide) (law_c39 hfl hAe C hml hX hbl hn hi hZ hW hO hN hBd hc1 hc2 hl kk)
  · exact lv_tableIn (x := nI 40) (off := 1263) (tgt := 1307) hx hb dL_law_44 (by decide) (by decide) (by decide) (by decide) (law_c40 hfl hAe C hml hX hbl hn hi hZ hW hO hN hBd hc1 hc2 hl kk)
  · exact lv_tableIn (x := nI 41) (off := 1279) (tgt := 1323) hx hb dL_law_44 (by decide) (by decide) (by decide) (by decide) (law_c41 hfl hAe C hml hX hbl hn hi hZ hW hO hN hBd hc1 hc2 hl kk)
  · exact lv_tableIn (x := nI 42) (off := 1295) (tgt := 1339) hx hb dL_law_44 (by decide) (by decide) (by decide) (by decide) (law_c42 hfl hAe C hml hX hbl hn hi hZ hW hO hN hBd hc1 hc2 hl kk)
  · exact lv_tableIn (x := nI 43) (off := 1311) (tgt := 1355) hx hb dL_law_44 (by decide) (by decide) (by decide) (by decide) (law_c43 hfl hAe C hml hX hbl hn hi hZ hW hO hN hBd hc1 hc2 hl kk)
  · exact lv_tableIn (x := nI 44) (off := 1339) (tgt := 1383) hx hb dL_law_44 (by decide) (by decide) (by decide) (by decide) (law_c44 hfl hAe C hml hX hbl hn hi hZ hW hO hN hBd hc1 hc2 hl kk)
  · exact lv_tableIn (x := nI 45) (off := 1367) (tgt := 1411) hx hb dL_law_44 (by decide) (by decide) (by decide) (by decide) (law_c45 hfl hAe C hml hX hbl hn hi hZ hW hO hN hBd hc1 hc2 hl kk)
  · exact lv_tableIn (x := nI 46) (off := 1383) (tgt := 1427) hx hb dL_law_44 (by decide) (by decide) (by decide) (by decide) (law_c46 hfl hAe C hml hX hbl hn hi hZ hW hO hN hBd hc1 hc2 hl kk)
  · exact lv_tableIn (x := nI 47) (off := 1394) (tgt := 1438) hx hb dL_law_44 (by decide) (by decide) (by decide) (by decide) (law_c47 hfl hAe C hml hX hbl hn hi hZ hW hO hN hBd hc1 hc2 hl kk)
  · exact lv_tableOut (x := nI 48) (tgt := 1462) hx hb dL_law_44 (by decide) (by decide) (W.widen (k := cells + 110) (n := slots + 13600) (by omega) (by omega) (kk S Bd o q Wx ls H locs (by omega) hO hN hW hl))
  · exact lv_tableOut (x := nI 49) (tgt := 1462) hx hb dL_law_44 (by decide) (by decide) (W.widen (k := cells + 110) (n := slots + 13600) (by omega) (by omega) (kk S Bd o q Wx ls H locs (by omega) hO hN hW hl))
  · exact lv_tableOut (x := nI 50) (tgt := 1462) hx hb dL_law_44 (by decide) (by decide) (W.widen (k := cells + 110) (n := slots + 13600) (by omega) (by omega) (kk S Bd o q Wx ls H locs (by omega) hO hN hW hl))
  · exact lv_tableOut (x := nI 51) (tgt := 1462) hx hb dL_law_44 (by decide) (by decide) (W.widen (k := cells + 110) (n := slots + 13600) (by omega) (by omega) (kk S Bd o q Wx ls H locs (by omega) hO hN hW hl))
  · exact lv_tableOut (x := nI 52) (tgt := 1462) hx hb dL_law_44 (by decide) (by decide) (W.widen (k := cells + 110) (n := slots + 13600) (by omega) (by omega) (kk S Bd o q Wx ls H locs (by omega) hO hN hW hl))
  · exact lv_tableOut (x := nI 53) (tgt := 1462) hx hb dL_law_44 (by decide) (by decide) (W.widen (k := cells + 110) (n := slots + 13600) (by omega) (by omega) (kk S Bd o q Wx ls H locs (by omega) hO hN hW hl))
  · exact lv_tableOut (x := nI 54) (tgt := 1462) hx hb dL_law_44 (by decide) (by decide) (W.widen (k := cells + 110) (n := slots + 13600) (by omega) (by omega) (kk S Bd o q Wx ls H locs (by omega) hO hN hW hl))
  · exact lv_tableOut (x := nI 55) (tgt := 1462) hx hb dL_law_44 (by decide) (by decide) (W.widen (k := cells + 110) (n := slots + 13600) (by omega) (by omega) (kk S Bd o q Wx ls H locs (by omega) hO hN hW hl))
  · exact lv_tableOut (x := nI 56) (tgt := 1462) hx hb dL_law_44 (by decide) (by decide) (W.widen (k := cells + 110) (n := slots + 13600) (by omega) (by omega) (kk S Bd o q Wx ls H locs (by omega) hO hN hW hl))
  · exact lv_tableOut (x := nI 57) (tgt := 1462) hx hb dL_law_44 (by decide) (by decide) (W.widen (k := cells + 110) (n := slots + 13600) (by omega) (by omega) (kk S Bd o q Wx ls H locs (by omega) hO hN hW hl))
  · exact lv_tableOut (x := nI 58) (tgt := 1462) hx hb dL_law_44 (by decide) (by decide) (W.widen (k := cells + 110) (n := slots + 13600) (by omega) (by omega) (kk S Bd o q Wx ls H locs (by omega) hO hN hW hl))
  · exact lv_tableOut (x := nI 59) (tgt := 1462) hx hb dL_law_44 (by decide) (by decide) (W.widen (k := cells + 110) (n := slots + 13600) (by omega) (by omega) (kk S Bd o q Wx ls H locs (by omega) hO hN hW hl))
  · exact lv_tableOut (x := nI 60) (tgt := 1462) hx hb dL_law_44 (by decide) (by decide) (W.widen (k := cells + 110) (n := slots + 13600) (by omega) (by omega) (kk S Bd o q Wx ls H locs (by omega) hO hN hW hl))
  · exact lv_tableOut (x := nI 61) (tgt := 1462) hx hb dL_law_44 (by decide) (by decide) (W.widen (k := cells + 110) (n := slots + 13600) (by omega) (by omega) (kk S Bd o q Wx ls H locs (by omega) hO hN hW hl))
  · exact lv_tableOut (x := nI 62) (tgt := 1462) hx hb dL_law_44 (by decide) (by decide) (W.widen (k := cells + 110) (n := slots + 13600) (by omega) (by omega) (kk S Bd o q Wx ls H locs (by omega) hO hN hW hl))
  · exact lv_tableOut (x := nI 63) (tgt := 1462) hx hb dL_law_44 (by decide) (by decide) (W.widen (k := cells + 110) (n := slots + 13600) (by omega) (by omega) (kk S Bd o q Wx ls H locs (by omega) hO hN hW hl))
set_option maxHeartbeats 4000000 in
set_option maxRecDepth 20000 in
theorem law_loop {p : Program} {l : Launch} {e : Env} {s : State} {m : MethodId} {below : List Frame} {meth : Method} {c : Code} {D : va_G} {aT : Nat → ClassId} {A : Nat → Prop} {ad : Nat → Nat} {x0 u0 u1 b n : Nat} {xs : Nat → Int32} (hfl : l.stackTraces = false) (hAe : A = fun q => s.heap.size ≤ q) (C : CxX p c code s #[Value.ref b] m D aT RL) (hml : c.maxLocals = 9) (hr : meth.sig.returnType = ret) (hlocks : meth.locks = false) (hX : va_X b n xs s s.heap) (hbl : b < s.heap.size) (hn : n ≤ 2048) (hZ : cZ D A s s.heap) : ∀ (k j : Nat) (S : MSt) (Bd : Nat) (o : Nat → Int64) (q : Nat → UInt64) (Wx : va_W) (ls : Array Slot) (H : Heap) (locs : List Loc) (cells slots : Nat), n ≤ 4 * j + 4 * k + 3 → 4 * j ≤ n → Bd ≤ 13 * j → cells ≤ 1000 + 110 * j → slots ≤ 9000 + 13600 * j → ClO D aT x0 S Bd Wx → LnO S → CxB D (mdW aT ad S ++ (oD aT u1 q ++ (oL aT u0 o ++ Wx))) A s.heap H locs → lv_has ls 9 [(5, .int (nI (4 * j))), (4, .ref u1), (3, .ref u0), (2, .ref (ad 0)), (1, .ref x0), (0, .ref b)] → W p l e room_1 s m #[Value.ref b] below meth c H locs cells slots (lw_Z below #[Value.ref b] s) (F0 m 28 ls []) := by
  intro k
  have hx := C.1
  have hb := C.2.1
  have hbA : ¬ A b := by rw [hAe]; exact Nat.not_le.mpr hbl
  induction k with
  | zero =>
    intro j S Bd o q Wx ls H locs cells slots hk hj hB hc hs hO hN hW hl
    refine lv_iload hx hb dL_law_28 (lv_at hl 0 rfl) ?_
    refine lv_aload_n hx hb dL_law_30 rfl (lv_at hl 5 rfl) ?_
    refine va_slen hx hb hX hbl hbA hW.2.2 dL_law_31 ?_
    refine lv_iconst (v := nI 4) hx hb dL_law_32 (by decide) ?_
    refine lv_isub hx hb dL_law_33 ?_
    refine lv_icmp_gt hx hb (x := nI (4 * j)) (y := nI n - nI 4) (tgt := 1468) dL_law_34 (by decide) (fun _ => ?_) (fun h9 => ?_)
    · exact law_exit hAe C hr hlocks hW.2.2 (by omega) (by omega)
    · exact absurd (hd_le hn hj h9) (by omega)
  | succ k ih =>
    intro j S Bd o q Wx ls H locs cells slots hk hj hB hc hs hO hN hW hl
    refine lv_iload hx hb dL_law_28 (lv_at hl 0 rfl) ?_
    refine lv_aload_n hx hb dL_law_30 rfl (lv_at hl 5 rfl) ?_
    refine va_slen hx hb hX hbl hbA hW.2.2 dL_law_31 ?_
    refine lv_iconst (v := nI 4) hx hb dL_law_32 (by decide) ?_
    refine lv_isub hx hb dL_law_33 ?_
    refine lv_icmp_gt hx hb (x := nI (4 * j)) (y := nI n - nI 4) (tgt := 1468) dL_law_34 (by decide) (fun _ => ?_) (fun h9 => ?_)
    · exact law_exit hAe C hr hlocks hW.2.2 (by omega) (by omega)
    · have h4 := hd_le hn hj h9
      refine law_sw hfl hAe C hml hX hbl hn h4 hZ hW hO hN (by omega) (by omega) (by omega) hl (fun S1 Bd2 o2 q2 W2 ls1 H1 locs1 hb2 hO2 hN2 hW2 hl2 => ?_)
      refine lv_iinc (v := nI (4 * j + 4)) (lv' := [(5, .int (nI (4 * j + 4))), (4, .ref u1), (3, .ref u0), (2, .ref (ad 0)), (1, .ref x0), (0, .ref b)]) hx hb dL_law_1462 hl2 (k := 0) rfl (nI_add (4 * j) 4) (by decide) rfl (fun ls3 hl3 => ?_)
      refine lv_goto (tgt := 28) hx hb dL_law_1465 (by decide) ?_
      have e4 : 4 * (j + 1) = 4 * j + 4 := by omega
      exact ih (j + 1) S1 Bd2 o2 q2 W2 ls3 H1 locs1 (cells + 110) (slots + 13600) (by omega) (by omega) (by omega) (by omega) (by omega) hO2 hN2 hW2 (by rw [e4]; exact hl3)
end
