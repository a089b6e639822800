section
-- ===== PART A: goes FIRST, ahead of the names: the tables' words, and 'selects' of the private methods out of them =====
/-- a private method of a class that the tables say can be made, by its rows of tables_1 -/
def lw_okq (q : MethodName × Nat) : Prop := (q.1.cls ≠ "java/lang/invoke/MethodHandle" ∧ q.1.cls ≠ "java/lang/invoke/VarHandle") ∧ Cond.instantiable q.1.cls q.2 ∈ tables_1 ∧ Cond.privateMethod q.1 ∈ tables_1 ∧ Cond.instanceMethod q.1 ∈ tables_1
theorem lw_p0 : lw_okq (⟨"PointCrowds", "leastFree", "()I"⟩, 17) := ⟨⟨by decide +kernel, by decide +kernel⟩, List.mem_of_getElem? (i := 5) (by decide +kernel), List.mem_of_getElem? (i := 77) (by decide +kernel), List.mem_of_getElem? (i := 78) (by decide +kernel)⟩
theorem lw_p1 : lw_okq (⟨"PointCrowds", "put", "(III)V"⟩, 17) := ⟨⟨by decide +kernel, by decide +kernel⟩, List.mem_of_getElem? (i := 5) (by decide +kernel), List.mem_of_getElem? (i := 81) (by decide +kernel), List.mem_of_getElem? (i := 82) (by decide +kernel)⟩
theorem lw_p2 : lw_okq (⟨"PointCrowds", "forget", "()V"⟩, 17) := ⟨⟨by decide +kernel, by decide +kernel⟩, List.mem_of_getElem? (i := 5) (by decide +kernel), List.mem_of_getElem? (i := 85) (by decide +kernel), List.mem_of_getElem? (i := 86) (by decide +kernel)⟩
theorem lw_p3 : lw_okq (⟨"PointCrowds", "isPoint", "(I)Z"⟩, 17) := ⟨⟨by decide +kernel, by decide +kernel⟩, List.mem_of_getElem? (i := 5) (by decide +kernel), List.mem_of_getElem? (i := 93) (by decide +kernel), List.mem_of_getElem? (i := 94) (by decide +kernel)⟩
theorem lw_p4 : lw_okq (⟨"PointCrowds", "countPoints", "()I"⟩, 17) := ⟨⟨by decide +kernel, by decide +kernel⟩, List.mem_of_getElem? (i := 5) (by decide +kernel), List.mem_of_getElem? (i := 97) (by decide +kernel), List.mem_of_getElem? (i := 98) (by decide +kernel)⟩
theorem lw_p5 : lw_okq (⟨"PointCrowds", "gapBetween", "(II)J"⟩, 17) := ⟨⟨by decide +kernel, by decide +kernel⟩, List.mem_of_getElem? (i := 5) (by decide +kernel), List.mem_of_getElem? (i := 122) (by decide +kernel), List.mem_of_getElem? (i := 123) (by decide +kernel)⟩
theorem lw_p6 : lw_okq (⟨"PointCrowds", "gapTo", "(III)J"⟩, 17) := ⟨⟨by decide +kernel, by decide +kernel⟩, List.mem_of_getElem? (i := 5) (by decide +kernel), List.mem_of_getElem? (i := 126) (by decide +kernel), List.mem_of_getElem? (i := 127) (by decide +kernel)⟩
theorem lw_p7 : lw_okq (⟨"PointCrowds", "sortWith", "(J)V"⟩, 17) := ⟨⟨by decide +kernel, by decide +kernel⟩, List.mem_of_getElem? (i := 5) (by decide +kernel), List.mem_of_getElem? (i := 140) (by decide +kernel), List.mem_of_getElem? (i := 141) (by decide +kernel)⟩
theorem lw_p8 : lw_okq (⟨"PointCrowds", "markCores", "(J)V"⟩, 17) := ⟨⟨by decide +kernel, by decide +kernel⟩, List.mem_of_getElem? (i := 5) (by decide +kernel), List.mem_of_getElem? (i := 144) (by decide +kernel), List.mem_of_getElem? (i := 145) (by decide +kernel)⟩
theorem lw_p9 : lw_okq (⟨"PointCrowds", "weightWithin", "(IJ)I"⟩, 17) := ⟨⟨by decide +kernel, by decide +kernel⟩, List.mem_of_getElem? (i := 5) (by decide +kernel), List.mem_of_getElem? (i := 148) (by decide +kernel), List.mem_of_getElem? (i := 149) (by decide +kernel)⟩
theorem lw_p10 : lw_okq (⟨"PointCrowds", "gatherCrowds", "(J)V"⟩, 17) := ⟨⟨by decide +kernel, by decide +kernel⟩, List.mem_of_getElem? (i := 5) (by decide +kernel), List.mem_of_getElem? (i := 152) (by decide +kernel), List.mem_of_getElem? (i := 153) (by decide +kernel)⟩
theorem lw_p11 : lw_okq (⟨"PointCrowds", "gatherFrom", "(IJ)V"⟩, 17) := ⟨⟨by decide +kernel, by decide +kernel⟩, List.mem_of_getElem? (i := 5) (by decide +kernel), List.mem_of_getElem? (i := 156) (by decide +kernel), List.mem_of_getElem? (i := 157) (by decide +kernel)⟩
theorem lw_p12 : lw_okq (⟨"PointCrowds", "leastUnsettledCore", "()I"⟩, 17) := ⟨⟨by decide +kernel, by decide +kernel⟩, List.mem_of_getElem? (i := 5) (by decide +kernel), List.mem_of_getElem? (i := 160) (by decide +kernel), List.mem_of_getElem? (i := 161) (by decide +kernel)⟩
theorem lw_p13 : lw_okq (⟨"PointCrowds", "gatherCoresNear", "(IJ)V"⟩, 17) := ⟨⟨by decide +kernel, by decide +kernel⟩, List.mem_of_getElem? (i := 5) (by decide +kernel), List.mem_of_getElem? (i := 164) (by decide +kernel), List.mem_of_getElem? (i := 165) (by decide +kernel)⟩
theorem lw_p14 : lw_okq (⟨"PointCrowds", "joinBorders", "(J)V"⟩, 17) := ⟨⟨by decide +kernel, by decide +kernel⟩, List.mem_of_getElem? (i := 5) (by decide +kernel), List.mem_of_getElem? (i := 168) (by decide +kernel), List.mem_of_getElem? (i := 169) (by decide +kernel)⟩
theorem lw_p15 : lw_okq (⟨"PointCrowds", "leastCrowdAt", "(IIJ)I"⟩, 17) := ⟨⟨by decide +kernel, by decide +kernel⟩, List.mem_of_getElem? (i := 5) (by decide +kernel), List.mem_of_getElem? (i := 172) (by decide +kernel), List.mem_of_getElem? (i := 173) (by decide +kernel)⟩
def lw_privs_1 : List (MethodName × Nat) := [(⟨"PointCrowds", "leastFree", "()I"⟩, 17), (⟨"PointCrowds", "put", "(III)V"⟩, 17), (⟨"PointCrowds", "forget", "()V"⟩, 17), (⟨"PointCrowds", "isPoint", "(I)Z"⟩, 17), (⟨"PointCrowds", "countPoints", "()I"⟩, 17), (⟨"PointCrowds", "gapBetween", "(II)J"⟩, 17), (⟨"PointCrowds", "gapTo", "(III)J"⟩, 17), (⟨"PointCrowds", "sortWith", "(J)V"⟩, 17), (⟨"PointCrowds", "markCores", "(J)V"⟩, 17), (⟨"PointCrowds", "weightWithin", "(IJ)I"⟩, 17), (⟨"PointCrowds", "gatherCrowds", "(J)V"⟩, 17), (⟨"PointCrowds", "gatherFrom", "(IJ)V"⟩, 17), (⟨"PointCrowds", "leastUnsettledCore", "()I"⟩, 17), (⟨"PointCrowds", "gatherCoresNear", "(IJ)V"⟩, 17), (⟨"PointCrowds", "joinBorders", "(J)V"⟩, 17), (⟨"PointCrowds", "leastCrowdAt", "(IIJ)I"⟩, 17)]
theorem lw_r1 : ∀ q ∈ lw_privs_1, lw_okq q := List.forall_mem_cons.mpr ⟨lw_p0, List.forall_mem_cons.mpr ⟨lw_p1, List.forall_mem_cons.mpr ⟨lw_p2, List.forall_mem_cons.mpr ⟨lw_p3, List.forall_mem_cons.mpr ⟨lw_p4, List.forall_mem_cons.mpr ⟨lw_p5, List.forall_mem_cons.mpr ⟨lw_p6, List.forall_mem_cons.mpr ⟨lw_p7, List.forall_mem_cons.mpr ⟨lw_p8, List.forall_mem_cons.mpr ⟨lw_p9, List.forall_mem_cons.mpr ⟨lw_p10, List.forall_mem_cons.mpr ⟨lw_p11, List.forall_mem_cons.mpr ⟨lw_p12, List.forall_mem_cons.mpr ⟨lw_p13, List.forall_mem_cons.mpr ⟨lw_p14, List.forall_mem_cons.mpr ⟨lw_p15, fun _ h => absurd h List.not_mem_nil⟩⟩⟩⟩⟩⟩⟩⟩⟩⟩⟩⟩⟩⟩⟩⟩
theorem lw_p16 : lw_okq (⟨"PointCrowds", "kindOf", "(I)I"⟩, 17) := ⟨⟨by decide +kernel, by decide +kernel⟩, List.mem_of_getElem? (i := 5) (by decide +kernel), List.mem_of_getElem? (i := 176) (by decide +kernel), List.mem_of_getElem? (i := 177) (by decide +kernel)⟩
theorem lw_p17 : lw_okq (⟨"PointCrowds", "leastReachAsCore", "(I)J"⟩, 17) := ⟨⟨by decide +kernel, by decide +kernel⟩, List.mem_of_getElem? (i := 5) (by decide +kernel), List.mem_of_getElem? (i := 192) (by decide +kernel), List.mem_of_getElem? (i := 193) (by decide +kernel)⟩
theorem lw_p18 : lw_okq (⟨"PointCrowds", "lastGap", "(I)J"⟩, 17) := ⟨⟨by decide +kernel, by decide +kernel⟩, List.mem_of_getElem? (i := 5) (by decide +kernel), List.mem_of_getElem? (i := 196) (by decide +kernel), List.mem_of_getElem? (i := 197) (by decide +kernel)⟩
theorem lw_p19 : lw_okq (⟨"PointCrowds", "keepNear", "(IJI)I"⟩, 17) := ⟨⟨by decide +kernel, by decide +kernel⟩, List.mem_of_getElem? (i := 5) (by decide +kernel), List.mem_of_getElem? (i := 200) (by decide +kernel), List.mem_of_getElem? (i := 201) (by decide +kernel)⟩
theorem lw_p20 : lw_okq (⟨"PointCrowds", "countWeights", "()I"⟩, 17) := ⟨⟨by decide +kernel, by decide +kernel⟩, List.mem_of_getElem? (i := 5) (by decide +kernel), List.mem_of_getElem? (i := 208) (by decide +kernel), List.mem_of_getElem? (i := 209) (by decide +kernel)⟩
theorem lw_p21 : lw_okq (⟨"PointCrowds", "findCoreFrom", "()V"⟩, 17) := ⟨⟨by decide +kernel, by decide +kernel⟩, List.mem_of_getElem? (i := 5) (by decide +kernel), List.mem_of_getElem? (i := 212) (by decide +kernel), List.mem_of_getElem? (i := 213) (by decide +kernel)⟩
theorem lw_p22 : lw_okq (⟨"PointCrowds", "leastReachFrom", "(II)J"⟩, 17) := ⟨⟨by decide +kernel, by decide +kernel⟩, List.mem_of_getElem? (i := 5) (by decide +kernel), List.mem_of_getElem? (i := 216) (by decide +kernel), List.mem_of_getElem? (i := 217) (by decide +kernel)⟩
theorem lw_p23 : lw_okq (⟨"PointCrowds", "cheapestUnsettled", "()I"⟩, 17) := ⟨⟨by decide +kernel, by decide +kernel⟩, List.mem_of_getElem? (i := 5) (by decide +kernel), List.mem_of_getElem? (i := 221) (by decide +kernel), List.mem_of_getElem? (i := 222) (by decide +kernel)⟩
theorem lw_p24 : lw_okq (⟨"PointCrowds", "reachOnFrom", "(I)V"⟩, 17) := ⟨⟨by decide +kernel, by decide +kernel⟩, List.mem_of_getElem? (i := 5) (by decide +kernel), List.mem_of_getElem? (i := 225) (by decide +kernel), List.mem_of_getElem? (i := 226) (by decide +kernel)⟩
theorem lw_p25 : lw_okq (⟨"PointCrowds", "countKind", "(I)I"⟩, 17) := ⟨⟨by decide +kernel, by decide +kernel⟩, List.mem_of_getElem? (i := 5) (by decide +kernel), List.mem_of_getElem? (i := 236) (by decide +kernel), List.mem_of_getElem? (i := 237) (by decide +kernel)⟩
theorem lw_p26 : lw_okq (⟨"PointCrowds", "pointsOf", "(I)I"⟩, 17) := ⟨⟨by decide +kernel, by decide +kernel⟩, List.mem_of_getElem? (i := 5) (by decide +kernel), List.mem_of_getElem? (i := 244) (by decide +kernel), List.mem_of_getElem? (i := 245) (by decide +kernel)⟩
theorem lw_p27 : lw_okq (⟨"PointCrowds", "coresOf", "(I)I"⟩, 17) := ⟨⟨by decide +kernel, by decide +kernel⟩, List.mem_of_getElem? (i := 5) (by decide +kernel), List.mem_of_getElem? (i := 248) (by decide +kernel), List.mem_of_getElem? (i := 249) (by decide +kernel)⟩
theorem lw_p28 : lw_okq (⟨"PointCrowds", "weightsOf", "(I)I"⟩, 17) := ⟨⟨by decide +kernel, by decide +kernel⟩, List.mem_of_getElem? (i := 5) (by decide +kernel), List.mem_of_getElem? (i := 252) (by decide +kernel), List.mem_of_getElem? (i := 253) (by decide +kernel)⟩
theorem lw_p29 : lw_okq (⟨"PointCrowds", "leastCoreOf", "(I)I"⟩, 17) := ⟨⟨by decide +kernel, by decide +kernel⟩, List.mem_of_getElem? (i := 5) (by decide +kernel), List.mem_of_getElem? (i := 256) (by decide +kernel), List.mem_of_getElem? (i := 257) (by decide +kernel)⟩
theorem lw_p30 : lw_okq (⟨"PointCrowds", "leastOf", "([II)I"⟩, 17) := ⟨⟨by decide +kernel, by decide +kernel⟩, List.mem_of_getElem? (i := 5) (by decide +kernel), List.mem_of_getElem? (i := 260) (by decide +kernel), List.mem_of_getElem? (i := 261) (by decide +kernel)⟩
theorem lw_p31 : lw_okq (⟨"PointCrowds", "greatestOf", "([II)I"⟩, 17) := ⟨⟨by decide +kernel, by decide +kernel⟩, List.mem_of_getElem? (i := 5) (by decide +kernel), List.mem_of_getElem? (i := 267) (by decide +kernel), List.mem_of_getElem? (i := 268) (by decide +kernel)⟩
def lw_privs_2 : List (MethodName × Nat) := [(⟨"PointCrowds", "kindOf", "(I)I"⟩, 17), (⟨"PointCrowds", "leastReachAsCore", "(I)J"⟩, 17), (⟨"PointCrowds", "lastGap", "(I)J"⟩, 17), (⟨"PointCrowds", "keepNear", "(IJI)I"⟩, 17), (⟨"PointCrowds", "countWeights", "()I"⟩, 17), (⟨"PointCrowds", "findCoreFrom", "()V"⟩, 17), (⟨"PointCrowds", "leastReachFrom", "(II)J"⟩, 17), (⟨"PointCrowds", "cheapestUnsettled", "()I"⟩, 17), (⟨"PointCrowds", "reachOnFrom", "(I)V"⟩, 17), (⟨"PointCrowds", "countKind", "(I)I"⟩, 17), (⟨"PointCrowds", "pointsOf", "(I)I"⟩, 17), (⟨"PointCrowds", "coresOf", "(I)I"⟩, 17), (⟨"PointCrowds", "weightsOf", "(I)I"⟩, 17), (⟨"PointCrowds", "leastCoreOf", "(I)I"⟩, 17), (⟨"PointCrowds", "leastOf", "([II)I"⟩, 17), (⟨"PointCrowds", "greatestOf", "([II)I"⟩, 17)]
theorem lw_r2 : ∀ q ∈ lw_privs_2, lw_okq q := List.forall_mem_cons.mpr ⟨lw_p16, List.forall_mem_cons.mpr ⟨lw_p17, List.forall_mem_cons.mpr ⟨lw_p18, List.forall_mem_cons.mpr ⟨lw_p19, List.forall_mem_cons.mpr ⟨lw_p20, List.forall_mem_cons.mpr ⟨lw_p21, List.forall_mem_cons.mpr ⟨lw_p22, List.forall_mem_cons.mpr ⟨lw_p23, List.forall_mem_cons.mpr ⟨lw_p24, List.forall_mem_cons.mpr ⟨lw_p25, List.forall_mem_cons.mpr ⟨lw_p26, List.forall_mem_cons.mpr ⟨lw_p27, List.forall_mem_cons.mpr ⟨lw_p28, List.forall_mem_cons.mpr ⟨lw_p29, List.forall_mem_cons.mpr ⟨lw_p30, List.forall_mem_cons.mpr ⟨lw_p31, fun _ h => absurd h List.not_mem_nil⟩⟩⟩⟩⟩⟩⟩⟩⟩⟩⟩⟩⟩⟩⟩⟩
theorem lw_p32 : lw_okq (⟨"PointCrowds", "standsRight", "(I)Z"⟩, 17) := ⟨⟨by decide +kernel, by decide +kernel⟩, List.mem_of_getElem? (i := 5) (by decide +kernel), List.mem_of_getElem? (i := 286) (by decide +kernel), List.mem_of_getElem? (i := 287) (by decide +kernel)⟩
theorem lw_p33 : lw_okq (⟨"PointCrowdsModel", "isPoint", "(I)Z"⟩, 13) := ⟨⟨by decide +kernel, by decide +kernel⟩, List.mem_of_getElem? (i := 290) (by decide +kernel), List.mem_of_getElem? (i := 349) (by decide +kernel), List.mem_of_getElem? (i := 350) (by decide +kernel)⟩
theorem lw_p34 : lw_okq (⟨"PointCrowdsModel", "points", "()I"⟩, 13) := ⟨⟨by decide +kernel, by decide +kernel⟩, List.mem_of_getElem? (i := 290) (by decide +kernel), List.mem_of_getElem? (i := 353) (by decide +kernel), List.mem_of_getElem? (i := 354) (by decide +kernel)⟩
theorem lw_p35 : lw_okq (⟨"PointCrowdsModel", "far", "(IJJ)J"⟩, 13) := ⟨⟨by decide +kernel, by decide +kernel⟩, List.mem_of_getElem? (i := 290) (by decide +kernel), List.mem_of_getElem? (i := 377) (by decide +kernel), List.mem_of_getElem? (i := 378) (by decide +kernel)⟩
theorem lw_p36 : lw_okq (⟨"PointCrowdsModel", "find", "(J)V"⟩, 13) := ⟨⟨by decide +kernel, by decide +kernel⟩, List.mem_of_getElem? (i := 290) (by decide +kernel), List.mem_of_getElem? (i := 386) (by decide +kernel), List.mem_of_getElem? (i := 387) (by decide +kernel)⟩
theorem lw_p37 : lw_okq (⟨"PointCrowdsModel", "weightWithin", "(IJ)I"⟩, 13) := ⟨⟨by decide +kernel, by decide +kernel⟩, List.mem_of_getElem? (i := 290) (by decide +kernel), List.mem_of_getElem? (i := 390) (by decide +kernel), List.mem_of_getElem? (i := 391) (by decide +kernel)⟩
theorem lw_p38 : lw_okq (⟨"PointCrowdsModel", "spread", "(IJ)Z"⟩, 13) := ⟨⟨by decide +kernel, by decide +kernel⟩, List.mem_of_getElem? (i := 290) (by decide +kernel), List.mem_of_getElem? (i := 394) (by decide +kernel), List.mem_of_getElem? (i := 395) (by decide +kernel)⟩
theorem lw_p39 : lw_okq (⟨"PointCrowdsModel", "least", "(IIJ)I"⟩, 13) := ⟨⟨by decide +kernel, by decide +kernel⟩, List.mem_of_getElem? (i := 290) (by decide +kernel), List.mem_of_getElem? (i := 398) (by decide +kernel), List.mem_of_getElem? (i := 399) (by decide +kernel)⟩
theorem lw_p40 : lw_okq (⟨"PointCrowdsModel", "findDense", "(I)J"⟩, 13) := ⟨⟨by decide +kernel, by decide +kernel⟩, List.mem_of_getElem? (i := 290) (by decide +kernel), List.mem_of_getElem? (i := 426) (by decide +kernel), List.mem_of_getElem? (i := 427) (by decide +kernel)⟩
def lw_privs_3 : List (MethodName × Nat) := [(⟨"PointCrowds", "standsRight", "(I)Z"⟩, 17), (⟨"PointCrowdsModel", "isPoint", "(I)Z"⟩, 13), (⟨"PointCrowdsModel", "points", "()I"⟩, 13), (⟨"PointCrowdsModel", "far", "(IJJ)J"⟩, 13), (⟨"PointCrowdsModel", "find", "(J)V"⟩, 13), (⟨"PointCrowdsModel", "weightWithin", "(IJ)I"⟩, 13), (⟨"PointCrowdsModel", "spread", "(IJ)Z"⟩, 13), (⟨"PointCrowdsModel", "least", "(IIJ)I"⟩, 13), (⟨"PointCrowdsModel", "findDense", "(I)J"⟩, 13)]
theorem lw_r3 : ∀ q ∈ lw_privs_3, lw_okq q := List.forall_mem_cons.mpr ⟨lw_p32, List.forall_mem_cons.mpr ⟨lw_p33, List.forall_mem_cons.mpr ⟨lw_p34, List.forall_mem_cons.mpr ⟨lw_p35, List.forall_mem_cons.mpr ⟨lw_p36, List.forall_mem_cons.mpr ⟨lw_p37, List.forall_mem_cons.mpr ⟨lw_p38, List.forall_mem_cons.mpr ⟨lw_p39, List.forall_mem_cons.mpr ⟨lw_p40, fun _ h => absurd h List.not_mem_nil⟩⟩⟩⟩⟩⟩⟩⟩⟩
def lw_privs : List (MethodName × Nat) := lw_privs_1 ++ (lw_privs_2 ++ (lw_privs_3))
def lw_tbl : List Cond := k2_sels lw_privs ++ tables_1
theorem lw_privs_ok : ∀ q ∈ lw_privs, lw_okq q := by
  show ∀ q ∈ lw_privs_1 ++ (lw_privs_2 ++ (lw_privs_3)), lw_okq q
  exact List.forall_mem_append.mpr ⟨lw_r1, List.forall_mem_append.mpr ⟨lw_r2, lw_r3⟩⟩
-- names (printed by the task, cut to what is used)
def RX0 : String := "PointCrowds"
def TX0 : u_T := fun k => match k with
  | 0 => ("PointCrowds", "weights", "[I", true)
  | 1 => ("PointCrowds", "xs", "[I", true)
  | 2 => ("PointCrowds", "ys", "[I", true)
  | 3 => ("PointCrowds", "wayNow", "I", false)
  | 4 => ("PointCrowds", "reachNow", "J", false)
  | 5 => ("PointCrowds", "demandNow", "I", false)
  | 6 => ("PointCrowds", "core", "[Z", true)
  | 7 => ("PointCrowds", "crowdOf", "[I", true)
  | 8 => ("PointCrowds", "crowdCount", "I", false)
  | 9 => ("PointCrowds", "sortedReach", "J", false)
  | 10 => ("PointCrowds", "sorted", "Z", false)
  | 11 => ("PointCrowds", "coreFrom", "[J", true)
  | 12 => ("PointCrowds", "coreFromKnown", "Z", false)
  | 13 => ("PointCrowds", "nearGap", "[J", true)
  | 14 => ("PointCrowds", "nearWeight", "[I", true)
  | 15 => ("PointCrowds", "cost", "[J", true)
  | _ => ("PointCrowds", "settled", "[Z", true)
def tyX0 : Nat → FieldType := fun k => match k with
  | 0 => .array .int
  | 1 => .array .int
  | 2 => .array .int
  | 3 => .int
  | 4 => .long
  | 5 => .int
  | 6 => .array .boolean
  | 7 => .array .int
  | 8 => .int
  | 9 => .long
  | 10 => .boolean
  | 11 => .array .long
  | 12 => .boolean
  | 13 => .array .long
  | 14 => .array .int
  | 15 => .array .long
  | _ => .array .boolean
abbrev wsX00 : List Cond := u_ws RX0 TX0 17
theorem nmX0 : ∀ a, a < 17 → ∀ b, b < 17 → a ≠ b → (TX0 a).2.1 ≠ (TX0 b).2.1 := by decide +kernel
theorem tyX0_ok : ∀ k, k < 17 → parseFieldDescriptor (TX0 k).2.2.1 = some (tyX0 k) := by decide +kernel
abbrev cX0_init : ByteArray := prog_1_method_1_code
def yX0_init : MethodName := ⟨RX0, "<init>", "()V"⟩
abbrev cX0_point : ByteArray := prog_1_method_2_code
def yX0_point : MethodName := ⟨RX0, "point", "(III)I"⟩
abbrev cX0_remove : ByteArray := prog_1_method_3_code
def yX0_remove : MethodName := ⟨RX0, "remove", "(I)I"⟩
abbrev cX0_move : ByteArray := prog_1_method_4_code
def yX0_move : MethodName := ⟨RX0, "move", "(III)I"⟩
abbrev cX0_way : ByteArray := prog_1_method_5_code
def yX0_way : MethodName := ⟨RX0, "way", "(I)I"⟩
abbrev cX0_reach : ByteArray := prog_1_method_6_code
def yX0_reach : MethodName := ⟨RX0, "reach", "(J)I"⟩
abbrev cX0_demand : ByteArray := prog_1_method_7_code
def yX0_demand : MethodName := ⟨RX0, "demand", "(I)I"⟩
abbrev cX0_distance : ByteArray := prog_1_method_8_code
def yX0_distance : MethodName := ⟨RX0, "distance", "(II)J"⟩
abbrev cX0_kind : ByteArray := prog_1_method_9_code
def yX0_kind : MethodName := ⟨RX0, "kind", "(I)I"⟩
abbrev cX0_crowd : ByteArray := prog_1_method_10_code
def yX0_crowd : MethodName := ⟨RX0, "crowd", "(I)I"⟩
abbrev cX0_around : ByteArray := prog_1_method_11_code
def yX0_around : MethodName := ⟨RX0, "around", "(I)I"⟩
abbrev cX0_dense : ByteArray := prog_1_method_12_code
def yX0_dense : MethodName := ⟨RX0, "dense", "(I)J"⟩
abbrev cX0_meet : ByteArray := prog_1_method_13_code
def yX0_meet : MethodName := ⟨RX0, "meet", "(II)J"⟩
abbrev cX0_count : ByteArray := prog_1_method_14_code
def yX0_count : MethodName := ⟨RX0, "count", "(I)I"⟩
abbrev cX0_about : ByteArray := prog_1_method_15_code
def yX0_about : MethodName := ⟨RX0, "about", "(II)I"⟩
abbrev cX0_belongs : ByteArray := prog_1_method_16_code
def yX0_belongs : MethodName := ⟨RX0, "belongs", "(II)I"⟩
abbrev cX0_crowds : ByteArray := prog_1_method_17_code
def yX0_crowds : MethodName := ⟨RX0, "crowds", "(J)I"⟩
abbrev cX0_check : ByteArray := prog_1_method_18_code
def yX0_check : MethodName := ⟨RX0, "check", "()I"⟩
abbrev cX0_isPlace : ByteArray := prog_1_method_19_code
def yX0_isPlace : MethodName := ⟨RX0, "isPlace", "(II)Z"⟩
abbrev cX0_isPoint : ByteArray := prog_1_method_20_code
def yX0_isPoint : MethodName := ⟨RX0, "isPoint", "(I)Z"⟩
abbrev cX0_leastFree : ByteArray := prog_1_method_21_code
def yX0_leastFree : MethodName := ⟨RX0, "leastFree", "()I"⟩
abbrev cX0_put : ByteArray := prog_1_method_22_code
def yX0_put : MethodName := ⟨RX0, "put", "(III)V"⟩
abbrev cX0_forget : ByteArray := prog_1_method_23_code
def yX0_forget : MethodName := ⟨RX0, "forget", "()V"⟩
abbrev cX0_countPoints : ByteArray := prog_1_method_24_code
def yX0_countPoints : MethodName := ⟨RX0, "countPoints", "()I"⟩
abbrev cX0_countWeights : ByteArray := prog_1_method_25_code
def yX0_countWeights : MethodName := ⟨RX0, "countWeights", "()I"⟩
abbrev cX0_gapBetween : ByteArray := prog_1_method_26_code
def yX0_gapBetween : MethodName := ⟨RX0, "gapBetween", "(II)J"⟩
abbrev cX0_gapTo : ByteArray := prog_1_method_27_code
def yX0_gapTo : MethodName := ⟨RX0, "gapTo", "(III)J"⟩
abbrev cX0_weightWithin : ByteArray := prog_1_method_28_code
def yX0_weightWithin : MethodName := ⟨RX0, "weightWithin", "(IJ)I"⟩
abbrev cX0_sortWith : ByteArray := prog_1_method_29_code
def yX0_sortWith : MethodName := ⟨RX0, "sortWith", "(J)V"⟩
abbrev cX0_markCores : ByteArray := prog_1_method_30_code
def yX0_markCores : MethodName := ⟨RX0, "markCores", "(J)V"⟩
abbrev cX0_gatherCrowds : ByteArray := prog_1_method_31_code
def yX0_gatherCrowds : MethodName := ⟨RX0, "gatherCrowds", "(J)V"⟩
abbrev cX0_gatherFrom : ByteArray := prog_1_method_32_code
def yX0_gatherFrom : MethodName := ⟨RX0, "gatherFrom", "(IJ)V"⟩
abbrev cX0_leastUnsettledCore : ByteArray := prog_1_method_33_code
def yX0_leastUnsettledCore : MethodName := ⟨RX0, "leastUnsettledCore", "()I"⟩
abbrev cX0_gatherCoresNear : ByteArray := prog_1_method_34_code
def yX0_gatherCoresNear : MethodName := ⟨RX0, "gatherCoresNear", "(IJ)V"⟩
abbrev cX0_joinBorders : ByteArray := prog_1_method_35_code
def yX0_joinBorders : MethodName := ⟨RX0, "joinBorders", "(J)V"⟩
abbrev cX0_leastCrowdAt : ByteArray := prog_1_method_36_code
def yX0_leastCrowdAt : MethodName := ⟨RX0, "leastCrowdAt", "(IIJ)I"⟩
abbrev cX0_kindOf : ByteArray := prog_1_method_37_code
def yX0_kindOf : MethodName := ⟨RX0, "kindOf", "(I)I"⟩
abbrev cX0_countKind : ByteArray := prog_1_method_38_code
def yX0_countKind : MethodName := ⟨RX0, "countKind", "(I)I"⟩
abbrev cX0_standsRight : ByteArray := prog_1_method_39_code
def yX0_standsRight : MethodName := ⟨RX0, "standsRight", "(I)Z"⟩
abbrev cX0_pointsOf : ByteArray := prog_1_method_40_code
def yX0_pointsOf : MethodName := ⟨RX0, "pointsOf", "(I)I"⟩
abbrev cX0_coresOf : ByteArray := prog_1_method_41_code
def yX0_coresOf : MethodName := ⟨RX0, "coresOf", "(I)I"⟩
abbrev cX0_weightsOf : ByteArray := prog_1_method_42_code
def yX0_weightsOf : MethodName := ⟨RX0, "weightsOf", "(I)I"⟩
abbrev cX0_leastCoreOf : ByteArray := prog_1_method_43_code
def yX0_leastCoreOf : MethodName := ⟨RX0, "leastCoreOf", "(I)I"⟩
abbrev cX0_leastOf : ByteArray := prog_1_method_44_code
def yX0_leastOf : MethodName := ⟨RX0, "leastOf", "([II)I"⟩
abbrev cX0_greatestOf : ByteArray := prog_1_method_45_code
def yX0_greatestOf : MethodName := ⟨RX0, "greatestOf", "([II)I"⟩
abbrev cX0_findCoreFrom : ByteArray := prog_1_method_46_code
def yX0_findCoreFrom : MethodName := ⟨RX0, "findCoreFrom", "()V"⟩
abbrev cX0_leastReachAsCore : ByteArray := prog_1_method_47_code
def yX0_leastReachAsCore : MethodName := ⟨RX0, "leastReachAsCore", "(I)J"⟩
abbrev cX0_lastGap : ByteArray := prog_1_method_48_code
def yX0_lastGap : MethodName := ⟨RX0, "lastGap", "(I)J"⟩
abbrev cX0_keepNear : ByteArray := prog_1_method_49_code
def yX0_keepNear : MethodName := ⟨RX0, "keepNear", "(IJI)I"⟩
abbrev cX0_leastReachFrom : ByteArray := prog_1_method_50_code
def yX0_leastReachFrom : MethodName := ⟨RX0, "leastReachFrom", "(II)J"⟩
abbrev cX0_cheapestUnsettled : ByteArray := prog_1_method_51_code
def yX0_cheapestUnsettled : MethodName := ⟨RX0, "cheapestUnsettled", "()I"⟩
abbrev cX0_reachOnFrom : ByteArray := prog_1_method_52_code
def yX0_reachOnFrom : MethodName := ⟨RX0, "reachOnFrom", "(I)V"⟩
def RX1 : String := "PointCrowdsModel"
def TX1 : u_T := fun k => match k with
  | 0 => ("PointCrowdsModel", "is", "[Z", true)
  | 1 => ("PointCrowdsModel", "xs", "[I", true)
  | 2 => ("PointCrowdsModel", "ys", "[I", true)
  | 3 => ("PointCrowdsModel", "weights", "[I", true)
  | 4 => ("PointCrowdsModel", "way", "I", false)
  | 5 => ("PointCrowdsModel", "reach", "J", false)
  | 6 => ("PointCrowdsModel", "demand", "I", false)
  | 7 => ("PointCrowdsModel", "core", "[Z", true)
  | 8 => ("PointCrowdsModel", "crowdOf", "[I", true)
  | 9 => ("PointCrowdsModel", "crowds", "I", false)
  | 10 => ("PointCrowdsModel", "done", "[Z", true)
  | 11 => ("PointCrowdsModel", "cost", "[J", true)
  | _ => ("PointCrowdsModel", "denseOf", "[J", true)
def tyX1 : Nat → FieldType := fun k => match k with
  | 0 => .array .boolean
  | 1 => .array .int
  | 2 => .array .int
  | 3 => .array .int
  | 4 => .int
  | 5 => .long
  | 6 => .int
  | 7 => .array .boolean
  | 8 => .array .int
  | 9 => .int
  | 10 => .array .boolean
  | 11 => .array .long
  | _ => .array .long
abbrev wsX10 : List Cond := u_ws RX1 TX1 13
theorem nmX1 : ∀ a, a < 13 → ∀ b, b < 13 → a ≠ b → (TX1 a).2.1 ≠ (TX1 b).2.1 := by decide +kernel
theorem tyX1_ok : ∀ k, k < 13 → parseFieldDescriptor (TX1 k).2.2.1 = some (tyX1 k) := by decide +kernel
abbrev cX1_init : ByteArray := prog_3_method_1_code
def yX1_init : MethodName := ⟨RX1, "<init>", "()V"⟩
abbrev cX1_isPlace : ByteArray := prog_3_method_2_code
def yX1_isPlace : MethodName := ⟨RX1, "isPlace", "(II)Z"⟩
abbrev cX1_isPoint : ByteArray := prog_3_method_3_code
def yX1_isPoint : MethodName := ⟨RX1, "isPoint", "(I)Z"⟩
abbrev cX1_point : ByteArray := prog_3_method_4_code
def yX1_point : MethodName := ⟨RX1, "point", "(III)I"⟩
abbrev cX1_points : ByteArray := prog_3_method_5_code
def yX1_points : MethodName := ⟨RX1, "points", "()I"⟩
abbrev cX1_remove : ByteArray := prog_3_method_6_code
def yX1_remove : MethodName := ⟨RX1, "remove", "(I)I"⟩
abbrev cX1_move : ByteArray := prog_3_method_7_code
def yX1_move : MethodName := ⟨RX1, "move", "(III)I"⟩
abbrev cX1_way : ByteArray := prog_3_method_8_code
def yX1_way : MethodName := ⟨RX1, "way", "(I)I"⟩
abbrev cX1_reach : ByteArray := prog_3_method_9_code
def yX1_reach : MethodName := ⟨RX1, "reach", "(J)I"⟩
abbrev cX1_demand : ByteArray := prog_3_method_10_code
def yX1_demand : MethodName := ⟨RX1, "demand", "(I)I"⟩
abbrev cX1_far : ByteArray := prog_3_method_11_code
def yX1_far : MethodName := ⟨RX1, "far", "(IJJ)J"⟩
abbrev cX1_distance : ByteArray := prog_3_method_12_code
def yX1_distance : MethodName := ⟨RX1, "distance", "(II)J"⟩
abbrev cX1_weightWithin : ByteArray := prog_3_method_13_code
def yX1_weightWithin : MethodName := ⟨RX1, "weightWithin", "(IJ)I"⟩
abbrev cX1_find : ByteArray := prog_3_method_14_code
def yX1_find : MethodName := ⟨RX1, "find", "(J)V"⟩
abbrev cX1_spread : ByteArray := prog_3_method_15_code
def yX1_spread : MethodName := ⟨RX1, "spread", "(IJ)Z"⟩
abbrev cX1_least : ByteArray := prog_3_method_16_code
def yX1_least : MethodName := ⟨RX1, "least", "(IIJ)I"⟩
abbrev cX1_kind : ByteArray := prog_3_method_17_code
def yX1_kind : MethodName := ⟨RX1, "kind", "(I)I"⟩
abbrev cX1_crowd : ByteArray := prog_3_method_18_code
def yX1_crowd : MethodName := ⟨RX1, "crowd", "(I)I"⟩
abbrev cX1_count : ByteArray := prog_3_method_19_code
def yX1_count : MethodName := ⟨RX1, "count", "(I)I"⟩
abbrev cX1_about : ByteArray := prog_3_method_20_code
def yX1_about : MethodName := ⟨RX1, "about", "(II)I"⟩
abbrev cX1_around : ByteArray := prog_3_method_21_code
def yX1_around : MethodName := ⟨RX1, "around", "(I)I"⟩
abbrev cX1_belongs : ByteArray := prog_3_method_22_code
def yX1_belongs : MethodName := ⟨RX1, "belongs", "(II)I"⟩
abbrev cX1_findDense : ByteArray := prog_3_method_23_code
def yX1_findDense : MethodName := ⟨RX1, "findDense", "(I)J"⟩
abbrev cX1_dense : ByteArray := prog_3_method_24_code
def yX1_dense : MethodName := ⟨RX1, "dense", "(I)J"⟩
abbrev cX1_greater : ByteArray := prog_3_method_25_code
def yX1_greater : MethodName := ⟨RX1, "greater", "(JJ)J"⟩
abbrev cX1_meet : ByteArray := prog_3_method_26_code
def yX1_meet : MethodName := ⟨RX1, "meet", "(II)J"⟩
abbrev cX1_crowds : ByteArray := prog_3_method_27_code
def yX1_crowds : MethodName := ⟨RX1, "crowds", "(J)I"⟩
abbrev cX1_check : ByteArray := prog_3_method_28_code
def yX1_check : MethodName := ⟨RX1, "check", "()I"⟩
def RL : String := "PointCrowdsLaw"
abbrev cL_law : ByteArray := code
def yL_law : MethodName := ⟨RL, "law", "([I)Z"⟩
def wsL_law_r1 : List Cond := [Cond.classLink RL 7 RX0, Cond.instantiable RX0 17, Cond.initialized RX0, Cond.classLink RL 10 RX1, Cond.instantiable RX1 13, Cond.initialized RX1, Cond.constantLong RL 31 (4294967295), Cond.methodLink RL 9 yX0_init, Cond.instanceMethod yX0_init, Cond.code yX0_init cX0_init 1 none, Cond.methodLink RX0 3 objectInit, Cond.instanceMethod objectInit, Cond.code objectInit ⟨#[0xb1]⟩ 1 none, Cond.arrayClass .int, Cond.fieldLink RX0 9 "PointCrowds" "weights" "[I", Cond.fieldLink RX0 13 "PointCrowds" "xs" "[I", Cond.fieldLink RX0 16 "PointCrowds" "ys" "[I", Cond.fieldLink RX0 19 "PointCrowds" "wayNow" "I", Cond.fieldLink RX0 23 "PointCrowds" "reachNow" "J", Cond.fieldLink RX0 27 "PointCrowds" "demandNow" "I", Cond.arrayClass .boolean, Cond.fieldLink RX0 30 "PointCrowds" "core" "[Z", Cond.fieldLink RX0 34 "PointCrowds" "crowdOf" "[I", Cond.fieldLink RX0 37 "PointCrowds" "crowdCount" "I"]
def wsL_law_r2 : List Cond := [Cond.fieldLink RX0 40 "PointCrowds" "sortedReach" "J", Cond.fieldLink RX0 43 "PointCrowds" "sorted" "Z", Cond.arrayClass .long, Cond.fieldLink RX0 47 "PointCrowds" "coreFrom" "[J", Cond.fieldLink RX0 51 "PointCrowds" "coreFromKnown" "Z", Cond.fieldLink RX0 54 "PointCrowds" "nearGap" "[J", Cond.fieldLink RX0 57 "PointCrowds" "nearWeight" "[I", Cond.fieldLink RX0 60 "PointCrowds" "cost" "[J", Cond.fieldLink RX0 63 "PointCrowds" "settled" "[Z", Cond.methodLink RL 12 yX1_init, Cond.instanceMethod yX1_init, Cond.code yX1_init cX1_init 1 none, Cond.methodLink RX1 1 objectInit, Cond.fieldLink RX1 7 "PointCrowdsModel" "is" "[Z", Cond.fieldLink RX1 13 "PointCrowdsModel" "xs" "[I", Cond.fieldLink RX1 17 "PointCrowdsModel" "ys" "[I", Cond.fieldLink RX1 20 "PointCrowdsModel" "weights" "[I", Cond.fieldLink RX1 23 "PointCrowdsModel" "demand" "I", Cond.fieldLink RX1 27 "PointCrowdsModel" "core" "[Z", Cond.fieldLink RX1 30 "PointCrowdsModel" "crowdOf" "[I", Cond.fieldLink RX1 33 "PointCrowdsModel" "done" "[Z", Cond.fieldLink RX1 36 "PointCrowdsModel" "cost" "[J", Cond.fieldLink RX1 40 "PointCrowdsModel" "denseOf" "[J", Cond.methodLink RL 13 yX0_point]
def wsL_law_r3 : List Cond := [Cond.instanceMethod yX0_point, Cond.selects RX0 yX0_point yX0_point, Cond.code yX0_point cX0_point 5 (some .int), Cond.methodLink RX0 66 yX0_isPlace, Cond.static yX0_isPlace, Cond.code yX0_isPlace cX0_isPlace 2 (some .boolean), Cond.constant RX0 148 (-1073741823), Cond.constant RX0 149 (1073741823), Cond.methodLink RX0 70 yX0_leastFree, Cond.instanceMethod yX0_leastFree, Cond.selects RX0 yX0_leastFree yX0_leastFree, Cond.code yX0_leastFree cX0_leastFree 2 (some .int), Cond.methodLink RX0 74 yX0_put, Cond.instanceMethod yX0_put, Cond.selects RX0 yX0_put yX0_put, Cond.code yX0_put cX0_put 4 none, Cond.methodLink RX0 82 yX0_forget, Cond.instanceMethod yX0_forget, Cond.selects RX0 yX0_forget yX0_forget, Cond.code yX0_forget cX0_forget 1 none, Cond.methodLink RL 17 yX1_point, Cond.instanceMethod yX1_point, Cond.selects RX1 yX1_point yX1_point, Cond.code yX1_point cX1_point 5 (some .int)]
def wsL_law_r4 : List Cond := [Cond.methodLink RX1 45 yX1_isPlace, Cond.static yX1_isPlace, Cond.code yX1_isPlace cX1_isPlace 2 (some .boolean), Cond.constant RX1 43 (-1073741823), Cond.constant RX1 44 (1073741823), Cond.methodLink RL 18 yX0_remove, Cond.instanceMethod yX0_remove, Cond.selects RX0 yX0_remove yX0_remove, Cond.code yX0_remove cX0_remove 2 (some .int), Cond.methodLink RX0 78 yX0_isPoint, Cond.instanceMethod yX0_isPoint, Cond.selects RX0 yX0_isPoint yX0_isPoint, Cond.code yX0_isPoint cX0_isPoint 2 (some .boolean), Cond.methodLink RX0 85 yX0_countPoints, Cond.instanceMethod yX0_countPoints, Cond.selects RX0 yX0_countPoints yX0_countPoints, Cond.code yX0_countPoints cX0_countPoints 3 (some .int), Cond.methodLink RL 22 yX1_remove, Cond.instanceMethod yX1_remove, Cond.selects RX1 yX1_remove yX1_remove, Cond.code yX1_remove cX1_remove 2 (some .int), Cond.methodLink RX1 49 yX1_isPoint, Cond.instanceMethod yX1_isPoint, Cond.selects RX1 yX1_isPoint yX1_isPoint]
def wsL_law_r5 : List Cond := [Cond.code yX1_isPoint cX1_isPoint 2 (some .boolean), Cond.methodLink RX1 53 yX1_points, Cond.instanceMethod yX1_points, Cond.selects RX1 yX1_points yX1_points, Cond.code yX1_points cX1_points 3 (some .int), Cond.methodLink RL 23 yX0_move, Cond.instanceMethod yX0_move, Cond.selects RX0 yX0_move yX0_move, Cond.code yX0_move cX0_move 4 (some .int), Cond.methodLink RL 26 yX1_move, Cond.instanceMethod yX1_move, Cond.selects RX1 yX1_move yX1_move, Cond.code yX1_move cX1_move 4 (some .int), Cond.methodLink RL 27 yX0_way, Cond.instanceMethod yX0_way, Cond.selects RX0 yX0_way yX0_way, Cond.code yX0_way cX0_way 2 (some .int), Cond.methodLink RL 30 yX1_way, Cond.instanceMethod yX1_way, Cond.selects RX1 yX1_way yX1_way, Cond.code yX1_way cX1_way 2 (some .int), Cond.fieldLink RX1 57 "PointCrowdsModel" "way" "I", Cond.methodLink RL 33 yX0_reach, Cond.instanceMethod yX0_reach]
def wsL_law_r6 : List Cond := [Cond.selects RX0 yX0_reach yX0_reach, Cond.code yX0_reach cX0_reach 3 (some .int), Cond.methodLink RL 37 yX1_reach, Cond.instanceMethod yX1_reach, Cond.selects RX1 yX1_reach yX1_reach, Cond.code yX1_reach cX1_reach 3 (some .int), Cond.fieldLink RX1 60 "PointCrowdsModel" "reach" "J", Cond.methodLink RL 38 yX0_demand, Cond.instanceMethod yX0_demand, Cond.selects RX0 yX0_demand yX0_demand, Cond.code yX0_demand cX0_demand 2 (some .int), Cond.methodLink RL 41 yX1_demand, Cond.instanceMethod yX1_demand, Cond.selects RX1 yX1_demand yX1_demand, Cond.code yX1_demand cX1_demand 2 (some .int), Cond.methodLink RL 42 yX0_distance, Cond.instanceMethod yX0_distance, Cond.selects RX0 yX0_distance yX0_distance, Cond.code yX0_distance cX0_distance 3 (some .long), Cond.constantLong RX0 88 (-1), Cond.methodLink RX0 90 yX0_gapBetween, Cond.instanceMethod yX0_gapBetween, Cond.selects RX0 yX0_gapBetween yX0_gapBetween, Cond.code yX0_gapBetween cX0_gapBetween 3 (some .long)]
def wsL_law_r7 : List Cond := [Cond.methodLink RX0 150 yX0_gapTo, Cond.instanceMethod yX0_gapTo, Cond.selects RX0 yX0_gapTo yX0_gapTo, Cond.code yX0_gapTo cX0_gapTo 8 (some .long), Cond.methodLink RX0 154 Lib.MathLoose.abs_long.x, Cond.static Lib.MathLoose.abs_long.x, Cond.initialized "java/lang/Math", Cond.code Lib.MathLoose.abs_long.x Lib.MathLoose.abs_long.code 2 (some .long), Cond.methodLink RX0 160 Lib.MathLoose.max_long.x, Cond.static Lib.MathLoose.max_long.x, Cond.code Lib.MathLoose.max_long.x Lib.MathLoose.max_long.code 4 (some .long), Cond.methodLink RL 46 yX1_distance, Cond.instanceMethod yX1_distance, Cond.selects RX1 yX1_distance yX1_distance, Cond.code yX1_distance cX1_distance 3 (some .long), Cond.constantLong RX1 68 (-1), Cond.methodLink RX1 64 yX1_far, Cond.instanceMethod yX1_far, Cond.selects RX1 yX1_far yX1_far, Cond.code yX1_far cX1_far 10 (some .long), Cond.methodLink RL 47 yX0_kind, Cond.instanceMethod yX0_kind, Cond.selects RX0 yX0_kind yX0_kind, Cond.code yX0_kind cX0_kind 2 (some .int)]
def wsL_law_r8 : List Cond := [Cond.methodLink RX0 94 yX0_sortWith, Cond.instanceMethod yX0_sortWith, Cond.selects RX0 yX0_sortWith yX0_sortWith, Cond.code yX0_sortWith cX0_sortWith 3 none, Cond.methodLink RX0 164 yX0_markCores, Cond.instanceMethod yX0_markCores, Cond.selects RX0 yX0_markCores yX0_markCores, Cond.code yX0_markCores cX0_markCores 4 none, Cond.methodLink RX0 102 yX0_weightWithin, Cond.instanceMethod yX0_weightWithin, Cond.selects RX0 yX0_weightWithin yX0_weightWithin, Cond.code yX0_weightWithin cX0_weightWithin 6 (some .int), Cond.methodLink RX0 167 yX0_gatherCrowds, Cond.instanceMethod yX0_gatherCrowds, Cond.selects RX0 yX0_gatherCrowds yX0_gatherCrowds, Cond.code yX0_gatherCrowds cX0_gatherCrowds 4 none, Cond.methodLink RX0 173 yX0_gatherFrom, Cond.instanceMethod yX0_gatherFrom, Cond.selects RX0 yX0_gatherFrom yX0_gatherFrom, Cond.code yX0_gatherFrom cX0_gatherFrom 6 none, Cond.methodLink RX0 177 yX0_leastUnsettledCore, Cond.instanceMethod yX0_leastUnsettledCore, Cond.selects RX0 yX0_leastUnsettledCore yX0_leastUnsettledCore, Cond.code yX0_leastUnsettledCore cX0_leastUnsettledCore 2 (some .int)]
def wsL_law_r9 : List Cond := [Cond.methodLink RX0 180 yX0_gatherCoresNear, Cond.instanceMethod yX0_gatherCoresNear, Cond.selects RX0 yX0_gatherCoresNear yX0_gatherCoresNear, Cond.code yX0_gatherCoresNear cX0_gatherCoresNear 5 none, Cond.methodLink RX0 170 yX0_joinBorders, Cond.instanceMethod yX0_joinBorders, Cond.selects RX0 yX0_joinBorders yX0_joinBorders, Cond.code yX0_joinBorders cX0_joinBorders 4 none, Cond.methodLink RX0 141 yX0_leastCrowdAt, Cond.instanceMethod yX0_leastCrowdAt, Cond.selects RX0 yX0_leastCrowdAt yX0_leastCrowdAt, Cond.code yX0_leastCrowdAt cX0_leastCrowdAt 7 (some .int), Cond.methodLink RX0 98 yX0_kindOf, Cond.instanceMethod yX0_kindOf, Cond.selects RX0 yX0_kindOf yX0_kindOf, Cond.code yX0_kindOf cX0_kindOf 2 (some .int), Cond.methodLink RL 50 yX1_kind, Cond.instanceMethod yX1_kind, Cond.selects RX1 yX1_kind yX1_kind, Cond.code yX1_kind cX1_kind 2 (some .int), Cond.methodLink RX1 85 yX1_find, Cond.instanceMethod yX1_find, Cond.selects RX1 yX1_find yX1_find, Cond.code yX1_find cX1_find 6 none]
def wsL_law_r10 : List Cond := [Cond.fieldLink RX1 70 "PointCrowdsModel" "crowds" "I", Cond.methodLink RX1 73 yX1_weightWithin, Cond.instanceMethod yX1_weightWithin, Cond.selects RX1 yX1_weightWithin yX1_weightWithin, Cond.code yX1_weightWithin cX1_weightWithin 6 (some .int), Cond.methodLink RX1 77 yX1_spread, Cond.instanceMethod yX1_spread, Cond.selects RX1 yX1_spread yX1_spread, Cond.code yX1_spread cX1_spread 6 (some .boolean), Cond.methodLink RX1 81 yX1_least, Cond.instanceMethod yX1_least, Cond.selects RX1 yX1_least yX1_least, Cond.code yX1_least cX1_least 7 (some .int), Cond.methodLink RL 51 yX0_crowd, Cond.instanceMethod yX0_crowd, Cond.selects RX0 yX0_crowd yX0_crowd, Cond.code yX0_crowd cX0_crowd 2 (some .int), Cond.methodLink RL 54 yX1_crowd, Cond.instanceMethod yX1_crowd, Cond.selects RX1 yX1_crowd yX1_crowd, Cond.code yX1_crowd cX1_crowd 2 (some .int), Cond.methodLink RL 55 yX0_count, Cond.instanceMethod yX0_count, Cond.selects RX0 yX0_count yX0_count]
def wsL_law_r11 : List Cond := [Cond.code yX0_count cX0_count 2 (some .int), Cond.methodLink RX0 119 yX0_countKind, Cond.instanceMethod yX0_countKind, Cond.selects RX0 yX0_countKind yX0_countKind, Cond.code yX0_countKind cX0_countKind 4 (some .int), Cond.methodLink RX0 110 yX0_countWeights, Cond.instanceMethod yX0_countWeights, Cond.selects RX0 yX0_countWeights yX0_countWeights, Cond.code yX0_countWeights cX0_countWeights 3 (some .int), Cond.methodLink RL 58 yX1_count, Cond.instanceMethod yX1_count, Cond.selects RX1 yX1_count yX1_count, Cond.code yX1_count cX1_count 6 (some .int), Cond.methodLink RL 59 yX0_about, Cond.instanceMethod yX0_about, Cond.selects RX0 yX0_about yX0_about, Cond.code yX0_about cX0_about 3 (some .int), Cond.methodLink RX0 122 yX0_pointsOf, Cond.instanceMethod yX0_pointsOf, Cond.selects RX0 yX0_pointsOf yX0_pointsOf, Cond.code yX0_pointsOf cX0_pointsOf 4 (some .int), Cond.methodLink RX0 125 yX0_coresOf, Cond.instanceMethod yX0_coresOf, Cond.selects RX0 yX0_coresOf yX0_coresOf]
def wsL_law_r12 : List Cond := [Cond.code yX0_coresOf cX0_coresOf 4 (some .int), Cond.methodLink RX0 128 yX0_weightsOf, Cond.instanceMethod yX0_weightsOf, Cond.selects RX0 yX0_weightsOf yX0_weightsOf, Cond.code yX0_weightsOf cX0_weightsOf 4 (some .int), Cond.methodLink RX0 131 yX0_leastCoreOf, Cond.instanceMethod yX0_leastCoreOf, Cond.selects RX0 yX0_leastCoreOf yX0_leastCoreOf, Cond.code yX0_leastCoreOf cX0_leastCoreOf 3 (some .int), Cond.methodLink RX0 134 yX0_leastOf, Cond.instanceMethod yX0_leastOf, Cond.selects RX0 yX0_leastOf yX0_leastOf, Cond.code yX0_leastOf cX0_leastOf 5 (some .int), Cond.methodLink RX0 183 Lib.Math.min.name, Cond.static Lib.Math.min.name, Cond.code Lib.Math.min.name Lib.Math.min.code 2 (some .int), Cond.methodLink RX0 138 yX0_greatestOf, Cond.instanceMethod yX0_greatestOf, Cond.selects RX0 yX0_greatestOf yX0_greatestOf, Cond.code yX0_greatestOf cX0_greatestOf 5 (some .int), Cond.methodLink RX0 187 Lib.Math.max.name, Cond.static Lib.Math.max.name, Cond.code Lib.Math.max.name Lib.Math.max.code 2 (some .int), Cond.methodLink RL 63 yX1_about]
def wsL_law_r13 : List Cond := [Cond.instanceMethod yX1_about, Cond.selects RX1 yX1_about yX1_about, Cond.code yX1_about cX1_about 12 (some .int), Cond.methodLink RL 64 yX0_around, Cond.instanceMethod yX0_around, Cond.selects RX0 yX0_around yX0_around, Cond.code yX0_around cX0_around 2 (some .int), Cond.methodLink RL 67 yX1_around, Cond.instanceMethod yX1_around, Cond.selects RX1 yX1_around yX1_around, Cond.code yX1_around cX1_around 2 (some .int), Cond.methodLink RL 68 yX0_belongs, Cond.instanceMethod yX0_belongs, Cond.selects RX0 yX0_belongs yX0_belongs, Cond.code yX0_belongs cX0_belongs 3 (some .int), Cond.methodLink RL 71 yX1_belongs, Cond.instanceMethod yX1_belongs, Cond.selects RX1 yX1_belongs yX1_belongs, Cond.code yX1_belongs cX1_belongs 3 (some .int), Cond.methodLink RL 72 yX0_dense, Cond.instanceMethod yX0_dense, Cond.selects RX0 yX0_dense yX0_dense, Cond.code yX0_dense cX0_dense 2 (some .long), Cond.methodLink RX0 106 yX0_leastReachAsCore]
def wsL_law_r14 : List Cond := [Cond.instanceMethod yX0_leastReachAsCore, Cond.selects RX0 yX0_leastReachAsCore yX0_leastReachAsCore, Cond.code yX0_leastReachAsCore cX0_leastReachAsCore 7 (some .long), Cond.methodLink RX0 189 yX0_lastGap, Cond.instanceMethod yX0_lastGap, Cond.selects RX0 yX0_lastGap yX0_lastGap, Cond.code yX0_lastGap cX0_lastGap 2 (some .long), Cond.methodLink RX0 192 yX0_keepNear, Cond.instanceMethod yX0_keepNear, Cond.selects RX0 yX0_keepNear yX0_keepNear, Cond.code yX0_keepNear cX0_keepNear 6 (some .int), Cond.methodLink RL 76 yX1_dense, Cond.instanceMethod yX1_dense, Cond.selects RX1 yX1_dense yX1_dense, Cond.code yX1_dense cX1_dense 2 (some .long), Cond.methodLink RX1 89 yX1_findDense, Cond.instanceMethod yX1_findDense, Cond.selects RX1 yX1_findDense yX1_findDense, Cond.code yX1_findDense cX1_findDense 7 (some .long), Cond.methodLink RL 77 yX0_meet, Cond.instanceMethod yX0_meet, Cond.selects RX0 yX0_meet yX0_meet, Cond.code yX0_meet cX0_meet 3 (some .long), Cond.methodLink RX0 113 yX0_findCoreFrom]
def wsL_law_r15 : List Cond := [Cond.instanceMethod yX0_findCoreFrom, Cond.selects RX0 yX0_findCoreFrom yX0_findCoreFrom, Cond.code yX0_findCoreFrom cX0_findCoreFrom 2 none, Cond.methodLink RX0 116 yX0_leastReachFrom, Cond.instanceMethod yX0_leastReachFrom, Cond.selects RX0 yX0_leastReachFrom yX0_leastReachFrom, Cond.code yX0_leastReachFrom cX0_leastReachFrom 5 (some .long), Cond.constantLong RX0 198 (9223372036854775807), Cond.methodLink RX0 200 yX0_cheapestUnsettled, Cond.instanceMethod yX0_cheapestUnsettled, Cond.selects RX0 yX0_cheapestUnsettled yX0_cheapestUnsettled, Cond.code yX0_cheapestUnsettled cX0_cheapestUnsettled 3 (some .int), Cond.methodLink RX0 203 yX0_reachOnFrom, Cond.instanceMethod yX0_reachOnFrom, Cond.selects RX0 yX0_reachOnFrom yX0_reachOnFrom, Cond.code yX0_reachOnFrom cX0_reachOnFrom 5 none, Cond.methodLink RX0 207 Lib.MathLoose.min_long.x, Cond.static Lib.MathLoose.min_long.x, Cond.code Lib.MathLoose.min_long.x Lib.MathLoose.min_long.code 4 (some .long), Cond.methodLink RL 80 yX1_meet, Cond.instanceMethod yX1_meet, Cond.selects RX1 yX1_meet yX1_meet, Cond.code yX1_meet cX1_meet 8 (some .long), Cond.methodLink RX1 93 yX1_greater]
def wsL_law_r16 : List Cond := [Cond.static yX1_greater, Cond.code yX1_greater cX1_greater 4 (some .long), Cond.methodLink RL 81 yX0_crowds, Cond.instanceMethod yX0_crowds, Cond.selects RX0 yX0_crowds yX0_crowds, Cond.code yX0_crowds cX0_crowds 3 (some .int), Cond.methodLink RL 84 yX1_crowds, Cond.instanceMethod yX1_crowds, Cond.selects RX1 yX1_crowds yX1_crowds, Cond.code yX1_crowds cX1_crowds 3 (some .int), Cond.methodLink RL 85 yX0_check, Cond.instanceMethod yX0_check, Cond.selects RX0 yX0_check yX0_check, Cond.code yX0_check cX0_check 2 (some .int), Cond.methodLink RX0 145 yX0_standsRight, Cond.instanceMethod yX0_standsRight, Cond.selects RX0 yX0_standsRight yX0_standsRight, Cond.code yX0_standsRight cX0_standsRight 6 (some .boolean), Cond.methodLink RL 89 yX1_check, Cond.instanceMethod yX1_check, Cond.selects RX1 yX1_check yX1_check, Cond.code yX1_check cX1_check 1 (some .int)]
def wsL_law : List Cond := (wsL_law_r1 ++ (wsL_law_r2 ++ (wsL_law_r3 ++ (wsL_law_r4 ++ (wsL_law_r5 ++ (wsL_law_r6 ++ (wsL_law_r7 ++ (wsL_law_r8 ++ (wsL_law_r9 ++ (wsL_law_r10 ++ (wsL_law_r11 ++ (wsL_law_r12 ++ (wsL_law_r13 ++ (wsL_law_r14 ++ (wsL_law_r15 ++ wsL_law_r16))))))))))))))) ++ wsX00 ++ wsX10 ++ ([] : List Cond)
theorem inlX0 : ∀ w ∈ wsX00, w ∈ wsL_law := fun _ h => List.mem_append_left _ (List.mem_append_left _ (List.mem_append_right _ h))
theorem inlX1 : ∀ w ∈ wsX10, w ∈ wsL_law := fun _ h => List.mem_append_left _ (List.mem_append_right _ h)
abbrev vwCl : List vw_C := [(RX0, TX0, 17), (RX1, TX1, 13)]
/-- the objects of PointCrowds, kind 0: what each holds, by its address -/
theorem inr1 : ∀ w ∈ wsL_law_r1, w ∈ wsL_law := fun w h => List.mem_append_left _ (List.mem_append_left _ (List.mem_append_left _ (List.mem_append_left _ h)))
theorem inr2 : ∀ w ∈ wsL_law_r2, w ∈ wsL_law := fun w h => List.mem_append_left _ (List.mem_append_left _ (List.mem_append_left _ (List.mem_append_right _ (List.mem_append_left _ h))))
theorem inr3 : ∀ w ∈ wsL_law_r3, w ∈ wsL_law := fun w h => List.mem_append_left _ (List.mem_append_left _ (List.mem_append_left _ (List.mem_append_right _ (List.mem_append_right _ (List.mem_append_left _ h)))))
theorem inr4 : ∀ w ∈ wsL_law_r4, w ∈ wsL_law := fun w h => List.mem_append_left _ (List.mem_append_left _ (List.mem_append_left _ (List.mem_append_right _ (List.mem_append_right _ (List.mem_append_right _ (List.mem_append_left _ h))))))
theorem inr5 : ∀ w ∈ wsL_law_r5, w ∈ wsL_law := fun w h => List.mem_append_left _ (List.mem_append_left _ (List.mem_append_left _ (List.mem_append_right _ (List.mem_append_right _ (List.mem_append_right _ (List.mem_append_right _ (List.mem_append_left _ h)))))))
theorem inr6 : ∀ w ∈ wsL_law_r6, w ∈ wsL_law := fun w h => List.mem_append_left _ (List.mem_append_left _ (List.mem_append_left _ (List.mem_append_right _ (List.mem_append_right _ (List.mem_append_right _ (List.mem_append_right _ (List.mem_append_right _ (List.mem_append_left _ h))))))))
theorem inr7 : ∀ w ∈ wsL_law_r7, w ∈ wsL_law := fun w h => List.mem_append_left _ (List.mem_append_left _ (List.mem_append_left _ (List.mem_append_right _ (List.mem_append_right _ (List.mem_append_right _ (List.mem_append_right _ (List.mem_append_right _ (List.mem_append_right _ (List.mem_append_left _ h)))))))))
theorem inr8 : ∀ w ∈ wsL_law_r8, w ∈ wsL_law := fun w h => List.mem_append_left _ (List.mem_append_left _ (List.mem_append_left _ (List.mem_append_right _ (List.mem_append_right _ (List.mem_append_right _ (List.mem_append_right _ (List.mem_append_right _ (List.mem_append_right _ (List.mem_append_right _ (List.mem_append_left _ h))))))))))
theorem inr9 : ∀ w ∈ wsL_law_r9, w ∈ wsL_law := fun w h => List.mem_append_left _ (List.mem_append_left _ (List.mem_append_left _ (List.mem_append_right _ (List.mem_append_right _ (List.mem_append_right _ (List.mem_append_right _ (List.mem_append_right _ (List.mem_append_right _ (List.mem_append_right _ (List.mem_append_right _ (List.mem_append_left _ h)))))))))))
theorem inr10 : ∀ w ∈ wsL_law_r10, w ∈ wsL_law := fun w h => List.mem_append_left _ (List.mem_append_left _ (List.mem_append_left _ (List.mem_append_right _ (List.mem_append_right _ (List.mem_append_right _ (List.mem_append_right _ (List.mem_append_right _ (List.mem_append_right _ (List.mem_append_right _ (List.mem_append_right _ (List.mem_append_right _ (List.mem_append_left _ h))))))))))))
theorem inr11 : ∀ w ∈ wsL_law_r11, w ∈ wsL_law := fun w h => List.mem_append_left _ (List.mem_append_left _ (List.mem_append_left _ (List.mem_append_right _ (List.mem_append_right _ (List.mem_append_right _ (List.mem_append_right _ (List.mem_append_right _ (List.mem_append_right _ (List.mem_append_right _ (List.mem_append_right _ (List.mem_append_right _ (List.mem_append_right _ (List.mem_append_left _ h)))))))))))))
theorem inr12 : ∀ w ∈ wsL_law_r12, w ∈ wsL_law := fun w h => List.mem_append_left _ (List.mem_append_left _ (List.mem_append_left _ (List.mem_append_right _ (List.mem_append_right _ (List.mem_append_right _ (List.mem_append_right _ (List.mem_append_right _ (List.mem_append_right _ (List.mem_append_right _ (List.mem_append_right _ (List.mem_append_right _ (List.mem_append_right _ (List.mem_append_right _ (List.mem_append_left _ h))))))))))))))
theorem inr13 : ∀ w ∈ wsL_law_r13, w ∈ wsL_law := fun w h => List.mem_append_left _ (List.mem_append_left _ (List.mem_append_left _ (List.mem_append_right _ (List.mem_append_right _ (List.mem_append_right _ (List.mem_append_right _ (List.mem_append_right _ (List.mem_append_right _ (List.mem_append_right _ (List.mem_append_right _ (List.mem_append_right _ (List.mem_append_right _ (List.mem_append_right _ (List.mem_append_right _ (List.mem_append_left _ h)))))))))))))))
theorem inr14 : ∀ w ∈ wsL_law_r14, w ∈ wsL_law := fun w h => List.mem_append_left _ (List.mem_append_left _ (List.mem_append_left _ (List.mem_append_right _ (List.mem_append_right _ (List.mem_append_right _ (List.mem_append_right _ (List.mem_append_right _ (List.mem_append_right _ (List.mem_append_right _ (List.mem_append_right _ (List.mem_append_right _ (List.mem_append_right _ (List.mem_append_right _ (List.mem_append_right _ (List.mem_append_right _ (List.mem_append_left _ h))))))))))))))))
theorem inr15 : ∀ w ∈ wsL_law_r15, w ∈ wsL_law := fun w h => List.mem_append_left _ (List.mem_append_left _ (List.mem_append_left _ (List.mem_append_right _ (List.mem_append_right _ (List.mem_append_right _ (List.mem_append_right _ (List.mem_append_right _ (List.mem_append_right _ (List.mem_append_right _ (List.mem_append_right _ (List.mem_append_right _ (List.mem_append_right _ (List.mem_append_right _ (List.mem_append_right _ (List.mem_append_right _ (List.mem_append_right _ (List.mem_append_left _ h)))))))))))))))))
theorem inr16 : ∀ w ∈ wsL_law_r16, w ∈ wsL_law := fun w h => List.mem_append_left _ (List.mem_append_left _ (List.mem_append_left _ (List.mem_append_right _ (List.mem_append_right _ (List.mem_append_right _ (List.mem_append_right _ (List.mem_append_right _ (List.mem_append_right _ (List.mem_append_right _ (List.mem_append_right _ (List.mem_append_right _ (List.mem_append_right _ (List.mem_append_right _ (List.mem_append_right _ (List.mem_append_right _ (List.mem_append_right _ (List.mem_append_right _ h)))))))))))))))))
theorem allGood : ∀ w ∈ wsL_law, (w.onTables && w.keeps) = true ∨ ∃ ty, w = .arrayClass ty := fun w h => good_of_word (List.all_eq_true.mp (show wsL_law.all goodWord = true by decide +kernel) w h)
theorem mkGood {c0 : Cond} {own C : String} {i L : Nat} {y : MethodName} {b : ByteArray} {r : Option FieldType} (h1 : Cond.methodLink own i y ∈ wsL_law) (h2 : Cond.instanceMethod y ∈ wsL_law) (h3 : Cond.selects C y y ∈ wsL_law) (h4 : Cond.initialized C ∈ wsL_law) (h5 : Cond.code y b L r ∈ wsL_law) : GoodIn (c0 :: wsL_law) (wsV own i C y (Cond.code y b L r :: wsL_law)) := by
  intro w hw
  have key : w ∈ wsL_law := by
    unfold wsV at hw
    rcases List.mem_append.mp hw with hw | hw
    · simp only [List.mem_cons, List.not_mem_nil, or_false] at hw
      rcases hw with rfl | rfl | rfl | rfl
      · exact h1
      · exact h2
      · exact h3
      · exact h4
    · rcases List.mem_cons.mp hw with rfl | hw
      · exact h5
      · exact hw
  exact ⟨List.mem_cons_of_mem _ key, allGood w key⟩
theorem mkGoodS {c0 : Cond} {own : String} {i L : Nat} {y : MethodName} {b : ByteArray} {r : Option FieldType} (h1 : Cond.methodLink own i y ∈ wsL_law) (h2 : Cond.static y ∈ wsL_law) (h4 : Cond.initialized own ∈ wsL_law) (h5 : Cond.code y b L r ∈ wsL_law) : GoodIn (c0 :: wsL_law) (wsS own i y (Cond.code y b L r :: wsL_law)) := by
  intro w hw
  have key : w ∈ wsL_law := by
    unfold wsS at hw
    rcases List.mem_append.mp hw with hw | hw
    · simp only [List.mem_cons, List.not_mem_nil, or_false] at hw
      rcases hw with rfl | rfl | rfl
      · exact h1
      · exact h2
      · exact h4
    · rcases List.mem_cons.mp hw with rfl | hw
      · exact h5
      · exact hw
  exact ⟨List.mem_cons_of_mem _ key, allGood w key⟩
theorem mw1_0 : Cond.classLink RL 7 RX0 ∈ wsL_law := inr1 _ (List.mem_of_getElem? (i := 0) rfl)
theorem mw1_1 : Cond.instantiable RX0 17 ∈ wsL_law := inr1 _ (List.mem_of_getElem? (i := 1) rfl)
theorem mw1_2 : Cond.initialized RX0 ∈ wsL_law := inr1 _ (List.mem_of_getElem? (i := 2) rfl)
theorem mw1_3 : Cond.classLink RL 10 RX1 ∈ wsL_law := inr1 _ (List.mem_of_getElem? (i := 3) rfl)
theorem mw1_4 : Cond.instantiable RX1 13 ∈ wsL_law := inr1 _ (List.mem_of_getElem? (i := 4) rfl)
theorem mw1_5 : Cond.initialized RX1 ∈ wsL_law := inr1 _ (List.mem_of_getElem? (i := 5) rfl)
theorem mw1_6 : Cond.constantLong RL 31 (4294967295) ∈ wsL_law := inr1 _ (List.mem_of_getElem? (i := 6) rfl)
theorem mw1_7 : Cond.methodLink RL 9 yX0_init ∈ wsL_law := inr1 _ (List.mem_of_getElem? (i := 7) rfl)
theorem mw1_8 : Cond.instanceMethod yX0_init ∈ wsL_law := inr1 _ (List.mem_of_getElem? (i := 8) rfl)
theorem mw1_9 : Cond.code yX0_init cX0_init 1 none ∈ wsL_law := inr1 _ (List.mem_of_getElem? (i := 9) rfl)
theorem mw1_10 : Cond.methodLink RX0 3 objectInit ∈ wsL_law := inr1 _ (List.mem_of_getElem? (i := 10) rfl)
theorem mw1_11 : Cond.instanceMethod objectInit ∈ wsL_law := inr1 _ (List.mem_of_getElem? (i := 11) rfl)
theorem mw1_12 : Cond.code objectInit ⟨#[0xb1]⟩ 1 none ∈ wsL_law := inr1 _ (List.mem_of_getElem? (i := 12) rfl)
theorem mw1_13 : Cond.arrayClass .int ∈ wsL_law := inr1 _ (List.mem_of_getElem? (i := 13) rfl)
theorem mw1_14 : Cond.fieldLink RX0 9 "PointCrowds" "weights" "[I" ∈ wsL_law := inr1 _ (List.mem_of_getElem? (i := 14) rfl)
theorem mw1_15 : Cond.fieldLink RX0 13 "PointCrowds" "xs" "[I" ∈ wsL_law := inr1 _ (List.mem_of_getElem? (i := 15) rfl)
theorem mw1_16 : Cond.fieldLink RX0 16 "PointCrowds" "ys" "[I" ∈ wsL_law := inr1 _ (List.mem_of_getElem? (i := 16) rfl)
theorem mw1_17 : Cond.fieldLink RX0 19 "PointCrowds" "wayNow" "I" ∈ wsL_law := inr1 _ (List.mem_of_getElem? (i := 17) rfl)
theorem mw1_18 : Cond.fieldLink RX0 23 "PointCrowds" "reachNow" "J" ∈ wsL_law := inr1 _ (List.mem_of_getElem? (i := 18) rfl)
theorem mw1_19 : Cond.fieldLink RX0 27 "PointCrowds" "demandNow" "I" ∈ wsL_law := inr1 _ (List.mem_of_getElem? (i := 19) rfl)
theorem mw1_20 : Cond.arrayClass .boolean ∈ wsL_law := inr1 _ (List.mem_of_getElem? (i := 20) rfl)
theorem mw1_21 : Cond.fieldLink RX0 30 "PointCrowds" "core" "[Z" ∈ wsL_law := inr1 _ (List.mem_of_getElem? (i := 21) rfl)
theorem mw1_22 : Cond.fieldLink RX0 34 "PointCrowds" "crowdOf" "[I" ∈ wsL_law := inr1 _ (List.mem_of_getElem? (i := 22) rfl)
theorem mw1_23 : Cond.fieldLink RX0 37 "PointCrowds" "crowdCount" "I" ∈ wsL_law := inr1 _ (List.mem_of_getElem? (i := 23) rfl)
theorem mw2_0 : Cond.fieldLink RX0 40 "PointCrowds" "sortedReach" "J" ∈ wsL_law := inr2 _ (List.mem_of_getElem? (i := 0) rfl)
theorem mw2_1 : Cond.fieldLink RX0 43 "PointCrowds" "sorted" "Z" ∈ wsL_law := inr2 _ (List.mem_of_getElem? (i := 1) rfl)
theorem mw2_2 : Cond.arrayClass .long ∈ wsL_law := inr2 _ (List.mem_of_getElem? (i := 2) rfl)
theorem mw2_3 : Cond.fieldLink RX0 47 "PointCrowds" "coreFrom" "[J" ∈ wsL_law := inr2 _ (List.mem_of_getElem? (i := 3) rfl)
theorem mw2_4 : Cond.fieldLink RX0 51 "PointCrowds" "coreFromKnown" "Z" ∈ wsL_law := inr2 _ (List.mem_of_getElem? (i := 4) rfl)
theorem mw2_5 : Cond.fieldLink RX0 54 "PointCrowds" "nearGap" "[J" ∈ wsL_law := inr2 _ (List.mem_of_getElem? (i := 5) rfl)
theorem mw2_6 : Cond.fieldLink RX0 57 "PointCrowds" "nearWeight" "[I" ∈ wsL_law := inr2 _ (List.mem_of_getElem? (i := 6) rfl)
theorem mw2_7 : Cond.fieldLink RX0 60 "PointCrowds" "cost" "[J" ∈ wsL_law := inr2 _ (List.mem_of_getElem? (i := 7) rfl)
theorem mw2_8 : Cond.fieldLink RX0 63 "PointCrowds" "settled" "[Z" ∈ wsL_law := inr2 _ (List.mem_of_getElem? (i := 8) rfl)
theorem mw2_9 : Cond.methodLink RL 12 yX1_init ∈ wsL_law := inr2 _ (List.mem_of_getElem? (i := 9) rfl)
theorem mw2_10 : Cond.instanceMethod yX1_init ∈ wsL_law := inr2 _ (List.mem_of_getElem? (i := 10) rfl)
theorem mw2_11 : Cond.code yX1_init cX1_init 1 none ∈ wsL_law := inr2 _ (List.mem_of_getElem? (i := 11) rfl)
theorem mw2_12 : Cond.methodLink RX1 1 objectInit ∈ wsL_law := inr2 _ (List.mem_of_getElem? (i := 12) rfl)
theorem mw2_13 : Cond.fieldLink RX1 7 "PointCrowdsModel" "is" "[Z" ∈ wsL_law := inr2 _ (List.mem_of_getElem? (i := 13) rfl)
theorem mw2_14 : Cond.fieldLink RX1 13 "PointCrowdsModel" "xs" "[I" ∈ wsL_law := inr2 _ (List.mem_of_getElem? (i := 14) rfl)
theorem mw2_15 : Cond.fieldLink RX1 17 "PointCrowdsModel" "ys" "[I" ∈ wsL_law := inr2 _ (List.mem_of_getElem? (i := 15) rfl)
theorem mw2_16 : Cond.fieldLink RX1 20 "PointCrowdsModel" "weights" "[I" ∈ wsL_law := inr2 _ (List.mem_of_getElem? (i := 16) rfl)
theorem mw2_17 : Cond.fieldLink RX1 23 "PointCrowdsModel" "demand" "I" ∈ wsL_law := inr2 _ (List.mem_of_getElem? (i := 17) rfl)
theorem mw2_18 : Cond.fieldLink RX1 27 "PointCrowdsModel" "core" "[Z" ∈ wsL_law := inr2 _ (List.mem_of_getElem? (i := 18) rfl)
theorem mw2_19 : Cond.fieldLink RX1 30 "PointCrowdsModel" "crowdOf" "[I" ∈ wsL_law := inr2 _ (List.mem_of_getElem? (i := 19) rfl)
theorem mw2_20 : Cond.fieldLink RX1 33 "PointCrowdsModel" "done" "[Z" ∈ wsL_law := inr2 _ (List.mem_of_getElem? (i := 20) rfl)
theorem mw2_21 : Cond.fieldLink RX1 36 "PointCrowdsModel" "cost" "[J" ∈ wsL_law := inr2 _ (List.mem_of_getElem? (i := 21) rfl)
theorem mw2_22 : Cond.fieldLink RX1 40 "PointCrowdsModel" "denseOf" "[J" ∈ wsL_law := inr2 _ (List.mem_of_getElem? (i := 22) rfl)
theorem mw2_23 : Cond.methodLink RL 13 yX0_point ∈ wsL_law := inr2 _ (List.mem_of_getElem? (i := 23) rfl)
theorem mw3_0 : Cond.instanceMethod yX0_point ∈ wsL_law := inr3 _ (List.mem_of_getElem? (i := 0) rfl)
theorem mw3_1 : Cond.selects RX0 yX0_point yX0_point ∈ wsL_law := inr3 _ (List.mem_of_getElem? (i := 1) rfl)
theorem mw3_2 : Cond.code yX0_point cX0_point 5 (some .int) ∈ wsL_law := inr3 _ (List.mem_of_getElem? (i := 2) rfl)
theorem mw3_3 : Cond.methodLink RX0 66 yX0_isPlace ∈ wsL_law := inr3 _ (List.mem_of_getElem? (i := 3) rfl)
theorem mw3_4 : Cond.static yX0_isPlace ∈ wsL_law := inr3 _ (List.mem_of_getElem? (i := 4) rfl)
theorem mw3_5 : Cond.code yX0_isPlace cX0_isPlace 2 (some .boolean) ∈ wsL_law := inr3 _ (List.mem_of_getElem? (i := 5) rfl)
theorem mw3_6 : Cond.constant RX0 148 (-1073741823) ∈ wsL_law := inr3 _ (List.mem_of_getElem? (i := 6) rfl)
theorem mw3_7 : Cond.constant RX0 149 (1073741823) ∈ wsL_law := inr3 _ (List.mem_of_getElem? (i := 7) rfl)
theorem mw3_8 : Cond.methodLink RX0 70 yX0_leastFree ∈ wsL_law := inr3 _ (List.mem_of_getElem? (i := 8) rfl)
theorem mw3_9 : Cond.instanceMethod yX0_leastFree ∈ wsL_law := inr3 _ (List.mem_of_getElem? (i := 9) rfl)
theorem mw3_10 : Cond.selects RX0 yX0_leastFree yX0_leastFree ∈ wsL_law := inr3 _ (List.mem_of_getElem? (i := 10) rfl)
theorem mw3_11 : Cond.code yX0_leastFree cX0_leastFree 2 (some .int) ∈ wsL_law := inr3 _ (List.mem_of_getElem? (i := 11) rfl)
theorem mw3_12 : Cond.methodLink RX0 74 yX0_put ∈ wsL_law := inr3 _ (List.mem_of_getElem? (i := 12) rfl)
theorem mw3_13 : Cond.instanceMethod yX0_put ∈ wsL_law := inr3 _ (List.mem_of_getElem? (i := 13) rfl)
theorem mw3_14 : Cond.selects RX0 yX0_put yX0_put ∈ wsL_law := inr3 _ (List.mem_of_getElem? (i := 14) rfl)
theorem mw3_15 : Cond.code yX0_put cX0_put 4 none ∈ wsL_law := inr3 _ (List.mem_of_getElem? (i := 15) rfl)
theorem mw3_16 : Cond.methodLink RX0 82 yX0_forget ∈ wsL_law := inr3 _ (List.mem_of_getElem? (i := 16) rfl)
theorem mw3_17 : Cond.instanceMethod yX0_forget ∈ wsL_law := inr3 _ (List.mem_of_getElem? (i := 17) rfl)
theorem mw3_18 : Cond.selects RX0 yX0_forget yX0_forget ∈ wsL_law := inr3 _ (List.mem_of_getElem? (i := 18) rfl)
theorem mw3_19 : Cond.code yX0_forget cX0_forget 1 none ∈ wsL_law := inr3 _ (List.mem_of_getElem? (i := 19) rfl)
theorem mw3_20 : Cond.methodLink RL 17 yX1_point ∈ wsL_law := inr3 _ (List.mem_of_getElem? (i := 20) rfl)
theorem mw3_21 : Cond.instanceMethod yX1_point ∈ wsL_law := inr3 _ (List.mem_of_getElem? (i := 21) rfl)
theorem mw3_22 : Cond.selects RX1 yX1_point yX1_point ∈ wsL_law := inr3 _ (List.mem_of_getElem? (i := 22) rfl)
theorem mw3_23 : Cond.code yX1_point cX1_point 5 (some .int) ∈ wsL_law := inr3 _ (List.mem_of_getElem? (i := 23) rfl)
theorem mw4_0 : Cond.methodLink RX1 45 yX1_isPlace ∈ wsL_law := inr4 _ (List.mem_of_getElem? (i := 0) rfl)
theorem mw4_1 : Cond.static yX1_isPlace ∈ wsL_law := inr4 _ (List.mem_of_getElem? (i := 1) rfl)
theorem mw4_2 : Cond.code yX1_isPlace cX1_isPlace 2 (some .boolean) ∈ wsL_law := inr4 _ (List.mem_of_getElem? (i := 2) rfl)
theorem mw4_3 : Cond.constant RX1 43 (-1073741823) ∈ wsL_law := inr4 _ (List.mem_of_getElem? (i := 3) rfl)
theorem mw4_4 : Cond.constant RX1 44 (1073741823) ∈ wsL_law := inr4 _ (List.mem_of_getElem? (i := 4) rfl)
theorem mw4_5 : Cond.methodLink RL 18 yX0_remove ∈ wsL_law := inr4 _ (List.mem_of_getElem? (i := 5) rfl)
theorem mw4_6 : Cond.instanceMethod yX0_remove ∈ wsL_law := inr4 _ (List.mem_of_getElem? (i := 6) rfl)
theorem mw4_7 : Cond.selects RX0 yX0_remove yX0_remove ∈ wsL_law := inr4 _ (List.mem_of_getElem? (i := 7) rfl)
theorem mw4_8 : Cond.code yX0_remove cX0_remove 2 (some .int) ∈ wsL_law := inr4 _ (List.mem_of_getElem? (i := 8) rfl)
theorem mw4_9 : Cond.methodLink RX0 78 yX0_isPoint ∈ wsL_law := inr4 _ (List.mem_of_getElem? (i := 9) rfl)
theorem mw4_10 : Cond.instanceMethod yX0_isPoint ∈ wsL_law := inr4 _ (List.mem_of_getElem? (i := 10) rfl)
theorem mw4_11 : Cond.selects RX0 yX0_isPoint yX0_isPoint ∈ wsL_law := inr4 _ (List.mem_of_getElem? (i := 11) rfl)
theorem mw4_12 : Cond.code yX0_isPoint cX0_isPoint 2 (some .boolean) ∈ wsL_law := inr4 _ (List.mem_of_getElem? (i := 12) rfl)
theorem mw4_13 : Cond.methodLink RX0 85 yX0_countPoints ∈ wsL_law := inr4 _ (List.mem_of_getElem? (i := 13) rfl)
theorem mw4_14 : Cond.instanceMethod yX0_countPoints ∈ wsL_law := inr4 _ (List.mem_of_getElem? (i := 14) rfl)
theorem mw4_15 : Cond.selects RX0 yX0_countPoints yX0_countPoints ∈ wsL_law := inr4 _ (List.mem_of_getElem? (i := 15) rfl)
theorem mw4_16 : Cond.code yX0_countPoints cX0_countPoints 3 (some .int) ∈ wsL_law := inr4 _ (List.mem_of_getElem? (i := 16) rfl)
theorem mw4_17 : Cond.methodLink RL 22 yX1_remove ∈ wsL_law := inr4 _ (List.mem_of_getElem? (i := 17) rfl)
theorem mw4_18 : Cond.instanceMethod yX1_remove ∈ wsL_law := inr4 _ (List.mem_of_getElem? (i := 18) rfl)
theorem mw4_19 : Cond.selects RX1 yX1_remove yX1_remove ∈ wsL_law := inr4 _ (List.mem_of_getElem? (i := 19) rfl)
theorem mw4_20 : Cond.code yX1_remove cX1_remove 2 (some .int) ∈ wsL_law := inr4 _ (List.mem_of_getElem? (i := 20) rfl)
theorem mw4_21 : Cond.methodLink RX1 49 yX1_isPoint ∈ wsL_law := inr4 _ (List.mem_of_getElem? (i := 21) rfl)
theorem mw4_22 : Cond.instanceMethod yX1_isPoint ∈ wsL_law := inr4 _ (List.mem_of_getElem? (i := 22) rfl)
theorem mw4_23 : Cond.selects RX1 yX1_isPoint yX1_isPoint ∈ wsL_law := inr4 _ (List.mem_of_getElem? (i := 23) rfl)
theorem mw5_0 : Cond.code yX1_isPoint cX1_isPoint 2 (some .boolean) ∈ wsL_law := inr5 _ (List.mem_of_getElem? (i := 0) rfl)
theorem mw5_1 : Cond.methodLink RX1 53 yX1_points ∈ wsL_law := inr5 _ (List.mem_of_getElem? (i := 1) rfl)
theorem mw5_2 : Cond.instanceMethod yX1_points ∈ wsL_law := inr5 _ (List.mem_of_getElem? (i := 2) rfl)
theorem mw5_3 : Cond.selects RX1 yX1_points yX1_points ∈ wsL_law := inr5 _ (List.mem_of_getElem? (i := 3) rfl)
theorem mw5_4 : Cond.code yX1_points cX1_points 3 (some .int) ∈ wsL_law := inr5 _ (List.mem_of_getElem? (i := 4) rfl)
theorem mw5_5 : Cond.methodLink RL 23 yX0_move ∈ wsL_law := inr5 _ (List.mem_of_getElem? (i := 5) rfl)
theorem mw5_6 : Cond.instanceMethod yX0_move ∈ wsL_law := inr5 _ (List.mem_of_getElem? (i := 6) rfl)
theorem mw5_7 : Cond.selects RX0 yX0_move yX0_move ∈ wsL_law := inr5 _ (List.mem_of_getElem? (i := 7) rfl)
theorem mw5_8 : Cond.code yX0_move cX0_move 4 (some .int) ∈ wsL_law := inr5 _ (List.mem_of_getElem? (i := 8) rfl)
theorem mw5_9 : Cond.methodLink RL 26 yX1_move ∈ wsL_law := inr5 _ (List.mem_of_getElem? (i := 9) rfl)
theorem mw5_10 : Cond.instanceMethod yX1_move ∈ wsL_law := inr5 _ (List.mem_of_getElem? (i := 10) rfl)
theorem mw5_11 : Cond.selects RX1 yX1_move yX1_move ∈ wsL_law := inr5 _ (List.mem_of_getElem? (i := 11) rfl)
theorem mw5_12 : Cond.code yX1_move cX1_move 4 (some .int) ∈ wsL_law := inr5 _ (List.mem_of_getElem? (i := 12) rfl)
theorem mw5_13 : Cond.methodLink RL 27 yX0_way ∈ wsL_law := inr5 _ (List.mem_of_getElem? (i := 13) rfl)
theorem mw5_14 : Cond.instanceMethod yX0_way ∈ wsL_law := inr5 _ (List.mem_of_getElem? (i := 14) rfl)
theorem mw5_15 : Cond.selects RX0 yX0_way yX0_way ∈ wsL_law := inr5 _ (List.mem_of_getElem? (i := 15) rfl)
theorem mw5_16 : Cond.code yX0_way cX0_way 2 (some .int) ∈ wsL_law := inr5 _ (List.mem_of_getElem? (i := 16) rfl)
theorem mw5_17 : Cond.methodLink RL 30 yX1_way ∈ wsL_law := inr5 _ (List.mem_of_getElem? (i := 17) rfl)
theorem mw5_18 : Cond.instanceMethod yX1_way ∈ wsL_law := inr5 _ (List.mem_of_getElem? (i := 18) rfl)
theorem mw5_19 : Cond.selects RX1 yX1_way yX1_way ∈ wsL_law := inr5 _ (List.mem_of_getElem? (i := 19) rfl)
theorem mw5_20 : Cond.code yX1_way cX1_way 2 (some .int) ∈ wsL_law := inr5 _ (List.mem_of_getElem? (i := 20) rfl)
theorem mw5_21 : Cond.fieldLink RX1 57 "PointCrowdsModel" "way" "I" ∈ wsL_law := inr5 _ (List.mem_of_getElem? (i := 21) rfl)
theorem mw5_22 : Cond.methodLink RL 33 yX0_reach ∈ wsL_law := inr5 _ (List.mem_of_getElem? (i := 22) rfl)
theorem mw5_23 : Cond.instanceMethod yX0_reach ∈ wsL_law := inr5 _ (List.mem_of_getElem? (i := 23) rfl)
theorem mw6_0 : Cond.selects RX0 yX0_reach yX0_reach ∈ wsL_law := inr6 _ (List.mem_of_getElem? (i := 0) rfl)
theorem mw6_1 : Cond.code yX0_reach cX0_reach 3 (some .int) ∈ wsL_law := inr6 _ (List.mem_of_getElem? (i := 1) rfl)
theorem mw6_2 : Cond.methodLink RL 37 yX1_reach ∈ wsL_law := inr6 _ (List.mem_of_getElem? (i := 2) rfl)
theorem mw6_3 : Cond.instanceMethod yX1_reach ∈ wsL_law := inr6 _ (List.mem_of_getElem? (i := 3) rfl)
theorem mw6_4 : Cond.selects RX1 yX1_reach yX1_reach ∈ wsL_law := inr6 _ (List.mem_of_getElem? (i := 4) rfl)
theorem mw6_5 : Cond.code yX1_reach cX1_reach 3 (some .int) ∈ wsL_law := inr6 _ (List.mem_of_getElem? (i := 5) rfl)
theorem mw6_6 : Cond.fieldLink RX1 60 "PointCrowdsModel" "reach" "J" ∈ wsL_law := inr6 _ (List.mem_of_getElem? (i := 6) rfl)
theorem mw6_7 : Cond.methodLink RL 38 yX0_demand ∈ wsL_law := inr6 _ (List.mem_of_getElem? (i := 7) rfl)
theorem mw6_8 : Cond.instanceMethod yX0_demand ∈ wsL_law := inr6 _ (List.mem_of_getElem? (i := 8) rfl)
theorem mw6_9 : Cond.selects RX0 yX0_demand yX0_demand ∈ wsL_law := inr6 _ (List.mem_of_getElem? (i := 9) rfl)
theorem mw6_10 : Cond.code yX0_demand cX0_demand 2 (some .int) ∈ wsL_law := inr6 _ (List.mem_of_getElem? (i := 10) rfl)
theorem mw6_11 : Cond.methodLink RL 41 yX1_demand ∈ wsL_law := inr6 _ (List.mem_of_getElem? (i := 11) rfl)
theorem mw6_12 : Cond.instanceMethod yX1_demand ∈ wsL_law := inr6 _ (List.mem_of_getElem? (i := 12) rfl)
theorem mw6_13 : Cond.selects RX1 yX1_demand yX1_demand ∈ wsL_law := inr6 _ (List.mem_of_getElem? (i := 13) rfl)
theorem mw6_14 : Cond.code yX1_demand cX1_demand 2 (some .int) ∈ wsL_law := inr6 _ (List.mem_of_getElem? (i := 14) rfl)
theorem mw6_15 : Cond.methodLink RL 42 yX0_distance ∈ wsL_law := inr6 _ (List.mem_of_getElem? (i := 15) rfl)
theorem mw6_16 : Cond.instanceMethod yX0_distance ∈ wsL_law := inr6 _ (List.mem_of_getElem? (i := 16) rfl)
theorem mw6_17 : Cond.selects RX0 yX0_distance yX0_distance ∈ wsL_law := inr6 _ (List.mem_of_getElem? (i := 17) rfl)
theorem mw6_18 : Cond.code yX0_distance cX0_distance 3 (some .long) ∈ wsL_law := inr6 _ (List.mem_of_getElem? (i := 18) rfl)
theorem mw6_19 : Cond.constantLong RX0 88 (-1) ∈ wsL_law := inr6 _ (List.mem_of_getElem? (i := 19) rfl)
theorem mw6_20 : Cond.methodLink RX0 90 yX0_gapBetween ∈ wsL_law := inr6 _ (List.mem_of_getElem? (i := 20) rfl)
theorem mw6_21 : Cond.instanceMethod yX0_gapBetween ∈ wsL_law := inr6 _ (List.mem_of_getElem? (i := 21) rfl)
theorem mw6_22 : Cond.selects RX0 yX0_gapBetween yX0_gapBetween ∈ wsL_law := inr6 _ (List.mem_of_getElem? (i := 22) rfl)
theorem mw6_23 : Cond.code yX0_gapBetween cX0_gapBetween 3 (some .long) ∈ wsL_law := inr6 _ (List.mem_of_getElem? (i := 23) rfl)
theorem mw7_0 : Cond.methodLink RX0 150 yX0_gapTo ∈ wsL_law := inr7 _ (List.mem_of_getElem? (i := 0) rfl)
theorem mw7_1 : Cond.instanceMethod yX0_gapTo ∈ wsL_law := inr7 _ (List.mem_of_getElem? (i := 1) rfl)
theorem mw7_2 : Cond.selects RX0 yX0_gapTo yX0_gapTo ∈ wsL_law := inr7 _ (List.mem_of_getElem? (i := 2) rfl)
theorem mw7_3 : Cond.code yX0_gapTo cX0_gapTo 8 (some .long) ∈ wsL_law := inr7 _ (List.mem_of_getElem? (i := 3) rfl)
theorem mw7_4 : Cond.methodLink RX0 154 Lib.MathLoose.abs_long.x ∈ wsL_law := inr7 _ (List.mem_of_getElem? (i := 4) rfl)
theorem mw7_5 : Cond.static Lib.MathLoose.abs_long.x ∈ wsL_law := inr7 _ (List.mem_of_getElem? (i := 5) rfl)
theorem mw7_6 : Cond.initialized "java/lang/Math" ∈ wsL_law := inr7 _ (List.mem_of_getElem? (i := 6) rfl)
theorem mw7_7 : Cond.code Lib.MathLoose.abs_long.x Lib.MathLoose.abs_long.code 2 (some .long) ∈ wsL_law := inr7 _ (List.mem_of_getElem? (i := 7) rfl)
theorem mw7_8 : Cond.methodLink RX0 160 Lib.MathLoose.max_long.x ∈ wsL_law := inr7 _ (List.mem_of_getElem? (i := 8) rfl)
theorem mw7_9 : Cond.static Lib.MathLoose.max_long.x ∈ wsL_law := inr7 _ (List.mem_of_getElem? (i := 9) rfl)
theorem mw7_10 : Cond.code Lib.MathLoose.max_long.x Lib.MathLoose.max_long.code 4 (some .long) ∈ wsL_law := inr7 _ (List.mem_of_getElem? (i := 10) rfl)
theorem mw7_11 : Cond.methodLink RL 46 yX1_distance ∈ wsL_law := inr7 _ (List.mem_of_getElem? (i := 11) rfl)
theorem mw7_12 : Cond.instanceMethod yX1_distance ∈ wsL_law := inr7 _ (List.mem_of_getElem? (i := 12) rfl)
theorem mw7_13 : Cond.selects RX1 yX1_distance yX1_distance ∈ wsL_law := inr7 _ (List.mem_of_getElem? (i := 13) rfl)
theorem mw7_14 : Cond.code yX1_distance cX1_distance 3 (some .long) ∈ wsL_law := inr7 _ (List.mem_of_getElem? (i := 14) rfl)
theorem mw7_15 : Cond.constantLong RX1 68 (-1) ∈ wsL_law := inr7 _ (List.mem_of_getElem? (i := 15) rfl)
theorem mw7_16 : Cond.methodLink RX1 64 yX1_far ∈ wsL_law := inr7 _ (List.mem_of_getElem? (i := 16) rfl)
theorem mw7_17 : Cond.instanceMethod yX1_far ∈ wsL_law := inr7 _ (List.mem_of_getElem? (i := 17) rfl)
theorem mw7_18 : Cond.selects RX1 yX1_far yX1_far ∈ wsL_law := inr7 _ (List.mem_of_getElem? (i := 18) rfl)
theorem mw7_19 : Cond.code yX1_far cX1_far 10 (some .long) ∈ wsL_law := inr7 _ (List.mem_of_getElem? (i := 19) rfl)
theorem mw7_20 : Cond.methodLink RL 47 yX0_kind ∈ wsL_law := inr7 _ (List.mem_of_getElem? (i := 20) rfl)
theorem mw7_21 : Cond.instanceMethod yX0_kind ∈ wsL_law := inr7 _ (List.mem_of_getElem? (i := 21) rfl)
theorem mw7_22 : Cond.selects RX0 yX0_kind yX0_kind ∈ wsL_law := inr7 _ (List.mem_of_getElem? (i := 22) rfl)
theorem mw7_23 : Cond.code yX0_kind cX0_kind 2 (some .int) ∈ wsL_law := inr7 _ (List.mem_of_getElem? (i := 23) rfl)
theorem mw8_0 : Cond.methodLink RX0 94 yX0_sortWith ∈ wsL_law := inr8 _ (List.mem_of_getElem? (i := 0) rfl)
theorem mw8_1 : Cond.instanceMethod yX0_sortWith ∈ wsL_law := inr8 _ (List.mem_of_getElem? (i := 1) rfl)
theorem mw8_2 : Cond.selects RX0 yX0_sortWith yX0_sortWith ∈ wsL_law := inr8 _ (List.mem_of_getElem? (i := 2) rfl)
theorem mw8_3 : Cond.code yX0_sortWith cX0_sortWith 3 none ∈ wsL_law := inr8 _ (List.mem_of_getElem? (i := 3) rfl)
theorem mw8_4 : Cond.methodLink RX0 164 yX0_markCores ∈ wsL_law := inr8 _ (List.mem_of_getElem? (i := 4) rfl)
theorem mw8_5 : Cond.instanceMethod yX0_markCores ∈ wsL_law := inr8 _ (List.mem_of_getElem? (i := 5) rfl)
theorem mw8_6 : Cond.selects RX0 yX0_markCores yX0_markCores ∈ wsL_law := inr8 _ (List.mem_of_getElem? (i := 6) rfl)
theorem mw8_7 : Cond.code yX0_markCores cX0_markCores 4 none ∈ wsL_law := inr8 _ (List.mem_of_getElem? (i := 7) rfl)
theorem mw8_8 : Cond.methodLink RX0 102 yX0_weightWithin ∈ wsL_law := inr8 _ (List.mem_of_getElem? (i := 8) rfl)
theorem mw8_9 : Cond.instanceMethod yX0_weightWithin ∈ wsL_law := inr8 _ (List.mem_of_getElem? (i := 9) rfl)
theorem mw8_10 : Cond.selects RX0 yX0_weightWithin yX0_weightWithin ∈ wsL_law := inr8 _ (List.mem_of_getElem? (i := 10) rfl)
theorem mw8_11 : Cond.code yX0_weightWithin cX0_weightWithin 6 (some .int) ∈ wsL_law := inr8 _ (List.mem_of_getElem? (i := 11) rfl)
theorem mw8_12 : Cond.methodLink RX0 167 yX0_gatherCrowds ∈ wsL_law := inr8 _ (List.mem_of_getElem? (i := 12) rfl)
theorem mw8_13 : Cond.instanceMethod yX0_gatherCrowds ∈ wsL_law := inr8 _ (List.mem_of_getElem? (i := 13) rfl)
theorem mw8_14 : Cond.selects RX0 yX0_gatherCrowds yX0_gatherCrowds ∈ wsL_law := inr8 _ (List.mem_of_getElem? (i := 14) rfl)
theorem mw8_15 : Cond.code yX0_gatherCrowds cX0_gatherCrowds 4 none ∈ wsL_law := inr8 _ (List.mem_of_getElem? (i := 15) rfl)
theorem mw8_16 : Cond.methodLink RX0 173 yX0_gatherFrom ∈ wsL_law := inr8 _ (List.mem_of_getElem? (i := 16) rfl)
theorem mw8_17 : Cond.instanceMethod yX0_gatherFrom ∈ wsL_law := inr8 _ (List.mem_of_getElem? (i := 17) rfl)
theorem mw8_18 : Cond.selects RX0 yX0_gatherFrom yX0_gatherFrom ∈ wsL_law := inr8 _ (List.mem_of_getElem? (i := 18) rfl)
theorem mw8_19 : Cond.code yX0_gatherFrom cX0_gatherFrom 6 none ∈ wsL_law := inr8 _ (List.mem_of_getElem? (i := 19) rfl)
theorem mw8_20 : Cond.methodLink RX0 177 yX0_leastUnsettledCore ∈ wsL_law := inr8 _ (List.mem_of_getElem? (i := 20) rfl)
theorem mw8_21 : Cond.instanceMethod yX0_leastUnsettledCore ∈ wsL_law := inr8 _ (List.mem_of_getElem? (i := 21) rfl)
theorem mw8_22 : Cond.selects RX0 yX0_leastUnsettledCore yX0_leastUnsettledCore ∈ wsL_law := inr8 _ (List.mem_of_getElem? (i := 22) rfl)
theorem mw8_23 : Cond.code yX0_leastUnsettledCore cX0_leastUnsettledCore 2 (some .int) ∈ wsL_law := inr8 _ (List.mem_of_getElem? (i := 23) rfl)
theorem mw9_0 : Cond.methodLink RX0 180 yX0_gatherCoresNear ∈ wsL_law := inr9 _ (List.mem_of_getElem? (i := 0) rfl)
theorem mw9_1 : Cond.instanceMethod yX0_gatherCoresNear ∈ wsL_law := inr9 _ (List.mem_of_getElem? (i := 1) rfl)
theorem mw9_2 : Cond.selects RX0 yX0_gatherCoresNear yX0_gatherCoresNear ∈ wsL_law := inr9 _ (List.mem_of_getElem? (i := 2) rfl)
theorem mw9_3 : Cond.code yX0_gatherCoresNear cX0_gatherCoresNear 5 none ∈ wsL_law := inr9 _ (List.mem_of_getElem? (i := 3) rfl)
theorem mw9_4 : Cond.methodLink RX0 170 yX0_joinBorders ∈ wsL_law := inr9 _ (List.mem_of_getElem? (i := 4) rfl)
theorem mw9_5 : Cond.instanceMethod yX0_joinBorders ∈ wsL_law := inr9 _ (List.mem_of_getElem? (i := 5) rfl)
theorem mw9_6 : Cond.selects RX0 yX0_joinBorders yX0_joinBorders ∈ wsL_law := inr9 _ (List.mem_of_getElem? (i := 6) rfl)
theorem mw9_7 : Cond.code yX0_joinBorders cX0_joinBorders 4 none ∈ wsL_law := inr9 _ (List.mem_of_getElem? (i := 7) rfl)
theorem mw9_8 : Cond.methodLink RX0 141 yX0_leastCrowdAt ∈ wsL_law := inr9 _ (List.mem_of_getElem? (i := 8) rfl)
theorem mw9_9 : Cond.instanceMethod yX0_leastCrowdAt ∈ wsL_law := inr9 _ (List.mem_of_getElem? (i := 9) rfl)
theorem mw9_10 : Cond.selects RX0 yX0_leastCrowdAt yX0_leastCrowdAt ∈ wsL_law := inr9 _ (List.mem_of_getElem? (i := 10) rfl)
theorem mw9_11 : Cond.code yX0_leastCrowdAt cX0_leastCrowdAt 7 (some .int) ∈ wsL_law := inr9 _ (List.mem_of_getElem? (i := 11) rfl)
theorem mw9_12 : Cond.methodLink RX0 98 yX0_kindOf ∈ wsL_law := inr9 _ (List.mem_of_getElem? (i := 12) rfl)
theorem mw9_13 : Cond.instanceMethod yX0_kindOf ∈ wsL_law := inr9 _ (List.mem_of_getElem? (i := 13) rfl)
theorem mw9_14 : Cond.selects RX0 yX0_kindOf yX0_kindOf ∈ wsL_law := inr9 _ (List.mem_of_getElem? (i := 14) rfl)
theorem mw9_15 : Cond.code yX0_kindOf cX0_kindOf 2 (some .int) ∈ wsL_law := inr9 _ (List.mem_of_getElem? (i := 15) rfl)
theorem mw9_16 : Cond.methodLink RL 50 yX1_kind ∈ wsL_law := inr9 _ (List.mem_of_getElem? (i := 16) rfl)
theorem mw9_17 : Cond.instanceMethod yX1_kind ∈ wsL_law := inr9 _ (List.mem_of_getElem? (i := 17) rfl)
theorem mw9_18 : Cond.selects RX1 yX1_kind yX1_kind ∈ wsL_law := inr9 _ (List.mem_of_getElem? (i := 18) rfl)
theorem mw9_19 : Cond.code yX1_kind cX1_kind 2 (some .int) ∈ wsL_law := inr9 _ (List.mem_of_getElem? (i := 19) rfl)
theorem mw9_20 : Cond.methodLink RX1 85 yX1_find ∈ wsL_law := inr9 _ (List.mem_of_getElem? (i := 20) rfl)
theorem mw9_21 : Cond.instanceMethod yX1_find ∈ wsL_law := inr9 _ (List.mem_of_getElem? (i := 21) rfl)
theorem mw9_22 : Cond.selects RX1 yX1_find yX1_find ∈ wsL_law := inr9 _ (List.mem_of_getElem? (i := 22) rfl)
theorem mw9_23 : Cond.code yX1_find cX1_find 6 none ∈ wsL_law := inr9 _ (List.mem_of_getElem? (i := 23) rfl)
theorem mw10_0 : Cond.fieldLink RX1 70 "PointCrowdsModel" "crowds" "I" ∈ wsL_law := inr10 _ (List.mem_of_getElem? (i := 0) rfl)
theorem mw10_1 : Cond.methodLink RX1 73 yX1_weightWithin ∈ wsL_law := inr10 _ (List.mem_of_getElem? (i := 1) rfl)
theorem mw10_2 : Cond.instanceMethod yX1_weightWithin ∈ wsL_law := inr10 _ (List.mem_of_getElem? (i := 2) rfl)
theorem mw10_3 : Cond.selects RX1 yX1_weightWithin yX1_weightWithin ∈ wsL_law := inr10 _ (List.mem_of_getElem? (i := 3) rfl)
theorem mw10_4 : Cond.code yX1_weightWithin cX1_weightWithin 6 (some .int) ∈ wsL_law := inr10 _ (List.mem_of_getElem? (i := 4) rfl)
theorem mw10_5 : Cond.methodLink RX1 77 yX1_spread ∈ wsL_law := inr10 _ (List.mem_of_getElem? (i := 5) rfl)
theorem mw10_6 : Cond.instanceMethod yX1_spread ∈ wsL_law := inr10 _ (List.mem_of_getElem? (i := 6) rfl)
theorem mw10_7 : Cond.selects RX1 yX1_spread yX1_spread ∈ wsL_law := inr10 _ (List.mem_of_getElem? (i := 7) rfl)
theorem mw10_8 : Cond.code yX1_spread cX1_spread 6 (some .boolean) ∈ wsL_law := inr10 _ (List.mem_of_getElem? (i := 8) rfl)
theorem mw10_9 : Cond.methodLink RX1 81 yX1_least ∈ wsL_law := inr10 _ (List.mem_of_getElem? (i := 9) rfl)
theorem mw10_10 : Cond.instanceMethod yX1_least ∈ wsL_law := inr10 _ (List.mem_of_getElem? (i := 10) rfl)
theorem mw10_11 : Cond.selects RX1 yX1_least yX1_least ∈ wsL_law := inr10 _ (List.mem_of_getElem? (i := 11) rfl)
theorem mw10_12 : Cond.code yX1_least cX1_least 7 (some .int) ∈ wsL_law := inr10 _ (List.mem_of_getElem? (i := 12) rfl)
theorem mw10_13 : Cond.methodLink RL 51 yX0_crowd ∈ wsL_law := inr10 _ (List.mem_of_getElem? (i := 13) rfl)
theorem mw10_14 : Cond.instanceMethod yX0_crowd ∈ wsL_law := inr10 _ (List.mem_of_getElem? (i := 14) rfl)
theorem mw10_15 : Cond.selects RX0 yX0_crowd yX0_crowd ∈ wsL_law := inr10 _ (List.mem_of_getElem? (i := 15) rfl)
theorem mw10_16 : Cond.code yX0_crowd cX0_crowd 2 (some .int) ∈ wsL_law := inr10 _ (List.mem_of_getElem? (i := 16) rfl)
theorem mw10_17 : Cond.methodLink RL 54 yX1_crowd ∈ wsL_law := inr10 _ (List.mem_of_getElem? (i := 17) rfl)
theorem mw10_18 : Cond.instanceMethod yX1_crowd ∈ wsL_law := inr10 _ (List.mem_of_getElem? (i := 18) rfl)
theorem mw10_19 : Cond.selects RX1 yX1_crowd yX1_crowd ∈ wsL_law := inr10 _ (List.mem_of_getElem? (i := 19) rfl)
theorem mw10_20 : Cond.code yX1_crowd cX1_crowd 2 (some .int) ∈ wsL_law := inr10 _ (List.mem_of_getElem? (i := 20) rfl)
theorem mw10_21 : Cond.methodLink RL 55 yX0_count ∈ wsL_law := inr10 _ (List.mem_of_getElem? (i := 21) rfl)
theorem mw10_22 : Cond.instanceMethod yX0_count ∈ wsL_law := inr10 _ (List.mem_of_getElem? (i := 22) rfl)
theorem mw10_23 : Cond.selects RX0 yX0_count yX0_count ∈ wsL_law := inr10 _ (List.mem_of_getElem? (i := 23) rfl)
theorem mw11_0 : Cond.code yX0_count cX0_count 2 (some .int) ∈ wsL_law := inr11 _ (List.mem_of_getElem? (i := 0) rfl)
theorem mw11_1 : Cond.methodLink RX0 119 yX0_countKind ∈ wsL_law := inr11 _ (List.mem_of_getElem? (i := 1) rfl)
theorem mw11_2 : Cond.instanceMethod yX0_countKind ∈ wsL_law := inr11 _ (List.mem_of_getElem? (i := 2) rfl)
theorem mw11_3 : Cond.selects RX0 yX0_countKind yX0_countKind ∈ wsL_law := inr11 _ (List.mem_of_getElem? (i := 3) rfl)
theorem mw11_4 : Cond.code yX0_countKind cX0_countKind 4 (some .int) ∈ wsL_law := inr11 _ (List.mem_of_getElem? (i := 4) rfl)
theorem mw11_5 : Cond.methodLink RX0 110 yX0_countWeights ∈ wsL_law := inr11 _ (List.mem_of_getElem? (i := 5) rfl)
theorem mw11_6 : Cond.instanceMethod yX0_countWeights ∈ wsL_law := inr11 _ (List.mem_of_getElem? (i := 6) rfl)
theorem mw11_7 : Cond.selects RX0 yX0_countWeights yX0_countWeights ∈ wsL_law := inr11 _ (List.mem_of_getElem? (i := 7) rfl)
theorem mw11_8 : Cond.code yX0_countWeights cX0_countWeights 3 (some .int) ∈ wsL_law := inr11 _ (List.mem_of_getElem? (i := 8) rfl)
theorem mw11_9 : Cond.methodLink RL 58 yX1_count ∈ wsL_law := inr11 _ (List.mem_of_getElem? (i := 9) rfl)
theorem mw11_10 : Cond.instanceMethod yX1_count ∈ wsL_law := inr11 _ (List.mem_of_getElem? (i := 10) rfl)
theorem mw11_11 : Cond.selects RX1 yX1_count yX1_count ∈ wsL_law := inr11 _ (List.mem_of_getElem? (i := 11) rfl)
theorem mw11_12 : Cond.code yX1_count cX1_count 6 (some .int) ∈ wsL_law := inr11 _ (List.mem_of_getElem? (i := 12) rfl)
theorem mw11_13 : Cond.methodLink RL 59 yX0_about ∈ wsL_law := inr11 _ (List.mem_of_getElem? (i := 13) rfl)
theorem mw11_14 : Cond.instanceMethod yX0_about ∈ wsL_law := inr11 _ (List.mem_of_getElem? (i := 14) rfl)
theorem mw11_15 : Cond.selects RX0 yX0_about yX0_about ∈ wsL_law := inr11 _ (List.mem_of_getElem? (i := 15) rfl)
theorem mw11_16 : Cond.code yX0_about cX0_about 3 (some .int) ∈ wsL_law := inr11 _ (List.mem_of_getElem? (i := 16) rfl)
theorem mw11_17 : Cond.methodLink RX0 122 yX0_pointsOf ∈ wsL_law := inr11 _ (List.mem_of_getElem? (i := 17) rfl)
theorem mw11_18 : Cond.instanceMethod yX0_pointsOf ∈ wsL_law := inr11 _ (List.mem_of_getElem? (i := 18) rfl)
theorem mw11_19 : Cond.selects RX0 yX0_pointsOf yX0_pointsOf ∈ wsL_law := inr11 _ (List.mem_of_getElem? (i := 19) rfl)
theorem mw11_20 : Cond.code yX0_pointsOf cX0_pointsOf 4 (some .int) ∈ wsL_law := inr11 _ (List.mem_of_getElem? (i := 20) rfl)
theorem mw11_21 : Cond.methodLink RX0 125 yX0_coresOf ∈ wsL_law := inr11 _ (List.mem_of_getElem? (i := 21) rfl)
theorem mw11_22 : Cond.instanceMethod yX0_coresOf ∈ wsL_law := inr11 _ (List.mem_of_getElem? (i := 22) rfl)
theorem mw11_23 : Cond.selects RX0 yX0_coresOf yX0_coresOf ∈ wsL_law := inr11 _ (List.mem_of_getElem? (i := 23) rfl)
theorem mw12_0 : Cond.code yX0_coresOf cX0_coresOf 4 (some .int) ∈ wsL_law := inr12 _ (List.mem_of_getElem? (i := 0) rfl)
theorem mw12_1 : Cond.methodLink RX0 128 yX0_weightsOf ∈ wsL_law := inr12 _ (List.mem_of_getElem? (i := 1) rfl)
theorem mw12_2 : Cond.instanceMethod yX0_weightsOf ∈ wsL_law := inr12 _ (List.mem_of_getElem? (i := 2) rfl)
theorem mw12_3 : Cond.selects RX0 yX0_weightsOf yX0_weightsOf ∈ wsL_law := inr12 _ (List.mem_of_getElem? (i := 3) rfl)
theorem mw12_4 : Cond.code yX0_weightsOf cX0_weightsOf 4 (some .int) ∈ wsL_law := inr12 _ (List.mem_of_getElem? (i := 4) rfl)
theorem mw12_5 : Cond.methodLink RX0 131 yX0_leastCoreOf ∈ wsL_law := inr12 _ (List.mem_of_getElem? (i := 5) rfl)
theorem mw12_6 : Cond.instanceMethod yX0_leastCoreOf ∈ wsL_law := inr12 _ (List.mem_of_getElem? (i := 6) rfl)
theorem mw12_7 : Cond.selects RX0 yX0_leastCoreOf yX0_leastCoreOf ∈ wsL_law := inr12 _ (List.mem_of_getElem? (i := 7) rfl)
theorem mw12_8 : Cond.code yX0_leastCoreOf cX0_leastCoreOf 3 (some .int) ∈ wsL_law := inr12 _ (List.mem_of_getElem? (i := 8) rfl)
theorem mw12_9 : Cond.methodLink RX0 134 yX0_leastOf ∈ wsL_law := inr12 _ (List.mem_of_getElem? (i := 9) rfl)
theorem mw12_10 : Cond.instanceMethod yX0_leastOf ∈ wsL_law := inr12 _ (List.mem_of_getElem? (i := 10) rfl)
theorem mw12_11 : Cond.selects RX0 yX0_leastOf yX0_leastOf ∈ wsL_law := inr12 _ (List.mem_of_getElem? (i := 11) rfl)
theorem mw12_12 : Cond.code yX0_leastOf cX0_leastOf 5 (some .int) ∈ wsL_law := inr12 _ (List.mem_of_getElem? (i := 12) rfl)
theorem mw12_13 : Cond.methodLink RX0 183 Lib.Math.min.name ∈ wsL_law := inr12 _ (List.mem_of_getElem? (i := 13) rfl)
theorem mw12_14 : Cond.static Lib.Math.min.name ∈ wsL_law := inr12 _ (List.mem_of_getElem? (i := 14) rfl)
theorem mw12_15 : Cond.code Lib.Math.min.name Lib.Math.min.code 2 (some .int) ∈ wsL_law := inr12 _ (List.mem_of_getElem? (i := 15) rfl)
theorem mw12_16 : Cond.methodLink RX0 138 yX0_greatestOf ∈ wsL_law := inr12 _ (List.mem_of_getElem? (i := 16) rfl)
theorem mw12_17 : Cond.instanceMethod yX0_greatestOf ∈ wsL_law := inr12 _ (List.mem_of_getElem? (i := 17) rfl)
theorem mw12_18 : Cond.selects RX0 yX0_greatestOf yX0_greatestOf ∈ wsL_law := inr12 _ (List.mem_of_getElem? (i := 18) rfl)
theorem mw12_19 : Cond.code yX0_greatestOf cX0_greatestOf 5 (some .int) ∈ wsL_law := inr12 _ (List.mem_of_getElem? (i := 19) rfl)
theorem mw12_20 : Cond.methodLink RX0 187 Lib.Math.max.name ∈ wsL_law := inr12 _ (List.mem_of_getElem? (i := 20) rfl)
theorem mw12_21 : Cond.static Lib.Math.max.name ∈ wsL_law := inr12 _ (List.mem_of_getElem? (i := 21) rfl)
theorem mw12_22 : Cond.code Lib.Math.max.name Lib.Math.max.code 2 (some .int) ∈ wsL_law := inr12 _ (List.mem_of_getElem? (i := 22) rfl)
theorem mw12_23 : Cond.methodLink RL 63 yX1_about ∈ wsL_law := inr12 _ (List.mem_of_getElem? (i := 23) rfl)
theorem mw13_0 : Cond.instanceMethod yX1_about ∈ wsL_law := inr13 _ (List.mem_of_getElem? (i := 0) rfl)
theorem mw13_1 : Cond.selects RX1 yX1_about yX1_about ∈ wsL_law := inr13 _ (List.mem_of_getElem? (i := 1) rfl)
theorem mw13_2 : Cond.code yX1_about cX1_about 12 (some .int) ∈ wsL_law := inr13 _ (List.mem_of_getElem? (i := 2) rfl)
theorem mw13_3 : Cond.methodLink RL 64 yX0_around ∈ wsL_law := inr13 _ (List.mem_of_getElem? (i := 3) rfl)
theorem mw13_4 : Cond.instanceMethod yX0_around ∈ wsL_law := inr13 _ (List.mem_of_getElem? (i := 4) rfl)
theorem mw13_5 : Cond.selects RX0 yX0_around yX0_around ∈ wsL_law := inr13 _ (List.mem_of_getElem? (i := 5) rfl)
theorem mw13_6 : Cond.code yX0_around cX0_around 2 (some .int) ∈ wsL_law := inr13 _ (List.mem_of_getElem? (i := 6) rfl)
theorem mw13_7 : Cond.methodLink RL 67 yX1_around ∈ wsL_law := inr13 _ (List.mem_of_getElem? (i := 7) rfl)
theorem mw13_8 : Cond.instanceMethod yX1_around ∈ wsL_law := inr13 _ (List.mem_of_getElem? (i := 8) rfl)
theorem mw13_9 : Cond.selects RX1 yX1_around yX1_around ∈ wsL_law := inr13 _ (List.mem_of_getElem? (i := 9) rfl)
theorem mw13_10 : Cond.code yX1_around cX1_around 2 (some .int) ∈ wsL_law := inr13 _ (List.mem_of_getElem? (i := 10) rfl)
theorem mw13_11 : Cond.methodLink RL 68 yX0_belongs ∈ wsL_law := inr13 _ (List.mem_of_getElem? (i := 11) rfl)
theorem mw13_12 : Cond.instanceMethod yX0_belongs ∈ wsL_law := inr13 _ (List.mem_of_getElem? (i := 12) rfl)
theorem mw13_13 : Cond.selects RX0 yX0_belongs yX0_belongs ∈ wsL_law := inr13 _ (List.mem_of_getElem? (i := 13) rfl)
theorem mw13_14 : Cond.code yX0_belongs cX0_belongs 3 (some .int) ∈ wsL_law := inr13 _ (List.mem_of_getElem? (i := 14) rfl)
theorem mw13_15 : Cond.methodLink RL 71 yX1_belongs ∈ wsL_law := inr13 _ (List.mem_of_getElem? (i := 15) rfl)
theorem mw13_16 : Cond.instanceMethod yX1_belongs ∈ wsL_law := inr13 _ (List.mem_of_getElem? (i := 16) rfl)
theorem mw13_17 : Cond.selects RX1 yX1_belongs yX1_belongs ∈ wsL_law := inr13 _ (List.mem_of_getElem? (i := 17) rfl)
theorem mw13_18 : Cond.code yX1_belongs cX1_belongs 3 (some .int) ∈ wsL_law := inr13 _ (List.mem_of_getElem? (i := 18) rfl)
theorem mw13_19 : Cond.methodLink RL 72 yX0_dense ∈ wsL_law := inr13 _ (List.mem_of_getElem? (i := 19) rfl)
theorem mw13_20 : Cond.instanceMethod yX0_dense ∈ wsL_law := inr13 _ (List.mem_of_getElem? (i := 20) rfl)
theorem mw13_21 : Cond.selects RX0 yX0_dense yX0_dense ∈ wsL_law := inr13 _ (List.mem_of_getElem? (i := 21) rfl)
theorem mw13_22 : Cond.code yX0_dense cX0_dense 2 (some .long) ∈ wsL_law := inr13 _ (List.mem_of_getElem? (i := 22) rfl)
theorem mw13_23 : Cond.methodLink RX0 106 yX0_leastReachAsCore ∈ wsL_law := inr13 _ (List.mem_of_getElem? (i := 23) rfl)
theorem mw14_0 : Cond.instanceMethod yX0_leastReachAsCore ∈ wsL_law := inr14 _ (List.mem_of_getElem? (i := 0) rfl)
theorem mw14_1 : Cond.selects RX0 yX0_leastReachAsCore yX0_leastReachAsCore ∈ wsL_law := inr14 _ (List.mem_of_getElem? (i := 1) rfl)
theorem mw14_2 : Cond.code yX0_leastReachAsCore cX0_leastReachAsCore 7 (some .long) ∈ wsL_law := inr14 _ (List.mem_of_getElem? (i := 2) rfl)
theorem mw14_3 : Cond.methodLink RX0 189 yX0_lastGap ∈ wsL_law := inr14 _ (List.mem_of_getElem? (i := 3) rfl)
theorem mw14_4 : Cond.instanceMethod yX0_lastGap ∈ wsL_law := inr14 _ (List.mem_of_getElem? (i := 4) rfl)
theorem mw14_5 : Cond.selects RX0 yX0_lastGap yX0_lastGap ∈ wsL_law := inr14 _ (List.mem_of_getElem? (i := 5) rfl)
theorem mw14_6 : Cond.code yX0_lastGap cX0_lastGap 2 (some .long) ∈ wsL_law := inr14 _ (List.mem_of_getElem? (i := 6) rfl)
theorem mw14_7 : Cond.methodLink RX0 192 yX0_keepNear ∈ wsL_law := inr14 _ (List.mem_of_getElem? (i := 7) rfl)
theorem mw14_8 : Cond.instanceMethod yX0_keepNear ∈ wsL_law := inr14 _ (List.mem_of_getElem? (i := 8) rfl)
theorem mw14_9 : Cond.selects RX0 yX0_keepNear yX0_keepNear ∈ wsL_law := inr14 _ (List.mem_of_getElem? (i := 9) rfl)
theorem mw14_10 : Cond.code yX0_keepNear cX0_keepNear 6 (some .int) ∈ wsL_law := inr14 _ (List.mem_of_getElem? (i := 10) rfl)
theorem mw14_11 : Cond.methodLink RL 76 yX1_dense ∈ wsL_law := inr14 _ (List.mem_of_getElem? (i := 11) rfl)
theorem mw14_12 : Cond.instanceMethod yX1_dense ∈ wsL_law := inr14 _ (List.mem_of_getElem? (i := 12) rfl)
theorem mw14_13 : Cond.selects RX1 yX1_dense yX1_dense ∈ wsL_law := inr14 _ (List.mem_of_getElem? (i := 13) rfl)
theorem mw14_14 : Cond.code yX1_dense cX1_dense 2 (some .long) ∈ wsL_law := inr14 _ (List.mem_of_getElem? (i := 14) rfl)
theorem mw14_15 : Cond.methodLink RX1 89 yX1_findDense ∈ wsL_law := inr14 _ (List.mem_of_getElem? (i := 15) rfl)
theorem mw14_16 : Cond.instanceMethod yX1_findDense ∈ wsL_law := inr14 _ (List.mem_of_getElem? (i := 16) rfl)
theorem mw14_17 : Cond.selects RX1 yX1_findDense yX1_findDense ∈ wsL_law := inr14 _ (List.mem_of_getElem? (i := 17) rfl)
theorem mw14_18 : Cond.code yX1_findDense cX1_findDense 7 (some .long) ∈ wsL_law := inr14 _ (List.mem_of_getElem? (i := 18) rfl)
theorem mw14_19 : Cond.methodLink RL 77 yX0_meet ∈ wsL_law := inr14 _ (List.mem_of_getElem? (i := 19) rfl)
theorem mw14_20 : Cond.instanceMethod yX0_meet ∈ wsL_law := inr14 _ (List.mem_of_getElem? (i := 20) rfl)
theorem mw14_21 : Cond.selects RX0 yX0_meet yX0_meet ∈ wsL_law := inr14 _ (List.mem_of_getElem? (i := 21) rfl)
theorem mw14_22 : Cond.code yX0_meet cX0_meet 3 (some .long) ∈ wsL_law := inr14 _ (List.mem_of_getElem? (i := 22) rfl)
theorem mw14_23 : Cond.methodLink RX0 113 yX0_findCoreFrom ∈ wsL_law := inr14 _ (List.mem_of_getElem? (i := 23) rfl)
theorem mw15_0 : Cond.instanceMethod yX0_findCoreFrom ∈ wsL_law := inr15 _ (List.mem_of_getElem? (i := 0) rfl)
theorem mw15_1 : Cond.selects RX0 yX0_findCoreFrom yX0_findCoreFrom ∈ wsL_law := inr15 _ (List.mem_of_getElem? (i := 1) rfl)
theorem mw15_2 : Cond.code yX0_findCoreFrom cX0_findCoreFrom 2 none ∈ wsL_law := inr15 _ (List.mem_of_getElem? (i := 2) rfl)
theorem mw15_3 : Cond.methodLink RX0 116 yX0_leastReachFrom ∈ wsL_law := inr15 _ (List.mem_of_getElem? (i := 3) rfl)
theorem mw15_4 : Cond.instanceMethod yX0_leastReachFrom ∈ wsL_law := inr15 _ (List.mem_of_getElem? (i := 4) rfl)
theorem mw15_5 : Cond.selects RX0 yX0_leastReachFrom yX0_leastReachFrom ∈ wsL_law := inr15 _ (List.mem_of_getElem? (i := 5) rfl)
theorem mw15_6 : Cond.code yX0_leastReachFrom cX0_leastReachFrom 5 (some .long) ∈ wsL_law := inr15 _ (List.mem_of_getElem? (i := 6) rfl)
theorem mw15_7 : Cond.constantLong RX0 198 (9223372036854775807) ∈ wsL_law := inr15 _ (List.mem_of_getElem? (i := 7) rfl)
theorem mw15_8 : Cond.methodLink RX0 200 yX0_cheapestUnsettled ∈ wsL_law := inr15 _ (List.mem_of_getElem? (i := 8) rfl)
theorem mw15_9 : Cond.instanceMethod yX0_cheapestUnsettled ∈ wsL_law := inr15 _ (List.mem_of_getElem? (i := 9) rfl)
theorem mw15_10 : Cond.selects RX0 yX0_cheapestUnsettled yX0_cheapestUnsettled ∈ wsL_law := inr15 _ (List.mem_of_getElem? (i := 10) rfl)
theorem mw15_11 : Cond.code yX0_cheapestUnsettled cX0_cheapestUnsettled 3 (some .int) ∈ wsL_law := inr15 _ (List.mem_of_getElem? (i := 11) rfl)
theorem mw15_12 : Cond.methodLink RX0 203 yX0_reachOnFrom ∈ wsL_law := inr15 _ (List.mem_of_getElem? (i := 12) rfl)
theorem mw15_13 : Cond.instanceMethod yX0_reachOnFrom ∈ wsL_law := inr15 _ (List.mem_of_getElem? (i := 13) rfl)
theorem mw15_14 : Cond.selects RX0 yX0_reachOnFrom yX0_reachOnFrom ∈ wsL_law := inr15 _ (List.mem_of_getElem? (i := 14) rfl)
theorem mw15_15 : Cond.code yX0_reachOnFrom cX0_reachOnFrom 5 none ∈ wsL_law := inr15 _ (List.mem_of_getElem? (i := 15) rfl)
theorem mw15_16 : Cond.methodLink RX0 207 Lib.MathLoose.min_long.x ∈ wsL_law := inr15 _ (List.mem_of_getElem? (i := 16) rfl)
theorem mw15_17 : Cond.static Lib.MathLoose.min_long.x ∈ wsL_law := inr15 _ (List.mem_of_getElem? (i := 17) rfl)
theorem mw15_18 : Cond.code Lib.MathLoose.min_long.x Lib.MathLoose.min_long.code 4 (some .long) ∈ wsL_law := inr15 _ (List.mem_of_getElem? (i := 18) rfl)
theorem mw15_19 : Cond.methodLink RL 80 yX1_meet ∈ wsL_law := inr15 _ (List.mem_of_getElem? (i := 19) rfl)
theorem mw15_20 : Cond.instanceMethod yX1_meet ∈ wsL_law := inr15 _ (List.mem_of_getElem? (i := 20) rfl)
theorem mw15_21 : Cond.selects RX1 yX1_meet yX1_meet ∈ wsL_law := inr15 _ (List.mem_of_getElem? (i := 21) rfl)
theorem mw15_22 : Cond.code yX1_meet cX1_meet 8 (some .long) ∈ wsL_law := inr15 _ (List.mem_of_getElem? (i := 22) rfl)
theorem mw15_23 : Cond.methodLink RX1 93 yX1_greater ∈ wsL_law := inr15 _ (List.mem_of_getElem? (i := 23) rfl)
theorem mw16_0 : Cond.static yX1_greater ∈ wsL_law := inr16 _ (List.mem_of_getElem? (i := 0) rfl)
theorem mw16_1 : Cond.code yX1_greater cX1_greater 4 (some .long) ∈ wsL_law := inr16 _ (List.mem_of_getElem? (i := 1) rfl)
theorem mw16_2 : Cond.methodLink RL 81 yX0_crowds ∈ wsL_law := inr16 _ (List.mem_of_getElem? (i := 2) rfl)
theorem mw16_3 : Cond.instanceMethod yX0_crowds ∈ wsL_law := inr16 _ (List.mem_of_getElem? (i := 3) rfl)
theorem mw16_4 : Cond.selects RX0 yX0_crowds yX0_crowds ∈ wsL_law := inr16 _ (List.mem_of_getElem? (i := 4) rfl)
theorem mw16_5 : Cond.code yX0_crowds cX0_crowds 3 (some .int) ∈ wsL_law := inr16 _ (List.mem_of_getElem? (i := 5) rfl)
theorem mw16_6 : Cond.methodLink RL 84 yX1_crowds ∈ wsL_law := inr16 _ (List.mem_of_getElem? (i := 6) rfl)
theorem mw16_7 : Cond.instanceMethod yX1_crowds ∈ wsL_law := inr16 _ (List.mem_of_getElem? (i := 7) rfl)
theorem mw16_8 : Cond.selects RX1 yX1_crowds yX1_crowds ∈ wsL_law := inr16 _ (List.mem_of_getElem? (i := 8) rfl)
theorem mw16_9 : Cond.code yX1_crowds cX1_crowds 3 (some .int) ∈ wsL_law := inr16 _ (List.mem_of_getElem? (i := 9) rfl)
theorem mw16_10 : Cond.methodLink RL 85 yX0_check ∈ wsL_law := inr16 _ (List.mem_of_getElem? (i := 10) rfl)
theorem mw16_11 : Cond.instanceMethod yX0_check ∈ wsL_law := inr16 _ (List.mem_of_getElem? (i := 11) rfl)
theorem mw16_12 : Cond.selects RX0 yX0_check yX0_check ∈ wsL_law := inr16 _ (List.mem_of_getElem? (i := 12) rfl)
theorem mw16_13 : Cond.code yX0_check cX0_check 2 (some .int) ∈ wsL_law := inr16 _ (List.mem_of_getElem? (i := 13) rfl)
theorem mw16_14 : Cond.methodLink RX0 145 yX0_standsRight ∈ wsL_law := inr16 _ (List.mem_of_getElem? (i := 14) rfl)
theorem mw16_15 : Cond.instanceMethod yX0_standsRight ∈ wsL_law := inr16 _ (List.mem_of_getElem? (i := 15) rfl)
theorem mw16_16 : Cond.selects RX0 yX0_standsRight yX0_standsRight ∈ wsL_law := inr16 _ (List.mem_of_getElem? (i := 16) rfl)
theorem mw16_17 : Cond.code yX0_standsRight cX0_standsRight 6 (some .boolean) ∈ wsL_law := inr16 _ (List.mem_of_getElem? (i := 17) rfl)
theorem mw16_18 : Cond.methodLink RL 89 yX1_check ∈ wsL_law := inr16 _ (List.mem_of_getElem? (i := 18) rfl)
theorem mw16_19 : Cond.instanceMethod yX1_check ∈ wsL_law := inr16 _ (List.mem_of_getElem? (i := 19) rfl)
theorem mw16_20 : Cond.selects RX1 yX1_check yX1_check ∈ wsL_law := inr16 _ (List.mem_of_getElem? (i := 20) rfl)
theorem mw16_21 : Cond.code yX1_check cX1_check 1 (some .int) ∈ wsL_law := inr16 _ (List.mem_of_getElem? (i := 21) rfl)
abbrev tsX0_init : List Cond := .code yX0_init cX0_init 1 none :: wsL_law
abbrev tsX1_init : List Cond := .code yX1_init cX1_init 1 none :: wsL_law
abbrev tsX0_point : List Cond := .code yX0_point cX0_point 5 (some .int) :: wsL_law
abbrev tsX0_isPlace : List Cond := .code yX0_isPlace cX0_isPlace 2 (some .boolean) :: wsL_law
abbrev tsX0_leastFree : List Cond := .code yX0_leastFree cX0_leastFree 2 (some .int) :: wsL_law
abbrev tsX0_put : List Cond := .code yX0_put cX0_put 4 none :: wsL_law
abbrev tsX0_forget : List Cond := .code yX0_forget cX0_forget 1 none :: wsL_law
abbrev tsX1_point : List Cond := .code yX1_point cX1_point 5 (some .int) :: wsL_law
abbrev tsX1_isPlace : List Cond := .code yX1_isPlace cX1_isPlace 2 (some .boolean) :: wsL_law
abbrev tsX0_remove : List Cond := .code yX0_remove cX0_remove 2 (some .int) :: wsL_law
abbrev tsX0_isPoint : List Cond := .code yX0_isPoint cX0_isPoint 2 (some .boolean) :: wsL_law
abbrev tsX0_countPoints : List Cond := .code yX0_countPoints cX0_countPoints 3 (some .int) :: wsL_law
abbrev tsX1_remove : List Cond := .code yX1_remove cX1_remove 2 (some .int) :: wsL_law
abbrev tsX1_isPoint : List Cond := .code yX1_isPoint cX1_isPoint 2 (some .boolean) :: wsL_law
abbrev tsX1_points : List Cond := .code yX1_points cX1_points 3 (some .int) :: wsL_law
abbrev tsX0_move : List Cond := .code yX0_move cX0_move 4 (some .int) :: wsL_law
abbrev tsX1_move : List Cond := .code yX1_move cX1_move 4 (some .int) :: wsL_law
abbrev tsX0_way : List Cond := .code yX0_way cX0_way 2 (some .int) :: wsL_law
abbrev tsX1_way : List Cond := .code yX1_way cX1_way 2 (some .int) :: wsL_law
abbrev tsX0_reach : List Cond := .code yX0_reach cX0_reach 3 (some .int) :: wsL_law
abbrev tsX1_reach : List Cond := .code yX1_reach cX1_reach 3 (some .int) :: wsL_law
abbrev tsX0_demand : List Cond := .code yX0_demand cX0_demand 2 (some .int) :: wsL_law
abbrev tsX1_demand : List Cond := .code yX1_demand cX1_demand 2 (some .int) :: wsL_law
abbrev tsX0_distance : List Cond := .code yX0_distance cX0_distance 3 (some .long) :: wsL_law
abbrev tsX0_gapBetween : List Cond := .code yX0_gapBetween cX0_gapBetween 3 (some .long) :: wsL_law
abbrev tsX0_gapTo : List Cond := .code yX0_gapTo cX0_gapTo 8 (some .long) :: wsL_law
abbrev tsX1_distance : List Cond := .code yX1_distance cX1_distance 3 (some .long) :: wsL_law
abbrev tsX1_far : List Cond := .code yX1_far cX1_far 10 (some .long) :: wsL_law
abbrev tsX0_kind : List Cond := .code yX0_kind cX0_kind 2 (some .int) :: wsL_law
abbrev tsX0_sortWith : List Cond := .code yX0_sortWith cX0_sortWith 3 none :: wsL_law
abbrev tsX0_markCores : List Cond := .code yX0_markCores cX0_markCores 4 none :: wsL_law
abbrev tsX0_weightWithin : List Cond := .code yX0_weightWithin cX0_weightWithin 6 (some .int) :: wsL_law
abbrev tsX0_gatherCrowds : List Cond := .code yX0_gatherCrowds cX0_gatherCrowds 4 none :: wsL_law
abbrev tsX0_gatherFrom : List Cond := .code yX0_gatherFrom cX0_gatherFrom 6 none :: wsL_law
abbrev tsX0_leastUnsettledCore : List Cond := .code yX0_leastUnsettledCore cX0_leastUnsettledCore 2 (some .int) :: wsL_law
abbrev tsX0_gatherCoresNear : List Cond := .code yX0_gatherCoresNear cX0_gatherCoresNear 5 none :: wsL_law
abbrev tsX0_joinBorders : List Cond := .code yX0_joinBorders cX0_joinBorders 4 none :: wsL_law
abbrev tsX0_leastCrowdAt : List Cond := .code yX0_leastCrowdAt cX0_leastCrowdAt 7 (some .int) :: wsL_law
abbrev tsX0_kindOf : List Cond := .code yX0_kindOf cX0_kindOf 2 (some .int) :: wsL_law
abbrev tsX1_kind : List Cond := .code yX1_kind cX1_kind 2 (some .int) :: wsL_law
abbrev tsX1_find : List Cond := .code yX1_find cX1_find 6 none :: wsL_law
abbrev tsX1_weightWithin : List Cond := .code yX1_weightWithin cX1_weightWithin 6 (some .int) :: wsL_law
abbrev tsX1_spread : List Cond := .code yX1_spread cX1_spread 6 (some .boolean) :: wsL_law
abbrev tsX1_least : List Cond := .code yX1_least cX1_least 7 (some .int) :: wsL_law
abbrev tsX0_crowd : List Cond := .code yX0_crowd cX0_crowd 2 (some .int) :: wsL_law
abbrev tsX1_crowd : List Cond := .code yX1_crowd cX1_crowd 2 (some .int) :: wsL_law
abbrev tsX0_count : List Cond := .code yX0_count cX0_count 2 (some .int) :: wsL_law
abbrev tsX0_countKind : List Cond := .code yX0_countKind cX0_countKind 4 (some .int) :: wsL_law
abbrev tsX0_countWeights : List Cond := .code yX0_countWeights cX0_countWeights 3 (some .int) :: wsL_law
abbrev tsX1_count : List Cond := .code yX1_count cX1_count 6 (some .int) :: wsL_law
abbrev tsX0_about : List Cond := .code yX0_about cX0_about 3 (some .int) :: wsL_law
abbrev tsX0_pointsOf : List Cond := .code yX0_pointsOf cX0_pointsOf 4 (some .int) :: wsL_law
abbrev tsX0_coresOf : List Cond := .code yX0_coresOf cX0_coresOf 4 (some .int) :: wsL_law
abbrev tsX0_weightsOf : List Cond := .code yX0_weightsOf cX0_weightsOf 4 (some .int) :: wsL_law
abbrev tsX0_leastCoreOf : List Cond := .code yX0_leastCoreOf cX0_leastCoreOf 3 (some .int) :: wsL_law
abbrev tsX0_leastOf : List Cond := .code yX0_leastOf cX0_leastOf 5 (some .int) :: wsL_law
abbrev tsX0_greatestOf : List Cond := .code yX0_greatestOf cX0_greatestOf 5 (some .int) :: wsL_law
abbrev tsX1_about : List Cond := .code yX1_about cX1_about 12 (some .int) :: wsL_law
abbrev tsX0_around : List Cond := .code yX0_around cX0_around 2 (some .int) :: wsL_law
abbrev tsX1_around : List Cond := .code yX1_around cX1_around 2 (some .int) :: wsL_law
abbrev tsX0_belongs : List Cond := .code yX0_belongs cX0_belongs 3 (some .int) :: wsL_law
abbrev tsX1_belongs : List Cond := .code yX1_belongs cX1_belongs 3 (some .int) :: wsL_law
abbrev tsX0_dense : List Cond := .code yX0_dense cX0_dense 2 (some .long) :: wsL_law
abbrev tsX0_leastReachAsCore : List Cond := .code yX0_leastReachAsCore cX0_leastReachAsCore 7 (some .long) :: wsL_law
abbrev tsX0_lastGap : List Cond := .code yX0_lastGap cX0_lastGap 2 (some .long) :: wsL_law
abbrev tsX0_keepNear : List Cond := .code yX0_keepNear cX0_keepNear 6 (some .int) :: wsL_law
abbrev tsX1_dense : List Cond := .code yX1_dense cX1_dense 2 (some .long) :: wsL_law
abbrev tsX1_findDense : List Cond := .code yX1_findDense cX1_findDense 7 (some .long) :: wsL_law
abbrev tsX0_meet : List Cond := .code yX0_meet cX0_meet 3 (some .long) :: wsL_law
abbrev tsX0_findCoreFrom : List Cond := .code yX0_findCoreFrom cX0_findCoreFrom 2 none :: wsL_law
abbrev tsX0_leastReachFrom : List Cond := .code yX0_leastReachFrom cX0_leastReachFrom 5 (some .long) :: wsL_law
abbrev tsX0_cheapestUnsettled : List Cond := .code yX0_cheapestUnsettled cX0_cheapestUnsettled 3 (some .int) :: wsL_law
abbrev tsX0_reachOnFrom : List Cond := .code yX0_reachOnFrom cX0_reachOnFrom 5 none :: wsL_law
abbrev tsX1_meet : List Cond := .code yX1_meet cX1_meet 8 (some .long) :: wsL_law
abbrev tsX1_greater : List Cond := .code yX1_greater cX1_greater 4 (some .long) :: wsL_law
abbrev tsX0_crowds : List Cond := .code yX0_crowds cX0_crowds 3 (some .int) :: wsL_law
abbrev tsX1_crowds : List Cond := .code yX1_crowds cX1_crowds 3 (some .int) :: wsL_law
abbrev tsX0_check : List Cond := .code yX0_check cX0_check 2 (some .int) :: wsL_law
abbrev tsX0_standsRight : List Cond := .code yX0_standsRight cX0_standsRight 6 (some .boolean) :: wsL_law
abbrev tsX1_check : List Cond := .code yX1_check cX1_check 1 (some .int) :: wsL_law
end
section
theorem dX0_init_0 : decode cX0_init 0 = .ok (.aload_n 0, 1) := by decide +kernel
theorem dX0_init_1 : decode cX0_init 1 = .ok (.invokespecial 3, 3) := by decide +kernel
theorem dX0_init_4 : decode cX0_init 4 = .ok (.aload_n 0, 1) := by decide +kernel
theorem dX0_init_5 : decode cX0_init 5 = .ok (.bipush 120, 2) := by decide +kernel
theorem dX0_init_7 : decode cX0_init 7 = .ok (.newarray .int, 2) := by decide +kernel
theorem dX0_init_9 : decode cX0_init 9 = .ok (.putfield 9, 3) := by decide +kernel
theorem dX0_init_12 : decode cX0_init 12 = .ok (.aload_n 0, 1) := by decide +kernel
theorem dX0_init_13 : decode cX0_init 13 = .ok (.bipush 120, 2) := by decide +kernel
theorem dX0_init_15 : decode cX0_init 15 = .ok (.newarray .int, 2) := by decide +kernel
theorem dX0_init_17 : decode cX0_init 17 = .ok (.putfield 13, 3) := by decide +kernel
theorem dX0_init_20 : decode cX0_init 20 = .ok (.aload_n 0, 1) := by decide +kernel
theorem dX0_init_21 : decode cX0_init 21 = .ok (.bipush 120, 2) := by decide +kernel
theorem dX0_init_23 : decode cX0_init 23 = .ok (.newarray .int, 2) := by decide +kernel
theorem dX0_init_25 : decode cX0_init 25 = .ok (.putfield 16, 3) := by decide +kernel
theorem dX0_init_28 : decode cX0_init 28 = .ok (.aload_n 0, 1) := by decide +kernel
theorem dX0_init_29 : decode cX0_init 29 = .ok (.iconst 0, 1) := by decide +kernel
theorem dX0_init_30 : decode cX0_init 30 = .ok (.putfield 19, 3) := by decide +kernel
theorem dX0_init_33 : decode cX0_init 33 = .ok (.aload_n 0, 1) := by decide +kernel
theorem dX0_init_34 : decode cX0_init 34 = .ok (.lconst 0, 1) := by decide +kernel
theorem dX0_init_35 : decode cX0_init 35 = .ok (.putfield 23, 3) := by decide +kernel
theorem dX0_init_38 : decode cX0_init 38 = .ok (.aload_n 0, 1) := by decide +kernel
theorem dX0_init_39 : decode cX0_init 39 = .ok (.iconst 1, 1) := by decide +kernel
theorem dX0_init_40 : decode cX0_init 40 = .ok (.putfield 27, 3) := by decide +kernel
theorem dX0_init_43 : decode cX0_init 43 = .ok (.aload_n 0, 1) := by decide +kernel
theorem dX0_init_44 : decode cX0_init 44 = .ok (.bipush 120, 2) := by decide +kernel
theorem dX0_init_46 : decode cX0_init 46 = .ok (.newarray .boolean, 2) := by decide +kernel
theorem dX0_init_48 : decode cX0_init 48 = .ok (.putfield 30, 3) := by decide +kernel
theorem dX0_init_51 : decode cX0_init 51 = .ok (.aload_n 0, 1) := by decide +kernel
theorem dX0_init_52 : decode cX0_init 52 = .ok (.bipush 120, 2) := by decide +kernel
theorem dX0_init_54 : decode cX0_init 54 = .ok (.newarray .int, 2) := by decide +kernel
theorem dX0_init_56 : decode cX0_init 56 = .ok (.putfield 34, 3) := by decide +kernel
theorem dX0_init_59 : decode cX0_init 59 = .ok (.aload_n 0, 1) := by decide +kernel
theorem dX0_init_60 : decode cX0_init 60 = .ok (.iconst 0, 1) := by decide +kernel
theorem dX0_init_61 : decode cX0_init 61 = .ok (.putfield 37, 3) := by decide +kernel
theorem dX0_init_64 : decode cX0_init 64 = .ok (.aload_n 0, 1) := by decide +kernel
theorem dX0_init_65 : decode cX0_init 65 = .ok (.lconst 0, 1) := by decide +kernel
theorem dX0_init_66 : decode cX0_init 66 = .ok (.putfield 40, 3) := by decide +kernel
theorem dX0_init_69 : decode cX0_init 69 = .ok (.aload_n 0, 1) := by decide +kernel
theorem dX0_init_70 : decode cX0_init 70 = .ok (.iconst 0, 1) := by decide +kernel
theorem dX0_init_71 : decode cX0_init 71 = .ok (.putfield 43, 3) := by decide +kernel
theorem dX0_init_74 : decode cX0_init 74 = .ok (.aload_n 0, 1) := by decide +kernel
theorem dX0_init_75 : decode cX0_init 75 = .ok (.bipush 120, 2) := by decide +kernel
theorem dX0_init_77 : decode cX0_init 77 = .ok (.newarray .long, 2) := by decide +kernel
theorem dX0_init_79 : decode cX0_init 79 = .ok (.putfield 47, 3) := by decide +kernel
theorem dX0_init_82 : decode cX0_init 82 = .ok (.aload_n 0, 1) := by decide +kernel
theorem dX0_init_83 : decode cX0_init 83 = .ok (.iconst 0, 1) := by decide +kernel
theorem dX0_init_84 : decode cX0_init 84 = .ok (.putfield 51, 3) := by decide +kernel
theorem dX0_init_87 : decode cX0_init 87 = .ok (.aload_n 0, 1) := by decide +kernel
theorem dX0_init_88 : decode cX0_init 88 = .ok (.bipush 120, 2) := by decide +kernel
theorem dX0_init_90 : decode cX0_init 90 = .ok (.newarray .long, 2) := by decide +kernel
theorem dX0_init_92 : decode cX0_init 92 = .ok (.putfield 54, 3) := by decide +kernel
theorem dX0_init_95 : decode cX0_init 95 = .ok (.aload_n 0, 1) := by decide +kernel
theorem dX0_init_96 : decode cX0_init 96 = .ok (.bipush 120, 2) := by decide +kernel
theorem dX0_init_98 : decode cX0_init 98 = .ok (.newarray .int, 2) := by decide +kernel
theorem dX0_init_100 : decode cX0_init 100 = .ok (.putfield 57, 3) := by decide +kernel
theorem dX0_init_103 : decode cX0_init 103 = .ok (.aload_n 0, 1) := by decide +kernel
theorem dX0_init_104 : decode cX0_init 104 = .ok (.bipush 120, 2) := by decide +kernel
theorem dX0_init_106 : decode cX0_init 106 = .ok (.newarray .long, 2) := by decide +kernel
theorem dX0_init_108 : decode cX0_init 108 = .ok (.putfield 60, 3) := by decide +kernel
theorem dX0_init_111 : decode cX0_init 111 = .ok (.aload_n 0, 1) := by decide +kernel
theorem dX0_init_112 : decode cX0_init 112 = .ok (.bipush 120, 2) := by decide +kernel
theorem dX0_init_114 : decode cX0_init 114 = .ok (.newarray .boolean, 2) := by decide +kernel
theorem dX0_init_116 : decode cX0_init 116 = .ok (.putfield 63, 3) := by decide +kernel
theorem dX0_init_119 : decode cX0_init 119 = .ok (.return_, 1) := by decide +kernel
theorem dX0_point_0 : decode cX0_point 0 = .ok (.iload_n 1, 1) := by decide +kernel
theorem dX0_point_1 : decode cX0_point 1 = .ok (.iload_n 2, 1) := by decide +kernel
theorem dX0_point_2 : decode cX0_point 2 = .ok (.invokestatic 66, 3) := by decide +kernel
theorem dX0_point_5 : decode cX0_point 5 = .ok (.ifCond .eq 14, 3) := by decide +kernel
theorem dX0_point_8 : decode cX0_point 8 = .ok (.iload_n 3, 1) := by decide +kernel
theorem dX0_point_9 : decode cX0_point 9 = .ok (.iconst 1, 1) := by decide +kernel
theorem dX0_point_10 : decode cX0_point 10 = .ok (.if_icmp .lt 9, 3) := by decide +kernel
theorem dX0_point_13 : decode cX0_point 13 = .ok (.iload_n 3, 1) := by decide +kernel
theorem dX0_point_14 : decode cX0_point 14 = .ok (.bipush 20, 2) := by decide +kernel
theorem dX0_point_16 : decode cX0_point 16 = .ok (.if_icmp .le 5, 3) := by decide +kernel
theorem dX0_point_19 : decode cX0_point 19 = .ok (.iconst (-1), 1) := by decide +kernel
theorem dX0_point_20 : decode cX0_point 20 = .ok (.ireturn, 1) := by decide +kernel
theorem dX0_point_21 : decode cX0_point 21 = .ok (.aload_n 0, 1) := by decide +kernel
theorem dX0_point_22 : decode cX0_point 22 = .ok (.invokevirtual 70, 3) := by decide +kernel
theorem dX0_point_25 : decode cX0_point 25 = .ok (.istore 4, 2) := by decide +kernel
theorem dX0_point_27 : decode cX0_point 27 = .ok (.iload 4, 2) := by decide +kernel
theorem dX0_point_29 : decode cX0_point 29 = .ok (.iconst (-1), 1) := by decide +kernel
theorem dX0_point_30 : decode cX0_point 30 = .ok (.if_icmp .ne 5, 3) := by decide +kernel
theorem dX0_point_33 : decode cX0_point 33 = .ok (.iconst (-1), 1) := by decide +kernel
theorem dX0_point_34 : decode cX0_point 34 = .ok (.ireturn, 1) := by decide +kernel
theorem dX0_point_35 : decode cX0_point 35 = .ok (.aload_n 0, 1) := by decide +kernel
theorem dX0_point_36 : decode cX0_point 36 = .ok (.getfield 9, 3) := by decide +kernel
theorem dX0_point_39 : decode cX0_point 39 = .ok (.iload 4, 2) := by decide +kernel
theorem dX0_point_41 : decode cX0_point 41 = .ok (.iload_n 3, 1) := by decide +kernel
theorem dX0_point_42 : decode cX0_point 42 = .ok (.iastore, 1) := by decide +kernel
theorem dX0_point_43 : decode cX0_point 43 = .ok (.aload_n 0, 1) := by decide +kernel
theorem dX0_point_44 : decode cX0_point 44 = .ok (.iload 4, 2) := by decide +kernel
theorem dX0_point_46 : decode cX0_point 46 = .ok (.iload_n 1, 1) := by decide +kernel
theorem dX0_point_47 : decode cX0_point 47 = .ok (.iload_n 2, 1) := by decide +kernel
theorem dX0_point_48 : decode cX0_point 48 = .ok (.invokevirtual 74, 3) := by decide +kernel
theorem dX0_point_51 : decode cX0_point 51 = .ok (.iload 4, 2) := by decide +kernel
theorem dX0_point_53 : decode cX0_point 53 = .ok (.ireturn, 1) := by decide +kernel
theorem dX0_remove_0 : decode cX0_remove 0 = .ok (.aload_n 0, 1) := by decide +kernel
theorem dX0_remove_1 : decode cX0_remove 1 = .ok (.iload_n 1, 1) := by decide +kernel
theorem dX0_remove_2 : decode cX0_remove 2 = .ok (.invokevirtual 78, 3) := by decide +kernel
theorem dX0_remove_5 : decode cX0_remove 5 = .ok (.ifCond .ne 5, 3) := by decide +kernel
theorem dX0_remove_8 : decode cX0_remove 8 = .ok (.iconst (-1), 1) := by decide +kernel
theorem dX0_remove_9 : decode cX0_remove 9 = .ok (.ireturn, 1) := by decide +kernel
theorem dX0_remove_10 : decode cX0_remove 10 = .ok (.aload_n 0, 1) := by decide +kernel
theorem dX0_remove_11 : decode cX0_remove 11 = .ok (.getfield 9, 3) := by decide +kernel
theorem dX0_remove_14 : decode cX0_remove 14 = .ok (.iload_n 1, 1) := by decide +kernel
theorem dX0_remove_15 : decode cX0_remove 15 = .ok (.iconst 0, 1) := by decide +kernel
theorem dX0_remove_16 : decode cX0_remove 16 = .ok (.iastore, 1) := by decide +kernel
theorem dX0_remove_17 : decode cX0_remove 17 = .ok (.aload_n 0, 1) := by decide +kernel
theorem dX0_remove_18 : decode cX0_remove 18 = .ok (.invokevirtual 82, 3) := by decide +kernel
theorem dX0_remove_21 : decode cX0_remove 21 = .ok (.aload_n 0, 1) := by decide +kernel
theorem dX0_remove_22 : decode cX0_remove 22 = .ok (.invokevirtual 85, 3) := by decide +kernel
theorem dX0_remove_25 : decode cX0_remove 25 = .ok (.ireturn, 1) := by decide +kernel
theorem dX0_move_0 : decode cX0_move 0 = .ok (.aload_n 0, 1) := by decide +kernel
theorem dX0_move_1 : decode cX0_move 1 = .ok (.iload_n 1, 1) := by decide +kernel
theorem dX0_move_2 : decode cX0_move 2 = .ok (.invokevirtual 78, 3) := by decide +kernel
theorem dX0_move_5 : decode cX0_move 5 = .ok (.ifCond .eq 11, 3) := by decide +kernel
theorem dX0_move_8 : decode cX0_move 8 = .ok (.iload_n 2, 1) := by decide +kernel
theorem dX0_move_9 : decode cX0_move 9 = .ok (.iload_n 3, 1) := by decide +kernel
theorem dX0_move_10 : decode cX0_move 10 = .ok (.invokestatic 66, 3) := by decide +kernel
theorem dX0_move_13 : decode cX0_move 13 = .ok (.ifCond .ne 5, 3) := by decide +kernel
theorem dX0_move_16 : decode cX0_move 16 = .ok (.iconst 0, 1) := by decide +kernel
theorem dX0_move_17 : decode cX0_move 17 = .ok (.ireturn, 1) := by decide +kernel
theorem dX0_move_18 : decode cX0_move 18 = .ok (.aload_n 0, 1) := by decide +kernel
theorem dX0_move_19 : decode cX0_move 19 = .ok (.iload_n 1, 1) := by decide +kernel
theorem dX0_move_20 : decode cX0_move 20 = .ok (.iload_n 2, 1) := by decide +kernel
theorem dX0_move_21 : decode cX0_move 21 = .ok (.iload_n 3, 1) := by decide +kernel
theorem dX0_move_22 : decode cX0_move 22 = .ok (.invokevirtual 74, 3) := by decide +kernel
theorem dX0_move_25 : decode cX0_move 25 = .ok (.iconst 1, 1) := by decide +kernel
theorem dX0_move_26 : decode cX0_move 26 = .ok (.ireturn, 1) := by decide +kernel
theorem dX0_way_0 : decode cX0_way 0 = .ok (.iload_n 1, 1) := by decide +kernel
theorem dX0_way_1 : decode cX0_way 1 = .ok (.ifCond .lt 8, 3) := by decide +kernel
theorem dX0_way_4 : decode cX0_way 4 = .ok (.iload_n 1, 1) := by decide +kernel
theorem dX0_way_5 : decode cX0_way 5 = .ok (.iconst 2, 1) := by decide +kernel
theorem dX0_way_6 : decode cX0_way 6 = .ok (.if_icmp .le 5, 3) := by decide +kernel
theorem dX0_way_9 : decode cX0_way 9 = .ok (.iconst 0, 1) := by decide +kernel
theorem dX0_way_10 : decode cX0_way 10 = .ok (.ireturn, 1) := by decide +kernel
theorem dX0_way_11 : decode cX0_way 11 = .ok (.aload_n 0, 1) := by decide +kernel
theorem dX0_way_12 : decode cX0_way 12 = .ok (.iload_n 1, 1) := by decide +kernel
theorem dX0_way_13 : decode cX0_way 13 = .ok (.putfield 19, 3) := by decide +kernel
theorem dX0_way_16 : decode cX0_way 16 = .ok (.aload_n 0, 1) := by decide +kernel
theorem dX0_way_17 : decode cX0_way 17 = .ok (.invokevirtual 82, 3) := by decide +kernel
theorem dX0_way_20 : decode cX0_way 20 = .ok (.iconst 1, 1) := by decide +kernel
theorem dX0_way_21 : decode cX0_way 21 = .ok (.ireturn, 1) := by decide +kernel
theorem dX0_reach_0 : decode cX0_reach 0 = .ok (.lload_n 1, 1) := by decide +kernel
theorem dX0_reach_1 : decode cX0_reach 1 = .ok (.lconst 0, 1) := by decide +kernel
theorem dX0_reach_2 : decode cX0_reach 2 = .ok (.lcmp, 1) := by decide +kernel
theorem dX0_reach_3 : decode cX0_reach 3 = .ok (.ifCond .ge 5, 3) := by decide +kernel
theorem dX0_reach_6 : decode cX0_reach 6 = .ok (.iconst 0, 1) := by decide +kernel
theorem dX0_reach_7 : decode cX0_reach 7 = .ok (.ireturn, 1) := by decide +kernel
theorem dX0_reach_8 : decode cX0_reach 8 = .ok (.aload_n 0, 1) := by decide +kernel
theorem dX0_reach_9 : decode cX0_reach 9 = .ok (.lload_n 1, 1) := by decide +kernel
theorem dX0_reach_10 : decode cX0_reach 10 = .ok (.putfield 23, 3) := by decide +kernel
theorem dX0_reach_13 : decode cX0_reach 13 = .ok (.iconst 1, 1) := by decide +kernel
theorem dX0_reach_14 : decode cX0_reach 14 = .ok (.ireturn, 1) := by decide +kernel
theorem dX0_demand_0 : decode cX0_demand 0 = .ok (.iload_n 1, 1) := by decide +kernel
theorem dX0_demand_1 : decode cX0_demand 1 = .ok (.iconst 1, 1) := by decide +kernel
theorem dX0_demand_2 : decode cX0_demand 2 = .ok (.if_icmp .lt 10, 3) := by decide +kernel
theorem dX0_demand_5 : decode cX0_demand 5 = .ok (.iload_n 1, 1) := by decide +kernel
theorem dX0_demand_6 : decode cX0_demand 6 = .ok (.sipush 2400, 3) := by decide +kernel
theorem dX0_demand_9 : decode cX0_demand 9 = .ok (.if_icmp .le 5, 3) := by decide +kernel
theorem dX0_demand_12 : decode cX0_demand 12 = .ok (.iconst 0, 1) := by decide +kernel
theorem dX0_demand_13 : decode cX0_demand 13 = .ok (.ireturn, 1) := by decide +kernel
theorem dX0_demand_14 : decode cX0_demand 14 = .ok (.aload_n 0, 1) := by decide +kernel
theorem dX0_demand_15 : decode cX0_demand 15 = .ok (.iload_n 1, 1) := by decide +kernel
theorem dX0_demand_16 : decode cX0_demand 16 = .ok (.putfield 27, 3) := by decide +kernel
theorem dX0_demand_19 : decode cX0_demand 19 = .ok (.aload_n 0, 1) := by decide +kernel
theorem dX0_demand_20 : decode cX0_demand 20 = .ok (.invokevirtual 82, 3) := by decide +kernel
theorem dX0_demand_23 : decode cX0_demand 23 = .ok (.iconst 1, 1) := by decide +kernel
theorem dX0_demand_24 : decode cX0_demand 24 = .ok (.ireturn, 1) := by decide +kernel
theorem dX0_distance_0 : decode cX0_distance 0 = .ok (.aload_n 0, 1) := by decide +kernel
theorem dX0_distance_1 : decode cX0_distance 1 = .ok (.iload_n 1, 1) := by decide +kernel
theorem dX0_distance_2 : decode cX0_distance 2 = .ok (.invokevirtual 78, 3) := by decide +kernel
theorem dX0_distance_5 : decode cX0_distance 5 = .ok (.ifCond .eq 11, 3) := by decide +kernel
theorem dX0_distance_8 : decode cX0_distance 8 = .ok (.aload_n 0, 1) := by decide +kernel
theorem dX0_distance_9 : decode cX0_distance 9 = .ok (.iload_n 2, 1) := by decide +kernel
theorem dX0_distance_10 : decode cX0_distance 10 = .ok (.invokevirtual 78, 3) := by decide +kernel
theorem dX0_distance_13 : decode cX0_distance 13 = .ok (.ifCond .ne 7, 3) := by decide +kernel
theorem dX0_distance_16 : decode cX0_distance 16 = .ok (.ldc2_w 88, 3) := by decide +kernel
theorem dX0_distance_19 : decode cX0_distance 19 = .ok (.lreturn, 1) := by decide +kernel
theorem dX0_distance_20 : decode cX0_distance 20 = .ok (.aload_n 0, 1) := by decide +kernel
theorem dX0_distance_21 : decode cX0_distance 21 = .ok (.iload_n 1, 1) := by decide +kernel
theorem dX0_distance_22 : decode cX0_distance 22 = .ok (.iload_n 2, 1) := by decide +kernel
theorem dX0_distance_23 : decode cX0_distance 23 = .ok (.invokevirtual 90, 3) := by decide +kernel
theorem dX0_distance_26 : decode cX0_distance 26 = .ok (.lreturn, 1) := by decide +kernel
theorem dX0_kind_0 : decode cX0_kind 0 = .ok (.aload_n 0, 1) := by decide +kernel
theorem dX0_kind_1 : decode cX0_kind 1 = .ok (.iload_n 1, 1) := by decide +kernel
theorem dX0_kind_2 : decode cX0_kind 2 = .ok (.invokevirtual 78, 3) := by decide +kernel
theorem dX0_kind_5 : decode cX0_kind 5 = .ok (.ifCond .ne 5, 3) := by decide +kernel
theorem dX0_kind_8 : decode cX0_kind 8 = .ok (.iconst (-1), 1) := by decide +kernel
theorem dX0_kind_9 : decode cX0_kind 9 = .ok (.ireturn, 1) := by decide +kernel
theorem dX0_kind_10 : decode cX0_kind 10 = .ok (.aload_n 0, 1) := by decide +kernel
theorem dX0_kind_11 : decode cX0_kind 11 = .ok (.aload_n 0, 1) := by decide +kernel
theorem dX0_kind_12 : decode cX0_kind 12 = .ok (.getfield 23, 3) := by decide +kernel
theorem dX0_kind_15 : decode cX0_kind 15 = .ok (.invokevirtual 94, 3) := by decide +kernel
theorem dX0_kind_18 : decode cX0_kind 18 = .ok (.aload_n 0, 1) := by decide +kernel
theorem dX0_kind_19 : decode cX0_kind 19 = .ok (.iload_n 1, 1) := by decide +kernel
theorem dX0_kind_20 : decode cX0_kind 20 = .ok (.invokevirtual 98, 3) := by decide +kernel
theorem dX0_kind_23 : decode cX0_kind 23 = .ok (.ireturn, 1) := by decide +kernel
theorem dX0_crowd_0 : decode cX0_crowd 0 = .ok (.aload_n 0, 1) := by decide +kernel
theorem dX0_crowd_1 : decode cX0_crowd 1 = .ok (.iload_n 1, 1) := by decide +kernel
theorem dX0_crowd_2 : decode cX0_crowd 2 = .ok (.invokevirtual 78, 3) := by decide +kernel
theorem dX0_crowd_5 : decode cX0_crowd 5 = .ok (.ifCond .ne 5, 3) := by decide +kernel
theorem dX0_crowd_8 : decode cX0_crowd 8 = .ok (.iconst (-1), 1) := by decide +kernel
theorem dX0_crowd_9 : decode cX0_crowd 9 = .ok (.ireturn, 1) := by decide +kernel
theorem dX0_crowd_10 : decode cX0_crowd 10 = .ok (.aload_n 0, 1) := by decide +kernel
theorem dX0_crowd_11 : decode cX0_crowd 11 = .ok (.aload_n 0, 1) := by decide +kernel
theorem dX0_crowd_12 : decode cX0_crowd 12 = .ok (.getfield 23, 3) := by decide +kernel
theorem dX0_crowd_15 : decode cX0_crowd 15 = .ok (.invokevirtual 94, 3) := by decide +kernel
theorem dX0_crowd_18 : decode cX0_crowd 18 = .ok (.aload_n 0, 1) := by decide +kernel
theorem dX0_crowd_19 : decode cX0_crowd 19 = .ok (.getfield 34, 3) := by decide +kernel
theorem dX0_crowd_22 : decode cX0_crowd 22 = .ok (.iload_n 1, 1) := by decide +kernel
theorem dX0_crowd_23 : decode cX0_crowd 23 = .ok (.iaload, 1) := by decide +kernel
theorem dX0_crowd_24 : decode cX0_crowd 24 = .ok (.ireturn, 1) := by decide +kernel
theorem dX0_around_0 : decode cX0_around 0 = .ok (.aload_n 0, 1) := by decide +kernel
theorem dX0_around_1 : decode cX0_around 1 = .ok (.iload_n 1, 1) := by decide +kernel
theorem dX0_around_2 : decode cX0_around 2 = .ok (.invokevirtual 78, 3) := by decide +kernel
theorem dX0_around_5 : decode cX0_around 5 = .ok (.ifCond .ne 5, 3) := by decide +kernel
theorem dX0_around_8 : decode cX0_around 8 = .ok (.iconst (-1), 1) := by decide +kernel
theorem dX0_around_9 : decode cX0_around 9 = .ok (.ireturn, 1) := by decide +kernel
theorem dX0_around_10 : decode cX0_around 10 = .ok (.aload_n 0, 1) := by decide +kernel
theorem dX0_around_11 : decode cX0_around 11 = .ok (.iload_n 1, 1) := by decide +kernel
theorem dX0_around_12 : decode cX0_around 12 = .ok (.aload_n 0, 1) := by decide +kernel
theorem dX0_around_13 : decode cX0_around 13 = .ok (.getfield 23, 3) := by decide +kernel
theorem dX0_around_16 : decode cX0_around 16 = .ok (.invokevirtual 102, 3) := by decide +kernel
theorem dX0_around_19 : decode cX0_around 19 = .ok (.ireturn, 1) := by decide +kernel
theorem dX0_dense_0 : decode cX0_dense 0 = .ok (.aload_n 0, 1) := by decide +kernel
theorem dX0_dense_1 : decode cX0_dense 1 = .ok (.iload_n 1, 1) := by decide +kernel
theorem dX0_dense_2 : decode cX0_dense 2 = .ok (.invokevirtual 78, 3) := by decide +kernel
theorem dX0_dense_5 : decode cX0_dense 5 = .ok (.ifCond .ne 7, 3) := by decide +kernel
theorem dX0_dense_8 : decode cX0_dense 8 = .ok (.ldc2_w 88, 3) := by decide +kernel
theorem dX0_dense_11 : decode cX0_dense 11 = .ok (.lreturn, 1) := by decide +kernel
theorem dX0_dense_12 : decode cX0_dense 12 = .ok (.aload_n 0, 1) := by decide +kernel
theorem dX0_dense_13 : decode cX0_dense 13 = .ok (.iload_n 1, 1) := by decide +kernel
theorem dX0_dense_14 : decode cX0_dense 14 = .ok (.invokevirtual 106, 3) := by decide +kernel
theorem dX0_dense_17 : decode cX0_dense 17 = .ok (.lreturn, 1) := by decide +kernel
theorem dX0_meet_0 : decode cX0_meet 0 = .ok (.aload_n 0, 1) := by decide +kernel
theorem dX0_meet_1 : decode cX0_meet 1 = .ok (.iload_n 1, 1) := by decide +kernel
theorem dX0_meet_2 : decode cX0_meet 2 = .ok (.invokevirtual 78, 3) := by decide +kernel
theorem dX0_meet_5 : decode cX0_meet 5 = .ok (.ifCond .eq 22, 3) := by decide +kernel
theorem dX0_meet_8 : decode cX0_meet 8 = .ok (.aload_n 0, 1) := by decide +kernel
theorem dX0_meet_9 : decode cX0_meet 9 = .ok (.iload_n 2, 1) := by decide +kernel
theorem dX0_meet_10 : decode cX0_meet 10 = .ok (.invokevirtual 78, 3) := by decide +kernel
theorem dX0_meet_13 : decode cX0_meet 13 = .ok (.ifCond .eq 14, 3) := by decide +kernel
theorem dX0_meet_16 : decode cX0_meet 16 = .ok (.aload_n 0, 1) := by decide +kernel
theorem dX0_meet_17 : decode cX0_meet 17 = .ok (.invokevirtual 110, 3) := by decide +kernel
theorem dX0_meet_20 : decode cX0_meet 20 = .ok (.aload_n 0, 1) := by decide +kernel
theorem dX0_meet_21 : decode cX0_meet 21 = .ok (.getfield 27, 3) := by decide +kernel
theorem dX0_meet_24 : decode cX0_meet 24 = .ok (.if_icmp .ge 7, 3) := by decide +kernel
theorem dX0_meet_27 : decode cX0_meet 27 = .ok (.ldc2_w 88, 3) := by decide +kernel
theorem dX0_meet_30 : decode cX0_meet 30 = .ok (.lreturn, 1) := by decide +kernel
theorem dX0_meet_31 : decode cX0_meet 31 = .ok (.aload_n 0, 1) := by decide +kernel
theorem dX0_meet_32 : decode cX0_meet 32 = .ok (.invokevirtual 113, 3) := by decide +kernel
theorem dX0_meet_35 : decode cX0_meet 35 = .ok (.aload_n 0, 1) := by decide +kernel
theorem dX0_meet_36 : decode cX0_meet 36 = .ok (.iload_n 1, 1) := by decide +kernel
theorem dX0_meet_37 : decode cX0_meet 37 = .ok (.iload_n 2, 1) := by decide +kernel
theorem dX0_meet_38 : decode cX0_meet 38 = .ok (.invokevirtual 116, 3) := by decide +kernel
theorem dX0_meet_41 : decode cX0_meet 41 = .ok (.lreturn, 1) := by decide +kernel
theorem dX0_count_0 : decode cX0_count 0 = .ok (.iload_n 1, 1) := by decide +kernel
theorem dX0_count_1 : decode cX0_count 1 = .ok (.tableswitch 80 0 5 #[39, 52, 58, 64, 70, 75], 39) := by decide +kernel
theorem dX0_count_40 : decode cX0_count 40 = .ok (.aload_n 0, 1) := by decide +kernel
theorem dX0_count_41 : decode cX0_count 41 = .ok (.aload_n 0, 1) := by decide +kernel
theorem dX0_count_42 : decode cX0_count 42 = .ok (.getfield 23, 3) := by decide +kernel
theorem dX0_count_45 : decode cX0_count 45 = .ok (.invokevirtual 94, 3) := by decide +kernel
theorem dX0_count_48 : decode cX0_count 48 = .ok (.aload_n 0, 1) := by decide +kernel
theorem dX0_count_49 : decode cX0_count 49 = .ok (.getfield 37, 3) := by decide +kernel
theorem dX0_count_52 : decode cX0_count 52 = .ok (.ireturn, 1) := by decide +kernel
theorem dX0_count_53 : decode cX0_count 53 = .ok (.aload_n 0, 1) := by decide +kernel
theorem dX0_count_54 : decode cX0_count 54 = .ok (.iconst 2, 1) := by decide +kernel
theorem dX0_count_55 : decode cX0_count 55 = .ok (.invokevirtual 119, 3) := by decide +kernel
theorem dX0_count_58 : decode cX0_count 58 = .ok (.ireturn, 1) := by decide +kernel
theorem dX0_count_59 : decode cX0_count 59 = .ok (.aload_n 0, 1) := by decide +kernel
theorem dX0_count_60 : decode cX0_count 60 = .ok (.iconst 1, 1) := by decide +kernel
theorem dX0_count_61 : decode cX0_count 61 = .ok (.invokevirtual 119, 3) := by decide +kernel
theorem dX0_count_64 : decode cX0_count 64 = .ok (.ireturn, 1) := by decide +kernel
theorem dX0_count_65 : decode cX0_count 65 = .ok (.aload_n 0, 1) := by decide +kernel
theorem dX0_count_66 : decode cX0_count 66 = .ok (.iconst 0, 1) := by decide +kernel
theorem dX0_count_67 : decode cX0_count 67 = .ok (.invokevirtual 119, 3) := by decide +kernel
theorem dX0_count_70 : decode cX0_count 70 = .ok (.ireturn, 1) := by decide +kernel
theorem dX0_count_71 : decode cX0_count 71 = .ok (.aload_n 0, 1) := by decide +kernel
theorem dX0_count_72 : decode cX0_count 72 = .ok (.invokevirtual 85, 3) := by decide +kernel
theorem dX0_count_75 : decode cX0_count 75 = .ok (.ireturn, 1) := by decide +kernel
theorem dX0_count_76 : decode cX0_count 76 = .ok (.aload_n 0, 1) := by decide +kernel
theorem dX0_count_77 : decode cX0_count 77 = .ok (.invokevirtual 110, 3) := by decide +kernel
theorem dX0_count_80 : decode cX0_count 80 = .ok (.ireturn, 1) := by decide +kernel
theorem dX0_count_81 : decode cX0_count 81 = .ok (.iconst (-1), 1) := by decide +kernel
theorem dX0_count_82 : decode cX0_count 82 = .ok (.ireturn, 1) := by decide +kernel
theorem dX0_about_0 : decode cX0_about 0 = .ok (.aload_n 0, 1) := by decide +kernel
theorem dX0_about_1 : decode cX0_about 1 = .ok (.aload_n 0, 1) := by decide +kernel
theorem dX0_about_2 : decode cX0_about 2 = .ok (.getfield 23, 3) := by decide +kernel
theorem dX0_about_5 : decode cX0_about 5 = .ok (.invokevirtual 94, 3) := by decide +kernel
theorem dX0_about_8 : decode cX0_about 8 = .ok (.iload_n 1, 1) := by decide +kernel
theorem dX0_about_9 : decode cX0_about 9 = .ok (.ifCond .lt 11, 3) := by decide +kernel
theorem dX0_about_12 : decode cX0_about 12 = .ok (.iload_n 1, 1) := by decide +kernel
theorem dX0_about_13 : decode cX0_about 13 = .ok (.aload_n 0, 1) := by decide +kernel
theorem dX0_about_14 : decode cX0_about 14 = .ok (.getfield 37, 3) := by decide +kernel
theorem dX0_about_17 : decode cX0_about 17 = .ok (.if_icmp .lt 5, 3) := by decide +kernel
theorem dX0_about_20 : decode cX0_about 20 = .ok (.iconst (-1), 1) := by decide +kernel
theorem dX0_about_21 : decode cX0_about 21 = .ok (.ireturn, 1) := by decide +kernel
theorem dX0_about_22 : decode cX0_about 22 = .ok (.iload_n 2, 1) := by decide +kernel
theorem dX0_about_23 : decode cX0_about 23 = .ok (.tableswitch 109 0 7 #[45, 51, 57, 63, 69, 79, 89, 99], 45) := by decide +kernel
theorem dX0_about_68 : decode cX0_about 68 = .ok (.aload_n 0, 1) := by decide +kernel
theorem dX0_about_69 : decode cX0_about 69 = .ok (.iload_n 1, 1) := by decide +kernel
theorem dX0_about_70 : decode cX0_about 70 = .ok (.invokevirtual 122, 3) := by decide +kernel
theorem dX0_about_73 : decode cX0_about 73 = .ok (.ireturn, 1) := by decide +kernel
theorem dX0_about_74 : decode cX0_about 74 = .ok (.aload_n 0, 1) := by decide +kernel
theorem dX0_about_75 : decode cX0_about 75 = .ok (.iload_n 1, 1) := by decide +kernel
theorem dX0_about_76 : decode cX0_about 76 = .ok (.invokevirtual 125, 3) := by decide +kernel
theorem dX0_about_79 : decode cX0_about 79 = .ok (.ireturn, 1) := by decide +kernel
theorem dX0_about_80 : decode cX0_about 80 = .ok (.aload_n 0, 1) := by decide +kernel
theorem dX0_about_81 : decode cX0_about 81 = .ok (.iload_n 1, 1) := by decide +kernel
theorem dX0_about_82 : decode cX0_about 82 = .ok (.invokevirtual 128, 3) := by decide +kernel
theorem dX0_about_85 : decode cX0_about 85 = .ok (.ireturn, 1) := by decide +kernel
theorem dX0_about_86 : decode cX0_about 86 = .ok (.aload_n 0, 1) := by decide +kernel
theorem dX0_about_87 : decode cX0_about 87 = .ok (.iload_n 1, 1) := by decide +kernel
theorem dX0_about_88 : decode cX0_about 88 = .ok (.invokevirtual 131, 3) := by decide +kernel
theorem dX0_about_91 : decode cX0_about 91 = .ok (.ireturn, 1) := by decide +kernel
theorem dX0_about_92 : decode cX0_about 92 = .ok (.aload_n 0, 1) := by decide +kernel
theorem dX0_about_93 : decode cX0_about 93 = .ok (.aload_n 0, 1) := by decide +kernel
theorem dX0_about_94 : decode cX0_about 94 = .ok (.getfield 13, 3) := by decide +kernel
theorem dX0_about_97 : decode cX0_about 97 = .ok (.iload_n 1, 1) := by decide +kernel
theorem dX0_about_98 : decode cX0_about 98 = .ok (.invokevirtual 134, 3) := by decide +kernel
theorem dX0_about_101 : decode cX0_about 101 = .ok (.ireturn, 1) := by decide +kernel
theorem dX0_about_102 : decode cX0_about 102 = .ok (.aload_n 0, 1) := by decide +kernel
theorem dX0_about_103 : decode cX0_about 103 = .ok (.aload_n 0, 1) := by decide +kernel
theorem dX0_about_104 : decode cX0_about 104 = .ok (.getfield 16, 3) := by decide +kernel
theorem dX0_about_107 : decode cX0_about 107 = .ok (.iload_n 1, 1) := by decide +kernel
theorem dX0_about_108 : decode cX0_about 108 = .ok (.invokevirtual 134, 3) := by decide +kernel
theorem dX0_about_111 : decode cX0_about 111 = .ok (.ireturn, 1) := by decide +kernel
theorem dX0_about_112 : decode cX0_about 112 = .ok (.aload_n 0, 1) := by decide +kernel
theorem dX0_about_113 : decode cX0_about 113 = .ok (.aload_n 0, 1) := by decide +kernel
theorem dX0_about_114 : decode cX0_about 114 = .ok (.getfield 13, 3) := by decide +kernel
theorem dX0_about_117 : decode cX0_about 117 = .ok (.iload_n 1, 1) := by decide +kernel
theorem dX0_about_118 : decode cX0_about 118 = .ok (.invokevirtual 138, 3) := by decide +kernel
theorem dX0_about_121 : decode cX0_about 121 = .ok (.ireturn, 1) := by decide +kernel
theorem dX0_about_122 : decode cX0_about 122 = .ok (.aload_n 0, 1) := by decide +kernel
theorem dX0_about_123 : decode cX0_about 123 = .ok (.aload_n 0, 1) := by decide +kernel
theorem dX0_about_124 : decode cX0_about 124 = .ok (.getfield 16, 3) := by decide +kernel
theorem dX0_about_127 : decode cX0_about 127 = .ok (.iload_n 1, 1) := by decide +kernel
theorem dX0_about_128 : decode cX0_about 128 = .ok (.invokevirtual 138, 3) := by decide +kernel
theorem dX0_about_131 : decode cX0_about 131 = .ok (.ireturn, 1) := by decide +kernel
theorem dX0_about_132 : decode cX0_about 132 = .ok (.iconst (-1), 1) := by decide +kernel
theorem dX0_about_133 : decode cX0_about 133 = .ok (.ireturn, 1) := by decide +kernel
theorem dX0_belongs_0 : decode cX0_belongs 0 = .ok (.iload_n 1, 1) := by decide +kernel
theorem dX0_belongs_1 : decode cX0_belongs 1 = .ok (.iload_n 2, 1) := by decide +kernel
theorem dX0_belongs_2 : decode cX0_belongs 2 = .ok (.invokestatic 66, 3) := by decide +kernel
theorem dX0_belongs_5 : decode cX0_belongs 5 = .ok (.ifCond .ne 5, 3) := by decide +kernel
theorem dX0_belongs_8 : decode cX0_belongs 8 = .ok (.iconst (-1), 1) := by decide +kernel
theorem dX0_belongs_9 : decode cX0_belongs 9 = .ok (.ireturn, 1) := by decide +kernel
theorem dX0_belongs_10 : decode cX0_belongs 10 = .ok (.aload_n 0, 1) := by decide +kernel
theorem dX0_belongs_11 : decode cX0_belongs 11 = .ok (.aload_n 0, 1) := by decide +kernel
theorem dX0_belongs_12 : decode cX0_belongs 12 = .ok (.getfield 23, 3) := by decide +kernel
theorem dX0_belongs_15 : decode cX0_belongs 15 = .ok (.invokevirtual 94, 3) := by decide +kernel
theorem dX0_belongs_18 : decode cX0_belongs 18 = .ok (.aload_n 0, 1) := by decide +kernel
theorem dX0_belongs_19 : decode cX0_belongs 19 = .ok (.iload_n 1, 1) := by decide +kernel
theorem dX0_belongs_20 : decode cX0_belongs 20 = .ok (.iload_n 2, 1) := by decide +kernel
theorem dX0_belongs_21 : decode cX0_belongs 21 = .ok (.aload_n 0, 1) := by decide +kernel
theorem dX0_belongs_22 : decode cX0_belongs 22 = .ok (.getfield 23, 3) := by decide +kernel
theorem dX0_belongs_25 : decode cX0_belongs 25 = .ok (.invokevirtual 141, 3) := by decide +kernel
theorem dX0_belongs_28 : decode cX0_belongs 28 = .ok (.ireturn, 1) := by decide +kernel
theorem dX0_crowds_0 : decode cX0_crowds 0 = .ok (.lload_n 1, 1) := by decide +kernel
theorem dX0_crowds_1 : decode cX0_crowds 1 = .ok (.lconst 0, 1) := by decide +kernel
theorem dX0_crowds_2 : decode cX0_crowds 2 = .ok (.lcmp, 1) := by decide +kernel
theorem dX0_crowds_3 : decode cX0_crowds 3 = .ok (.ifCond .ge 5, 3) := by decide +kernel
theorem dX0_crowds_6 : decode cX0_crowds 6 = .ok (.iconst (-1), 1) := by decide +kernel
theorem dX0_crowds_7 : decode cX0_crowds 7 = .ok (.ireturn, 1) := by decide +kernel
theorem dX0_crowds_8 : decode cX0_crowds 8 = .ok (.aload_n 0, 1) := by decide +kernel
theorem dX0_crowds_9 : decode cX0_crowds 9 = .ok (.lload_n 1, 1) := by decide +kernel
theorem dX0_crowds_10 : decode cX0_crowds 10 = .ok (.invokevirtual 94, 3) := by decide +kernel
theorem dX0_crowds_13 : decode cX0_crowds 13 = .ok (.aload_n 0, 1) := by decide +kernel
theorem dX0_crowds_14 : decode cX0_crowds 14 = .ok (.getfield 37, 3) := by decide +kernel
theorem dX0_crowds_17 : decode cX0_crowds 17 = .ok (.ireturn, 1) := by decide +kernel
theorem dX0_check_0 : decode cX0_check 0 = .ok (.aload_n 0, 1) := by decide +kernel
theorem dX0_check_1 : decode cX0_check 1 = .ok (.aload_n 0, 1) := by decide +kernel
theorem dX0_check_2 : decode cX0_check 2 = .ok (.getfield 23, 3) := by decide +kernel
theorem dX0_check_5 : decode cX0_check 5 = .ok (.invokevirtual 94, 3) := by decide +kernel
theorem dX0_check_8 : decode cX0_check 8 = .ok (.iconst 0, 1) := by decide +kernel
theorem dX0_check_9 : decode cX0_check 9 = .ok (.istore_n 1, 1) := by decide +kernel
theorem dX0_check_10 : decode cX0_check 10 = .ok (.iload_n 1, 1) := by decide +kernel
theorem dX0_check_11 : decode cX0_check 11 = .ok (.bipush 120, 2) := by decide +kernel
theorem dX0_check_13 : decode cX0_check 13 = .ok (.if_icmp .ge 28, 3) := by decide +kernel
theorem dX0_check_16 : decode cX0_check 16 = .ok (.aload_n 0, 1) := by decide +kernel
theorem dX0_check_17 : decode cX0_check 17 = .ok (.getfield 30, 3) := by decide +kernel
theorem dX0_check_20 : decode cX0_check 20 = .ok (.iload_n 1, 1) := by decide +kernel
theorem dX0_check_21 : decode cX0_check 21 = .ok (.baload, 1) := by decide +kernel
theorem dX0_check_22 : decode cX0_check 22 = .ok (.ifCond .eq 13, 3) := by decide +kernel
theorem dX0_check_25 : decode cX0_check 25 = .ok (.aload_n 0, 1) := by decide +kernel
theorem dX0_check_26 : decode cX0_check 26 = .ok (.iload_n 1, 1) := by decide +kernel
theorem dX0_check_27 : decode cX0_check 27 = .ok (.invokevirtual 145, 3) := by decide +kernel
theorem dX0_check_30 : decode cX0_check 30 = .ok (.ifCond .ne 5, 3) := by decide +kernel
theorem dX0_check_33 : decode cX0_check 33 = .ok (.iconst 0, 1) := by decide +kernel
theorem dX0_check_34 : decode cX0_check 34 = .ok (.ireturn, 1) := by decide +kernel
theorem dX0_check_35 : decode cX0_check 35 = .ok (.iinc 1 1, 3) := by decide +kernel
theorem dX0_check_38 : decode cX0_check 38 = .ok (.goto (-28), 3) := by decide +kernel
theorem dX0_check_41 : decode cX0_check 41 = .ok (.iconst 1, 1) := by decide +kernel
theorem dX0_check_42 : decode cX0_check 42 = .ok (.ireturn, 1) := by decide +kernel
theorem dX0_isPlace_0 : decode cX0_isPlace 0 = .ok (.iload_n 0, 1) := by decide +kernel
theorem dX0_isPlace_1 : decode cX0_isPlace 1 = .ok (.ldc 148, 2) := by decide +kernel
theorem dX0_isPlace_3 : decode cX0_isPlace 3 = .ok (.if_icmp .lt 25, 3) := by decide +kernel
theorem dX0_isPlace_6 : decode cX0_isPlace 6 = .ok (.iload_n 0, 1) := by decide +kernel
theorem dX0_isPlace_7 : decode cX0_isPlace 7 = .ok (.ldc 149, 2) := by decide +kernel
theorem dX0_isPlace_9 : decode cX0_isPlace 9 = .ok (.if_icmp .gt 19, 3) := by decide +kernel
theorem dX0_isPlace_12 : decode cX0_isPlace 12 = .ok (.iload_n 1, 1) := by decide +kernel
theorem dX0_isPlace_13 : decode cX0_isPlace 13 = .ok (.ldc 148, 2) := by decide +kernel
theorem dX0_isPlace_15 : decode cX0_isPlace 15 = .ok (.if_icmp .lt 13, 3) := by decide +kernel
theorem dX0_isPlace_18 : decode cX0_isPlace 18 = .ok (.iload_n 1, 1) := by decide +kernel
theorem dX0_isPlace_19 : decode cX0_isPlace 19 = .ok (.ldc 149, 2) := by decide +kernel
theorem dX0_isPlace_21 : decode cX0_isPlace 21 = .ok (.if_icmp .gt 7, 3) := by decide +kernel
theorem dX0_isPlace_24 : decode cX0_isPlace 24 = .ok (.iconst 1, 1) := by decide +kernel
theorem dX0_isPlace_25 : decode cX0_isPlace 25 = .ok (.goto 4, 3) := by decide +kernel
theorem dX0_isPlace_28 : decode cX0_isPlace 28 = .ok (.iconst 0, 1) := by decide +kernel
theorem dX0_isPlace_29 : decode cX0_isPlace 29 = .ok (.ireturn, 1) := by decide +kernel
theorem dX0_isPoint_0 : decode cX0_isPoint 0 = .ok (.iload_n 1, 1) := by decide +kernel
theorem dX0_isPoint_1 : decode cX0_isPoint 1 = .ok (.ifCond .lt 22, 3) := by decide +kernel
theorem dX0_isPoint_4 : decode cX0_isPoint 4 = .ok (.iload_n 1, 1) := by decide +kernel
theorem dX0_isPoint_5 : decode cX0_isPoint 5 = .ok (.bipush 120, 2) := by decide +kernel
theorem dX0_isPoint_7 : decode cX0_isPoint 7 = .ok (.if_icmp .ge 16, 3) := by decide +kernel
theorem dX0_isPoint_10 : decode cX0_isPoint 10 = .ok (.aload_n 0, 1) := by decide +kernel
theorem dX0_isPoint_11 : decode cX0_isPoint 11 = .ok (.getfield 9, 3) := by decide +kernel
theorem dX0_isPoint_14 : decode cX0_isPoint 14 = .ok (.iload_n 1, 1) := by decide +kernel
theorem dX0_isPoint_15 : decode cX0_isPoint 15 = .ok (.iaload, 1) := by decide +kernel
theorem dX0_isPoint_16 : decode cX0_isPoint 16 = .ok (.ifCond .le 7, 3) := by decide +kernel
theorem dX0_isPoint_19 : decode cX0_isPoint 19 = .ok (.iconst 1, 1) := by decide +kernel
theorem dX0_isPoint_20 : decode cX0_isPoint 20 = .ok (.goto 4, 3) := by decide +kernel
theorem dX0_isPoint_23 : decode cX0_isPoint 23 = .ok (.iconst 0, 1) := by decide +kernel
theorem dX0_isPoint_24 : decode cX0_isPoint 24 = .ok (.ireturn, 1) := by decide +kernel
theorem dX0_leastFree_0 : decode cX0_leastFree 0 = .ok (.iconst 0, 1) := by decide +kernel
theorem dX0_leastFree_1 : decode cX0_leastFree 1 = .ok (.istore_n 1, 1) := by decide +kernel
theorem dX0_leastFree_2 : decode cX0_leastFree 2 = .ok (.iload_n 1, 1) := by decide +kernel
theorem dX0_leastFree_3 : decode cX0_leastFree 3 = .ok (.bipush 120, 2) := by decide +kernel
theorem dX0_leastFree_5 : decode cX0_leastFree 5 = .ok (.if_icmp .ge 20, 3) := by decide +kernel
theorem dX0_leastFree_8 : decode cX0_leastFree 8 = .ok (.aload_n 0, 1) := by decide +kernel
theorem dX0_leastFree_9 : decode cX0_leastFree 9 = .ok (.getfield 9, 3) := by decide +kernel
theorem dX0_leastFree_12 : decode cX0_leastFree 12 = .ok (.iload_n 1, 1) := by decide +kernel
theorem dX0_leastFree_13 : decode cX0_leastFree 13 = .ok (.iaload, 1) := by decide +kernel
theorem dX0_leastFree_14 : decode cX0_leastFree 14 = .ok (.ifCond .ne 5, 3) := by decide +kernel
theorem dX0_leastFree_17 : decode cX0_leastFree 17 = .ok (.iload_n 1, 1) := by decide +kernel
theorem dX0_leastFree_18 : decode cX0_leastFree 18 = .ok (.ireturn, 1) := by decide +kernel
theorem dX0_leastFree_19 : decode cX0_leastFree 19 = .ok (.iinc 1 1, 3) := by decide +kernel
theorem dX0_leastFree_22 : decode cX0_leastFree 22 = .ok (.goto (-20), 3) := by decide +kernel
theorem dX0_leastFree_25 : decode cX0_leastFree 25 = .ok (.iconst (-1), 1) := by decide +kernel
theorem dX0_leastFree_26 : decode cX0_leastFree 26 = .ok (.ireturn, 1) := by decide +kernel
theorem dX0_put_0 : decode cX0_put 0 = .ok (.aload_n 0, 1) := by decide +kernel
theorem dX0_put_1 : decode cX0_put 1 = .ok (.getfield 13, 3) := by decide +kernel
theorem dX0_put_4 : decode cX0_put 4 = .ok (.iload_n 1, 1) := by decide +kernel
theorem dX0_put_5 : decode cX0_put 5 = .ok (.iload_n 2, 1) := by decide +kernel
theorem dX0_put_6 : decode cX0_put 6 = .ok (.iastore, 1) := by decide +kernel
theorem dX0_put_7 : decode cX0_put 7 = .ok (.aload_n 0, 1) := by decide +kernel
theorem dX0_put_8 : decode cX0_put 8 = .ok (.getfield 16, 3) := by decide +kernel
theorem dX0_put_11 : decode cX0_put 11 = .ok (.iload_n 1, 1) := by decide +kernel
theorem dX0_put_12 : decode cX0_put 12 = .ok (.iload_n 3, 1) := by decide +kernel
theorem dX0_put_13 : decode cX0_put 13 = .ok (.iastore, 1) := by decide +kernel
theorem dX0_put_14 : decode cX0_put 14 = .ok (.aload_n 0, 1) := by decide +kernel
theorem dX0_put_15 : decode cX0_put 15 = .ok (.invokevirtual 82, 3) := by decide +kernel
theorem dX0_put_18 : decode cX0_put 18 = .ok (.return_, 1) := by decide +kernel
theorem dX0_forget_0 : decode cX0_forget 0 = .ok (.aload_n 0, 1) := by decide +kernel
theorem dX0_forget_1 : decode cX0_forget 1 = .ok (.iconst 0, 1) := by decide +kernel
theorem dX0_forget_2 : decode cX0_forget 2 = .ok (.putfield 43, 3) := by decide +kernel
theorem dX0_forget_5 : decode cX0_forget 5 = .ok (.aload_n 0, 1) := by decide +kernel
theorem dX0_forget_6 : decode cX0_forget 6 = .ok (.iconst 0, 1) := by decide +kernel
theorem dX0_forget_7 : decode cX0_forget 7 = .ok (.putfield 51, 3) := by decide +kernel
theorem dX0_forget_10 : decode cX0_forget 10 = .ok (.return_, 1) := by decide +kernel
theorem dX0_countPoints_0 : decode cX0_countPoints 0 = .ok (.iconst 0, 1) := by decide +kernel
theorem dX0_countPoints_1 : decode cX0_countPoints 1 = .ok (.istore_n 1, 1) := by decide +kernel
theorem dX0_countPoints_2 : decode cX0_countPoints 2 = .ok (.iconst 0, 1) := by decide +kernel
theorem dX0_countPoints_3 : decode cX0_countPoints 3 = .ok (.istore_n 2, 1) := by decide +kernel
theorem dX0_countPoints_4 : decode cX0_countPoints 4 = .ok (.iload_n 2, 1) := by decide +kernel
theorem dX0_countPoints_5 : decode cX0_countPoints 5 = .ok (.bipush 120, 2) := by decide +kernel
theorem dX0_countPoints_7 : decode cX0_countPoints 7 = .ok (.if_icmp .ge 21, 3) := by decide +kernel
theorem dX0_countPoints_10 : decode cX0_countPoints 10 = .ok (.aload_n 0, 1) := by decide +kernel
theorem dX0_countPoints_11 : decode cX0_countPoints 11 = .ok (.getfield 9, 3) := by decide +kernel
theorem dX0_countPoints_14 : decode cX0_countPoints 14 = .ok (.iload_n 2, 1) := by decide +kernel
theorem dX0_countPoints_15 : decode cX0_countPoints 15 = .ok (.iaload, 1) := by decide +kernel
theorem dX0_countPoints_16 : decode cX0_countPoints 16 = .ok (.ifCond .le 6, 3) := by decide +kernel
theorem dX0_countPoints_19 : decode cX0_countPoints 19 = .ok (.iinc 1 1, 3) := by decide +kernel
theorem dX0_countPoints_22 : decode cX0_countPoints 22 = .ok (.iinc 2 1, 3) := by decide +kernel
theorem dX0_countPoints_25 : decode cX0_countPoints 25 = .ok (.goto (-21), 3) := by decide +kernel
theorem dX0_countPoints_28 : decode cX0_countPoints 28 = .ok (.iload_n 1, 1) := by decide +kernel
theorem dX0_countPoints_29 : decode cX0_countPoints 29 = .ok (.ireturn, 1) := by decide +kernel
theorem dX0_countWeights_0 : decode cX0_countWeights 0 = .ok (.iconst 0, 1) := by decide +kernel
theorem dX0_countWeights_1 : decode cX0_countWeights 1 = .ok (.istore_n 1, 1) := by decide +kernel
theorem dX0_countWeights_2 : decode cX0_countWeights 2 = .ok (.iconst 0, 1) := by decide +kernel
theorem dX0_countWeights_3 : decode cX0_countWeights 3 = .ok (.istore_n 2, 1) := by decide +kernel
theorem dX0_countWeights_4 : decode cX0_countWeights 4 = .ok (.iload_n 2, 1) := by decide +kernel
theorem dX0_countWeights_5 : decode cX0_countWeights 5 = .ok (.bipush 120, 2) := by decide +kernel
theorem dX0_countWeights_7 : decode cX0_countWeights 7 = .ok (.if_icmp .ge 18, 3) := by decide +kernel
theorem dX0_countWeights_10 : decode cX0_countWeights 10 = .ok (.iload_n 1, 1) := by decide +kernel
theorem dX0_countWeights_11 : decode cX0_countWeights 11 = .ok (.aload_n 0, 1) := by decide +kernel
theorem dX0_countWeights_12 : decode cX0_countWeights 12 = .ok (.getfield 9, 3) := by decide +kernel
theorem dX0_countWeights_15 : decode cX0_countWeights 15 = .ok (.iload_n 2, 1) := by decide +kernel
theorem dX0_countWeights_16 : decode cX0_countWeights 16 = .ok (.iaload, 1) := by decide +kernel
theorem dX0_countWeights_17 : decode cX0_countWeights 17 = .ok (.iadd, 1) := by decide +kernel
theorem dX0_countWeights_18 : decode cX0_countWeights 18 = .ok (.istore_n 1, 1) := by decide +kernel
theorem dX0_countWeights_19 : decode cX0_countWeights 19 = .ok (.iinc 2 1, 3) := by decide +kernel
theorem dX0_countWeights_22 : decode cX0_countWeights 22 = .ok (.goto (-18), 3) := by decide +kernel
theorem dX0_countWeights_25 : decode cX0_countWeights 25 = .ok (.iload_n 1, 1) := by decide +kernel
theorem dX0_countWeights_26 : decode cX0_countWeights 26 = .ok (.ireturn, 1) := by decide +kernel
theorem dX0_gapBetween_0 : decode cX0_gapBetween 0 = .ok (.aload_n 0, 1) := by decide +kernel
theorem dX0_gapBetween_1 : decode cX0_gapBetween 1 = .ok (.iload_n 2, 1) := by decide +kernel
theorem dX0_gapBetween_2 : decode cX0_gapBetween 2 = .ok (.aload_n 0, 1) := by decide +kernel
theorem dX0_gapBetween_3 : decode cX0_gapBetween 3 = .ok (.getfield 13, 3) := by decide +kernel
theorem dX0_gapBetween_6 : decode cX0_gapBetween 6 = .ok (.iload_n 1, 1) := by decide +kernel
theorem dX0_gapBetween_7 : decode cX0_gapBetween 7 = .ok (.iaload, 1) := by decide +kernel
theorem dX0_gapBetween_8 : decode cX0_gapBetween 8 = .ok (.aload_n 0, 1) := by decide +kernel
theorem dX0_gapBetween_9 : decode cX0_gapBetween 9 = .ok (.getfield 16, 3) := by decide +kernel
theorem dX0_gapBetween_12 : decode cX0_gapBetween 12 = .ok (.iload_n 1, 1) := by decide +kernel
theorem dX0_gapBetween_13 : decode cX0_gapBetween 13 = .ok (.iaload, 1) := by decide +kernel
theorem dX0_gapBetween_14 : decode cX0_gapBetween 14 = .ok (.invokevirtual 150, 3) := by decide +kernel
theorem dX0_gapBetween_17 : decode cX0_gapBetween 17 = .ok (.lreturn, 1) := by decide +kernel
theorem dX0_gapTo_0 : decode cX0_gapTo 0 = .ok (.aload_n 0, 1) := by decide +kernel
theorem dX0_gapTo_1 : decode cX0_gapTo 1 = .ok (.getfield 13, 3) := by decide +kernel
theorem dX0_gapTo_4 : decode cX0_gapTo 4 = .ok (.iload_n 1, 1) := by decide +kernel
theorem dX0_gapTo_5 : decode cX0_gapTo 5 = .ok (.iaload, 1) := by decide +kernel
theorem dX0_gapTo_6 : decode cX0_gapTo 6 = .ok (.i2l, 1) := by decide +kernel
theorem dX0_gapTo_7 : decode cX0_gapTo 7 = .ok (.iload_n 2, 1) := by decide +kernel
theorem dX0_gapTo_8 : decode cX0_gapTo 8 = .ok (.i2l, 1) := by decide +kernel
theorem dX0_gapTo_9 : decode cX0_gapTo 9 = .ok (.lsub, 1) := by decide +kernel
theorem dX0_gapTo_10 : decode cX0_gapTo 10 = .ok (.invokestatic 154, 3) := by decide +kernel
theorem dX0_gapTo_13 : decode cX0_gapTo 13 = .ok (.lstore 4, 2) := by decide +kernel
theorem dX0_gapTo_15 : decode cX0_gapTo 15 = .ok (.aload_n 0, 1) := by decide +kernel
theorem dX0_gapTo_16 : decode cX0_gapTo 16 = .ok (.getfield 16, 3) := by decide +kernel
theorem dX0_gapTo_19 : decode cX0_gapTo 19 = .ok (.iload_n 1, 1) := by decide +kernel
theorem dX0_gapTo_20 : decode cX0_gapTo 20 = .ok (.iaload, 1) := by decide +kernel
theorem dX0_gapTo_21 : decode cX0_gapTo 21 = .ok (.i2l, 1) := by decide +kernel
theorem dX0_gapTo_22 : decode cX0_gapTo 22 = .ok (.iload_n 3, 1) := by decide +kernel
theorem dX0_gapTo_23 : decode cX0_gapTo 23 = .ok (.i2l, 1) := by decide +kernel
theorem dX0_gapTo_24 : decode cX0_gapTo 24 = .ok (.lsub, 1) := by decide +kernel
theorem dX0_gapTo_25 : decode cX0_gapTo 25 = .ok (.invokestatic 154, 3) := by decide +kernel
theorem dX0_gapTo_28 : decode cX0_gapTo 28 = .ok (.lstore 6, 2) := by decide +kernel
theorem dX0_gapTo_30 : decode cX0_gapTo 30 = .ok (.aload_n 0, 1) := by decide +kernel
theorem dX0_gapTo_31 : decode cX0_gapTo 31 = .ok (.getfield 19, 3) := by decide +kernel
theorem dX0_gapTo_34 : decode cX0_gapTo 34 = .ok (.ifCond .ne 15, 3) := by decide +kernel
theorem dX0_gapTo_37 : decode cX0_gapTo 37 = .ok (.lload 4, 2) := by decide +kernel
theorem dX0_gapTo_39 : decode cX0_gapTo 39 = .ok (.lload 4, 2) := by decide +kernel
theorem dX0_gapTo_41 : decode cX0_gapTo 41 = .ok (.lmul, 1) := by decide +kernel
theorem dX0_gapTo_42 : decode cX0_gapTo 42 = .ok (.lload 6, 2) := by decide +kernel
theorem dX0_gapTo_44 : decode cX0_gapTo 44 = .ok (.lload 6, 2) := by decide +kernel
theorem dX0_gapTo_46 : decode cX0_gapTo 46 = .ok (.lmul, 1) := by decide +kernel
theorem dX0_gapTo_47 : decode cX0_gapTo 47 = .ok (.ladd, 1) := by decide +kernel
theorem dX0_gapTo_48 : decode cX0_gapTo 48 = .ok (.lreturn, 1) := by decide +kernel
theorem dX0_gapTo_49 : decode cX0_gapTo 49 = .ok (.aload_n 0, 1) := by decide +kernel
theorem dX0_gapTo_50 : decode cX0_gapTo 50 = .ok (.getfield 19, 3) := by decide +kernel
theorem dX0_gapTo_53 : decode cX0_gapTo 53 = .ok (.iconst 1, 1) := by decide +kernel
theorem dX0_gapTo_54 : decode cX0_gapTo 54 = .ok (.if_icmp .ne 13, 3) := by decide +kernel
theorem dX0_gapTo_57 : decode cX0_gapTo 57 = .ok (.lload 4, 2) := by decide +kernel
theorem dX0_gapTo_59 : decode cX0_gapTo 59 = .ok (.lload 6, 2) := by decide +kernel
theorem dX0_gapTo_61 : decode cX0_gapTo 61 = .ok (.invokestatic 160, 3) := by decide +kernel
theorem dX0_gapTo_64 : decode cX0_gapTo 64 = .ok (.goto 8, 3) := by decide +kernel
theorem dX0_gapTo_67 : decode cX0_gapTo 67 = .ok (.lload 4, 2) := by decide +kernel
theorem dX0_gapTo_69 : decode cX0_gapTo 69 = .ok (.lload 6, 2) := by decide +kernel
theorem dX0_gapTo_71 : decode cX0_gapTo 71 = .ok (.ladd, 1) := by decide +kernel
theorem dX0_gapTo_72 : decode cX0_gapTo 72 = .ok (.lreturn, 1) := by decide +kernel
theorem dX0_weightWithin_0 : decode cX0_weightWithin 0 = .ok (.iconst 0, 1) := by decide +kernel
theorem dX0_weightWithin_1 : decode cX0_weightWithin 1 = .ok (.istore 4, 2) := by decide +kernel
theorem dX0_weightWithin_3 : decode cX0_weightWithin 3 = .ok (.iconst 0, 1) := by decide +kernel
theorem dX0_weightWithin_4 : decode cX0_weightWithin 4 = .ok (.istore 5, 2) := by decide +kernel
theorem dX0_weightWithin_6 : decode cX0_weightWithin 6 = .ok (.iload 5, 2) := by decide +kernel
theorem dX0_weightWithin_8 : decode cX0_weightWithin 8 = .ok (.bipush 120, 2) := by decide +kernel
theorem dX0_weightWithin_10 : decode cX0_weightWithin 10 = .ok (.if_icmp .ge 43, 3) := by decide +kernel
theorem dX0_weightWithin_13 : decode cX0_weightWithin 13 = .ok (.aload_n 0, 1) := by decide +kernel
theorem dX0_weightWithin_14 : decode cX0_weightWithin 14 = .ok (.getfield 9, 3) := by decide +kernel
theorem dX0_weightWithin_17 : decode cX0_weightWithin 17 = .ok (.iload 5, 2) := by decide +kernel
theorem dX0_weightWithin_19 : decode cX0_weightWithin 19 = .ok (.iaload, 1) := by decide +kernel
theorem dX0_weightWithin_20 : decode cX0_weightWithin 20 = .ok (.ifCond .le 27, 3) := by decide +kernel
theorem dX0_weightWithin_23 : decode cX0_weightWithin 23 = .ok (.aload_n 0, 1) := by decide +kernel
theorem dX0_weightWithin_24 : decode cX0_weightWithin 24 = .ok (.iload_n 1, 1) := by decide +kernel
theorem dX0_weightWithin_25 : decode cX0_weightWithin 25 = .ok (.iload 5, 2) := by decide +kernel
theorem dX0_weightWithin_27 : decode cX0_weightWithin 27 = .ok (.invokevirtual 90, 3) := by decide +kernel
theorem dX0_weightWithin_30 : decode cX0_weightWithin 30 = .ok (.lload_n 2, 1) := by decide +kernel
theorem dX0_weightWithin_31 : decode cX0_weightWithin 31 = .ok (.lcmp, 1) := by decide +kernel
theorem dX0_weightWithin_32 : decode cX0_weightWithin 32 = .ok (.ifCond .gt 15, 3) := by decide +kernel
theorem dX0_weightWithin_35 : decode cX0_weightWithin 35 = .ok (.iload 4, 2) := by decide +kernel
theorem dX0_weightWithin_37 : decode cX0_weightWithin 37 = .ok (.aload_n 0, 1) := by decide +kernel
theorem dX0_weightWithin_38 : decode cX0_weightWithin 38 = .ok (.getfield 9, 3) := by decide +kernel
theorem dX0_weightWithin_41 : decode cX0_weightWithin 41 = .ok (.iload 5, 2) := by decide +kernel
theorem dX0_weightWithin_43 : decode cX0_weightWithin 43 = .ok (.iaload, 1) := by decide +kernel
theorem dX0_weightWithin_44 : decode cX0_weightWithin 44 = .ok (.iadd, 1) := by decide +kernel
theorem dX0_weightWithin_45 : decode cX0_weightWithin 45 = .ok (.istore 4, 2) := by decide +kernel
theorem dX0_weightWithin_47 : decode cX0_weightWithin 47 = .ok (.iinc 5 1, 3) := by decide +kernel
theorem dX0_weightWithin_50 : decode cX0_weightWithin 50 = .ok (.goto (-44), 3) := by decide +kernel
theorem dX0_weightWithin_53 : decode cX0_weightWithin 53 = .ok (.iload 4, 2) := by decide +kernel
theorem dX0_weightWithin_55 : decode cX0_weightWithin 55 = .ok (.ireturn, 1) := by decide +kernel
theorem dX0_sortWith_0 : decode cX0_sortWith 0 = .ok (.aload_n 0, 1) := by decide +kernel
theorem dX0_sortWith_1 : decode cX0_sortWith 1 = .ok (.getfield 43, 3) := by decide +kernel
theorem dX0_sortWith_4 : decode cX0_sortWith 4 = .ok (.ifCond .eq 13, 3) := by decide +kernel
theorem dX0_sortWith_7 : decode cX0_sortWith 7 = .ok (.aload_n 0, 1) := by decide +kernel
theorem dX0_sortWith_8 : decode cX0_sortWith 8 = .ok (.getfield 40, 3) := by decide +kernel
theorem dX0_sortWith_11 : decode cX0_sortWith 11 = .ok (.lload_n 1, 1) := by decide +kernel
theorem dX0_sortWith_12 : decode cX0_sortWith 12 = .ok (.lcmp, 1) := by decide +kernel
theorem dX0_sortWith_13 : decode cX0_sortWith 13 = .ok (.ifCond .ne 4, 3) := by decide +kernel
theorem dX0_sortWith_16 : decode cX0_sortWith 16 = .ok (.return_, 1) := by decide +kernel
theorem dX0_sortWith_17 : decode cX0_sortWith 17 = .ok (.aload_n 0, 1) := by decide +kernel
theorem dX0_sortWith_18 : decode cX0_sortWith 18 = .ok (.lload_n 1, 1) := by decide +kernel
theorem dX0_sortWith_19 : decode cX0_sortWith 19 = .ok (.invokevirtual 164, 3) := by decide +kernel
theorem dX0_sortWith_22 : decode cX0_sortWith 22 = .ok (.aload_n 0, 1) := by decide +kernel
theorem dX0_sortWith_23 : decode cX0_sortWith 23 = .ok (.lload_n 1, 1) := by decide +kernel
theorem dX0_sortWith_24 : decode cX0_sortWith 24 = .ok (.invokevirtual 167, 3) := by decide +kernel
theorem dX0_sortWith_27 : decode cX0_sortWith 27 = .ok (.aload_n 0, 1) := by decide +kernel
theorem dX0_sortWith_28 : decode cX0_sortWith 28 = .ok (.lload_n 1, 1) := by decide +kernel
theorem dX0_sortWith_29 : decode cX0_sortWith 29 = .ok (.invokevirtual 170, 3) := by decide +kernel
theorem dX0_sortWith_32 : decode cX0_sortWith 32 = .ok (.aload_n 0, 1) := by decide +kernel
theorem dX0_sortWith_33 : decode cX0_sortWith 33 = .ok (.lload_n 1, 1) := by decide +kernel
theorem dX0_sortWith_34 : decode cX0_sortWith 34 = .ok (.putfield 40, 3) := by decide +kernel
theorem dX0_sortWith_37 : decode cX0_sortWith 37 = .ok (.aload_n 0, 1) := by decide +kernel
theorem dX0_sortWith_38 : decode cX0_sortWith 38 = .ok (.iconst 1, 1) := by decide +kernel
theorem dX0_sortWith_39 : decode cX0_sortWith 39 = .ok (.putfield 43, 3) := by decide +kernel
theorem dX0_sortWith_42 : decode cX0_sortWith 42 = .ok (.return_, 1) := by decide +kernel
theorem dX0_markCores_0 : decode cX0_markCores 0 = .ok (.iconst 0, 1) := by decide +kernel
theorem dX0_markCores_1 : decode cX0_markCores 1 = .ok (.istore_n 3, 1) := by decide +kernel
theorem dX0_markCores_2 : decode cX0_markCores 2 = .ok (.iload_n 3, 1) := by decide +kernel
theorem dX0_markCores_3 : decode cX0_markCores 3 = .ok (.bipush 120, 2) := by decide +kernel
theorem dX0_markCores_5 : decode cX0_markCores 5 = .ok (.if_icmp .ge 56, 3) := by decide +kernel
theorem dX0_markCores_8 : decode cX0_markCores 8 = .ok (.aload_n 0, 1) := by decide +kernel
theorem dX0_markCores_9 : decode cX0_markCores 9 = .ok (.getfield 30, 3) := by decide +kernel
theorem dX0_markCores_12 : decode cX0_markCores 12 = .ok (.iload_n 3, 1) := by decide +kernel
theorem dX0_markCores_13 : decode cX0_markCores 13 = .ok (.aload_n 0, 1) := by decide +kernel
theorem dX0_markCores_14 : decode cX0_markCores 14 = .ok (.getfield 9, 3) := by decide +kernel
theorem dX0_markCores_17 : decode cX0_markCores 17 = .ok (.iload_n 3, 1) := by decide +kernel
theorem dX0_markCores_18 : decode cX0_markCores 18 = .ok (.iaload, 1) := by decide +kernel
theorem dX0_markCores_19 : decode cX0_markCores 19 = .ok (.ifCond .le 20, 3) := by decide +kernel
theorem dX0_markCores_22 : decode cX0_markCores 22 = .ok (.aload_n 0, 1) := by decide +kernel
theorem dX0_markCores_23 : decode cX0_markCores 23 = .ok (.iload_n 3, 1) := by decide +kernel
theorem dX0_markCores_24 : decode cX0_markCores 24 = .ok (.lload_n 1, 1) := by decide +kernel
theorem dX0_markCores_25 : decode cX0_markCores 25 = .ok (.invokevirtual 102, 3) := by decide +kernel
theorem dX0_markCores_28 : decode cX0_markCores 28 = .ok (.aload_n 0, 1) := by decide +kernel
theorem dX0_markCores_29 : decode cX0_markCores 29 = .ok (.getfield 27, 3) := by decide +kernel
theorem dX0_markCores_32 : decode cX0_markCores 32 = .ok (.if_icmp .lt 7, 3) := by decide +kernel
theorem dX0_markCores_35 : decode cX0_markCores 35 = .ok (.iconst 1, 1) := by decide +kernel
theorem dX0_markCores_36 : decode cX0_markCores 36 = .ok (.goto 4, 3) := by decide +kernel
theorem dX0_markCores_39 : decode cX0_markCores 39 = .ok (.iconst 0, 1) := by decide +kernel
theorem dX0_markCores_40 : decode cX0_markCores 40 = .ok (.bastore, 1) := by decide +kernel
theorem dX0_markCores_41 : decode cX0_markCores 41 = .ok (.aload_n 0, 1) := by decide +kernel
theorem dX0_markCores_42 : decode cX0_markCores 42 = .ok (.getfield 34, 3) := by decide +kernel
theorem dX0_markCores_45 : decode cX0_markCores 45 = .ok (.iload_n 3, 1) := by decide +kernel
theorem dX0_markCores_46 : decode cX0_markCores 46 = .ok (.iconst (-1), 1) := by decide +kernel
theorem dX0_markCores_47 : decode cX0_markCores 47 = .ok (.iastore, 1) := by decide +kernel
theorem dX0_markCores_48 : decode cX0_markCores 48 = .ok (.aload_n 0, 1) := by decide +kernel
theorem dX0_markCores_49 : decode cX0_markCores 49 = .ok (.getfield 63, 3) := by decide +kernel
theorem dX0_markCores_52 : decode cX0_markCores 52 = .ok (.iload_n 3, 1) := by decide +kernel
theorem dX0_markCores_53 : decode cX0_markCores 53 = .ok (.iconst 0, 1) := by decide +kernel
theorem dX0_markCores_54 : decode cX0_markCores 54 = .ok (.bastore, 1) := by decide +kernel
theorem dX0_markCores_55 : decode cX0_markCores 55 = .ok (.iinc 3 1, 3) := by decide +kernel
theorem dX0_markCores_58 : decode cX0_markCores 58 = .ok (.goto (-56), 3) := by decide +kernel
theorem dX0_markCores_61 : decode cX0_markCores 61 = .ok (.return_, 1) := by decide +kernel
theorem dX0_gatherCrowds_0 : decode cX0_gatherCrowds 0 = .ok (.aload_n 0, 1) := by decide +kernel
theorem dX0_gatherCrowds_1 : decode cX0_gatherCrowds 1 = .ok (.iconst 0, 1) := by decide +kernel
theorem dX0_gatherCrowds_2 : decode cX0_gatherCrowds 2 = .ok (.putfield 37, 3) := by decide +kernel
theorem dX0_gatherCrowds_5 : decode cX0_gatherCrowds 5 = .ok (.iconst 0, 1) := by decide +kernel
theorem dX0_gatherCrowds_6 : decode cX0_gatherCrowds 6 = .ok (.istore_n 3, 1) := by decide +kernel
theorem dX0_gatherCrowds_7 : decode cX0_gatherCrowds 7 = .ok (.iload_n 3, 1) := by decide +kernel
theorem dX0_gatherCrowds_8 : decode cX0_gatherCrowds 8 = .ok (.bipush 120, 2) := by decide +kernel
theorem dX0_gatherCrowds_10 : decode cX0_gatherCrowds 10 = .ok (.if_icmp .ge 44, 3) := by decide +kernel
theorem dX0_gatherCrowds_13 : decode cX0_gatherCrowds 13 = .ok (.aload_n 0, 1) := by decide +kernel
theorem dX0_gatherCrowds_14 : decode cX0_gatherCrowds 14 = .ok (.getfield 30, 3) := by decide +kernel
theorem dX0_gatherCrowds_17 : decode cX0_gatherCrowds 17 = .ok (.iload_n 3, 1) := by decide +kernel
theorem dX0_gatherCrowds_18 : decode cX0_gatherCrowds 18 = .ok (.baload, 1) := by decide +kernel
theorem dX0_gatherCrowds_19 : decode cX0_gatherCrowds 19 = .ok (.ifCond .eq 29, 3) := by decide +kernel
theorem dX0_gatherCrowds_22 : decode cX0_gatherCrowds 22 = .ok (.aload_n 0, 1) := by decide +kernel
theorem dX0_gatherCrowds_23 : decode cX0_gatherCrowds 23 = .ok (.getfield 34, 3) := by decide +kernel
theorem dX0_gatherCrowds_26 : decode cX0_gatherCrowds 26 = .ok (.iload_n 3, 1) := by decide +kernel
theorem dX0_gatherCrowds_27 : decode cX0_gatherCrowds 27 = .ok (.iaload, 1) := by decide +kernel
theorem dX0_gatherCrowds_28 : decode cX0_gatherCrowds 28 = .ok (.iconst (-1), 1) := by decide +kernel
theorem dX0_gatherCrowds_29 : decode cX0_gatherCrowds 29 = .ok (.if_icmp .ne 19, 3) := by decide +kernel
theorem dX0_gatherCrowds_32 : decode cX0_gatherCrowds 32 = .ok (.aload_n 0, 1) := by decide +kernel
theorem dX0_gatherCrowds_33 : decode cX0_gatherCrowds 33 = .ok (.iload_n 3, 1) := by decide +kernel
theorem dX0_gatherCrowds_34 : decode cX0_gatherCrowds 34 = .ok (.lload_n 1, 1) := by decide +kernel
theorem dX0_gatherCrowds_35 : decode cX0_gatherCrowds 35 = .ok (.invokevirtual 173, 3) := by decide +kernel
theorem dX0_gatherCrowds_38 : decode cX0_gatherCrowds 38 = .ok (.aload_n 0, 1) := by decide +kernel
theorem dX0_gatherCrowds_39 : decode cX0_gatherCrowds 39 = .ok (.dup, 1) := by decide +kernel
theorem dX0_gatherCrowds_40 : decode cX0_gatherCrowds 40 = .ok (.getfield 37, 3) := by decide +kernel
theorem dX0_gatherCrowds_43 : decode cX0_gatherCrowds 43 = .ok (.iconst 1, 1) := by decide +kernel
theorem dX0_gatherCrowds_44 : decode cX0_gatherCrowds 44 = .ok (.iadd, 1) := by decide +kernel
theorem dX0_gatherCrowds_45 : decode cX0_gatherCrowds 45 = .ok (.putfield 37, 3) := by decide +kernel
theorem dX0_gatherCrowds_48 : decode cX0_gatherCrowds 48 = .ok (.iinc 3 1, 3) := by decide +kernel
theorem dX0_gatherCrowds_51 : decode cX0_gatherCrowds 51 = .ok (.goto (-44), 3) := by decide +kernel
theorem dX0_gatherCrowds_54 : decode cX0_gatherCrowds 54 = .ok (.return_, 1) := by decide +kernel
theorem dX0_gatherFrom_0 : decode cX0_gatherFrom 0 = .ok (.aload_n 0, 1) := by decide +kernel
theorem dX0_gatherFrom_1 : decode cX0_gatherFrom 1 = .ok (.getfield 34, 3) := by decide +kernel
theorem dX0_gatherFrom_4 : decode cX0_gatherFrom 4 = .ok (.iload_n 1, 1) := by decide +kernel
theorem dX0_gatherFrom_5 : decode cX0_gatherFrom 5 = .ok (.aload_n 0, 1) := by decide +kernel
theorem dX0_gatherFrom_6 : decode cX0_gatherFrom 6 = .ok (.getfield 37, 3) := by decide +kernel
theorem dX0_gatherFrom_9 : decode cX0_gatherFrom 9 = .ok (.iastore, 1) := by decide +kernel
theorem dX0_gatherFrom_10 : decode cX0_gatherFrom 10 = .ok (.iconst 0, 1) := by decide +kernel
theorem dX0_gatherFrom_11 : decode cX0_gatherFrom 11 = .ok (.istore 4, 2) := by decide +kernel
theorem dX0_gatherFrom_13 : decode cX0_gatherFrom 13 = .ok (.iload 4, 2) := by decide +kernel
theorem dX0_gatherFrom_15 : decode cX0_gatherFrom 15 = .ok (.bipush 120, 2) := by decide +kernel
theorem dX0_gatherFrom_17 : decode cX0_gatherFrom 17 = .ok (.if_icmp .ge 37, 3) := by decide +kernel
theorem dX0_gatherFrom_20 : decode cX0_gatherFrom 20 = .ok (.aload_n 0, 1) := by decide +kernel
theorem dX0_gatherFrom_21 : decode cX0_gatherFrom 21 = .ok (.invokevirtual 177, 3) := by decide +kernel
theorem dX0_gatherFrom_24 : decode cX0_gatherFrom 24 = .ok (.istore 5, 2) := by decide +kernel
theorem dX0_gatherFrom_26 : decode cX0_gatherFrom 26 = .ok (.iload 5, 2) := by decide +kernel
theorem dX0_gatherFrom_28 : decode cX0_gatherFrom 28 = .ok (.iconst (-1), 1) := by decide +kernel
theorem dX0_gatherFrom_29 : decode cX0_gatherFrom 29 = .ok (.if_icmp .ne 4, 3) := by decide +kernel
theorem dX0_gatherFrom_32 : decode cX0_gatherFrom 32 = .ok (.return_, 1) := by decide +kernel
theorem dX0_gatherFrom_33 : decode cX0_gatherFrom 33 = .ok (.aload_n 0, 1) := by decide +kernel
theorem dX0_gatherFrom_34 : decode cX0_gatherFrom 34 = .ok (.getfield 63, 3) := by decide +kernel
theorem dX0_gatherFrom_37 : decode cX0_gatherFrom 37 = .ok (.iload 5, 2) := by decide +kernel
theorem dX0_gatherFrom_39 : decode cX0_gatherFrom 39 = .ok (.iconst 1, 1) := by decide +kernel
theorem dX0_gatherFrom_40 : decode cX0_gatherFrom 40 = .ok (.bastore, 1) := by decide +kernel
theorem dX0_gatherFrom_41 : decode cX0_gatherFrom 41 = .ok (.aload_n 0, 1) := by decide +kernel
theorem dX0_gatherFrom_42 : decode cX0_gatherFrom 42 = .ok (.iload 5, 2) := by decide +kernel
theorem dX0_gatherFrom_44 : decode cX0_gatherFrom 44 = .ok (.lload_n 2, 1) := by decide +kernel
theorem dX0_gatherFrom_45 : decode cX0_gatherFrom 45 = .ok (.invokevirtual 180, 3) := by decide +kernel
theorem dX0_gatherFrom_48 : decode cX0_gatherFrom 48 = .ok (.iinc 4 1, 3) := by decide +kernel
theorem dX0_gatherFrom_51 : decode cX0_gatherFrom 51 = .ok (.goto (-38), 3) := by decide +kernel
theorem dX0_gatherFrom_54 : decode cX0_gatherFrom 54 = .ok (.return_, 1) := by decide +kernel
theorem dX0_leastUnsettledCore_0 : decode cX0_leastUnsettledCore 0 = .ok (.iconst 0, 1) := by decide +kernel
theorem dX0_leastUnsettledCore_1 : decode cX0_leastUnsettledCore 1 = .ok (.istore_n 1, 1) := by decide +kernel
theorem dX0_leastUnsettledCore_2 : decode cX0_leastUnsettledCore 2 = .ok (.iload_n 1, 1) := by decide +kernel
theorem dX0_leastUnsettledCore_3 : decode cX0_leastUnsettledCore 3 = .ok (.bipush 120, 2) := by decide +kernel
theorem dX0_leastUnsettledCore_5 : decode cX0_leastUnsettledCore 5 = .ok (.if_icmp .ge 33, 3) := by decide +kernel
theorem dX0_leastUnsettledCore_8 : decode cX0_leastUnsettledCore 8 = .ok (.aload_n 0, 1) := by decide +kernel
theorem dX0_leastUnsettledCore_9 : decode cX0_leastUnsettledCore 9 = .ok (.getfield 34, 3) := by decide +kernel
theorem dX0_leastUnsettledCore_12 : decode cX0_leastUnsettledCore 12 = .ok (.iload_n 1, 1) := by decide +kernel
theorem dX0_leastUnsettledCore_13 : decode cX0_leastUnsettledCore 13 = .ok (.iaload, 1) := by decide +kernel
theorem dX0_leastUnsettledCore_14 : decode cX0_leastUnsettledCore 14 = .ok (.aload_n 0, 1) := by decide +kernel
theorem dX0_leastUnsettledCore_15 : decode cX0_leastUnsettledCore 15 = .ok (.getfield 37, 3) := by decide +kernel
theorem dX0_leastUnsettledCore_18 : decode cX0_leastUnsettledCore 18 = .ok (.if_icmp .ne 14, 3) := by decide +kernel
theorem dX0_leastUnsettledCore_21 : decode cX0_leastUnsettledCore 21 = .ok (.aload_n 0, 1) := by decide +kernel
theorem dX0_leastUnsettledCore_22 : decode cX0_leastUnsettledCore 22 = .ok (.getfield 63, 3) := by decide +kernel
theorem dX0_leastUnsettledCore_25 : decode cX0_leastUnsettledCore 25 = .ok (.iload_n 1, 1) := by decide +kernel
theorem dX0_leastUnsettledCore_26 : decode cX0_leastUnsettledCore 26 = .ok (.baload, 1) := by decide +kernel
theorem dX0_leastUnsettledCore_27 : decode cX0_leastUnsettledCore 27 = .ok (.ifCond .ne 5, 3) := by decide +kernel
theorem dX0_leastUnsettledCore_30 : decode cX0_leastUnsettledCore 30 = .ok (.iload_n 1, 1) := by decide +kernel
theorem dX0_leastUnsettledCore_31 : decode cX0_leastUnsettledCore 31 = .ok (.ireturn, 1) := by decide +kernel
theorem dX0_leastUnsettledCore_32 : decode cX0_leastUnsettledCore 32 = .ok (.iinc 1 1, 3) := by decide +kernel
theorem dX0_leastUnsettledCore_35 : decode cX0_leastUnsettledCore 35 = .ok (.goto (-33), 3) := by decide +kernel
theorem dX0_leastUnsettledCore_38 : decode cX0_leastUnsettledCore 38 = .ok (.iconst (-1), 1) := by decide +kernel
theorem dX0_leastUnsettledCore_39 : decode cX0_leastUnsettledCore 39 = .ok (.ireturn, 1) := by decide +kernel
theorem dX0_gatherCoresNear_0 : decode cX0_gatherCoresNear 0 = .ok (.iconst 0, 1) := by decide +kernel
theorem dX0_gatherCoresNear_1 : decode cX0_gatherCoresNear 1 = .ok (.istore 4, 2) := by decide +kernel
theorem dX0_gatherCoresNear_3 : decode cX0_gatherCoresNear 3 = .ok (.iload 4, 2) := by decide +kernel
theorem dX0_gatherCoresNear_5 : decode cX0_gatherCoresNear 5 = .ok (.bipush 120, 2) := by decide +kernel
theorem dX0_gatherCoresNear_7 : decode cX0_gatherCoresNear 7 = .ok (.if_icmp .ge 53, 3) := by decide +kernel
theorem dX0_gatherCoresNear_10 : decode cX0_gatherCoresNear 10 = .ok (.aload_n 0, 1) := by decide +kernel
theorem dX0_gatherCoresNear_11 : decode cX0_gatherCoresNear 11 = .ok (.getfield 30, 3) := by decide +kernel
theorem dX0_gatherCoresNear_14 : decode cX0_gatherCoresNear 14 = .ok (.iload 4, 2) := by decide +kernel
theorem dX0_gatherCoresNear_16 : decode cX0_gatherCoresNear 16 = .ok (.baload, 1) := by decide +kernel
theorem dX0_gatherCoresNear_17 : decode cX0_gatherCoresNear 17 = .ok (.ifCond .eq 37, 3) := by decide +kernel
theorem dX0_gatherCoresNear_20 : decode cX0_gatherCoresNear 20 = .ok (.aload_n 0, 1) := by decide +kernel
theorem dX0_gatherCoresNear_21 : decode cX0_gatherCoresNear 21 = .ok (.getfield 34, 3) := by decide +kernel
theorem dX0_gatherCoresNear_24 : decode cX0_gatherCoresNear 24 = .ok (.iload 4, 2) := by decide +kernel
theorem dX0_gatherCoresNear_26 : decode cX0_gatherCoresNear 26 = .ok (.iaload, 1) := by decide +kernel
theorem dX0_gatherCoresNear_27 : decode cX0_gatherCoresNear 27 = .ok (.iconst (-1), 1) := by decide +kernel
theorem dX0_gatherCoresNear_28 : decode cX0_gatherCoresNear 28 = .ok (.if_icmp .ne 26, 3) := by decide +kernel
theorem dX0_gatherCoresNear_31 : decode cX0_gatherCoresNear 31 = .ok (.aload_n 0, 1) := by decide +kernel
theorem dX0_gatherCoresNear_32 : decode cX0_gatherCoresNear 32 = .ok (.iload_n 1, 1) := by decide +kernel
theorem dX0_gatherCoresNear_33 : decode cX0_gatherCoresNear 33 = .ok (.iload 4, 2) := by decide +kernel
theorem dX0_gatherCoresNear_35 : decode cX0_gatherCoresNear 35 = .ok (.invokevirtual 90, 3) := by decide +kernel
theorem dX0_gatherCoresNear_38 : decode cX0_gatherCoresNear 38 = .ok (.lload_n 2, 1) := by decide +kernel
theorem dX0_gatherCoresNear_39 : decode cX0_gatherCoresNear 39 = .ok (.lcmp, 1) := by decide +kernel
theorem dX0_gatherCoresNear_40 : decode cX0_gatherCoresNear 40 = .ok (.ifCond .gt 14, 3) := by decide +kernel
theorem dX0_gatherCoresNear_43 : decode cX0_gatherCoresNear 43 = .ok (.aload_n 0, 1) := by decide +kernel
theorem dX0_gatherCoresNear_44 : decode cX0_gatherCoresNear 44 = .ok (.getfield 34, 3) := by decide +kernel
theorem dX0_gatherCoresNear_47 : decode cX0_gatherCoresNear 47 = .ok (.iload 4, 2) := by decide +kernel
theorem dX0_gatherCoresNear_49 : decode cX0_gatherCoresNear 49 = .ok (.aload_n 0, 1) := by decide +kernel
theorem dX0_gatherCoresNear_50 : decode cX0_gatherCoresNear 50 = .ok (.getfield 37, 3) := by decide +kernel
theorem dX0_gatherCoresNear_53 : decode cX0_gatherCoresNear 53 = .ok (.iastore, 1) := by decide +kernel
theorem dX0_gatherCoresNear_54 : decode cX0_gatherCoresNear 54 = .ok (.iinc 4 1, 3) := by decide +kernel
theorem dX0_gatherCoresNear_57 : decode cX0_gatherCoresNear 57 = .ok (.goto (-54), 3) := by decide +kernel
theorem dX0_gatherCoresNear_60 : decode cX0_gatherCoresNear 60 = .ok (.return_, 1) := by decide +kernel
theorem dX0_joinBorders_0 : decode cX0_joinBorders 0 = .ok (.iconst 0, 1) := by decide +kernel
theorem dX0_joinBorders_1 : decode cX0_joinBorders 1 = .ok (.istore_n 3, 1) := by decide +kernel
theorem dX0_joinBorders_2 : decode cX0_joinBorders 2 = .ok (.iload_n 3, 1) := by decide +kernel
theorem dX0_joinBorders_3 : decode cX0_joinBorders 3 = .ok (.bipush 120, 2) := by decide +kernel
theorem dX0_joinBorders_5 : decode cX0_joinBorders 5 = .ok (.if_icmp .ge 50, 3) := by decide +kernel
theorem dX0_joinBorders_8 : decode cX0_joinBorders 8 = .ok (.aload_n 0, 1) := by decide +kernel
theorem dX0_joinBorders_9 : decode cX0_joinBorders 9 = .ok (.getfield 9, 3) := by decide +kernel
theorem dX0_joinBorders_12 : decode cX0_joinBorders 12 = .ok (.iload_n 3, 1) := by decide +kernel
theorem dX0_joinBorders_13 : decode cX0_joinBorders 13 = .ok (.iaload, 1) := by decide +kernel
theorem dX0_joinBorders_14 : decode cX0_joinBorders 14 = .ok (.ifCond .le 35, 3) := by decide +kernel
theorem dX0_joinBorders_17 : decode cX0_joinBorders 17 = .ok (.aload_n 0, 1) := by decide +kernel
theorem dX0_joinBorders_18 : decode cX0_joinBorders 18 = .ok (.getfield 30, 3) := by decide +kernel
theorem dX0_joinBorders_21 : decode cX0_joinBorders 21 = .ok (.iload_n 3, 1) := by decide +kernel
theorem dX0_joinBorders_22 : decode cX0_joinBorders 22 = .ok (.baload, 1) := by decide +kernel
theorem dX0_joinBorders_23 : decode cX0_joinBorders 23 = .ok (.ifCond .ne 26, 3) := by decide +kernel
theorem dX0_joinBorders_26 : decode cX0_joinBorders 26 = .ok (.aload_n 0, 1) := by decide +kernel
theorem dX0_joinBorders_27 : decode cX0_joinBorders 27 = .ok (.getfield 34, 3) := by decide +kernel
theorem dX0_joinBorders_30 : decode cX0_joinBorders 30 = .ok (.iload_n 3, 1) := by decide +kernel
theorem dX0_joinBorders_31 : decode cX0_joinBorders 31 = .ok (.aload_n 0, 1) := by decide +kernel
theorem dX0_joinBorders_32 : decode cX0_joinBorders 32 = .ok (.aload_n 0, 1) := by decide +kernel
theorem dX0_joinBorders_33 : decode cX0_joinBorders 33 = .ok (.getfield 13, 3) := by decide +kernel
theorem dX0_joinBorders_36 : decode cX0_joinBorders 36 = .ok (.iload_n 3, 1) := by decide +kernel
theorem dX0_joinBorders_37 : decode cX0_joinBorders 37 = .ok (.iaload, 1) := by decide +kernel
theorem dX0_joinBorders_38 : decode cX0_joinBorders 38 = .ok (.aload_n 0, 1) := by decide +kernel
theorem dX0_joinBorders_39 : decode cX0_joinBorders 39 = .ok (.getfield 16, 3) := by decide +kernel
theorem dX0_joinBorders_42 : decode cX0_joinBorders 42 = .ok (.iload_n 3, 1) := by decide +kernel
theorem dX0_joinBorders_43 : decode cX0_joinBorders 43 = .ok (.iaload, 1) := by decide +kernel
theorem dX0_joinBorders_44 : decode cX0_joinBorders 44 = .ok (.lload_n 1, 1) := by decide +kernel
theorem dX0_joinBorders_45 : decode cX0_joinBorders 45 = .ok (.invokevirtual 141, 3) := by decide +kernel
theorem dX0_joinBorders_48 : decode cX0_joinBorders 48 = .ok (.iastore, 1) := by decide +kernel
theorem dX0_joinBorders_49 : decode cX0_joinBorders 49 = .ok (.iinc 3 1, 3) := by decide +kernel
theorem dX0_joinBorders_52 : decode cX0_joinBorders 52 = .ok (.goto (-50), 3) := by decide +kernel
theorem dX0_joinBorders_55 : decode cX0_joinBorders 55 = .ok (.return_, 1) := by decide +kernel
theorem dX0_leastCrowdAt_0 : decode cX0_leastCrowdAt 0 = .ok (.iconst (-1), 1) := by decide +kernel
theorem dX0_leastCrowdAt_1 : decode cX0_leastCrowdAt 1 = .ok (.istore 5, 2) := by decide +kernel
theorem dX0_leastCrowdAt_3 : decode cX0_leastCrowdAt 3 = .ok (.iconst 0, 1) := by decide +kernel
theorem dX0_leastCrowdAt_4 : decode cX0_leastCrowdAt 4 = .ok (.istore 6, 2) := by decide +kernel
theorem dX0_leastCrowdAt_6 : decode cX0_leastCrowdAt 6 = .ok (.iload 6, 2) := by decide +kernel
theorem dX0_leastCrowdAt_8 : decode cX0_leastCrowdAt 8 = .ok (.bipush 120, 2) := by decide +kernel
theorem dX0_leastCrowdAt_10 : decode cX0_leastCrowdAt 10 = .ok (.if_icmp .ge 59, 3) := by decide +kernel
theorem dX0_leastCrowdAt_13 : decode cX0_leastCrowdAt 13 = .ok (.aload_n 0, 1) := by decide +kernel
theorem dX0_leastCrowdAt_14 : decode cX0_leastCrowdAt 14 = .ok (.getfield 30, 3) := by decide +kernel
theorem dX0_leastCrowdAt_17 : decode cX0_leastCrowdAt 17 = .ok (.iload 6, 2) := by decide +kernel
theorem dX0_leastCrowdAt_19 : decode cX0_leastCrowdAt 19 = .ok (.baload, 1) := by decide +kernel
theorem dX0_leastCrowdAt_20 : decode cX0_leastCrowdAt 20 = .ok (.ifCond .eq 43, 3) := by decide +kernel
theorem dX0_leastCrowdAt_23 : decode cX0_leastCrowdAt 23 = .ok (.iload 5, 2) := by decide +kernel
theorem dX0_leastCrowdAt_25 : decode cX0_leastCrowdAt 25 = .ok (.iconst (-1), 1) := by decide +kernel
theorem dX0_leastCrowdAt_26 : decode cX0_leastCrowdAt 26 = .ok (.if_icmp .eq 15, 3) := by decide +kernel
theorem dX0_leastCrowdAt_29 : decode cX0_leastCrowdAt 29 = .ok (.aload_n 0, 1) := by decide +kernel
theorem dX0_leastCrowdAt_30 : decode cX0_leastCrowdAt 30 = .ok (.getfield 34, 3) := by decide +kernel
theorem dX0_leastCrowdAt_33 : decode cX0_leastCrowdAt 33 = .ok (.iload 6, 2) := by decide +kernel
theorem dX0_leastCrowdAt_35 : decode cX0_leastCrowdAt 35 = .ok (.iaload, 1) := by decide +kernel
theorem dX0_leastCrowdAt_36 : decode cX0_leastCrowdAt 36 = .ok (.iload 5, 2) := by decide +kernel
theorem dX0_leastCrowdAt_38 : decode cX0_leastCrowdAt 38 = .ok (.if_icmp .ge 25, 3) := by decide +kernel
theorem dX0_leastCrowdAt_41 : decode cX0_leastCrowdAt 41 = .ok (.aload_n 0, 1) := by decide +kernel
theorem dX0_leastCrowdAt_42 : decode cX0_leastCrowdAt 42 = .ok (.iload 6, 2) := by decide +kernel
theorem dX0_leastCrowdAt_44 : decode cX0_leastCrowdAt 44 = .ok (.iload_n 1, 1) := by decide +kernel
theorem dX0_leastCrowdAt_45 : decode cX0_leastCrowdAt 45 = .ok (.iload_n 2, 1) := by decide +kernel
theorem dX0_leastCrowdAt_46 : decode cX0_leastCrowdAt 46 = .ok (.invokevirtual 150, 3) := by decide +kernel
theorem dX0_leastCrowdAt_49 : decode cX0_leastCrowdAt 49 = .ok (.lload_n 3, 1) := by decide +kernel
theorem dX0_leastCrowdAt_50 : decode cX0_leastCrowdAt 50 = .ok (.lcmp, 1) := by decide +kernel
theorem dX0_leastCrowdAt_51 : decode cX0_leastCrowdAt 51 = .ok (.ifCond .gt 12, 3) := by decide +kernel
theorem dX0_leastCrowdAt_54 : decode cX0_leastCrowdAt 54 = .ok (.aload_n 0, 1) := by decide +kernel
theorem dX0_leastCrowdAt_55 : decode cX0_leastCrowdAt 55 = .ok (.getfield 34, 3) := by decide +kernel
theorem dX0_leastCrowdAt_58 : decode cX0_leastCrowdAt 58 = .ok (.iload 6, 2) := by decide +kernel
theorem dX0_leastCrowdAt_60 : decode cX0_leastCrowdAt 60 = .ok (.iaload, 1) := by decide +kernel
theorem dX0_leastCrowdAt_61 : decode cX0_leastCrowdAt 61 = .ok (.istore 5, 2) := by decide +kernel
theorem dX0_leastCrowdAt_63 : decode cX0_leastCrowdAt 63 = .ok (.iinc 6 1, 3) := by decide +kernel
theorem dX0_leastCrowdAt_66 : decode cX0_leastCrowdAt 66 = .ok (.goto (-60), 3) := by decide +kernel
theorem dX0_leastCrowdAt_69 : decode cX0_leastCrowdAt 69 = .ok (.iload 5, 2) := by decide +kernel
theorem dX0_leastCrowdAt_71 : decode cX0_leastCrowdAt 71 = .ok (.ireturn, 1) := by decide +kernel
theorem dX0_kindOf_0 : decode cX0_kindOf 0 = .ok (.aload_n 0, 1) := by decide +kernel
theorem dX0_kindOf_1 : decode cX0_kindOf 1 = .ok (.getfield 30, 3) := by decide +kernel
theorem dX0_kindOf_4 : decode cX0_kindOf 4 = .ok (.iload_n 1, 1) := by decide +kernel
theorem dX0_kindOf_5 : decode cX0_kindOf 5 = .ok (.baload, 1) := by decide +kernel
theorem dX0_kindOf_6 : decode cX0_kindOf 6 = .ok (.ifCond .eq 5, 3) := by decide +kernel
theorem dX0_kindOf_9 : decode cX0_kindOf 9 = .ok (.iconst 2, 1) := by decide +kernel
theorem dX0_kindOf_10 : decode cX0_kindOf 10 = .ok (.ireturn, 1) := by decide +kernel
theorem dX0_kindOf_11 : decode cX0_kindOf 11 = .ok (.aload_n 0, 1) := by decide +kernel
theorem dX0_kindOf_12 : decode cX0_kindOf 12 = .ok (.getfield 34, 3) := by decide +kernel
theorem dX0_kindOf_15 : decode cX0_kindOf 15 = .ok (.iload_n 1, 1) := by decide +kernel
theorem dX0_kindOf_16 : decode cX0_kindOf 16 = .ok (.iaload, 1) := by decide +kernel
theorem dX0_kindOf_17 : decode cX0_kindOf 17 = .ok (.iconst (-1), 1) := by decide +kernel
theorem dX0_kindOf_18 : decode cX0_kindOf 18 = .ok (.if_icmp .ne 7, 3) := by decide +kernel
theorem dX0_kindOf_21 : decode cX0_kindOf 21 = .ok (.iconst 0, 1) := by decide +kernel
theorem dX0_kindOf_22 : decode cX0_kindOf 22 = .ok (.goto 4, 3) := by decide +kernel
theorem dX0_kindOf_25 : decode cX0_kindOf 25 = .ok (.iconst 1, 1) := by decide +kernel
theorem dX0_kindOf_26 : decode cX0_kindOf 26 = .ok (.ireturn, 1) := by decide +kernel
theorem dX0_countKind_0 : decode cX0_countKind 0 = .ok (.aload_n 0, 1) := by decide +kernel
theorem dX0_countKind_1 : decode cX0_countKind 1 = .ok (.aload_n 0, 1) := by decide +kernel
theorem dX0_countKind_2 : decode cX0_countKind 2 = .ok (.getfield 23, 3) := by decide +kernel
theorem dX0_countKind_5 : decode cX0_countKind 5 = .ok (.invokevirtual 94, 3) := by decide +kernel
theorem dX0_countKind_8 : decode cX0_countKind 8 = .ok (.iconst 0, 1) := by decide +kernel
theorem dX0_countKind_9 : decode cX0_countKind 9 = .ok (.istore_n 2, 1) := by decide +kernel
theorem dX0_countKind_10 : decode cX0_countKind 10 = .ok (.iconst 0, 1) := by decide +kernel
theorem dX0_countKind_11 : decode cX0_countKind 11 = .ok (.istore_n 3, 1) := by decide +kernel
theorem dX0_countKind_12 : decode cX0_countKind 12 = .ok (.iload_n 3, 1) := by decide +kernel
theorem dX0_countKind_13 : decode cX0_countKind 13 = .ok (.bipush 120, 2) := by decide +kernel
theorem dX0_countKind_15 : decode cX0_countKind 15 = .ok (.if_icmp .ge 30, 3) := by decide +kernel
theorem dX0_countKind_18 : decode cX0_countKind 18 = .ok (.aload_n 0, 1) := by decide +kernel
theorem dX0_countKind_19 : decode cX0_countKind 19 = .ok (.getfield 9, 3) := by decide +kernel
theorem dX0_countKind_22 : decode cX0_countKind 22 = .ok (.iload_n 3, 1) := by decide +kernel
theorem dX0_countKind_23 : decode cX0_countKind 23 = .ok (.iaload, 1) := by decide +kernel
theorem dX0_countKind_24 : decode cX0_countKind 24 = .ok (.ifCond .le 15, 3) := by decide +kernel
theorem dX0_countKind_27 : decode cX0_countKind 27 = .ok (.aload_n 0, 1) := by decide +kernel
theorem dX0_countKind_28 : decode cX0_countKind 28 = .ok (.iload_n 3, 1) := by decide +kernel
theorem dX0_countKind_29 : decode cX0_countKind 29 = .ok (.invokevirtual 98, 3) := by decide +kernel
theorem dX0_countKind_32 : decode cX0_countKind 32 = .ok (.iload_n 1, 1) := by decide +kernel
theorem dX0_countKind_33 : decode cX0_countKind 33 = .ok (.if_icmp .ne 6, 3) := by decide +kernel
theorem dX0_countKind_36 : decode cX0_countKind 36 = .ok (.iinc 2 1, 3) := by decide +kernel
theorem dX0_countKind_39 : decode cX0_countKind 39 = .ok (.iinc 3 1, 3) := by decide +kernel
theorem dX0_countKind_42 : decode cX0_countKind 42 = .ok (.goto (-30), 3) := by decide +kernel
theorem dX0_countKind_45 : decode cX0_countKind 45 = .ok (.iload_n 2, 1) := by decide +kernel
theorem dX0_countKind_46 : decode cX0_countKind 46 = .ok (.ireturn, 1) := by decide +kernel
theorem dX0_standsRight_0 : decode cX0_standsRight 0 = .ok (.iconst 0, 1) := by decide +kernel
theorem dX0_standsRight_1 : decode cX0_standsRight 1 = .ok (.istore_n 2, 1) := by decide +kernel
theorem dX0_standsRight_2 : decode cX0_standsRight 2 = .ok (.iconst 0, 1) := by decide +kernel
theorem dX0_standsRight_3 : decode cX0_standsRight 3 = .ok (.istore_n 3, 1) := by decide +kernel
theorem dX0_standsRight_4 : decode cX0_standsRight 4 = .ok (.iconst 0, 1) := by decide +kernel
theorem dX0_standsRight_5 : decode cX0_standsRight 5 = .ok (.istore 4, 2) := by decide +kernel
theorem dX0_standsRight_7 : decode cX0_standsRight 7 = .ok (.iload 4, 2) := by decide +kernel
theorem dX0_standsRight_9 : decode cX0_standsRight 9 = .ok (.bipush 120, 2) := by decide +kernel
theorem dX0_standsRight_11 : decode cX0_standsRight 11 = .ok (.if_icmp .ge 93, 3) := by decide +kernel
theorem dX0_standsRight_14 : decode cX0_standsRight 14 = .ok (.iload 4, 2) := by decide +kernel
theorem dX0_standsRight_16 : decode cX0_standsRight 16 = .ok (.iload_n 1, 1) := by decide +kernel
theorem dX0_standsRight_17 : decode cX0_standsRight 17 = .ok (.if_icmp .eq 81, 3) := by decide +kernel
theorem dX0_standsRight_20 : decode cX0_standsRight 20 = .ok (.aload_n 0, 1) := by decide +kernel
theorem dX0_standsRight_21 : decode cX0_standsRight 21 = .ok (.getfield 30, 3) := by decide +kernel
theorem dX0_standsRight_24 : decode cX0_standsRight 24 = .ok (.iload 4, 2) := by decide +kernel
theorem dX0_standsRight_26 : decode cX0_standsRight 26 = .ok (.baload, 1) := by decide +kernel
theorem dX0_standsRight_27 : decode cX0_standsRight 27 = .ok (.ifCond .ne 6, 3) := by decide +kernel
theorem dX0_standsRight_30 : decode cX0_standsRight 30 = .ok (.goto 68, 3) := by decide +kernel
theorem dX0_standsRight_33 : decode cX0_standsRight 33 = .ok (.aload_n 0, 1) := by decide +kernel
theorem dX0_standsRight_34 : decode cX0_standsRight 34 = .ok (.iload_n 1, 1) := by decide +kernel
theorem dX0_standsRight_35 : decode cX0_standsRight 35 = .ok (.iload 4, 2) := by decide +kernel
theorem dX0_standsRight_37 : decode cX0_standsRight 37 = .ok (.invokevirtual 90, 3) := by decide +kernel
theorem dX0_standsRight_40 : decode cX0_standsRight 40 = .ok (.aload_n 0, 1) := by decide +kernel
theorem dX0_standsRight_41 : decode cX0_standsRight 41 = .ok (.getfield 23, 3) := by decide +kernel
theorem dX0_standsRight_44 : decode cX0_standsRight 44 = .ok (.lcmp, 1) := by decide +kernel
theorem dX0_standsRight_45 : decode cX0_standsRight 45 = .ok (.ifCond .gt 7, 3) := by decide +kernel
theorem dX0_standsRight_48 : decode cX0_standsRight 48 = .ok (.iconst 1, 1) := by decide +kernel
theorem dX0_standsRight_49 : decode cX0_standsRight 49 = .ok (.goto 4, 3) := by decide +kernel
theorem dX0_standsRight_52 : decode cX0_standsRight 52 = .ok (.iconst 0, 1) := by decide +kernel
theorem dX0_standsRight_53 : decode cX0_standsRight 53 = .ok (.istore 5, 2) := by decide +kernel
theorem dX0_standsRight_55 : decode cX0_standsRight 55 = .ok (.aload_n 0, 1) := by decide +kernel
theorem dX0_standsRight_56 : decode cX0_standsRight 56 = .ok (.getfield 34, 3) := by decide +kernel
theorem dX0_standsRight_59 : decode cX0_standsRight 59 = .ok (.iload 4, 2) := by decide +kernel
theorem dX0_standsRight_61 : decode cX0_standsRight 61 = .ok (.iaload, 1) := by decide +kernel
theorem dX0_standsRight_62 : decode cX0_standsRight 62 = .ok (.aload_n 0, 1) := by decide +kernel
theorem dX0_standsRight_63 : decode cX0_standsRight 63 = .ok (.getfield 34, 3) := by decide +kernel
theorem dX0_standsRight_66 : decode cX0_standsRight 66 = .ok (.iload_n 1, 1) := by decide +kernel
theorem dX0_standsRight_67 : decode cX0_standsRight 67 = .ok (.iaload, 1) := by decide +kernel
theorem dX0_standsRight_68 : decode cX0_standsRight 68 = .ok (.if_icmp .ne 23, 3) := by decide +kernel
theorem dX0_standsRight_71 : decode cX0_standsRight 71 = .ok (.iconst 1, 1) := by decide +kernel
theorem dX0_standsRight_72 : decode cX0_standsRight 72 = .ok (.istore_n 2, 1) := by decide +kernel
theorem dX0_standsRight_73 : decode cX0_standsRight 73 = .ok (.iload_n 3, 1) := by decide +kernel
theorem dX0_standsRight_74 : decode cX0_standsRight 74 = .ok (.ifCond .ne 8, 3) := by decide +kernel
theorem dX0_standsRight_77 : decode cX0_standsRight 77 = .ok (.iload 5, 2) := by decide +kernel
theorem dX0_standsRight_79 : decode cX0_standsRight 79 = .ok (.ifCond .eq 7, 3) := by decide +kernel
theorem dX0_standsRight_82 : decode cX0_standsRight 82 = .ok (.iconst 1, 1) := by decide +kernel
theorem dX0_standsRight_83 : decode cX0_standsRight 83 = .ok (.goto 4, 3) := by decide +kernel
theorem dX0_standsRight_86 : decode cX0_standsRight 86 = .ok (.iconst 0, 1) := by decide +kernel
theorem dX0_standsRight_87 : decode cX0_standsRight 87 = .ok (.istore_n 3, 1) := by decide +kernel
theorem dX0_standsRight_88 : decode cX0_standsRight 88 = .ok (.goto 10, 3) := by decide +kernel
theorem dX0_standsRight_91 : decode cX0_standsRight 91 = .ok (.iload 5, 2) := by decide +kernel
theorem dX0_standsRight_93 : decode cX0_standsRight 93 = .ok (.ifCond .eq 5, 3) := by decide +kernel
theorem dX0_standsRight_96 : decode cX0_standsRight 96 = .ok (.iconst 0, 1) := by decide +kernel
theorem dX0_standsRight_97 : decode cX0_standsRight 97 = .ok (.ireturn, 1) := by decide +kernel
theorem dX0_standsRight_98 : decode cX0_standsRight 98 = .ok (.iinc 4 1, 3) := by decide +kernel
theorem dX0_standsRight_101 : decode cX0_standsRight 101 = .ok (.goto (-94), 3) := by decide +kernel
theorem dX0_standsRight_104 : decode cX0_standsRight 104 = .ok (.iload_n 3, 1) := by decide +kernel
theorem dX0_standsRight_105 : decode cX0_standsRight 105 = .ok (.ifCond .ne 7, 3) := by decide +kernel
theorem dX0_standsRight_108 : decode cX0_standsRight 108 = .ok (.iload_n 2, 1) := by decide +kernel
theorem dX0_standsRight_109 : decode cX0_standsRight 109 = .ok (.ifCond .ne 7, 3) := by decide +kernel
theorem dX0_standsRight_112 : decode cX0_standsRight 112 = .ok (.iconst 1, 1) := by decide +kernel
theorem dX0_standsRight_113 : decode cX0_standsRight 113 = .ok (.goto 4, 3) := by decide +kernel
theorem dX0_standsRight_116 : decode cX0_standsRight 116 = .ok (.iconst 0, 1) := by decide +kernel
theorem dX0_standsRight_117 : decode cX0_standsRight 117 = .ok (.ireturn, 1) := by decide +kernel
theorem dX0_pointsOf_0 : decode cX0_pointsOf 0 = .ok (.iconst 0, 1) := by decide +kernel
theorem dX0_pointsOf_1 : decode cX0_pointsOf 1 = .ok (.istore_n 2, 1) := by decide +kernel
theorem dX0_pointsOf_2 : decode cX0_pointsOf 2 = .ok (.iconst 0, 1) := by decide +kernel
theorem dX0_pointsOf_3 : decode cX0_pointsOf 3 = .ok (.istore_n 3, 1) := by decide +kernel
theorem dX0_pointsOf_4 : decode cX0_pointsOf 4 = .ok (.iload_n 3, 1) := by decide +kernel
theorem dX0_pointsOf_5 : decode cX0_pointsOf 5 = .ok (.bipush 120, 2) := by decide +kernel
theorem dX0_pointsOf_7 : decode cX0_pointsOf 7 = .ok (.if_icmp .ge 22, 3) := by decide +kernel
theorem dX0_pointsOf_10 : decode cX0_pointsOf 10 = .ok (.aload_n 0, 1) := by decide +kernel
theorem dX0_pointsOf_11 : decode cX0_pointsOf 11 = .ok (.getfield 34, 3) := by decide +kernel
theorem dX0_pointsOf_14 : decode cX0_pointsOf 14 = .ok (.iload_n 3, 1) := by decide +kernel
theorem dX0_pointsOf_15 : decode cX0_pointsOf 15 = .ok (.iaload, 1) := by decide +kernel
theorem dX0_pointsOf_16 : decode cX0_pointsOf 16 = .ok (.iload_n 1, 1) := by decide +kernel
theorem dX0_pointsOf_17 : decode cX0_pointsOf 17 = .ok (.if_icmp .ne 6, 3) := by decide +kernel
theorem dX0_pointsOf_20 : decode cX0_pointsOf 20 = .ok (.iinc 2 1, 3) := by decide +kernel
theorem dX0_pointsOf_23 : decode cX0_pointsOf 23 = .ok (.iinc 3 1, 3) := by decide +kernel
theorem dX0_pointsOf_26 : decode cX0_pointsOf 26 = .ok (.goto (-22), 3) := by decide +kernel
theorem dX0_pointsOf_29 : decode cX0_pointsOf 29 = .ok (.iload_n 2, 1) := by decide +kernel
theorem dX0_pointsOf_30 : decode cX0_pointsOf 30 = .ok (.ireturn, 1) := by decide +kernel
theorem dX0_coresOf_0 : decode cX0_coresOf 0 = .ok (.iconst 0, 1) := by decide +kernel
theorem dX0_coresOf_1 : decode cX0_coresOf 1 = .ok (.istore_n 2, 1) := by decide +kernel
theorem dX0_coresOf_2 : decode cX0_coresOf 2 = .ok (.iconst 0, 1) := by decide +kernel
theorem dX0_coresOf_3 : decode cX0_coresOf 3 = .ok (.istore_n 3, 1) := by decide +kernel
theorem dX0_coresOf_4 : decode cX0_coresOf 4 = .ok (.iload_n 3, 1) := by decide +kernel
theorem dX0_coresOf_5 : decode cX0_coresOf 5 = .ok (.bipush 120, 2) := by decide +kernel
theorem dX0_coresOf_7 : decode cX0_coresOf 7 = .ok (.if_icmp .ge 31, 3) := by decide +kernel
theorem dX0_coresOf_10 : decode cX0_coresOf 10 = .ok (.aload_n 0, 1) := by decide +kernel
theorem dX0_coresOf_11 : decode cX0_coresOf 11 = .ok (.getfield 30, 3) := by decide +kernel
theorem dX0_coresOf_14 : decode cX0_coresOf 14 = .ok (.iload_n 3, 1) := by decide +kernel
theorem dX0_coresOf_15 : decode cX0_coresOf 15 = .ok (.baload, 1) := by decide +kernel
theorem dX0_coresOf_16 : decode cX0_coresOf 16 = .ok (.ifCond .eq 16, 3) := by decide +kernel
theorem dX0_coresOf_19 : decode cX0_coresOf 19 = .ok (.aload_n 0, 1) := by decide +kernel
theorem dX0_coresOf_20 : decode cX0_coresOf 20 = .ok (.getfield 34, 3) := by decide +kernel
theorem dX0_coresOf_23 : decode cX0_coresOf 23 = .ok (.iload_n 3, 1) := by decide +kernel
theorem dX0_coresOf_24 : decode cX0_coresOf 24 = .ok (.iaload, 1) := by decide +kernel
theorem dX0_coresOf_25 : decode cX0_coresOf 25 = .ok (.iload_n 1, 1) := by decide +kernel
theorem dX0_coresOf_26 : decode cX0_coresOf 26 = .ok (.if_icmp .ne 6, 3) := by decide +kernel
theorem dX0_coresOf_29 : decode cX0_coresOf 29 = .ok (.iinc 2 1, 3) := by decide +kernel
theorem dX0_coresOf_32 : decode cX0_coresOf 32 = .ok (.iinc 3 1, 3) := by decide +kernel
theorem dX0_coresOf_35 : decode cX0_coresOf 35 = .ok (.goto (-31), 3) := by decide +kernel
theorem dX0_coresOf_38 : decode cX0_coresOf 38 = .ok (.iload_n 2, 1) := by decide +kernel
theorem dX0_coresOf_39 : decode cX0_coresOf 39 = .ok (.ireturn, 1) := by decide +kernel
theorem dX0_weightsOf_0 : decode cX0_weightsOf 0 = .ok (.iconst 0, 1) := by decide +kernel
theorem dX0_weightsOf_1 : decode cX0_weightsOf 1 = .ok (.istore_n 2, 1) := by decide +kernel
theorem dX0_weightsOf_2 : decode cX0_weightsOf 2 = .ok (.iconst 0, 1) := by decide +kernel
theorem dX0_weightsOf_3 : decode cX0_weightsOf 3 = .ok (.istore_n 3, 1) := by decide +kernel
theorem dX0_weightsOf_4 : decode cX0_weightsOf 4 = .ok (.iload_n 3, 1) := by decide +kernel
theorem dX0_weightsOf_5 : decode cX0_weightsOf 5 = .ok (.bipush 120, 2) := by decide +kernel
theorem dX0_weightsOf_7 : decode cX0_weightsOf 7 = .ok (.if_icmp .ge 28, 3) := by decide +kernel
theorem dX0_weightsOf_10 : decode cX0_weightsOf 10 = .ok (.aload_n 0, 1) := by decide +kernel
theorem dX0_weightsOf_11 : decode cX0_weightsOf 11 = .ok (.getfield 34, 3) := by decide +kernel
theorem dX0_weightsOf_14 : decode cX0_weightsOf 14 = .ok (.iload_n 3, 1) := by decide +kernel
theorem dX0_weightsOf_15 : decode cX0_weightsOf 15 = .ok (.iaload, 1) := by decide +kernel
theorem dX0_weightsOf_16 : decode cX0_weightsOf 16 = .ok (.iload_n 1, 1) := by decide +kernel
theorem dX0_weightsOf_17 : decode cX0_weightsOf 17 = .ok (.if_icmp .ne 12, 3) := by decide +kernel
theorem dX0_weightsOf_20 : decode cX0_weightsOf 20 = .ok (.iload_n 2, 1) := by decide +kernel
theorem dX0_weightsOf_21 : decode cX0_weightsOf 21 = .ok (.aload_n 0, 1) := by decide +kernel
theorem dX0_weightsOf_22 : decode cX0_weightsOf 22 = .ok (.getfield 9, 3) := by decide +kernel
theorem dX0_weightsOf_25 : decode cX0_weightsOf 25 = .ok (.iload_n 3, 1) := by decide +kernel
theorem dX0_weightsOf_26 : decode cX0_weightsOf 26 = .ok (.iaload, 1) := by decide +kernel
theorem dX0_weightsOf_27 : decode cX0_weightsOf 27 = .ok (.iadd, 1) := by decide +kernel
theorem dX0_weightsOf_28 : decode cX0_weightsOf 28 = .ok (.istore_n 2, 1) := by decide +kernel
theorem dX0_weightsOf_29 : decode cX0_weightsOf 29 = .ok (.iinc 3 1, 3) := by decide +kernel
theorem dX0_weightsOf_32 : decode cX0_weightsOf 32 = .ok (.goto (-28), 3) := by decide +kernel
theorem dX0_weightsOf_35 : decode cX0_weightsOf 35 = .ok (.iload_n 2, 1) := by decide +kernel
theorem dX0_weightsOf_36 : decode cX0_weightsOf 36 = .ok (.ireturn, 1) := by decide +kernel
theorem dX0_leastCoreOf_0 : decode cX0_leastCoreOf 0 = .ok (.iconst 0, 1) := by decide +kernel
theorem dX0_leastCoreOf_1 : decode cX0_leastCoreOf 1 = .ok (.istore_n 2, 1) := by decide +kernel
theorem dX0_leastCoreOf_2 : decode cX0_leastCoreOf 2 = .ok (.iload_n 2, 1) := by decide +kernel
theorem dX0_leastCoreOf_3 : decode cX0_leastCoreOf 3 = .ok (.bipush 120, 2) := by decide +kernel
theorem dX0_leastCoreOf_5 : decode cX0_leastCoreOf 5 = .ok (.if_icmp .ge 30, 3) := by decide +kernel
theorem dX0_leastCoreOf_8 : decode cX0_leastCoreOf 8 = .ok (.aload_n 0, 1) := by decide +kernel
theorem dX0_leastCoreOf_9 : decode cX0_leastCoreOf 9 = .ok (.getfield 30, 3) := by decide +kernel
theorem dX0_leastCoreOf_12 : decode cX0_leastCoreOf 12 = .ok (.iload_n 2, 1) := by decide +kernel
theorem dX0_leastCoreOf_13 : decode cX0_leastCoreOf 13 = .ok (.baload, 1) := by decide +kernel
theorem dX0_leastCoreOf_14 : decode cX0_leastCoreOf 14 = .ok (.ifCond .eq 15, 3) := by decide +kernel
theorem dX0_leastCoreOf_17 : decode cX0_leastCoreOf 17 = .ok (.aload_n 0, 1) := by decide +kernel
theorem dX0_leastCoreOf_18 : decode cX0_leastCoreOf 18 = .ok (.getfield 34, 3) := by decide +kernel
theorem dX0_leastCoreOf_21 : decode cX0_leastCoreOf 21 = .ok (.iload_n 2, 1) := by decide +kernel
theorem dX0_leastCoreOf_22 : decode cX0_leastCoreOf 22 = .ok (.iaload, 1) := by decide +kernel
theorem dX0_leastCoreOf_23 : decode cX0_leastCoreOf 23 = .ok (.iload_n 1, 1) := by decide +kernel
theorem dX0_leastCoreOf_24 : decode cX0_leastCoreOf 24 = .ok (.if_icmp .ne 5, 3) := by decide +kernel
theorem dX0_leastCoreOf_27 : decode cX0_leastCoreOf 27 = .ok (.iload_n 2, 1) := by decide +kernel
theorem dX0_leastCoreOf_28 : decode cX0_leastCoreOf 28 = .ok (.ireturn, 1) := by decide +kernel
theorem dX0_leastCoreOf_29 : decode cX0_leastCoreOf 29 = .ok (.iinc 2 1, 3) := by decide +kernel
theorem dX0_leastCoreOf_32 : decode cX0_leastCoreOf 32 = .ok (.goto (-30), 3) := by decide +kernel
theorem dX0_leastCoreOf_35 : decode cX0_leastCoreOf 35 = .ok (.iconst (-1), 1) := by decide +kernel
theorem dX0_leastCoreOf_36 : decode cX0_leastCoreOf 36 = .ok (.ireturn, 1) := by decide +kernel
theorem dX0_leastOf_0 : decode cX0_leastOf 0 = .ok (.ldc 149, 2) := by decide +kernel
theorem dX0_leastOf_2 : decode cX0_leastOf 2 = .ok (.istore_n 3, 1) := by decide +kernel
theorem dX0_leastOf_3 : decode cX0_leastOf 3 = .ok (.iconst 0, 1) := by decide +kernel
theorem dX0_leastOf_4 : decode cX0_leastOf 4 = .ok (.istore 4, 2) := by decide +kernel
theorem dX0_leastOf_6 : decode cX0_leastOf 6 = .ok (.iload 4, 2) := by decide +kernel
theorem dX0_leastOf_8 : decode cX0_leastOf 8 = .ok (.bipush 120, 2) := by decide +kernel
theorem dX0_leastOf_10 : decode cX0_leastOf 10 = .ok (.if_icmp .ge 36, 3) := by decide +kernel
theorem dX0_leastOf_13 : decode cX0_leastOf 13 = .ok (.iload 4, 2) := by decide +kernel
theorem dX0_leastOf_15 : decode cX0_leastOf 15 = .ok (.aload_n 1, 1) := by decide +kernel
theorem dX0_leastOf_16 : decode cX0_leastOf 16 = .ok (.arraylength, 1) := by decide +kernel
theorem dX0_leastOf_17 : decode cX0_leastOf 17 = .ok (.if_icmp .ge 29, 3) := by decide +kernel
theorem dX0_leastOf_20 : decode cX0_leastOf 20 = .ok (.aload_n 0, 1) := by decide +kernel
theorem dX0_leastOf_21 : decode cX0_leastOf 21 = .ok (.getfield 34, 3) := by decide +kernel
theorem dX0_leastOf_24 : decode cX0_leastOf 24 = .ok (.iload 4, 2) := by decide +kernel
theorem dX0_leastOf_26 : decode cX0_leastOf 26 = .ok (.iaload, 1) := by decide +kernel
theorem dX0_leastOf_27 : decode cX0_leastOf 27 = .ok (.iload_n 2, 1) := by decide +kernel
theorem dX0_leastOf_28 : decode cX0_leastOf 28 = .ok (.if_icmp .ne 12, 3) := by decide +kernel
theorem dX0_leastOf_31 : decode cX0_leastOf 31 = .ok (.iload_n 3, 1) := by decide +kernel
theorem dX0_leastOf_32 : decode cX0_leastOf 32 = .ok (.aload_n 1, 1) := by decide +kernel
theorem dX0_leastOf_33 : decode cX0_leastOf 33 = .ok (.iload 4, 2) := by decide +kernel
theorem dX0_leastOf_35 : decode cX0_leastOf 35 = .ok (.iaload, 1) := by decide +kernel
theorem dX0_leastOf_36 : decode cX0_leastOf 36 = .ok (.invokestatic 183, 3) := by decide +kernel
theorem dX0_leastOf_39 : decode cX0_leastOf 39 = .ok (.istore_n 3, 1) := by decide +kernel
theorem dX0_leastOf_40 : decode cX0_leastOf 40 = .ok (.iinc 4 1, 3) := by decide +kernel
theorem dX0_leastOf_43 : decode cX0_leastOf 43 = .ok (.goto (-37), 3) := by decide +kernel
theorem dX0_leastOf_46 : decode cX0_leastOf 46 = .ok (.iload_n 3, 1) := by decide +kernel
theorem dX0_leastOf_47 : decode cX0_leastOf 47 = .ok (.ireturn, 1) := by decide +kernel
theorem dX0_greatestOf_0 : decode cX0_greatestOf 0 = .ok (.ldc 148, 2) := by decide +kernel
theorem dX0_greatestOf_2 : decode cX0_greatestOf 2 = .ok (.istore_n 3, 1) := by decide +kernel
theorem dX0_greatestOf_3 : decode cX0_greatestOf 3 = .ok (.iconst 0, 1) := by decide +kernel
theorem dX0_greatestOf_4 : decode cX0_greatestOf 4 = .ok (.istore 4, 2) := by decide +kernel
theorem dX0_greatestOf_6 : decode cX0_greatestOf 6 = .ok (.iload 4, 2) := by decide +kernel
theorem dX0_greatestOf_8 : decode cX0_greatestOf 8 = .ok (.bipush 120, 2) := by decide +kernel
theorem dX0_greatestOf_10 : decode cX0_greatestOf 10 = .ok (.if_icmp .ge 36, 3) := by decide +kernel
theorem dX0_greatestOf_13 : decode cX0_greatestOf 13 = .ok (.iload 4, 2) := by decide +kernel
theorem dX0_greatestOf_15 : decode cX0_greatestOf 15 = .ok (.aload_n 1, 1) := by decide +kernel
theorem dX0_greatestOf_16 : decode cX0_greatestOf 16 = .ok (.arraylength, 1) := by decide +kernel
theorem dX0_greatestOf_17 : decode cX0_greatestOf 17 = .ok (.if_icmp .ge 29, 3) := by decide +kernel
theorem dX0_greatestOf_20 : decode cX0_greatestOf 20 = .ok (.aload_n 0, 1) := by decide +kernel
theorem dX0_greatestOf_21 : decode cX0_greatestOf 21 = .ok (.getfield 34, 3) := by decide +kernel
theorem dX0_greatestOf_24 : decode cX0_greatestOf 24 = .ok (.iload 4, 2) := by decide +kernel
theorem dX0_greatestOf_26 : decode cX0_greatestOf 26 = .ok (.iaload, 1) := by decide +kernel
theorem dX0_greatestOf_27 : decode cX0_greatestOf 27 = .ok (.iload_n 2, 1) := by decide +kernel
theorem dX0_greatestOf_28 : decode cX0_greatestOf 28 = .ok (.if_icmp .ne 12, 3) := by decide +kernel
theorem dX0_greatestOf_31 : decode cX0_greatestOf 31 = .ok (.iload_n 3, 1) := by decide +kernel
theorem dX0_greatestOf_32 : decode cX0_greatestOf 32 = .ok (.aload_n 1, 1) := by decide +kernel
theorem dX0_greatestOf_33 : decode cX0_greatestOf 33 = .ok (.iload 4, 2) := by decide +kernel
theorem dX0_greatestOf_35 : decode cX0_greatestOf 35 = .ok (.iaload, 1) := by decide +kernel
theorem dX0_greatestOf_36 : decode cX0_greatestOf 36 = .ok (.invokestatic 187, 3) := by decide +kernel
theorem dX0_greatestOf_39 : decode cX0_greatestOf 39 = .ok (.istore_n 3, 1) := by decide +kernel
theorem dX0_greatestOf_40 : decode cX0_greatestOf 40 = .ok (.iinc 4 1, 3) := by decide +kernel
theorem dX0_greatestOf_43 : decode cX0_greatestOf 43 = .ok (.goto (-37), 3) := by decide +kernel
theorem dX0_greatestOf_46 : decode cX0_greatestOf 46 = .ok (.iload_n 3, 1) := by decide +kernel
theorem dX0_greatestOf_47 : decode cX0_greatestOf 47 = .ok (.ireturn, 1) := by decide +kernel
theorem dX0_findCoreFrom_0 : decode cX0_findCoreFrom 0 = .ok (.aload_n 0, 1) := by decide +kernel
theorem dX0_findCoreFrom_1 : decode cX0_findCoreFrom 1 = .ok (.getfield 51, 3) := by decide +kernel
theorem dX0_findCoreFrom_4 : decode cX0_findCoreFrom 4 = .ok (.ifCond .eq 4, 3) := by decide +kernel
theorem dX0_findCoreFrom_7 : decode cX0_findCoreFrom 7 = .ok (.return_, 1) := by decide +kernel
theorem dX0_findCoreFrom_8 : decode cX0_findCoreFrom 8 = .ok (.iconst 0, 1) := by decide +kernel
theorem dX0_findCoreFrom_9 : decode cX0_findCoreFrom 9 = .ok (.istore_n 1, 1) := by decide +kernel
theorem dX0_findCoreFrom_10 : decode cX0_findCoreFrom 10 = .ok (.iload_n 1, 1) := by decide +kernel
theorem dX0_findCoreFrom_11 : decode cX0_findCoreFrom 11 = .ok (.bipush 120, 2) := by decide +kernel
theorem dX0_findCoreFrom_13 : decode cX0_findCoreFrom 13 = .ok (.if_icmp .ge 35, 3) := by decide +kernel
theorem dX0_findCoreFrom_16 : decode cX0_findCoreFrom 16 = .ok (.aload_n 0, 1) := by decide +kernel
theorem dX0_findCoreFrom_17 : decode cX0_findCoreFrom 17 = .ok (.getfield 47, 3) := by decide +kernel
theorem dX0_findCoreFrom_20 : decode cX0_findCoreFrom 20 = .ok (.iload_n 1, 1) := by decide +kernel
theorem dX0_findCoreFrom_21 : decode cX0_findCoreFrom 21 = .ok (.aload_n 0, 1) := by decide +kernel
theorem dX0_findCoreFrom_22 : decode cX0_findCoreFrom 22 = .ok (.getfield 9, 3) := by decide +kernel
theorem dX0_findCoreFrom_25 : decode cX0_findCoreFrom 25 = .ok (.iload_n 1, 1) := by decide +kernel
theorem dX0_findCoreFrom_26 : decode cX0_findCoreFrom 26 = .ok (.iaload, 1) := by decide +kernel
theorem dX0_findCoreFrom_27 : decode cX0_findCoreFrom 27 = .ok (.ifCond .le 11, 3) := by decide +kernel
theorem dX0_findCoreFrom_30 : decode cX0_findCoreFrom 30 = .ok (.aload_n 0, 1) := by decide +kernel
theorem dX0_findCoreFrom_31 : decode cX0_findCoreFrom 31 = .ok (.iload_n 1, 1) := by decide +kernel
theorem dX0_findCoreFrom_32 : decode cX0_findCoreFrom 32 = .ok (.invokevirtual 106, 3) := by decide +kernel
theorem dX0_findCoreFrom_35 : decode cX0_findCoreFrom 35 = .ok (.goto 6, 3) := by decide +kernel
theorem dX0_findCoreFrom_38 : decode cX0_findCoreFrom 38 = .ok (.ldc2_w 88, 3) := by decide +kernel
theorem dX0_findCoreFrom_41 : decode cX0_findCoreFrom 41 = .ok (.lastore, 1) := by decide +kernel
theorem dX0_findCoreFrom_42 : decode cX0_findCoreFrom 42 = .ok (.iinc 1 1, 3) := by decide +kernel
theorem dX0_findCoreFrom_45 : decode cX0_findCoreFrom 45 = .ok (.goto (-35), 3) := by decide +kernel
theorem dX0_findCoreFrom_48 : decode cX0_findCoreFrom 48 = .ok (.aload_n 0, 1) := by decide +kernel
theorem dX0_findCoreFrom_49 : decode cX0_findCoreFrom 49 = .ok (.iconst 1, 1) := by decide +kernel
theorem dX0_findCoreFrom_50 : decode cX0_findCoreFrom 50 = .ok (.putfield 51, 3) := by decide +kernel
theorem dX0_findCoreFrom_53 : decode cX0_findCoreFrom 53 = .ok (.return_, 1) := by decide +kernel
theorem dX0_leastReachAsCore_0 : decode cX0_leastReachAsCore 0 = .ok (.iconst 0, 1) := by decide +kernel
theorem dX0_leastReachAsCore_1 : decode cX0_leastReachAsCore 1 = .ok (.istore_n 2, 1) := by decide +kernel
theorem dX0_leastReachAsCore_2 : decode cX0_leastReachAsCore 2 = .ok (.iconst 0, 1) := by decide +kernel
theorem dX0_leastReachAsCore_3 : decode cX0_leastReachAsCore 3 = .ok (.istore_n 3, 1) := by decide +kernel
theorem dX0_leastReachAsCore_4 : decode cX0_leastReachAsCore 4 = .ok (.iconst 0, 1) := by decide +kernel
theorem dX0_leastReachAsCore_5 : decode cX0_leastReachAsCore 5 = .ok (.istore 4, 2) := by decide +kernel
theorem dX0_leastReachAsCore_7 : decode cX0_leastReachAsCore 7 = .ok (.iload 4, 2) := by decide +kernel
theorem dX0_leastReachAsCore_9 : decode cX0_leastReachAsCore 9 = .ok (.bipush 120, 2) := by decide +kernel
theorem dX0_leastReachAsCore_11 : decode cX0_leastReachAsCore 11 = .ok (.if_icmp .ge 114, 3) := by decide +kernel
theorem dX0_leastReachAsCore_14 : decode cX0_leastReachAsCore 14 = .ok (.aload_n 0, 1) := by decide +kernel
theorem dX0_leastReachAsCore_15 : decode cX0_leastReachAsCore 15 = .ok (.getfield 9, 3) := by decide +kernel
theorem dX0_leastReachAsCore_18 : decode cX0_leastReachAsCore 18 = .ok (.iload 4, 2) := by decide +kernel
theorem dX0_leastReachAsCore_20 : decode cX0_leastReachAsCore 20 = .ok (.iaload, 1) := by decide +kernel
theorem dX0_leastReachAsCore_21 : decode cX0_leastReachAsCore 21 = .ok (.ifCond .ne 6, 3) := by decide +kernel
theorem dX0_leastReachAsCore_24 : decode cX0_leastReachAsCore 24 = .ok (.goto 95, 3) := by decide +kernel
theorem dX0_leastReachAsCore_27 : decode cX0_leastReachAsCore 27 = .ok (.aload_n 0, 1) := by decide +kernel
theorem dX0_leastReachAsCore_28 : decode cX0_leastReachAsCore 28 = .ok (.iload_n 1, 1) := by decide +kernel
theorem dX0_leastReachAsCore_29 : decode cX0_leastReachAsCore 29 = .ok (.iload 4, 2) := by decide +kernel
theorem dX0_leastReachAsCore_31 : decode cX0_leastReachAsCore 31 = .ok (.invokevirtual 90, 3) := by decide +kernel
theorem dX0_leastReachAsCore_34 : decode cX0_leastReachAsCore 34 = .ok (.lstore 5, 2) := by decide +kernel
theorem dX0_leastReachAsCore_36 : decode cX0_leastReachAsCore 36 = .ok (.iload_n 3, 1) := by decide +kernel
theorem dX0_leastReachAsCore_37 : decode cX0_leastReachAsCore 37 = .ok (.aload_n 0, 1) := by decide +kernel
theorem dX0_leastReachAsCore_38 : decode cX0_leastReachAsCore 38 = .ok (.getfield 27, 3) := by decide +kernel
theorem dX0_leastReachAsCore_41 : decode cX0_leastReachAsCore 41 = .ok (.if_icmp .lt 17, 3) := by decide +kernel
theorem dX0_leastReachAsCore_44 : decode cX0_leastReachAsCore 44 = .ok (.lload 5, 2) := by decide +kernel
theorem dX0_leastReachAsCore_46 : decode cX0_leastReachAsCore 46 = .ok (.aload_n 0, 1) := by decide +kernel
theorem dX0_leastReachAsCore_47 : decode cX0_leastReachAsCore 47 = .ok (.iload_n 2, 1) := by decide +kernel
theorem dX0_leastReachAsCore_48 : decode cX0_leastReachAsCore 48 = .ok (.invokevirtual 189, 3) := by decide +kernel
theorem dX0_leastReachAsCore_51 : decode cX0_leastReachAsCore 51 = .ok (.lcmp, 1) := by decide +kernel
theorem dX0_leastReachAsCore_52 : decode cX0_leastReachAsCore 52 = .ok (.ifCond .lt 6, 3) := by decide +kernel
theorem dX0_leastReachAsCore_55 : decode cX0_leastReachAsCore 55 = .ok (.goto 64, 3) := by decide +kernel
theorem dX0_leastReachAsCore_58 : decode cX0_leastReachAsCore 58 = .ok (.aload_n 0, 1) := by decide +kernel
theorem dX0_leastReachAsCore_59 : decode cX0_leastReachAsCore 59 = .ok (.iload_n 2, 1) := by decide +kernel
theorem dX0_leastReachAsCore_60 : decode cX0_leastReachAsCore 60 = .ok (.lload 5, 2) := by decide +kernel
theorem dX0_leastReachAsCore_62 : decode cX0_leastReachAsCore 62 = .ok (.aload_n 0, 1) := by decide +kernel
theorem dX0_leastReachAsCore_63 : decode cX0_leastReachAsCore 63 = .ok (.getfield 9, 3) := by decide +kernel
theorem dX0_leastReachAsCore_66 : decode cX0_leastReachAsCore 66 = .ok (.iload 4, 2) := by decide +kernel
theorem dX0_leastReachAsCore_68 : decode cX0_leastReachAsCore 68 = .ok (.iaload, 1) := by decide +kernel
theorem dX0_leastReachAsCore_69 : decode cX0_leastReachAsCore 69 = .ok (.invokevirtual 192, 3) := by decide +kernel
theorem dX0_leastReachAsCore_72 : decode cX0_leastReachAsCore 72 = .ok (.istore_n 2, 1) := by decide +kernel
theorem dX0_leastReachAsCore_73 : decode cX0_leastReachAsCore 73 = .ok (.iload_n 3, 1) := by decide +kernel
theorem dX0_leastReachAsCore_74 : decode cX0_leastReachAsCore 74 = .ok (.aload_n 0, 1) := by decide +kernel
theorem dX0_leastReachAsCore_75 : decode cX0_leastReachAsCore 75 = .ok (.getfield 9, 3) := by decide +kernel
theorem dX0_leastReachAsCore_78 : decode cX0_leastReachAsCore 78 = .ok (.iload 4, 2) := by decide +kernel
theorem dX0_leastReachAsCore_80 : decode cX0_leastReachAsCore 80 = .ok (.iaload, 1) := by decide +kernel
theorem dX0_leastReachAsCore_81 : decode cX0_leastReachAsCore 81 = .ok (.iadd, 1) := by decide +kernel
theorem dX0_leastReachAsCore_82 : decode cX0_leastReachAsCore 82 = .ok (.istore_n 3, 1) := by decide +kernel
theorem dX0_leastReachAsCore_83 : decode cX0_leastReachAsCore 83 = .ok (.iload_n 2, 1) := by decide +kernel
theorem dX0_leastReachAsCore_84 : decode cX0_leastReachAsCore 84 = .ok (.ifCond .le 35, 3) := by decide +kernel
theorem dX0_leastReachAsCore_87 : decode cX0_leastReachAsCore 87 = .ok (.iload_n 3, 1) := by decide +kernel
theorem dX0_leastReachAsCore_88 : decode cX0_leastReachAsCore 88 = .ok (.aload_n 0, 1) := by decide +kernel
theorem dX0_leastReachAsCore_89 : decode cX0_leastReachAsCore 89 = .ok (.getfield 57, 3) := by decide +kernel
theorem dX0_leastReachAsCore_92 : decode cX0_leastReachAsCore 92 = .ok (.iload_n 2, 1) := by decide +kernel
theorem dX0_leastReachAsCore_93 : decode cX0_leastReachAsCore 93 = .ok (.iconst 1, 1) := by decide +kernel
theorem dX0_leastReachAsCore_94 : decode cX0_leastReachAsCore 94 = .ok (.isub, 1) := by decide +kernel
theorem dX0_leastReachAsCore_95 : decode cX0_leastReachAsCore 95 = .ok (.iaload, 1) := by decide +kernel
theorem dX0_leastReachAsCore_96 : decode cX0_leastReachAsCore 96 = .ok (.isub, 1) := by decide +kernel
theorem dX0_leastReachAsCore_97 : decode cX0_leastReachAsCore 97 = .ok (.aload_n 0, 1) := by decide +kernel
theorem dX0_leastReachAsCore_98 : decode cX0_leastReachAsCore 98 = .ok (.getfield 27, 3) := by decide +kernel
theorem dX0_leastReachAsCore_101 : decode cX0_leastReachAsCore 101 = .ok (.if_icmp .lt 18, 3) := by decide +kernel
theorem dX0_leastReachAsCore_104 : decode cX0_leastReachAsCore 104 = .ok (.iinc 2 (-1), 3) := by decide +kernel
theorem dX0_leastReachAsCore_107 : decode cX0_leastReachAsCore 107 = .ok (.iload_n 3, 1) := by decide +kernel
theorem dX0_leastReachAsCore_108 : decode cX0_leastReachAsCore 108 = .ok (.aload_n 0, 1) := by decide +kernel
theorem dX0_leastReachAsCore_109 : decode cX0_leastReachAsCore 109 = .ok (.getfield 57, 3) := by decide +kernel
theorem dX0_leastReachAsCore_112 : decode cX0_leastReachAsCore 112 = .ok (.iload_n 2, 1) := by decide +kernel
theorem dX0_leastReachAsCore_113 : decode cX0_leastReachAsCore 113 = .ok (.iaload, 1) := by decide +kernel
theorem dX0_leastReachAsCore_114 : decode cX0_leastReachAsCore 114 = .ok (.isub, 1) := by decide +kernel
theorem dX0_leastReachAsCore_115 : decode cX0_leastReachAsCore 115 = .ok (.istore_n 3, 1) := by decide +kernel
theorem dX0_leastReachAsCore_116 : decode cX0_leastReachAsCore 116 = .ok (.goto (-33), 3) := by decide +kernel
theorem dX0_leastReachAsCore_119 : decode cX0_leastReachAsCore 119 = .ok (.iinc 4 1, 3) := by decide +kernel
theorem dX0_leastReachAsCore_122 : decode cX0_leastReachAsCore 122 = .ok (.goto (-115), 3) := by decide +kernel
theorem dX0_leastReachAsCore_125 : decode cX0_leastReachAsCore 125 = .ok (.iload_n 3, 1) := by decide +kernel
theorem dX0_leastReachAsCore_126 : decode cX0_leastReachAsCore 126 = .ok (.aload_n 0, 1) := by decide +kernel
theorem dX0_leastReachAsCore_127 : decode cX0_leastReachAsCore 127 = .ok (.getfield 27, 3) := by decide +kernel
theorem dX0_leastReachAsCore_130 : decode cX0_leastReachAsCore 130 = .ok (.if_icmp .lt 11, 3) := by decide +kernel
theorem dX0_leastReachAsCore_133 : decode cX0_leastReachAsCore 133 = .ok (.aload_n 0, 1) := by decide +kernel
theorem dX0_leastReachAsCore_134 : decode cX0_leastReachAsCore 134 = .ok (.iload_n 2, 1) := by decide +kernel
theorem dX0_leastReachAsCore_135 : decode cX0_leastReachAsCore 135 = .ok (.invokevirtual 189, 3) := by decide +kernel
theorem dX0_leastReachAsCore_138 : decode cX0_leastReachAsCore 138 = .ok (.goto 6, 3) := by decide +kernel
theorem dX0_leastReachAsCore_141 : decode cX0_leastReachAsCore 141 = .ok (.ldc2_w 88, 3) := by decide +kernel
theorem dX0_leastReachAsCore_144 : decode cX0_leastReachAsCore 144 = .ok (.lreturn, 1) := by decide +kernel
theorem dX0_lastGap_0 : decode cX0_lastGap 0 = .ok (.iload_n 1, 1) := by decide +kernel
theorem dX0_lastGap_1 : decode cX0_lastGap 1 = .ok (.ifCond .le 14, 3) := by decide +kernel
theorem dX0_lastGap_4 : decode cX0_lastGap 4 = .ok (.aload_n 0, 1) := by decide +kernel
theorem dX0_lastGap_5 : decode cX0_lastGap 5 = .ok (.getfield 54, 3) := by decide +kernel
theorem dX0_lastGap_8 : decode cX0_lastGap 8 = .ok (.iload_n 1, 1) := by decide +kernel
theorem dX0_lastGap_9 : decode cX0_lastGap 9 = .ok (.iconst 1, 1) := by decide +kernel
theorem dX0_lastGap_10 : decode cX0_lastGap 10 = .ok (.isub, 1) := by decide +kernel
theorem dX0_lastGap_11 : decode cX0_lastGap 11 = .ok (.laload, 1) := by decide +kernel
theorem dX0_lastGap_12 : decode cX0_lastGap 12 = .ok (.goto 6, 3) := by decide +kernel
theorem dX0_lastGap_15 : decode cX0_lastGap 15 = .ok (.ldc2_w 88, 3) := by decide +kernel
theorem dX0_lastGap_18 : decode cX0_lastGap 18 = .ok (.lreturn, 1) := by decide +kernel
theorem dX0_keepNear_0 : decode cX0_keepNear 0 = .ok (.iload_n 1, 1) := by decide +kernel
theorem dX0_keepNear_1 : decode cX0_keepNear 1 = .ok (.bipush 120, 2) := by decide +kernel
theorem dX0_keepNear_3 : decode cX0_keepNear 3 = .ok (.if_icmp .lt 5, 3) := by decide +kernel
theorem dX0_keepNear_6 : decode cX0_keepNear 6 = .ok (.iload_n 1, 1) := by decide +kernel
theorem dX0_keepNear_7 : decode cX0_keepNear 7 = .ok (.ireturn, 1) := by decide +kernel
theorem dX0_keepNear_8 : decode cX0_keepNear 8 = .ok (.iload_n 1, 1) := by decide +kernel
theorem dX0_keepNear_9 : decode cX0_keepNear 9 = .ok (.istore 5, 2) := by decide +kernel
theorem dX0_keepNear_11 : decode cX0_keepNear 11 = .ok (.iload 5, 2) := by decide +kernel
theorem dX0_keepNear_13 : decode cX0_keepNear 13 = .ok (.ifCond .le 55, 3) := by decide +kernel
theorem dX0_keepNear_16 : decode cX0_keepNear 16 = .ok (.aload_n 0, 1) := by decide +kernel
theorem dX0_keepNear_17 : decode cX0_keepNear 17 = .ok (.getfield 54, 3) := by decide +kernel
theorem dX0_keepNear_20 : decode cX0_keepNear 20 = .ok (.iload 5, 2) := by decide +kernel
theorem dX0_keepNear_22 : decode cX0_keepNear 22 = .ok (.iconst 1, 1) := by decide +kernel
theorem dX0_keepNear_23 : decode cX0_keepNear 23 = .ok (.isub, 1) := by decide +kernel
theorem dX0_keepNear_24 : decode cX0_keepNear 24 = .ok (.laload, 1) := by decide +kernel
theorem dX0_keepNear_25 : decode cX0_keepNear 25 = .ok (.lload_n 2, 1) := by decide +kernel
theorem dX0_keepNear_26 : decode cX0_keepNear 26 = .ok (.lcmp, 1) := by decide +kernel
theorem dX0_keepNear_27 : decode cX0_keepNear 27 = .ok (.ifCond .le 41, 3) := by decide +kernel
theorem dX0_keepNear_30 : decode cX0_keepNear 30 = .ok (.aload_n 0, 1) := by decide +kernel
theorem dX0_keepNear_31 : decode cX0_keepNear 31 = .ok (.getfield 54, 3) := by decide +kernel
theorem dX0_keepNear_34 : decode cX0_keepNear 34 = .ok (.iload 5, 2) := by decide +kernel
theorem dX0_keepNear_36 : decode cX0_keepNear 36 = .ok (.aload_n 0, 1) := by decide +kernel
theorem dX0_keepNear_37 : decode cX0_keepNear 37 = .ok (.getfield 54, 3) := by decide +kernel
theorem dX0_keepNear_40 : decode cX0_keepNear 40 = .ok (.iload 5, 2) := by decide +kernel
theorem dX0_keepNear_42 : decode cX0_keepNear 42 = .ok (.iconst 1, 1) := by decide +kernel
theorem dX0_keepNear_43 : decode cX0_keepNear 43 = .ok (.isub, 1) := by decide +kernel
theorem dX0_keepNear_44 : decode cX0_keepNear 44 = .ok (.laload, 1) := by decide +kernel
theorem dX0_keepNear_45 : decode cX0_keepNear 45 = .ok (.lastore, 1) := by decide +kernel
theorem dX0_keepNear_46 : decode cX0_keepNear 46 = .ok (.aload_n 0, 1) := by decide +kernel
theorem dX0_keepNear_47 : decode cX0_keepNear 47 = .ok (.getfield 57, 3) := by decide +kernel
theorem dX0_keepNear_50 : decode cX0_keepNear 50 = .ok (.iload 5, 2) := by decide +kernel
theorem dX0_keepNear_52 : decode cX0_keepNear 52 = .ok (.aload_n 0, 1) := by decide +kernel
theorem dX0_keepNear_53 : decode cX0_keepNear 53 = .ok (.getfield 57, 3) := by decide +kernel
theorem dX0_keepNear_56 : decode cX0_keepNear 56 = .ok (.iload 5, 2) := by decide +kernel
theorem dX0_keepNear_58 : decode cX0_keepNear 58 = .ok (.iconst 1, 1) := by decide +kernel
theorem dX0_keepNear_59 : decode cX0_keepNear 59 = .ok (.isub, 1) := by decide +kernel
theorem dX0_keepNear_60 : decode cX0_keepNear 60 = .ok (.iaload, 1) := by decide +kernel
theorem dX0_keepNear_61 : decode cX0_keepNear 61 = .ok (.iastore, 1) := by decide +kernel
theorem dX0_keepNear_62 : decode cX0_keepNear 62 = .ok (.iinc 5 (-1), 3) := by decide +kernel
theorem dX0_keepNear_65 : decode cX0_keepNear 65 = .ok (.goto (-54), 3) := by decide +kernel
theorem dX0_keepNear_68 : decode cX0_keepNear 68 = .ok (.aload_n 0, 1) := by decide +kernel
theorem dX0_keepNear_69 : decode cX0_keepNear 69 = .ok (.getfield 54, 3) := by decide +kernel
theorem dX0_keepNear_72 : decode cX0_keepNear 72 = .ok (.iload 5, 2) := by decide +kernel
theorem dX0_keepNear_74 : decode cX0_keepNear 74 = .ok (.lload_n 2, 1) := by decide +kernel
theorem dX0_keepNear_75 : decode cX0_keepNear 75 = .ok (.lastore, 1) := by decide +kernel
theorem dX0_keepNear_76 : decode cX0_keepNear 76 = .ok (.aload_n 0, 1) := by decide +kernel
theorem dX0_keepNear_77 : decode cX0_keepNear 77 = .ok (.getfield 57, 3) := by decide +kernel
theorem dX0_keepNear_80 : decode cX0_keepNear 80 = .ok (.iload 5, 2) := by decide +kernel
theorem dX0_keepNear_82 : decode cX0_keepNear 82 = .ok (.iload 4, 2) := by decide +kernel
theorem dX0_keepNear_84 : decode cX0_keepNear 84 = .ok (.iastore, 1) := by decide +kernel
theorem dX0_keepNear_85 : decode cX0_keepNear 85 = .ok (.iload_n 1, 1) := by decide +kernel
theorem dX0_keepNear_86 : decode cX0_keepNear 86 = .ok (.iconst 1, 1) := by decide +kernel
theorem dX0_keepNear_87 : decode cX0_keepNear 87 = .ok (.iadd, 1) := by decide +kernel
theorem dX0_keepNear_88 : decode cX0_keepNear 88 = .ok (.ireturn, 1) := by decide +kernel
theorem dX0_leastReachFrom_0 : decode cX0_leastReachFrom 0 = .ok (.iconst 0, 1) := by decide +kernel
theorem dX0_leastReachFrom_1 : decode cX0_leastReachFrom 1 = .ok (.istore_n 3, 1) := by decide +kernel
theorem dX0_leastReachFrom_2 : decode cX0_leastReachFrom 2 = .ok (.iload_n 3, 1) := by decide +kernel
theorem dX0_leastReachFrom_3 : decode cX0_leastReachFrom 3 = .ok (.bipush 120, 2) := by decide +kernel
theorem dX0_leastReachFrom_5 : decode cX0_leastReachFrom 5 = .ok (.if_icmp .ge 25, 3) := by decide +kernel
theorem dX0_leastReachFrom_8 : decode cX0_leastReachFrom 8 = .ok (.aload_n 0, 1) := by decide +kernel
theorem dX0_leastReachFrom_9 : decode cX0_leastReachFrom 9 = .ok (.getfield 60, 3) := by decide +kernel
theorem dX0_leastReachFrom_12 : decode cX0_leastReachFrom 12 = .ok (.iload_n 3, 1) := by decide +kernel
theorem dX0_leastReachFrom_13 : decode cX0_leastReachFrom 13 = .ok (.ldc2_w 198, 3) := by decide +kernel
theorem dX0_leastReachFrom_16 : decode cX0_leastReachFrom 16 = .ok (.lastore, 1) := by decide +kernel
theorem dX0_leastReachFrom_17 : decode cX0_leastReachFrom 17 = .ok (.aload_n 0, 1) := by decide +kernel
theorem dX0_leastReachFrom_18 : decode cX0_leastReachFrom 18 = .ok (.getfield 63, 3) := by decide +kernel
theorem dX0_leastReachFrom_21 : decode cX0_leastReachFrom 21 = .ok (.iload_n 3, 1) := by decide +kernel
theorem dX0_leastReachFrom_22 : decode cX0_leastReachFrom 22 = .ok (.iconst 0, 1) := by decide +kernel
theorem dX0_leastReachFrom_23 : decode cX0_leastReachFrom 23 = .ok (.bastore, 1) := by decide +kernel
theorem dX0_leastReachFrom_24 : decode cX0_leastReachFrom 24 = .ok (.iinc 3 1, 3) := by decide +kernel
theorem dX0_leastReachFrom_27 : decode cX0_leastReachFrom 27 = .ok (.goto (-25), 3) := by decide +kernel
theorem dX0_leastReachFrom_30 : decode cX0_leastReachFrom 30 = .ok (.aload_n 0, 1) := by decide +kernel
theorem dX0_leastReachFrom_31 : decode cX0_leastReachFrom 31 = .ok (.getfield 60, 3) := by decide +kernel
theorem dX0_leastReachFrom_34 : decode cX0_leastReachFrom 34 = .ok (.iload_n 1, 1) := by decide +kernel
theorem dX0_leastReachFrom_35 : decode cX0_leastReachFrom 35 = .ok (.aload_n 0, 1) := by decide +kernel
theorem dX0_leastReachFrom_36 : decode cX0_leastReachFrom 36 = .ok (.getfield 47, 3) := by decide +kernel
theorem dX0_leastReachFrom_39 : decode cX0_leastReachFrom 39 = .ok (.iload_n 1, 1) := by decide +kernel
theorem dX0_leastReachFrom_40 : decode cX0_leastReachFrom 40 = .ok (.laload, 1) := by decide +kernel
theorem dX0_leastReachFrom_41 : decode cX0_leastReachFrom 41 = .ok (.lastore, 1) := by decide +kernel
theorem dX0_leastReachFrom_42 : decode cX0_leastReachFrom 42 = .ok (.iconst 0, 1) := by decide +kernel
theorem dX0_leastReachFrom_43 : decode cX0_leastReachFrom 43 = .ok (.istore_n 3, 1) := by decide +kernel
theorem dX0_leastReachFrom_44 : decode cX0_leastReachFrom 44 = .ok (.iload_n 3, 1) := by decide +kernel
theorem dX0_leastReachFrom_45 : decode cX0_leastReachFrom 45 = .ok (.bipush 120, 2) := by decide +kernel
theorem dX0_leastReachFrom_47 : decode cX0_leastReachFrom 47 = .ok (.if_icmp .ge 52, 3) := by decide +kernel
theorem dX0_leastReachFrom_50 : decode cX0_leastReachFrom 50 = .ok (.aload_n 0, 1) := by decide +kernel
theorem dX0_leastReachFrom_51 : decode cX0_leastReachFrom 51 = .ok (.invokevirtual 200, 3) := by decide +kernel
theorem dX0_leastReachFrom_54 : decode cX0_leastReachFrom 54 = .ok (.istore 4, 2) := by decide +kernel
theorem dX0_leastReachFrom_56 : decode cX0_leastReachFrom 56 = .ok (.iload 4, 2) := by decide +kernel
theorem dX0_leastReachFrom_58 : decode cX0_leastReachFrom 58 = .ok (.iconst (-1), 1) := by decide +kernel
theorem dX0_leastReachFrom_59 : decode cX0_leastReachFrom 59 = .ok (.if_icmp .ne 7, 3) := by decide +kernel
theorem dX0_leastReachFrom_62 : decode cX0_leastReachFrom 62 = .ok (.ldc2_w 88, 3) := by decide +kernel
theorem dX0_leastReachFrom_65 : decode cX0_leastReachFrom 65 = .ok (.lreturn, 1) := by decide +kernel
theorem dX0_leastReachFrom_66 : decode cX0_leastReachFrom 66 = .ok (.iload 4, 2) := by decide +kernel
theorem dX0_leastReachFrom_68 : decode cX0_leastReachFrom 68 = .ok (.iload_n 2, 1) := by decide +kernel
theorem dX0_leastReachFrom_69 : decode cX0_leastReachFrom 69 = .ok (.if_icmp .ne 10, 3) := by decide +kernel
theorem dX0_leastReachFrom_72 : decode cX0_leastReachFrom 72 = .ok (.aload_n 0, 1) := by decide +kernel
theorem dX0_leastReachFrom_73 : decode cX0_leastReachFrom 73 = .ok (.getfield 60, 3) := by decide +kernel
theorem dX0_leastReachFrom_76 : decode cX0_leastReachFrom 76 = .ok (.iload_n 2, 1) := by decide +kernel
theorem dX0_leastReachFrom_77 : decode cX0_leastReachFrom 77 = .ok (.laload, 1) := by decide +kernel
theorem dX0_leastReachFrom_78 : decode cX0_leastReachFrom 78 = .ok (.lreturn, 1) := by decide +kernel
theorem dX0_leastReachFrom_79 : decode cX0_leastReachFrom 79 = .ok (.aload_n 0, 1) := by decide +kernel
theorem dX0_leastReachFrom_80 : decode cX0_leastReachFrom 80 = .ok (.getfield 63, 3) := by decide +kernel
theorem dX0_leastReachFrom_83 : decode cX0_leastReachFrom 83 = .ok (.iload 4, 2) := by decide +kernel
theorem dX0_leastReachFrom_85 : decode cX0_leastReachFrom 85 = .ok (.iconst 1, 1) := by decide +kernel
theorem dX0_leastReachFrom_86 : decode cX0_leastReachFrom 86 = .ok (.bastore, 1) := by decide +kernel
theorem dX0_leastReachFrom_87 : decode cX0_leastReachFrom 87 = .ok (.aload_n 0, 1) := by decide +kernel
theorem dX0_leastReachFrom_88 : decode cX0_leastReachFrom 88 = .ok (.iload 4, 2) := by decide +kernel
theorem dX0_leastReachFrom_90 : decode cX0_leastReachFrom 90 = .ok (.invokevirtual 203, 3) := by decide +kernel
theorem dX0_leastReachFrom_93 : decode cX0_leastReachFrom 93 = .ok (.iinc 3 1, 3) := by decide +kernel
theorem dX0_leastReachFrom_96 : decode cX0_leastReachFrom 96 = .ok (.goto (-52), 3) := by decide +kernel
theorem dX0_leastReachFrom_99 : decode cX0_leastReachFrom 99 = .ok (.ldc2_w 88, 3) := by decide +kernel
theorem dX0_leastReachFrom_102 : decode cX0_leastReachFrom 102 = .ok (.lreturn, 1) := by decide +kernel
theorem dX0_cheapestUnsettled_0 : decode cX0_cheapestUnsettled 0 = .ok (.iconst (-1), 1) := by decide +kernel
theorem dX0_cheapestUnsettled_1 : decode cX0_cheapestUnsettled 1 = .ok (.istore_n 1, 1) := by decide +kernel
theorem dX0_cheapestUnsettled_2 : decode cX0_cheapestUnsettled 2 = .ok (.iconst 0, 1) := by decide +kernel
theorem dX0_cheapestUnsettled_3 : decode cX0_cheapestUnsettled 3 = .ok (.istore_n 2, 1) := by decide +kernel
theorem dX0_cheapestUnsettled_4 : decode cX0_cheapestUnsettled 4 = .ok (.iload_n 2, 1) := by decide +kernel
theorem dX0_cheapestUnsettled_5 : decode cX0_cheapestUnsettled 5 = .ok (.bipush 120, 2) := by decide +kernel
theorem dX0_cheapestUnsettled_7 : decode cX0_cheapestUnsettled 7 = .ok (.if_icmp .ge 50, 3) := by decide +kernel
theorem dX0_cheapestUnsettled_10 : decode cX0_cheapestUnsettled 10 = .ok (.aload_n 0, 1) := by decide +kernel
theorem dX0_cheapestUnsettled_11 : decode cX0_cheapestUnsettled 11 = .ok (.getfield 9, 3) := by decide +kernel
theorem dX0_cheapestUnsettled_14 : decode cX0_cheapestUnsettled 14 = .ok (.iload_n 2, 1) := by decide +kernel
theorem dX0_cheapestUnsettled_15 : decode cX0_cheapestUnsettled 15 = .ok (.iaload, 1) := by decide +kernel
theorem dX0_cheapestUnsettled_16 : decode cX0_cheapestUnsettled 16 = .ok (.ifCond .le 35, 3) := by decide +kernel
theorem dX0_cheapestUnsettled_19 : decode cX0_cheapestUnsettled 19 = .ok (.aload_n 0, 1) := by decide +kernel
theorem dX0_cheapestUnsettled_20 : decode cX0_cheapestUnsettled 20 = .ok (.getfield 63, 3) := by decide +kernel
theorem dX0_cheapestUnsettled_23 : decode cX0_cheapestUnsettled 23 = .ok (.iload_n 2, 1) := by decide +kernel
theorem dX0_cheapestUnsettled_24 : decode cX0_cheapestUnsettled 24 = .ok (.baload, 1) := by decide +kernel
theorem dX0_cheapestUnsettled_25 : decode cX0_cheapestUnsettled 25 = .ok (.ifCond .ne 26, 3) := by decide +kernel
theorem dX0_cheapestUnsettled_28 : decode cX0_cheapestUnsettled 28 = .ok (.iload_n 1, 1) := by decide +kernel
theorem dX0_cheapestUnsettled_29 : decode cX0_cheapestUnsettled 29 = .ok (.iconst (-1), 1) := by decide +kernel
theorem dX0_cheapestUnsettled_30 : decode cX0_cheapestUnsettled 30 = .ok (.if_icmp .eq 19, 3) := by decide +kernel
theorem dX0_cheapestUnsettled_33 : decode cX0_cheapestUnsettled 33 = .ok (.aload_n 0, 1) := by decide +kernel
theorem dX0_cheapestUnsettled_34 : decode cX0_cheapestUnsettled 34 = .ok (.getfield 60, 3) := by decide +kernel
theorem dX0_cheapestUnsettled_37 : decode cX0_cheapestUnsettled 37 = .ok (.iload_n 2, 1) := by decide +kernel
theorem dX0_cheapestUnsettled_38 : decode cX0_cheapestUnsettled 38 = .ok (.laload, 1) := by decide +kernel
theorem dX0_cheapestUnsettled_39 : decode cX0_cheapestUnsettled 39 = .ok (.aload_n 0, 1) := by decide +kernel
theorem dX0_cheapestUnsettled_40 : decode cX0_cheapestUnsettled 40 = .ok (.getfield 60, 3) := by decide +kernel
theorem dX0_cheapestUnsettled_43 : decode cX0_cheapestUnsettled 43 = .ok (.iload_n 1, 1) := by decide +kernel
theorem dX0_cheapestUnsettled_44 : decode cX0_cheapestUnsettled 44 = .ok (.laload, 1) := by decide +kernel
theorem dX0_cheapestUnsettled_45 : decode cX0_cheapestUnsettled 45 = .ok (.lcmp, 1) := by decide +kernel
theorem dX0_cheapestUnsettled_46 : decode cX0_cheapestUnsettled 46 = .ok (.ifCond .ge 5, 3) := by decide +kernel
theorem dX0_cheapestUnsettled_49 : decode cX0_cheapestUnsettled 49 = .ok (.iload_n 2, 1) := by decide +kernel
theorem dX0_cheapestUnsettled_50 : decode cX0_cheapestUnsettled 50 = .ok (.istore_n 1, 1) := by decide +kernel
theorem dX0_cheapestUnsettled_51 : decode cX0_cheapestUnsettled 51 = .ok (.iinc 2 1, 3) := by decide +kernel
theorem dX0_cheapestUnsettled_54 : decode cX0_cheapestUnsettled 54 = .ok (.goto (-50), 3) := by decide +kernel
theorem dX0_cheapestUnsettled_57 : decode cX0_cheapestUnsettled 57 = .ok (.iload_n 1, 1) := by decide +kernel
theorem dX0_cheapestUnsettled_58 : decode cX0_cheapestUnsettled 58 = .ok (.ireturn, 1) := by decide +kernel
theorem dX0_reachOnFrom_0 : decode cX0_reachOnFrom 0 = .ok (.iconst 0, 1) := by decide +kernel
theorem dX0_reachOnFrom_1 : decode cX0_reachOnFrom 1 = .ok (.istore_n 2, 1) := by decide +kernel
theorem dX0_reachOnFrom_2 : decode cX0_reachOnFrom 2 = .ok (.iload_n 2, 1) := by decide +kernel
theorem dX0_reachOnFrom_3 : decode cX0_reachOnFrom 3 = .ok (.bipush 120, 2) := by decide +kernel
theorem dX0_reachOnFrom_5 : decode cX0_reachOnFrom 5 = .ok (.if_icmp .ge 68, 3) := by decide +kernel
theorem dX0_reachOnFrom_8 : decode cX0_reachOnFrom 8 = .ok (.aload_n 0, 1) := by decide +kernel
theorem dX0_reachOnFrom_9 : decode cX0_reachOnFrom 9 = .ok (.getfield 9, 3) := by decide +kernel
theorem dX0_reachOnFrom_12 : decode cX0_reachOnFrom 12 = .ok (.iload_n 2, 1) := by decide +kernel
theorem dX0_reachOnFrom_13 : decode cX0_reachOnFrom 13 = .ok (.iaload, 1) := by decide +kernel
theorem dX0_reachOnFrom_14 : decode cX0_reachOnFrom 14 = .ok (.ifCond .le 53, 3) := by decide +kernel
theorem dX0_reachOnFrom_17 : decode cX0_reachOnFrom 17 = .ok (.aload_n 0, 1) := by decide +kernel
theorem dX0_reachOnFrom_18 : decode cX0_reachOnFrom 18 = .ok (.getfield 63, 3) := by decide +kernel
theorem dX0_reachOnFrom_21 : decode cX0_reachOnFrom 21 = .ok (.iload_n 2, 1) := by decide +kernel
theorem dX0_reachOnFrom_22 : decode cX0_reachOnFrom 22 = .ok (.baload, 1) := by decide +kernel
theorem dX0_reachOnFrom_23 : decode cX0_reachOnFrom 23 = .ok (.ifCond .ne 44, 3) := by decide +kernel
theorem dX0_reachOnFrom_26 : decode cX0_reachOnFrom 26 = .ok (.aload_n 0, 1) := by decide +kernel
theorem dX0_reachOnFrom_27 : decode cX0_reachOnFrom 27 = .ok (.getfield 60, 3) := by decide +kernel
theorem dX0_reachOnFrom_30 : decode cX0_reachOnFrom 30 = .ok (.iload_n 1, 1) := by decide +kernel
theorem dX0_reachOnFrom_31 : decode cX0_reachOnFrom 31 = .ok (.laload, 1) := by decide +kernel
theorem dX0_reachOnFrom_32 : decode cX0_reachOnFrom 32 = .ok (.aload_n 0, 1) := by decide +kernel
theorem dX0_reachOnFrom_33 : decode cX0_reachOnFrom 33 = .ok (.getfield 47, 3) := by decide +kernel
theorem dX0_reachOnFrom_36 : decode cX0_reachOnFrom 36 = .ok (.iload_n 2, 1) := by decide +kernel
theorem dX0_reachOnFrom_37 : decode cX0_reachOnFrom 37 = .ok (.laload, 1) := by decide +kernel
theorem dX0_reachOnFrom_38 : decode cX0_reachOnFrom 38 = .ok (.invokestatic 160, 3) := by decide +kernel
theorem dX0_reachOnFrom_41 : decode cX0_reachOnFrom 41 = .ok (.lstore_n 3, 1) := by decide +kernel
theorem dX0_reachOnFrom_42 : decode cX0_reachOnFrom 42 = .ok (.aload_n 0, 1) := by decide +kernel
theorem dX0_reachOnFrom_43 : decode cX0_reachOnFrom 43 = .ok (.getfield 60, 3) := by decide +kernel
theorem dX0_reachOnFrom_46 : decode cX0_reachOnFrom 46 = .ok (.iload_n 2, 1) := by decide +kernel
theorem dX0_reachOnFrom_47 : decode cX0_reachOnFrom 47 = .ok (.aload_n 0, 1) := by decide +kernel
theorem dX0_reachOnFrom_48 : decode cX0_reachOnFrom 48 = .ok (.getfield 60, 3) := by decide +kernel
theorem dX0_reachOnFrom_51 : decode cX0_reachOnFrom 51 = .ok (.iload_n 2, 1) := by decide +kernel
theorem dX0_reachOnFrom_52 : decode cX0_reachOnFrom 52 = .ok (.laload, 1) := by decide +kernel
theorem dX0_reachOnFrom_53 : decode cX0_reachOnFrom 53 = .ok (.lload_n 3, 1) := by decide +kernel
theorem dX0_reachOnFrom_54 : decode cX0_reachOnFrom 54 = .ok (.aload_n 0, 1) := by decide +kernel
theorem dX0_reachOnFrom_55 : decode cX0_reachOnFrom 55 = .ok (.iload_n 1, 1) := by decide +kernel
theorem dX0_reachOnFrom_56 : decode cX0_reachOnFrom 56 = .ok (.iload_n 2, 1) := by decide +kernel
theorem dX0_reachOnFrom_57 : decode cX0_reachOnFrom 57 = .ok (.invokevirtual 90, 3) := by decide +kernel
theorem dX0_reachOnFrom_60 : decode cX0_reachOnFrom 60 = .ok (.invokestatic 160, 3) := by decide +kernel
theorem dX0_reachOnFrom_63 : decode cX0_reachOnFrom 63 = .ok (.invokestatic 207, 3) := by decide +kernel
theorem dX0_reachOnFrom_66 : decode cX0_reachOnFrom 66 = .ok (.lastore, 1) := by decide +kernel
theorem dX0_reachOnFrom_67 : decode cX0_reachOnFrom 67 = .ok (.iinc 2 1, 3) := by decide +kernel
theorem dX0_reachOnFrom_70 : decode cX0_reachOnFrom 70 = .ok (.goto (-68), 3) := by decide +kernel
theorem dX0_reachOnFrom_73 : decode cX0_reachOnFrom 73 = .ok (.return_, 1) := by decide +kernel
end
section
theorem dX1_init_0 : decode cX1_init 0 = .ok (.aload_n 0, 1) := by decide +kernel
theorem dX1_init_1 : decode cX1_init 1 = .ok (.invokespecial 1, 3) := by decide +kernel
theorem dX1_init_4 : decode cX1_init 4 = .ok (.aload_n 0, 1) := by decide +kernel
theorem dX1_init_5 : decode cX1_init 5 = .ok (.bipush 120, 2) := by decide +kernel
theorem dX1_init_7 : decode cX1_init 7 = .ok (.newarray .boolean, 2) := by decide +kernel
theorem dX1_init_9 : decode cX1_init 9 = .ok (.putfield 7, 3) := by decide +kernel
theorem dX1_init_12 : decode cX1_init 12 = .ok (.aload_n 0, 1) := by decide +kernel
theorem dX1_init_13 : decode cX1_init 13 = .ok (.bipush 120, 2) := by decide +kernel
theorem dX1_init_15 : decode cX1_init 15 = .ok (.newarray .int, 2) := by decide +kernel
theorem dX1_init_17 : decode cX1_init 17 = .ok (.putfield 13, 3) := by decide +kernel
theorem dX1_init_20 : decode cX1_init 20 = .ok (.aload_n 0, 1) := by decide +kernel
theorem dX1_init_21 : decode cX1_init 21 = .ok (.bipush 120, 2) := by decide +kernel
theorem dX1_init_23 : decode cX1_init 23 = .ok (.newarray .int, 2) := by decide +kernel
theorem dX1_init_25 : decode cX1_init 25 = .ok (.putfield 17, 3) := by decide +kernel
theorem dX1_init_28 : decode cX1_init 28 = .ok (.aload_n 0, 1) := by decide +kernel
theorem dX1_init_29 : decode cX1_init 29 = .ok (.bipush 120, 2) := by decide +kernel
theorem dX1_init_31 : decode cX1_init 31 = .ok (.newarray .int, 2) := by decide +kernel
theorem dX1_init_33 : decode cX1_init 33 = .ok (.putfield 20, 3) := by decide +kernel
theorem dX1_init_36 : decode cX1_init 36 = .ok (.aload_n 0, 1) := by decide +kernel
theorem dX1_init_37 : decode cX1_init 37 = .ok (.iconst 1, 1) := by decide +kernel
theorem dX1_init_38 : decode cX1_init 38 = .ok (.putfield 23, 3) := by decide +kernel
theorem dX1_init_41 : decode cX1_init 41 = .ok (.aload_n 0, 1) := by decide +kernel
theorem dX1_init_42 : decode cX1_init 42 = .ok (.bipush 120, 2) := by decide +kernel
theorem dX1_init_44 : decode cX1_init 44 = .ok (.newarray .boolean, 2) := by decide +kernel
theorem dX1_init_46 : decode cX1_init 46 = .ok (.putfield 27, 3) := by decide +kernel
theorem dX1_init_49 : decode cX1_init 49 = .ok (.aload_n 0, 1) := by decide +kernel
theorem dX1_init_50 : decode cX1_init 50 = .ok (.bipush 120, 2) := by decide +kernel
theorem dX1_init_52 : decode cX1_init 52 = .ok (.newarray .int, 2) := by decide +kernel
theorem dX1_init_54 : decode cX1_init 54 = .ok (.putfield 30, 3) := by decide +kernel
theorem dX1_init_57 : decode cX1_init 57 = .ok (.aload_n 0, 1) := by decide +kernel
theorem dX1_init_58 : decode cX1_init 58 = .ok (.bipush 120, 2) := by decide +kernel
theorem dX1_init_60 : decode cX1_init 60 = .ok (.newarray .boolean, 2) := by decide +kernel
theorem dX1_init_62 : decode cX1_init 62 = .ok (.putfield 33, 3) := by decide +kernel
theorem dX1_init_65 : decode cX1_init 65 = .ok (.aload_n 0, 1) := by decide +kernel
theorem dX1_init_66 : decode cX1_init 66 = .ok (.bipush 120, 2) := by decide +kernel
theorem dX1_init_68 : decode cX1_init 68 = .ok (.newarray .long, 2) := by decide +kernel
theorem dX1_init_70 : decode cX1_init 70 = .ok (.putfield 36, 3) := by decide +kernel
theorem dX1_init_73 : decode cX1_init 73 = .ok (.aload_n 0, 1) := by decide +kernel
theorem dX1_init_74 : decode cX1_init 74 = .ok (.bipush 120, 2) := by decide +kernel
theorem dX1_init_76 : decode cX1_init 76 = .ok (.newarray .long, 2) := by decide +kernel
theorem dX1_init_78 : decode cX1_init 78 = .ok (.putfield 40, 3) := by decide +kernel
theorem dX1_init_81 : decode cX1_init 81 = .ok (.return_, 1) := by decide +kernel
theorem dX1_isPlace_0 : decode cX1_isPlace 0 = .ok (.iload_n 0, 1) := by decide +kernel
theorem dX1_isPlace_1 : decode cX1_isPlace 1 = .ok (.ldc 43, 2) := by decide +kernel
theorem dX1_isPlace_3 : decode cX1_isPlace 3 = .ok (.if_icmp .lt 25, 3) := by decide +kernel
theorem dX1_isPlace_6 : decode cX1_isPlace 6 = .ok (.iload_n 0, 1) := by decide +kernel
theorem dX1_isPlace_7 : decode cX1_isPlace 7 = .ok (.ldc 44, 2) := by decide +kernel
theorem dX1_isPlace_9 : decode cX1_isPlace 9 = .ok (.if_icmp .gt 19, 3) := by decide +kernel
theorem dX1_isPlace_12 : decode cX1_isPlace 12 = .ok (.iload_n 1, 1) := by decide +kernel
theorem dX1_isPlace_13 : decode cX1_isPlace 13 = .ok (.ldc 43, 2) := by decide +kernel
theorem dX1_isPlace_15 : decode cX1_isPlace 15 = .ok (.if_icmp .lt 13, 3) := by decide +kernel
theorem dX1_isPlace_18 : decode cX1_isPlace 18 = .ok (.iload_n 1, 1) := by decide +kernel
theorem dX1_isPlace_19 : decode cX1_isPlace 19 = .ok (.ldc 44, 2) := by decide +kernel
theorem dX1_isPlace_21 : decode cX1_isPlace 21 = .ok (.if_icmp .gt 7, 3) := by decide +kernel
theorem dX1_isPlace_24 : decode cX1_isPlace 24 = .ok (.iconst 1, 1) := by decide +kernel
theorem dX1_isPlace_25 : decode cX1_isPlace 25 = .ok (.goto 4, 3) := by decide +kernel
theorem dX1_isPlace_28 : decode cX1_isPlace 28 = .ok (.iconst 0, 1) := by decide +kernel
theorem dX1_isPlace_29 : decode cX1_isPlace 29 = .ok (.ireturn, 1) := by decide +kernel
theorem dX1_isPoint_0 : decode cX1_isPoint 0 = .ok (.iload_n 1, 1) := by decide +kernel
theorem dX1_isPoint_1 : decode cX1_isPoint 1 = .ok (.ifCond .lt 22, 3) := by decide +kernel
theorem dX1_isPoint_4 : decode cX1_isPoint 4 = .ok (.iload_n 1, 1) := by decide +kernel
theorem dX1_isPoint_5 : decode cX1_isPoint 5 = .ok (.bipush 120, 2) := by decide +kernel
theorem dX1_isPoint_7 : decode cX1_isPoint 7 = .ok (.if_icmp .ge 16, 3) := by decide +kernel
theorem dX1_isPoint_10 : decode cX1_isPoint 10 = .ok (.aload_n 0, 1) := by decide +kernel
theorem dX1_isPoint_11 : decode cX1_isPoint 11 = .ok (.getfield 7, 3) := by decide +kernel
theorem dX1_isPoint_14 : decode cX1_isPoint 14 = .ok (.iload_n 1, 1) := by decide +kernel
theorem dX1_isPoint_15 : decode cX1_isPoint 15 = .ok (.baload, 1) := by decide +kernel
theorem dX1_isPoint_16 : decode cX1_isPoint 16 = .ok (.ifCond .eq 7, 3) := by decide +kernel
theorem dX1_isPoint_19 : decode cX1_isPoint 19 = .ok (.iconst 1, 1) := by decide +kernel
theorem dX1_isPoint_20 : decode cX1_isPoint 20 = .ok (.goto 4, 3) := by decide +kernel
theorem dX1_isPoint_23 : decode cX1_isPoint 23 = .ok (.iconst 0, 1) := by decide +kernel
theorem dX1_isPoint_24 : decode cX1_isPoint 24 = .ok (.ireturn, 1) := by decide +kernel
theorem dX1_point_0 : decode cX1_point 0 = .ok (.iconst 0, 1) := by decide +kernel
theorem dX1_point_1 : decode cX1_point 1 = .ok (.istore 4, 2) := by decide +kernel
theorem dX1_point_3 : decode cX1_point 3 = .ok (.iload 4, 2) := by decide +kernel
theorem dX1_point_5 : decode cX1_point 5 = .ok (.bipush 120, 2) := by decide +kernel
theorem dX1_point_7 : decode cX1_point 7 = .ok (.if_icmp .ge 19, 3) := by decide +kernel
theorem dX1_point_10 : decode cX1_point 10 = .ok (.aload_n 0, 1) := by decide +kernel
theorem dX1_point_11 : decode cX1_point 11 = .ok (.getfield 7, 3) := by decide +kernel
theorem dX1_point_14 : decode cX1_point 14 = .ok (.iload 4, 2) := by decide +kernel
theorem dX1_point_16 : decode cX1_point 16 = .ok (.baload, 1) := by decide +kernel
theorem dX1_point_17 : decode cX1_point 17 = .ok (.ifCond .eq 9, 3) := by decide +kernel
theorem dX1_point_20 : decode cX1_point 20 = .ok (.iinc 4 1, 3) := by decide +kernel
theorem dX1_point_23 : decode cX1_point 23 = .ok (.goto (-20), 3) := by decide +kernel
theorem dX1_point_26 : decode cX1_point 26 = .ok (.iload 4, 2) := by decide +kernel
theorem dX1_point_28 : decode cX1_point 28 = .ok (.bipush 120, 2) := by decide +kernel
theorem dX1_point_30 : decode cX1_point 30 = .ok (.if_icmp .eq 22, 3) := by decide +kernel
theorem dX1_point_33 : decode cX1_point 33 = .ok (.iload_n 1, 1) := by decide +kernel
theorem dX1_point_34 : decode cX1_point 34 = .ok (.iload_n 2, 1) := by decide +kernel
theorem dX1_point_35 : decode cX1_point 35 = .ok (.invokestatic 45, 3) := by decide +kernel
theorem dX1_point_38 : decode cX1_point 38 = .ok (.ifCond .eq 14, 3) := by decide +kernel
theorem dX1_point_41 : decode cX1_point 41 = .ok (.iload_n 3, 1) := by decide +kernel
theorem dX1_point_42 : decode cX1_point 42 = .ok (.iconst 1, 1) := by decide +kernel
theorem dX1_point_43 : decode cX1_point 43 = .ok (.if_icmp .lt 9, 3) := by decide +kernel
theorem dX1_point_46 : decode cX1_point 46 = .ok (.iload_n 3, 1) := by decide +kernel
theorem dX1_point_47 : decode cX1_point 47 = .ok (.bipush 20, 2) := by decide +kernel
theorem dX1_point_49 : decode cX1_point 49 = .ok (.if_icmp .le 5, 3) := by decide +kernel
theorem dX1_point_52 : decode cX1_point 52 = .ok (.iconst (-1), 1) := by decide +kernel
theorem dX1_point_53 : decode cX1_point 53 = .ok (.ireturn, 1) := by decide +kernel
theorem dX1_point_54 : decode cX1_point 54 = .ok (.aload_n 0, 1) := by decide +kernel
theorem dX1_point_55 : decode cX1_point 55 = .ok (.getfield 7, 3) := by decide +kernel
theorem dX1_point_58 : decode cX1_point 58 = .ok (.iload 4, 2) := by decide +kernel
theorem dX1_point_60 : decode cX1_point 60 = .ok (.iconst 1, 1) := by decide +kernel
theorem dX1_point_61 : decode cX1_point 61 = .ok (.bastore, 1) := by decide +kernel
theorem dX1_point_62 : decode cX1_point 62 = .ok (.aload_n 0, 1) := by decide +kernel
theorem dX1_point_63 : decode cX1_point 63 = .ok (.getfield 13, 3) := by decide +kernel
theorem dX1_point_66 : decode cX1_point 66 = .ok (.iload 4, 2) := by decide +kernel
theorem dX1_point_68 : decode cX1_point 68 = .ok (.iload_n 1, 1) := by decide +kernel
theorem dX1_point_69 : decode cX1_point 69 = .ok (.iastore, 1) := by decide +kernel
theorem dX1_point_70 : decode cX1_point 70 = .ok (.aload_n 0, 1) := by decide +kernel
theorem dX1_point_71 : decode cX1_point 71 = .ok (.getfield 17, 3) := by decide +kernel
theorem dX1_point_74 : decode cX1_point 74 = .ok (.iload 4, 2) := by decide +kernel
theorem dX1_point_76 : decode cX1_point 76 = .ok (.iload_n 2, 1) := by decide +kernel
theorem dX1_point_77 : decode cX1_point 77 = .ok (.iastore, 1) := by decide +kernel
theorem dX1_point_78 : decode cX1_point 78 = .ok (.aload_n 0, 1) := by decide +kernel
theorem dX1_point_79 : decode cX1_point 79 = .ok (.getfield 20, 3) := by decide +kernel
theorem dX1_point_82 : decode cX1_point 82 = .ok (.iload 4, 2) := by decide +kernel
theorem dX1_point_84 : decode cX1_point 84 = .ok (.iload_n 3, 1) := by decide +kernel
theorem dX1_point_85 : decode cX1_point 85 = .ok (.iastore, 1) := by decide +kernel
theorem dX1_point_86 : decode cX1_point 86 = .ok (.iload 4, 2) := by decide +kernel
theorem dX1_point_88 : decode cX1_point 88 = .ok (.ireturn, 1) := by decide +kernel
theorem dX1_points_0 : decode cX1_points 0 = .ok (.iconst 0, 1) := by decide +kernel
theorem dX1_points_1 : decode cX1_points 1 = .ok (.istore_n 1, 1) := by decide +kernel
theorem dX1_points_2 : decode cX1_points 2 = .ok (.iconst 0, 1) := by decide +kernel
theorem dX1_points_3 : decode cX1_points 3 = .ok (.istore_n 2, 1) := by decide +kernel
theorem dX1_points_4 : decode cX1_points 4 = .ok (.iload_n 2, 1) := by decide +kernel
theorem dX1_points_5 : decode cX1_points 5 = .ok (.bipush 120, 2) := by decide +kernel
theorem dX1_points_7 : decode cX1_points 7 = .ok (.if_icmp .ge 26, 3) := by decide +kernel
theorem dX1_points_10 : decode cX1_points 10 = .ok (.iload_n 1, 1) := by decide +kernel
theorem dX1_points_11 : decode cX1_points 11 = .ok (.aload_n 0, 1) := by decide +kernel
theorem dX1_points_12 : decode cX1_points 12 = .ok (.getfield 7, 3) := by decide +kernel
theorem dX1_points_15 : decode cX1_points 15 = .ok (.iload_n 2, 1) := by decide +kernel
theorem dX1_points_16 : decode cX1_points 16 = .ok (.baload, 1) := by decide +kernel
theorem dX1_points_17 : decode cX1_points 17 = .ok (.ifCond .eq 7, 3) := by decide +kernel
theorem dX1_points_20 : decode cX1_points 20 = .ok (.iconst 1, 1) := by decide +kernel
theorem dX1_points_21 : decode cX1_points 21 = .ok (.goto 4, 3) := by decide +kernel
theorem dX1_points_24 : decode cX1_points 24 = .ok (.iconst 0, 1) := by decide +kernel
theorem dX1_points_25 : decode cX1_points 25 = .ok (.iadd, 1) := by decide +kernel
theorem dX1_points_26 : decode cX1_points 26 = .ok (.istore_n 1, 1) := by decide +kernel
theorem dX1_points_27 : decode cX1_points 27 = .ok (.iinc 2 1, 3) := by decide +kernel
theorem dX1_points_30 : decode cX1_points 30 = .ok (.goto (-26), 3) := by decide +kernel
theorem dX1_points_33 : decode cX1_points 33 = .ok (.iload_n 1, 1) := by decide +kernel
theorem dX1_points_34 : decode cX1_points 34 = .ok (.ireturn, 1) := by decide +kernel
theorem dX1_remove_0 : decode cX1_remove 0 = .ok (.aload_n 0, 1) := by decide +kernel
theorem dX1_remove_1 : decode cX1_remove 1 = .ok (.iload_n 1, 1) := by decide +kernel
theorem dX1_remove_2 : decode cX1_remove 2 = .ok (.invokevirtual 49, 3) := by decide +kernel
theorem dX1_remove_5 : decode cX1_remove 5 = .ok (.ifCond .ne 5, 3) := by decide +kernel
theorem dX1_remove_8 : decode cX1_remove 8 = .ok (.iconst (-1), 1) := by decide +kernel
theorem dX1_remove_9 : decode cX1_remove 9 = .ok (.ireturn, 1) := by decide +kernel
theorem dX1_remove_10 : decode cX1_remove 10 = .ok (.aload_n 0, 1) := by decide +kernel
theorem dX1_remove_11 : decode cX1_remove 11 = .ok (.getfield 7, 3) := by decide +kernel
theorem dX1_remove_14 : decode cX1_remove 14 = .ok (.iload_n 1, 1) := by decide +kernel
theorem dX1_remove_15 : decode cX1_remove 15 = .ok (.iconst 0, 1) := by decide +kernel
theorem dX1_remove_16 : decode cX1_remove 16 = .ok (.bastore, 1) := by decide +kernel
theorem dX1_remove_17 : decode cX1_remove 17 = .ok (.aload_n 0, 1) := by decide +kernel
theorem dX1_remove_18 : decode cX1_remove 18 = .ok (.invokevirtual 53, 3) := by decide +kernel
theorem dX1_remove_21 : decode cX1_remove 21 = .ok (.ireturn, 1) := by decide +kernel
theorem dX1_move_0 : decode cX1_move 0 = .ok (.aload_n 0, 1) := by decide +kernel
theorem dX1_move_1 : decode cX1_move 1 = .ok (.iload_n 1, 1) := by decide +kernel
theorem dX1_move_2 : decode cX1_move 2 = .ok (.invokevirtual 49, 3) := by decide +kernel
theorem dX1_move_5 : decode cX1_move 5 = .ok (.ifCond .eq 11, 3) := by decide +kernel
theorem dX1_move_8 : decode cX1_move 8 = .ok (.iload_n 2, 1) := by decide +kernel
theorem dX1_move_9 : decode cX1_move 9 = .ok (.iload_n 3, 1) := by decide +kernel
theorem dX1_move_10 : decode cX1_move 10 = .ok (.invokestatic 45, 3) := by decide +kernel
theorem dX1_move_13 : decode cX1_move 13 = .ok (.ifCond .ne 5, 3) := by decide +kernel
theorem dX1_move_16 : decode cX1_move 16 = .ok (.iconst 0, 1) := by decide +kernel
theorem dX1_move_17 : decode cX1_move 17 = .ok (.ireturn, 1) := by decide +kernel
theorem dX1_move_18 : decode cX1_move 18 = .ok (.aload_n 0, 1) := by decide +kernel
theorem dX1_move_19 : decode cX1_move 19 = .ok (.getfield 13, 3) := by decide +kernel
theorem dX1_move_22 : decode cX1_move 22 = .ok (.iload_n 1, 1) := by decide +kernel
theorem dX1_move_23 : decode cX1_move 23 = .ok (.iload_n 2, 1) := by decide +kernel
theorem dX1_move_24 : decode cX1_move 24 = .ok (.iastore, 1) := by decide +kernel
theorem dX1_move_25 : decode cX1_move 25 = .ok (.aload_n 0, 1) := by decide +kernel
theorem dX1_move_26 : decode cX1_move 26 = .ok (.getfield 17, 3) := by decide +kernel
theorem dX1_move_29 : decode cX1_move 29 = .ok (.iload_n 1, 1) := by decide +kernel
theorem dX1_move_30 : decode cX1_move 30 = .ok (.iload_n 3, 1) := by decide +kernel
theorem dX1_move_31 : decode cX1_move 31 = .ok (.iastore, 1) := by decide +kernel
theorem dX1_move_32 : decode cX1_move 32 = .ok (.iconst 1, 1) := by decide +kernel
theorem dX1_move_33 : decode cX1_move 33 = .ok (.ireturn, 1) := by decide +kernel
theorem dX1_way_0 : decode cX1_way 0 = .ok (.iload_n 1, 1) := by decide +kernel
theorem dX1_way_1 : decode cX1_way 1 = .ok (.ifCond .lt 8, 3) := by decide +kernel
theorem dX1_way_4 : decode cX1_way 4 = .ok (.iload_n 1, 1) := by decide +kernel
theorem dX1_way_5 : decode cX1_way 5 = .ok (.iconst 2, 1) := by decide +kernel
theorem dX1_way_6 : decode cX1_way 6 = .ok (.if_icmp .le 5, 3) := by decide +kernel
theorem dX1_way_9 : decode cX1_way 9 = .ok (.iconst 0, 1) := by decide +kernel
theorem dX1_way_10 : decode cX1_way 10 = .ok (.ireturn, 1) := by decide +kernel
theorem dX1_way_11 : decode cX1_way 11 = .ok (.aload_n 0, 1) := by decide +kernel
theorem dX1_way_12 : decode cX1_way 12 = .ok (.iload_n 1, 1) := by decide +kernel
theorem dX1_way_13 : decode cX1_way 13 = .ok (.putfield 57, 3) := by decide +kernel
theorem dX1_way_16 : decode cX1_way 16 = .ok (.iconst 1, 1) := by decide +kernel
theorem dX1_way_17 : decode cX1_way 17 = .ok (.ireturn, 1) := by decide +kernel
theorem dX1_reach_0 : decode cX1_reach 0 = .ok (.lload_n 1, 1) := by decide +kernel
theorem dX1_reach_1 : decode cX1_reach 1 = .ok (.lconst 0, 1) := by decide +kernel
theorem dX1_reach_2 : decode cX1_reach 2 = .ok (.lcmp, 1) := by decide +kernel
theorem dX1_reach_3 : decode cX1_reach 3 = .ok (.ifCond .ge 5, 3) := by decide +kernel
theorem dX1_reach_6 : decode cX1_reach 6 = .ok (.iconst 0, 1) := by decide +kernel
theorem dX1_reach_7 : decode cX1_reach 7 = .ok (.ireturn, 1) := by decide +kernel
theorem dX1_reach_8 : decode cX1_reach 8 = .ok (.aload_n 0, 1) := by decide +kernel
theorem dX1_reach_9 : decode cX1_reach 9 = .ok (.lload_n 1, 1) := by decide +kernel
theorem dX1_reach_10 : decode cX1_reach 10 = .ok (.putfield 60, 3) := by decide +kernel
theorem dX1_reach_13 : decode cX1_reach 13 = .ok (.iconst 1, 1) := by decide +kernel
theorem dX1_reach_14 : decode cX1_reach 14 = .ok (.ireturn, 1) := by decide +kernel
theorem dX1_demand_0 : decode cX1_demand 0 = .ok (.iload_n 1, 1) := by decide +kernel
theorem dX1_demand_1 : decode cX1_demand 1 = .ok (.iconst 1, 1) := by decide +kernel
theorem dX1_demand_2 : decode cX1_demand 2 = .ok (.if_icmp .lt 10, 3) := by decide +kernel
theorem dX1_demand_5 : decode cX1_demand 5 = .ok (.iload_n 1, 1) := by decide +kernel
theorem dX1_demand_6 : decode cX1_demand 6 = .ok (.sipush 2400, 3) := by decide +kernel
theorem dX1_demand_9 : decode cX1_demand 9 = .ok (.if_icmp .le 5, 3) := by decide +kernel
theorem dX1_demand_12 : decode cX1_demand 12 = .ok (.iconst 0, 1) := by decide +kernel
theorem dX1_demand_13 : decode cX1_demand 13 = .ok (.ireturn, 1) := by decide +kernel
theorem dX1_demand_14 : decode cX1_demand 14 = .ok (.aload_n 0, 1) := by decide +kernel
theorem dX1_demand_15 : decode cX1_demand 15 = .ok (.iload_n 1, 1) := by decide +kernel
theorem dX1_demand_16 : decode cX1_demand 16 = .ok (.putfield 23, 3) := by decide +kernel
theorem dX1_demand_19 : decode cX1_demand 19 = .ok (.iconst 1, 1) := by decide +kernel
theorem dX1_demand_20 : decode cX1_demand 20 = .ok (.ireturn, 1) := by decide +kernel
theorem dX1_far_0 : decode cX1_far 0 = .ok (.aload_n 0, 1) := by decide +kernel
theorem dX1_far_1 : decode cX1_far 1 = .ok (.getfield 13, 3) := by decide +kernel
theorem dX1_far_4 : decode cX1_far 4 = .ok (.iload_n 1, 1) := by decide +kernel
theorem dX1_far_5 : decode cX1_far 5 = .ok (.iaload, 1) := by decide +kernel
theorem dX1_far_6 : decode cX1_far 6 = .ok (.i2l, 1) := by decide +kernel
theorem dX1_far_7 : decode cX1_far 7 = .ok (.lload_n 2, 1) := by decide +kernel
theorem dX1_far_8 : decode cX1_far 8 = .ok (.lcmp, 1) := by decide +kernel
theorem dX1_far_9 : decode cX1_far 9 = .ok (.ifCond .ge 15, 3) := by decide +kernel
theorem dX1_far_12 : decode cX1_far 12 = .ok (.lload_n 2, 1) := by decide +kernel
theorem dX1_far_13 : decode cX1_far 13 = .ok (.aload_n 0, 1) := by decide +kernel
theorem dX1_far_14 : decode cX1_far 14 = .ok (.getfield 13, 3) := by decide +kernel
theorem dX1_far_17 : decode cX1_far 17 = .ok (.iload_n 1, 1) := by decide +kernel
theorem dX1_far_18 : decode cX1_far 18 = .ok (.iaload, 1) := by decide +kernel
theorem dX1_far_19 : decode cX1_far 19 = .ok (.i2l, 1) := by decide +kernel
theorem dX1_far_20 : decode cX1_far 20 = .ok (.lsub, 1) := by decide +kernel
theorem dX1_far_21 : decode cX1_far 21 = .ok (.goto 12, 3) := by decide +kernel
theorem dX1_far_24 : decode cX1_far 24 = .ok (.aload_n 0, 1) := by decide +kernel
theorem dX1_far_25 : decode cX1_far 25 = .ok (.getfield 13, 3) := by decide +kernel
theorem dX1_far_28 : decode cX1_far 28 = .ok (.iload_n 1, 1) := by decide +kernel
theorem dX1_far_29 : decode cX1_far 29 = .ok (.iaload, 1) := by decide +kernel
theorem dX1_far_30 : decode cX1_far 30 = .ok (.i2l, 1) := by decide +kernel
theorem dX1_far_31 : decode cX1_far 31 = .ok (.lload_n 2, 1) := by decide +kernel
theorem dX1_far_32 : decode cX1_far 32 = .ok (.lsub, 1) := by decide +kernel
theorem dX1_far_33 : decode cX1_far 33 = .ok (.lstore 6, 2) := by decide +kernel
theorem dX1_far_35 : decode cX1_far 35 = .ok (.aload_n 0, 1) := by decide +kernel
theorem dX1_far_36 : decode cX1_far 36 = .ok (.getfield 17, 3) := by decide +kernel
theorem dX1_far_39 : decode cX1_far 39 = .ok (.iload_n 1, 1) := by decide +kernel
theorem dX1_far_40 : decode cX1_far 40 = .ok (.iaload, 1) := by decide +kernel
theorem dX1_far_41 : decode cX1_far 41 = .ok (.i2l, 1) := by decide +kernel
theorem dX1_far_42 : decode cX1_far 42 = .ok (.lload 4, 2) := by decide +kernel
theorem dX1_far_44 : decode cX1_far 44 = .ok (.lcmp, 1) := by decide +kernel
theorem dX1_far_45 : decode cX1_far 45 = .ok (.ifCond .ge 16, 3) := by decide +kernel
theorem dX1_far_48 : decode cX1_far 48 = .ok (.lload 4, 2) := by decide +kernel
theorem dX1_far_50 : decode cX1_far 50 = .ok (.aload_n 0, 1) := by decide +kernel
theorem dX1_far_51 : decode cX1_far 51 = .ok (.getfield 17, 3) := by decide +kernel
theorem dX1_far_54 : decode cX1_far 54 = .ok (.iload_n 1, 1) := by decide +kernel
theorem dX1_far_55 : decode cX1_far 55 = .ok (.iaload, 1) := by decide +kernel
theorem dX1_far_56 : decode cX1_far 56 = .ok (.i2l, 1) := by decide +kernel
theorem dX1_far_57 : decode cX1_far 57 = .ok (.lsub, 1) := by decide +kernel
theorem dX1_far_58 : decode cX1_far 58 = .ok (.goto 13, 3) := by decide +kernel
theorem dX1_far_61 : decode cX1_far 61 = .ok (.aload_n 0, 1) := by decide +kernel
theorem dX1_far_62 : decode cX1_far 62 = .ok (.getfield 17, 3) := by decide +kernel
theorem dX1_far_65 : decode cX1_far 65 = .ok (.iload_n 1, 1) := by decide +kernel
theorem dX1_far_66 : decode cX1_far 66 = .ok (.iaload, 1) := by decide +kernel
theorem dX1_far_67 : decode cX1_far 67 = .ok (.i2l, 1) := by decide +kernel
theorem dX1_far_68 : decode cX1_far 68 = .ok (.lload 4, 2) := by decide +kernel
theorem dX1_far_70 : decode cX1_far 70 = .ok (.lsub, 1) := by decide +kernel
theorem dX1_far_71 : decode cX1_far 71 = .ok (.lstore 8, 2) := by decide +kernel
theorem dX1_far_73 : decode cX1_far 73 = .ok (.aload_n 0, 1) := by decide +kernel
theorem dX1_far_74 : decode cX1_far 74 = .ok (.getfield 57, 3) := by decide +kernel
theorem dX1_far_77 : decode cX1_far 77 = .ok (.ifCond .ne 17, 3) := by decide +kernel
theorem dX1_far_80 : decode cX1_far 80 = .ok (.lload 6, 2) := by decide +kernel
theorem dX1_far_82 : decode cX1_far 82 = .ok (.lload 6, 2) := by decide +kernel
theorem dX1_far_84 : decode cX1_far 84 = .ok (.lmul, 1) := by decide +kernel
theorem dX1_far_85 : decode cX1_far 85 = .ok (.lload 8, 2) := by decide +kernel
theorem dX1_far_87 : decode cX1_far 87 = .ok (.lload 8, 2) := by decide +kernel
theorem dX1_far_89 : decode cX1_far 89 = .ok (.lmul, 1) := by decide +kernel
theorem dX1_far_90 : decode cX1_far 90 = .ok (.ladd, 1) := by decide +kernel
theorem dX1_far_91 : decode cX1_far 91 = .ok (.goto 34, 3) := by decide +kernel
theorem dX1_far_94 : decode cX1_far 94 = .ok (.aload_n 0, 1) := by decide +kernel
theorem dX1_far_95 : decode cX1_far 95 = .ok (.getfield 57, 3) := by decide +kernel
theorem dX1_far_98 : decode cX1_far 98 = .ok (.iconst 1, 1) := by decide +kernel
theorem dX1_far_99 : decode cX1_far 99 = .ok (.if_icmp .ne 21, 3) := by decide +kernel
theorem dX1_far_102 : decode cX1_far 102 = .ok (.lload 6, 2) := by decide +kernel
theorem dX1_far_104 : decode cX1_far 104 = .ok (.lload 8, 2) := by decide +kernel
theorem dX1_far_106 : decode cX1_far 106 = .ok (.lcmp, 1) := by decide +kernel
theorem dX1_far_107 : decode cX1_far 107 = .ok (.ifCond .le 8, 3) := by decide +kernel
theorem dX1_far_110 : decode cX1_far 110 = .ok (.lload 6, 2) := by decide +kernel
theorem dX1_far_112 : decode cX1_far 112 = .ok (.goto 13, 3) := by decide +kernel
theorem dX1_far_115 : decode cX1_far 115 = .ok (.lload 8, 2) := by decide +kernel
theorem dX1_far_117 : decode cX1_far 117 = .ok (.goto 8, 3) := by decide +kernel
theorem dX1_far_120 : decode cX1_far 120 = .ok (.lload 6, 2) := by decide +kernel
theorem dX1_far_122 : decode cX1_far 122 = .ok (.lload 8, 2) := by decide +kernel
theorem dX1_far_124 : decode cX1_far 124 = .ok (.ladd, 1) := by decide +kernel
theorem dX1_far_125 : decode cX1_far 125 = .ok (.lreturn, 1) := by decide +kernel
theorem dX1_distance_0 : decode cX1_distance 0 = .ok (.aload_n 0, 1) := by decide +kernel
theorem dX1_distance_1 : decode cX1_distance 1 = .ok (.iload_n 1, 1) := by decide +kernel
theorem dX1_distance_2 : decode cX1_distance 2 = .ok (.invokevirtual 49, 3) := by decide +kernel
theorem dX1_distance_5 : decode cX1_distance 5 = .ok (.ifCond .eq 33, 3) := by decide +kernel
theorem dX1_distance_8 : decode cX1_distance 8 = .ok (.aload_n 0, 1) := by decide +kernel
theorem dX1_distance_9 : decode cX1_distance 9 = .ok (.iload_n 2, 1) := by decide +kernel
theorem dX1_distance_10 : decode cX1_distance 10 = .ok (.invokevirtual 49, 3) := by decide +kernel
theorem dX1_distance_13 : decode cX1_distance 13 = .ok (.ifCond .eq 25, 3) := by decide +kernel
theorem dX1_distance_16 : decode cX1_distance 16 = .ok (.aload_n 0, 1) := by decide +kernel
theorem dX1_distance_17 : decode cX1_distance 17 = .ok (.iload_n 1, 1) := by decide +kernel
theorem dX1_distance_18 : decode cX1_distance 18 = .ok (.aload_n 0, 1) := by decide +kernel
theorem dX1_distance_19 : decode cX1_distance 19 = .ok (.getfield 13, 3) := by decide +kernel
theorem dX1_distance_22 : decode cX1_distance 22 = .ok (.iload_n 2, 1) := by decide +kernel
theorem dX1_distance_23 : decode cX1_distance 23 = .ok (.iaload, 1) := by decide +kernel
theorem dX1_distance_24 : decode cX1_distance 24 = .ok (.i2l, 1) := by decide +kernel
theorem dX1_distance_25 : decode cX1_distance 25 = .ok (.aload_n 0, 1) := by decide +kernel
theorem dX1_distance_26 : decode cX1_distance 26 = .ok (.getfield 17, 3) := by decide +kernel
theorem dX1_distance_29 : decode cX1_distance 29 = .ok (.iload_n 2, 1) := by decide +kernel
theorem dX1_distance_30 : decode cX1_distance 30 = .ok (.iaload, 1) := by decide +kernel
theorem dX1_distance_31 : decode cX1_distance 31 = .ok (.i2l, 1) := by decide +kernel
theorem dX1_distance_32 : decode cX1_distance 32 = .ok (.invokevirtual 64, 3) := by decide +kernel
theorem dX1_distance_35 : decode cX1_distance 35 = .ok (.goto 6, 3) := by decide +kernel
theorem dX1_distance_38 : decode cX1_distance 38 = .ok (.ldc2_w 68, 3) := by decide +kernel
theorem dX1_distance_41 : decode cX1_distance 41 = .ok (.lreturn, 1) := by decide +kernel
theorem dX1_weightWithin_0 : decode cX1_weightWithin 0 = .ok (.iconst 0, 1) := by decide +kernel
theorem dX1_weightWithin_1 : decode cX1_weightWithin 1 = .ok (.istore 4, 2) := by decide +kernel
theorem dX1_weightWithin_3 : decode cX1_weightWithin 3 = .ok (.iconst 0, 1) := by decide +kernel
theorem dX1_weightWithin_4 : decode cX1_weightWithin 4 = .ok (.istore 5, 2) := by decide +kernel
theorem dX1_weightWithin_6 : decode cX1_weightWithin 6 = .ok (.iload 5, 2) := by decide +kernel
theorem dX1_weightWithin_8 : decode cX1_weightWithin 8 = .ok (.bipush 120, 2) := by decide +kernel
theorem dX1_weightWithin_10 : decode cX1_weightWithin 10 = .ok (.if_icmp .ge 61, 3) := by decide +kernel
theorem dX1_weightWithin_13 : decode cX1_weightWithin 13 = .ok (.iload 4, 2) := by decide +kernel
theorem dX1_weightWithin_15 : decode cX1_weightWithin 15 = .ok (.aload_n 0, 1) := by decide +kernel
theorem dX1_weightWithin_16 : decode cX1_weightWithin 16 = .ok (.getfield 7, 3) := by decide +kernel
theorem dX1_weightWithin_19 : decode cX1_weightWithin 19 = .ok (.iload 5, 2) := by decide +kernel
theorem dX1_weightWithin_21 : decode cX1_weightWithin 21 = .ok (.baload, 1) := by decide +kernel
theorem dX1_weightWithin_22 : decode cX1_weightWithin 22 = .ok (.ifCond .eq 39, 3) := by decide +kernel
theorem dX1_weightWithin_25 : decode cX1_weightWithin 25 = .ok (.aload_n 0, 1) := by decide +kernel
theorem dX1_weightWithin_26 : decode cX1_weightWithin 26 = .ok (.iload_n 1, 1) := by decide +kernel
theorem dX1_weightWithin_27 : decode cX1_weightWithin 27 = .ok (.aload_n 0, 1) := by decide +kernel
theorem dX1_weightWithin_28 : decode cX1_weightWithin 28 = .ok (.getfield 13, 3) := by decide +kernel
theorem dX1_weightWithin_31 : decode cX1_weightWithin 31 = .ok (.iload 5, 2) := by decide +kernel
theorem dX1_weightWithin_33 : decode cX1_weightWithin 33 = .ok (.iaload, 1) := by decide +kernel
theorem dX1_weightWithin_34 : decode cX1_weightWithin 34 = .ok (.i2l, 1) := by decide +kernel
theorem dX1_weightWithin_35 : decode cX1_weightWithin 35 = .ok (.aload_n 0, 1) := by decide +kernel
theorem dX1_weightWithin_36 : decode cX1_weightWithin 36 = .ok (.getfield 17, 3) := by decide +kernel
theorem dX1_weightWithin_39 : decode cX1_weightWithin 39 = .ok (.iload 5, 2) := by decide +kernel
theorem dX1_weightWithin_41 : decode cX1_weightWithin 41 = .ok (.iaload, 1) := by decide +kernel
theorem dX1_weightWithin_42 : decode cX1_weightWithin 42 = .ok (.i2l, 1) := by decide +kernel
theorem dX1_weightWithin_43 : decode cX1_weightWithin 43 = .ok (.invokevirtual 64, 3) := by decide +kernel
theorem dX1_weightWithin_46 : decode cX1_weightWithin 46 = .ok (.lload_n 2, 1) := by decide +kernel
theorem dX1_weightWithin_47 : decode cX1_weightWithin 47 = .ok (.lcmp, 1) := by decide +kernel
theorem dX1_weightWithin_48 : decode cX1_weightWithin 48 = .ok (.ifCond .gt 13, 3) := by decide +kernel
theorem dX1_weightWithin_51 : decode cX1_weightWithin 51 = .ok (.aload_n 0, 1) := by decide +kernel
theorem dX1_weightWithin_52 : decode cX1_weightWithin 52 = .ok (.getfield 20, 3) := by decide +kernel
theorem dX1_weightWithin_55 : decode cX1_weightWithin 55 = .ok (.iload 5, 2) := by decide +kernel
theorem dX1_weightWithin_57 : decode cX1_weightWithin 57 = .ok (.iaload, 1) := by decide +kernel
theorem dX1_weightWithin_58 : decode cX1_weightWithin 58 = .ok (.goto 4, 3) := by decide +kernel
theorem dX1_weightWithin_61 : decode cX1_weightWithin 61 = .ok (.iconst 0, 1) := by decide +kernel
theorem dX1_weightWithin_62 : decode cX1_weightWithin 62 = .ok (.iadd, 1) := by decide +kernel
theorem dX1_weightWithin_63 : decode cX1_weightWithin 63 = .ok (.istore 4, 2) := by decide +kernel
theorem dX1_weightWithin_65 : decode cX1_weightWithin 65 = .ok (.iinc 5 1, 3) := by decide +kernel
theorem dX1_weightWithin_68 : decode cX1_weightWithin 68 = .ok (.goto (-62), 3) := by decide +kernel
theorem dX1_weightWithin_71 : decode cX1_weightWithin 71 = .ok (.iload 4, 2) := by decide +kernel
theorem dX1_weightWithin_73 : decode cX1_weightWithin 73 = .ok (.ireturn, 1) := by decide +kernel
theorem dX1_find_0 : decode cX1_find 0 = .ok (.aload_n 0, 1) := by decide +kernel
theorem dX1_find_1 : decode cX1_find 1 = .ok (.iconst 0, 1) := by decide +kernel
theorem dX1_find_2 : decode cX1_find 2 = .ok (.putfield 70, 3) := by decide +kernel
theorem dX1_find_5 : decode cX1_find 5 = .ok (.iconst 0, 1) := by decide +kernel
theorem dX1_find_6 : decode cX1_find 6 = .ok (.istore_n 3, 1) := by decide +kernel
theorem dX1_find_7 : decode cX1_find 7 = .ok (.iload_n 3, 1) := by decide +kernel
theorem dX1_find_8 : decode cX1_find 8 = .ok (.bipush 120, 2) := by decide +kernel
theorem dX1_find_10 : decode cX1_find 10 = .ok (.if_icmp .ge 49, 3) := by decide +kernel
theorem dX1_find_13 : decode cX1_find 13 = .ok (.aload_n 0, 1) := by decide +kernel
theorem dX1_find_14 : decode cX1_find 14 = .ok (.getfield 27, 3) := by decide +kernel
theorem dX1_find_17 : decode cX1_find 17 = .ok (.iload_n 3, 1) := by decide +kernel
theorem dX1_find_18 : decode cX1_find 18 = .ok (.aload_n 0, 1) := by decide +kernel
theorem dX1_find_19 : decode cX1_find 19 = .ok (.getfield 7, 3) := by decide +kernel
theorem dX1_find_22 : decode cX1_find 22 = .ok (.iload_n 3, 1) := by decide +kernel
theorem dX1_find_23 : decode cX1_find 23 = .ok (.baload, 1) := by decide +kernel
theorem dX1_find_24 : decode cX1_find 24 = .ok (.ifCond .eq 20, 3) := by decide +kernel
theorem dX1_find_27 : decode cX1_find 27 = .ok (.aload_n 0, 1) := by decide +kernel
theorem dX1_find_28 : decode cX1_find 28 = .ok (.iload_n 3, 1) := by decide +kernel
theorem dX1_find_29 : decode cX1_find 29 = .ok (.lload_n 1, 1) := by decide +kernel
theorem dX1_find_30 : decode cX1_find 30 = .ok (.invokevirtual 73, 3) := by decide +kernel
theorem dX1_find_33 : decode cX1_find 33 = .ok (.aload_n 0, 1) := by decide +kernel
theorem dX1_find_34 : decode cX1_find 34 = .ok (.getfield 23, 3) := by decide +kernel
theorem dX1_find_37 : decode cX1_find 37 = .ok (.if_icmp .lt 7, 3) := by decide +kernel
theorem dX1_find_40 : decode cX1_find 40 = .ok (.iconst 1, 1) := by decide +kernel
theorem dX1_find_41 : decode cX1_find 41 = .ok (.goto 4, 3) := by decide +kernel
theorem dX1_find_44 : decode cX1_find 44 = .ok (.iconst 0, 1) := by decide +kernel
theorem dX1_find_45 : decode cX1_find 45 = .ok (.bastore, 1) := by decide +kernel
theorem dX1_find_46 : decode cX1_find 46 = .ok (.aload_n 0, 1) := by decide +kernel
theorem dX1_find_47 : decode cX1_find 47 = .ok (.getfield 30, 3) := by decide +kernel
theorem dX1_find_50 : decode cX1_find 50 = .ok (.iload_n 3, 1) := by decide +kernel
theorem dX1_find_51 : decode cX1_find 51 = .ok (.iconst (-1), 1) := by decide +kernel
theorem dX1_find_52 : decode cX1_find 52 = .ok (.iastore, 1) := by decide +kernel
theorem dX1_find_53 : decode cX1_find 53 = .ok (.iinc 3 1, 3) := by decide +kernel
theorem dX1_find_56 : decode cX1_find 56 = .ok (.goto (-49), 3) := by decide +kernel
theorem dX1_find_59 : decode cX1_find 59 = .ok (.iconst 0, 1) := by decide +kernel
theorem dX1_find_60 : decode cX1_find 60 = .ok (.istore_n 3, 1) := by decide +kernel
theorem dX1_find_61 : decode cX1_find 61 = .ok (.iload_n 3, 1) := by decide +kernel
theorem dX1_find_62 : decode cX1_find 62 = .ok (.bipush 120, 2) := by decide +kernel
theorem dX1_find_64 : decode cX1_find 64 = .ok (.if_icmp .ge 116, 3) := by decide +kernel
theorem dX1_find_67 : decode cX1_find 67 = .ok (.aload_n 0, 1) := by decide +kernel
theorem dX1_find_68 : decode cX1_find 68 = .ok (.getfield 27, 3) := by decide +kernel
theorem dX1_find_71 : decode cX1_find 71 = .ok (.iload_n 3, 1) := by decide +kernel
theorem dX1_find_72 : decode cX1_find 72 = .ok (.baload, 1) := by decide +kernel
theorem dX1_find_73 : decode cX1_find 73 = .ok (.ifCond .eq 101, 3) := by decide +kernel
theorem dX1_find_76 : decode cX1_find 76 = .ok (.aload_n 0, 1) := by decide +kernel
theorem dX1_find_77 : decode cX1_find 77 = .ok (.getfield 30, 3) := by decide +kernel
theorem dX1_find_80 : decode cX1_find 80 = .ok (.iload_n 3, 1) := by decide +kernel
theorem dX1_find_81 : decode cX1_find 81 = .ok (.iaload, 1) := by decide +kernel
theorem dX1_find_82 : decode cX1_find 82 = .ok (.ifCond .lt 6, 3) := by decide +kernel
theorem dX1_find_85 : decode cX1_find 85 = .ok (.goto 89, 3) := by decide +kernel
theorem dX1_find_88 : decode cX1_find 88 = .ok (.aload_n 0, 1) := by decide +kernel
theorem dX1_find_89 : decode cX1_find 89 = .ok (.getfield 30, 3) := by decide +kernel
theorem dX1_find_92 : decode cX1_find 92 = .ok (.iload_n 3, 1) := by decide +kernel
theorem dX1_find_93 : decode cX1_find 93 = .ok (.aload_n 0, 1) := by decide +kernel
theorem dX1_find_94 : decode cX1_find 94 = .ok (.getfield 70, 3) := by decide +kernel
theorem dX1_find_97 : decode cX1_find 97 = .ok (.iastore, 1) := by decide +kernel
theorem dX1_find_98 : decode cX1_find 98 = .ok (.iconst 1, 1) := by decide +kernel
theorem dX1_find_99 : decode cX1_find 99 = .ok (.istore 4, 2) := by decide +kernel
theorem dX1_find_101 : decode cX1_find 101 = .ok (.iload 4, 2) := by decide +kernel
theorem dX1_find_103 : decode cX1_find 103 = .ok (.ifCond .eq 61, 3) := by decide +kernel
theorem dX1_find_106 : decode cX1_find 106 = .ok (.iconst 0, 1) := by decide +kernel
theorem dX1_find_107 : decode cX1_find 107 = .ok (.istore 4, 2) := by decide +kernel
theorem dX1_find_109 : decode cX1_find 109 = .ok (.iconst 0, 1) := by decide +kernel
theorem dX1_find_110 : decode cX1_find 110 = .ok (.istore 5, 2) := by decide +kernel
theorem dX1_find_112 : decode cX1_find 112 = .ok (.iload 5, 2) := by decide +kernel
theorem dX1_find_114 : decode cX1_find 114 = .ok (.bipush 120, 2) := by decide +kernel
theorem dX1_find_116 : decode cX1_find 116 = .ok (.if_icmp .ge 45, 3) := by decide +kernel
theorem dX1_find_119 : decode cX1_find 119 = .ok (.aload_n 0, 1) := by decide +kernel
theorem dX1_find_120 : decode cX1_find 120 = .ok (.getfield 30, 3) := by decide +kernel
theorem dX1_find_123 : decode cX1_find 123 = .ok (.iload 5, 2) := by decide +kernel
theorem dX1_find_125 : decode cX1_find 125 = .ok (.iaload, 1) := by decide +kernel
theorem dX1_find_126 : decode cX1_find 126 = .ok (.aload_n 0, 1) := by decide +kernel
theorem dX1_find_127 : decode cX1_find 127 = .ok (.getfield 70, 3) := by decide +kernel
theorem dX1_find_130 : decode cX1_find 130 = .ok (.if_icmp .ne 13, 3) := by decide +kernel
theorem dX1_find_133 : decode cX1_find 133 = .ok (.aload_n 0, 1) := by decide +kernel
theorem dX1_find_134 : decode cX1_find 134 = .ok (.iload 5, 2) := by decide +kernel
theorem dX1_find_136 : decode cX1_find 136 = .ok (.lload_n 1, 1) := by decide +kernel
theorem dX1_find_137 : decode cX1_find 137 = .ok (.invokevirtual 77, 3) := by decide +kernel
theorem dX1_find_140 : decode cX1_find 140 = .ok (.ifCond .ne 8, 3) := by decide +kernel
theorem dX1_find_143 : decode cX1_find 143 = .ok (.iload 4, 2) := by decide +kernel
theorem dX1_find_145 : decode cX1_find 145 = .ok (.ifCond .eq 7, 3) := by decide +kernel
theorem dX1_find_148 : decode cX1_find 148 = .ok (.iconst 1, 1) := by decide +kernel
theorem dX1_find_149 : decode cX1_find 149 = .ok (.goto 4, 3) := by decide +kernel
theorem dX1_find_152 : decode cX1_find 152 = .ok (.iconst 0, 1) := by decide +kernel
theorem dX1_find_153 : decode cX1_find 153 = .ok (.istore 4, 2) := by decide +kernel
theorem dX1_find_155 : decode cX1_find 155 = .ok (.iinc 5 1, 3) := by decide +kernel
theorem dX1_find_158 : decode cX1_find 158 = .ok (.goto (-46), 3) := by decide +kernel
theorem dX1_find_161 : decode cX1_find 161 = .ok (.goto (-60), 3) := by decide +kernel
theorem dX1_find_164 : decode cX1_find 164 = .ok (.aload_n 0, 1) := by decide +kernel
theorem dX1_find_165 : decode cX1_find 165 = .ok (.dup, 1) := by decide +kernel
theorem dX1_find_166 : decode cX1_find 166 = .ok (.getfield 70, 3) := by decide +kernel
theorem dX1_find_169 : decode cX1_find 169 = .ok (.iconst 1, 1) := by decide +kernel
theorem dX1_find_170 : decode cX1_find 170 = .ok (.iadd, 1) := by decide +kernel
theorem dX1_find_171 : decode cX1_find 171 = .ok (.putfield 70, 3) := by decide +kernel
theorem dX1_find_174 : decode cX1_find 174 = .ok (.iinc 3 1, 3) := by decide +kernel
theorem dX1_find_177 : decode cX1_find 177 = .ok (.goto (-116), 3) := by decide +kernel
theorem dX1_find_180 : decode cX1_find 180 = .ok (.iconst 0, 1) := by decide +kernel
theorem dX1_find_181 : decode cX1_find 181 = .ok (.istore_n 3, 1) := by decide +kernel
theorem dX1_find_182 : decode cX1_find 182 = .ok (.iload_n 3, 1) := by decide +kernel
theorem dX1_find_183 : decode cX1_find 183 = .ok (.bipush 120, 2) := by decide +kernel
theorem dX1_find_185 : decode cX1_find 185 = .ok (.if_icmp .ge 50, 3) := by decide +kernel
theorem dX1_find_188 : decode cX1_find 188 = .ok (.aload_n 0, 1) := by decide +kernel
theorem dX1_find_189 : decode cX1_find 189 = .ok (.getfield 7, 3) := by decide +kernel
theorem dX1_find_192 : decode cX1_find 192 = .ok (.iload_n 3, 1) := by decide +kernel
theorem dX1_find_193 : decode cX1_find 193 = .ok (.baload, 1) := by decide +kernel
theorem dX1_find_194 : decode cX1_find 194 = .ok (.ifCond .eq 35, 3) := by decide +kernel
theorem dX1_find_197 : decode cX1_find 197 = .ok (.aload_n 0, 1) := by decide +kernel
theorem dX1_find_198 : decode cX1_find 198 = .ok (.getfield 27, 3) := by decide +kernel
theorem dX1_find_201 : decode cX1_find 201 = .ok (.iload_n 3, 1) := by decide +kernel
theorem dX1_find_202 : decode cX1_find 202 = .ok (.baload, 1) := by decide +kernel
theorem dX1_find_203 : decode cX1_find 203 = .ok (.ifCond .ne 26, 3) := by decide +kernel
theorem dX1_find_206 : decode cX1_find 206 = .ok (.aload_n 0, 1) := by decide +kernel
theorem dX1_find_207 : decode cX1_find 207 = .ok (.getfield 30, 3) := by decide +kernel
theorem dX1_find_210 : decode cX1_find 210 = .ok (.iload_n 3, 1) := by decide +kernel
theorem dX1_find_211 : decode cX1_find 211 = .ok (.aload_n 0, 1) := by decide +kernel
theorem dX1_find_212 : decode cX1_find 212 = .ok (.aload_n 0, 1) := by decide +kernel
theorem dX1_find_213 : decode cX1_find 213 = .ok (.getfield 13, 3) := by decide +kernel
theorem dX1_find_216 : decode cX1_find 216 = .ok (.iload_n 3, 1) := by decide +kernel
theorem dX1_find_217 : decode cX1_find 217 = .ok (.iaload, 1) := by decide +kernel
theorem dX1_find_218 : decode cX1_find 218 = .ok (.aload_n 0, 1) := by decide +kernel
theorem dX1_find_219 : decode cX1_find 219 = .ok (.getfield 17, 3) := by decide +kernel
theorem dX1_find_222 : decode cX1_find 222 = .ok (.iload_n 3, 1) := by decide +kernel
theorem dX1_find_223 : decode cX1_find 223 = .ok (.iaload, 1) := by decide +kernel
theorem dX1_find_224 : decode cX1_find 224 = .ok (.lload_n 1, 1) := by decide +kernel
theorem dX1_find_225 : decode cX1_find 225 = .ok (.invokevirtual 81, 3) := by decide +kernel
theorem dX1_find_228 : decode cX1_find 228 = .ok (.iastore, 1) := by decide +kernel
theorem dX1_find_229 : decode cX1_find 229 = .ok (.iinc 3 1, 3) := by decide +kernel
theorem dX1_find_232 : decode cX1_find 232 = .ok (.goto (-50), 3) := by decide +kernel
theorem dX1_find_235 : decode cX1_find 235 = .ok (.return_, 1) := by decide +kernel
theorem dX1_spread_0 : decode cX1_spread 0 = .ok (.iconst 0, 1) := by decide +kernel
theorem dX1_spread_1 : decode cX1_spread 1 = .ok (.istore 4, 2) := by decide +kernel
theorem dX1_spread_3 : decode cX1_spread 3 = .ok (.iconst 0, 1) := by decide +kernel
theorem dX1_spread_4 : decode cX1_spread 4 = .ok (.istore 5, 2) := by decide +kernel
theorem dX1_spread_6 : decode cX1_spread 6 = .ok (.iload 5, 2) := by decide +kernel
theorem dX1_spread_8 : decode cX1_spread 8 = .ok (.bipush 120, 2) := by decide +kernel
theorem dX1_spread_10 : decode cX1_spread 10 = .ok (.if_icmp .ge 72, 3) := by decide +kernel
theorem dX1_spread_13 : decode cX1_spread 13 = .ok (.aload_n 0, 1) := by decide +kernel
theorem dX1_spread_14 : decode cX1_spread 14 = .ok (.getfield 27, 3) := by decide +kernel
theorem dX1_spread_17 : decode cX1_spread 17 = .ok (.iload 5, 2) := by decide +kernel
theorem dX1_spread_19 : decode cX1_spread 19 = .ok (.baload, 1) := by decide +kernel
theorem dX1_spread_20 : decode cX1_spread 20 = .ok (.ifCond .eq 56, 3) := by decide +kernel
theorem dX1_spread_23 : decode cX1_spread 23 = .ok (.aload_n 0, 1) := by decide +kernel
theorem dX1_spread_24 : decode cX1_spread 24 = .ok (.getfield 30, 3) := by decide +kernel
theorem dX1_spread_27 : decode cX1_spread 27 = .ok (.iload 5, 2) := by decide +kernel
theorem dX1_spread_29 : decode cX1_spread 29 = .ok (.iaload, 1) := by decide +kernel
theorem dX1_spread_30 : decode cX1_spread 30 = .ok (.ifCond .ge 46, 3) := by decide +kernel
theorem dX1_spread_33 : decode cX1_spread 33 = .ok (.aload_n 0, 1) := by decide +kernel
theorem dX1_spread_34 : decode cX1_spread 34 = .ok (.iload_n 1, 1) := by decide +kernel
theorem dX1_spread_35 : decode cX1_spread 35 = .ok (.aload_n 0, 1) := by decide +kernel
theorem dX1_spread_36 : decode cX1_spread 36 = .ok (.getfield 13, 3) := by decide +kernel
theorem dX1_spread_39 : decode cX1_spread 39 = .ok (.iload 5, 2) := by decide +kernel
theorem dX1_spread_41 : decode cX1_spread 41 = .ok (.iaload, 1) := by decide +kernel
theorem dX1_spread_42 : decode cX1_spread 42 = .ok (.i2l, 1) := by decide +kernel
theorem dX1_spread_43 : decode cX1_spread 43 = .ok (.aload_n 0, 1) := by decide +kernel
theorem dX1_spread_44 : decode cX1_spread 44 = .ok (.getfield 17, 3) := by decide +kernel
theorem dX1_spread_47 : decode cX1_spread 47 = .ok (.iload 5, 2) := by decide +kernel
theorem dX1_spread_49 : decode cX1_spread 49 = .ok (.iaload, 1) := by decide +kernel
theorem dX1_spread_50 : decode cX1_spread 50 = .ok (.i2l, 1) := by decide +kernel
theorem dX1_spread_51 : decode cX1_spread 51 = .ok (.invokevirtual 64, 3) := by decide +kernel
theorem dX1_spread_54 : decode cX1_spread 54 = .ok (.lload_n 2, 1) := by decide +kernel
theorem dX1_spread_55 : decode cX1_spread 55 = .ok (.lcmp, 1) := by decide +kernel
theorem dX1_spread_56 : decode cX1_spread 56 = .ok (.ifCond .le 6, 3) := by decide +kernel
theorem dX1_spread_59 : decode cX1_spread 59 = .ok (.goto 17, 3) := by decide +kernel
theorem dX1_spread_62 : decode cX1_spread 62 = .ok (.aload_n 0, 1) := by decide +kernel
theorem dX1_spread_63 : decode cX1_spread 63 = .ok (.getfield 30, 3) := by decide +kernel
theorem dX1_spread_66 : decode cX1_spread 66 = .ok (.iload 5, 2) := by decide +kernel
theorem dX1_spread_68 : decode cX1_spread 68 = .ok (.aload_n 0, 1) := by decide +kernel
theorem dX1_spread_69 : decode cX1_spread 69 = .ok (.getfield 70, 3) := by decide +kernel
theorem dX1_spread_72 : decode cX1_spread 72 = .ok (.iastore, 1) := by decide +kernel
theorem dX1_spread_73 : decode cX1_spread 73 = .ok (.iconst 1, 1) := by decide +kernel
theorem dX1_spread_74 : decode cX1_spread 74 = .ok (.istore 4, 2) := by decide +kernel
theorem dX1_spread_76 : decode cX1_spread 76 = .ok (.iinc 5 1, 3) := by decide +kernel
theorem dX1_spread_79 : decode cX1_spread 79 = .ok (.goto (-73), 3) := by decide +kernel
theorem dX1_spread_82 : decode cX1_spread 82 = .ok (.iload 4, 2) := by decide +kernel
theorem dX1_spread_84 : decode cX1_spread 84 = .ok (.ireturn, 1) := by decide +kernel
theorem dX1_least_0 : decode cX1_least 0 = .ok (.iconst (-1), 1) := by decide +kernel
theorem dX1_least_1 : decode cX1_least 1 = .ok (.istore 5, 2) := by decide +kernel
theorem dX1_least_3 : decode cX1_least 3 = .ok (.iconst 0, 1) := by decide +kernel
theorem dX1_least_4 : decode cX1_least 4 = .ok (.istore 6, 2) := by decide +kernel
theorem dX1_least_6 : decode cX1_least 6 = .ok (.iload 6, 2) := by decide +kernel
theorem dX1_least_8 : decode cX1_least 8 = .ok (.bipush 120, 2) := by decide +kernel
theorem dX1_least_10 : decode cX1_least 10 = .ok (.if_icmp .ge 60, 3) := by decide +kernel
theorem dX1_least_13 : decode cX1_least 13 = .ok (.aload_n 0, 1) := by decide +kernel
theorem dX1_least_14 : decode cX1_least 14 = .ok (.getfield 27, 3) := by decide +kernel
theorem dX1_least_17 : decode cX1_least 17 = .ok (.iload 6, 2) := by decide +kernel
theorem dX1_least_19 : decode cX1_least 19 = .ok (.baload, 1) := by decide +kernel
theorem dX1_least_20 : decode cX1_least 20 = .ok (.ifCond .eq 44, 3) := by decide +kernel
theorem dX1_least_23 : decode cX1_least 23 = .ok (.aload_n 0, 1) := by decide +kernel
theorem dX1_least_24 : decode cX1_least 24 = .ok (.iload 6, 2) := by decide +kernel
theorem dX1_least_26 : decode cX1_least 26 = .ok (.iload_n 1, 1) := by decide +kernel
theorem dX1_least_27 : decode cX1_least 27 = .ok (.i2l, 1) := by decide +kernel
theorem dX1_least_28 : decode cX1_least 28 = .ok (.iload_n 2, 1) := by decide +kernel
theorem dX1_least_29 : decode cX1_least 29 = .ok (.i2l, 1) := by decide +kernel
theorem dX1_least_30 : decode cX1_least 30 = .ok (.invokevirtual 64, 3) := by decide +kernel
theorem dX1_least_33 : decode cX1_least 33 = .ok (.lload_n 3, 1) := by decide +kernel
theorem dX1_least_34 : decode cX1_least 34 = .ok (.lcmp, 1) := by decide +kernel
theorem dX1_least_35 : decode cX1_least 35 = .ok (.ifCond .gt 29, 3) := by decide +kernel
theorem dX1_least_38 : decode cX1_least 38 = .ok (.iload 5, 2) := by decide +kernel
theorem dX1_least_40 : decode cX1_least 40 = .ok (.ifCond .lt 15, 3) := by decide +kernel
theorem dX1_least_43 : decode cX1_least 43 = .ok (.aload_n 0, 1) := by decide +kernel
theorem dX1_least_44 : decode cX1_least 44 = .ok (.getfield 30, 3) := by decide +kernel
theorem dX1_least_47 : decode cX1_least 47 = .ok (.iload 6, 2) := by decide +kernel
theorem dX1_least_49 : decode cX1_least 49 = .ok (.iaload, 1) := by decide +kernel
theorem dX1_least_50 : decode cX1_least 50 = .ok (.iload 5, 2) := by decide +kernel
theorem dX1_least_52 : decode cX1_least 52 = .ok (.if_icmp .ge 12, 3) := by decide +kernel
theorem dX1_least_55 : decode cX1_least 55 = .ok (.aload_n 0, 1) := by decide +kernel
theorem dX1_least_56 : decode cX1_least 56 = .ok (.getfield 30, 3) := by decide +kernel
theorem dX1_least_59 : decode cX1_least 59 = .ok (.iload 6, 2) := by decide +kernel
theorem dX1_least_61 : decode cX1_least 61 = .ok (.iaload, 1) := by decide +kernel
theorem dX1_least_62 : decode cX1_least 62 = .ok (.istore 5, 2) := by decide +kernel
theorem dX1_least_64 : decode cX1_least 64 = .ok (.iinc 6 1, 3) := by decide +kernel
theorem dX1_least_67 : decode cX1_least 67 = .ok (.goto (-61), 3) := by decide +kernel
theorem dX1_least_70 : decode cX1_least 70 = .ok (.iload 5, 2) := by decide +kernel
theorem dX1_least_72 : decode cX1_least 72 = .ok (.ireturn, 1) := by decide +kernel
theorem dX1_kind_0 : decode cX1_kind 0 = .ok (.aload_n 0, 1) := by decide +kernel
theorem dX1_kind_1 : decode cX1_kind 1 = .ok (.iload_n 1, 1) := by decide +kernel
theorem dX1_kind_2 : decode cX1_kind 2 = .ok (.invokevirtual 49, 3) := by decide +kernel
theorem dX1_kind_5 : decode cX1_kind 5 = .ok (.ifCond .ne 5, 3) := by decide +kernel
theorem dX1_kind_8 : decode cX1_kind 8 = .ok (.iconst (-1), 1) := by decide +kernel
theorem dX1_kind_9 : decode cX1_kind 9 = .ok (.ireturn, 1) := by decide +kernel
theorem dX1_kind_10 : decode cX1_kind 10 = .ok (.aload_n 0, 1) := by decide +kernel
theorem dX1_kind_11 : decode cX1_kind 11 = .ok (.aload_n 0, 1) := by decide +kernel
theorem dX1_kind_12 : decode cX1_kind 12 = .ok (.getfield 60, 3) := by decide +kernel
theorem dX1_kind_15 : decode cX1_kind 15 = .ok (.invokevirtual 85, 3) := by decide +kernel
theorem dX1_kind_18 : decode cX1_kind 18 = .ok (.aload_n 0, 1) := by decide +kernel
theorem dX1_kind_19 : decode cX1_kind 19 = .ok (.getfield 27, 3) := by decide +kernel
theorem dX1_kind_22 : decode cX1_kind 22 = .ok (.iload_n 1, 1) := by decide +kernel
theorem dX1_kind_23 : decode cX1_kind 23 = .ok (.baload, 1) := by decide +kernel
theorem dX1_kind_24 : decode cX1_kind 24 = .ok (.ifCond .eq 7, 3) := by decide +kernel
theorem dX1_kind_27 : decode cX1_kind 27 = .ok (.iconst 2, 1) := by decide +kernel
theorem dX1_kind_28 : decode cX1_kind 28 = .ok (.goto 17, 3) := by decide +kernel
theorem dX1_kind_31 : decode cX1_kind 31 = .ok (.aload_n 0, 1) := by decide +kernel
theorem dX1_kind_32 : decode cX1_kind 32 = .ok (.getfield 30, 3) := by decide +kernel
theorem dX1_kind_35 : decode cX1_kind 35 = .ok (.iload_n 1, 1) := by decide +kernel
theorem dX1_kind_36 : decode cX1_kind 36 = .ok (.iaload, 1) := by decide +kernel
theorem dX1_kind_37 : decode cX1_kind 37 = .ok (.ifCond .lt 7, 3) := by decide +kernel
theorem dX1_kind_40 : decode cX1_kind 40 = .ok (.iconst 1, 1) := by decide +kernel
theorem dX1_kind_41 : decode cX1_kind 41 = .ok (.goto 4, 3) := by decide +kernel
theorem dX1_kind_44 : decode cX1_kind 44 = .ok (.iconst 0, 1) := by decide +kernel
theorem dX1_kind_45 : decode cX1_kind 45 = .ok (.ireturn, 1) := by decide +kernel
theorem dX1_crowd_0 : decode cX1_crowd 0 = .ok (.aload_n 0, 1) := by decide +kernel
theorem dX1_crowd_1 : decode cX1_crowd 1 = .ok (.iload_n 1, 1) := by decide +kernel
theorem dX1_crowd_2 : decode cX1_crowd 2 = .ok (.invokevirtual 49, 3) := by decide +kernel
theorem dX1_crowd_5 : decode cX1_crowd 5 = .ok (.ifCond .ne 5, 3) := by decide +kernel
theorem dX1_crowd_8 : decode cX1_crowd 8 = .ok (.iconst (-1), 1) := by decide +kernel
theorem dX1_crowd_9 : decode cX1_crowd 9 = .ok (.ireturn, 1) := by decide +kernel
theorem dX1_crowd_10 : decode cX1_crowd 10 = .ok (.aload_n 0, 1) := by decide +kernel
theorem dX1_crowd_11 : decode cX1_crowd 11 = .ok (.aload_n 0, 1) := by decide +kernel
theorem dX1_crowd_12 : decode cX1_crowd 12 = .ok (.getfield 60, 3) := by decide +kernel
theorem dX1_crowd_15 : decode cX1_crowd 15 = .ok (.invokevirtual 85, 3) := by decide +kernel
theorem dX1_crowd_18 : decode cX1_crowd 18 = .ok (.aload_n 0, 1) := by decide +kernel
theorem dX1_crowd_19 : decode cX1_crowd 19 = .ok (.getfield 30, 3) := by decide +kernel
theorem dX1_crowd_22 : decode cX1_crowd 22 = .ok (.iload_n 1, 1) := by decide +kernel
theorem dX1_crowd_23 : decode cX1_crowd 23 = .ok (.iaload, 1) := by decide +kernel
theorem dX1_crowd_24 : decode cX1_crowd 24 = .ok (.ireturn, 1) := by decide +kernel
theorem dX1_count_0 : decode cX1_count 0 = .ok (.iload_n 1, 1) := by decide +kernel
theorem dX1_count_1 : decode cX1_count 1 = .ok (.ifCond .lt 8, 3) := by decide +kernel
theorem dX1_count_4 : decode cX1_count 4 = .ok (.iload_n 1, 1) := by decide +kernel
theorem dX1_count_5 : decode cX1_count 5 = .ok (.iconst 5, 1) := by decide +kernel
theorem dX1_count_6 : decode cX1_count 6 = .ok (.if_icmp .le 5, 3) := by decide +kernel
theorem dX1_count_9 : decode cX1_count 9 = .ok (.iconst (-1), 1) := by decide +kernel
theorem dX1_count_10 : decode cX1_count 10 = .ok (.ireturn, 1) := by decide +kernel
theorem dX1_count_11 : decode cX1_count 11 = .ok (.aload_n 0, 1) := by decide +kernel
theorem dX1_count_12 : decode cX1_count 12 = .ok (.aload_n 0, 1) := by decide +kernel
theorem dX1_count_13 : decode cX1_count 13 = .ok (.getfield 60, 3) := by decide +kernel
theorem dX1_count_16 : decode cX1_count 16 = .ok (.invokevirtual 85, 3) := by decide +kernel
theorem dX1_count_19 : decode cX1_count 19 = .ok (.iconst 0, 1) := by decide +kernel
theorem dX1_count_20 : decode cX1_count 20 = .ok (.istore_n 2, 1) := by decide +kernel
theorem dX1_count_21 : decode cX1_count 21 = .ok (.iconst 0, 1) := by decide +kernel
theorem dX1_count_22 : decode cX1_count 22 = .ok (.istore_n 3, 1) := by decide +kernel
theorem dX1_count_23 : decode cX1_count 23 = .ok (.iconst 0, 1) := by decide +kernel
theorem dX1_count_24 : decode cX1_count 24 = .ok (.istore 4, 2) := by decide +kernel
theorem dX1_count_26 : decode cX1_count 26 = .ok (.iconst 0, 1) := by decide +kernel
theorem dX1_count_27 : decode cX1_count 27 = .ok (.istore 5, 2) := by decide +kernel
theorem dX1_count_29 : decode cX1_count 29 = .ok (.iload 5, 2) := by decide +kernel
theorem dX1_count_31 : decode cX1_count 31 = .ok (.bipush 120, 2) := by decide +kernel
theorem dX1_count_33 : decode cX1_count 33 = .ok (.if_icmp .ge 80, 3) := by decide +kernel
theorem dX1_count_36 : decode cX1_count 36 = .ok (.aload_n 0, 1) := by decide +kernel
theorem dX1_count_37 : decode cX1_count 37 = .ok (.getfield 7, 3) := by decide +kernel
theorem dX1_count_40 : decode cX1_count 40 = .ok (.iload 5, 2) := by decide +kernel
theorem dX1_count_42 : decode cX1_count 42 = .ok (.baload, 1) := by decide +kernel
theorem dX1_count_43 : decode cX1_count 43 = .ok (.ifCond .ne 6, 3) := by decide +kernel
theorem dX1_count_46 : decode cX1_count 46 = .ok (.goto 61, 3) := by decide +kernel
theorem dX1_count_49 : decode cX1_count 49 = .ok (.iload_n 2, 1) := by decide +kernel
theorem dX1_count_50 : decode cX1_count 50 = .ok (.aload_n 0, 1) := by decide +kernel
theorem dX1_count_51 : decode cX1_count 51 = .ok (.getfield 27, 3) := by decide +kernel
theorem dX1_count_54 : decode cX1_count 54 = .ok (.iload 5, 2) := by decide +kernel
theorem dX1_count_56 : decode cX1_count 56 = .ok (.baload, 1) := by decide +kernel
theorem dX1_count_57 : decode cX1_count 57 = .ok (.ifCond .eq 7, 3) := by decide +kernel
theorem dX1_count_60 : decode cX1_count 60 = .ok (.iconst 1, 1) := by decide +kernel
theorem dX1_count_61 : decode cX1_count 61 = .ok (.goto 4, 3) := by decide +kernel
theorem dX1_count_64 : decode cX1_count 64 = .ok (.iconst 0, 1) := by decide +kernel
theorem dX1_count_65 : decode cX1_count 65 = .ok (.iadd, 1) := by decide +kernel
theorem dX1_count_66 : decode cX1_count 66 = .ok (.istore_n 2, 1) := by decide +kernel
theorem dX1_count_67 : decode cX1_count 67 = .ok (.iload_n 3, 1) := by decide +kernel
theorem dX1_count_68 : decode cX1_count 68 = .ok (.aload_n 0, 1) := by decide +kernel
theorem dX1_count_69 : decode cX1_count 69 = .ok (.getfield 27, 3) := by decide +kernel
theorem dX1_count_72 : decode cX1_count 72 = .ok (.iload 5, 2) := by decide +kernel
theorem dX1_count_74 : decode cX1_count 74 = .ok (.baload, 1) := by decide +kernel
theorem dX1_count_75 : decode cX1_count 75 = .ok (.ifCond .ne 17, 3) := by decide +kernel
theorem dX1_count_78 : decode cX1_count 78 = .ok (.aload_n 0, 1) := by decide +kernel
theorem dX1_count_79 : decode cX1_count 79 = .ok (.getfield 30, 3) := by decide +kernel
theorem dX1_count_82 : decode cX1_count 82 = .ok (.iload 5, 2) := by decide +kernel
theorem dX1_count_84 : decode cX1_count 84 = .ok (.iaload, 1) := by decide +kernel
theorem dX1_count_85 : decode cX1_count 85 = .ok (.ifCond .lt 7, 3) := by decide +kernel
theorem dX1_count_88 : decode cX1_count 88 = .ok (.iconst 1, 1) := by decide +kernel
theorem dX1_count_89 : decode cX1_count 89 = .ok (.goto 4, 3) := by decide +kernel
theorem dX1_count_92 : decode cX1_count 92 = .ok (.iconst 0, 1) := by decide +kernel
theorem dX1_count_93 : decode cX1_count 93 = .ok (.iadd, 1) := by decide +kernel
theorem dX1_count_94 : decode cX1_count 94 = .ok (.istore_n 3, 1) := by decide +kernel
theorem dX1_count_95 : decode cX1_count 95 = .ok (.iload 4, 2) := by decide +kernel
theorem dX1_count_97 : decode cX1_count 97 = .ok (.aload_n 0, 1) := by decide +kernel
theorem dX1_count_98 : decode cX1_count 98 = .ok (.getfield 20, 3) := by decide +kernel
theorem dX1_count_101 : decode cX1_count 101 = .ok (.iload 5, 2) := by decide +kernel
theorem dX1_count_103 : decode cX1_count 103 = .ok (.iaload, 1) := by decide +kernel
theorem dX1_count_104 : decode cX1_count 104 = .ok (.iadd, 1) := by decide +kernel
theorem dX1_count_105 : decode cX1_count 105 = .ok (.istore 4, 2) := by decide +kernel
theorem dX1_count_107 : decode cX1_count 107 = .ok (.iinc 5 1, 3) := by decide +kernel
theorem dX1_count_110 : decode cX1_count 110 = .ok (.goto (-81), 3) := by decide +kernel
theorem dX1_count_113 : decode cX1_count 113 = .ok (.iload_n 1, 1) := by decide +kernel
theorem dX1_count_114 : decode cX1_count 114 = .ok (.ifCond .ne 10, 3) := by decide +kernel
theorem dX1_count_117 : decode cX1_count 117 = .ok (.aload_n 0, 1) := by decide +kernel
theorem dX1_count_118 : decode cX1_count 118 = .ok (.getfield 70, 3) := by decide +kernel
theorem dX1_count_121 : decode cX1_count 121 = .ok (.goto 51, 3) := by decide +kernel
theorem dX1_count_124 : decode cX1_count 124 = .ok (.iload_n 1, 1) := by decide +kernel
theorem dX1_count_125 : decode cX1_count 125 = .ok (.iconst 1, 1) := by decide +kernel
theorem dX1_count_126 : decode cX1_count 126 = .ok (.if_icmp .ne 7, 3) := by decide +kernel
theorem dX1_count_129 : decode cX1_count 129 = .ok (.iload_n 2, 1) := by decide +kernel
theorem dX1_count_130 : decode cX1_count 130 = .ok (.goto 42, 3) := by decide +kernel
theorem dX1_count_133 : decode cX1_count 133 = .ok (.iload_n 1, 1) := by decide +kernel
theorem dX1_count_134 : decode cX1_count 134 = .ok (.iconst 2, 1) := by decide +kernel
theorem dX1_count_135 : decode cX1_count 135 = .ok (.if_icmp .ne 7, 3) := by decide +kernel
theorem dX1_count_138 : decode cX1_count 138 = .ok (.iload_n 3, 1) := by decide +kernel
theorem dX1_count_139 : decode cX1_count 139 = .ok (.goto 33, 3) := by decide +kernel
theorem dX1_count_142 : decode cX1_count 142 = .ok (.iload_n 1, 1) := by decide +kernel
theorem dX1_count_143 : decode cX1_count 143 = .ok (.iconst 3, 1) := by decide +kernel
theorem dX1_count_144 : decode cX1_count 144 = .ok (.if_icmp .ne 14, 3) := by decide +kernel
theorem dX1_count_147 : decode cX1_count 147 = .ok (.aload_n 0, 1) := by decide +kernel
theorem dX1_count_148 : decode cX1_count 148 = .ok (.invokevirtual 53, 3) := by decide +kernel
theorem dX1_count_151 : decode cX1_count 151 = .ok (.iload_n 2, 1) := by decide +kernel
theorem dX1_count_152 : decode cX1_count 152 = .ok (.isub, 1) := by decide +kernel
theorem dX1_count_153 : decode cX1_count 153 = .ok (.iload_n 3, 1) := by decide +kernel
theorem dX1_count_154 : decode cX1_count 154 = .ok (.isub, 1) := by decide +kernel
theorem dX1_count_155 : decode cX1_count 155 = .ok (.goto 17, 3) := by decide +kernel
theorem dX1_count_158 : decode cX1_count 158 = .ok (.iload_n 1, 1) := by decide +kernel
theorem dX1_count_159 : decode cX1_count 159 = .ok (.iconst 4, 1) := by decide +kernel
theorem dX1_count_160 : decode cX1_count 160 = .ok (.if_icmp .ne 10, 3) := by decide +kernel
theorem dX1_count_163 : decode cX1_count 163 = .ok (.aload_n 0, 1) := by decide +kernel
theorem dX1_count_164 : decode cX1_count 164 = .ok (.invokevirtual 53, 3) := by decide +kernel
theorem dX1_count_167 : decode cX1_count 167 = .ok (.goto 5, 3) := by decide +kernel
theorem dX1_count_170 : decode cX1_count 170 = .ok (.iload 4, 2) := by decide +kernel
theorem dX1_count_172 : decode cX1_count 172 = .ok (.ireturn, 1) := by decide +kernel
theorem dX1_about_0 : decode cX1_about 0 = .ok (.aload_n 0, 1) := by decide +kernel
theorem dX1_about_1 : decode cX1_about 1 = .ok (.aload_n 0, 1) := by decide +kernel
theorem dX1_about_2 : decode cX1_about 2 = .ok (.getfield 60, 3) := by decide +kernel
theorem dX1_about_5 : decode cX1_about 5 = .ok (.invokevirtual 85, 3) := by decide +kernel
theorem dX1_about_8 : decode cX1_about 8 = .ok (.iload_n 1, 1) := by decide +kernel
theorem dX1_about_9 : decode cX1_about 9 = .ok (.ifCond .lt 21, 3) := by decide +kernel
theorem dX1_about_12 : decode cX1_about 12 = .ok (.iload_n 1, 1) := by decide +kernel
theorem dX1_about_13 : decode cX1_about 13 = .ok (.aload_n 0, 1) := by decide +kernel
theorem dX1_about_14 : decode cX1_about 14 = .ok (.getfield 70, 3) := by decide +kernel
theorem dX1_about_17 : decode cX1_about 17 = .ok (.if_icmp .ge 13, 3) := by decide +kernel
theorem dX1_about_20 : decode cX1_about 20 = .ok (.iload_n 2, 1) := by decide +kernel
theorem dX1_about_21 : decode cX1_about 21 = .ok (.ifCond .lt 9, 3) := by decide +kernel
theorem dX1_about_24 : decode cX1_about 24 = .ok (.iload_n 2, 1) := by decide +kernel
theorem dX1_about_25 : decode cX1_about 25 = .ok (.bipush 7, 2) := by decide +kernel
theorem dX1_about_27 : decode cX1_about 27 = .ok (.if_icmp .le 5, 3) := by decide +kernel
theorem dX1_about_30 : decode cX1_about 30 = .ok (.iconst (-1), 1) := by decide +kernel
theorem dX1_about_31 : decode cX1_about 31 = .ok (.ireturn, 1) := by decide +kernel
theorem dX1_about_32 : decode cX1_about 32 = .ok (.iconst 0, 1) := by decide +kernel
theorem dX1_about_33 : decode cX1_about 33 = .ok (.istore_n 3, 1) := by decide +kernel
theorem dX1_about_34 : decode cX1_about 34 = .ok (.iconst 0, 1) := by decide +kernel
theorem dX1_about_35 : decode cX1_about 35 = .ok (.istore 4, 2) := by decide +kernel
theorem dX1_about_37 : decode cX1_about 37 = .ok (.iconst 0, 1) := by decide +kernel
theorem dX1_about_38 : decode cX1_about 38 = .ok (.istore 5, 2) := by decide +kernel
theorem dX1_about_40 : decode cX1_about 40 = .ok (.iconst (-1), 1) := by decide +kernel
theorem dX1_about_41 : decode cX1_about 41 = .ok (.istore 6, 2) := by decide +kernel
theorem dX1_about_43 : decode cX1_about 43 = .ok (.ldc 44, 2) := by decide +kernel
theorem dX1_about_45 : decode cX1_about 45 = .ok (.istore 7, 2) := by decide +kernel
theorem dX1_about_47 : decode cX1_about 47 = .ok (.ldc 44, 2) := by decide +kernel
theorem dX1_about_49 : decode cX1_about 49 = .ok (.istore 8, 2) := by decide +kernel
theorem dX1_about_51 : decode cX1_about 51 = .ok (.ldc 43, 2) := by decide +kernel
theorem dX1_about_53 : decode cX1_about 53 = .ok (.istore 9, 2) := by decide +kernel
theorem dX1_about_55 : decode cX1_about 55 = .ok (.ldc 43, 2) := by decide +kernel
theorem dX1_about_57 : decode cX1_about 57 = .ok (.istore 10, 2) := by decide +kernel
theorem dX1_about_59 : decode cX1_about 59 = .ok (.iconst 0, 1) := by decide +kernel
theorem dX1_about_60 : decode cX1_about 60 = .ok (.istore 11, 2) := by decide +kernel
theorem dX1_about_62 : decode cX1_about 62 = .ok (.iload 11, 2) := by decide +kernel
theorem dX1_about_64 : decode cX1_about 64 = .ok (.bipush 120, 2) := by decide +kernel
theorem dX1_about_66 : decode cX1_about 66 = .ok (.if_icmp .ge 196, 3) := by decide +kernel
theorem dX1_about_69 : decode cX1_about 69 = .ok (.aload_n 0, 1) := by decide +kernel
theorem dX1_about_70 : decode cX1_about 70 = .ok (.getfield 7, 3) := by decide +kernel
theorem dX1_about_73 : decode cX1_about 73 = .ok (.iload 11, 2) := by decide +kernel
theorem dX1_about_75 : decode cX1_about 75 = .ok (.baload, 1) := by decide +kernel
theorem dX1_about_76 : decode cX1_about 76 = .ok (.ifCond .eq 180, 3) := by decide +kernel
theorem dX1_about_79 : decode cX1_about 79 = .ok (.aload_n 0, 1) := by decide +kernel
theorem dX1_about_80 : decode cX1_about 80 = .ok (.getfield 30, 3) := by decide +kernel
theorem dX1_about_83 : decode cX1_about 83 = .ok (.iload 11, 2) := by decide +kernel
theorem dX1_about_85 : decode cX1_about 85 = .ok (.iaload, 1) := by decide +kernel
theorem dX1_about_86 : decode cX1_about 86 = .ok (.iload_n 1, 1) := by decide +kernel
theorem dX1_about_87 : decode cX1_about 87 = .ok (.if_icmp .eq 6, 3) := by decide +kernel
theorem dX1_about_90 : decode cX1_about 90 = .ok (.goto 166, 3) := by decide +kernel
theorem dX1_about_93 : decode cX1_about 93 = .ok (.iinc 3 1, 3) := by decide +kernel
theorem dX1_about_96 : decode cX1_about 96 = .ok (.iload 4, 2) := by decide +kernel
theorem dX1_about_98 : decode cX1_about 98 = .ok (.aload_n 0, 1) := by decide +kernel
theorem dX1_about_99 : decode cX1_about 99 = .ok (.getfield 27, 3) := by decide +kernel
theorem dX1_about_102 : decode cX1_about 102 = .ok (.iload 11, 2) := by decide +kernel
theorem dX1_about_104 : decode cX1_about 104 = .ok (.baload, 1) := by decide +kernel
theorem dX1_about_105 : decode cX1_about 105 = .ok (.ifCond .eq 7, 3) := by decide +kernel
theorem dX1_about_108 : decode cX1_about 108 = .ok (.iconst 1, 1) := by decide +kernel
theorem dX1_about_109 : decode cX1_about 109 = .ok (.goto 4, 3) := by decide +kernel
theorem dX1_about_112 : decode cX1_about 112 = .ok (.iconst 0, 1) := by decide +kernel
theorem dX1_about_113 : decode cX1_about 113 = .ok (.iadd, 1) := by decide +kernel
theorem dX1_about_114 : decode cX1_about 114 = .ok (.istore 4, 2) := by decide +kernel
theorem dX1_about_116 : decode cX1_about 116 = .ok (.iload 5, 2) := by decide +kernel
theorem dX1_about_118 : decode cX1_about 118 = .ok (.aload_n 0, 1) := by decide +kernel
theorem dX1_about_119 : decode cX1_about 119 = .ok (.getfield 20, 3) := by decide +kernel
theorem dX1_about_122 : decode cX1_about 122 = .ok (.iload 11, 2) := by decide +kernel
theorem dX1_about_124 : decode cX1_about 124 = .ok (.iaload, 1) := by decide +kernel
theorem dX1_about_125 : decode cX1_about 125 = .ok (.iadd, 1) := by decide +kernel
theorem dX1_about_126 : decode cX1_about 126 = .ok (.istore 5, 2) := by decide +kernel
theorem dX1_about_128 : decode cX1_about 128 = .ok (.iload 6, 2) := by decide +kernel
theorem dX1_about_130 : decode cX1_about 130 = .ok (.ifCond .ge 18, 3) := by decide +kernel
theorem dX1_about_133 : decode cX1_about 133 = .ok (.aload_n 0, 1) := by decide +kernel
theorem dX1_about_134 : decode cX1_about 134 = .ok (.getfield 27, 3) := by decide +kernel
theorem dX1_about_137 : decode cX1_about 137 = .ok (.iload 11, 2) := by decide +kernel
theorem dX1_about_139 : decode cX1_about 139 = .ok (.baload, 1) := by decide +kernel
theorem dX1_about_140 : decode cX1_about 140 = .ok (.ifCond .eq 8, 3) := by decide +kernel
theorem dX1_about_143 : decode cX1_about 143 = .ok (.iload 11, 2) := by decide +kernel
theorem dX1_about_145 : decode cX1_about 145 = .ok (.goto 5, 3) := by decide +kernel
theorem dX1_about_148 : decode cX1_about 148 = .ok (.iload 6, 2) := by decide +kernel
theorem dX1_about_150 : decode cX1_about 150 = .ok (.istore 6, 2) := by decide +kernel
theorem dX1_about_152 : decode cX1_about 152 = .ok (.aload_n 0, 1) := by decide +kernel
theorem dX1_about_153 : decode cX1_about 153 = .ok (.getfield 13, 3) := by decide +kernel
theorem dX1_about_156 : decode cX1_about 156 = .ok (.iload 11, 2) := by decide +kernel
theorem dX1_about_158 : decode cX1_about 158 = .ok (.iaload, 1) := by decide +kernel
theorem dX1_about_159 : decode cX1_about 159 = .ok (.iload 7, 2) := by decide +kernel
theorem dX1_about_161 : decode cX1_about 161 = .ok (.if_icmp .ge 13, 3) := by decide +kernel
theorem dX1_about_164 : decode cX1_about 164 = .ok (.aload_n 0, 1) := by decide +kernel
theorem dX1_about_165 : decode cX1_about 165 = .ok (.getfield 13, 3) := by decide +kernel
theorem dX1_about_168 : decode cX1_about 168 = .ok (.iload 11, 2) := by decide +kernel
theorem dX1_about_170 : decode cX1_about 170 = .ok (.iaload, 1) := by decide +kernel
theorem dX1_about_171 : decode cX1_about 171 = .ok (.goto 5, 3) := by decide +kernel
theorem dX1_about_174 : decode cX1_about 174 = .ok (.iload 7, 2) := by decide +kernel
theorem dX1_about_176 : decode cX1_about 176 = .ok (.istore 7, 2) := by decide +kernel
theorem dX1_about_178 : decode cX1_about 178 = .ok (.aload_n 0, 1) := by decide +kernel
theorem dX1_about_179 : decode cX1_about 179 = .ok (.getfield 17, 3) := by decide +kernel
theorem dX1_about_182 : decode cX1_about 182 = .ok (.iload 11, 2) := by decide +kernel
theorem dX1_about_184 : decode cX1_about 184 = .ok (.iaload, 1) := by decide +kernel
theorem dX1_about_185 : decode cX1_about 185 = .ok (.iload 8, 2) := by decide +kernel
theorem dX1_about_187 : decode cX1_about 187 = .ok (.if_icmp .ge 13, 3) := by decide +kernel
theorem dX1_about_190 : decode cX1_about 190 = .ok (.aload_n 0, 1) := by decide +kernel
theorem dX1_about_191 : decode cX1_about 191 = .ok (.getfield 17, 3) := by decide +kernel
theorem dX1_about_194 : decode cX1_about 194 = .ok (.iload 11, 2) := by decide +kernel
theorem dX1_about_196 : decode cX1_about 196 = .ok (.iaload, 1) := by decide +kernel
theorem dX1_about_197 : decode cX1_about 197 = .ok (.goto 5, 3) := by decide +kernel
theorem dX1_about_200 : decode cX1_about 200 = .ok (.iload 8, 2) := by decide +kernel
theorem dX1_about_202 : decode cX1_about 202 = .ok (.istore 8, 2) := by decide +kernel
theorem dX1_about_204 : decode cX1_about 204 = .ok (.aload_n 0, 1) := by decide +kernel
theorem dX1_about_205 : decode cX1_about 205 = .ok (.getfield 13, 3) := by decide +kernel
theorem dX1_about_208 : decode cX1_about 208 = .ok (.iload 11, 2) := by decide +kernel
theorem dX1_about_210 : decode cX1_about 210 = .ok (.iaload, 1) := by decide +kernel
theorem dX1_about_211 : decode cX1_about 211 = .ok (.iload 9, 2) := by decide +kernel
theorem dX1_about_213 : decode cX1_about 213 = .ok (.if_icmp .le 13, 3) := by decide +kernel
theorem dX1_about_216 : decode cX1_about 216 = .ok (.aload_n 0, 1) := by decide +kernel
theorem dX1_about_217 : decode cX1_about 217 = .ok (.getfield 13, 3) := by decide +kernel
theorem dX1_about_220 : decode cX1_about 220 = .ok (.iload 11, 2) := by decide +kernel
theorem dX1_about_222 : decode cX1_about 222 = .ok (.iaload, 1) := by decide +kernel
theorem dX1_about_223 : decode cX1_about 223 = .ok (.goto 5, 3) := by decide +kernel
theorem dX1_about_226 : decode cX1_about 226 = .ok (.iload 9, 2) := by decide +kernel
theorem dX1_about_228 : decode cX1_about 228 = .ok (.istore 9, 2) := by decide +kernel
theorem dX1_about_230 : decode cX1_about 230 = .ok (.aload_n 0, 1) := by decide +kernel
theorem dX1_about_231 : decode cX1_about 231 = .ok (.getfield 17, 3) := by decide +kernel
theorem dX1_about_234 : decode cX1_about 234 = .ok (.iload 11, 2) := by decide +kernel
theorem dX1_about_236 : decode cX1_about 236 = .ok (.iaload, 1) := by decide +kernel
theorem dX1_about_237 : decode cX1_about 237 = .ok (.iload 10, 2) := by decide +kernel
theorem dX1_about_239 : decode cX1_about 239 = .ok (.if_icmp .le 13, 3) := by decide +kernel
theorem dX1_about_242 : decode cX1_about 242 = .ok (.aload_n 0, 1) := by decide +kernel
theorem dX1_about_243 : decode cX1_about 243 = .ok (.getfield 17, 3) := by decide +kernel
theorem dX1_about_246 : decode cX1_about 246 = .ok (.iload 11, 2) := by decide +kernel
theorem dX1_about_248 : decode cX1_about 248 = .ok (.iaload, 1) := by decide +kernel
theorem dX1_about_249 : decode cX1_about 249 = .ok (.goto 5, 3) := by decide +kernel
theorem dX1_about_252 : decode cX1_about 252 = .ok (.iload 10, 2) := by decide +kernel
theorem dX1_about_254 : decode cX1_about 254 = .ok (.istore 10, 2) := by decide +kernel
theorem dX1_about_256 : decode cX1_about 256 = .ok (.iinc 11 1, 3) := by decide +kernel
theorem dX1_about_259 : decode cX1_about 259 = .ok (.goto (-197), 3) := by decide +kernel
theorem dX1_about_262 : decode cX1_about 262 = .ok (.iload_n 2, 1) := by decide +kernel
theorem dX1_about_263 : decode cX1_about 263 = .ok (.tableswitch 61 0 6 #[41, 43, 46, 49, 52, 55, 58], 41) := by decide +kernel
theorem dX1_about_304 : decode cX1_about 304 = .ok (.iload_n 3, 1) := by decide +kernel
theorem dX1_about_305 : decode cX1_about 305 = .ok (.ireturn, 1) := by decide +kernel
theorem dX1_about_306 : decode cX1_about 306 = .ok (.iload 4, 2) := by decide +kernel
theorem dX1_about_308 : decode cX1_about 308 = .ok (.ireturn, 1) := by decide +kernel
theorem dX1_about_309 : decode cX1_about 309 = .ok (.iload 5, 2) := by decide +kernel
theorem dX1_about_311 : decode cX1_about 311 = .ok (.ireturn, 1) := by decide +kernel
theorem dX1_about_312 : decode cX1_about 312 = .ok (.iload 6, 2) := by decide +kernel
theorem dX1_about_314 : decode cX1_about 314 = .ok (.ireturn, 1) := by decide +kernel
theorem dX1_about_315 : decode cX1_about 315 = .ok (.iload 7, 2) := by decide +kernel
theorem dX1_about_317 : decode cX1_about 317 = .ok (.ireturn, 1) := by decide +kernel
theorem dX1_about_318 : decode cX1_about 318 = .ok (.iload 8, 2) := by decide +kernel
theorem dX1_about_320 : decode cX1_about 320 = .ok (.ireturn, 1) := by decide +kernel
theorem dX1_about_321 : decode cX1_about 321 = .ok (.iload 9, 2) := by decide +kernel
theorem dX1_about_323 : decode cX1_about 323 = .ok (.ireturn, 1) := by decide +kernel
theorem dX1_about_324 : decode cX1_about 324 = .ok (.iload 10, 2) := by decide +kernel
theorem dX1_about_326 : decode cX1_about 326 = .ok (.ireturn, 1) := by decide +kernel
theorem dX1_around_0 : decode cX1_around 0 = .ok (.aload_n 0, 1) := by decide +kernel
theorem dX1_around_1 : decode cX1_around 1 = .ok (.iload_n 1, 1) := by decide +kernel
theorem dX1_around_2 : decode cX1_around 2 = .ok (.invokevirtual 49, 3) := by decide +kernel
theorem dX1_around_5 : decode cX1_around 5 = .ok (.ifCond .eq 15, 3) := by decide +kernel
theorem dX1_around_8 : decode cX1_around 8 = .ok (.aload_n 0, 1) := by decide +kernel
theorem dX1_around_9 : decode cX1_around 9 = .ok (.iload_n 1, 1) := by decide +kernel
theorem dX1_around_10 : decode cX1_around 10 = .ok (.aload_n 0, 1) := by decide +kernel
theorem dX1_around_11 : decode cX1_around 11 = .ok (.getfield 60, 3) := by decide +kernel
theorem dX1_around_14 : decode cX1_around 14 = .ok (.invokevirtual 73, 3) := by decide +kernel
theorem dX1_around_17 : decode cX1_around 17 = .ok (.goto 4, 3) := by decide +kernel
theorem dX1_around_20 : decode cX1_around 20 = .ok (.iconst (-1), 1) := by decide +kernel
theorem dX1_around_21 : decode cX1_around 21 = .ok (.ireturn, 1) := by decide +kernel
theorem dX1_belongs_0 : decode cX1_belongs 0 = .ok (.iload_n 1, 1) := by decide +kernel
theorem dX1_belongs_1 : decode cX1_belongs 1 = .ok (.iload_n 2, 1) := by decide +kernel
theorem dX1_belongs_2 : decode cX1_belongs 2 = .ok (.invokestatic 45, 3) := by decide +kernel
theorem dX1_belongs_5 : decode cX1_belongs 5 = .ok (.ifCond .ne 5, 3) := by decide +kernel
theorem dX1_belongs_8 : decode cX1_belongs 8 = .ok (.iconst (-1), 1) := by decide +kernel
theorem dX1_belongs_9 : decode cX1_belongs 9 = .ok (.ireturn, 1) := by decide +kernel
theorem dX1_belongs_10 : decode cX1_belongs 10 = .ok (.aload_n 0, 1) := by decide +kernel
theorem dX1_belongs_11 : decode cX1_belongs 11 = .ok (.aload_n 0, 1) := by decide +kernel
theorem dX1_belongs_12 : decode cX1_belongs 12 = .ok (.getfield 60, 3) := by decide +kernel
theorem dX1_belongs_15 : decode cX1_belongs 15 = .ok (.invokevirtual 85, 3) := by decide +kernel
theorem dX1_belongs_18 : decode cX1_belongs 18 = .ok (.aload_n 0, 1) := by decide +kernel
theorem dX1_belongs_19 : decode cX1_belongs 19 = .ok (.iload_n 1, 1) := by decide +kernel
theorem dX1_belongs_20 : decode cX1_belongs 20 = .ok (.iload_n 2, 1) := by decide +kernel
theorem dX1_belongs_21 : decode cX1_belongs 21 = .ok (.aload_n 0, 1) := by decide +kernel
theorem dX1_belongs_22 : decode cX1_belongs 22 = .ok (.getfield 60, 3) := by decide +kernel
theorem dX1_belongs_25 : decode cX1_belongs 25 = .ok (.invokevirtual 81, 3) := by decide +kernel
theorem dX1_belongs_28 : decode cX1_belongs 28 = .ok (.ireturn, 1) := by decide +kernel
theorem dX1_findDense_0 : decode cX1_findDense 0 = .ok (.ldc2_w 68, 3) := by decide +kernel
theorem dX1_findDense_3 : decode cX1_findDense 3 = .ok (.lstore_n 2, 1) := by decide +kernel
theorem dX1_findDense_4 : decode cX1_findDense 4 = .ok (.iconst 0, 1) := by decide +kernel
theorem dX1_findDense_5 : decode cX1_findDense 5 = .ok (.istore 4, 2) := by decide +kernel
theorem dX1_findDense_7 : decode cX1_findDense 7 = .ok (.iload 4, 2) := by decide +kernel
theorem dX1_findDense_9 : decode cX1_findDense 9 = .ok (.bipush 120, 2) := by decide +kernel
theorem dX1_findDense_11 : decode cX1_findDense 11 = .ok (.if_icmp .ge 75, 3) := by decide +kernel
theorem dX1_findDense_14 : decode cX1_findDense 14 = .ok (.aload_n 0, 1) := by decide +kernel
theorem dX1_findDense_15 : decode cX1_findDense 15 = .ok (.getfield 7, 3) := by decide +kernel
theorem dX1_findDense_18 : decode cX1_findDense 18 = .ok (.iload 4, 2) := by decide +kernel
theorem dX1_findDense_20 : decode cX1_findDense 20 = .ok (.baload, 1) := by decide +kernel
theorem dX1_findDense_21 : decode cX1_findDense 21 = .ok (.ifCond .ne 6, 3) := by decide +kernel
theorem dX1_findDense_24 : decode cX1_findDense 24 = .ok (.goto 56, 3) := by decide +kernel
theorem dX1_findDense_27 : decode cX1_findDense 27 = .ok (.aload_n 0, 1) := by decide +kernel
theorem dX1_findDense_28 : decode cX1_findDense 28 = .ok (.iload_n 1, 1) := by decide +kernel
theorem dX1_findDense_29 : decode cX1_findDense 29 = .ok (.aload_n 0, 1) := by decide +kernel
theorem dX1_findDense_30 : decode cX1_findDense 30 = .ok (.getfield 13, 3) := by decide +kernel
theorem dX1_findDense_33 : decode cX1_findDense 33 = .ok (.iload 4, 2) := by decide +kernel
theorem dX1_findDense_35 : decode cX1_findDense 35 = .ok (.iaload, 1) := by decide +kernel
theorem dX1_findDense_36 : decode cX1_findDense 36 = .ok (.i2l, 1) := by decide +kernel
theorem dX1_findDense_37 : decode cX1_findDense 37 = .ok (.aload_n 0, 1) := by decide +kernel
theorem dX1_findDense_38 : decode cX1_findDense 38 = .ok (.getfield 17, 3) := by decide +kernel
theorem dX1_findDense_41 : decode cX1_findDense 41 = .ok (.iload 4, 2) := by decide +kernel
theorem dX1_findDense_43 : decode cX1_findDense 43 = .ok (.iaload, 1) := by decide +kernel
theorem dX1_findDense_44 : decode cX1_findDense 44 = .ok (.i2l, 1) := by decide +kernel
theorem dX1_findDense_45 : decode cX1_findDense 45 = .ok (.invokevirtual 64, 3) := by decide +kernel
theorem dX1_findDense_48 : decode cX1_findDense 48 = .ok (.lstore 5, 2) := by decide +kernel
theorem dX1_findDense_50 : decode cX1_findDense 50 = .ok (.lload_n 2, 1) := by decide +kernel
theorem dX1_findDense_51 : decode cX1_findDense 51 = .ok (.lconst 0, 1) := by decide +kernel
theorem dX1_findDense_52 : decode cX1_findDense 52 = .ok (.lcmp, 1) := by decide +kernel
theorem dX1_findDense_53 : decode cX1_findDense 53 = .ok (.ifCond .lt 10, 3) := by decide +kernel
theorem dX1_findDense_56 : decode cX1_findDense 56 = .ok (.lload 5, 2) := by decide +kernel
theorem dX1_findDense_58 : decode cX1_findDense 58 = .ok (.lload_n 2, 1) := by decide +kernel
theorem dX1_findDense_59 : decode cX1_findDense 59 = .ok (.lcmp, 1) := by decide +kernel
theorem dX1_findDense_60 : decode cX1_findDense 60 = .ok (.ifCond .ge 20, 3) := by decide +kernel
theorem dX1_findDense_63 : decode cX1_findDense 63 = .ok (.aload_n 0, 1) := by decide +kernel
theorem dX1_findDense_64 : decode cX1_findDense 64 = .ok (.iload_n 1, 1) := by decide +kernel
theorem dX1_findDense_65 : decode cX1_findDense 65 = .ok (.lload 5, 2) := by decide +kernel
theorem dX1_findDense_67 : decode cX1_findDense 67 = .ok (.invokevirtual 73, 3) := by decide +kernel
theorem dX1_findDense_70 : decode cX1_findDense 70 = .ok (.aload_n 0, 1) := by decide +kernel
theorem dX1_findDense_71 : decode cX1_findDense 71 = .ok (.getfield 23, 3) := by decide +kernel
theorem dX1_findDense_74 : decode cX1_findDense 74 = .ok (.if_icmp .lt 6, 3) := by decide +kernel
theorem dX1_findDense_77 : decode cX1_findDense 77 = .ok (.lload 5, 2) := by decide +kernel
theorem dX1_findDense_79 : decode cX1_findDense 79 = .ok (.lstore_n 2, 1) := by decide +kernel
theorem dX1_findDense_80 : decode cX1_findDense 80 = .ok (.iinc 4 1, 3) := by decide +kernel
theorem dX1_findDense_83 : decode cX1_findDense 83 = .ok (.goto (-76), 3) := by decide +kernel
theorem dX1_findDense_86 : decode cX1_findDense 86 = .ok (.lload_n 2, 1) := by decide +kernel
theorem dX1_findDense_87 : decode cX1_findDense 87 = .ok (.lreturn, 1) := by decide +kernel
theorem dX1_dense_0 : decode cX1_dense 0 = .ok (.aload_n 0, 1) := by decide +kernel
theorem dX1_dense_1 : decode cX1_dense 1 = .ok (.iload_n 1, 1) := by decide +kernel
theorem dX1_dense_2 : decode cX1_dense 2 = .ok (.invokevirtual 49, 3) := by decide +kernel
theorem dX1_dense_5 : decode cX1_dense 5 = .ok (.ifCond .eq 11, 3) := by decide +kernel
theorem dX1_dense_8 : decode cX1_dense 8 = .ok (.aload_n 0, 1) := by decide +kernel
theorem dX1_dense_9 : decode cX1_dense 9 = .ok (.iload_n 1, 1) := by decide +kernel
theorem dX1_dense_10 : decode cX1_dense 10 = .ok (.invokevirtual 89, 3) := by decide +kernel
theorem dX1_dense_13 : decode cX1_dense 13 = .ok (.goto 6, 3) := by decide +kernel
theorem dX1_dense_16 : decode cX1_dense 16 = .ok (.ldc2_w 68, 3) := by decide +kernel
theorem dX1_dense_19 : decode cX1_dense 19 = .ok (.lreturn, 1) := by decide +kernel
theorem dX1_greater_0 : decode cX1_greater 0 = .ok (.lload_n 0, 1) := by decide +kernel
theorem dX1_greater_1 : decode cX1_greater 1 = .ok (.lload_n 2, 1) := by decide +kernel
theorem dX1_greater_2 : decode cX1_greater 2 = .ok (.lcmp, 1) := by decide +kernel
theorem dX1_greater_3 : decode cX1_greater 3 = .ok (.ifCond .le 7, 3) := by decide +kernel
theorem dX1_greater_6 : decode cX1_greater 6 = .ok (.lload_n 0, 1) := by decide +kernel
theorem dX1_greater_7 : decode cX1_greater 7 = .ok (.goto 4, 3) := by decide +kernel
theorem dX1_greater_10 : decode cX1_greater 10 = .ok (.lload_n 2, 1) := by decide +kernel
theorem dX1_greater_11 : decode cX1_greater 11 = .ok (.lreturn, 1) := by decide +kernel
theorem dX1_meet_0 : decode cX1_meet 0 = .ok (.aload_n 0, 1) := by decide +kernel
theorem dX1_meet_1 : decode cX1_meet 1 = .ok (.iload_n 1, 1) := by decide +kernel
theorem dX1_meet_2 : decode cX1_meet 2 = .ok (.invokevirtual 49, 3) := by decide +kernel
theorem dX1_meet_5 : decode cX1_meet 5 = .ok (.ifCond .eq 11, 3) := by decide +kernel
theorem dX1_meet_8 : decode cX1_meet 8 = .ok (.aload_n 0, 1) := by decide +kernel
theorem dX1_meet_9 : decode cX1_meet 9 = .ok (.iload_n 2, 1) := by decide +kernel
theorem dX1_meet_10 : decode cX1_meet 10 = .ok (.invokevirtual 49, 3) := by decide +kernel
theorem dX1_meet_13 : decode cX1_meet 13 = .ok (.ifCond .ne 7, 3) := by decide +kernel
theorem dX1_meet_16 : decode cX1_meet 16 = .ok (.ldc2_w 68, 3) := by decide +kernel
theorem dX1_meet_19 : decode cX1_meet 19 = .ok (.lreturn, 1) := by decide +kernel
theorem dX1_meet_20 : decode cX1_meet 20 = .ok (.iconst 0, 1) := by decide +kernel
theorem dX1_meet_21 : decode cX1_meet 21 = .ok (.istore_n 3, 1) := by decide +kernel
theorem dX1_meet_22 : decode cX1_meet 22 = .ok (.iload_n 3, 1) := by decide +kernel
theorem dX1_meet_23 : decode cX1_meet 23 = .ok (.bipush 120, 2) := by decide +kernel
theorem dX1_meet_25 : decode cX1_meet 25 = .ok (.if_icmp .ge 51, 3) := by decide +kernel
theorem dX1_meet_28 : decode cX1_meet 28 = .ok (.aload_n 0, 1) := by decide +kernel
theorem dX1_meet_29 : decode cX1_meet 29 = .ok (.getfield 40, 3) := by decide +kernel
theorem dX1_meet_32 : decode cX1_meet 32 = .ok (.iload_n 3, 1) := by decide +kernel
theorem dX1_meet_33 : decode cX1_meet 33 = .ok (.aload_n 0, 1) := by decide +kernel
theorem dX1_meet_34 : decode cX1_meet 34 = .ok (.getfield 7, 3) := by decide +kernel
theorem dX1_meet_37 : decode cX1_meet 37 = .ok (.iload_n 3, 1) := by decide +kernel
theorem dX1_meet_38 : decode cX1_meet 38 = .ok (.baload, 1) := by decide +kernel
theorem dX1_meet_39 : decode cX1_meet 39 = .ok (.ifCond .eq 11, 3) := by decide +kernel
theorem dX1_meet_42 : decode cX1_meet 42 = .ok (.aload_n 0, 1) := by decide +kernel
theorem dX1_meet_43 : decode cX1_meet 43 = .ok (.iload_n 3, 1) := by decide +kernel
theorem dX1_meet_44 : decode cX1_meet 44 = .ok (.invokevirtual 89, 3) := by decide +kernel
theorem dX1_meet_47 : decode cX1_meet 47 = .ok (.goto 6, 3) := by decide +kernel
theorem dX1_meet_50 : decode cX1_meet 50 = .ok (.ldc2_w 68, 3) := by decide +kernel
theorem dX1_meet_53 : decode cX1_meet 53 = .ok (.lastore, 1) := by decide +kernel
theorem dX1_meet_54 : decode cX1_meet 54 = .ok (.aload_n 0, 1) := by decide +kernel
theorem dX1_meet_55 : decode cX1_meet 55 = .ok (.getfield 33, 3) := by decide +kernel
theorem dX1_meet_58 : decode cX1_meet 58 = .ok (.iload_n 3, 1) := by decide +kernel
theorem dX1_meet_59 : decode cX1_meet 59 = .ok (.iconst 0, 1) := by decide +kernel
theorem dX1_meet_60 : decode cX1_meet 60 = .ok (.bastore, 1) := by decide +kernel
theorem dX1_meet_61 : decode cX1_meet 61 = .ok (.aload_n 0, 1) := by decide +kernel
theorem dX1_meet_62 : decode cX1_meet 62 = .ok (.getfield 36, 3) := by decide +kernel
theorem dX1_meet_65 : decode cX1_meet 65 = .ok (.iload_n 3, 1) := by decide +kernel
theorem dX1_meet_66 : decode cX1_meet 66 = .ok (.ldc2_w 68, 3) := by decide +kernel
theorem dX1_meet_69 : decode cX1_meet 69 = .ok (.lastore, 1) := by decide +kernel
theorem dX1_meet_70 : decode cX1_meet 70 = .ok (.iinc 3 1, 3) := by decide +kernel
theorem dX1_meet_73 : decode cX1_meet 73 = .ok (.goto (-51), 3) := by decide +kernel
theorem dX1_meet_76 : decode cX1_meet 76 = .ok (.aload_n 0, 1) := by decide +kernel
theorem dX1_meet_77 : decode cX1_meet 77 = .ok (.getfield 36, 3) := by decide +kernel
theorem dX1_meet_80 : decode cX1_meet 80 = .ok (.iload_n 1, 1) := by decide +kernel
theorem dX1_meet_81 : decode cX1_meet 81 = .ok (.aload_n 0, 1) := by decide +kernel
theorem dX1_meet_82 : decode cX1_meet 82 = .ok (.getfield 40, 3) := by decide +kernel
theorem dX1_meet_85 : decode cX1_meet 85 = .ok (.iload_n 1, 1) := by decide +kernel
theorem dX1_meet_86 : decode cX1_meet 86 = .ok (.laload, 1) := by decide +kernel
theorem dX1_meet_87 : decode cX1_meet 87 = .ok (.lastore, 1) := by decide +kernel
theorem dX1_meet_88 : decode cX1_meet 88 = .ok (.iconst 1, 1) := by decide +kernel
theorem dX1_meet_89 : decode cX1_meet 89 = .ok (.istore_n 3, 1) := by decide +kernel
theorem dX1_meet_90 : decode cX1_meet 90 = .ok (.iload_n 3, 1) := by decide +kernel
theorem dX1_meet_91 : decode cX1_meet 91 = .ok (.ifCond .eq 220, 3) := by decide +kernel
theorem dX1_meet_94 : decode cX1_meet 94 = .ok (.iconst (-1), 1) := by decide +kernel
theorem dX1_meet_95 : decode cX1_meet 95 = .ok (.istore 4, 2) := by decide +kernel
theorem dX1_meet_97 : decode cX1_meet 97 = .ok (.iconst 0, 1) := by decide +kernel
theorem dX1_meet_98 : decode cX1_meet 98 = .ok (.istore 5, 2) := by decide +kernel
theorem dX1_meet_100 : decode cX1_meet 100 = .ok (.iload 5, 2) := by decide +kernel
theorem dX1_meet_102 : decode cX1_meet 102 = .ok (.bipush 120, 2) := by decide +kernel
theorem dX1_meet_104 : decode cX1_meet 104 = .ok (.if_icmp .ge 58, 3) := by decide +kernel
theorem dX1_meet_107 : decode cX1_meet 107 = .ok (.aload_n 0, 1) := by decide +kernel
theorem dX1_meet_108 : decode cX1_meet 108 = .ok (.getfield 33, 3) := by decide +kernel
theorem dX1_meet_111 : decode cX1_meet 111 = .ok (.iload 5, 2) := by decide +kernel
theorem dX1_meet_113 : decode cX1_meet 113 = .ok (.baload, 1) := by decide +kernel
theorem dX1_meet_114 : decode cX1_meet 114 = .ok (.ifCond .ne 42, 3) := by decide +kernel
theorem dX1_meet_117 : decode cX1_meet 117 = .ok (.aload_n 0, 1) := by decide +kernel
theorem dX1_meet_118 : decode cX1_meet 118 = .ok (.getfield 36, 3) := by decide +kernel
theorem dX1_meet_121 : decode cX1_meet 121 = .ok (.iload 5, 2) := by decide +kernel
theorem dX1_meet_123 : decode cX1_meet 123 = .ok (.laload, 1) := by decide +kernel
theorem dX1_meet_124 : decode cX1_meet 124 = .ok (.lconst 0, 1) := by decide +kernel
theorem dX1_meet_125 : decode cX1_meet 125 = .ok (.lcmp, 1) := by decide +kernel
theorem dX1_meet_126 : decode cX1_meet 126 = .ok (.ifCond .lt 30, 3) := by decide +kernel
theorem dX1_meet_129 : decode cX1_meet 129 = .ok (.iload 4, 2) := by decide +kernel
theorem dX1_meet_131 : decode cX1_meet 131 = .ok (.ifCond .lt 21, 3) := by decide +kernel
theorem dX1_meet_134 : decode cX1_meet 134 = .ok (.aload_n 0, 1) := by decide +kernel
theorem dX1_meet_135 : decode cX1_meet 135 = .ok (.getfield 36, 3) := by decide +kernel
theorem dX1_meet_138 : decode cX1_meet 138 = .ok (.iload 5, 2) := by decide +kernel
theorem dX1_meet_140 : decode cX1_meet 140 = .ok (.laload, 1) := by decide +kernel
theorem dX1_meet_141 : decode cX1_meet 141 = .ok (.aload_n 0, 1) := by decide +kernel
theorem dX1_meet_142 : decode cX1_meet 142 = .ok (.getfield 36, 3) := by decide +kernel
theorem dX1_meet_145 : decode cX1_meet 145 = .ok (.iload 4, 2) := by decide +kernel
theorem dX1_meet_147 : decode cX1_meet 147 = .ok (.laload, 1) := by decide +kernel
theorem dX1_meet_148 : decode cX1_meet 148 = .ok (.lcmp, 1) := by decide +kernel
theorem dX1_meet_149 : decode cX1_meet 149 = .ok (.ifCond .ge 7, 3) := by decide +kernel
theorem dX1_meet_152 : decode cX1_meet 152 = .ok (.iload 5, 2) := by decide +kernel
theorem dX1_meet_154 : decode cX1_meet 154 = .ok (.istore 4, 2) := by decide +kernel
theorem dX1_meet_156 : decode cX1_meet 156 = .ok (.iinc 5 1, 3) := by decide +kernel
theorem dX1_meet_159 : decode cX1_meet 159 = .ok (.goto (-59), 3) := by decide +kernel
theorem dX1_meet_162 : decode cX1_meet 162 = .ok (.iload 4, 2) := by decide +kernel
theorem dX1_meet_164 : decode cX1_meet 164 = .ok (.ifCond .lt 7, 3) := by decide +kernel
theorem dX1_meet_167 : decode cX1_meet 167 = .ok (.iconst 1, 1) := by decide +kernel
theorem dX1_meet_168 : decode cX1_meet 168 = .ok (.goto 4, 3) := by decide +kernel
theorem dX1_meet_171 : decode cX1_meet 171 = .ok (.iconst 0, 1) := by decide +kernel
theorem dX1_meet_172 : decode cX1_meet 172 = .ok (.istore_n 3, 1) := by decide +kernel
theorem dX1_meet_173 : decode cX1_meet 173 = .ok (.iload_n 3, 1) := by decide +kernel
theorem dX1_meet_174 : decode cX1_meet 174 = .ok (.ifCond .eq 11, 3) := by decide +kernel
theorem dX1_meet_177 : decode cX1_meet 177 = .ok (.aload_n 0, 1) := by decide +kernel
theorem dX1_meet_178 : decode cX1_meet 178 = .ok (.getfield 33, 3) := by decide +kernel
theorem dX1_meet_181 : decode cX1_meet 181 = .ok (.iload 4, 2) := by decide +kernel
theorem dX1_meet_183 : decode cX1_meet 183 = .ok (.iconst 1, 1) := by decide +kernel
theorem dX1_meet_184 : decode cX1_meet 184 = .ok (.bastore, 1) := by decide +kernel
theorem dX1_meet_185 : decode cX1_meet 185 = .ok (.iconst 0, 1) := by decide +kernel
theorem dX1_meet_186 : decode cX1_meet 186 = .ok (.istore 5, 2) := by decide +kernel
theorem dX1_meet_188 : decode cX1_meet 188 = .ok (.iload 5, 2) := by decide +kernel
theorem dX1_meet_190 : decode cX1_meet 190 = .ok (.bipush 120, 2) := by decide +kernel
theorem dX1_meet_192 : decode cX1_meet 192 = .ok (.if_icmp .ge 116, 3) := by decide +kernel
theorem dX1_meet_195 : decode cX1_meet 195 = .ok (.iload_n 3, 1) := by decide +kernel
theorem dX1_meet_196 : decode cX1_meet 196 = .ok (.ifCond .eq 112, 3) := by decide +kernel
theorem dX1_meet_199 : decode cX1_meet 199 = .ok (.aload_n 0, 1) := by decide +kernel
theorem dX1_meet_200 : decode cX1_meet 200 = .ok (.getfield 33, 3) := by decide +kernel
theorem dX1_meet_203 : decode cX1_meet 203 = .ok (.iload 5, 2) := by decide +kernel
theorem dX1_meet_205 : decode cX1_meet 205 = .ok (.baload, 1) := by decide +kernel
theorem dX1_meet_206 : decode cX1_meet 206 = .ok (.ifCond .ne 96, 3) := by decide +kernel
theorem dX1_meet_209 : decode cX1_meet 209 = .ok (.aload_n 0, 1) := by decide +kernel
theorem dX1_meet_210 : decode cX1_meet 210 = .ok (.getfield 40, 3) := by decide +kernel
theorem dX1_meet_213 : decode cX1_meet 213 = .ok (.iload 5, 2) := by decide +kernel
theorem dX1_meet_215 : decode cX1_meet 215 = .ok (.laload, 1) := by decide +kernel
theorem dX1_meet_216 : decode cX1_meet 216 = .ok (.lconst 0, 1) := by decide +kernel
theorem dX1_meet_217 : decode cX1_meet 217 = .ok (.lcmp, 1) := by decide +kernel
theorem dX1_meet_218 : decode cX1_meet 218 = .ok (.ifCond .ge 6, 3) := by decide +kernel
theorem dX1_meet_221 : decode cX1_meet 221 = .ok (.goto 81, 3) := by decide +kernel
theorem dX1_meet_224 : decode cX1_meet 224 = .ok (.aload_n 0, 1) := by decide +kernel
theorem dX1_meet_225 : decode cX1_meet 225 = .ok (.getfield 36, 3) := by decide +kernel
theorem dX1_meet_228 : decode cX1_meet 228 = .ok (.iload 4, 2) := by decide +kernel
theorem dX1_meet_230 : decode cX1_meet 230 = .ok (.laload, 1) := by decide +kernel
theorem dX1_meet_231 : decode cX1_meet 231 = .ok (.aload_n 0, 1) := by decide +kernel
theorem dX1_meet_232 : decode cX1_meet 232 = .ok (.getfield 40, 3) := by decide +kernel
theorem dX1_meet_235 : decode cX1_meet 235 = .ok (.iload 5, 2) := by decide +kernel
theorem dX1_meet_237 : decode cX1_meet 237 = .ok (.laload, 1) := by decide +kernel
theorem dX1_meet_238 : decode cX1_meet 238 = .ok (.invokestatic 93, 3) := by decide +kernel
theorem dX1_meet_241 : decode cX1_meet 241 = .ok (.aload_n 0, 1) := by decide +kernel
theorem dX1_meet_242 : decode cX1_meet 242 = .ok (.iload 4, 2) := by decide +kernel
theorem dX1_meet_244 : decode cX1_meet 244 = .ok (.aload_n 0, 1) := by decide +kernel
theorem dX1_meet_245 : decode cX1_meet 245 = .ok (.getfield 13, 3) := by decide +kernel
theorem dX1_meet_248 : decode cX1_meet 248 = .ok (.iload 5, 2) := by decide +kernel
theorem dX1_meet_250 : decode cX1_meet 250 = .ok (.iaload, 1) := by decide +kernel
theorem dX1_meet_251 : decode cX1_meet 251 = .ok (.i2l, 1) := by decide +kernel
theorem dX1_meet_252 : decode cX1_meet 252 = .ok (.aload_n 0, 1) := by decide +kernel
theorem dX1_meet_253 : decode cX1_meet 253 = .ok (.getfield 17, 3) := by decide +kernel
theorem dX1_meet_256 : decode cX1_meet 256 = .ok (.iload 5, 2) := by decide +kernel
theorem dX1_meet_258 : decode cX1_meet 258 = .ok (.iaload, 1) := by decide +kernel
theorem dX1_meet_259 : decode cX1_meet 259 = .ok (.i2l, 1) := by decide +kernel
theorem dX1_meet_260 : decode cX1_meet 260 = .ok (.invokevirtual 64, 3) := by decide +kernel
theorem dX1_meet_263 : decode cX1_meet 263 = .ok (.invokestatic 93, 3) := by decide +kernel
theorem dX1_meet_266 : decode cX1_meet 266 = .ok (.lstore 6, 2) := by decide +kernel
theorem dX1_meet_268 : decode cX1_meet 268 = .ok (.aload_n 0, 1) := by decide +kernel
theorem dX1_meet_269 : decode cX1_meet 269 = .ok (.getfield 36, 3) := by decide +kernel
theorem dX1_meet_272 : decode cX1_meet 272 = .ok (.iload 5, 2) := by decide +kernel
theorem dX1_meet_274 : decode cX1_meet 274 = .ok (.laload, 1) := by decide +kernel
theorem dX1_meet_275 : decode cX1_meet 275 = .ok (.lconst 0, 1) := by decide +kernel
theorem dX1_meet_276 : decode cX1_meet 276 = .ok (.lcmp, 1) := by decide +kernel
theorem dX1_meet_277 : decode cX1_meet 277 = .ok (.ifCond .lt 16, 3) := by decide +kernel
theorem dX1_meet_280 : decode cX1_meet 280 = .ok (.lload 6, 2) := by decide +kernel
theorem dX1_meet_282 : decode cX1_meet 282 = .ok (.aload_n 0, 1) := by decide +kernel
theorem dX1_meet_283 : decode cX1_meet 283 = .ok (.getfield 36, 3) := by decide +kernel
theorem dX1_meet_286 : decode cX1_meet 286 = .ok (.iload 5, 2) := by decide +kernel
theorem dX1_meet_288 : decode cX1_meet 288 = .ok (.laload, 1) := by decide +kernel
theorem dX1_meet_289 : decode cX1_meet 289 = .ok (.lcmp, 1) := by decide +kernel
theorem dX1_meet_290 : decode cX1_meet 290 = .ok (.ifCond .ge 12, 3) := by decide +kernel
theorem dX1_meet_293 : decode cX1_meet 293 = .ok (.aload_n 0, 1) := by decide +kernel
theorem dX1_meet_294 : decode cX1_meet 294 = .ok (.getfield 36, 3) := by decide +kernel
theorem dX1_meet_297 : decode cX1_meet 297 = .ok (.iload 5, 2) := by decide +kernel
theorem dX1_meet_299 : decode cX1_meet 299 = .ok (.lload 6, 2) := by decide +kernel
theorem dX1_meet_301 : decode cX1_meet 301 = .ok (.lastore, 1) := by decide +kernel
theorem dX1_meet_302 : decode cX1_meet 302 = .ok (.iinc 5 1, 3) := by decide +kernel
theorem dX1_meet_305 : decode cX1_meet 305 = .ok (.goto (-117), 3) := by decide +kernel
theorem dX1_meet_308 : decode cX1_meet 308 = .ok (.goto (-218), 3) := by decide +kernel
theorem dX1_meet_311 : decode cX1_meet 311 = .ok (.aload_n 0, 1) := by decide +kernel
theorem dX1_meet_312 : decode cX1_meet 312 = .ok (.getfield 36, 3) := by decide +kernel
theorem dX1_meet_315 : decode cX1_meet 315 = .ok (.iload_n 2, 1) := by decide +kernel
theorem dX1_meet_316 : decode cX1_meet 316 = .ok (.laload, 1) := by decide +kernel
theorem dX1_meet_317 : decode cX1_meet 317 = .ok (.lreturn, 1) := by decide +kernel
theorem dX1_crowds_0 : decode cX1_crowds 0 = .ok (.lload_n 1, 1) := by decide +kernel
theorem dX1_crowds_1 : decode cX1_crowds 1 = .ok (.lconst 0, 1) := by decide +kernel
theorem dX1_crowds_2 : decode cX1_crowds 2 = .ok (.lcmp, 1) := by decide +kernel
theorem dX1_crowds_3 : decode cX1_crowds 3 = .ok (.ifCond .ge 5, 3) := by decide +kernel
theorem dX1_crowds_6 : decode cX1_crowds 6 = .ok (.iconst (-1), 1) := by decide +kernel
theorem dX1_crowds_7 : decode cX1_crowds 7 = .ok (.ireturn, 1) := by decide +kernel
theorem dX1_crowds_8 : decode cX1_crowds 8 = .ok (.aload_n 0, 1) := by decide +kernel
theorem dX1_crowds_9 : decode cX1_crowds 9 = .ok (.lload_n 1, 1) := by decide +kernel
theorem dX1_crowds_10 : decode cX1_crowds 10 = .ok (.invokevirtual 85, 3) := by decide +kernel
theorem dX1_crowds_13 : decode cX1_crowds 13 = .ok (.aload_n 0, 1) := by decide +kernel
theorem dX1_crowds_14 : decode cX1_crowds 14 = .ok (.getfield 70, 3) := by decide +kernel
theorem dX1_crowds_17 : decode cX1_crowds 17 = .ok (.ireturn, 1) := by decide +kernel
theorem dX1_check_0 : decode cX1_check 0 = .ok (.iconst 1, 1) := by decide +kernel
theorem dX1_check_1 : decode cX1_check 1 = .ok (.ireturn, 1) := by decide +kernel
end
section
theorem dL_law_0 : decode cL_law 0 = .ok (.new 7, 3) := by decide +kernel
theorem dL_law_3 : decode cL_law 3 = .ok (.dup, 1) := by decide +kernel
theorem dL_law_4 : decode cL_law 4 = .ok (.invokespecial 9, 3) := by decide +kernel
theorem dL_law_7 : decode cL_law 7 = .ok (.astore_n 1, 1) := by decide +kernel
theorem dL_law_8 : decode cL_law 8 = .ok (.new 10, 3) := by decide +kernel
theorem dL_law_11 : decode cL_law 11 = .ok (.dup, 1) := by decide +kernel
theorem dL_law_12 : decode cL_law 12 = .ok (.invokespecial 12, 3) := by decide +kernel
theorem dL_law_15 : decode cL_law 15 = .ok (.astore_n 2, 1) := by decide +kernel
theorem dL_law_16 : decode cL_law 16 = .ok (.iconst 0, 1) := by decide +kernel
theorem dL_law_17 : decode cL_law 17 = .ok (.istore_n 3, 1) := by decide +kernel
theorem dL_law_18 : decode cL_law 18 = .ok (.iload_n 3, 1) := by decide +kernel
theorem dL_law_19 : decode cL_law 19 = .ok (.aload_n 0, 1) := by decide +kernel
theorem dL_law_20 : decode cL_law 20 = .ok (.arraylength, 1) := by decide +kernel
theorem dL_law_21 : decode cL_law 21 = .ok (.iconst 4, 1) := by decide +kernel
theorem dL_law_22 : decode cL_law 22 = .ok (.isub, 1) := by decide +kernel
theorem dL_law_23 : decode cL_law 23 = .ok (.if_icmp .gt 623, 3) := by decide +kernel
theorem dL_law_26 : decode cL_law 26 = .ok (.aload_n 0, 1) := by decide +kernel
theorem dL_law_27 : decode cL_law 27 = .ok (.iload_n 3, 1) := by decide +kernel
theorem dL_law_28 : decode cL_law 28 = .ok (.iaload, 1) := by decide +kernel
theorem dL_law_29 : decode cL_law 29 = .ok (.bipush 31, 2) := by decide +kernel
theorem dL_law_31 : decode cL_law 31 = .ok (.iand, 1) := by decide +kernel
theorem dL_law_32 : decode cL_law 32 = .ok (.tableswitch 608 0 16 #[84, 127, 150, 193, 216, 269, 292, 326, 349, 372, 395, 428, 451, 484, 508, 542, 595], 84) := by decide +kernel
theorem dL_law_116 : decode cL_law 116 = .ok (.aload_n 1, 1) := by decide +kernel
theorem dL_law_117 : decode cL_law 117 = .ok (.aload_n 0, 1) := by decide +kernel
theorem dL_law_118 : decode cL_law 118 = .ok (.iload_n 3, 1) := by decide +kernel
theorem dL_law_119 : decode cL_law 119 = .ok (.iconst 1, 1) := by decide +kernel
theorem dL_law_120 : decode cL_law 120 = .ok (.iadd, 1) := by decide +kernel
theorem dL_law_121 : decode cL_law 121 = .ok (.iaload, 1) := by decide +kernel
theorem dL_law_122 : decode cL_law 122 = .ok (.aload_n 0, 1) := by decide +kernel
theorem dL_law_123 : decode cL_law 123 = .ok (.iload_n 3, 1) := by decide +kernel
theorem dL_law_124 : decode cL_law 124 = .ok (.iconst 2, 1) := by decide +kernel
theorem dL_law_125 : decode cL_law 125 = .ok (.iadd, 1) := by decide +kernel
theorem dL_law_126 : decode cL_law 126 = .ok (.iaload, 1) := by decide +kernel
theorem dL_law_127 : decode cL_law 127 = .ok (.aload_n 0, 1) := by decide +kernel
theorem dL_law_128 : decode cL_law 128 = .ok (.iload_n 3, 1) := by decide +kernel
theorem dL_law_129 : decode cL_law 129 = .ok (.iconst 3, 1) := by decide +kernel
theorem dL_law_130 : decode cL_law 130 = .ok (.iadd, 1) := by decide +kernel
theorem dL_law_131 : decode cL_law 131 = .ok (.iaload, 1) := by decide +kernel
theorem dL_law_132 : decode cL_law 132 = .ok (.invokevirtual 13, 3) := by decide +kernel
theorem dL_law_135 : decode cL_law 135 = .ok (.aload_n 2, 1) := by decide +kernel
theorem dL_law_136 : decode cL_law 136 = .ok (.aload_n 0, 1) := by decide +kernel
theorem dL_law_137 : decode cL_law 137 = .ok (.iload_n 3, 1) := by decide +kernel
theorem dL_law_138 : decode cL_law 138 = .ok (.iconst 1, 1) := by decide +kernel
theorem dL_law_139 : decode cL_law 139 = .ok (.iadd, 1) := by decide +kernel
theorem dL_law_140 : decode cL_law 140 = .ok (.iaload, 1) := by decide +kernel
theorem dL_law_141 : decode cL_law 141 = .ok (.aload_n 0, 1) := by decide +kernel
theorem dL_law_142 : decode cL_law 142 = .ok (.iload_n 3, 1) := by decide +kernel
theorem dL_law_143 : decode cL_law 143 = .ok (.iconst 2, 1) := by decide +kernel
theorem dL_law_144 : decode cL_law 144 = .ok (.iadd, 1) := by decide +kernel
theorem dL_law_145 : decode cL_law 145 = .ok (.iaload, 1) := by decide +kernel
theorem dL_law_146 : decode cL_law 146 = .ok (.aload_n 0, 1) := by decide +kernel
theorem dL_law_147 : decode cL_law 147 = .ok (.iload_n 3, 1) := by decide +kernel
theorem dL_law_148 : decode cL_law 148 = .ok (.iconst 3, 1) := by decide +kernel
theorem dL_law_149 : decode cL_law 149 = .ok (.iadd, 1) := by decide +kernel
theorem dL_law_150 : decode cL_law 150 = .ok (.iaload, 1) := by decide +kernel
theorem dL_law_151 : decode cL_law 151 = .ok (.invokevirtual 17, 3) := by decide +kernel
theorem dL_law_154 : decode cL_law 154 = .ok (.if_icmp .eq 486, 3) := by decide +kernel
theorem dL_law_157 : decode cL_law 157 = .ok (.iconst 0, 1) := by decide +kernel
theorem dL_law_158 : decode cL_law 158 = .ok (.ireturn, 1) := by decide +kernel
theorem dL_law_159 : decode cL_law 159 = .ok (.aload_n 1, 1) := by decide +kernel
theorem dL_law_160 : decode cL_law 160 = .ok (.aload_n 0, 1) := by decide +kernel
theorem dL_law_161 : decode cL_law 161 = .ok (.iload_n 3, 1) := by decide +kernel
theorem dL_law_162 : decode cL_law 162 = .ok (.iconst 1, 1) := by decide +kernel
theorem dL_law_163 : decode cL_law 163 = .ok (.iadd, 1) := by decide +kernel
theorem dL_law_164 : decode cL_law 164 = .ok (.iaload, 1) := by decide +kernel
theorem dL_law_165 : decode cL_law 165 = .ok (.invokevirtual 18, 3) := by decide +kernel
theorem dL_law_168 : decode cL_law 168 = .ok (.aload_n 2, 1) := by decide +kernel
theorem dL_law_169 : decode cL_law 169 = .ok (.aload_n 0, 1) := by decide +kernel
theorem dL_law_170 : decode cL_law 170 = .ok (.iload_n 3, 1) := by decide +kernel
theorem dL_law_171 : decode cL_law 171 = .ok (.iconst 1, 1) := by decide +kernel
theorem dL_law_172 : decode cL_law 172 = .ok (.iadd, 1) := by decide +kernel
theorem dL_law_173 : decode cL_law 173 = .ok (.iaload, 1) := by decide +kernel
theorem dL_law_174 : decode cL_law 174 = .ok (.invokevirtual 22, 3) := by decide +kernel
theorem dL_law_177 : decode cL_law 177 = .ok (.if_icmp .eq 463, 3) := by decide +kernel
theorem dL_law_180 : decode cL_law 180 = .ok (.iconst 0, 1) := by decide +kernel
theorem dL_law_181 : decode cL_law 181 = .ok (.ireturn, 1) := by decide +kernel
theorem dL_law_182 : decode cL_law 182 = .ok (.aload_n 1, 1) := by decide +kernel
theorem dL_law_183 : decode cL_law 183 = .ok (.aload_n 0, 1) := by decide +kernel
theorem dL_law_184 : decode cL_law 184 = .ok (.iload_n 3, 1) := by decide +kernel
theorem dL_law_185 : decode cL_law 185 = .ok (.iconst 1, 1) := by decide +kernel
theorem dL_law_186 : decode cL_law 186 = .ok (.iadd, 1) := by decide +kernel
theorem dL_law_187 : decode cL_law 187 = .ok (.iaload, 1) := by decide +kernel
theorem dL_law_188 : decode cL_law 188 = .ok (.aload_n 0, 1) := by decide +kernel
theorem dL_law_189 : decode cL_law 189 = .ok (.iload_n 3, 1) := by decide +kernel
theorem dL_law_190 : decode cL_law 190 = .ok (.iconst 2, 1) := by decide +kernel
theorem dL_law_191 : decode cL_law 191 = .ok (.iadd, 1) := by decide +kernel
theorem dL_law_192 : decode cL_law 192 = .ok (.iaload, 1) := by decide +kernel
theorem dL_law_193 : decode cL_law 193 = .ok (.aload_n 0, 1) := by decide +kernel
theorem dL_law_194 : decode cL_law 194 = .ok (.iload_n 3, 1) := by decide +kernel
theorem dL_law_195 : decode cL_law 195 = .ok (.iconst 3, 1) := by decide +kernel
theorem dL_law_196 : decode cL_law 196 = .ok (.iadd, 1) := by decide +kernel
theorem dL_law_197 : decode cL_law 197 = .ok (.iaload, 1) := by decide +kernel
theorem dL_law_198 : decode cL_law 198 = .ok (.invokevirtual 23, 3) := by decide +kernel
theorem dL_law_201 : decode cL_law 201 = .ok (.aload_n 2, 1) := by decide +kernel
theorem dL_law_202 : decode cL_law 202 = .ok (.aload_n 0, 1) := by decide +kernel
theorem dL_law_203 : decode cL_law 203 = .ok (.iload_n 3, 1) := by decide +kernel
theorem dL_law_204 : decode cL_law 204 = .ok (.iconst 1, 1) := by decide +kernel
theorem dL_law_205 : decode cL_law 205 = .ok (.iadd, 1) := by decide +kernel
theorem dL_law_206 : decode cL_law 206 = .ok (.iaload, 1) := by decide +kernel
theorem dL_law_207 : decode cL_law 207 = .ok (.aload_n 0, 1) := by decide +kernel
theorem dL_law_208 : decode cL_law 208 = .ok (.iload_n 3, 1) := by decide +kernel
theorem dL_law_209 : decode cL_law 209 = .ok (.iconst 2, 1) := by decide +kernel
theorem dL_law_210 : decode cL_law 210 = .ok (.iadd, 1) := by decide +kernel
theorem dL_law_211 : decode cL_law 211 = .ok (.iaload, 1) := by decide +kernel
theorem dL_law_212 : decode cL_law 212 = .ok (.aload_n 0, 1) := by decide +kernel
theorem dL_law_213 : decode cL_law 213 = .ok (.iload_n 3, 1) := by decide +kernel
theorem dL_law_214 : decode cL_law 214 = .ok (.iconst 3, 1) := by decide +kernel
theorem dL_law_215 : decode cL_law 215 = .ok (.iadd, 1) := by decide +kernel
theorem dL_law_216 : decode cL_law 216 = .ok (.iaload, 1) := by decide +kernel
theorem dL_law_217 : decode cL_law 217 = .ok (.invokevirtual 26, 3) := by decide +kernel
theorem dL_law_220 : decode cL_law 220 = .ok (.if_icmp .eq 420, 3) := by decide +kernel
theorem dL_law_223 : decode cL_law 223 = .ok (.iconst 0, 1) := by decide +kernel
theorem dL_law_224 : decode cL_law 224 = .ok (.ireturn, 1) := by decide +kernel
theorem dL_law_225 : decode cL_law 225 = .ok (.aload_n 1, 1) := by decide +kernel
theorem dL_law_226 : decode cL_law 226 = .ok (.aload_n 0, 1) := by decide +kernel
theorem dL_law_227 : decode cL_law 227 = .ok (.iload_n 3, 1) := by decide +kernel
theorem dL_law_228 : decode cL_law 228 = .ok (.iconst 1, 1) := by decide +kernel
theorem dL_law_229 : decode cL_law 229 = .ok (.iadd, 1) := by decide +kernel
theorem dL_law_230 : decode cL_law 230 = .ok (.iaload, 1) := by decide +kernel
theorem dL_law_231 : decode cL_law 231 = .ok (.invokevirtual 27, 3) := by decide +kernel
theorem dL_law_234 : decode cL_law 234 = .ok (.aload_n 2, 1) := by decide +kernel
theorem dL_law_235 : decode cL_law 235 = .ok (.aload_n 0, 1) := by decide +kernel
theorem dL_law_236 : decode cL_law 236 = .ok (.iload_n 3, 1) := by decide +kernel
theorem dL_law_237 : decode cL_law 237 = .ok (.iconst 1, 1) := by decide +kernel
theorem dL_law_238 : decode cL_law 238 = .ok (.iadd, 1) := by decide +kernel
theorem dL_law_239 : decode cL_law 239 = .ok (.iaload, 1) := by decide +kernel
theorem dL_law_240 : decode cL_law 240 = .ok (.invokevirtual 30, 3) := by decide +kernel
theorem dL_law_243 : decode cL_law 243 = .ok (.if_icmp .eq 397, 3) := by decide +kernel
theorem dL_law_246 : decode cL_law 246 = .ok (.iconst 0, 1) := by decide +kernel
theorem dL_law_247 : decode cL_law 247 = .ok (.ireturn, 1) := by decide +kernel
theorem dL_law_248 : decode cL_law 248 = .ok (.aload_n 1, 1) := by decide +kernel
theorem dL_law_249 : decode cL_law 249 = .ok (.aload_n 0, 1) := by decide +kernel
theorem dL_law_250 : decode cL_law 250 = .ok (.iload_n 3, 1) := by decide +kernel
theorem dL_law_251 : decode cL_law 251 = .ok (.iconst 1, 1) := by decide +kernel
theorem dL_law_252 : decode cL_law 252 = .ok (.iadd, 1) := by decide +kernel
theorem dL_law_253 : decode cL_law 253 = .ok (.iaload, 1) := by decide +kernel
theorem dL_law_254 : decode cL_law 254 = .ok (.i2l, 1) := by decide +kernel
theorem dL_law_255 : decode cL_law 255 = .ok (.bipush 32, 2) := by decide +kernel
theorem dL_law_257 : decode cL_law 257 = .ok (.lshl, 1) := by decide +kernel
theorem dL_law_258 : decode cL_law 258 = .ok (.aload_n 0, 1) := by decide +kernel
theorem dL_law_259 : decode cL_law 259 = .ok (.iload_n 3, 1) := by decide +kernel
theorem dL_law_260 : decode cL_law 260 = .ok (.iconst 2, 1) := by decide +kernel
theorem dL_law_261 : decode cL_law 261 = .ok (.iadd, 1) := by decide +kernel
theorem dL_law_262 : decode cL_law 262 = .ok (.iaload, 1) := by decide +kernel
theorem dL_law_263 : decode cL_law 263 = .ok (.i2l, 1) := by decide +kernel
theorem dL_law_264 : decode cL_law 264 = .ok (.ldc2_w 31, 3) := by decide +kernel
theorem dL_law_267 : decode cL_law 267 = .ok (.land, 1) := by decide +kernel
theorem dL_law_268 : decode cL_law 268 = .ok (.lor, 1) := by decide +kernel
theorem dL_law_269 : decode cL_law 269 = .ok (.invokevirtual 33, 3) := by decide +kernel
theorem dL_law_272 : decode cL_law 272 = .ok (.aload_n 2, 1) := by decide +kernel
theorem dL_law_273 : decode cL_law 273 = .ok (.aload_n 0, 1) := by decide +kernel
theorem dL_law_274 : decode cL_law 274 = .ok (.iload_n 3, 1) := by decide +kernel
theorem dL_law_275 : decode cL_law 275 = .ok (.iconst 1, 1) := by decide +kernel
theorem dL_law_276 : decode cL_law 276 = .ok (.iadd, 1) := by decide +kernel
theorem dL_law_277 : decode cL_law 277 = .ok (.iaload, 1) := by decide +kernel
theorem dL_law_278 : decode cL_law 278 = .ok (.i2l, 1) := by decide +kernel
theorem dL_law_279 : decode cL_law 279 = .ok (.bipush 32, 2) := by decide +kernel
theorem dL_law_281 : decode cL_law 281 = .ok (.lshl, 1) := by decide +kernel
theorem dL_law_282 : decode cL_law 282 = .ok (.aload_n 0, 1) := by decide +kernel
theorem dL_law_283 : decode cL_law 283 = .ok (.iload_n 3, 1) := by decide +kernel
theorem dL_law_284 : decode cL_law 284 = .ok (.iconst 2, 1) := by decide +kernel
theorem dL_law_285 : decode cL_law 285 = .ok (.iadd, 1) := by decide +kernel
theorem dL_law_286 : decode cL_law 286 = .ok (.iaload, 1) := by decide +kernel
theorem dL_law_287 : decode cL_law 287 = .ok (.i2l, 1) := by decide +kernel
theorem dL_law_288 : decode cL_law 288 = .ok (.ldc2_w 31, 3) := by decide +kernel
theorem dL_law_291 : decode cL_law 291 = .ok (.land, 1) := by decide +kernel
theorem dL_law_292 : decode cL_law 292 = .ok (.lor, 1) := by decide +kernel
theorem dL_law_293 : decode cL_law 293 = .ok (.invokevirtual 37, 3) := by decide +kernel
theorem dL_law_296 : decode cL_law 296 = .ok (.if_icmp .eq 344, 3) := by decide +kernel
theorem dL_law_299 : decode cL_law 299 = .ok (.iconst 0, 1) := by decide +kernel
theorem dL_law_300 : decode cL_law 300 = .ok (.ireturn, 1) := by decide +kernel
theorem dL_law_301 : decode cL_law 301 = .ok (.aload_n 1, 1) := by decide +kernel
theorem dL_law_302 : decode cL_law 302 = .ok (.aload_n 0, 1) := by decide +kernel
theorem dL_law_303 : decode cL_law 303 = .ok (.iload_n 3, 1) := by decide +kernel
theorem dL_law_304 : decode cL_law 304 = .ok (.iconst 1, 1) := by decide +kernel
theorem dL_law_305 : decode cL_law 305 = .ok (.iadd, 1) := by decide +kernel
theorem dL_law_306 : decode cL_law 306 = .ok (.iaload, 1) := by decide +kernel
theorem dL_law_307 : decode cL_law 307 = .ok (.invokevirtual 38, 3) := by decide +kernel
theorem dL_law_310 : decode cL_law 310 = .ok (.aload_n 2, 1) := by decide +kernel
theorem dL_law_311 : decode cL_law 311 = .ok (.aload_n 0, 1) := by decide +kernel
theorem dL_law_312 : decode cL_law 312 = .ok (.iload_n 3, 1) := by decide +kernel
theorem dL_law_313 : decode cL_law 313 = .ok (.iconst 1, 1) := by decide +kernel
theorem dL_law_314 : decode cL_law 314 = .ok (.iadd, 1) := by decide +kernel
theorem dL_law_315 : decode cL_law 315 = .ok (.iaload, 1) := by decide +kernel
theorem dL_law_316 : decode cL_law 316 = .ok (.invokevirtual 41, 3) := by decide +kernel
theorem dL_law_319 : decode cL_law 319 = .ok (.if_icmp .eq 321, 3) := by decide +kernel
theorem dL_law_322 : decode cL_law 322 = .ok (.iconst 0, 1) := by decide +kernel
theorem dL_law_323 : decode cL_law 323 = .ok (.ireturn, 1) := by decide +kernel
theorem dL_law_324 : decode cL_law 324 = .ok (.aload_n 1, 1) := by decide +kernel
theorem dL_law_325 : decode cL_law 325 = .ok (.aload_n 0, 1) := by decide +kernel
theorem dL_law_326 : decode cL_law 326 = .ok (.iload_n 3, 1) := by decide +kernel
theorem dL_law_327 : decode cL_law 327 = .ok (.iconst 1, 1) := by decide +kernel
theorem dL_law_328 : decode cL_law 328 = .ok (.iadd, 1) := by decide +kernel
theorem dL_law_329 : decode cL_law 329 = .ok (.iaload, 1) := by decide +kernel
theorem dL_law_330 : decode cL_law 330 = .ok (.aload_n 0, 1) := by decide +kernel
theorem dL_law_331 : decode cL_law 331 = .ok (.iload_n 3, 1) := by decide +kernel
theorem dL_law_332 : decode cL_law 332 = .ok (.iconst 2, 1) := by decide +kernel
theorem dL_law_333 : decode cL_law 333 = .ok (.iadd, 1) := by decide +kernel
theorem dL_law_334 : decode cL_law 334 = .ok (.iaload, 1) := by decide +kernel
theorem dL_law_335 : decode cL_law 335 = .ok (.invokevirtual 42, 3) := by decide +kernel
theorem dL_law_338 : decode cL_law 338 = .ok (.aload_n 2, 1) := by decide +kernel
theorem dL_law_339 : decode cL_law 339 = .ok (.aload_n 0, 1) := by decide +kernel
theorem dL_law_340 : decode cL_law 340 = .ok (.iload_n 3, 1) := by decide +kernel
theorem dL_law_341 : decode cL_law 341 = .ok (.iconst 1, 1) := by decide +kernel
theorem dL_law_342 : decode cL_law 342 = .ok (.iadd, 1) := by decide +kernel
theorem dL_law_343 : decode cL_law 343 = .ok (.iaload, 1) := by decide +kernel
theorem dL_law_344 : decode cL_law 344 = .ok (.aload_n 0, 1) := by decide +kernel
theorem dL_law_345 : decode cL_law 345 = .ok (.iload_n 3, 1) := by decide +kernel
theorem dL_law_346 : decode cL_law 346 = .ok (.iconst 2, 1) := by decide +kernel
theorem dL_law_347 : decode cL_law 347 = .ok (.iadd, 1) := by decide +kernel
theorem dL_law_348 : decode cL_law 348 = .ok (.iaload, 1) := by decide +kernel
theorem dL_law_349 : decode cL_law 349 = .ok (.invokevirtual 46, 3) := by decide +kernel
theorem dL_law_352 : decode cL_law 352 = .ok (.lcmp, 1) := by decide +kernel
theorem dL_law_353 : decode cL_law 353 = .ok (.ifCond .eq 287, 3) := by decide +kernel
theorem dL_law_356 : decode cL_law 356 = .ok (.iconst 0, 1) := by decide +kernel
theorem dL_law_357 : decode cL_law 357 = .ok (.ireturn, 1) := by decide +kernel
theorem dL_law_358 : decode cL_law 358 = .ok (.aload_n 1, 1) := by decide +kernel
theorem dL_law_359 : decode cL_law 359 = .ok (.aload_n 0, 1) := by decide +kernel
theorem dL_law_360 : decode cL_law 360 = .ok (.iload_n 3, 1) := by decide +kernel
theorem dL_law_361 : decode cL_law 361 = .ok (.iconst 1, 1) := by decide +kernel
theorem dL_law_362 : decode cL_law 362 = .ok (.iadd, 1) := by decide +kernel
theorem dL_law_363 : decode cL_law 363 = .ok (.iaload, 1) := by decide +kernel
theorem dL_law_364 : decode cL_law 364 = .ok (.invokevirtual 47, 3) := by decide +kernel
theorem dL_law_367 : decode cL_law 367 = .ok (.aload_n 2, 1) := by decide +kernel
theorem dL_law_368 : decode cL_law 368 = .ok (.aload_n 0, 1) := by decide +kernel
theorem dL_law_369 : decode cL_law 369 = .ok (.iload_n 3, 1) := by decide +kernel
theorem dL_law_370 : decode cL_law 370 = .ok (.iconst 1, 1) := by decide +kernel
theorem dL_law_371 : decode cL_law 371 = .ok (.iadd, 1) := by decide +kernel
theorem dL_law_372 : decode cL_law 372 = .ok (.iaload, 1) := by decide +kernel
theorem dL_law_373 : decode cL_law 373 = .ok (.invokevirtual 50, 3) := by decide +kernel
theorem dL_law_376 : decode cL_law 376 = .ok (.if_icmp .eq 264, 3) := by decide +kernel
theorem dL_law_379 : decode cL_law 379 = .ok (.iconst 0, 1) := by decide +kernel
theorem dL_law_380 : decode cL_law 380 = .ok (.ireturn, 1) := by decide +kernel
theorem dL_law_381 : decode cL_law 381 = .ok (.aload_n 1, 1) := by decide +kernel
theorem dL_law_382 : decode cL_law 382 = .ok (.aload_n 0, 1) := by decide +kernel
theorem dL_law_383 : decode cL_law 383 = .ok (.iload_n 3, 1) := by decide +kernel
theorem dL_law_384 : decode cL_law 384 = .ok (.iconst 1, 1) := by decide +kernel
theorem dL_law_385 : decode cL_law 385 = .ok (.iadd, 1) := by decide +kernel
theorem dL_law_386 : decode cL_law 386 = .ok (.iaload, 1) := by decide +kernel
theorem dL_law_387 : decode cL_law 387 = .ok (.invokevirtual 51, 3) := by decide +kernel
theorem dL_law_390 : decode cL_law 390 = .ok (.aload_n 2, 1) := by decide +kernel
theorem dL_law_391 : decode cL_law 391 = .ok (.aload_n 0, 1) := by decide +kernel
theorem dL_law_392 : decode cL_law 392 = .ok (.iload_n 3, 1) := by decide +kernel
theorem dL_law_393 : decode cL_law 393 = .ok (.iconst 1, 1) := by decide +kernel
theorem dL_law_394 : decode cL_law 394 = .ok (.iadd, 1) := by decide +kernel
theorem dL_law_395 : decode cL_law 395 = .ok (.iaload, 1) := by decide +kernel
theorem dL_law_396 : decode cL_law 396 = .ok (.invokevirtual 54, 3) := by decide +kernel
theorem dL_law_399 : decode cL_law 399 = .ok (.if_icmp .eq 241, 3) := by decide +kernel
theorem dL_law_402 : decode cL_law 402 = .ok (.iconst 0, 1) := by decide +kernel
theorem dL_law_403 : decode cL_law 403 = .ok (.ireturn, 1) := by decide +kernel
theorem dL_law_404 : decode cL_law 404 = .ok (.aload_n 1, 1) := by decide +kernel
theorem dL_law_405 : decode cL_law 405 = .ok (.aload_n 0, 1) := by decide +kernel
theorem dL_law_406 : decode cL_law 406 = .ok (.iload_n 3, 1) := by decide +kernel
theorem dL_law_407 : decode cL_law 407 = .ok (.iconst 1, 1) := by decide +kernel
theorem dL_law_408 : decode cL_law 408 = .ok (.iadd, 1) := by decide +kernel
theorem dL_law_409 : decode cL_law 409 = .ok (.iaload, 1) := by decide +kernel
theorem dL_law_410 : decode cL_law 410 = .ok (.invokevirtual 55, 3) := by decide +kernel
theorem dL_law_413 : decode cL_law 413 = .ok (.aload_n 2, 1) := by decide +kernel
theorem dL_law_414 : decode cL_law 414 = .ok (.aload_n 0, 1) := by decide +kernel
theorem dL_law_415 : decode cL_law 415 = .ok (.iload_n 3, 1) := by decide +kernel
theorem dL_law_416 : decode cL_law 416 = .ok (.iconst 1, 1) := by decide +kernel
theorem dL_law_417 : decode cL_law 417 = .ok (.iadd, 1) := by decide +kernel
theorem dL_law_418 : decode cL_law 418 = .ok (.iaload, 1) := by decide +kernel
theorem dL_law_419 : decode cL_law 419 = .ok (.invokevirtual 58, 3) := by decide +kernel
theorem dL_law_422 : decode cL_law 422 = .ok (.if_icmp .eq 218, 3) := by decide +kernel
theorem dL_law_425 : decode cL_law 425 = .ok (.iconst 0, 1) := by decide +kernel
theorem dL_law_426 : decode cL_law 426 = .ok (.ireturn, 1) := by decide +kernel
theorem dL_law_427 : decode cL_law 427 = .ok (.aload_n 1, 1) := by decide +kernel
theorem dL_law_428 : decode cL_law 428 = .ok (.aload_n 0, 1) := by decide +kernel
theorem dL_law_429 : decode cL_law 429 = .ok (.iload_n 3, 1) := by decide +kernel
theorem dL_law_430 : decode cL_law 430 = .ok (.iconst 1, 1) := by decide +kernel
theorem dL_law_431 : decode cL_law 431 = .ok (.iadd, 1) := by decide +kernel
theorem dL_law_432 : decode cL_law 432 = .ok (.iaload, 1) := by decide +kernel
theorem dL_law_433 : decode cL_law 433 = .ok (.aload_n 0, 1) := by decide +kernel
theorem dL_law_434 : decode cL_law 434 = .ok (.iload_n 3, 1) := by decide +kernel
theorem dL_law_435 : decode cL_law 435 = .ok (.iconst 2, 1) := by decide +kernel
theorem dL_law_436 : decode cL_law 436 = .ok (.iadd, 1) := by decide +kernel
theorem dL_law_437 : decode cL_law 437 = .ok (.iaload, 1) := by decide +kernel
theorem dL_law_438 : decode cL_law 438 = .ok (.invokevirtual 59, 3) := by decide +kernel
theorem dL_law_441 : decode cL_law 441 = .ok (.aload_n 2, 1) := by decide +kernel
theorem dL_law_442 : decode cL_law 442 = .ok (.aload_n 0, 1) := by decide +kernel
theorem dL_law_443 : decode cL_law 443 = .ok (.iload_n 3, 1) := by decide +kernel
theorem dL_law_444 : decode cL_law 444 = .ok (.iconst 1, 1) := by decide +kernel
theorem dL_law_445 : decode cL_law 445 = .ok (.iadd, 1) := by decide +kernel
theorem dL_law_446 : decode cL_law 446 = .ok (.iaload, 1) := by decide +kernel
theorem dL_law_447 : decode cL_law 447 = .ok (.aload_n 0, 1) := by decide +kernel
theorem dL_law_448 : decode cL_law 448 = .ok (.iload_n 3, 1) := by decide +kernel
theorem dL_law_449 : decode cL_law 449 = .ok (.iconst 2, 1) := by decide +kernel
theorem dL_law_450 : decode cL_law 450 = .ok (.iadd, 1) := by decide +kernel
theorem dL_law_451 : decode cL_law 451 = .ok (.iaload, 1) := by decide +kernel
theorem dL_law_452 : decode cL_law 452 = .ok (.invokevirtual 63, 3) := by decide +kernel
theorem dL_law_455 : decode cL_law 455 = .ok (.if_icmp .eq 185, 3) := by decide +kernel
theorem dL_law_458 : decode cL_law 458 = .ok (.iconst 0, 1) := by decide +kernel
theorem dL_law_459 : decode cL_law 459 = .ok (.ireturn, 1) := by decide +kernel
theorem dL_law_460 : decode cL_law 460 = .ok (.aload_n 1, 1) := by decide +kernel
theorem dL_law_461 : decode cL_law 461 = .ok (.aload_n 0, 1) := by decide +kernel
theorem dL_law_462 : decode cL_law 462 = .ok (.iload_n 3, 1) := by decide +kernel
theorem dL_law_463 : decode cL_law 463 = .ok (.iconst 1, 1) := by decide +kernel
theorem dL_law_464 : decode cL_law 464 = .ok (.iadd, 1) := by decide +kernel
theorem dL_law_465 : decode cL_law 465 = .ok (.iaload, 1) := by decide +kernel
theorem dL_law_466 : decode cL_law 466 = .ok (.invokevirtual 64, 3) := by decide +kernel
theorem dL_law_469 : decode cL_law 469 = .ok (.aload_n 2, 1) := by decide +kernel
theorem dL_law_470 : decode cL_law 470 = .ok (.aload_n 0, 1) := by decide +kernel
theorem dL_law_471 : decode cL_law 471 = .ok (.iload_n 3, 1) := by decide +kernel
theorem dL_law_472 : decode cL_law 472 = .ok (.iconst 1, 1) := by decide +kernel
theorem dL_law_473 : decode cL_law 473 = .ok (.iadd, 1) := by decide +kernel
theorem dL_law_474 : decode cL_law 474 = .ok (.iaload, 1) := by decide +kernel
theorem dL_law_475 : decode cL_law 475 = .ok (.invokevirtual 67, 3) := by decide +kernel
theorem dL_law_478 : decode cL_law 478 = .ok (.if_icmp .eq 162, 3) := by decide +kernel
theorem dL_law_481 : decode cL_law 481 = .ok (.iconst 0, 1) := by decide +kernel
theorem dL_law_482 : decode cL_law 482 = .ok (.ireturn, 1) := by decide +kernel
theorem dL_law_483 : decode cL_law 483 = .ok (.aload_n 1, 1) := by decide +kernel
theorem dL_law_484 : decode cL_law 484 = .ok (.aload_n 0, 1) := by decide +kernel
theorem dL_law_485 : decode cL_law 485 = .ok (.iload_n 3, 1) := by decide +kernel
theorem dL_law_486 : decode cL_law 486 = .ok (.iconst 1, 1) := by decide +kernel
theorem dL_law_487 : decode cL_law 487 = .ok (.iadd, 1) := by decide +kernel
theorem dL_law_488 : decode cL_law 488 = .ok (.iaload, 1) := by decide +kernel
theorem dL_law_489 : decode cL_law 489 = .ok (.aload_n 0, 1) := by decide +kernel
theorem dL_law_490 : decode cL_law 490 = .ok (.iload_n 3, 1) := by decide +kernel
theorem dL_law_491 : decode cL_law 491 = .ok (.iconst 2, 1) := by decide +kernel
theorem dL_law_492 : decode cL_law 492 = .ok (.iadd, 1) := by decide +kernel
theorem dL_law_493 : decode cL_law 493 = .ok (.iaload, 1) := by decide +kernel
theorem dL_law_494 : decode cL_law 494 = .ok (.invokevirtual 68, 3) := by decide +kernel
theorem dL_law_497 : decode cL_law 497 = .ok (.aload_n 2, 1) := by decide +kernel
theorem dL_law_498 : decode cL_law 498 = .ok (.aload_n 0, 1) := by decide +kernel
theorem dL_law_499 : decode cL_law 499 = .ok (.iload_n 3, 1) := by decide +kernel
theorem dL_law_500 : decode cL_law 500 = .ok (.iconst 1, 1) := by decide +kernel
theorem dL_law_501 : decode cL_law 501 = .ok (.iadd, 1) := by decide +kernel
theorem dL_law_502 : decode cL_law 502 = .ok (.iaload, 1) := by decide +kernel
theorem dL_law_503 : decode cL_law 503 = .ok (.aload_n 0, 1) := by decide +kernel
theorem dL_law_504 : decode cL_law 504 = .ok (.iload_n 3, 1) := by decide +kernel
theorem dL_law_505 : decode cL_law 505 = .ok (.iconst 2, 1) := by decide +kernel
theorem dL_law_506 : decode cL_law 506 = .ok (.iadd, 1) := by decide +kernel
theorem dL_law_507 : decode cL_law 507 = .ok (.iaload, 1) := by decide +kernel
theorem dL_law_508 : decode cL_law 508 = .ok (.invokevirtual 71, 3) := by decide +kernel
theorem dL_law_511 : decode cL_law 511 = .ok (.if_icmp .eq 129, 3) := by decide +kernel
theorem dL_law_514 : decode cL_law 514 = .ok (.iconst 0, 1) := by decide +kernel
theorem dL_law_515 : decode cL_law 515 = .ok (.ireturn, 1) := by decide +kernel
theorem dL_law_516 : decode cL_law 516 = .ok (.aload_n 1, 1) := by decide +kernel
theorem dL_law_517 : decode cL_law 517 = .ok (.aload_n 0, 1) := by decide +kernel
theorem dL_law_518 : decode cL_law 518 = .ok (.iload_n 3, 1) := by decide +kernel
theorem dL_law_519 : decode cL_law 519 = .ok (.iconst 1, 1) := by decide +kernel
theorem dL_law_520 : decode cL_law 520 = .ok (.iadd, 1) := by decide +kernel
theorem dL_law_521 : decode cL_law 521 = .ok (.iaload, 1) := by decide +kernel
theorem dL_law_522 : decode cL_law 522 = .ok (.invokevirtual 72, 3) := by decide +kernel
theorem dL_law_525 : decode cL_law 525 = .ok (.aload_n 2, 1) := by decide +kernel
theorem dL_law_526 : decode cL_law 526 = .ok (.aload_n 0, 1) := by decide +kernel
theorem dL_law_527 : decode cL_law 527 = .ok (.iload_n 3, 1) := by decide +kernel
theorem dL_law_528 : decode cL_law 528 = .ok (.iconst 1, 1) := by decide +kernel
theorem dL_law_529 : decode cL_law 529 = .ok (.iadd, 1) := by decide +kernel
theorem dL_law_530 : decode cL_law 530 = .ok (.iaload, 1) := by decide +kernel
theorem dL_law_531 : decode cL_law 531 = .ok (.invokevirtual 76, 3) := by decide +kernel
theorem dL_law_534 : decode cL_law 534 = .ok (.lcmp, 1) := by decide +kernel
theorem dL_law_535 : decode cL_law 535 = .ok (.ifCond .eq 105, 3) := by decide +kernel
theorem dL_law_538 : decode cL_law 538 = .ok (.iconst 0, 1) := by decide +kernel
theorem dL_law_539 : decode cL_law 539 = .ok (.ireturn, 1) := by decide +kernel
theorem dL_law_540 : decode cL_law 540 = .ok (.aload_n 1, 1) := by decide +kernel
theorem dL_law_541 : decode cL_law 541 = .ok (.aload_n 0, 1) := by decide +kernel
theorem dL_law_542 : decode cL_law 542 = .ok (.iload_n 3, 1) := by decide +kernel
theorem dL_law_543 : decode cL_law 543 = .ok (.iconst 1, 1) := by decide +kernel
theorem dL_law_544 : decode cL_law 544 = .ok (.iadd, 1) := by decide +kernel
theorem dL_law_545 : decode cL_law 545 = .ok (.iaload, 1) := by decide +kernel
theorem dL_law_546 : decode cL_law 546 = .ok (.aload_n 0, 1) := by decide +kernel
theorem dL_law_547 : decode cL_law 547 = .ok (.iload_n 3, 1) := by decide +kernel
theorem dL_law_548 : decode cL_law 548 = .ok (.iconst 2, 1) := by decide +kernel
theorem dL_law_549 : decode cL_law 549 = .ok (.iadd, 1) := by decide +kernel
theorem dL_law_550 : decode cL_law 550 = .ok (.iaload, 1) := by decide +kernel
theorem dL_law_551 : decode cL_law 551 = .ok (.invokevirtual 77, 3) := by decide +kernel
theorem dL_law_554 : decode cL_law 554 = .ok (.aload_n 2, 1) := by decide +kernel
theorem dL_law_555 : decode cL_law 555 = .ok (.aload_n 0, 1) := by decide +kernel
theorem dL_law_556 : decode cL_law 556 = .ok (.iload_n 3, 1) := by decide +kernel
theorem dL_law_557 : decode cL_law 557 = .ok (.iconst 1, 1) := by decide +kernel
theorem dL_law_558 : decode cL_law 558 = .ok (.iadd, 1) := by decide +kernel
theorem dL_law_559 : decode cL_law 559 = .ok (.iaload, 1) := by decide +kernel
theorem dL_law_560 : decode cL_law 560 = .ok (.aload_n 0, 1) := by decide +kernel
theorem dL_law_561 : decode cL_law 561 = .ok (.iload_n 3, 1) := by decide +kernel
theorem dL_law_562 : decode cL_law 562 = .ok (.iconst 2, 1) := by decide +kernel
theorem dL_law_563 : decode cL_law 563 = .ok (.iadd, 1) := by decide +kernel
theorem dL_law_564 : decode cL_law 564 = .ok (.iaload, 1) := by decide +kernel
theorem dL_law_565 : decode cL_law 565 = .ok (.invokevirtual 80, 3) := by decide +kernel
theorem dL_law_568 : decode cL_law 568 = .ok (.lcmp, 1) := by decide +kernel
theorem dL_law_569 : decode cL_law 569 = .ok (.ifCond .eq 71, 3) := by decide +kernel
theorem dL_law_572 : decode cL_law 572 = .ok (.iconst 0, 1) := by decide +kernel
theorem dL_law_573 : decode cL_law 573 = .ok (.ireturn, 1) := by decide +kernel
theorem dL_law_574 : decode cL_law 574 = .ok (.aload_n 1, 1) := by decide +kernel
theorem dL_law_575 : decode cL_law 575 = .ok (.aload_n 0, 1) := by decide +kernel
theorem dL_law_576 : decode cL_law 576 = .ok (.iload_n 3, 1) := by decide +kernel
theorem dL_law_577 : decode cL_law 577 = .ok (.iconst 1, 1) := by decide +kernel
theorem dL_law_578 : decode cL_law 578 = .ok (.iadd, 1) := by decide +kernel
theorem dL_law_579 : decode cL_law 579 = .ok (.iaload, 1) := by decide +kernel
theorem dL_law_580 : decode cL_law 580 = .ok (.i2l, 1) := by decide +kernel
theorem dL_law_581 : decode cL_law 581 = .ok (.bipush 32, 2) := by decide +kernel
theorem dL_law_583 : decode cL_law 583 = .ok (.lshl, 1) := by decide +kernel
theorem dL_law_584 : decode cL_law 584 = .ok (.aload_n 0, 1) := by decide +kernel
theorem dL_law_585 : decode cL_law 585 = .ok (.iload_n 3, 1) := by decide +kernel
theorem dL_law_586 : decode cL_law 586 = .ok (.iconst 2, 1) := by decide +kernel
theorem dL_law_587 : decode cL_law 587 = .ok (.iadd, 1) := by decide +kernel
theorem dL_law_588 : decode cL_law 588 = .ok (.iaload, 1) := by decide +kernel
theorem dL_law_589 : decode cL_law 589 = .ok (.i2l, 1) := by decide +kernel
theorem dL_law_590 : decode cL_law 590 = .ok (.ldc2_w 31, 3) := by decide +kernel
theorem dL_law_593 : decode cL_law 593 = .ok (.land, 1) := by decide +kernel
theorem dL_law_594 : decode cL_law 594 = .ok (.lor, 1) := by decide +kernel
theorem dL_law_595 : decode cL_law 595 = .ok (.invokevirtual 81, 3) := by decide +kernel
theorem dL_law_598 : decode cL_law 598 = .ok (.aload_n 2, 1) := by decide +kernel
theorem dL_law_599 : decode cL_law 599 = .ok (.aload_n 0, 1) := by decide +kernel
theorem dL_law_600 : decode cL_law 600 = .ok (.iload_n 3, 1) := by decide +kernel
theorem dL_law_601 : decode cL_law 601 = .ok (.iconst 1, 1) := by decide +kernel
theorem dL_law_602 : decode cL_law 602 = .ok (.iadd, 1) := by decide +kernel
theorem dL_law_603 : decode cL_law 603 = .ok (.iaload, 1) := by decide +kernel
theorem dL_law_604 : decode cL_law 604 = .ok (.i2l, 1) := by decide +kernel
theorem dL_law_605 : decode cL_law 605 = .ok (.bipush 32, 2) := by decide +kernel
theorem dL_law_607 : decode cL_law 607 = .ok (.lshl, 1) := by decide +kernel
theorem dL_law_608 : decode cL_law 608 = .ok (.aload_n 0, 1) := by decide +kernel
theorem dL_law_609 : decode cL_law 609 = .ok (.iload_n 3, 1) := by decide +kernel
theorem dL_law_610 : decode cL_law 610 = .ok (.iconst 2, 1) := by decide +kernel
theorem dL_law_611 : decode cL_law 611 = .ok (.iadd, 1) := by decide +kernel
theorem dL_law_612 : decode cL_law 612 = .ok (.iaload, 1) := by decide +kernel
theorem dL_law_613 : decode cL_law 613 = .ok (.i2l, 1) := by decide +kernel
theorem dL_law_614 : decode cL_law 614 = .ok (.ldc2_w 31, 3) := by decide +kernel
theorem dL_law_617 : decode cL_law 617 = .ok (.land, 1) := by decide +kernel
theorem dL_law_618 : decode cL_law 618 = .ok (.lor, 1) := by decide +kernel
theorem dL_law_619 : decode cL_law 619 = .ok (.invokevirtual 84, 3) := by decide +kernel
theorem dL_law_622 : decode cL_law 622 = .ok (.if_icmp .eq 18, 3) := by decide +kernel
theorem dL_law_625 : decode cL_law 625 = .ok (.iconst 0, 1) := by decide +kernel
theorem dL_law_626 : decode cL_law 626 = .ok (.ireturn, 1) := by decide +kernel
theorem dL_law_627 : decode cL_law 627 = .ok (.aload_n 1, 1) := by decide +kernel
theorem dL_law_628 : decode cL_law 628 = .ok (.invokevirtual 85, 3) := by decide +kernel
theorem dL_law_631 : decode cL_law 631 = .ok (.aload_n 2, 1) := by decide +kernel
theorem dL_law_632 : decode cL_law 632 = .ok (.invokevirtual 89, 3) := by decide +kernel
theorem dL_law_635 : decode cL_law 635 = .ok (.if_icmp .eq 5, 3) := by decide +kernel
theorem dL_law_638 : decode cL_law 638 = .ok (.iconst 0, 1) := by decide +kernel
theorem dL_law_639 : decode cL_law 639 = .ok (.ireturn, 1) := by decide +kernel
theorem dL_law_640 : decode cL_law 640 = .ok (.iinc 3 4, 3) := by decide +kernel
theorem dL_law_643 : decode cL_law 643 = .ok (.goto (-625), 3) := by decide +kernel
theorem dL_law_646 : decode cL_law 646 = .ok (.iconst 1, 1) := by decide +kernel
theorem dL_law_647 : decode cL_law 647 = .ok (.ireturn, 1) := by decide +kernel
end
section
/-! The judgement GG: "the machine at pc with these locals, this operand stack and this world comes to the method's end": one rule an instruction. -/
abbrev En : Type := Launch × va_G × List vw_C × List (ClassId × FieldType)
abbrev Cx : Type := Program × Env × Room × State × MethodId × Array Value × List Frame × Method × Code × (State → Prop) × (Nat → Prop) × Nat
def GG (E : En) (X : Cx) (k n pc : Nat) (lv : List (Nat × Value)) (st : List Value) (ws : va_W) : Prop := match E, X with
  | (l, D, cl, _), (p, e, R, s, m, args, below, meth, c, Q, A, nL) => ∀ (H : Heap) (locs : List Loc) (ls : Array Slot), va_P D cl ws H → va_D A ws → va_S A s.heap H locs → lv_has ls nL lv → W p l e R s m args below meth c H locs k n Q (F0 m pc ls st)
def Fx (E : En) (X : Cx) (cc : ByteArray) (own : String) (Ts : List Cond) (rm : Room) (L : Nat) : Prop := match E, X with
  | (_, D, cl, tys), (p, _, R, s, m, args, _, _, c, _, A, nL) => CallFix p m c cc nL s args Ts own ∧ va_K D cl tys s ∧ (∀ q, s.heap.size ≤ q → A q) ∧ R = rm ∧ nL = L
/-- the value of a local -/
def lk (k : Nat) : List (Nat × Value) → Option Value
  | [] => none
  | q :: t => match Nat.beq q.1 k with
    | true => some q.2
    | false => lk k t
theorem lk_mem {k : Nat} {v : Value} : ∀ {lv : List (Nat × Value)}, lk k lv = some v → (k, v) ∈ lv
  | [], h => by cases h
  | q :: t, h => by
    unfold lk at h
    cases hq : Nat.beq q.1 k with
    | true =>
      rw [hq] at h
      have e1 : q.1 = k := Nat.eq_of_beq_eq_true hq
      have e2 : q.2 = v := Option.some.inj h
      rw [← e1, ← e2]
      exact List.mem_cons_self
    | false =>
      rw [hq] at h
      exact List.mem_cons_of_mem _ (lk_mem h)
theorem lk_at {ls : Array Slot} {nL : Nat} {lv : List (Nat × Value)} (h : lv_has ls nL lv) {k : Nat} {v : Value} (hk : lk k lv = some v) : ls[k]? = some (.val v) := h.2.2 (k, v) (lk_mem hk)
/-- a local is stored: sorted by place -/
def lins (x : Nat × Value) : List (Nat × Value) → List (Nat × Value)
  | [] => [x]
  | q :: t => match Nat.ble q.1 x.1 with
    | true => q :: lins x t
    | false => x :: q :: t
theorem lins_mem {x y : Nat × Value} : ∀ {lv : List (Nat × Value)}, y ∈ lins x lv → y = x ∨ y ∈ lv
  | [], h => Or.inl (List.mem_singleton.mp h)
  | q :: t, h => by
    unfold lins at h
    cases hq : Nat.ble q.1 x.1 with
    | true =>
      rw [hq] at h
      rcases List.mem_cons.mp h with h | h
      · exact Or.inr (h ▸ List.mem_cons_self)
      · rcases lins_mem h with h | h
        · exact Or.inl h
        · exact Or.inr (List.mem_cons_of_mem _ h)
    | false =>
      rw [hq] at h
      rcases List.mem_cons.mp h with h | h
      · exact Or.inl h
      · exact Or.inr h
def lst1 (k : Nat) (v : Value) (lv : List (Nat × Value)) : List (Nat × Value) := lins (k, v) (lv.filter (fun q => !(q.1 == k) && !(q.1 + 1 == k && q.2.category == 2)))
def lst2 (k : Nat) (v : Value) (lv : List (Nat × Value)) : List (Nat × Value) := lins (k, v) (lv.filter (fun q => !(q.1 == k) && (!(q.1 == k + 1) && !(q.1 + 1 == k && q.2.category == 2))))
theorem lins_has {ls : Array Slot} {nL : Nat} {x : Nat × Value} {lv : List (Nat × Value)} (h : lv_has ls nL (x :: lv)) : lv_has ls nL (lins x lv) := ⟨h.1, h.2.1, fun q hq => by
  rcases lins_mem hq with e | e
  · exact h.2.2 q (e ▸ List.mem_cons_self)
  · exact h.2.2 q (List.mem_cons_of_mem _ e)⟩
section GR
variable {E : En} {X : Cx} {k n pc L : Nat} {lv : List (Nat × Value)} {st : List Value} {ws : va_W} {cc : ByteArray} {own : String} {Ts : List Cond} {rm : Room}
theorem g_lv (ks : List Nat) {lv' : List (Nat × Value)} (h : lv_pick lv ks = lv') (K : GG E X k n pc lv' st ws) : GG E X k n pc lv st ws := by
  obtain ⟨l, D, cl, tys⟩ := E
  obtain ⟨p, e, R, s, m, args, below, meth, c, Q, A, nL⟩ := X
  exact fun H locs ls hP hD hS hl => K H locs ls hP hD hS (lv_sub hl ks h)
theorem g_eq {pc' : Nat} {lv' : List (Nat × Value)} {st' : List Value} {ws' : va_W} (K : GG E X k n pc' lv' st' ws') (h1 : pc' = pc) (h2 : lv' = lv) (h3 : st' = st) (h4 : ws' = ws) : GG E X k n pc lv st ws := by
  subst h1 h2 h3 h4; exact K
theorem g_widen {k' n' : Nat} (h1 : k ≤ k') (h2 : n ≤ n') (K : GG E X k' n' pc lv st ws) : GG E X k n pc lv st ws := by
  obtain ⟨l, D, cl, tys⟩ := E
  obtain ⟨p, e, R, s, m, args, below, meth, c, Q, A, nL⟩ := X
  exact fun H locs ls hP hD hS hl => W.widen h1 h2 (K H locs ls hP hD hS hl)
theorem g_perm (is : List Nat) {ws' : va_W} (hn : va_nd is = true) (h : is.map (fun i => ws[i]?) = ws'.map some) (h2 : is.filterMap (fun i => ws[i]?) = ws') (K : GG E X k n pc lv st ws') : GG E X k n pc lv st ws := by
  obtain ⟨l, D, cl, tys⟩ := E
  obtain ⟨p, e, R, s, m, args, below, meth, c, Q, A, nL⟩ := X
  exact fun H locs ls hP hD hS hl => K H locs ls (hP.sub is h2) (hD.sub is hn h) hS hl

theorem g_iconst (F : Fx E X cc own Ts rm L) {i : Int} (v : Int32) (d : decode cc pc = .ok (.iconst i, 1)) (hv : Int32.ofInt i = v) (K : GG E X k n (pc + 1) lv (.int v :: st) ws) : GG E X k n pc lv st ws := by
  obtain ⟨l, D, cl, tys⟩ := E
  obtain ⟨p, e, R, s, m, args, below, meth, c, Q, A, nL⟩ := X
  obtain ⟨⟨hx, hb, hml, hown, hts⟩, hK, hA, hR, hL⟩ := F
  intro H locs ls hP hD hS hl
  exact lv_iconst hx hb d hv (K H locs ls hP hD hS hl)
theorem g_bipush (F : Fx E X cc own Ts rm L) {i : Int} (v : Int32) (d : decode cc pc = .ok (.bipush i, 2)) (hv : (Int8.ofInt i).toInt32 = v) (K : GG E X k n (pc + 2) lv (.int v :: st) ws) : GG E X k n pc lv st ws := by
  obtain ⟨l, D, cl, tys⟩ := E
  obtain ⟨p, e, R, s, m, args, below, meth, c, Q, A, nL⟩ := X
  obtain ⟨⟨hx, hb, hml, hown, hts⟩, hK, hA, hR, hL⟩ := F
  intro H locs ls hP hD hS hl
  exact lv_bipush hx hb d hv (K H locs ls hP hD hS hl)
theorem g_sipush (F : Fx E X cc own Ts rm L) {i : Int} (v : Int32) (d : decode cc pc = .ok (.sipush i, 3)) (hv : (Int16.ofInt i).toInt32 = v) (K : GG E X k n (pc + 3) lv (.int v :: st) ws) : GG E X k n pc lv st ws := by
  obtain ⟨l, D, cl, tys⟩ := E
  obtain ⟨p, e, R, s, m, args, below, meth, c, Q, A, nL⟩ := X
  obtain ⟨⟨hx, hb, hml, hown, hts⟩, hK, hA, hR, hL⟩ := F
  intro H locs ls hP hD hS hl
  exact lv_sipush hx hb d hv (K H locs ls hP hD hS hl)
theorem g_lconst (F : Fx E X cc own Ts rm L) {i : Fin 2} (v : Int64) (d : decode cc pc = .ok (.lconst i, 1)) (hv : Int64.ofNat (i : Nat) = v) (K : GG E X k n (pc + 1) lv (.long v :: st) ws) : GG E X k n pc lv st ws := by
  obtain ⟨l, D, cl, tys⟩ := E
  obtain ⟨p, e, R, s, m, args, below, meth, c, Q, A, nL⟩ := X
  obtain ⟨⟨hx, hb, hml, hown, hts⟩, hK, hA, hR, hL⟩ := F
  intro H locs ls hP hD hS hl
  exact lv_lconst hx hb d hv (K H locs ls hP hD hS hl)
theorem g_ldc (F : Fx E X cc own Ts rm L) {i : Nat} (v : Int32) (d : decode cc pc = .ok (.ldc i, 2)) (hv : Jvm.Cond.constant own i v ∈ Ts) (K : GG E X k n (pc + 2) lv (.int v :: st) ws) : GG E X k n pc lv st ws := by
  obtain ⟨l, D, cl, tys⟩ := E
  obtain ⟨p, e, R, s, m, args, below, meth, c, Q, A, nL⟩ := X
  obtain ⟨⟨hx, hb, hml, hown, hts⟩, hK, hA, hR, hL⟩ := F
  intro H locs ls hP hD hS hl
  exact lv_ldc hx hb hown (hts _ hv) d (K H locs ls hP hD hS hl)
theorem g_ldc2 (F : Fx E X cc own Ts rm L) {i : Nat} (v : Int64) (d : decode cc pc = .ok (.ldc2_w i, 3)) (hv : Jvm.Cond.constantLong own i v ∈ Ts) (K : GG E X k n (pc + 3) lv (.long v :: st) ws) : GG E X k n pc lv st ws := by
  obtain ⟨l, D, cl, tys⟩ := E
  obtain ⟨p, e, R, s, m, args, below, meth, c, Q, A, nL⟩ := X
  obtain ⟨⟨hx, hb, hml, hown, hts⟩, hK, hA, hR, hL⟩ := F
  intro H locs ls hP hD hS hl
  exact lv_ldc2 hx hb hown (hts _ hv) d (K H locs ls hP hD hS hl)
theorem g_iload_n (F : Fx E X cc own Ts rm L) {j : Fin 4} {i : Nat} {v : Int32} (d : decode cc pc = .ok (.iload_n j, 1)) (hi : (j : Nat) = i) (h : lk i lv = some (.int v)) (K : GG E X k n (pc + 1) lv (.int v :: st) ws) : GG E X k n pc lv st ws := by
  obtain ⟨l, D, cl, tys⟩ := E
  obtain ⟨p, e, R, s, m, args, below, meth, c, Q, A, nL⟩ := X
  obtain ⟨⟨hx, hb, hml, hown, hts⟩, hK, hA, hR, hL⟩ := F
  intro H locs ls hP hD hS hl
  exact lv_iload_n hx hb d hi (lk_at hl h) (K H locs ls hP hD hS hl)
theorem g_iload (F : Fx E X cc own Ts rm L) {i : Nat} {v : Int32} (d : decode cc pc = .ok (.iload i, 2)) (h : lk i lv = some (.int v)) (K : GG E X k n (pc + 2) lv (.int v :: st) ws) : GG E X k n pc lv st ws := by
  obtain ⟨l, D, cl, tys⟩ := E
  obtain ⟨p, e, R, s, m, args, below, meth, c, Q, A, nL⟩ := X
  obtain ⟨⟨hx, hb, hml, hown, hts⟩, hK, hA, hR, hL⟩ := F
  intro H locs ls hP hD hS hl
  exact lv_iload hx hb d (lk_at hl h) (K H locs ls hP hD hS hl)
theorem g_istore_n (F : Fx E X cc own Ts rm L) {j : Fin 4} {i : Nat} {v : Int32} {lv2 : List (Nat × Value)} (d : decode cc pc = .ok (.istore_n j, 1)) (hi : (j : Nat) = i) (hn : i < L) (h : lst1 i (.int v) lv = lv2) (K : GG E X k n (pc + 1) lv2 st ws) : GG E X k n pc lv (.int v :: st) ws := by
  obtain ⟨l, D, cl, tys⟩ := E
  obtain ⟨p, e, R, s, m, args, below, meth, c, Q, A, nL⟩ := X
  obtain ⟨⟨hx, hb, hml, hown, hts⟩, hK, hA, hR, hL⟩ := F
  intro H locs ls hP hD hS hl
  exact lv_istore_n hx hb d hi hl (by rw [hL]; exact hn) rfl (fun ls hl => K H locs ls hP hD hS (h ▸ lins_has hl))
theorem g_istore (F : Fx E X cc own Ts rm L) {i : Nat} {v : Int32} {lv2 : List (Nat × Value)} (d : decode cc pc = .ok (.istore i, 2)) (hn : i < L) (h : lst1 i (.int v) lv = lv2) (K : GG E X k n (pc + 2) lv2 st ws) : GG E X k n pc lv (.int v :: st) ws := by
  obtain ⟨l, D, cl, tys⟩ := E
  obtain ⟨p, e, R, s, m, args, below, meth, c, Q, A, nL⟩ := X
  obtain ⟨⟨hx, hb, hml, hown, hts⟩, hK, hA, hR, hL⟩ := F
  intro H locs ls hP hD hS hl
  exact lv_istore hx hb d hl (by rw [hL]; exact hn) rfl (fun ls hl => K H locs ls hP hD hS (h ▸ lins_has hl))
theorem g_lload_n (F : Fx E X cc own Ts rm L) {j : Fin 4} {i : Nat} {v : Int64} (d : decode cc pc = .ok (.lload_n j, 1)) (hi : (j : Nat) = i) (h : lk i lv = some (.long v)) (K : GG E X k n (pc + 1) lv (.long v :: st) ws) : GG E X k n pc lv st ws := by
  obtain ⟨l, D, cl, tys⟩ := E
  obtain ⟨p, e, R, s, m, args, below, meth, c, Q, A, nL⟩ := X
  obtain ⟨⟨hx, hb, hml, hown, hts⟩, hK, hA, hR, hL⟩ := F
  intro H locs ls hP hD hS hl
  exact lv_lload_n hx hb d hi (lk_at hl h) (K H locs ls hP hD hS hl)
theorem g_lload (F : Fx E X cc own Ts rm L) {i : Nat} {v : Int64} (d : decode cc pc = .ok (.lload i, 2)) (h : lk i lv = some (.long v)) (K : GG E X k n (pc + 2) lv (.long v :: st) ws) : GG E X k n pc lv st ws := by
  obtain ⟨l, D, cl, tys⟩ := E
  obtain ⟨p, e, R, s, m, args, below, meth, c, Q, A, nL⟩ := X
  obtain ⟨⟨hx, hb, hml, hown, hts⟩, hK, hA, hR, hL⟩ := F
  intro H locs ls hP hD hS hl
  exact lv_lload hx hb d (lk_at hl h) (K H locs ls hP hD hS hl)
theorem g_lstore_n (F : Fx E X cc own Ts rm L) {j : Fin 4} {i : Nat} {v : Int64} {lv2 : List (Nat × Value)} (d : decode cc pc = .ok (.lstore_n j, 1)) (hi : (j : Nat) = i) (hn : i + 1 < L) (h : lst2 i (.long v) lv = lv2) (K : GG E X k n (pc + 1) lv2 st ws) : GG E X k n pc lv (.long v :: st) ws := by
  obtain ⟨l, D, cl, tys⟩ := E
  obtain ⟨p, e, R, s, m, args, below, meth, c, Q, A, nL⟩ := X
  obtain ⟨⟨hx, hb, hml, hown, hts⟩, hK, hA, hR, hL⟩ := F
  intro H locs ls hP hD hS hl
  exact lv_lstore_n hx hb d hi hl (by rw [hL]; exact hn) rfl (fun ls hl => K H locs ls hP hD hS (h ▸ lins_has hl))
theorem g_lstore (F : Fx E X cc own Ts rm L) {i : Nat} {v : Int64} {lv2 : List (Nat × Value)} (d : decode cc pc = .ok (.lstore i, 2)) (hn : i + 1 < L) (h : lst2 i (.long v) lv = lv2) (K : GG E X k n (pc + 2) lv2 st ws) : GG E X k n pc lv (.long v :: st) ws := by
  obtain ⟨l, D, cl, tys⟩ := E
  obtain ⟨p, e, R, s, m, args, below, meth, c, Q, A, nL⟩ := X
  obtain ⟨⟨hx, hb, hml, hown, hts⟩, hK, hA, hR, hL⟩ := F
  intro H locs ls hP hD hS hl
  exact lv_lstore hx hb d hl (by rw [hL]; exact hn) rfl (fun ls hl => K H locs ls hP hD hS (h ▸ lins_has hl))
theorem g_aload_n (F : Fx E X cc own Ts rm L) {j : Fin 4} {i : Nat} {v : Nat} (d : decode cc pc = .ok (.aload_n j, 1)) (hi : (j : Nat) = i) (h : lk i lv = some (.ref v)) (K : GG E X k n (pc + 1) lv (.ref v :: st) ws) : GG E X k n pc lv st ws := by
  obtain ⟨l, D, cl, tys⟩ := E
  obtain ⟨p, e, R, s, m, args, below, meth, c, Q, A, nL⟩ := X
  obtain ⟨⟨hx, hb, hml, hown, hts⟩, hK, hA, hR, hL⟩ := F
  intro H locs ls hP hD hS hl
  exact lv_aload_n hx hb d hi (lk_at hl h) (K H locs ls hP hD hS hl)
theorem g_aload (F : Fx E X cc own Ts rm L) {i : Nat} {v : Nat} (d : decode cc pc = .ok (.aload i, 2)) (h : lk i lv = some (.ref v)) (K : GG E X k n (pc + 2) lv (.ref v :: st) ws) : GG E X k n pc lv st ws := by
  obtain ⟨l, D, cl, tys⟩ := E
  obtain ⟨p, e, R, s, m, args, below, meth, c, Q, A, nL⟩ := X
  obtain ⟨⟨hx, hb, hml, hown, hts⟩, hK, hA, hR, hL⟩ := F
  intro H locs ls hP hD hS hl
  exact lv_aload hx hb d (lk_at hl h) (K H locs ls hP hD hS hl)
theorem g_astore_n (F : Fx E X cc own Ts rm L) {j : Fin 4} {i : Nat} {v : Nat} {lv2 : List (Nat × Value)} (d : decode cc pc = .ok (.astore_n j, 1)) (hi : (j : Nat) = i) (hn : i < L) (h : lst1 i (.ref v) lv = lv2) (K : GG E X k n (pc + 1) lv2 st ws) : GG E X k n pc lv (.ref v :: st) ws := by
  obtain ⟨l, D, cl, tys⟩ := E
  obtain ⟨p, e, R, s, m, args, below, meth, c, Q, A, nL⟩ := X
  obtain ⟨⟨hx, hb, hml, hown, hts⟩, hK, hA, hR, hL⟩ := F
  intro H locs ls hP hD hS hl
  exact lv_astore_n hx hb d hi hl (by rw [hL]; exact hn) rfl (fun ls hl => K H locs ls hP hD hS (h ▸ lins_has hl))
theorem g_astore (F : Fx E X cc own Ts rm L) {i : Nat} {v : Nat} {lv2 : List (Nat × Value)} (d : decode cc pc = .ok (.astore i, 2)) (hn : i < L) (h : lst1 i (.ref v) lv = lv2) (K : GG E X k n (pc + 2) lv2 st ws) : GG E X k n pc lv (.ref v :: st) ws := by
  obtain ⟨l, D, cl, tys⟩ := E
  obtain ⟨p, e, R, s, m, args, below, meth, c, Q, A, nL⟩ := X
  obtain ⟨⟨hx, hb, hml, hown, hts⟩, hK, hA, hR, hL⟩ := F
  intro H locs ls hP hD hS hl
  exact lv_astore hx hb d hl (by rw [hL]; exact hn) rfl (fun ls hl => K H locs ls hP hD hS (h ▸ lins_has hl))
theorem lk_idx {k : Nat} {v : Value} {lv : List (Nat × Value)} (h : lk k lv = some v) : ∃ j : Nat, lv[j]? = some (k, v) := by
  obtain ⟨j, hj, e⟩ := List.mem_iff_getElem.mp (lk_mem h)
  exact ⟨j, by rw [List.getElem?_eq_getElem hj, e]⟩
theorem g_iinc (F : Fx E X cc own Ts rm L) {i : Nat} {j : Int} {x : Int32} (v : Int32) {lv2 : List (Nat × Value)} (d : decode cc pc = .ok (.iinc i j, 3)) (h : lk i lv = some (.int x)) (hv : x + Int32.ofInt j = v) (hn : i < L) (h2 : lst1 i (.int v) lv = lv2) (K : GG E X k n (pc + 3) lv2 st ws) : GG E X k n pc lv st ws := by
  obtain ⟨l, D, cl, tys⟩ := E
  obtain ⟨p, e, R, s, m, args, below, meth, c, Q, A, nL⟩ := X
  obtain ⟨⟨hx, hb, hml, hown, hts⟩, hK, hA, hR, hL⟩ := F
  intro H locs ls hP hD hS hl
  obtain ⟨q, hq⟩ := lk_idx h
  exact lv_iinc hx hb d hl hq hv (by rw [hL]; exact hn) rfl (fun ls hl => K H locs ls hP hD hS (h2 ▸ lins_has hl))
theorem g_iadd (F : Fx E X cc own Ts rm L) {x y : Int32} (d : decode cc pc = .ok (.iadd, 1))  (K : GG E X k n (pc + 1) lv (.int (x + y) :: st) ws) : GG E X k n pc lv (.int y :: .int x :: st) ws := by
  obtain ⟨l, D, cl, tys⟩ := E
  obtain ⟨p, e, R, s, m, args, below, meth, c, Q, A, nL⟩ := X
  obtain ⟨⟨hx, hb, hml, hown, hts⟩, hK, hA, hR, hL⟩ := F
  intro H locs ls hP hD hS hl
  exact lv_iadd hx hb d (K H locs ls hP hD hS hl)
theorem g_isub (F : Fx E X cc own Ts rm L) {x y : Int32} (d : decode cc pc = .ok (.isub, 1))  (K : GG E X k n (pc + 1) lv (.int (x - y) :: st) ws) : GG E X k n pc lv (.int y :: .int x :: st) ws := by
  obtain ⟨l, D, cl, tys⟩ := E
  obtain ⟨p, e, R, s, m, args, below, meth, c, Q, A, nL⟩ := X
  obtain ⟨⟨hx, hb, hml, hown, hts⟩, hK, hA, hR, hL⟩ := F
  intro H locs ls hP hD hS hl
  exact lv_isub hx hb d (K H locs ls hP hD hS hl)
theorem g_imul (F : Fx E X cc own Ts rm L) {x y : Int32} (d : decode cc pc = .ok (.imul, 1))  (K : GG E X k n (pc + 1) lv (.int (x * y) :: st) ws) : GG E X k n pc lv (.int y :: .int x :: st) ws := by
  obtain ⟨l, D, cl, tys⟩ := E
  obtain ⟨p, e, R, s, m, args, below, meth, c, Q, A, nL⟩ := X
  obtain ⟨⟨hx, hb, hml, hown, hts⟩, hK, hA, hR, hL⟩ := F
  intro H locs ls hP hD hS hl
  exact lv_imul hx hb d (K H locs ls hP hD hS hl)
theorem g_iand (F : Fx E X cc own Ts rm L) {x y : Int32} (d : decode cc pc = .ok (.iand, 1))  (K : GG E X k n (pc + 1) lv (.int (x &&& y) :: st) ws) : GG E X k n pc lv (.int y :: .int x :: st) ws := by
  obtain ⟨l, D, cl, tys⟩ := E
  obtain ⟨p, e, R, s, m, args, below, meth, c, Q, A, nL⟩ := X
  obtain ⟨⟨hx, hb, hml, hown, hts⟩, hK, hA, hR, hL⟩ := F
  intro H locs ls hP hD hS hl
  exact lv_iand hx hb d (K H locs ls hP hD hS hl)
theorem g_ladd (F : Fx E X cc own Ts rm L) {x y : Int64} (d : decode cc pc = .ok (.ladd, 1))  (K : GG E X k n (pc + 1) lv (.long (x + y) :: st) ws) : GG E X k n pc lv (.long y :: .long x :: st) ws := by
  obtain ⟨l, D, cl, tys⟩ := E
  obtain ⟨p, e, R, s, m, args, below, meth, c, Q, A, nL⟩ := X
  obtain ⟨⟨hx, hb, hml, hown, hts⟩, hK, hA, hR, hL⟩ := F
  intro H locs ls hP hD hS hl
  exact lv_ladd hx hb d (K H locs ls hP hD hS hl)
theorem g_lsub (F : Fx E X cc own Ts rm L) {x y : Int64} (d : decode cc pc = .ok (.lsub, 1))  (K : GG E X k n (pc + 1) lv (.long (x - y) :: st) ws) : GG E X k n pc lv (.long y :: .long x :: st) ws := by
  obtain ⟨l, D, cl, tys⟩ := E
  obtain ⟨p, e, R, s, m, args, below, meth, c, Q, A, nL⟩ := X
  obtain ⟨⟨hx, hb, hml, hown, hts⟩, hK, hA, hR, hL⟩ := F
  intro H locs ls hP hD hS hl
  exact lv_lsub hx hb d (K H locs ls hP hD hS hl)
theorem g_lmul (F : Fx E X cc own Ts rm L) {x y : Int64} (d : decode cc pc = .ok (.lmul, 1))  (K : GG E X k n (pc + 1) lv (.long (x * y) :: st) ws) : GG E X k n pc lv (.long y :: .long x :: st) ws := by
  obtain ⟨l, D, cl, tys⟩ := E
  obtain ⟨p, e, R, s, m, args, below, meth, c, Q, A, nL⟩ := X
  obtain ⟨⟨hx, hb, hml, hown, hts⟩, hK, hA, hR, hL⟩ := F
  intro H locs ls hP hD hS hl
  exact lv_lmul hx hb d (K H locs ls hP hD hS hl)
theorem g_land (F : Fx E X cc own Ts rm L) {x y : Int64} (d : decode cc pc = .ok (.land, 1))  (K : GG E X k n (pc + 1) lv (.long (x &&& y) :: st) ws) : GG E X k n pc lv (.long y :: .long x :: st) ws := by
  obtain ⟨l, D, cl, tys⟩ := E
  obtain ⟨p, e, R, s, m, args, below, meth, c, Q, A, nL⟩ := X
  obtain ⟨⟨hx, hb, hml, hown, hts⟩, hK, hA, hR, hL⟩ := F
  intro H locs ls hP hD hS hl
  exact lv_land hx hb d (K H locs ls hP hD hS hl)
theorem g_lor (F : Fx E X cc own Ts rm L) {x y : Int64} (d : decode cc pc = .ok (.lor, 1))  (K : GG E X k n (pc + 1) lv (.long (x ||| y) :: st) ws) : GG E X k n pc lv (.long y :: .long x :: st) ws := by
  obtain ⟨l, D, cl, tys⟩ := E
  obtain ⟨p, e, R, s, m, args, below, meth, c, Q, A, nL⟩ := X
  obtain ⟨⟨hx, hb, hml, hown, hts⟩, hK, hA, hR, hL⟩ := F
  intro H locs ls hP hD hS hl
  exact lv_lor hx hb d (K H locs ls hP hD hS hl)
theorem g_ineg (F : Fx E X cc own Ts rm L) {x : Int32} (d : decode cc pc = .ok (.ineg, 1))  (K : GG E X k n (pc + 1) lv (.int (-x) :: st) ws) : GG E X k n pc lv (.int x :: st) ws := by
  obtain ⟨l, D, cl, tys⟩ := E
  obtain ⟨p, e, R, s, m, args, below, meth, c, Q, A, nL⟩ := X
  obtain ⟨⟨hx, hb, hml, hown, hts⟩, hK, hA, hR, hL⟩ := F
  intro H locs ls hP hD hS hl
  exact lv_ineg hx hb d (K H locs ls hP hD hS hl)
theorem g_lneg (F : Fx E X cc own Ts rm L) {x : Int64} (d : decode cc pc = .ok (.lneg, 1))  (K : GG E X k n (pc + 1) lv (.long (-x) :: st) ws) : GG E X k n pc lv (.long x :: st) ws := by
  obtain ⟨l, D, cl, tys⟩ := E
  obtain ⟨p, e, R, s, m, args, below, meth, c, Q, A, nL⟩ := X
  obtain ⟨⟨hx, hb, hml, hown, hts⟩, hK, hA, hR, hL⟩ := F
  intro H locs ls hP hD hS hl
  exact lv_lneg hx hb d (K H locs ls hP hD hS hl)
theorem g_i2l (F : Fx E X cc own Ts rm L) {x : Int32} (d : decode cc pc = .ok (.i2l, 1))  (K : GG E X k n (pc + 1) lv (.long x.toInt64 :: st) ws) : GG E X k n pc lv (.int x :: st) ws := by
  obtain ⟨l, D, cl, tys⟩ := E
  obtain ⟨p, e, R, s, m, args, below, meth, c, Q, A, nL⟩ := X
  obtain ⟨⟨hx, hb, hml, hown, hts⟩, hK, hA, hR, hL⟩ := F
  intro H locs ls hP hD hS hl
  exact lv_i2l hx hb d rfl (K H locs ls hP hD hS hl)
theorem g_l2i (F : Fx E X cc own Ts rm L) {x : Int64} (d : decode cc pc = .ok (.l2i, 1))  (K : GG E X k n (pc + 1) lv (.int x.toInt32 :: st) ws) : GG E X k n pc lv (.long x :: st) ws := by
  obtain ⟨l, D, cl, tys⟩ := E
  obtain ⟨p, e, R, s, m, args, below, meth, c, Q, A, nL⟩ := X
  obtain ⟨⟨hx, hb, hml, hown, hts⟩, hK, hA, hR, hL⟩ := F
  intro H locs ls hP hD hS hl
  exact lv_l2i hx hb d rfl (K H locs ls hP hD hS hl)
theorem g_lshl (F : Fx E X cc own Ts rm L) {x : Int64} {y : Int32} (d : decode cc pc = .ok (.lshl, 1))  (K : GG E X k n (pc + 1) lv (.long (x <<< (y.toInt64 &&& 63)) :: st) ws) : GG E X k n pc lv (.int y :: .long x :: st) ws := by
  obtain ⟨l, D, cl, tys⟩ := E
  obtain ⟨p, e, R, s, m, args, below, meth, c, Q, A, nL⟩ := X
  obtain ⟨⟨hx, hb, hml, hown, hts⟩, hK, hA, hR, hL⟩ := F
  intro H locs ls hP hD hS hl
  exact lv_lshl hx hb d rfl (K H locs ls hP hD hS hl)
theorem g_lcmp (F : Fx E X cc own Ts rm L) {x y : Int64} (d : decode cc pc = .ok (.lcmp, 1))  (K : GG E X k n (pc + 1) lv (.int (lg_cmp x y) :: st) ws) : GG E X k n pc lv (.long y :: .long x :: st) ws := by
  obtain ⟨l, D, cl, tys⟩ := E
  obtain ⟨p, e, R, s, m, args, below, meth, c, Q, A, nL⟩ := X
  obtain ⟨⟨hx, hb, hml, hown, hts⟩, hK, hA, hR, hL⟩ := F
  intro H locs ls hP hD hS hl
  exact W.lcmp hx hb d (K H locs ls hP hD hS hl)
theorem g_dup (F : Fx E X cc own Ts rm L) {v : Value} (d : decode cc pc = .ok (.dup, 1)) (hv : v.category = 1) (K : GG E X k n (pc + 1) lv (v :: v :: st) ws) : GG E X k n pc lv (v :: st) ws := by
  obtain ⟨l, D, cl, tys⟩ := E
  obtain ⟨p, e, R, s, m, args, below, meth, c, Q, A, nL⟩ := X
  obtain ⟨⟨hx, hb, hml, hown, hts⟩, hK, hA, hR, hL⟩ := F
  intro H locs ls hP hD hS hl
  exact lv_dup hx hb d hv (K H locs ls hP hD hS hl)
theorem g_pop (F : Fx E X cc own Ts rm L) {v : Value} (d : decode cc pc = .ok (.pop, 1)) (hv : v.category = 1) (K : GG E X k n (pc + 1) lv st ws) : GG E X k n pc lv (v :: st) ws := by
  obtain ⟨l, D, cl, tys⟩ := E
  obtain ⟨p, e, R, s, m, args, below, meth, c, Q, A, nL⟩ := X
  obtain ⟨⟨hx, hb, hml, hown, hts⟩, hK, hA, hR, hL⟩ := F
  intro H locs ls hP hD hS hl
  exact lv_pop hx hb d hv (K H locs ls hP hD hS hl)
theorem g_goto (F : Fx E X cc own Ts rm L) {off : Int} (tgt : Nat) (d : decode cc pc = .ok (.goto off, 3)) (ht : (pc : Int) + off = (tgt : Int)) (K : GG E X k n tgt lv st ws) : GG E X k n pc lv st ws := by
  obtain ⟨l, D, cl, tys⟩ := E
  obtain ⟨p, e, R, s, m, args, below, meth, c, Q, A, nL⟩ := X
  obtain ⟨⟨hx, hb, hml, hown, hts⟩, hK, hA, hR, hL⟩ := F
  intro H locs ls hP hD hS hl
  exact lv_goto hx hb d ht (K H locs ls hP hD hS hl)
theorem g_if_eq (F : Fx E X cc own Ts rm L) {x : Int32} {off : Int} (tgt : Nat) (d : decode cc pc = .ok (.ifCond .eq off, 3)) (ht : (pc : Int) + off = (tgt : Int)) (K1 : x = 0 → GG E X k n tgt lv st ws) (K2 : ¬ x = 0 → GG E X k n (pc + 3) lv st ws) : GG E X k n pc lv (.int x :: st) ws := by
  obtain ⟨l, D, cl, tys⟩ := E
  obtain ⟨p, e, R, s, m, args, below, meth, c, Q, A, nL⟩ := X
  obtain ⟨⟨hx, hb, hml, hown, hts⟩, hK, hA, hR, hL⟩ := F
  intro H locs ls hP hD hS hl
  exact lv_if_eq hx hb d ht (fun h => K1 h H locs ls hP hD hS hl) (fun h => K2 h H locs ls hP hD hS hl)
theorem g_if_eq_t (F : Fx E X cc own Ts rm L) {x : Int32} {off : Int} (tgt : Nat) (d : decode cc pc = .ok (.ifCond .eq off, 3)) (ht : (pc : Int) + off = (tgt : Int)) (h : x = 0) (K1 : GG E X k n tgt lv st ws) : GG E X k n pc lv (.int x :: st) ws :=
  g_if_eq F tgt d ht (fun _ => K1) (fun z => absurd h z)
theorem g_if_eq_f (F : Fx E X cc own Ts rm L) {x : Int32} {off : Int} (tgt : Nat) (d : decode cc pc = .ok (.ifCond .eq off, 3)) (ht : (pc : Int) + off = (tgt : Int)) (h : ¬ x = 0) (K2 : GG E X k n (pc + 3) lv st ws) : GG E X k n pc lv (.int x :: st) ws :=
  g_if_eq F tgt d ht (fun z => absurd z h) (fun _ => K2)
theorem g_icmp_eq (F : Fx E X cc own Ts rm L) {x y : Int32} {off : Int} (tgt : Nat) (d : decode cc pc = .ok (.if_icmp .eq off, 3)) (ht : (pc : Int) + off = (tgt : Int)) (K1 : x = y → GG E X k n tgt lv st ws) (K2 : ¬ x = y → GG E X k n (pc + 3) lv st ws) : GG E X k n pc lv (.int y :: .int x :: st) ws := by
  obtain ⟨l, D, cl, tys⟩ := E
  obtain ⟨p, e, R, s, m, args, below, meth, c, Q, A, nL⟩ := X
  obtain ⟨⟨hx, hb, hml, hown, hts⟩, hK, hA, hR, hL⟩ := F
  intro H locs ls hP hD hS hl
  exact lv_icmp_eq hx hb d ht (fun h => K1 h H locs ls hP hD hS hl) (fun h => K2 h H locs ls hP hD hS hl)
theorem g_icmp_eq_t (F : Fx E X cc own Ts rm L) {x y : Int32} {off : Int} (tgt : Nat) (d : decode cc pc = .ok (.if_icmp .eq off, 3)) (ht : (pc : Int) + off = (tgt : Int)) (h : x = y) (K1 : GG E X k n tgt lv st ws) : GG E X k n pc lv (.int y :: .int x :: st) ws :=
  g_icmp_eq F tgt d ht (fun _ => K1) (fun z => absurd h z)
theorem g_icmp_eq_f (F : Fx E X cc own Ts rm L) {x y : Int32} {off : Int} (tgt : Nat) (d : decode cc pc = .ok (.if_icmp .eq off, 3)) (ht : (pc : Int) + off = (tgt : Int)) (h : ¬ x = y) (K2 : GG E X k n (pc + 3) lv st ws) : GG E X k n pc lv (.int y :: .int x :: st) ws :=
  g_icmp_eq F tgt d ht (fun z => absurd z h) (fun _ => K2)
theorem g_if_ne (F : Fx E X cc own Ts rm L) {x : Int32} {off : Int} (tgt : Nat) (d : decode cc pc = .ok (.ifCond .ne off, 3)) (ht : (pc : Int) + off = (tgt : Int)) (K1 : ¬ x = 0 → GG E X k n tgt lv st ws) (K2 : x = 0 → GG E X k n (pc + 3) lv st ws) : GG E X k n pc lv (.int x :: st) ws := by
  obtain ⟨l, D, cl, tys⟩ := E
  obtain ⟨p, e, R, s, m, args, below, meth, c, Q, A, nL⟩ := X
  obtain ⟨⟨hx, hb, hml, hown, hts⟩, hK, hA, hR, hL⟩ := F
  intro H locs ls hP hD hS hl
  exact lv_if_ne hx hb d ht (fun h => K1 h H locs ls hP hD hS hl) (fun h => K2 h H locs ls hP hD hS hl)
theorem g_if_ne_t (F : Fx E X cc own Ts rm L) {x : Int32} {off : Int} (tgt : Nat) (d : decode cc pc = .ok (.ifCond .ne off, 3)) (ht : (pc : Int) + off = (tgt : Int)) (h : ¬ x = 0) (K1 : GG E X k n tgt lv st ws) : GG E X k n pc lv (.int x :: st) ws :=
  g_if_ne F tgt d ht (fun _ => K1) (fun z => absurd z h)
theorem g_if_ne_f (F : Fx E X cc own Ts rm L) {x : Int32} {off : Int} (tgt : Nat) (d : decode cc pc = .ok (.ifCond .ne off, 3)) (ht : (pc : Int) + off = (tgt : Int)) (h : x = 0) (K2 : GG E X k n (pc + 3) lv st ws) : GG E X k n pc lv (.int x :: st) ws :=
  g_if_ne F tgt d ht (fun z => absurd h z) (fun _ => K2)
theorem g_icmp_ne (F : Fx E X cc own Ts rm L) {x y : Int32} {off : Int} (tgt : Nat) (d : decode cc pc = .ok (.if_icmp .ne off, 3)) (ht : (pc : Int) + off = (tgt : Int)) (K1 : ¬ x = y → GG E X k n tgt lv st ws) (K2 : x = y → GG E X k n (pc + 3) lv st ws) : GG E X k n pc lv (.int y :: .int x :: st) ws := by
  obtain ⟨l, D, cl, tys⟩ := E
  obtain ⟨p, e, R, s, m, args, below, meth, c, Q, A, nL⟩ := X
  obtain ⟨⟨hx, hb, hml, hown, hts⟩, hK, hA, hR, hL⟩ := F
  intro H locs ls hP hD hS hl
  exact lv_icmp_ne hx hb d ht (fun h => K1 h H locs ls hP hD hS hl) (fun h => K2 h H locs ls hP hD hS hl)
theorem g_icmp_ne_t (F : Fx E X cc own Ts rm L) {x y : Int32} {off : Int} (tgt : Nat) (d : decode cc pc = .ok (.if_icmp .ne off, 3)) (ht : (pc : Int) + off = (tgt : Int)) (h : ¬ x = y) (K1 : GG E X k n tgt lv st ws) : GG E X k n pc lv (.int y :: .int x :: st) ws :=
  g_icmp_ne F tgt d ht (fun _ => K1) (fun z => absurd z h)
theorem g_icmp_ne_f (F : Fx E X cc own Ts rm L) {x y : Int32} {off : Int} (tgt : Nat) (d : decode cc pc = .ok (.if_icmp .ne off, 3)) (ht : (pc : Int) + off = (tgt : Int)) (h : x = y) (K2 : GG E X k n (pc + 3) lv st ws) : GG E X k n pc lv (.int y :: .int x :: st) ws :=
  g_icmp_ne F tgt d ht (fun z => absurd h z) (fun _ => K2)
theorem g_if_lt (F : Fx E X cc own Ts rm L) {x : Int32} {off : Int} (tgt : Nat) (d : decode cc pc = .ok (.ifCond .lt off, 3)) (ht : (pc : Int) + off = (tgt : Int)) (K1 : x < 0 → GG E X k n tgt lv st ws) (K2 : ¬ x < 0 → GG E X k n (pc + 3) lv st ws) : GG E X k n pc lv (.int x :: st) ws := by
  obtain ⟨l, D, cl, tys⟩ := E
  obtain ⟨p, e, R, s, m, args, below, meth, c, Q, A, nL⟩ := X
  obtain ⟨⟨hx, hb, hml, hown, hts⟩, hK, hA, hR, hL⟩ := F
  intro H locs ls hP hD hS hl
  exact lv_if_lt hx hb d ht (fun h => K1 h H locs ls hP hD hS hl) (fun h => K2 h H locs ls hP hD hS hl)
theorem g_if_lt_t (F : Fx E X cc own Ts rm L) {x : Int32} {off : Int} (tgt : Nat) (d : decode cc pc = .ok (.ifCond .lt off, 3)) (ht : (pc : Int) + off = (tgt : Int)) (h : x < 0) (K1 : GG E X k n tgt lv st ws) : GG E X k n pc lv (.int x :: st) ws :=
  g_if_lt F tgt d ht (fun _ => K1) (fun z => absurd h z)
theorem g_if_lt_f (F : Fx E X cc own Ts rm L) {x : Int32} {off : Int} (tgt : Nat) (d : decode cc pc = .ok (.ifCond .lt off, 3)) (ht : (pc : Int) + off = (tgt : Int)) (h : ¬ x < 0) (K2 : GG E X k n (pc + 3) lv st ws) : GG E X k n pc lv (.int x :: st) ws :=
  g_if_lt F tgt d ht (fun z => absurd z h) (fun _ => K2)
theorem g_icmp_lt (F : Fx E X cc own Ts rm L) {x y : Int32} {off : Int} (tgt : Nat) (d : decode cc pc = .ok (.if_icmp .lt off, 3)) (ht : (pc : Int) + off = (tgt : Int)) (K1 : x < y → GG E X k n tgt lv st ws) (K2 : ¬ x < y → GG E X k n (pc + 3) lv st ws) : GG E X k n pc lv (.int y :: .int x :: st) ws := by
  obtain ⟨l, D, cl, tys⟩ := E
  obtain ⟨p, e, R, s, m, args, below, meth, c, Q, A, nL⟩ := X
  obtain ⟨⟨hx, hb, hml, hown, hts⟩, hK, hA, hR, hL⟩ := F
  intro H locs ls hP hD hS hl
  exact lv_icmp_lt hx hb d ht (fun h => K1 h H locs ls hP hD hS hl) (fun h => K2 h H locs ls hP hD hS hl)
theorem g_icmp_lt_t (F : Fx E X cc own Ts rm L) {x y : Int32} {off : Int} (tgt : Nat) (d : decode cc pc = .ok (.if_icmp .lt off, 3)) (ht : (pc : Int) + off = (tgt : Int)) (h : x < y) (K1 : GG E X k n tgt lv st ws) : GG E X k n pc lv (.int y :: .int x :: st) ws :=
  g_icmp_lt F tgt d ht (fun _ => K1) (fun z => absurd h z)
theorem g_icmp_lt_f (F : Fx E X cc own Ts rm L) {x y : Int32} {off : Int} (tgt : Nat) (d : decode cc pc = .ok (.if_icmp .lt off, 3)) (ht : (pc : Int) + off = (tgt : Int)) (h : ¬ x < y) (K2 : GG E X k n (pc + 3) lv st ws) : GG E X k n pc lv (.int y :: .int x :: st) ws :=
  g_icmp_lt F tgt d ht (fun z => absurd z h) (fun _ => K2)
theorem g_if_ge (F : Fx E X cc own Ts rm L) {x : Int32} {off : Int} (tgt : Nat) (d : decode cc pc = .ok (.ifCond .ge off, 3)) (ht : (pc : Int) + off = (tgt : Int)) (K1 : 0 ≤ x → GG E X k n tgt lv st ws) (K2 : ¬ 0 ≤ x → GG E X k n (pc + 3) lv st ws) : GG E X k n pc lv (.int x :: st) ws := by
  obtain ⟨l, D, cl, tys⟩ := E
  obtain ⟨p, e, R, s, m, args, below, meth, c, Q, A, nL⟩ := X
  obtain ⟨⟨hx, hb, hml, hown, hts⟩, hK, hA, hR, hL⟩ := F
  intro H locs ls hP hD hS hl
  exact lv_if_ge hx hb d ht (fun h => K1 h H locs ls hP hD hS hl) (fun h => K2 h H locs ls hP hD hS hl)
theorem g_if_ge_t (F : Fx E X cc own Ts rm L) {x : Int32} {off : Int} (tgt : Nat) (d : decode cc pc = .ok (.ifCond .ge off, 3)) (ht : (pc : Int) + off = (tgt : Int)) (h : 0 ≤ x) (K1 : GG E X k n tgt lv st ws) : GG E X k n pc lv (.int x :: st) ws :=
  g_if_ge F tgt d ht (fun _ => K1) (fun z => absurd h z)
theorem g_if_ge_f (F : Fx E X cc own Ts rm L) {x : Int32} {off : Int} (tgt : Nat) (d : decode cc pc = .ok (.ifCond .ge off, 3)) (ht : (pc : Int) + off = (tgt : Int)) (h : ¬ 0 ≤ x) (K2 : GG E X k n (pc + 3) lv st ws) : GG E X k n pc lv (.int x :: st) ws :=
  g_if_ge F tgt d ht (fun z => absurd z h) (fun _ => K2)
theorem g_icmp_ge (F : Fx E X cc own Ts rm L) {x y : Int32} {off : Int} (tgt : Nat) (d : decode cc pc = .ok (.if_icmp .ge off, 3)) (ht : (pc : Int) + off = (tgt : Int)) (K1 : y ≤ x → GG E X k n tgt lv st ws) (K2 : ¬ y ≤ x → GG E X k n (pc + 3) lv st ws) : GG E X k n pc lv (.int y :: .int x :: st) ws := by
  obtain ⟨l, D, cl, tys⟩ := E
  obtain ⟨p, e, R, s, m, args, below, meth, c, Q, A, nL⟩ := X
  obtain ⟨⟨hx, hb, hml, hown, hts⟩, hK, hA, hR, hL⟩ := F
  intro H locs ls hP hD hS hl
  exact lv_icmp_ge hx hb d ht (fun h => K1 h H locs ls hP hD hS hl) (fun h => K2 h H locs ls hP hD hS hl)
theorem g_icmp_ge_t (F : Fx E X cc own Ts rm L) {x y : Int32} {off : Int} (tgt : Nat) (d : decode cc pc = .ok (.if_icmp .ge off, 3)) (ht : (pc : Int) + off = (tgt : Int)) (h : y ≤ x) (K1 : GG E X k n tgt lv st ws) : GG E X k n pc lv (.int y :: .int x :: st) ws :=
  g_icmp_ge F tgt d ht (fun _ => K1) (fun z => absurd h z)
theorem g_icmp_ge_f (F : Fx E X cc own Ts rm L) {x y : Int32} {off : Int} (tgt : Nat) (d : decode cc pc = .ok (.if_icmp .ge off, 3)) (ht : (pc : Int) + off = (tgt : Int)) (h : ¬ y ≤ x) (K2 : GG E X k n (pc + 3) lv st ws) : GG E X k n pc lv (.int y :: .int x :: st) ws :=
  g_icmp_ge F tgt d ht (fun z => absurd z h) (fun _ => K2)
theorem g_if_gt (F : Fx E X cc own Ts rm L) {x : Int32} {off : Int} (tgt : Nat) (d : decode cc pc = .ok (.ifCond .gt off, 3)) (ht : (pc : Int) + off = (tgt : Int)) (K1 : 0 < x → GG E X k n tgt lv st ws) (K2 : ¬ 0 < x → GG E X k n (pc + 3) lv st ws) : GG E X k n pc lv (.int x :: st) ws := by
  obtain ⟨l, D, cl, tys⟩ := E
  obtain ⟨p, e, R, s, m, args, below, meth, c, Q, A, nL⟩ := X
  obtain ⟨⟨hx, hb, hml, hown, hts⟩, hK, hA, hR, hL⟩ := F
  intro H locs ls hP hD hS hl
  exact lv_if_gt hx hb d ht (fun h => K1 h H locs ls hP hD hS hl) (fun h => K2 h H locs ls hP hD hS hl)
theorem g_if_gt_t (F : Fx E X cc own Ts rm L) {x : Int32} {off : Int} (tgt : Nat) (d : decode cc pc = .ok (.ifCond .gt off, 3)) (ht : (pc : Int) + off = (tgt : Int)) (h : 0 < x) (K1 : GG E X k n tgt lv st ws) : GG E X k n pc lv (.int x :: st) ws :=
  g_if_gt F tgt d ht (fun _ => K1) (fun z => absurd h z)
theorem g_if_gt_f (F : Fx E X cc own Ts rm L) {x : Int32} {off : Int} (tgt : Nat) (d : decode cc pc = .ok (.ifCond .gt off, 3)) (ht : (pc : Int) + off = (tgt : Int)) (h : ¬ 0 < x) (K2 : GG E X k n (pc + 3) lv st ws) : GG E X k n pc lv (.int x :: st) ws :=
  g_if_gt F tgt d ht (fun z => absurd z h) (fun _ => K2)
theorem g_icmp_gt (F : Fx E X cc own Ts rm L) {x y : Int32} {off : Int} (tgt : Nat) (d : decode cc pc = .ok (.if_icmp .gt off, 3)) (ht : (pc : Int) + off = (tgt : Int)) (K1 : y < x → GG E X k n tgt lv st ws) (K2 : ¬ y < x → GG E X k n (pc + 3) lv st ws) : GG E X k n pc lv (.int y :: .int x :: st) ws := by
  obtain ⟨l, D, cl, tys⟩ := E
  obtain ⟨p, e, R, s, m, args, below, meth, c, Q, A, nL⟩ := X
  obtain ⟨⟨hx, hb, hml, hown, hts⟩, hK, hA, hR, hL⟩ := F
  intro H locs ls hP hD hS hl
  exact lv_icmp_gt hx hb d ht (fun h => K1 h H locs ls hP hD hS hl) (fun h => K2 h H locs ls hP hD hS hl)
theorem g_icmp_gt_t (F : Fx E X cc own Ts rm L) {x y : Int32} {off : Int} (tgt : Nat) (d : decode cc pc = .ok (.if_icmp .gt off, 3)) (ht : (pc : Int) + off = (tgt : Int)) (h : y < x) (K1 : GG E X k n tgt lv st ws) : GG E X k n pc lv (.int y :: .int x :: st) ws :=
  g_icmp_gt F tgt d ht (fun _ => K1) (fun z => absurd h z)
theorem g_icmp_gt_f (F : Fx E X cc own Ts rm L) {x y : Int32} {off : Int} (tgt : Nat) (d : decode cc pc = .ok (.if_icmp .gt off, 3)) (ht : (pc : Int) + off = (tgt : Int)) (h : ¬ y < x) (K2 : GG E X k n (pc + 3) lv st ws) : GG E X k n pc lv (.int y :: .int x :: st) ws :=
  g_icmp_gt F tgt d ht (fun z => absurd z h) (fun _ => K2)
theorem g_if_le (F : Fx E X cc own Ts rm L) {x : Int32} {off : Int} (tgt : Nat) (d : decode cc pc = .ok (.ifCond .le off, 3)) (ht : (pc : Int) + off = (tgt : Int)) (K1 : x ≤ 0 → GG E X k n tgt lv st ws) (K2 : ¬ x ≤ 0 → GG E X k n (pc + 3) lv st ws) : GG E X k n pc lv (.int x :: st) ws := by
  obtain ⟨l, D, cl, tys⟩ := E
  obtain ⟨p, e, R, s, m, args, below, meth, c, Q, A, nL⟩ := X
  obtain ⟨⟨hx, hb, hml, hown, hts⟩, hK, hA, hR, hL⟩ := F
  intro H locs ls hP hD hS hl
  exact lv_if_le hx hb d ht (fun h => K1 h H locs ls hP hD hS hl) (fun h => K2 h H locs ls hP hD hS hl)
theorem g_if_le_t (F : Fx E X cc own Ts rm L) {x : Int32} {off : Int} (tgt : Nat) (d : decode cc pc = .ok (.ifCond .le off, 3)) (ht : (pc : Int) + off = (tgt : Int)) (h : x ≤ 0) (K1 : GG E X k n tgt lv st ws) : GG E X k n pc lv (.int x :: st) ws :=
  g_if_le F tgt d ht (fun _ => K1) (fun z => absurd h z)
theorem g_if_le_f (F : Fx E X cc own Ts rm L) {x : Int32} {off : Int} (tgt : Nat) (d : decode cc pc = .ok (.ifCond .le off, 3)) (ht : (pc : Int) + off = (tgt : Int)) (h : ¬ x ≤ 0) (K2 : GG E X k n (pc + 3) lv st ws) : GG E X k n pc lv (.int x :: st) ws :=
  g_if_le F tgt d ht (fun z => absurd z h) (fun _ => K2)
theorem g_icmp_le (F : Fx E X cc own Ts rm L) {x y : Int32} {off : Int} (tgt : Nat) (d : decode cc pc = .ok (.if_icmp .le off, 3)) (ht : (pc : Int) + off = (tgt : Int)) (K1 : x ≤ y → GG E X k n tgt lv st ws) (K2 : ¬ x ≤ y → GG E X k n (pc + 3) lv st ws) : GG E X k n pc lv (.int y :: .int x :: st) ws := by
  obtain ⟨l, D, cl, tys⟩ := E
  obtain ⟨p, e, R, s, m, args, below, meth, c, Q, A, nL⟩ := X
  obtain ⟨⟨hx, hb, hml, hown, hts⟩, hK, hA, hR, hL⟩ := F
  intro H locs ls hP hD hS hl
  exact lv_icmp_le hx hb d ht (fun h => K1 h H locs ls hP hD hS hl) (fun h => K2 h H locs ls hP hD hS hl)
theorem g_icmp_le_t (F : Fx E X cc own Ts rm L) {x y : Int32} {off : Int} (tgt : Nat) (d : decode cc pc = .ok (.if_icmp .le off, 3)) (ht : (pc : Int) + off = (tgt : Int)) (h : x ≤ y) (K1 : GG E X k n tgt lv st ws) : GG E X k n pc lv (.int y :: .int x :: st) ws :=
  g_icmp_le F tgt d ht (fun _ => K1) (fun z => absurd h z)
theorem g_icmp_le_f (F : Fx E X cc own Ts rm L) {x y : Int32} {off : Int} (tgt : Nat) (d : decode cc pc = .ok (.if_icmp .le off, 3)) (ht : (pc : Int) + off = (tgt : Int)) (h : ¬ x ≤ y) (K2 : GG E X k n (pc + 3) lv st ws) : GG E X k n pc lv (.int y :: .int x :: st) ws :=
  g_icmp_le F tgt d ht (fun z => absurd z h) (fun _ => K2)
theorem g_lc_eq (F : Fx E X cc own Ts rm L) {x y : Int64} {off : Int} (tgt : Nat) (d1 : decode cc pc = .ok (.lcmp, 1)) (d2 : decode cc (pc + 1) = .ok (.ifCond .eq off, 3)) (ht : ((pc + 1 : Nat) : Int) + off = (tgt : Int)) (K1 : x = y → GG E X k n tgt lv st ws) (K2 : ¬ (x = y) → GG E X k n (pc + 4) lv st ws) : GG E X k n pc lv (.long y :: .long x :: st) ws :=
  g_lcmp F d1 (g_if_eq F tgt d2 ht (fun h => K1 ((lg_cmp_eq x y).mp h)) (fun h => K2 (fun z => h ((lg_cmp_eq x y).mpr z))))
theorem g_lc_lt (F : Fx E X cc own Ts rm L) {x y : Int64} {off : Int} (tgt : Nat) (d1 : decode cc pc = .ok (.lcmp, 1)) (d2 : decode cc (pc + 1) = .ok (.ifCond .lt off, 3)) (ht : ((pc + 1 : Nat) : Int) + off = (tgt : Int)) (K1 : x < y → GG E X k n tgt lv st ws) (K2 : ¬ (x < y) → GG E X k n (pc + 4) lv st ws) : GG E X k n pc lv (.long y :: .long x :: st) ws :=
  g_lcmp F d1 (g_if_lt F tgt d2 ht (fun h => K1 ((lg_cmp_lt x y).mp h)) (fun h => K2 (fun z => h ((lg_cmp_lt x y).mpr z))))
theorem g_lc_ge (F : Fx E X cc own Ts rm L) {x y : Int64} {off : Int} (tgt : Nat) (d1 : decode cc pc = .ok (.lcmp, 1)) (d2 : decode cc (pc + 1) = .ok (.ifCond .ge off, 3)) (ht : ((pc + 1 : Nat) : Int) + off = (tgt : Int)) (K1 : y ≤ x → GG E X k n tgt lv st ws) (K2 : ¬ (y ≤ x) → GG E X k n (pc + 4) lv st ws) : GG E X k n pc lv (.long y :: .long x :: st) ws :=
  g_lcmp F d1 (g_if_ge F tgt d2 ht (fun h => K1 ((lg_cmp_ge x y).mp h)) (fun h => K2 (fun z => h ((lg_cmp_ge x y).mpr z))))
theorem g_lc_gt (F : Fx E X cc own Ts rm L) {x y : Int64} {off : Int} (tgt : Nat) (d1 : decode cc pc = .ok (.lcmp, 1)) (d2 : decode cc (pc + 1) = .ok (.ifCond .gt off, 3)) (ht : ((pc + 1 : Nat) : Int) + off = (tgt : Int)) (K1 : y < x → GG E X k n tgt lv st ws) (K2 : ¬ (y < x) → GG E X k n (pc + 4) lv st ws) : GG E X k n pc lv (.long y :: .long x :: st) ws :=
  g_lcmp F d1 (g_if_gt F tgt d2 ht (fun h => K1 ((lg_cmp_gt x y).mp h)) (fun h => K2 (fun z => h ((lg_cmp_gt x y).mpr z))))
theorem g_lc_le (F : Fx E X cc own Ts rm L) {x y : Int64} {off : Int} (tgt : Nat) (d1 : decode cc pc = .ok (.lcmp, 1)) (d2 : decode cc (pc + 1) = .ok (.ifCond .le off, 3)) (ht : ((pc + 1 : Nat) : Int) + off = (tgt : Int)) (K1 : x ≤ y → GG E X k n tgt lv st ws) (K2 : ¬ (x ≤ y) → GG E X k n (pc + 4) lv st ws) : GG E X k n pc lv (.long y :: .long x :: st) ws :=
  g_lcmp F d1 (g_if_le F tgt d2 ht (fun h => K1 ((lg_cmp_le x y).mp h)) (fun h => K2 (fun z => h ((lg_cmp_le x y).mpr z))))
theorem g_lc_ne (F : Fx E X cc own Ts rm L) {x y : Int64} {off : Int} (tgt : Nat) (d1 : decode cc pc = .ok (.lcmp, 1)) (d2 : decode cc (pc + 1) = .ok (.ifCond .ne off, 3)) (ht : ((pc + 1 : Nat) : Int) + off = (tgt : Int)) (K1 : ¬ x = y → GG E X k n tgt lv st ws) (K2 : x = y → GG E X k n (pc + 4) lv st ws) : GG E X k n pc lv (.long y :: .long x :: st) ws :=
  g_lcmp F d1 (g_if_ne F tgt d2 ht (fun h => K1 (fun z => h ((lg_cmp_eq x y).mpr z))) (fun h => K2 ((lg_cmp_eq x y).mp (by first | exact h | exact Decidable.of_not_not h))))
theorem g_tableIn (F : Fx E X cc own Ts rm L) {dflt lo hi : Int} {offs : Array Int} {len : Nat} {x : Int32} {off : Int} (tgt : Nat) (d : decode cc pc = .ok (.tableswitch dflt lo hi offs, len)) (h1 : ¬ x.toInt < lo) (h2 : ¬ hi < x.toInt) (ho : offs[(x.toInt - lo).toNat]? = some off) (ht : (pc : Int) + off = (tgt : Int)) (K : GG E X k n tgt lv st ws) : GG E X k n pc lv (.int x :: st) ws := by
  obtain ⟨l, D, cl, tys⟩ := E
  obtain ⟨p, e, R, s, m, args, below, meth, c, Q, A, nL⟩ := X
  obtain ⟨⟨hx, hb, hml, hown, hts⟩, hK, hA, hR, hL⟩ := F
  intro H locs ls hP hD hS hl
  exact lv_tableIn hx hb d h1 h2 ho ht (K H locs ls hP hD hS hl)
theorem g_tableOut (F : Fx E X cc own Ts rm L) {dflt lo hi : Int} {offs : Array Int} {len : Nat} {x : Int32} (tgt : Nat) (d : decode cc pc = .ok (.tableswitch dflt lo hi offs, len)) (h : x.toInt < lo ∨ hi < x.toInt) (ht : (pc : Int) + dflt = (tgt : Int)) (K : GG E X k n tgt lv st ws) : GG E X k n pc lv (.int x :: st) ws := by
  obtain ⟨l, D, cl, tys⟩ := E
  obtain ⟨p, e, R, s, m, args, below, meth, c, Q, A, nL⟩ := X
  obtain ⟨⟨hx, hb, hml, hown, hts⟩, hK, hA, hR, hL⟩ := F
  intro H locs ls hP hD hS hl
  exact lv_tableOut hx hb d h ht (K H locs ls hP hD hS hl)
/-- the words that a call of Math asks -/
def wM (own : String) (i : Nat) (y : MethodName) (b : ByteArray) (q : Nat) (t : FieldType) : List Cond := [.methodLink own i y, .static y, .initialized "java/lang/Math", .code y b q (some t)]
theorem g_maxl (F : Fx E X cc own Ts rm L) {i : Nat} {x y : Int64} (d : decode cc pc = .ok (.invokestatic i, 3)) (hw : ∀ w ∈ wM own i Lib.MathLoose.max_long.x Lib.MathLoose.max_long.code 4 .long, w ∈ Ts) (hr : 1 ≤ rm.frames ∧ (st.map fun v => v.category).sum + 15 ≤ rm.locals ∧ k ≤ rm.cells ∧ n ≤ rm.slots) (K : GG E X k n (pc + 3) lv (.long (if y < x then x else y) :: st) ws) : GG E X k n pc lv (.long y :: .long x :: st) ws := by
  obtain ⟨l, D, cl, tys⟩ := E
  obtain ⟨p, e, R, s, m, args, below, meth, c, Q, A, nL⟩ := X
  obtain ⟨⟨hx, hb, hml, hown, hts⟩, hK, hA, hR, hL⟩ := F
  intro H locs ls hP hD hS hl
  subst hR
  have e1 := hw (.methodLink own i Lib.MathLoose.max_long.x) (by simp [wM])
  have e2 := hw (.static Lib.MathLoose.max_long.x) (by simp [wM])
  have e3 := hw (.initialized "java/lang/Math") (by simp [wM])
  have e4 := hw (.code Lib.MathLoose.max_long.x Lib.MathLoose.max_long.code 4 (some .long)) (by simp [wM])
  exact va_mmax_long hx hb (by rw [hml, hl.1]) hown (hts _ e1) (hts _ e2) (hts _ e3) (hts _ e4) hr.1 hr.2.1 hr.2.2.1 hr.2.2.2 d (K H locs ls hP hD hS hl)
theorem g_minl (F : Fx E X cc own Ts rm L) {i : Nat} {x y : Int64} (d : decode cc pc = .ok (.invokestatic i, 3)) (hw : ∀ w ∈ wM own i Lib.MathLoose.min_long.x Lib.MathLoose.min_long.code 4 .long, w ∈ Ts) (hr : 1 ≤ rm.frames ∧ (st.map fun v => v.category).sum + 15 ≤ rm.locals ∧ k ≤ rm.cells ∧ n ≤ rm.slots) (K : GG E X k n (pc + 3) lv (.long (if y < x then y else x) :: st) ws) : GG E X k n pc lv (.long y :: .long x :: st) ws := by
  obtain ⟨l, D, cl, tys⟩ := E
  obtain ⟨p, e, R, s, m, args, below, meth, c, Q, A, nL⟩ := X
  obtain ⟨⟨hx, hb, hml, hown, hts⟩, hK, hA, hR, hL⟩ := F
  intro H locs ls hP hD hS hl
  subst hR
  have e1 := hw (.methodLink own i Lib.MathLoose.min_long.x) (by simp [wM])
  have e2 := hw (.static Lib.MathLoose.min_long.x) (by simp [wM])
  have e3 := hw (.initialized "java/lang/Math") (by simp [wM])
  have e4 := hw (.code Lib.MathLoose.min_long.x Lib.MathLoose.min_long.code 4 (some .long)) (by simp [wM])
  exact va_mmin_long hx hb (by rw [hml, hl.1]) hown (hts _ e1) (hts _ e2) (hts _ e3) (hts _ e4) hr.1 hr.2.1 hr.2.2.1 hr.2.2.2 d (K H locs ls hP hD hS hl)
theorem g_absl (F : Fx E X cc own Ts rm L) {i : Nat} {x : Int64} (d : decode cc pc = .ok (.invokestatic i, 3)) (hw : ∀ w ∈ wM own i Lib.MathLoose.abs_long.x Lib.MathLoose.abs_long.code 2 .long, w ∈ Ts) (hr : 1 ≤ rm.frames ∧ (st.map fun v => v.category).sum + 13 ≤ rm.locals ∧ k ≤ rm.cells ∧ n ≤ rm.slots) (K : GG E X k n (pc + 3) lv (.long (if 0 < x then x else -x) :: st) ws) : GG E X k n pc lv (.long x :: st) ws := by
  obtain ⟨l, D, cl, tys⟩ := E
  obtain ⟨p, e, R, s, m, args, below, meth, c, Q, A, nL⟩ := X
  obtain ⟨⟨hx, hb, hml, hown, hts⟩, hK, hA, hR, hL⟩ := F
  intro H locs ls hP hD hS hl
  subst hR
  have e1 := hw (.methodLink own i Lib.MathLoose.abs_long.x) (by simp [wM])
  have e2 := hw (.static Lib.MathLoose.abs_long.x) (by simp [wM])
  have e3 := hw (.initialized "java/lang/Math") (by simp [wM])
  have e4 := hw (.code Lib.MathLoose.abs_long.x Lib.MathLoose.abs_long.code 2 (some .long)) (by simp [wM])
  exact va_mabs_long hx hb (by rw [hml, hl.1]) hown (hts _ e1) (hts _ e2) (hts _ e3) (hts _ e4) hr.1 hr.2.1 hr.2.2.1 hr.2.2.2 d (K H locs ls hP hD hS hl)
theorem g_maxi (F : Fx E X cc own Ts rm L) {i : Nat} {x y : Int32} (d : decode cc pc = .ok (.invokestatic i, 3)) (hw : ∀ w ∈ wM own i Lib.Math.max.name Lib.Math.max.code 2 .int, w ∈ Ts) (hr : 1 ≤ rm.frames ∧ (st.map fun v => v.category).sum + 13 ≤ rm.locals ∧ k ≤ rm.cells ∧ n ≤ rm.slots) (K : GG E X k n (pc + 3) lv (.int (if x < y then y else x) :: st) ws) : GG E X k n pc lv (.int y :: .int x :: st) ws := by
  obtain ⟨l, D, cl, tys⟩ := E
  obtain ⟨p, e, R, s, m, args, below, meth, c, Q, A, nL⟩ := X
  obtain ⟨⟨hx, hb, hml, hown, hts⟩, hK, hA, hR, hL⟩ := F
  intro H locs ls hP hD hS hl
  subst hR
  have e1 := hw (.methodLink own i Lib.Math.max.name) (by simp [wM])
  have e2 := hw (.static Lib.Math.max.name) (by simp [wM])
  have e3 := hw (.initialized "java/lang/Math") (by simp [wM])
  have e4 := hw (.code Lib.Math.max.name Lib.Math.max.code 2 (some .int)) (by simp [wM])
  exact va_mmax hx hb (by rw [hml, hl.1]) hown (hts _ e1) (hts _ e2) (hts _ e3) (hts _ e4) hr.1 hr.2.1 hr.2.2.1 hr.2.2.2 d (K H locs ls hP hD hS hl)
theorem g_mini (F : Fx E X cc own Ts rm L) {i : Nat} {x y : Int32} (d : decode cc pc = .ok (.invokestatic i, 3)) (hw : ∀ w ∈ wM own i Lib.Math.min.name Lib.Math.min.code 2 .int, w ∈ Ts) (hr : 1 ≤ rm.frames ∧ (st.map fun v => v.category).sum + 13 ≤ rm.locals ∧ k ≤ rm.cells ∧ n ≤ rm.slots) (K : GG E X k n (pc + 3) lv (.int (if y < x then y else x) :: st) ws) : GG E X k n pc lv (.int y :: .int x :: st) ws := by
  obtain ⟨l, D, cl, tys⟩ := E
  obtain ⟨p, e, R, s, m, args, below, meth, c, Q, A, nL⟩ := X
  obtain ⟨⟨hx, hb, hml, hown, hts⟩, hK, hA, hR, hL⟩ := F
  intro H locs ls hP hD hS hl
  subst hR
  have e1 := hw (.methodLink own i Lib.Math.min.name) (by simp [wM])
  have e2 := hw (.static Lib.Math.min.name) (by simp [wM])
  have e3 := hw (.initialized "java/lang/Math") (by simp [wM])
  have e4 := hw (.code Lib.Math.min.name Lib.Math.min.code 2 (some .int)) (by simp [wM])
  exact va_mmin hx hb (by rw [hml, hl.1]) hown (hts _ e1) (hts _ e2) (hts _ e3) (hts _ e4) hr.1 hr.2.1 hr.2.2.1 hr.2.2.2 d (K H locs ls hP hD hS hl)
theorem g_absi (F : Fx E X cc own Ts rm L) {i : Nat} {x : Int32} (d : decode cc pc = .ok (.invokestatic i, 3)) (hw : ∀ w ∈ wM own i Lib.Math.abs.name Lib.Math.abs.code 1 .int, w ∈ Ts) (hr : 1 ≤ rm.frames ∧ (st.map fun v => v.category).sum + 13 ≤ rm.locals ∧ k ≤ rm.cells ∧ n ≤ rm.slots) (K : GG E X k n (pc + 3) lv (.int (if 0 ≤ x then x else 0 - x) :: st) ws) : GG E X k n pc lv (.int x :: st) ws := by
  obtain ⟨l, D, cl, tys⟩ := E
  obtain ⟨p, e, R, s, m, args, below, meth, c, Q, A, nL⟩ := X
  obtain ⟨⟨hx, hb, hml, hown, hts⟩, hK, hA, hR, hL⟩ := F
  intro H locs ls hP hD hS hl
  subst hR
  have e1 := hw (.methodLink own i Lib.Math.abs.name) (by simp [wM])
  have e2 := hw (.static Lib.Math.abs.name) (by simp [wM])
  have e3 := hw (.initialized "java/lang/Math") (by simp [wM])
  have e4 := hw (.code Lib.Math.abs.name Lib.Math.abs.code 1 (some .int)) (by simp [wM])
  exact va_mabs hx hb (by rw [hml, hl.1]) hown (hts _ e1) (hts _ e2) (hts _ e3) (hts _ e4) hr.1 hr.2.1 hr.2.2.1 hr.2.2.2 d (K H locs ls hP hD hS hl)
end GR
section GW
variable {E : En} {X : Cx} {k n pc L : Nat} {lv : List (Nat × Value)} {st : List Value} {ws : va_W} {cc : ByteArray} {own : String} {Ts : List Cond} {rm : Room}
def tysOf (E : En) : List (ClassId × FieldType) := E.2.2.2
def clOf (E : En) : List vw_C := E.2.2.1
theorem g_get (F : Fx E X cc own Ts rm L) (q0 : Nat) (kf : Nat) {C ref : String} {T : u_T} {N ci i a : Nat} {fs : List Value} {v : Value} (hin : ∀ w ∈ u_ws C T N, w ∈ Ts) (he : ws[q0]? = some (a, .inr (ci, fs))) (hc : (clOf E)[ci]? = some (C, T, N)) (hk : kf < N) (hl1 : Cond.fieldLink own i ref (T kf).2.1 (T kf).2.2.1 ∈ Ts) (href : (T kf).1 = ref) (hv : fs[kf]? = some v) (d : decode cc pc = .ok (.getfield i, 3)) (K : GG E X k n (pc + 3) lv (v :: st) ws) : GG E X k n pc lv (.ref a :: st) ws := by
  obtain ⟨l, D, cl, tys⟩ := E
  obtain ⟨p, e, R, s, m, args, below, meth, c, Q, A, nL⟩ := X
  obtain ⟨⟨hx, hb, hml, hown, hts⟩, hK, hA, hR, hL⟩ := F
  intro H locs ls hP hD hS hl
  subst href
  exact va_get hx hb hts hin hown hK hP q0 he hc kf hk (hts _ hl1) (fun _ h9 => h9) hv d (K H locs ls hP hD hS hl)
theorem g_put (F : Fx E X cc own Ts rm L) (q0 : Nat) (kf : Nat) {C ref : String} {T : u_T} {N ci i a : Nat} {fs : List Value} {v : Value} {ty : FieldType} {ws2 : va_W} (hin : ∀ w ∈ u_ws C T N, w ∈ Ts) (ty0 : Nat → FieldType) (hty : ∀ k, k < N → parseFieldDescriptor (T k).2.2.1 = some (ty0 k)) (hnm : ∀ a, a < N → ∀ b, b < N → a ≠ b → (T a).2.1 ≠ (T b).2.1) (he : ws[q0]? = some (a, .inr (ci, fs))) (hc : (clOf E)[ci]? = some (C, T, N)) (hk : kf < N) (hl1 : Cond.fieldLink own i ref (T kf).2.1 (T kf).2.2.1 ∈ Ts) (href : (T kf).1 = ref) (hfin : (T kf).2.2.2 = false) (hd2 : parseFieldDescriptor (T kf).2.2.1 = some ty) (hn : narrow ty v = v) (hfit : fits ty v = true) (hlen : kf < fs.length) (d : decode cc pc = .ok (.putfield i, 3)) (hw : ws.set q0 (a, .inr (ci, fs.set kf v)) = ws2) (K : GG E X k n (pc + 3) lv st ws2) : GG E X k n pc lv (v :: .ref a :: st) ws := by
  obtain ⟨l, D, cl, tys⟩ := E
  obtain ⟨p, e, R, s, m, args, below, meth, c, Q, A, nL⟩ := X
  obtain ⟨⟨hx, hb, hml, hown, hts⟩, hK, hA, hR, hL⟩ := F
  intro H locs ls hP hD hS hl
  subst href hw
  exact va_put hx hb hts hin ty0 hty hnm hown hK hP hD hS q0 he hc kf hk (hts _ hl1) (fun _ h9 => h9) hfin hd2 hn hfit hlen d (fun H locs hP hD hS => K H locs ls hP hD hS hl)
theorem g_iald (F : Fx E X cc own Ts rm L) (q0 t0 : Nat) {a : Nat} {cA : ClassId} {N : Nat} {f : Nat → Int32} (ha : ws[q0]? = some (a, .inl (cA, N, .inl f))) (ht : (tysOf E)[t0]? = some (cA, .int)) {j : Nat} (hj : j < N) (hN : N < 2 ^ 31) (d : decode cc pc = .ok (.iaload, 1)) (K : GG E X k n (pc + 1) lv (.int (f j) :: st) ws) : GG E X k n pc lv (.int (nI j) :: .ref a :: st) ws := by
  obtain ⟨l, D, cl, tys⟩ := E
  obtain ⟨p, e, R, s, m, args, below, meth, c, Q, A, nL⟩ := X
  obtain ⟨⟨hx, hb, hml, hown, hts⟩, hK, hA, hR, hL⟩ := F
  intro H locs ls hP hD hS hl
  have e := nI_clamp (n := j) (by omega)
  have h1 := K H locs ls hP hD hS hl
  rw [← e] at h1
  exact va_iald hx hb hK hP q0 t0 ha ht (vp_in_nI hj hN) d h1
theorem g_iast (F : Fx E X cc own Ts rm L) (q0 t0 : Nat) {a : Nat} {cA : ClassId} {N : Nat} {f : Nat → Int32} (ha : ws[q0]? = some (a, .inl (cA, N, .inl f))) (ht : (tysOf E)[t0]? = some (cA, .int)) {j : Nat} {x : Int32} (hj : j < N) (hN : N < 2 ^ 31) (d : decode cc pc = .ok (.iastore, 1)) {ws2 : va_W} (hw : ws.set q0 (a, .inl (cA, N, .inl (upd f j x))) = ws2) (K : GG E X k n (pc + 1) lv st ws2) : GG E X k n pc lv (.int x :: .int (nI j) :: .ref a :: st) ws := by
  obtain ⟨l, D, cl, tys⟩ := E
  obtain ⟨p, e, R, s, m, args, below, meth, c, Q, A, nL⟩ := X
  obtain ⟨⟨hx, hb, hml, hown, hts⟩, hK, hA, hR, hL⟩ := F
  intro H locs ls hP hD hS hl
  have e := nI_clamp (n := j) (by omega)
  subst hw
  rw [← e] at K
  exact va_iast hx hb hK hP hD hS q0 t0 ha ht (vp_in_nI hj hN) d (fun H locs hP hD hS => K H locs ls hP hD hS hl)
theorem g_zald (F : Fx E X cc own Ts rm L) (q0 t0 : Nat) {a : Nat} {cA : ClassId} {N : Nat} {f : Nat → Int32} (ha : ws[q0]? = some (a, .inl (cA, N, .inl f))) (ht : (tysOf E)[t0]? = some (cA, .boolean)) {j : Nat} (hj : j < N) (hN : N < 2 ^ 31) (d : decode cc pc = .ok (.baload, 1)) (K : GG E X k n (pc + 1) lv (.int (f j) :: st) ws) : GG E X k n pc lv (.int (nI j) :: .ref a :: st) ws := by
  obtain ⟨l, D, cl, tys⟩ := E
  obtain ⟨p, e, R, s, m, args, below, meth, c, Q, A, nL⟩ := X
  obtain ⟨⟨hx, hb, hml, hown, hts⟩, hK, hA, hR, hL⟩ := F
  intro H locs ls hP hD hS hl
  have e := nI_clamp (n := j) (by omega)
  have h1 := K H locs ls hP hD hS hl
  rw [← e] at h1
  exact va_zald hx hb hK hP q0 t0 ha ht (vp_in_nI hj hN) d h1
theorem g_zast (F : Fx E X cc own Ts rm L) (q0 t0 : Nat) {a : Nat} {cA : ClassId} {N : Nat} {f : Nat → Int32} (ha : ws[q0]? = some (a, .inl (cA, N, .inl f))) (ht : (tysOf E)[t0]? = some (cA, .boolean)) {j : Nat} {x : Int32} (hj : j < N) (hN : N < 2 ^ 31) (d : decode cc pc = .ok (.bastore, 1)) {ws2 : va_W} (hw : ws.set q0 (a, .inl (cA, N, .inl (upd f j (vp_nar .boolean x)))) = ws2) (K : GG E X k n (pc + 1) lv st ws2) : GG E X k n pc lv (.int x :: .int (nI j) :: .ref a :: st) ws := by
  obtain ⟨l, D, cl, tys⟩ := E
  obtain ⟨p, e, R, s, m, args, below, meth, c, Q, A, nL⟩ := X
  obtain ⟨⟨hx, hb, hml, hown, hts⟩, hK, hA, hR, hL⟩ := F
  intro H locs ls hP hD hS hl
  have e := nI_clamp (n := j) (by omega)
  subst hw
  rw [← e] at K
  exact va_zast hx hb hK hP hD hS q0 t0 ha ht (vp_in_nI hj hN) d (fun H locs hP hD hS => K H locs ls hP hD hS hl)
theorem g_lald (F : Fx E X cc own Ts rm L) (q0 t0 : Nat) {a : Nat} {cA : ClassId} {N : Nat} {f : Nat → Int64} (ha : ws[q0]? = some (a, .inl (cA, N, .inr (.inl f)))) (ht : (tysOf E)[t0]? = some (cA, .long)) {j : Nat} (hj : j < N) (hN : N < 2 ^ 31) (d : decode cc pc = .ok (.laload, 1)) (K : GG E X k n (pc + 1) lv (.long (f j) :: st) ws) : GG E X k n pc lv (.int (nI j) :: .ref a :: st) ws := by
  obtain ⟨l, D, cl, tys⟩ := E
  obtain ⟨p, e, R, s, m, args, below, meth, c, Q, A, nL⟩ := X
  obtain ⟨⟨hx, hb, hml, hown, hts⟩, hK, hA, hR, hL⟩ := F
  intro H locs ls hP hD hS hl
  have e := nI_clamp (n := j) (by omega)
  have h1 := K H locs ls hP hD hS hl
  rw [← e] at h1
  exact va_lald hx hb hK hP q0 t0 ha ht (vp_in_nI hj hN) d h1
theorem g_last (F : Fx E X cc own Ts rm L) (q0 t0 : Nat) {a : Nat} {cA : ClassId} {N : Nat} {f : Nat → Int64} (ha : ws[q0]? = some (a, .inl (cA, N, .inr (.inl f)))) (ht : (tysOf E)[t0]? = some (cA, .long)) {j : Nat} {x : Int64} (hj : j < N) (hN : N < 2 ^ 31) (d : decode cc pc = .ok (.lastore, 1)) {ws2 : va_W} (hw : ws.set q0 (a, .inl (cA, N, .inr (.inl (vp_updL f j x)))) = ws2) (K : GG E X k n (pc + 1) lv st ws2) : GG E X k n pc lv (.long x :: .int (nI j) :: .ref a :: st) ws := by
  obtain ⟨l, D, cl, tys⟩ := E
  obtain ⟨p, e, R, s, m, args, below, meth, c, Q, A, nL⟩ := X
  obtain ⟨⟨hx, hb, hml, hown, hts⟩, hK, hA, hR, hL⟩ := F
  intro H locs ls hP hD hS hl
  have e := nI_clamp (n := j) (by omega)
  subst hw
  rw [← e] at K
  exact va_last hx hb hK hP hD hS q0 t0 ha ht (vp_in_nI hj hN) d (fun H locs hP hD hS => K H locs ls hP hD hS hl)
theorem g_alen (F : Fx E X cc own Ts rm L) (q0 t0 : Nat) {a : Nat} {cA : ClassId} {x : vp_A} (ha : ws[q0]? = some (a, .inl (cA, x))) {ty : FieldType} (ht : (tysOf E)[t0]? = some (cA, ty)) (d : decode cc pc = .ok (.arraylength, 1)) (K : GG E X k n (pc + 1) lv (.int (nI x.1) :: st) ws) : GG E X k n pc lv (.ref a :: st) ws := by
  obtain ⟨l, D, cl, tys⟩ := E
  obtain ⟨p, e, R, s, m, args, below, meth, c, Q, A, nL⟩ := X
  obtain ⟨⟨hx, hb, hml, hown, hts⟩, hK, hA, hR, hL⟩ := F
  intro H locs ls hP hD hS hl
  exact va_alen hx hb hK hP q0 t0 ha ht rfl d (K H locs ls hP hD hS hl)
end GW
/-! contracts over worlds -/
abbrev cPc (E : En) (As : List Value) (w0 : va_W) (sz : Nat) : Array Value → State → Prop := va_Pc As (fun U => U.heap.size = sz ∧ va_P E.2.1 E.2.2.1 w0 U.heap ∧ va_K E.2.1 E.2.2.1 E.2.2.2 U ∧ va_D (fun _ => True) w0)
abbrev cB (E : En) (w0 : va_W) (sz : Nat) (u : va_W) (t : State) : Prop := va_P E.2.1 E.2.2.1 u t.heap ∧ va_K E.2.1 E.2.2.1 E.2.2.2 t ∧ va_D (va_A w0 sz) u
def CtI (E : En) (y : MethodName) (Ts : List Cond) (rm : Room) (As : List Value) (w0 : va_W) (mc ms : Nat) (post : Int32 → va_W → Prop) : Prop := ∀ sz, Met E.1 y Ts rm (cPc E As w0 sz) (va_Qi post (cB E w0 sz) (va_A w0 sz)) mc ms (va_A w0 sz)
def CtL (E : En) (y : MethodName) (Ts : List Cond) (rm : Room) (As : List Value) (w0 : va_W) (mc ms : Nat) (post : Int64 → va_W → Prop) : Prop := ∀ sz, Met E.1 y Ts rm (cPc E As w0 sz) (va_Ql post (cB E w0 sz) (va_A w0 sz)) mc ms (va_A w0 sz)
def CtV (E : En) (y : MethodName) (Ts : List Cond) (rm : Room) (As : List Value) (w0 : va_W) (mc ms : Nat) (post : va_W → Prop) : Prop := ∀ sz, Met E.1 y Ts rm (cPc E As w0 sz) (va_Qv post (cB E w0 sz) (va_A w0 sz)) mc ms (va_A w0 sz)
/-- the method's end -/
def RtI (E : En) (X : Cx) (k n : Nat) (cc : ByteArray) (post : Int32 → va_W → Prop) : Prop := ∀ (pc : Nat) (lv : List (Nat × Value)) (v : Int32) (ws : va_W), decode cc pc = .ok (.ireturn, 1) → post v ws → GG E X k n pc lv [.int v] ws
def RtL (E : En) (X : Cx) (k n : Nat) (cc : ByteArray) (post : Int64 → va_W → Prop) : Prop := ∀ (pc : Nat) (lv : List (Nat × Value)) (v : Int64) (ws : va_W), decode cc pc = .ok (.lreturn, 1) → post v ws → GG E X k n pc lv [.long v] ws
def RtV (E : En) (X : Cx) (k n : Nat) (cc : ByteArray) (post : va_W → Prop) : Prop := ∀ (pc : Nat) (lv : List (Nat × Value)) (ws : va_W), decode cc pc = .ok (.return_, 1) → post ws → GG E X k n pc lv [] ws

theorem CtI.of {E : En} {y : MethodName} {Ts Ts' : List Cond} {rm : Room} {As : List Value} {w0 : va_W} {mc ms : Nat} {post : Int32 → va_W → Prop} {cc : ByteArray} {L : Nat} (hy : plainName y.cls = true) (hw : Ts = Cond.code y cc L (some .int) :: Ts') (hlen : (lg_sl As).length ≤ L) 
    (body : ∀ X : Cx, Fx E X cc y.cls Ts rm L → RtI E X mc ms cc post →  GG E X 0 0 0 (lv_args 0 As) [] w0) : CtI E y Ts rm As w0 mc ms post := by
  intro sz
  obtain ⟨l, D, cl, tys⟩ := E
  refine Met.ofW (cc := cc) (maxL := L) (ret := (some .int)) hy hw ?_
  intro p e s m args below meth c s₁ B hml hv
  obtain ⟨rfl, hsz, hP, hK, hD0⟩ := hv
  have hx := B.exec
  have hb := B.bytes
  have hr := B.returns
  have hts := atoms_spec (ws := Ts) B.pre
  have hown : s.vm.findClass y.cls = some m.cls := findClass_of_methodNamed B.named
  have hlocks := B.notSynchronized
  subst hsz
  have hD := hD0.self (sz := s.heap.size)
  have hA : ∀ q : Nat, s.heap.size ≤ q → va_A w0 s.heap.size q := fun q h => Or.inr h
  have hl := lv_entry As (n := L) hlen
  rw [lg_entry_eq]
  refine body (p, e, (headSpec Ts rm).room, s, m, As.toArray, below, meth, c, _, va_A w0 s.heap.size, L) ⟨⟨hx, hb, hml, hown, hts⟩, hK, hA, rfl, rfl⟩ ?_ s.heap [] _ hP hD va_S.rf hl
  intro pc lv v ws d hp H locs ls hP hD hS hl
  exact W.iret hx hb hr (fun t ht hW => ⟨⟨v, ws, rfl, hp, by rw [ht]; exact hP, va_K.moved hW.alike hK, hD⟩, hS.F ht⟩) hS.2.2 d
theorem CtL.of {E : En} {y : MethodName} {Ts Ts' : List Cond} {rm : Room} {As : List Value} {w0 : va_W} {mc ms : Nat} {post : Int64 → va_W → Prop} {cc : ByteArray} {L : Nat} (hy : plainName y.cls = true) (hw : Ts = Cond.code y cc L (some .long) :: Ts') (hlen : (lg_sl As).length ≤ L) 
    (body : ∀ X : Cx, Fx E X cc y.cls Ts rm L → RtL E X mc ms cc post →  GG E X 0 0 0 (lv_args 0 As) [] w0) : CtL E y Ts rm As w0 mc ms post := by
  intro sz
  obtain ⟨l, D, cl, tys⟩ := E
  refine Met.ofW (cc := cc) (maxL := L) (ret := (some .long)) hy hw ?_
  intro p e s m args below meth c s₁ B hml hv
  obtain ⟨rfl, hsz, hP, hK, hD0⟩ := hv
  have hx := B.exec
  have hb := B.bytes
  have hr := B.returns
  have hts := atoms_spec (ws := Ts) B.pre
  have hown : s.vm.findClass y.cls = some m.cls := findClass_of_methodNamed B.named
  have hlocks := B.notSynchronized
  subst hsz
  have hD := hD0.self (sz := s.heap.size)
  have hA : ∀ q : Nat, s.heap.size ≤ q → va_A w0 s.heap.size q := fun q h => Or.inr h
  have hl := lv_entry As (n := L) hlen
  rw [lg_entry_eq]
  refine body (p, e, (headSpec Ts rm).room, s, m, As.toArray, below, meth, c, _, va_A w0 s.heap.size, L) ⟨⟨hx, hb, hml, hown, hts⟩, hK, hA, rfl, rfl⟩ ?_ s.heap [] _ hP hD va_S.rf hl
  intro pc lv v ws d hp H locs ls hP hD hS hl
  exact W.lret hx hb hr (fun t ht hW => ⟨⟨v, ws, rfl, hp, by rw [ht]; exact hP, va_K.moved hW.alike hK, hD⟩, hS.F ht⟩) hS.2.2 d
theorem CtV.of {E : En} {y : MethodName} {Ts Ts' : List Cond} {rm : Room} {As : List Value} {w0 : va_W} {mc ms : Nat} {post : va_W → Prop} {cc : ByteArray} {L : Nat} (hy : plainName y.cls = true) (hw : Ts = Cond.code y cc L none :: Ts') (hlen : (lg_sl As).length ≤ L) 
    (body : ∀ X : Cx, Fx E X cc y.cls Ts rm L → RtV E X mc ms cc post →  GG E X 0 0 0 (lv_args 0 As) [] w0) : CtV E y Ts rm As w0 mc ms post := by
  intro sz
  obtain ⟨l, D, cl, tys⟩ := E
  refine Met.ofW (cc := cc) (maxL := L) (ret := none) hy hw ?_
  intro p e s m args below meth c s₁ B hml hv
  obtain ⟨rfl, hsz, hP, hK, hD0⟩ := hv
  have hx := B.exec
  have hb := B.bytes
  have hr := B.returns
  have hts := atoms_spec (ws := Ts) B.pre
  have hown : s.vm.findClass y.cls = some m.cls := findClass_of_methodNamed B.named
  have hlocks := B.notSynchronized
  subst hsz
  have hD := hD0.self (sz := s.heap.size)
  have hA : ∀ q : Nat, s.heap.size ≤ q → va_A w0 s.heap.size q := fun q h => Or.inr h
  have hl := lv_entry As (n := L) hlen
  rw [lg_entry_eq]
  refine body (p, e, (headSpec Ts rm).room, s, m, As.toArray, below, meth, c, _, va_A w0 s.heap.size, L) ⟨⟨hx, hb, hml, hown, hts⟩, hK, hA, rfl, rfl⟩ ?_ s.heap [] _ hP hD va_S.rf hl
  intro pc lv ws d hp H locs ls hP hD hS hl
  exact W.vret hx hb hr (fun t ht hW => ⟨⟨ws, rfl, hp, by rw [ht]; exact hP, va_K.moved hW.alike hK, hD⟩, hS.F ht⟩) hS.2.2 d
theorem CtZ.of {E : En} {y : MethodName} {Ts Ts' : List Cond} {rm : Room} {As : List Value} {w0 : va_W} {mc ms : Nat} {post : Int32 → va_W → Prop} {cc : ByteArray} {L : Nat} (hy : plainName y.cls = true) (hw : Ts = Cond.code y cc L (some .boolean) :: Ts') (hlen : (lg_sl As).length ≤ L) (hz : ∀ v ws, post v ws → narrow .boolean (.int v) = .int v)
    (body : ∀ X : Cx, Fx E X cc y.cls Ts rm L → RtI E X mc ms cc post →  GG E X 0 0 0 (lv_args 0 As) [] w0) : CtI E y Ts rm As w0 mc ms post := by
  intro sz
  obtain ⟨l, D, cl, tys⟩ := E
  refine Met.ofW (cc := cc) (maxL := L) (ret := (some .boolean)) hy hw ?_
  intro p e s m args below meth c s₁ B hml hv
  obtain ⟨rfl, hsz, hP, hK, hD0⟩ := hv
  have hx := B.exec
  have hb := B.bytes
  have hr := B.returns
  have hts := atoms_spec (ws := Ts) B.pre
  have hown : s.vm.findClass y.cls = some m.cls := findClass_of_methodNamed B.named
  have hlocks := B.notSynchronized
  subst hsz
  have hD := hD0.self (sz := s.heap.size)
  have hA : ∀ q : Nat, s.heap.size ≤ q → va_A w0 s.heap.size q := fun q h => Or.inr h
  have hl := lv_entry As (n := L) hlen
  rw [lg_entry_eq]
  refine body (p, e, (headSpec Ts rm).room, s, m, As.toArray, below, meth, c, _, va_A w0 s.heap.size, L) ⟨⟨hx, hb, hml, hown, hts⟩, hK, hA, rfl, rfl⟩ ?_ s.heap [] _ hP hD va_S.rf hl
  intro pc lv v ws d hp H locs ls hP hD hS hl
  exact W.zret hx hb hr (hz v ws hp) (fun t ht hW => ⟨⟨v, ws, rfl, hp, by rw [ht]; exact hP, va_K.moved hW.alike hK, hD⟩, hS.F ht⟩) hS.2.2 d
theorem app_idx (wr wc : va_W) : (List.range' wr.length wc.length).map (fun i => (wr ++ wc)[i]?) = wc.map some := by
  apply List.ext_getElem?
  intro i
  rw [List.getElem?_map, List.getElem?_map]
  by_cases h : i < wc.length
  · rw [List.getElem?_range' h]
    simp [List.getElem?_append_right, h]
  · rw [List.getElem?_eq_none (by simp; omega), List.getElem?_eq_none (by omega)]
    rfl
theorem app_idx2 (wr wc : va_W) : (List.range wr.length).map (fun i => (wr ++ wc)[i]?) = wr.map some := by
  apply List.ext_getElem?
  intro i
  rw [List.getElem?_map, List.getElem?_map]
  by_cases h : i < wr.length
  · rw [List.getElem?_range h]
    simp [List.getElem?_append_left, h]
  · rw [List.getElem?_eq_none (by simp; omega), List.getElem?_eq_none (by omega)]
    rfl
theorem nd_notin : ∀ (l : List Nat) (a : Nat), (∀ x ∈ l, x ≠ a) → l.all (fun x => !(x == a)) = true := fun l a h => List.all_eq_true.mpr (fun x hx => by simp [h x hx])
section GC
variable {E : En} {X : Cx} {k n pc L : Nat} {lv : List (Nat × Value)} {cc : ByteArray} {own : String} {Ts : List Cond} {rm : Room}
theorem P_right {D : va_G} {cl : List vw_C} {wr wc : va_W} {H : Heap} (h : va_P D cl (wr ++ wc) H) : va_P D cl wc H := fun k q hq => h (wr.length + k) q (by rw [List.getElem?_append_right (by omega)]; simpa using hq)
theorem D_right {A : Nat → Prop} {wr wc : va_W} (h : va_D A (wr ++ wc)) : va_D A wc := ⟨fun i j p q hi hj e => by
    have := h.1 (wr.length + i) (wr.length + j) p q (by rw [List.getElem?_append_right (by omega)]; simpa using hi) (by rw [List.getElem?_append_right (by omega)]; simpa using hj) e
    omega, fun k q hq => h.2 (wr.length + k) q (by rw [List.getElem?_append_right (by omega)]; simpa using hq)⟩
theorem D_left {A : Nat → Prop} {wr wc : va_W} (h : va_D A (wr ++ wc)) : va_D A wr := ⟨fun i j p q hi hj e => by
    have a1 := (List.getElem?_eq_some_iff.mp hi).1
    have a2 := (List.getElem?_eq_some_iff.mp hj).1
    exact h.1 i j p q (by rw [List.getElem?_append_left a1]; exact hi) (by rw [List.getElem?_append_left a2]; exact hj) e, fun k q hq => by
    have a1 := (List.getElem?_eq_some_iff.mp hq).1
    exact h.2 k q (by rw [List.getElem?_append_left a1]; exact hq)⟩
/-- behind a call: the rest, and what came back -/
theorem w_join {A0 : Nat → Prop} {D : va_G} {cl : List vw_C} {wr wc w1 : va_W} {H H1 : Heap} (hP : va_P D cl (wr ++ wc) H) (hD : va_D A0 (wr ++ wc)) (hk : ∀ q : Nat, q < H.size → ¬ va_A wc H.size q → H1[q]? = H[q]?) (hF : ∀ q, va_A wc H.size q → A0 q) (hP1 : va_P D cl w1 H1) (hD1 : va_D (va_A wc H.size) w1) : va_P D cl (wr ++ w1) H1 ∧ va_D A0 (wr ++ w1) := by
  have apart : ∀ (i : Nat) (q : Nat × va_E), wr[i]? = some q → q.1 < H.size ∧ ¬ va_A wc H.size q.1 := by
    intro i q hq
    have a1 := (List.getElem?_eq_some_iff.mp hq).1
    have hq' : (wr ++ wc)[i]? = some q := by rw [List.getElem?_append_left a1]; exact hq
    have hl := (hP i q hq').lt
    refine ⟨hl, fun h => ?_⟩
    rcases h with ⟨k2, e, h⟩ | h
    · have h2 : (wr ++ wc)[wr.length + k2]? = some (q.1, e) := by rw [List.getElem?_append_right (by omega)]; simpa using h
      have := hD.1 i (wr.length + k2) q (q.1, e) hq' h2 rfl
      omega
    · omega
  refine ⟨va_P.app (fun k q hq => ?_) hP1, va_D.app (D_left hD) (hD1.weaken (fun k q _ h => hF q.1 h)) (fun i j x y hx hy hxy => ?_)⟩
  · have a1 := (List.getElem?_eq_some_iff.mp hq).1
    obtain ⟨g1, g2⟩ := apart k q hq
    exact (hP k q (by rw [List.getElem?_append_left a1]; exact hq)).kept (hk q.1 g1 g2)
  · exact (apart i x hx).2 (by rw [hxy]; exact hD1.2 j y hy)
theorem w_free {A0 : Nat → Prop} {wr wc : va_W} {H0 H : Heap} {locs : List Loc} (hD : va_D A0 (wr ++ wc)) (hS : va_S A0 H0 H locs) (hA : ∀ q, H0.size ≤ q → A0 q) : ∀ q, va_A wc H.size q → A0 q := by
  intro q h
  rcases h with ⟨k, e, h⟩ | h
  · exact (D_right hD).2 k (q, e) h
  · exact hA q (Nat.le_trans hS.1 h)
/-- what a call of an instance method asks of the words -/
def cwOk (own : String) (i : Nat) (C : String) (y : MethodName) (ws Ts : List Cond) (bytes : ByteArray) (maxL np : Nat) (ret : Option FieldType) (rm2 rm : Room) : Prop :=
  GoodIn Ts (wsV own i C y ws) ∧ (∃ ws', ws = Cond.code y bytes maxL ret :: ws') ∧ (y.cls = C ∧ y.cls ≠ "java/lang/invoke/MethodHandle" ∧ y.cls ≠ "java/lang/invoke/VarHandle" ∧ (parseMethodDescriptor y.desc).map (fun d => d.parameters.length) = some np) ∧ (rm2.frames + 1 ≤ rm.frames ∧ 8 + (maxL + 11) + rm2.locals ≤ rm.locals)
def cwOkS (own : String) (i : Nat) (y : MethodName) (ws Ts : List Cond) (bytes : ByteArray) (maxL np : Nat) (ret : Option FieldType) (rm2 rm : Room) : Prop :=
  GoodIn Ts (wsS own i y ws) ∧ (∃ ws', ws = Cond.code y bytes maxL ret :: ws') ∧ (y.cls = own ∧ y.cls ≠ "java/lang/invoke/MethodHandle" ∧ y.cls ≠ "java/lang/invoke/VarHandle" ∧ (parseMethodDescriptor y.desc).map (fun d => d.parameters.length) = some np) ∧ (rm2.frames + 1 ≤ rm.frames ∧ 8 + (maxL + 11) + rm2.locals ≤ rm.locals)

theorem g_callVI (F : Fx E X cc own Ts rm L) {y : MethodName} {ws : List Cond} {rm2 : Room} {b : Nat} {As rest st : List Value} {wr w0 : va_W} {mc ms : Nat} {post : Int32 → va_W → Prop} (hM : CtI E y ws rm2 (.ref b :: As) w0 mc ms post) {i : Nat} {C : String} {bytes : ByteArray} {maxL : Nat} {ret : Option FieldType} (cw : cwOk own i C y ws Ts bytes maxL As.length ret rm2 rm) (q0 : Nat) {ci : Nat} {fs : List Value} {T : u_T} {N : Nat} (he : w0[q0]? = some (b, .inr (ci, fs))) (hc : (clOf E)[ci]? = some (C, T, N)) (hst : st = As.reverse ++ .ref b :: rest) (hroom : (rest.map fun v => v.category).sum ≤ 8) (hms : rm2.cells = mc ∧ rm2.slots = ms) (hf : k + mc ≤ rm.cells ∧ n + ms ≤ rm.slots) (d : decode cc pc = .ok (.invokevirtual i, 3)) (K : ∀ (r : Int32) (u : va_W), post r u → GG E X (k + mc) (n + ms) (pc + 3) lv (.int r :: rest) (wr ++ u)) : GG E X k n pc lv st (wr ++ w0) := by
  obtain ⟨l, D, cl, tys⟩ := E
  obtain ⟨p, e, R, s, m, args, below, meth, c, Q, A, nL⟩ := X
  obtain ⟨⟨hx, hb, hml, hown, hts⟩, hK, hA, hR, hL⟩ := F
  intro H locs ls hP hD hS hl
  subst hst hR
  obtain ⟨c1, ⟨ws', c2⟩, c3, c4⟩ := cw
  have hFr := w_free hD hS hA
  refine va_calli (va_runV (As := As) (rest := rest) ⟨hx, hb, hml, hown, hts⟩ (hM H.size) (cwV As.length hts c1 c2 hms.1 hms.2 c3 c4) ⟨fun a U g mk q => by obtain ⟨q0, q1, qP, qK, qD⟩ := q; exact ⟨q0, q1, qP, va_K.moved (u := U) (U := U.calling g mk a) (Vm.Alike.refl U.vm) qK, qD⟩, va_recv hK (P_right hP) (ci := ci) (q0 := q0) hc he, fun U hU hW => ⟨rfl, by rw [hU], by rw [hU]; exact P_right hP, va_K.moved hW.alike hK, (D_right hD).weaken (fun _ _ _ _ => trivial)⟩⟩ rfl rfl hl.1 rfl (lv_room hroom) d hf) hS (fun q _ h => w_free hD hS hA q h) (w_free hD hS hA) (fun r u t H1 locs ht hvm hw hB hz1 hk1 hS => ?_)
  obtain ⟨hP1, hK1, hD1⟩ := hB
  rw [ht] at hP1
  obtain ⟨hP2, hD2⟩ := w_join hP hD hk1 hFr hP1 hD1
  exact K r u hw H1 locs ls hP2 hD2 hS hl
theorem g_callSI (F : Fx E X cc own Ts rm L) {y : MethodName} {ws : List Cond} {rm2 : Room} {As rest st : List Value} {wr w0 : va_W} {mc ms : Nat} {post : Int32 → va_W → Prop} (hM : CtI E y ws rm2 As w0 mc ms post) {i : Nat} {bytes : ByteArray} {maxL : Nat} {ret : Option FieldType} (cw : cwOkS own i y ws Ts bytes maxL As.length ret rm2 rm) (hst : st = As.reverse ++ rest) (hroom : (rest.map fun v => v.category).sum ≤ 8) (hms : rm2.cells = mc ∧ rm2.slots = ms) (hf : k + mc ≤ rm.cells ∧ n + ms ≤ rm.slots) (d : decode cc pc = .ok (.invokestatic i, 3)) (K : ∀ (r : Int32) (u : va_W), post r u → GG E X (k + mc) (n + ms) (pc + 3) lv (.int r :: rest) (wr ++ u)) : GG E X k n pc lv st (wr ++ w0) := by
  obtain ⟨l, D, cl, tys⟩ := E
  obtain ⟨p, e, R, s, m, args, below, meth, c, Q, A, nL⟩ := X
  obtain ⟨⟨hx, hb, hml, hown, hts⟩, hK, hA, hR, hL⟩ := F
  intro H locs ls hP hD hS hl
  subst hst hR
  obtain ⟨c1, ⟨ws', c2⟩, c3, c4⟩ := cw
  have hFr := w_free hD hS hA
  refine va_calli (va_runS (As := As) (rest := rest) ⟨hx, hb, hml, hown, hts⟩ (hM H.size) (cwS As.length hts c1 c2 hms.1 hms.2 c3 c4) ⟨fun a U g mk q => by obtain ⟨q0, q1, qP, qK, qD⟩ := q; exact ⟨q0, q1, qP, va_K.moved (u := U) (U := U.calling g mk a) (Vm.Alike.refl U.vm) qK, qD⟩, fun U hU hW => ⟨rfl, by rw [hU], by rw [hU]; exact P_right hP, va_K.moved hW.alike hK, (D_right hD).weaken (fun _ _ _ _ => trivial)⟩⟩ rfl rfl hl.1 rfl (lv_room hroom) d hf) hS (fun q _ h => w_free hD hS hA q h) (w_free hD hS hA) (fun r u t H1 locs ht hvm hw hB hz1 hk1 hS => ?_)
  obtain ⟨hP1, hK1, hD1⟩ := hB
  rw [ht] at hP1
  obtain ⟨hP2, hD2⟩ := w_join hP hD hk1 hFr hP1 hD1
  exact K r u hw H1 locs ls hP2 hD2 hS hl
theorem g_callVL (F : Fx E X cc own Ts rm L) {y : MethodName} {ws : List Cond} {rm2 : Room} {b : Nat} {As rest st : List Value} {wr w0 : va_W} {mc ms : Nat} {post : Int64 → va_W → Prop} (hM : CtL E y ws rm2 (.ref b :: As) w0 mc ms post) {i : Nat} {C : String} {bytes : ByteArray} {maxL : Nat} {ret : Option FieldType} (cw : cwOk own i C y ws Ts bytes maxL As.length ret rm2 rm) (q0 : Nat) {ci : Nat} {fs : List Value} {T : u_T} {N : Nat} (he : w0[q0]? = some (b, .inr (ci, fs))) (hc : (clOf E)[ci]? = some (C, T, N)) (hst : st = As.reverse ++ .ref b :: rest) (hroom : (rest.map fun v => v.category).sum ≤ 8) (hms : rm2.cells = mc ∧ rm2.slots = ms) (hf : k + mc ≤ rm.cells ∧ n + ms ≤ rm.slots) (d : decode cc pc = .ok (.invokevirtual i, 3)) (K : ∀ (r : Int64) (u : va_W), post r u → GG E X (k + mc) (n + ms) (pc + 3) lv (.long r :: rest) (wr ++ u)) : GG E X k n pc lv st (wr ++ w0) := by
  obtain ⟨l, D, cl, tys⟩ := E
  obtain ⟨p, e, R, s, m, args, below, meth, c, Q, A, nL⟩ := X
  obtain ⟨⟨hx, hb, hml, hown, hts⟩, hK, hA, hR, hL⟩ := F
  intro H locs ls hP hD hS hl
  subst hst hR
  obtain ⟨c1, ⟨ws', c2⟩, c3, c4⟩ := cw
  have hFr := w_free hD hS hA
  refine va_calll (va_runV (As := As) (rest := rest) ⟨hx, hb, hml, hown, hts⟩ (hM H.size) (cwV As.length hts c1 c2 hms.1 hms.2 c3 c4) ⟨fun a U g mk q => by obtain ⟨q0, q1, qP, qK, qD⟩ := q; exact ⟨q0, q1, qP, va_K.moved (u := U) (U := U.calling g mk a) (Vm.Alike.refl U.vm) qK, qD⟩, va_recv hK (P_right hP) (ci := ci) (q0 := q0) hc he, fun U hU hW => ⟨rfl, by rw [hU], by rw [hU]; exact P_right hP, va_K.moved hW.alike hK, (D_right hD).weaken (fun _ _ _ _ => trivial)⟩⟩ rfl rfl hl.1 rfl (lv_room hroom) d hf) hS (fun q _ h => w_free hD hS hA q h) (w_free hD hS hA) (fun r u t H1 locs ht hvm hw hB hz1 hk1 hS => ?_)
  obtain ⟨hP1, hK1, hD1⟩ := hB
  rw [ht] at hP1
  obtain ⟨hP2, hD2⟩ := w_join hP hD hk1 hFr hP1 hD1
  exact K r u hw H1 locs ls hP2 hD2 hS hl
theorem g_callSL (F : Fx E X cc own Ts rm L) {y : MethodName} {ws : List Cond} {rm2 : Room} {As rest st : List Value} {wr w0 : va_W} {mc ms : Nat} {post : Int64 → va_W → Prop} (hM : CtL E y ws rm2 As w0 mc ms post) {i : Nat} {bytes : ByteArray} {maxL : Nat} {ret : Option FieldType} (cw : cwOkS own i y ws Ts bytes maxL As.length ret rm2 rm) (hst : st = As.reverse ++ rest) (hroom : (rest.map fun v => v.category).sum ≤ 8) (hms : rm2.cells = mc ∧ rm2.slots = ms) (hf : k + mc ≤ rm.cells ∧ n + ms ≤ rm.slots) (d : decode cc pc = .ok (.invokestatic i, 3)) (K : ∀ (r : Int64) (u : va_W), post r u → GG E X (k + mc) (n + ms) (pc + 3) lv (.long r :: rest) (wr ++ u)) : GG E X k n pc lv st (wr ++ w0) := by
  obtain ⟨l, D, cl, tys⟩ := E
  obtain ⟨p, e, R, s, m, args, below, meth, c, Q, A, nL⟩ := X
  obtain ⟨⟨hx, hb, hml, hown, hts⟩, hK, hA, hR, hL⟩ := F
  intro H locs ls hP hD hS hl
  subst hst hR
  obtain ⟨c1, ⟨ws', c2⟩, c3, c4⟩ := cw
  have hFr := w_free hD hS hA
  refine va_calll (va_runS (As := As) (rest := rest) ⟨hx, hb, hml, hown, hts⟩ (hM H.size) (cwS As.length hts c1 c2 hms.1 hms.2 c3 c4) ⟨fun a U g mk q => by obtain ⟨q0, q1, qP, qK, qD⟩ := q; exact ⟨q0, q1, qP, va_K.moved (u := U) (U := U.calling g mk a) (Vm.Alike.refl U.vm) qK, qD⟩, fun U hU hW => ⟨rfl, by rw [hU], by rw [hU]; exact P_right hP, va_K.moved hW.alike hK, (D_right hD).weaken (fun _ _ _ _ => trivial)⟩⟩ rfl rfl hl.1 rfl (lv_room hroom) d hf) hS (fun q _ h => w_free hD hS hA q h) (w_free hD hS hA) (fun r u t H1 locs ht hvm hw hB hz1 hk1 hS => ?_)
  obtain ⟨hP1, hK1, hD1⟩ := hB
  rw [ht] at hP1
  obtain ⟨hP2, hD2⟩ := w_join hP hD hk1 hFr hP1 hD1
  exact K r u hw H1 locs ls hP2 hD2 hS hl
theorem g_callVV (F : Fx E X cc own Ts rm L) {y : MethodName} {ws : List Cond} {rm2 : Room} {b : Nat} {As rest st : List Value} {wr w0 : va_W} {mc ms : Nat} {post : va_W → Prop} (hM : CtV E y ws rm2 (.ref b :: As) w0 mc ms post) {i : Nat} {C : String} {bytes : ByteArray} {maxL : Nat} {ret : Option FieldType} (cw : cwOk own i C y ws Ts bytes maxL As.length ret rm2 rm) (q0 : Nat) {ci : Nat} {fs : List Value} {T : u_T} {N : Nat} (he : w0[q0]? = some (b, .inr (ci, fs))) (hc : (clOf E)[ci]? = some (C, T, N)) (hst : st = As.reverse ++ .ref b :: rest) (hroom : (rest.map fun v => v.category).sum ≤ 8) (hms : rm2.cells = mc ∧ rm2.slots = ms) (hf : k + mc ≤ rm.cells ∧ n + ms ≤ rm.slots) (d : decode cc pc = .ok (.invokevirtual i, 3)) (K : ∀ (u : va_W), post u → GG E X (k + mc) (n + ms) (pc + 3) lv (rest) (wr ++ u)) : GG E X k n pc lv st (wr ++ w0) := by
  obtain ⟨l, D, cl, tys⟩ := E
  obtain ⟨p, e, R, s, m, args, below, meth, c, Q, A, nL⟩ := X
  obtain ⟨⟨hx, hb, hml, hown, hts⟩, hK, hA, hR, hL⟩ := F
  intro H locs ls hP hD hS hl
  subst hst hR
  obtain ⟨c1, ⟨ws', c2⟩, c3, c4⟩ := cw
  have hFr := w_free hD hS hA
  refine va_callv (va_runV (As := As) (rest := rest) ⟨hx, hb, hml, hown, hts⟩ (hM H.size) (cwV As.length hts c1 c2 hms.1 hms.2 c3 c4) ⟨fun a U g mk q => by obtain ⟨q0, q1, qP, qK, qD⟩ := q; exact ⟨q0, q1, qP, va_K.moved (u := U) (U := U.calling g mk a) (Vm.Alike.refl U.vm) qK, qD⟩, va_recv hK (P_right hP) (ci := ci) (q0 := q0) hc he, fun U hU hW => ⟨rfl, by rw [hU], by rw [hU]; exact P_right hP, va_K.moved hW.alike hK, (D_right hD).weaken (fun _ _ _ _ => trivial)⟩⟩ rfl rfl hl.1 rfl (lv_room hroom) d hf) hS (fun q _ h => w_free hD hS hA q h) (w_free hD hS hA) (fun u t H1 locs ht hvm hw hB hz1 hk1 hS => ?_)
  obtain ⟨hP1, hK1, hD1⟩ := hB
  rw [ht] at hP1
  obtain ⟨hP2, hD2⟩ := w_join hP hD hk1 hFr hP1 hD1
  exact K u hw H1 locs ls hP2 hD2 hS hl
theorem g_callSV (F : Fx E X cc own Ts rm L) {y : MethodName} {ws : List Cond} {rm2 : Room} {As rest st : List Value} {wr w0 : va_W} {mc ms : Nat} {post : va_W → Prop} (hM : CtV E y ws rm2 As w0 mc ms post) {i : Nat} {bytes : ByteArray} {maxL : Nat} {ret : Option FieldType} (cw : cwOkS own i y ws Ts bytes maxL As.length ret rm2 rm) (hst : st = As.reverse ++ rest) (hroom : (rest.map fun v => v.category).sum ≤ 8) (hms : rm2.cells = mc ∧ rm2.slots = ms) (hf : k + mc ≤ rm.cells ∧ n + ms ≤ rm.slots) (d : decode cc pc = .ok (.invokestatic i, 3)) (K : ∀ (u : va_W), post u → GG E X (k + mc) (n + ms) (pc + 3) lv (rest) (wr ++ u)) : GG E X k n pc lv st (wr ++ w0) := by
  obtain ⟨l, D, cl, tys⟩ := E
  obtain ⟨p, e, R, s, m, args, below, meth, c, Q, A, nL⟩ := X
  obtain ⟨⟨hx, hb, hml, hown, hts⟩, hK, hA, hR, hL⟩ := F
  intro H locs ls hP hD hS hl
  subst hst hR
  obtain ⟨c1, ⟨ws', c2⟩, c3, c4⟩ := cw
  have hFr := w_free hD hS hA
  refine va_callv (va_runS (As := As) (rest := rest) ⟨hx, hb, hml, hown, hts⟩ (hM H.size) (cwS As.length hts c1 c2 hms.1 hms.2 c3 c4) ⟨fun a U g mk q => by obtain ⟨q0, q1, qP, qK, qD⟩ := q; exact ⟨q0, q1, qP, va_K.moved (u := U) (U := U.calling g mk a) (Vm.Alike.refl U.vm) qK, qD⟩, fun U hU hW => ⟨rfl, by rw [hU], by rw [hU]; exact P_right hP, va_K.moved hW.alike hK, (D_right hD).weaken (fun _ _ _ _ => trivial)⟩⟩ rfl rfl hl.1 rfl (lv_room hroom) d hf) hS (fun q _ h => w_free hD hS hA q h) (w_free hD hS hA) (fun u t H1 locs ht hvm hw hB hz1 hk1 hS => ?_)
  obtain ⟨hP1, hK1, hD1⟩ := hB
  rw [ht] at hP1
  obtain ⟨hP2, hD2⟩ := w_join hP hD hk1 hFr hP1 hD1
  exact K u hw H1 locs ls hP2 hD2 hS hl
end GC
theorem up_loop {P : Nat → Prop} (N : Nat) (hx : P N) (hs : ∀ i, i < N → P (i + 1) → P i) : P 0 := by
  have h : ∀ j, j ≤ N → P (N - j) := by
    intro j
    induction j with
    | zero => intro _; exact hx
    | succ j ih =>
      intro h
      have h1 := ih (by omega)
      have e : N - j = (N - (j + 1)) + 1 := by omega
      rw [e] at h1
      exact hs _ (by omega) h1
  have := h N (Nat.le_refl N)
  rwa [Nat.sub_self] at this
theorem up_loopI {I P : Nat → Prop} (N : Nat) (h0 : I 0) (hx : I N → P N) (hs : ∀ i, i < N → I i → (I (i + 1) → P (i + 1)) → P i) : P 0 :=
  up_loop (P := fun i => I i → P i) N hx (fun i hi ih hI => hs i hi hI ih) h0
end
section
/-! The worlds: an object and its rows, in numbers. -/
def b2 : Bool → Int32
  | true => 1
  | false => 0
def oI : Option Nat → Int32
  | none => -1
  | some k => nI k
def oL : Option Nat → Int64
  | none => -1
  | some k => lN k
def up {α : Type} (f : Nat → α) (k : Nat) (v : α) : Nat → α := fun j => if j = k then v else f j
theorem up_s {α : Type} {f : Nat → α} {k : Nat} {v : α} : up f k v k = v := if_pos rfl
theorem up_n {α : Type} {f : Nat → α} {k j : Nat} {v : α} (h : j ≠ k) : up f k v j = f j := if_neg h
theorem upd_up {α : Type} (g : α → Int32) (f : Nat → α) (k : Nat) (v : α) : upd (fun j => g (f j)) k (g v) = fun j => g (up f k v j) := by
  funext j
  unfold upd up
  by_cases h : j = k
  · rw [if_pos h, if_pos h]
  · rw [if_neg h, if_neg h]
theorem upd_upR (f : Nat → Int32) (k : Nat) (v : Int32) : upd f k v = up f k v := rfl
theorem updL_up {α : Type} (g : α → Int64) (f : Nat → α) (k : Nat) (v : α) : vp_updL (fun j => g (f j)) k (g v) = fun j => g (up f k v j) := by
  funext j
  unfold vp_updL up
  by_cases h : j = k
  · rw [if_pos h, if_pos h]
  · rw [if_neg h, if_neg h]
theorem nar_b2 (b : Bool) : vp_nar .boolean (b2 b) = b2 b := by cases b <;> decide
theorem narrow_b2 (b : Bool) : narrow .boolean (.int (b2 b)) = .int (b2 b) := by cases b <;> rfl
theorem fits_b2 (b : Bool) : fits .boolean (.int (b2 b)) = true := by cases b <;> decide
abbrev Ty3 : Type := ClassId × ClassId × ClassId
abbrev EE (l : Launch) (D : va_G) (t : Ty3) : En := (l, D, vwCl, [(t.1, .int), (t.2.1, .long), (t.2.2, .boolean)])
def WX (a : Nat → Nat) (t : Ty3) (w : Nat → Nat) (x : Nat → Int32) (y : Nat → Int32) (wy : Nat) (re : Nat) (de : Nat) (co : Nat → Bool) (cr : Nat → Option Nat) (cc : Nat) (sr : Nat) (so : Bool) (cf : Nat → Option Nat) (ck : Bool) (ng : Nat → Nat) (nw : Nat → Nat) (cs : Nat → Nat) (se : Nat → Bool) : va_W := [(a 0, .inr (0, [.ref (a 1), .ref (a 2), .ref (a 3), .int (nI wy), .long (lN re), .int (nI de), .ref (a 4), .ref (a 5), .int (nI cc), .long (lN sr), .int (b2 so), .ref (a 6), .int (b2 ck), .ref (a 7), .ref (a 8), .ref (a 9), .ref (a 10)])), (a 1, .inl (t.1, 120, .inl (fun i => nI (w i)))), (a 2, .inl (t.1, 120, .inl (x))), (a 3, .inl (t.1, 120, .inl (y))), (a 4, .inl (t.2.2, 120, .inl (fun i => b2 (co i)))), (a 5, .inl (t.1, 120, .inl (fun i => oI (cr i)))), (a 6, .inl (t.2.1, 120, .inr (.inl (fun i => oL (cf i))))), (a 7, .inl (t.2.1, 120, .inr (.inl (fun i => lN (ng i))))), (a 8, .inl (t.1, 120, .inl (fun i => nI (nw i)))), (a 9, .inl (t.2.1, 120, .inr (.inl (fun i => lN (cs i))))), (a 10, .inl (t.2.2, 120, .inl (fun i => b2 (se i))))]
section GX
variable {l : Launch} {D : va_G} {X : Cx} {k n pc L : Nat} {lv : List (Nat × Value)} {st : List Value} {cc0 : ByteArray} {c0 : Cond} {rm : Room}
variable {a : Nat → Nat} {t : Ty3} {w : Nat → Nat} {x : Nat → Int32} {y : Nat → Int32} {wy : Nat} {re : Nat} {de : Nat} {co : Nat → Bool} {cr : Nat → Option Nat} {cc : Nat} {sr : Nat} {so : Bool} {cf : Nat → Option Nat} {ck : Bool} {ng : Nat → Nat} {nw : Nat → Nat} {cs : Nat → Nat} {se : Nat → Bool}
theorem gX_get_weights (F : Fx (EE l D t) X cc0 RX0 (c0 :: wsL_law) rm L) (d : decode cc0 pc = .ok (.getfield 9, 3)) (K : GG (EE l D t) X k n (pc + 3) lv (.ref (a 1) :: st) (WX a t w x y wy re de co cr cc sr so cf ck ng nw cs se)) : GG (EE l D t) X k n pc lv (.ref (a 0) :: st) (WX a t w x y wy re de co cr cc sr so cf ck ng nw cs se) :=
  g_get F 0 0 (C := RX0) (T := TX0) (N := 17) (fun w h => List.mem_cons_of_mem _ (inlX0 w h)) rfl rfl (by decide) (List.mem_cons_of_mem _ mw1_14) rfl rfl d K
theorem gX_ld_weights (F : Fx (EE l D t) X cc0 RX0 (c0 :: wsL_law) rm L) {j : Nat} (hj : j < 120) (d : decode cc0 pc = .ok (.iaload, 1)) (K : GG (EE l D t) X k n (pc + 1) lv (.int (nI (w j)) :: st) (WX a t w x y wy re de co cr cc sr so cf ck ng nw cs se)) : GG (EE l D t) X k n pc lv (.int (nI j) :: .ref (a 1) :: st) (WX a t w x y wy re de co cr cc sr so cf ck ng nw cs se) :=
  g_iald F 1 0 (f := fun i => nI (w i)) rfl rfl hj (by decide) d K
theorem gX_st_weights (F : Fx (EE l D t) X cc0 RX0 (c0 :: wsL_law) rm L) {j : Nat} {e : Nat} (hj : j < 120) (d : decode cc0 pc = .ok (.iastore, 1)) (K : GG (EE l D t) X k n (pc + 1) lv st (WX a t (up w j e) x y wy re de co cr cc sr so cf ck ng nw cs se)) : GG (EE l D t) X k n pc lv (.int (nI e) :: .int (nI j) :: .ref (a 1) :: st) (WX a t w x y wy re de co cr cc sr so cf ck ng nw cs se) := by
  refine g_iast F 1 0 (f := fun i => nI (w i)) rfl rfl hj (by decide) d (ws2 := WX a t (up w j e) x y wy re de co cr cc sr so cf ck ng nw cs se) ?_ K
  have h : upd (fun i => nI (w i)) j (nI e) = fun i => nI (up w j e i) := upd_up nI w j e
  unfold WX
  exact congrArg (fun z => List.set (WX a t w x y wy re de co cr cc sr so cf ck ng nw cs se) 1 (a 1, .inl (t.1, 120, .inl z))) h
theorem gX_get_xs (F : Fx (EE l D t) X cc0 RX0 (c0 :: wsL_law) rm L) (d : decode cc0 pc = .ok (.getfield 13, 3)) (K : GG (EE l D t) X k n (pc + 3) lv (.ref (a 2) :: st) (WX a t w x y wy re de co cr cc sr so cf ck ng nw cs se)) : GG (EE l D t) X k n pc lv (.ref (a 0) :: st) (WX a t w x y wy re de co cr cc sr so cf ck ng nw cs se) :=
  g_get F 0 1 (C := RX0) (T := TX0) (N := 17) (fun w h => List.mem_cons_of_mem _ (inlX0 w h)) rfl rfl (by decide) (List.mem_cons_of_mem _ mw1_15) rfl rfl d K
theorem gX_ld_xs (F : Fx (EE l D t) X cc0 RX0 (c0 :: wsL_law) rm L) {j : Nat} (hj : j < 120) (d : decode cc0 pc = .ok (.iaload, 1)) (K : GG (EE l D t) X k n (pc + 1) lv (.int (x j) :: st) (WX a t w x y wy re de co cr cc sr so cf ck ng nw cs se)) : GG (EE l D t) X k n pc lv (.int (nI j) :: .ref (a 2) :: st) (WX a t w x y wy re de co cr cc sr so cf ck ng nw cs se) :=
  g_iald F 2 0 (f := x) rfl rfl hj (by decide) d K
theorem gX_st_xs (F : Fx (EE l D t) X cc0 RX0 (c0 :: wsL_law) rm L) {j : Nat} {e : Int32} (hj : j < 120) (d : decode cc0 pc = .ok (.iastore, 1)) (K : GG (EE l D t) X k n (pc + 1) lv st (WX a t w (up x j e) y wy re de co cr cc sr so cf ck ng nw cs se)) : GG (EE l D t) X k n pc lv (.int e :: .int (nI j) :: .ref (a 2) :: st) (WX a t w x y wy re de co cr cc sr so cf ck ng nw cs se) := by
  refine g_iast F 2 0 (f := x) rfl rfl hj (by decide) d (ws2 := WX a t w (up x j e) y wy re de co cr cc sr so cf ck ng nw cs se) ?_ K
  have h : upd (x) j e = up x j e := upd_upR _ _ _
  unfold WX
  exact congrArg (fun z => List.set (WX a t w x y wy re de co cr cc sr so cf ck ng nw cs se) 2 (a 2, .inl (t.1, 120, .inl z))) h
theorem gX_get_ys (F : Fx (EE l D t) X cc0 RX0 (c0 :: wsL_law) rm L) (d : decode cc0 pc = .ok (.getfield 16, 3)) (K : GG (EE l D t) X k n (pc + 3) lv (.ref (a 3) :: st) (WX a t w x y wy re de co cr cc sr so cf ck ng nw cs se)) : GG (EE l D t) X k n pc lv (.ref (a 0) :: st) (WX a t w x y wy re de co cr cc sr so cf ck ng nw cs se) :=
  g_get F 0 2 (C := RX0) (T := TX0) (N := 17) (fun w h => List.mem_cons_of_mem _ (inlX0 w h)) rfl rfl (by decide) (List.mem_cons_of_mem _ mw1_16) rfl rfl d K
theorem gX_ld_ys (F : Fx (EE l D t) X cc0 RX0 (c0 :: wsL_law) rm L) {j : Nat} (hj : j < 120) (d : decode cc0 pc = .ok (.iaload, 1)) (K : GG (EE l D t) X k n (pc + 1) lv (.int (y j) :: st) (WX a t w x y wy re de co cr cc sr so cf ck ng nw cs se)) : GG (EE l D t) X k n pc lv (.int (nI j) :: .ref (a 3) :: st) (WX a t w x y wy re de co cr cc sr so cf ck ng nw cs se) :=
  g_iald F 3 0 (f := y) rfl rfl hj (by decide) d K
theorem gX_st_ys (F : Fx (EE l D t) X cc0 RX0 (c0 :: wsL_law) rm L) {j : Nat} {e : Int32} (hj : j < 120) (d : decode cc0 pc = .ok (.iastore, 1)) (K : GG (EE l D t) X k n (pc + 1) lv st (WX a t w x (up y j e) wy re de co cr cc sr so cf ck ng nw cs se)) : GG (EE l D t) X k n pc lv (.int e :: .int (nI j) :: .ref (a 3) :: st) (WX a t w x y wy re de co cr cc sr so cf ck ng nw cs se) := by
  refine g_iast F 3 0 (f := y) rfl rfl hj (by decide) d (ws2 := WX a t w x (up y j e) wy re de co cr cc sr so cf ck ng nw cs se) ?_ K
  have h : upd (y) j e = up y j e := upd_upR _ _ _
  unfold WX
  exact congrArg (fun z => List.set (WX a t w x y wy re de co cr cc sr so cf ck ng nw cs se) 3 (a 3, .inl (t.1, 120, .inl z))) h
theorem gX_get_wayNow (F : Fx (EE l D t) X cc0 RX0 (c0 :: wsL_law) rm L) (d : decode cc0 pc = .ok (.getfield 19, 3)) (K : GG (EE l D t) X k n (pc + 3) lv (.int (nI wy) :: st) (WX a t w x y wy re de co cr cc sr so cf ck ng nw cs se)) : GG (EE l D t) X k n pc lv (.ref (a 0) :: st) (WX a t w x y wy re de co cr cc sr so cf ck ng nw cs se) :=
  g_get F 0 3 (C := RX0) (T := TX0) (N := 17) (fun w h => List.mem_cons_of_mem _ (inlX0 w h)) rfl rfl (by decide) (List.mem_cons_of_mem _ mw1_17) rfl rfl d K
theorem gX_put_wayNow (F : Fx (EE l D t) X cc0 RX0 (c0 :: wsL_law) rm L) {wy2 : Nat} (d : decode cc0 pc = .ok (.putfield 19, 3)) (K : GG (EE l D t) X k n (pc + 3) lv st (WX a t w x y wy2 re de co cr cc sr so cf ck ng nw cs se)) : GG (EE l D t) X k n pc lv (.int (nI wy2) :: .ref (a 0) :: st) (WX a t w x y wy re de co cr cc sr so cf ck ng nw cs se) :=
  g_put F 0 3 (C := RX0) (T := TX0) (N := 17) (ty := .int) (fun w h => List.mem_cons_of_mem _ (inlX0 w h)) tyX0 tyX0_ok nmX0 rfl rfl (by decide) (List.mem_cons_of_mem _ mw1_17) rfl rfl (by decide +kernel) rfl rfl (by simp) d rfl K
theorem gX_get_reachNow (F : Fx (EE l D t) X cc0 RX0 (c0 :: wsL_law) rm L) (d : decode cc0 pc = .ok (.getfield 23, 3)) (K : GG (EE l D t) X k n (pc + 3) lv (.long (lN re) :: st) (WX a t w x y wy re de co cr cc sr so cf ck ng nw cs se)) : GG (EE l D t) X k n pc lv (.ref (a 0) :: st) (WX a t w x y wy re de co cr cc sr so cf ck ng nw cs se) :=
  g_get F 0 4 (C := RX0) (T := TX0) (N := 17) (fun w h => List.mem_cons_of_mem _ (inlX0 w h)) rfl rfl (by decide) (List.mem_cons_of_mem _ mw1_18) rfl rfl d K
theorem gX_put_reachNow (F : Fx (EE l D t) X cc0 RX0 (c0 :: wsL_law) rm L) {re2 : Nat} (d : decode cc0 pc = .ok (.putfield 23, 3)) (K : GG (EE l D t) X k n (pc + 3) lv st (WX a t w x y wy re2 de co cr cc sr so cf ck ng nw cs se)) : GG (EE l D t) X k n pc lv (.long (lN re2) :: .ref (a 0) :: st) (WX a t w x y wy re de co cr cc sr so cf ck ng nw cs se) :=
  g_put F 0 4 (C := RX0) (T := TX0) (N := 17) (ty := .long) (fun w h => List.mem_cons_of_mem _ (inlX0 w h)) tyX0 tyX0_ok nmX0 rfl rfl (by decide) (List.mem_cons_of_mem _ mw1_18) rfl rfl (by decide +kernel) rfl rfl (by simp) d rfl K
theorem gX_get_demandNow (F : Fx (EE l D t) X cc0 RX0 (c0 :: wsL_law) rm L) (d : decode cc0 pc = .ok (.getfield 27, 3)) (K : GG (EE l D t) X k n (pc + 3) lv (.int (nI de) :: st) (WX a t w x y wy re de co cr cc sr so cf ck ng nw cs se)) : GG (EE l D t) X k n pc lv (.ref (a 0) :: st) (WX a t w x y wy re de co cr cc sr so cf ck ng nw cs se) :=
  g_get F 0 5 (C := RX0) (T := TX0) (N := 17) (fun w h => List.mem_cons_of_mem _ (inlX0 w h)) rfl rfl (by decide) (List.mem_cons_of_mem _ mw1_19) rfl rfl d K
theorem gX_put_demandNow (F : Fx (EE l D t) X cc0 RX0 (c0 :: wsL_law) rm L) {de2 : Nat} (d : decode cc0 pc = .ok (.putfield 27, 3)) (K : GG (EE l D t) X k n (pc + 3) lv st (WX a t w x y wy re de2 co cr cc sr so cf ck ng nw cs se)) : GG (EE l D t) X k n pc lv (.int (nI de2) :: .ref (a 0) :: st) (WX a t w x y wy re de co cr cc sr so cf ck ng nw cs se) :=
  g_put F 0 5 (C := RX0) (T := TX0) (N := 17) (ty := .int) (fun w h => List.mem_cons_of_mem _ (inlX0 w h)) tyX0 tyX0_ok nmX0 rfl rfl (by decide) (List.mem_cons_of_mem _ mw1_19) rfl rfl (by decide +kernel) rfl rfl (by simp) d rfl K
theorem gX_get_core (F : Fx (EE l D t) X cc0 RX0 (c0 :: wsL_law) rm L) (d : decode cc0 pc = .ok (.getfield 30, 3)) (K : GG (EE l D t) X k n (pc + 3) lv (.ref (a 4) :: st) (WX a t w x y wy re de co cr cc sr so cf ck ng nw cs se)) : GG (EE l D t) X k n pc lv (.ref (a 0) :: st) (WX a t w x y wy re de co cr cc sr so cf ck ng nw cs se) :=
  g_get F 0 6 (C := RX0) (T := TX0) (N := 17) (fun w h => List.mem_cons_of_mem _ (inlX0 w h)) rfl rfl (by decide) (List.mem_cons_of_mem _ mw1_21) rfl rfl d K
theorem gX_ld_core (F : Fx (EE l D t) X cc0 RX0 (c0 :: wsL_law) rm L) {j : Nat} (hj : j < 120) (d : decode cc0 pc = .ok (.baload, 1)) (K : GG (EE l D t) X k n (pc + 1) lv (.int (b2 (co j)) :: st) (WX a t w x y wy re de co cr cc sr so cf ck ng nw cs se)) : GG (EE l D t) X k n pc lv (.int (nI j) :: .ref (a 4) :: st) (WX a t w x y wy re de co cr cc sr so cf ck ng nw cs se) :=
  g_zald F 4 2 (f := fun i => b2 (co i)) rfl rfl hj (by decide) d K
theorem gX_st_core (F : Fx (EE l D t) X cc0 RX0 (c0 :: wsL_law) rm L) {j : Nat} {e : Bool} (hj : j < 120) (d : decode cc0 pc = .ok (.bastore, 1)) (K : GG (EE l D t) X k n (pc + 1) lv st (WX a t w x y wy re de (up co j e) cr cc sr so cf ck ng nw cs se)) : GG (EE l D t) X k n pc lv (.int (b2 e) :: .int (nI j) :: .ref (a 4) :: st) (WX a t w x y wy re de co cr cc sr so cf ck ng nw cs se) := by
  refine g_zast F 4 2 (f := fun i => b2 (co i)) rfl rfl hj (by decide) d (ws2 := WX a t w x y wy re de (up co j e) cr cc sr so cf ck ng nw cs se) ?_ K
  have h : upd (fun i => b2 (co i)) j (vp_nar .boolean (b2 e)) = fun i => b2 (up co j e i) := (by rw [nar_b2]; exact upd_up b2 co j e)
  unfold WX
  exact congrArg (fun z => List.set (WX a t w x y wy re de co cr cc sr so cf ck ng nw cs se) 4 (a 4, .inl (t.2.2, 120, .inl z))) h
theorem gX_get_crowdOf (F : Fx (EE l D t) X cc0 RX0 (c0 :: wsL_law) rm L) (d : decode cc0 pc = .ok (.getfield 34, 3)) (K : GG (EE l D t) X k n (pc + 3) lv (.ref (a 5) :: st) (WX a t w x y wy re de co cr cc sr so cf ck ng nw cs se)) : GG (EE l D t) X k n pc lv (.ref (a 0) :: st) (WX a t w x y wy re de co cr cc sr so cf ck ng nw cs se) :=
  g_get F 0 7 (C := RX0) (T := TX0) (N := 17) (fun w h => List.mem_cons_of_mem _ (inlX0 w h)) rfl rfl (by decide) (List.mem_cons_of_mem _ mw1_22) rfl rfl d K
theorem gX_ld_crowdOf (F : Fx (EE l D t) X cc0 RX0 (c0 :: wsL_law) rm L) {j : Nat} (hj : j < 120) (d : decode cc0 pc = .ok (.iaload, 1)) (K : GG (EE l D t) X k n (pc + 1) lv (.int (oI (cr j)) :: st) (WX a t w x y wy re de co cr cc sr so cf ck ng nw cs se)) : GG (EE l D t) X k n pc lv (.int (nI j) :: .ref (a 5) :: st) (WX a t w x y wy re de co cr cc sr so cf ck ng nw cs se) :=
  g_iald F 5 0 (f := fun i => oI (cr i)) rfl rfl hj (by decide) d K
theorem gX_st_crowdOf (F : Fx (EE l D t) X cc0 RX0 (c0 :: wsL_law) rm L) {j : Nat} {e : Option Nat} (hj : j < 120) (d : decode cc0 pc = .ok (.iastore, 1)) (K : GG (EE l D t) X k n (pc + 1) lv st (WX a t w x y wy re de co (up cr j e) cc sr so cf ck ng nw cs se)) : GG (EE l D t) X k n pc lv (.int (oI e) :: .int (nI j) :: .ref (a 5) :: st) (WX a t w x y wy re de co cr cc sr so cf ck ng nw cs se) := by
  refine g_iast F 5 0 (f := fun i => oI (cr i)) rfl rfl hj (by decide) d (ws2 := WX a t w x y wy re de co (up cr j e) cc sr so cf ck ng nw cs se) ?_ K
  have h : upd (fun i => oI (cr i)) j (oI e) = fun i => oI (up cr j e i) := upd_up oI cr j e
  unfold WX
  exact congrArg (fun z => List.set (WX a t w x y wy re de co cr cc sr so cf ck ng nw cs se) 5 (a 5, .inl (t.1, 120, .inl z))) h
theorem gX_get_crowdCount (F : Fx (EE l D t) X cc0 RX0 (c0 :: wsL_law) rm L) (d : decode cc0 pc = .ok (.getfield 37, 3)) (K : GG (EE l D t) X k n (pc + 3) lv (.int (nI cc) :: st) (WX a t w x y wy re de co cr cc sr so cf ck ng nw cs se)) : GG (EE l D t) X k n pc lv (.ref (a 0) :: st) (WX a t w x y wy re de co cr cc sr so cf ck ng nw cs se) :=
  g_get F 0 8 (C := RX0) (T := TX0) (N := 17) (fun w h => List.mem_cons_of_mem _ (inlX0 w h)) rfl rfl (by decide) (List.mem_cons_of_mem _ mw1_23) rfl rfl d K
theorem gX_put_crowdCount (F : Fx (EE l D t) X cc0 RX0 (c0 :: wsL_law) rm L) {cc2 : Nat} (d : decode cc0 pc = .ok (.putfield 37, 3)) (K : GG (EE l D t) X k n (pc + 3) lv st (WX a t w x y wy re de co cr cc2 sr so cf ck ng nw cs se)) : GG (EE l D t) X k n pc lv (.int (nI cc2) :: .ref (a 0) :: st) (WX a t w x y wy re de co cr cc sr so cf ck ng nw cs se) :=
  g_put F 0 8 (C := RX0) (T := TX0) (N := 17) (ty := .int) (fun w h => List.mem_cons_of_mem _ (inlX0 w h)) tyX0 tyX0_ok nmX0 rfl rfl (by decide) (List.mem_cons_of_mem _ mw1_23) rfl rfl (by decide +kernel) rfl rfl (by simp) d rfl K
theorem gX_get_sortedReach (F : Fx (EE l D t) X cc0 RX0 (c0 :: wsL_law) rm L) (d : decode cc0 pc = .ok (.getfield 40, 3)) (K : GG (EE l D t) X k n (pc + 3) lv (.long (lN sr) :: st) (WX a t w x y wy re de co cr cc sr so cf ck ng nw cs se)) : GG (EE l D t) X k n pc lv (.ref (a 0) :: st) (WX a t w x y wy re de co cr cc sr so cf ck ng nw cs se) :=
  g_get F 0 9 (C := RX0) (T := TX0) (N := 17) (fun w h => List.mem_cons_of_mem _ (inlX0 w h)) rfl rfl (by decide) (List.mem_cons_of_mem _ mw2_0) rfl rfl d K
theorem gX_put_sortedReach (F : Fx (EE l D t) X cc0 RX0 (c0 :: wsL_law) rm L) {sr2 : Nat} (d : decode cc0 pc = .ok (.putfield 40, 3)) (K : GG (EE l D t) X k n (pc + 3) lv st (WX a t w x y wy re de co cr cc sr2 so cf ck ng nw cs se)) : GG (EE l D t) X k n pc lv (.long (lN sr2) :: .ref (a 0) :: st) (WX a t w x y wy re de co cr cc sr so cf ck ng nw cs se) :=
  g_put F 0 9 (C := RX0) (T := TX0) (N := 17) (ty := .long) (fun w h => List.mem_cons_of_mem _ (inlX0 w h)) tyX0 tyX0_ok nmX0 rfl rfl (by decide) (List.mem_cons_of_mem _ mw2_0) rfl rfl (by decide +kernel) rfl rfl (by simp) d rfl K
theorem gX_get_sorted (F : Fx (EE l D t) X cc0 RX0 (c0 :: wsL_law) rm L) (d : decode cc0 pc = .ok (.getfield 43, 3)) (K : GG (EE l D t) X k n (pc + 3) lv (.int (b2 so) :: st) (WX a t w x y wy re de co cr cc sr so cf ck ng nw cs se)) : GG (EE l D t) X k n pc lv (.ref (a 0) :: st) (WX a t w x y wy re de co cr cc sr so cf ck ng nw cs se) :=
  g_get F 0 10 (C := RX0) (T := TX0) (N := 17) (fun w h => List.mem_cons_of_mem _ (inlX0 w h)) rfl rfl (by decide) (List.mem_cons_of_mem _ mw2_1) rfl rfl d K
theorem gX_put_sorted (F : Fx (EE l D t) X cc0 RX0 (c0 :: wsL_law) rm L) {so2 : Bool} (d : decode cc0 pc = .ok (.putfield 43, 3)) (K : GG (EE l D t) X k n (pc + 3) lv st (WX a t w x y wy re de co cr cc sr so2 cf ck ng nw cs se)) : GG (EE l D t) X k n pc lv (.int (b2 so2) :: .ref (a 0) :: st) (WX a t w x y wy re de co cr cc sr so cf ck ng nw cs se) :=
  g_put F 0 10 (C := RX0) (T := TX0) (N := 17) (ty := .boolean) (fun w h => List.mem_cons_of_mem _ (inlX0 w h)) tyX0 tyX0_ok nmX0 rfl rfl (by decide) (List.mem_cons_of_mem _ mw2_1) rfl rfl (by decide +kernel) (narrow_b2 so2) (fits_b2 so2) (by simp) d rfl K
theorem gX_get_coreFrom (F : Fx (EE l D t) X cc0 RX0 (c0 :: wsL_law) rm L) (d : decode cc0 pc = .ok (.getfield 47, 3)) (K : GG (EE l D t) X k n (pc + 3) lv (.ref (a 6) :: st) (WX a t w x y wy re de co cr cc sr so cf ck ng nw cs se)) : GG (EE l D t) X k n pc lv (.ref (a 0) :: st) (WX a t w x y wy re de co cr cc sr so cf ck ng nw cs se) :=
  g_get F 0 11 (C := RX0) (T := TX0) (N := 17) (fun w h => List.mem_cons_of_mem _ (inlX0 w h)) rfl rfl (by decide) (List.mem_cons_of_mem _ mw2_3) rfl rfl d K
theorem gX_ld_coreFrom (F : Fx (EE l D t) X cc0 RX0 (c0 :: wsL_law) rm L) {j : Nat} (hj : j < 120) (d : decode cc0 pc = .ok (.laload, 1)) (K : GG (EE l D t) X k n (pc + 1) lv (.long (oL (cf j)) :: st) (WX a t w x y wy re de co cr cc sr so cf ck ng nw cs se)) : GG (EE l D t) X k n pc lv (.int (nI j) :: .ref (a 6) :: st) (WX a t w x y wy re de co cr cc sr so cf ck ng nw cs se) :=
  g_lald F 6 1 (f := fun i => oL (cf i)) rfl rfl hj (by decide) d K
theorem gX_st_coreFrom (F : Fx (EE l D t) X cc0 RX0 (c0 :: wsL_law) rm L) {j : Nat} {e : Option Nat} (hj : j < 120) (d : decode cc0 pc = .ok (.lastore, 1)) (K : GG (EE l D t) X k n (pc + 1) lv st (WX a t w x y wy re de co cr cc sr so (up cf j e) ck ng nw cs se)) : GG (EE l D t) X k n pc lv (.long (oL e) :: .int (nI j) :: .ref (a 6) :: st) (WX a t w x y wy re de co cr cc sr so cf ck ng nw cs se) := by
  refine g_last F 6 1 (f := fun i => oL (cf i)) rfl rfl hj (by decide) d (ws2 := WX a t w x y wy re de co cr cc sr so (up cf j e) ck ng nw cs se) ?_ K
  have h : vp_updL (fun i => oL (cf i)) j (oL e) = fun i => oL (up cf j e i) := updL_up oL cf j e
  unfold WX
  exact congrArg (fun z => List.set (WX a t w x y wy re de co cr cc sr so cf ck ng nw cs se) 6 (a 6, .inl (t.2.1, 120, .inr (.inl z)))) h
theorem gX_get_coreFromKnown (F : Fx (EE l D t) X cc0 RX0 (c0 :: wsL_law) rm L) (d : decode cc0 pc = .ok (.getfield 51, 3)) (K : GG (EE l D t) X k n (pc + 3) lv (.int (b2 ck) :: st) (WX a t w x y wy re de co cr cc sr so cf ck ng nw cs se)) : GG (EE l D t) X k n pc lv (.ref (a 0) :: st) (WX a t w x y wy re de co cr cc sr so cf ck ng nw cs se) :=
  g_get F 0 12 (C := RX0) (T := TX0) (N := 17) (fun w h => List.mem_cons_of_mem _ (inlX0 w h)) rfl rfl (by decide) (List.mem_cons_of_mem _ mw2_4) rfl rfl d K
theorem gX_put_coreFromKnown (F : Fx (EE l D t) X cc0 RX0 (c0 :: wsL_law) rm L) {ck2 : Bool} (d : decode cc0 pc = .ok (.putfield 51, 3)) (K : GG (EE l D t) X k n (pc + 3) lv st (WX a t w x y wy re de co cr cc sr so cf ck2 ng nw cs se)) : GG (EE l D t) X k n pc lv (.int (b2 ck2) :: .ref (a 0) :: st) (WX a t w x y wy re de co cr cc sr so cf ck ng nw cs se) :=
  g_put F 0 12 (C := RX0) (T := TX0) (N := 17) (ty := .boolean) (fun w h => List.mem_cons_of_mem _ (inlX0 w h)) tyX0 tyX0_ok nmX0 rfl rfl (by decide) (List.mem_cons_of_mem _ mw2_4) rfl rfl (by decide +kernel) (narrow_b2 ck2) (fits_b2 ck2) (by simp) d rfl K
theorem gX_get_nearGap (F : Fx (EE l D t) X cc0 RX0 (c0 :: wsL_law) rm L) (d : decode cc0 pc = .ok (.getfield 54, 3)) (K : GG (EE l D t) X k n (pc + 3) lv (.ref (a 7) :: st) (WX a t w x y wy re de co cr cc sr so cf ck ng nw cs se)) : GG (EE l D t) X k n pc lv (.ref (a 0) :: st) (WX a t w x y wy re de co cr cc sr so cf ck ng nw cs se) :=
  g_get F 0 13 (C := RX0) (T := TX0) (N := 17) (fun w h => List.mem_cons_of_mem _ (inlX0 w h)) rfl rfl (by decide) (List.mem_cons_of_mem _ mw2_5) rfl rfl d K
theorem gX_ld_nearGap (F : Fx (EE l D t) X cc0 RX0 (c0 :: wsL_law) rm L) {j : Nat} (hj : j < 120) (d : decode cc0 pc = .ok (.laload, 1)) (K : GG (EE l D t) X k n (pc + 1) lv (.long (lN (ng j)) :: st) (WX a t w x y wy re de co cr cc sr so cf ck ng nw cs se)) : GG (EE l D t) X k n pc lv (.int (nI j) :: .ref (a 7) :: st) (WX a t w x y wy re de co cr cc sr so cf ck ng nw cs se) :=
  g_lald F 7 1 (f := fun i => lN (ng i)) rfl rfl hj (by decide) d K
theorem gX_st_nearGap (F : Fx (EE l D t) X cc0 RX0 (c0 :: wsL_law) rm L) {j : Nat} {e : Nat} (hj : j < 120) (d : decode cc0 pc = .ok (.lastore, 1)) (K : GG (EE l D t) X k n (pc + 1) lv st (WX a t w x y wy re de co cr cc sr so cf ck (up ng j e) nw cs se)) : GG (EE l D t) X k n pc lv (.long (lN e) :: .int (nI j) :: .ref (a 7) :: st) (WX a t w x y wy re de co cr cc sr so cf ck ng nw cs se) := by
  refine g_last F 7 1 (f := fun i => lN (ng i)) rfl rfl hj (by decide) d (ws2 := WX a t w x y wy re de co cr cc sr so cf ck (up ng j e) nw cs se) ?_ K
  have h : vp_updL (fun i => lN (ng i)) j (lN e) = fun i => lN (up ng j e i) := updL_up lN ng j e
  unfold WX
  exact congrArg (fun z => List.set (WX a t w x y wy re de co cr cc sr so cf ck ng nw cs se) 7 (a 7, .inl (t.2.1, 120, .inr (.inl z)))) h
theorem gX_get_nearWeight (F : Fx (EE l D t) X cc0 RX0 (c0 :: wsL_law) rm L) (d : decode cc0 pc = .ok (.getfield 57, 3)) (K : GG (EE l D t) X k n (pc + 3) lv (.ref (a 8) :: st) (WX a t w x y wy re de co cr cc sr so cf ck ng nw cs se)) : GG (EE l D t) X k n pc lv (.ref (a 0) :: st) (WX a t w x y wy re de co cr cc sr so cf ck ng nw cs se) :=
  g_get F 0 14 (C := RX0) (T := TX0) (N := 17) (fun w h => List.mem_cons_of_mem _ (inlX0 w h)) rfl rfl (by decide) (List.mem_cons_of_mem _ mw2_6) rfl rfl d K
theorem gX_ld_nearWeight (F : Fx (EE l D t) X cc0 RX0 (c0 :: wsL_law) rm L) {j : Nat} (hj : j < 120) (d : decode cc0 pc = .ok (.iaload, 1)) (K : GG (EE l D t) X k n (pc + 1) lv (.int (nI (nw j)) :: st) (WX a t w x y wy re de co cr cc sr so cf ck ng nw cs se)) : GG (EE l D t) X k n pc lv (.int (nI j) :: .ref (a 8) :: st) (WX a t w x y wy re de co cr cc sr so cf ck ng nw cs se) :=
  g_iald F 8 0 (f := fun i => nI (nw i)) rfl rfl hj (by decide) d K
theorem gX_st_nearWeight (F : Fx (EE l D t) X cc0 RX0 (c0 :: wsL_law) rm L) {j : Nat} {e : Nat} (hj : j < 120) (d : decode cc0 pc = .ok (.iastore, 1)) (K : GG (EE l D t) X k n (pc + 1) lv st (WX a t w x y wy re de co cr cc sr so cf ck ng (up nw j e) cs se)) : GG (EE l D t) X k n pc lv (.int (nI e) :: .int (nI j) :: .ref (a 8) :: st) (WX a t w x y wy re de co cr cc sr so cf ck ng nw cs se) := by
  refine g_iast F 8 0 (f := fun i => nI (nw i)) rfl rfl hj (by decide) d (ws2 := WX a t w x y wy re de co cr cc sr so cf ck ng (up nw j e) cs se) ?_ K
  have h : upd (fun i => nI (nw i)) j (nI e) = fun i => nI (up nw j e i) := upd_up nI nw j e
  unfold WX
  exact congrArg (fun z => List.set (WX a t w x y wy re de co cr cc sr so cf ck ng nw cs se) 8 (a 8, .inl (t.1, 120, .inl z))) h
theorem gX_get_cost (F : Fx (EE l D t) X cc0 RX0 (c0 :: wsL_law) rm L) (d : decode cc0 pc = .ok (.getfield 60, 3)) (K : GG (EE l D t) X k n (pc + 3) lv (.ref (a 9) :: st) (WX a t w x y wy re de co cr cc sr so cf ck ng nw cs se)) : GG (EE l D t) X k n pc lv (.ref (a 0) :: st) (WX a t w x y wy re de co cr cc sr so cf ck ng nw cs se) :=
  g_get F 0 15 (C := RX0) (T := TX0) (N := 17) (fun w h => List.mem_cons_of_mem _ (inlX0 w h)) rfl rfl (by decide) (List.mem_cons_of_mem _ mw2_7) rfl rfl d K
theorem gX_ld_cost (F : Fx (EE l D t) X cc0 RX0 (c0 :: wsL_law) rm L) {j : Nat} (hj : j < 120) (d : decode cc0 pc = .ok (.laload, 1)) (K : GG (EE l D t) X k n (pc + 1) lv (.long (lN (cs j)) :: st) (WX a t w x y wy re de co cr cc sr so cf ck ng nw cs se)) : GG (EE l D t) X k n pc lv (.int (nI j) :: .ref (a 9) :: st) (WX a t w x y wy re de co cr cc sr so cf ck ng nw cs se) :=
  g_lald F 9 1 (f := fun i => lN (cs i)) rfl rfl hj (by decide) d K
theorem gX_st_cost (F : Fx (EE l D t) X cc0 RX0 (c0 :: wsL_law) rm L) {j : Nat} {e : Nat} (hj : j < 120) (d : decode cc0 pc = .ok (.lastore, 1)) (K : GG (EE l D t) X k n (pc + 1) lv st (WX a t w x y wy re de co cr cc sr so cf ck ng nw (up cs j e) se)) : GG (EE l D t) X k n pc lv (.long (lN e) :: .int (nI j) :: .ref (a 9) :: st) (WX a t w x y wy re de co cr cc sr so cf ck ng nw cs se) := by
  refine g_last F 9 1 (f := fun i => lN (cs i)) rfl rfl hj (by decide) d (ws2 := WX a t w x y wy re de co cr cc sr so cf ck ng nw (up cs j e) se) ?_ K
  have h : vp_updL (fun i => lN (cs i)) j (lN e) = fun i => lN (up cs j e i) := updL_up lN cs j e
  unfold WX
  exact congrArg (fun z => List.set (WX a t w x y wy re de co cr cc sr so cf ck ng nw cs se) 9 (a 9, .inl (t.2.1, 120, .inr (.inl z)))) h
theorem gX_get_settled (F : Fx (EE l D t) X cc0 RX0 (c0 :: wsL_law) rm L) (d : decode cc0 pc = .ok (.getfield 63, 3)) (K : GG (EE l D t) X k n (pc + 3) lv (.ref (a 10) :: st) (WX a t w x y wy re de co cr cc sr so cf ck ng nw cs se)) : GG (EE l D t) X k n pc lv (.ref (a 0) :: st) (WX a t w x y wy re de co cr cc sr so cf ck ng nw cs se) :=
  g_get F 0 16 (C := RX0) (T := TX0) (N := 17) (fun w h => List.mem_cons_of_mem _ (inlX0 w h)) rfl rfl (by decide) (List.mem_cons_of_mem _ mw2_8) rfl rfl d K
theorem gX_ld_settled (F : Fx (EE l D t) X cc0 RX0 (c0 :: wsL_law) rm L) {j : Nat} (hj : j < 120) (d : decode cc0 pc = .ok (.baload, 1)) (K : GG (EE l D t) X k n (pc + 1) lv (.int (b2 (se j)) :: st) (WX a t w x y wy re de co cr cc sr so cf ck ng nw cs se)) : GG (EE l D t) X k n pc lv (.int (nI j) :: .ref (a 10) :: st) (WX a t w x y wy re de co cr cc sr so cf ck ng nw cs se) :=
  g_zald F 10 2 (f := fun i => b2 (se i)) rfl rfl hj (by decide) d K
theorem gX_st_settled (F : Fx (EE l D t) X cc0 RX0 (c0 :: wsL_law) rm L) {j : Nat} {e : Bool} (hj : j < 120) (d : decode cc0 pc = .ok (.bastore, 1)) (K : GG (EE l D t) X k n (pc + 1) lv st (WX a t w x y wy re de co cr cc sr so cf ck ng nw cs (up se j e))) : GG (EE l D t) X k n pc lv (.int (b2 e) :: .int (nI j) :: .ref (a 10) :: st) (WX a t w x y wy re de co cr cc sr so cf ck ng nw cs se) := by
  refine g_zast F 10 2 (f := fun i => b2 (se i)) rfl rfl hj (by decide) d (ws2 := WX a t w x y wy re de co cr cc sr so cf ck ng nw cs (up se j e)) ?_ K
  have h : upd (fun i => b2 (se i)) j (vp_nar .boolean (b2 e)) = fun i => b2 (up se j e i) := (by rw [nar_b2]; exact upd_up b2 se j e)
  unfold WX
  exact congrArg (fun z => List.set (WX a t w x y wy re de co cr cc sr so cf ck ng nw cs se) 10 (a 10, .inl (t.2.2, 120, .inl z))) h
end GX
def WM (a : Nat → Nat) (t : Ty3) (is : Nat → Bool) (x : Nat → Int32) (y : Nat → Int32) (w : Nat → Nat) (wy : Nat) (re : Nat) (de : Nat) (co : Nat → Bool) (cr : Nat → Option Nat) (cc : Nat) (dn : Nat → Bool) (cs : Nat → Option Nat) (df : Nat → Option Nat) : va_W := [(a 0, .inr (1, [.ref (a 1), .ref (a 2), .ref (a 3), .ref (a 4), .int (nI wy), .long (lN re), .int (nI de), .ref (a 5), .ref (a 6), .int (nI cc), .ref (a 7), .ref (a 8), .ref (a 9)])), (a 1, .inl (t.2.2, 120, .inl (fun i => b2 (is i)))), (a 2, .inl (t.1, 120, .inl (x))), (a 3, .inl (t.1, 120, .inl (y))), (a 4, .inl (t.1, 120, .inl (fun i => nI (w i)))), (a 5, .inl (t.2.2, 120, .inl (fun i => b2 (co i)))), (a 6, .inl (t.1, 120, .inl (fun i => oI (cr i)))), (a 7, .inl (t.2.2, 120, .inl (fun i => b2 (dn i)))), (a 8, .inl (t.2.1, 120, .inr (.inl (fun i => oL (cs i))))), (a 9, .inl (t.2.1, 120, .inr (.inl (fun i => oL (df i)))))]
section GM
variable {l : Launch} {D : va_G} {X : Cx} {k n pc L : Nat} {lv : List (Nat × Value)} {st : List Value} {cc0 : ByteArray} {c0 : Cond} {rm : Room}
variable {a : Nat → Nat} {t : Ty3} {is : Nat → Bool} {x : Nat → Int32} {y : Nat → Int32} {w : Nat → Nat} {wy : Nat} {re : Nat} {de : Nat} {co : Nat → Bool} {cr : Nat → Option Nat} {cc : Nat} {dn : Nat → Bool} {cs : Nat → Option Nat} {df : Nat → Option Nat}
theorem gM_get_is (F : Fx (EE l D t) X cc0 RX1 (c0 :: wsL_law) rm L) (d : decode cc0 pc = .ok (.getfield 7, 3)) (K : GG (EE l D t) X k n (pc + 3) lv (.ref (a 1) :: st) (WM a t is x y w wy re de co cr cc dn cs df)) : GG (EE l D t) X k n pc lv (.ref (a 0) :: st) (WM a t is x y w wy re de co cr cc dn cs df) :=
  g_get F 0 0 (C := RX1) (T := TX1) (N := 13) (fun w h => List.mem_cons_of_mem _ (inlX1 w h)) rfl rfl (by decide) (List.mem_cons_of_mem _ mw2_13) rfl rfl d K
theorem gM_ld_is (F : Fx (EE l D t) X cc0 RX1 (c0 :: wsL_law) rm L) {j : Nat} (hj : j < 120) (d : decode cc0 pc = .ok (.baload, 1)) (K : GG (EE l D t) X k n (pc + 1) lv (.int (b2 (is j)) :: st) (WM a t is x y w wy re de co cr cc dn cs df)) : GG (EE l D t) X k n pc lv (.int (nI j) :: .ref (a 1) :: st) (WM a t is x y w wy re de co cr cc dn cs df) :=
  g_zald F 1 2 (f := fun i => b2 (is i)) rfl rfl hj (by decide) d K
theorem gM_st_is (F : Fx (EE l D t) X cc0 RX1 (c0 :: wsL_law) rm L) {j : Nat} {e : Bool} (hj : j < 120) (d : decode cc0 pc = .ok (.bastore, 1)) (K : GG (EE l D t) X k n (pc + 1) lv st (WM a t (up is j e) x y w wy re de co cr cc dn cs df)) : GG (EE l D t) X k n pc lv (.int (b2 e) :: .int (nI j) :: .ref (a 1) :: st) (WM a t is x y w wy re de co cr cc dn cs df) := by
  refine g_zast F 1 2 (f := fun i => b2 (is i)) rfl rfl hj (by decide) d (ws2 := WM a t (up is j e) x y w wy re de co cr cc dn cs df) ?_ K
  have h : upd (fun i => b2 (is i)) j (vp_nar .boolean (b2 e)) = fun i => b2 (up is j e i) := (by rw [nar_b2]; exact upd_up b2 is j e)
  unfold WM
  exact congrArg (fun z => List.set (WM a t is x y w wy re de co cr cc dn cs df) 1 (a 1, .inl (t.2.2, 120, .inl z))) h
theorem gM_get_xs (F : Fx (EE l D t) X cc0 RX1 (c0 :: wsL_law) rm L) (d : decode cc0 pc = .ok (.getfield 13, 3)) (K : GG (EE l D t) X k n (pc + 3) lv (.ref (a 2) :: st) (WM a t is x y w wy re de co cr cc dn cs df)) : GG (EE l D t) X k n pc lv (.ref (a 0) :: st) (WM a t is x y w wy re de co cr cc dn cs df) :=
  g_get F 0 1 (C := RX1) (T := TX1) (N := 13) (fun w h => List.mem_cons_of_mem _ (inlX1 w h)) rfl rfl (by decide) (List.mem_cons_of_mem _ mw2_14) rfl rfl d K
theorem gM_ld_xs (F : Fx (EE l D t) X cc0 RX1 (c0 :: wsL_law) rm L) {j : Nat} (hj : j < 120) (d : decode cc0 pc = .ok (.iaload, 1)) (K : GG (EE l D t) X k n (pc + 1) lv (.int (x j) :: st) (WM a t is x y w wy re de co cr cc dn cs df)) : GG (EE l D t) X k n pc lv (.int (nI j) :: .ref (a 2) :: st) (WM a t is x y w wy re de co cr cc dn cs df) :=
  g_iald F 2 0 (f := x) rfl rfl hj (by decide) d K
theorem gM_st_xs (F : Fx (EE l D t) X cc0 RX1 (c0 :: wsL_law) rm L) {j : Nat} {e : Int32} (hj : j < 120) (d : decode cc0 pc = .ok (.iastore, 1)) (K : GG (EE l D t) X k n (pc + 1) lv st (WM a t is (up x j e) y w wy re de co cr cc dn cs df)) : GG (EE l D t) X k n pc lv (.int e :: .int (nI j) :: .ref (a 2) :: st) (WM a t is x y w wy re de co cr cc dn cs df) := by
  refine g_iast F 2 0 (f := x) rfl rfl hj (by decide) d (ws2 := WM a t is (up x j e) y w wy re de co cr cc dn cs df) ?_ K
  have h : upd (x) j e = up x j e := upd_upR _ _ _
  unfold WM
  exact congrArg (fun z => List.set (WM a t is x y w wy re de co cr cc dn cs df) 2 (a 2, .inl (t.1, 120, .inl z))) h
theorem gM_get_ys (F : Fx (EE l D t) X cc0 RX1 (c0 :: wsL_law) rm L) (d : decode cc0 pc = .ok (.getfield 17, 3)) (K : GG (EE l D t) X k n (pc + 3) lv (.ref (a 3) :: st) (WM a t is x y w wy re de co cr cc dn cs df)) : GG (EE l D t) X k n pc lv (.ref (a 0) :: st) (WM a t is x y w wy re de co cr cc dn cs df) :=
  g_get F 0 2 (C := RX1) (T := TX1) (N := 13) (fun w h => List.mem_cons_of_mem _ (inlX1 w h)) rfl rfl (by decide) (List.mem_cons_of_mem _ mw2_15) rfl rfl d K
theorem gM_ld_ys (F : Fx (EE l D t) X cc0 RX1 (c0 :: wsL_law) rm L) {j : Nat} (hj : j < 120) (d : decode cc0 pc = .ok (.iaload, 1)) (K : GG (EE l D t) X k n (pc + 1) lv (.int (y j) :: st) (WM a t is x y w wy re de co cr cc dn cs df)) : GG (EE l D t) X k n pc lv (.int (nI j) :: .ref (a 3) :: st) (WM a t is x y w wy re de co cr cc dn cs df) :=
  g_iald F 3 0 (f := y) rfl rfl hj (by decide) d K
theorem gM_st_ys (F : Fx (EE l D t) X cc0 RX1 (c0 :: wsL_law) rm L) {j : Nat} {e : Int32} (hj : j < 120) (d : decode cc0 pc = .ok (.iastore, 1)) (K : GG (EE l D t) X k n (pc + 1) lv st (WM a t is x (up y j e) w wy re de co cr cc dn cs df)) : GG (EE l D t) X k n pc lv (.int e :: .int (nI j) :: .ref (a 3) :: st) (WM a t is x y w wy re de co cr cc dn cs df) := by
  refine g_iast F 3 0 (f := y) rfl rfl hj (by decide) d (ws2 := WM a t is x (up y j e) w wy re de co cr cc dn cs df) ?_ K
  have h : upd (y) j e = up y j e := upd_upR _ _ _
  unfold WM
  exact congrArg (fun z => List.set (WM a t is x y w wy re de co cr cc dn cs df) 3 (a 3, .inl (t.1, 120, .inl z))) h
theorem gM_get_weights (F : Fx (EE l D t) X cc0 RX1 (c0 :: wsL_law) rm L) (d : decode cc0 pc = .ok (.getfield 20, 3)) (K : GG (EE l D t) X k n (pc + 3) lv (.ref (a 4) :: st) (WM a t is x y w wy re de co cr cc dn cs df)) : GG (EE l D t) X k n pc lv (.ref (a 0) :: st) (WM a t is x y w wy re de co cr cc dn cs df) :=
  g_get F 0 3 (C := RX1) (T := TX1) (N := 13) (fun w h => List.mem_cons_of_mem _ (inlX1 w h)) rfl rfl (by decide) (List.mem_cons_of_mem _ mw2_16) rfl rfl d K
theorem gM_ld_weights (F : Fx (EE l D t) X cc0 RX1 (c0 :: wsL_law) rm L) {j : Nat} (hj : j < 120) (d : decode cc0 pc = .ok (.iaload, 1)) (K : GG (EE l D t) X k n (pc + 1) lv (.int (nI (w j)) :: st) (WM a t is x y w wy re de co cr cc dn cs df)) : GG (EE l D t) X k n pc lv (.int (nI j) :: .ref (a 4) :: st) (WM a t is x y w wy re de co cr cc dn cs df) :=
  g_iald F 4 0 (f := fun i => nI (w i)) rfl rfl hj (by decide) d K
theorem gM_st_weights (F : Fx (EE l D t) X cc0 RX1 (c0 :: wsL_law) rm L) {j : Nat} {e : Nat} (hj : j < 120) (d : decode cc0 pc = .ok (.iastore, 1)) (K : GG (EE l D t) X k n (pc + 1) lv st (WM a t is x y (up w j e) wy re de co cr cc dn cs df)) : GG (EE l D t) X k n pc lv (.int (nI e) :: .int (nI j) :: .ref (a 4) :: st) (WM a t is x y w wy re de co cr cc dn cs df) := by
  refine g_iast F 4 0 (f := fun i => nI (w i)) rfl rfl hj (by decide) d (ws2 := WM a t is x y (up w j e) wy re de co cr cc dn cs df) ?_ K
  have h : upd (fun i => nI (w i)) j (nI e) = fun i => nI (up w j e i) := upd_up nI w j e
  unfold WM
  exact congrArg (fun z => List.set (WM a t is x y w wy re de co cr cc dn cs df) 4 (a 4, .inl (t.1, 120, .inl z))) h
theorem gM_get_way (F : Fx (EE l D t) X cc0 RX1 (c0 :: wsL_law) rm L) (d : decode cc0 pc = .ok (.getfield 57, 3)) (K : GG (EE l D t) X k n (pc + 3) lv (.int (nI wy) :: st) (WM a t is x y w wy re de co cr cc dn cs df)) : GG (EE l D t) X k n pc lv (.ref (a 0) :: st) (WM a t is x y w wy re de co cr cc dn cs df) :=
  g_get F 0 4 (C := RX1) (T := TX1) (N := 13) (fun w h => List.mem_cons_of_mem _ (inlX1 w h)) rfl rfl (by decide) (List.mem_cons_of_mem _ mw5_21) rfl rfl d K
theorem gM_put_way (F : Fx (EE l D t) X cc0 RX1 (c0 :: wsL_law) rm L) {wy2 : Nat} (d : decode cc0 pc = .ok (.putfield 57, 3)) (K : GG (EE l D t) X k n (pc + 3) lv st (WM a t is x y w wy2 re de co cr cc dn cs df)) : GG (EE l D t) X k n pc lv (.int (nI wy2) :: .ref (a 0) :: st) (WM a t is x y w wy re de co cr cc dn cs df) :=
  g_put F 0 4 (C := RX1) (T := TX1) (N := 13) (ty := .int) (fun w h => List.mem_cons_of_mem _ (inlX1 w h)) tyX1 tyX1_ok nmX1 rfl rfl (by decide) (List.mem_cons_of_mem _ mw5_21) rfl rfl (by decide +kernel) rfl rfl (by simp) d rfl K
theorem gM_get_reach (F : Fx (EE l D t) X cc0 RX1 (c0 :: wsL_law) rm L) (d : decode cc0 pc = .ok (.getfield 60, 3)) (K : GG (EE l D t) X k n (pc + 3) lv (.long (lN re) :: st) (WM a t is x y w wy re de co cr cc dn cs df)) : GG (EE l D t) X k n pc lv (.ref (a 0) :: st) (WM a t is x y w wy re de co cr cc dn cs df) :=
  g_get F 0 5 (C := RX1) (T := TX1) (N := 13) (fun w h => List.mem_cons_of_mem _ (inlX1 w h)) rfl rfl (by decide) (List.mem_cons_of_mem _ mw6_6) rfl rfl d K
theorem gM_put_reach (F : Fx (EE l D t) X cc0 RX1 (c0 :: wsL_law) rm L) {re2 : Nat} (d : decode cc0 pc = .ok (.putfield 60, 3)) (K : GG (EE l D t) X k n (pc + 3) lv st (WM a t is x y w wy re2 de co cr cc dn cs df)) : GG (EE l D t) X k n pc lv (.long (lN re2) :: .ref (a 0) :: st) (WM a t is x y w wy re de co cr cc dn cs df) :=
  g_put F 0 5 (C := RX1) (T := TX1) (N := 13) (ty := .long) (fun w h => List.mem_cons_of_mem _ (inlX1 w h)) tyX1 tyX1_ok nmX1 rfl rfl (by decide) (List.mem_cons_of_mem _ mw6_6) rfl rfl (by decide +kernel) rfl rfl (by simp) d rfl K
theorem gM_get_demand (F : Fx (EE l D t) X cc0 RX1 (c0 :: wsL_law) rm L) (d : decode cc0 pc = .ok (.getfield 23, 3)) (K : GG (EE l D t) X k n (pc + 3) lv (.int (nI de) :: st) (WM a t is x y w wy re de co cr cc dn cs df)) : GG (EE l D t) X k n pc lv (.ref (a 0) :: st) (WM a t is x y w wy re de co cr cc dn cs df) :=
  g_get F 0 6 (C := RX1) (T := TX1) (N := 13) (fun w h => List.mem_cons_of_mem _ (inlX1 w h)) rfl rfl (by decide) (List.mem_cons_of_mem _ mw2_17) rfl rfl d K
theorem gM_put_demand (F : Fx (EE l D t) X cc0 RX1 (c0 :: wsL_law) rm L) {de2 : Nat} (d : decode cc0 pc = .ok (.putfield 23, 3)) (K : GG (EE l D t) X k n (pc + 3) lv st (WM a t is x y w wy re de2 co cr cc dn cs df)) : GG (EE l D t) X k n pc lv (.int (nI de2) :: .ref (a 0) :: st) (WM a t is x y w wy re de co cr cc dn cs df) :=
  g_put F 0 6 (C := RX1) (T := TX1) (N := 13) (ty := .int) (fun w h => List.mem_cons_of_mem _ (inlX1 w h)) tyX1 tyX1_ok nmX1 rfl rfl (by decide) (List.mem_cons_of_mem _ mw2_17) rfl rfl (by decide +kernel) rfl rfl (by simp) d rfl K
theorem gM_get_core (F : Fx (EE l D t) X cc0 RX1 (c0 :: wsL_law) rm L) (d : decode cc0 pc = .ok (.getfield 27, 3)) (K : GG (EE l D t) X k n (pc + 3) lv (.ref (a 5) :: st) (WM a t is x y w wy re de co cr cc dn cs df)) : GG (EE l D t) X k n pc lv (.ref (a 0) :: st) (WM a t is x y w wy re de co cr cc dn cs df) :=
  g_get F 0 7 (C := RX1) (T := TX1) (N := 13) (fun w h => List.mem_cons_of_mem _ (inlX1 w h)) rfl rfl (by decide) (List.mem_cons_of_mem _ mw2_18) rfl rfl d K
theorem gM_ld_core (F : Fx (EE l D t) X cc0 RX1 (c0 :: wsL_law) rm L) {j : Nat} (hj : j < 120) (d : decode cc0 pc = .ok (.baload, 1)) (K : GG (EE l D t) X k n (pc + 1) lv (.int (b2 (co j)) :: st) (WM a t is x y w wy re de co cr cc dn cs df)) : GG (EE l D t) X k n pc lv (.int (nI j) :: .ref (a 5) :: st) (WM a t is x y w wy re de co cr cc dn cs df) :=
  g_zald F 5 2 (f := fun i => b2 (co i)) rfl rfl hj (by decide) d K
theorem gM_st_core (F : Fx (EE l D t) X cc0 RX1 (c0 :: wsL_law) rm L) {j : Nat} {e : Bool} (hj : j < 120) (d : decode cc0 pc = .ok (.bastore, 1)) (K : GG (EE l D t) X k n (pc + 1) lv st (WM a t is x y w wy re de (up co j e) cr cc dn cs df)) : GG (EE l D t) X k n pc lv (.int (b2 e) :: .int (nI j) :: .ref (a 5) :: st) (WM a t is x y w wy re de co cr cc dn cs df) := by
  refine g_zast F 5 2 (f := fun i => b2 (co i)) rfl rfl hj (by decide) d (ws2 := WM a t is x y w wy re de (up co j e) cr cc dn cs df) ?_ K
  have h : upd (fun i => b2 (co i)) j (vp_nar .boolean (b2 e)) = fun i => b2 (up co j e i) := (by rw [nar_b2]; exact upd_up b2 co j e)
  unfold WM
  exact congrArg (fun z => List.set (WM a t is x y w wy re de co cr cc dn cs df) 5 (a 5, .inl (t.2.2, 120, .inl z))) h
theorem gM_get_crowdOf (F : Fx (EE l D t) X cc0 RX1 (c0 :: wsL_law) rm L) (d : decode cc0 pc = .ok (.getfield 30, 3)) (K : GG (EE l D t) X k n (pc + 3) lv (.ref (a 6) :: st) (WM a t is x y w wy re de co cr cc dn cs df)) : GG (EE l D t) X k n pc lv (.ref (a 0) :: st) (WM a t is x y w wy re de co cr cc dn cs df) :=
  g_get F 0 8 (C := RX1) (T := TX1) (N := 13) (fun w h => List.mem_cons_of_mem _ (inlX1 w h)) rfl rfl (by decide) (List.mem_cons_of_mem _ mw2_19) rfl rfl d K
theorem gM_ld_crowdOf (F : Fx (EE l D t) X cc0 RX1 (c0 :: wsL_law) rm L) {j : Nat} (hj : j < 120) (d : decode cc0 pc = .ok (.iaload, 1)) (K : GG (EE l D t) X k n (pc + 1) lv (.int (oI (cr j)) :: st) (WM a t is x y w wy re de co cr cc dn cs df)) : GG (EE l D t) X k n pc lv (.int (nI j) :: .ref (a 6) :: st) (WM a t is x y w wy re de co cr cc dn cs df) :=
  g_iald F 6 0 (f := fun i => oI (cr i)) rfl rfl hj (by decide) d K
theorem gM_st_crowdOf (F : Fx (EE l D t) X cc0 RX1 (c0 :: wsL_law) rm L) {j : Nat} {e : Option Nat} (hj : j < 120) (d : decode cc0 pc = .ok (.iastore, 1)) (K : GG (EE l D t) X k n (pc + 1) lv st (WM a t is x y w wy re de co (up cr j e) cc dn cs df)) : GG (EE l D t) X k n pc lv (.int (oI e) :: .int (nI j) :: .ref (a 6) :: st) (WM a t is x y w wy re de co cr cc dn cs df) := by
  refine g_iast F 6 0 (f := fun i => oI (cr i)) rfl rfl hj (by decide) d (ws2 := WM a t is x y w wy re de co (up cr j e) cc dn cs df) ?_ K
  have h : upd (fun i => oI (cr i)) j (oI e) = fun i => oI (up cr j e i) := upd_up oI cr j e
  unfold WM
  exact congrArg (fun z => List.set (WM a t is x y w wy re de co cr cc dn cs df) 6 (a 6, .inl (t.1, 120, .inl z))) h
theorem gM_get_crowds (F : Fx (EE l D t) X cc0 RX1 (c0 :: wsL_law) rm L) (d : decode cc0 pc = .ok (.getfield 70, 3)) (K : GG (EE l D t) X k n (pc + 3) lv (.int (nI cc) :: st) (WM a t is x y w wy re de co cr cc dn cs df)) : GG (EE l D t) X k n pc lv (.ref (a 0) :: st) (WM a t is x y w wy re de co cr cc dn cs df) :=
  g_get F 0 9 (C := RX1) (T := TX1) (N := 13) (fun w h => List.mem_cons_of_mem _ (inlX1 w h)) rfl rfl (by decide) (List.mem_cons_of_mem _ mw10_0) rfl rfl d K
theorem gM_put_crowds (F : Fx (EE l D t) X cc0 RX1 (c0 :: wsL_law) rm L) {cc2 : Nat} (d : decode cc0 pc = .ok (.putfield 70, 3)) (K : GG (EE l D t) X k n (pc + 3) lv st (WM a t is x y w wy re de co cr cc2 dn cs df)) : GG (EE l D t) X k n pc lv (.int (nI cc2) :: .ref (a 0) :: st) (WM a t is x y w wy re de co cr cc dn cs df) :=
  g_put F 0 9 (C := RX1) (T := TX1) (N := 13) (ty := .int) (fun w h => List.mem_cons_of_mem _ (inlX1 w h)) tyX1 tyX1_ok nmX1 rfl rfl (by decide) (List.mem_cons_of_mem _ mw10_0) rfl rfl (by decide +kernel) rfl rfl (by simp) d rfl K
theorem gM_get_done (F : Fx (EE l D t) X cc0 RX1 (c0 :: wsL_law) rm L) (d : decode cc0 pc = .ok (.getfield 33, 3)) (K : GG (EE l D t) X k n (pc + 3) lv (.ref (a 7) :: st) (WM a t is x y w wy re de co cr cc dn cs df)) : GG (EE l D t) X k n pc lv (.ref (a 0) :: st) (WM a t is x y w wy re de co cr cc dn cs df) :=
  g_get F 0 10 (C := RX1) (T := TX1) (N := 13) (fun w h => List.mem_cons_of_mem _ (inlX1 w h)) rfl rfl (by decide) (List.mem_cons_of_mem _ mw2_20) rfl rfl d K
theorem gM_ld_done (F : Fx (EE l D t) X cc0 RX1 (c0 :: wsL_law) rm L) {j : Nat} (hj : j < 120) (d : decode cc0 pc = .ok (.baload, 1)) (K : GG (EE l D t) X k n (pc + 1) lv (.int (b2 (dn j)) :: st) (WM a t is x y w wy re de co cr cc dn cs df)) : GG (EE l D t) X k n pc lv (.int (nI j) :: .ref (a 7) :: st) (WM a t is x y w wy re de co cr cc dn cs df) :=
  g_zald F 7 2 (f := fun i => b2 (dn i)) rfl rfl hj (by decide) d K
theorem gM_st_done (F : Fx (EE l D t) X cc0 RX1 (c0 :: wsL_law) rm L) {j : Nat} {e : Bool} (hj : j < 120) (d : decode cc0 pc = .ok (.bastore, 1)) (K : GG (EE l D t) X k n (pc + 1) lv st (WM a t is x y w wy re de co cr cc (up dn j e) cs df)) : GG (EE l D t) X k n pc lv (.int (b2 e) :: .int (nI j) :: .ref (a 7) :: st) (WM a t is x y w wy re de co cr cc dn cs df) := by
  refine g_zast F 7 2 (f := fun i => b2 (dn i)) rfl rfl hj (by decide) d (ws2 := WM a t is x y w wy re de co cr cc (up dn j e) cs df) ?_ K
  have h : upd (fun i => b2 (dn i)) j (vp_nar .boolean (b2 e)) = fun i => b2 (up dn j e i) := (by rw [nar_b2]; exact upd_up b2 dn j e)
  unfold WM
  exact congrArg (fun z => List.set (WM a t is x y w wy re de co cr cc dn cs df) 7 (a 7, .inl (t.2.2, 120, .inl z))) h
theorem gM_get_cost (F : Fx (EE l D t) X cc0 RX1 (c0 :: wsL_law) rm L) (d : decode cc0 pc = .ok (.getfield 36, 3)) (K : GG (EE l D t) X k n (pc + 3) lv (.ref (a 8) :: st) (WM a t is x y w wy re de co cr cc dn cs df)) : GG (EE l D t) X k n pc lv (.ref (a 0) :: st) (WM a t is x y w wy re de co cr cc dn cs df) :=
  g_get F 0 11 (C := RX1) (T := TX1) (N := 13) (fun w h => List.mem_cons_of_mem _ (inlX1 w h)) rfl rfl (by decide) (List.mem_cons_of_mem _ mw2_21) rfl rfl d K
theorem gM_ld_cost (F : Fx (EE l D t) X cc0 RX1 (c0 :: wsL_law) rm L) {j : Nat} (hj : j < 120) (d : decode cc0 pc = .ok (.laload, 1)) (K : GG (EE l D t) X k n (pc + 1) lv (.long (oL (cs j)) :: st) (WM a t is x y w wy re de co cr cc dn cs df)) : GG (EE l D t) X k n pc lv (.int (nI j) :: .ref (a 8) :: st) (WM a t is x y w wy re de co cr cc dn cs df) :=
  g_lald F 8 1 (f := fun i => oL (cs i)) rfl rfl hj (by decide) d K
theorem gM_st_cost (F : Fx (EE l D t) X cc0 RX1 (c0 :: wsL_law) rm L) {j : Nat} {e : Option Nat} (hj : j < 120) (d : decode cc0 pc = .ok (.lastore, 1)) (K : GG (EE l D t) X k n (pc + 1) lv st (WM a t is x y w wy re de co cr cc dn (up cs j e) df)) : GG (EE l D t) X k n pc lv (.long (oL e) :: .int (nI j) :: .ref (a 8) :: st) (WM a t is x y w wy re de co cr cc dn cs df) := by
  refine g_last F 8 1 (f := fun i => oL (cs i)) rfl rfl hj (by decide) d (ws2 := WM a t is x y w wy re de co cr cc dn (up cs j e) df) ?_ K
  have h : vp_updL (fun i => oL (cs i)) j (oL e) = fun i => oL (up cs j e i) := updL_up oL cs j e
  unfold WM
  exact congrArg (fun z => List.set (WM a t is x y w wy re de co cr cc dn cs df) 8 (a 8, .inl (t.2.1, 120, .inr (.inl z)))) h
theorem gM_get_denseOf (F : Fx (EE l D t) X cc0 RX1 (c0 :: wsL_law) rm L) (d : decode cc0 pc = .ok (.getfield 40, 3)) (K : GG (EE l D t) X k n (pc + 3) lv (.ref (a 9) :: st) (WM a t is x y w wy re de co cr cc dn cs df)) : GG (EE l D t) X k n pc lv (.ref (a 0) :: st) (WM a t is x y w wy re de co cr cc dn cs df) :=
  g_get F 0 12 (C := RX1) (T := TX1) (N := 13) (fun w h => List.mem_cons_of_mem _ (inlX1 w h)) rfl rfl (by decide) (List.mem_cons_of_mem _ mw2_22) rfl rfl d K
theorem gM_ld_denseOf (F : Fx (EE l D t) X cc0 RX1 (c0 :: wsL_law) rm L) {j : Nat} (hj : j < 120) (d : decode cc0 pc = .ok (.laload, 1)) (K : GG (EE l D t) X k n (pc + 1) lv (.long (oL (df j)) :: st) (WM a t is x y w wy re de co cr cc dn cs df)) : GG (EE l D t) X k n pc lv (.int (nI j) :: .ref (a 9) :: st) (WM a t is x y w wy re de co cr cc dn cs df) :=
  g_lald F 9 1 (f := fun i => oL (df i)) rfl rfl hj (by decide) d K
theorem gM_st_denseOf (F : Fx (EE l D t) X cc0 RX1 (c0 :: wsL_law) rm L) {j : Nat} {e : Option Nat} (hj : j < 120) (d : decode cc0 pc = .ok (.lastore, 1)) (K : GG (EE l D t) X k n (pc + 1) lv st (WM a t is x y w wy re de co cr cc dn cs (up df j e))) : GG (EE l D t) X k n pc lv (.long (oL e) :: .int (nI j) :: .ref (a 9) :: st) (WM a t is x y w wy re de co cr cc dn cs df) := by
  refine g_last F 9 1 (f := fun i => oL (df i)) rfl rfl hj (by decide) d (ws2 := WM a t is x y w wy re de co cr cc dn cs (up df j e)) ?_ K
  have h : vp_updL (fun i => oL (df i)) j (oL e) = fun i => oL (up df j e i) := updL_up oL df j e
  unfold WM
  exact congrArg (fun z => List.set (WM a t is x y w wy re de co cr cc dn cs df) 9 (a 9, .inl (t.2.1, 120, .inr (.inl z)))) h
end GM
end
section
theorem b2_0 {e : Bool} : b2 e = 0 ↔ e = false := by cases e <;> decide
theorem b2_n {e : Bool} : ¬ b2 e = 0 ↔ e = true := by cases e <;> decide
theorem nI_z {a : Nat} (h : a < 2 ^ 31) : nI a = 0 ↔ a = 0 := by rw [← nI_0]; exact nI_eq h (by decide)
theorem nI_le0 {a : Nat} (h : a < 2 ^ 31) : nI a ≤ 0 ↔ a = 0 := by rw [← nI_0, nI_leI h (by decide)]; omega
theorem nI_lt0 {a : Nat} (h : a < 2 ^ 31) : ¬ nI a < 0 := nI_pos h
theorem nI_ge0 {a : Nat} (h : a < 2 ^ 31) : 0 ≤ nI a := nI_pos' h
theorem nI_gt0 {a : Nat} (h : a < 2 ^ 31) : 0 < nI a ↔ 0 < a := by rw [← nI_0, nI_ltI (by decide) h]
theorem m1_ne {k : Nat} (h : k < 2 ^ 31) : ¬ nI k = -1 := fun q => by
  have h1 := nI_toInt h
  rw [q] at h1
  have h2 : (-1 : Int32).toInt = -1 := by decide
  omega
theorem oI_none {c : Option Nat} (h : ∀ k, c = some k → k < 2 ^ 31) : oI c = oI none ↔ c = none := by
  cases c with
  | none => exact ⟨fun _ => rfl, fun _ => rfl⟩
  | some k => exact ⟨fun q => absurd q (m1_ne (h k rfl)), fun q => by cases q⟩
theorem oI_some {c : Option Nat} {b : Nat} (h : ∀ k, c = some k → k < 2 ^ 31) (hb : b < 2 ^ 31) : oI c = nI b ↔ c = some b := by
  cases c with
  | none => exact ⟨fun q => absurd q.symm (m1_ne hb), fun q => by cases q⟩
  | some k => exact ⟨fun q => by rw [(nI_eq (h k rfl) hb).mp q], fun q => by cases q; rfl⟩
theorem oI_lt0 {c : Option Nat} (h : ∀ k, c = some k → k < 2 ^ 31) : oI c < 0 ↔ c = none := by
  cases c with
  | none => exact ⟨fun _ => rfl, fun _ => by decide⟩
  | some k => exact ⟨fun q => absurd q (nI_pos (h k rfl)), fun q => by cases q⟩
theorem oI_ge0 {c : Option Nat} (h : ∀ k, c = some k → k < 2 ^ 31) : 0 ≤ oI c ↔ ¬ c = none := by
  cases c with
  | none => exact ⟨fun q => absurd q (by decide), fun q => absurd rfl q⟩
  | some k => exact ⟨fun _ q => (by cases q), fun _ => nI_pos' (h k rfl)⟩
theorem lN_0 : lN 0 = 0 := rfl
theorem oL_lt0 {c : Option Nat} (h : ∀ k, c = some k → k < 2 ^ 63) : oL c < 0 ↔ c = none := by
  cases c with
  | none => exact ⟨fun _ => rfl, fun _ => by decide⟩
  | some k => exact ⟨fun q => absurd q (by rw [← lN_0, oL, pk_lLT (h k rfl) (by decide)]; omega), fun q => by cases q⟩
theorem oL_ge0 {c : Option Nat} (h : ∀ k, c = some k → k < 2 ^ 63) : 0 ≤ oL c ↔ ¬ c = none := by
  cases c with
  | none => exact ⟨fun q => absurd q (by decide), fun q => absurd rfl q⟩
  | some k => exact ⟨fun _ q => (by cases q), fun _ => (by rw [← lN_0, oL, pk_lLE (by decide) (h k rfl)]; omega)⟩
section GR2
variable {E : En} {X : Cx} {k n pc L : Nat} {lv : List (Nat × Value)} {st : List Value} {ws : va_W} {cc : ByteArray} {own : String} {Ts : List Cond} {rm : Room}
theorem g_if_eq_b (F : Fx E X cc own Ts rm L) {e : Bool} {off : Int} (tgt : Nat) (d : decode cc pc = .ok (.ifCond .eq off, 3)) (ht : (pc : Int) + off = (tgt : Int))  (K1 : e = false → GG E X k n tgt lv st ws) (K2 : e = true → GG E X k n (pc + 3) lv st ws) : GG E X k n pc lv (.int (b2 e) :: st) ws :=
  g_if_eq F tgt d ht (fun h => K1 (b2_0.mp h)) (fun h => K2 (b2_n.mp h))
theorem g_if_ne_b (F : Fx E X cc own Ts rm L) {e : Bool} {off : Int} (tgt : Nat) (d : decode cc pc = .ok (.ifCond .ne off, 3)) (ht : (pc : Int) + off = (tgt : Int))  (K1 : e = true → GG E X k n tgt lv st ws) (K2 : e = false → GG E X k n (pc + 3) lv st ws) : GG E X k n pc lv (.int (b2 e) :: st) ws :=
  g_if_ne F tgt d ht (fun h => K1 (b2_n.mp h)) (fun h => K2 (b2_0.mp h))
theorem g_icmp_eq_n (F : Fx E X cc own Ts rm L) {i j : Nat} {off : Int} (tgt : Nat) (d : decode cc pc = .ok (.if_icmp .eq off, 3)) (ht : (pc : Int) + off = (tgt : Int)) (ha : i < 2 ^ 31) (hb : j < 2 ^ 31) (K1 : i = j → GG E X k n tgt lv st ws) (K2 : i ≠ j → GG E X k n (pc + 3) lv st ws) : GG E X k n pc lv (.int (nI j) :: .int (nI i) :: st) ws :=
  g_icmp_eq F tgt d ht (fun h => K1 ((nI_eq ha hb).mp h)) (fun h => K2 (fun z => h ((nI_eq ha hb).mpr z)))
theorem g_icmp_ne_n (F : Fx E X cc own Ts rm L) {i j : Nat} {off : Int} (tgt : Nat) (d : decode cc pc = .ok (.if_icmp .ne off, 3)) (ht : (pc : Int) + off = (tgt : Int)) (ha : i < 2 ^ 31) (hb : j < 2 ^ 31) (K1 : i ≠ j → GG E X k n tgt lv st ws) (K2 : i = j → GG E X k n (pc + 3) lv st ws) : GG E X k n pc lv (.int (nI j) :: .int (nI i) :: st) ws :=
  g_icmp_ne F tgt d ht (fun h => K1 (fun z => h ((nI_eq ha hb).mpr z))) (fun h => K2 ((nI_eq ha hb).mp h))
theorem g_icmp_lt_n (F : Fx E X cc own Ts rm L) {i j : Nat} {off : Int} (tgt : Nat) (d : decode cc pc = .ok (.if_icmp .lt off, 3)) (ht : (pc : Int) + off = (tgt : Int)) (ha : i < 2 ^ 31) (hb : j < 2 ^ 31) (K1 : i < j → GG E X k n tgt lv st ws) (K2 : j ≤ i → GG E X k n (pc + 3) lv st ws) : GG E X k n pc lv (.int (nI j) :: .int (nI i) :: st) ws :=
  g_icmp_lt F tgt d ht (fun h => K1 ((nI_ltI ha hb).mp h)) (fun h => K2 (Nat.le_of_not_lt fun z => h ((nI_ltI ha hb).mpr z)))
theorem g_icmp_ge_n (F : Fx E X cc own Ts rm L) {i j : Nat} {off : Int} (tgt : Nat) (d : decode cc pc = .ok (.if_icmp .ge off, 3)) (ht : (pc : Int) + off = (tgt : Int)) (ha : i < 2 ^ 31) (hb : j < 2 ^ 31) (K1 : j ≤ i → GG E X k n tgt lv st ws) (K2 : i < j → GG E X k n (pc + 3) lv st ws) : GG E X k n pc lv (.int (nI j) :: .int (nI i) :: st) ws :=
  g_icmp_ge F tgt d ht (fun h => K1 ((nI_leI hb ha).mp h)) (fun h => K2 (Nat.lt_of_not_le fun z => h ((nI_leI hb ha).mpr z)))
theorem g_icmp_gt_n (F : Fx E X cc own Ts rm L) {i j : Nat} {off : Int} (tgt : Nat) (d : decode cc pc = .ok (.if_icmp .gt off, 3)) (ht : (pc : Int) + off = (tgt : Int)) (ha : i < 2 ^ 31) (hb : j < 2 ^ 31) (K1 : j < i → GG E X k n tgt lv st ws) (K2 : i ≤ j → GG E X k n (pc + 3) lv st ws) : GG E X k n pc lv (.int (nI j) :: .int (nI i) :: st) ws :=
  g_icmp_gt F tgt d ht (fun h => K1 ((nI_ltI hb ha).mp h)) (fun h => K2 (Nat.le_of_not_lt fun z => h ((nI_ltI hb ha).mpr z)))
theorem g_icmp_le_n (F : Fx E X cc own Ts rm L) {i j : Nat} {off : Int} (tgt : Nat) (d : decode cc pc = .ok (.if_icmp .le off, 3)) (ht : (pc : Int) + off = (tgt : Int)) (ha : i < 2 ^ 31) (hb : j < 2 ^ 31) (K1 : i ≤ j → GG E X k n tgt lv st ws) (K2 : j < i → GG E X k n (pc + 3) lv st ws) : GG E X k n pc lv (.int (nI j) :: .int (nI i) :: st) ws :=
  g_icmp_le F tgt d ht (fun h => K1 ((nI_leI ha hb).mp h)) (fun h => K2 (Nat.lt_of_not_le fun z => h ((nI_leI ha hb).mpr z)))
theorem g_if_eq_n (F : Fx E X cc own Ts rm L) {i : Nat} {off : Int} (tgt : Nat) (d : decode cc pc = .ok (.ifCond .eq off, 3)) (ht : (pc : Int) + off = (tgt : Int)) (ha : i < 2 ^ 31) (K1 : i = 0 → GG E X k n tgt lv st ws) (K2 : 0 < i → GG E X k n (pc + 3) lv st ws) : GG E X k n pc lv (.int (nI i) :: st) ws :=
  g_if_eq F tgt d ht (fun h => K1 ((nI_z ha).mp h)) (fun h => K2 (Nat.pos_of_ne_zero fun z => h ((nI_z ha).mpr z)))
theorem g_if_ne_n (F : Fx E X cc own Ts rm L) {i : Nat} {off : Int} (tgt : Nat) (d : decode cc pc = .ok (.ifCond .ne off, 3)) (ht : (pc : Int) + off = (tgt : Int)) (ha : i < 2 ^ 31) (K1 : 0 < i → GG E X k n tgt lv st ws) (K2 : i = 0 → GG E X k n (pc + 3) lv st ws) : GG E X k n pc lv (.int (nI i) :: st) ws :=
  g_if_ne F tgt d ht (fun h => K1 (Nat.pos_of_ne_zero fun z => h ((nI_z ha).mpr z))) (fun h => K2 ((nI_z ha).mp h))
theorem g_if_le_n (F : Fx E X cc own Ts rm L) {i : Nat} {off : Int} (tgt : Nat) (d : decode cc pc = .ok (.ifCond .le off, 3)) (ht : (pc : Int) + off = (tgt : Int)) (ha : i < 2 ^ 31) (K1 : i = 0 → GG E X k n tgt lv st ws) (K2 : 0 < i → GG E X k n (pc + 3) lv st ws) : GG E X k n pc lv (.int (nI i) :: st) ws :=
  g_if_le F tgt d ht (fun h => K1 ((nI_le0 ha).mp h)) (fun h => K2 (Nat.pos_of_ne_zero fun z => h ((nI_le0 ha).mpr z)))
theorem g_if_gt_n (F : Fx E X cc own Ts rm L) {i : Nat} {off : Int} (tgt : Nat) (d : decode cc pc = .ok (.ifCond .gt off, 3)) (ht : (pc : Int) + off = (tgt : Int)) (ha : i < 2 ^ 31) (K1 : 0 < i → GG E X k n tgt lv st ws) (K2 : i = 0 → GG E X k n (pc + 3) lv st ws) : GG E X k n pc lv (.int (nI i) :: st) ws :=
  g_if_gt F tgt d ht (fun h => K1 ((nI_gt0 ha).mp h)) (fun h => K2 (Nat.eq_zero_of_not_pos fun z => h ((nI_gt0 ha).mpr z)))
theorem g_icmp_eq_o (F : Fx E X cc own Ts rm L) {q : Option Nat} {off : Int} (tgt : Nat) (d : decode cc pc = .ok (.if_icmp .eq off, 3)) (ht : (pc : Int) + off = (tgt : Int)) (hc : ∀ k, q = some k → k < 2 ^ 31) (K1 : q = none → GG E X k n tgt lv st ws) (K2 : q ≠ none → GG E X k n (pc + 3) lv st ws) : GG E X k n pc lv (.int (oI none) :: .int (oI q) :: st) ws :=
  g_icmp_eq F tgt d ht (fun h => K1 ((oI_none hc).mp h)) (fun h => K2 (fun z => h ((oI_none hc).mpr z)))
theorem g_icmp_ne_o (F : Fx E X cc own Ts rm L) {q : Option Nat} {off : Int} (tgt : Nat) (d : decode cc pc = .ok (.if_icmp .ne off, 3)) (ht : (pc : Int) + off = (tgt : Int)) (hc : ∀ k, q = some k → k < 2 ^ 31) (K1 : q ≠ none → GG E X k n tgt lv st ws) (K2 : q = none → GG E X k n (pc + 3) lv st ws) : GG E X k n pc lv (.int (oI none) :: .int (oI q) :: st) ws :=
  g_icmp_ne F tgt d ht (fun h => K1 (fun z => h ((oI_none hc).mpr z))) (fun h => K2 ((oI_none hc).mp h))
theorem g_icmp_eq_on (F : Fx E X cc own Ts rm L) {q : Option Nat} {j : Nat} {off : Int} (tgt : Nat) (d : decode cc pc = .ok (.if_icmp .eq off, 3)) (ht : (pc : Int) + off = (tgt : Int)) (hc : ∀ k, q = some k → k < 2 ^ 31) (hb : j < 2 ^ 31) (K1 : q = some j → GG E X k n tgt lv st ws) (K2 : q ≠ some j → GG E X k n (pc + 3) lv st ws) : GG E X k n pc lv (.int (nI j) :: .int (oI q) :: st) ws :=
  g_icmp_eq F tgt d ht (fun h => K1 ((oI_some hc hb).mp h)) (fun h => K2 (fun z => h ((oI_some hc hb).mpr z)))
theorem g_icmp_ne_on (F : Fx E X cc own Ts rm L) {q : Option Nat} {j : Nat} {off : Int} (tgt : Nat) (d : decode cc pc = .ok (.if_icmp .ne off, 3)) (ht : (pc : Int) + off = (tgt : Int)) (hc : ∀ k, q = some k → k < 2 ^ 31) (hb : j < 2 ^ 31) (K1 : q ≠ some j → GG E X k n tgt lv st ws) (K2 : q = some j → GG E X k n (pc + 3) lv st ws) : GG E X k n pc lv (.int (nI j) :: .int (oI q) :: st) ws :=
  g_icmp_ne F tgt d ht (fun h => K1 (fun z => h ((oI_some hc hb).mpr z))) (fun h => K2 ((oI_some hc hb).mp h))
theorem g_if_lt_o (F : Fx E X cc own Ts rm L) {q : Option Nat} {off : Int} (tgt : Nat) (d : decode cc pc = .ok (.ifCond .lt off, 3)) (ht : (pc : Int) + off = (tgt : Int)) (hc : ∀ k, q = some k → k < 2 ^ 31) (K1 : q = none → GG E X k n tgt lv st ws) (K2 : q ≠ none → GG E X k n (pc + 3) lv st ws) : GG E X k n pc lv (.int (oI q) :: st) ws :=
  g_if_lt F tgt d ht (fun h => K1 ((oI_lt0 hc).mp h)) (fun h => K2 (fun z => h ((oI_lt0 hc).mpr z)))
theorem g_if_ge_o (F : Fx E X cc own Ts rm L) {q : Option Nat} {off : Int} (tgt : Nat) (d : decode cc pc = .ok (.ifCond .ge off, 3)) (ht : (pc : Int) + off = (tgt : Int)) (hc : ∀ k, q = some k → k < 2 ^ 31) (K1 : q ≠ none → GG E X k n tgt lv st ws) (K2 : q = none → GG E X k n (pc + 3) lv st ws) : GG E X k n pc lv (.int (oI q) :: st) ws :=
  g_if_ge F tgt d ht (fun h => K1 ((oI_ge0 hc).mp h)) (fun h => K2 (Decidable.byContradiction fun z => h ((oI_ge0 hc).mpr z)))
theorem g_lc_lt_n (F : Fx E X cc own Ts rm L) {i j : Nat} {off : Int} (tgt : Nat) (d1 : decode cc pc = .ok (.lcmp, 1)) (d2 : decode cc (pc + 1) = .ok (.ifCond .lt off, 3)) (ht : ((pc + 1 : Nat) : Int) + off = (tgt : Int)) (ha : i < 2 ^ 63) (hb : j < 2 ^ 63) (K1 : i < j → GG E X k n tgt lv st ws) (K2 : j ≤ i → GG E X k n (pc + 4) lv st ws) : GG E X k n pc lv (.long (lN j) :: .long (lN i) :: st) ws :=
  g_lc_lt F tgt d1 d2 ht (fun h => K1 ((pk_lLT ha hb).mp h)) (fun h => K2 (Nat.le_of_not_lt fun z => h ((pk_lLT ha hb).mpr z)))
theorem g_lc_ge_n (F : Fx E X cc own Ts rm L) {i j : Nat} {off : Int} (tgt : Nat) (d1 : decode cc pc = .ok (.lcmp, 1)) (d2 : decode cc (pc + 1) = .ok (.ifCond .ge off, 3)) (ht : ((pc + 1 : Nat) : Int) + off = (tgt : Int)) (ha : i < 2 ^ 63) (hb : j < 2 ^ 63) (K1 : j ≤ i → GG E X k n tgt lv st ws) (K2 : i < j → GG E X k n (pc + 4) lv st ws) : GG E X k n pc lv (.long (lN j) :: .long (lN i) :: st) ws :=
  g_lc_ge F tgt d1 d2 ht (fun h => K1 ((pk_lLE hb ha).mp h)) (fun h => K2 (Nat.lt_of_not_le fun z => h ((pk_lLE hb ha).mpr z)))
theorem g_lc_gt_n (F : Fx E X cc own Ts rm L) {i j : Nat} {off : Int} (tgt : Nat) (d1 : decode cc pc = .ok (.lcmp, 1)) (d2 : decode cc (pc + 1) = .ok (.ifCond .gt off, 3)) (ht : ((pc + 1 : Nat) : Int) + off = (tgt : Int)) (ha : i < 2 ^ 63) (hb : j < 2 ^ 63) (K1 : j < i → GG E X k n tgt lv st ws) (K2 : i ≤ j → GG E X k n (pc + 4) lv st ws) : GG E X k n pc lv (.long (lN j) :: .long (lN i) :: st) ws :=
  g_lc_gt F tgt d1 d2 ht (fun h => K1 ((pk_lLT hb ha).mp h)) (fun h => K2 (Nat.le_of_not_lt fun z => h ((pk_lLT hb ha).mpr z)))
theorem g_lc_le_n (F : Fx E X cc own Ts rm L) {i j : Nat} {off : Int} (tgt : Nat) (d1 : decode cc pc = .ok (.lcmp, 1)) (d2 : decode cc (pc + 1) = .ok (.ifCond .le off, 3)) (ht : ((pc + 1 : Nat) : Int) + off = (tgt : Int)) (ha : i < 2 ^ 63) (hb : j < 2 ^ 63) (K1 : i ≤ j → GG E X k n tgt lv st ws) (K2 : j < i → GG E X k n (pc + 4) lv st ws) : GG E X k n pc lv (.long (lN j) :: .long (lN i) :: st) ws :=
  g_lc_le F tgt d1 d2 ht (fun h => K1 ((pk_lLE ha hb).mp h)) (fun h => K2 (Nat.lt_of_not_le fun z => h ((pk_lLE ha hb).mpr z)))
theorem g_lc_eq_n (F : Fx E X cc own Ts rm L) {i j : Nat} {off : Int} (tgt : Nat) (d1 : decode cc pc = .ok (.lcmp, 1)) (d2 : decode cc (pc + 1) = .ok (.ifCond .eq off, 3)) (ht : ((pc + 1 : Nat) : Int) + off = (tgt : Int)) (ha : i < 2 ^ 63) (hb : j < 2 ^ 63) (K1 : i = j → GG E X k n tgt lv st ws) (K2 : i ≠ j → GG E X k n (pc + 4) lv st ws) : GG E X k n pc lv (.long (lN j) :: .long (lN i) :: st) ws :=
  g_lc_eq F tgt d1 d2 ht (fun h => K1 ((pk_lEQ ha hb).mp h)) (fun h => K2 (fun z => h ((pk_lEQ ha hb).mpr z)))
theorem g_lc_ne_n (F : Fx E X cc own Ts rm L) {i j : Nat} {off : Int} (tgt : Nat) (d1 : decode cc pc = .ok (.lcmp, 1)) (d2 : decode cc (pc + 1) = .ok (.ifCond .ne off, 3)) (ht : ((pc + 1 : Nat) : Int) + off = (tgt : Int)) (ha : i < 2 ^ 63) (hb : j < 2 ^ 63) (K1 : i ≠ j → GG E X k n tgt lv st ws) (K2 : i = j → GG E X k n (pc + 4) lv st ws) : GG E X k n pc lv (.long (lN j) :: .long (lN i) :: st) ws :=
  g_lc_ne F tgt d1 d2 ht (fun h => K1 (fun z => h ((pk_lEQ ha hb).mpr z))) (fun h => K2 ((pk_lEQ ha hb).mp h))
theorem g_lc_lt_o (F : Fx E X cc own Ts rm L) {q : Option Nat} {off : Int} (tgt : Nat) (d1 : decode cc pc = .ok (.lcmp, 1)) (d2 : decode cc (pc + 1) = .ok (.ifCond .lt off, 3)) (ht : ((pc + 1 : Nat) : Int) + off = (tgt : Int)) (hc : ∀ k, q = some k → k < 2 ^ 63) (K1 : q = none → GG E X k n tgt lv st ws) (K2 : q ≠ none → GG E X k n (pc + 4) lv st ws) : GG E X k n pc lv (.long (lN 0) :: .long (oL q) :: st) ws :=
  g_lc_lt F tgt d1 d2 ht (fun h => K1 ((oL_lt0 hc).mp h)) (fun h => K2 (fun z => h ((oL_lt0 hc).mpr z)))
theorem g_lc_ge_o (F : Fx E X cc own Ts rm L) {q : Option Nat} {off : Int} (tgt : Nat) (d1 : decode cc pc = .ok (.lcmp, 1)) (d2 : decode cc (pc + 1) = .ok (.ifCond .ge off, 3)) (ht : ((pc + 1 : Nat) : Int) + off = (tgt : Int)) (hc : ∀ k, q = some k → k < 2 ^ 63) (K1 : q ≠ none → GG E X k n tgt lv st ws) (K2 : q = none → GG E X k n (pc + 4) lv st ws) : GG E X k n pc lv (.long (lN 0) :: .long (oL q) :: st) ws :=
  g_lc_ge F tgt d1 d2 ht (fun h => K1 ((oL_ge0 hc).mp h)) (fun h => K2 (Decidable.byContradiction fun z => h ((oL_ge0 hc).mpr z)))
theorem g_iadd_n (F : Fx E X cc own Ts rm L) {i j : Nat} (d : decode cc pc = .ok (.iadd, 1)) (K : GG E X k n (pc + 1) lv (.int (nI (i + j)) :: st) ws) : GG E X k n pc lv (.int (nI j) :: .int (nI i) :: st) ws := g_iadd F d (by rw [nI_add]; exact K)
theorem g_isub_n (F : Fx E X cc own Ts rm L) {i j : Nat} (d : decode cc pc = .ok (.isub, 1)) (h : j ≤ i) (K : GG E X k n (pc + 1) lv (.int (nI (i - j)) :: st) ws) : GG E X k n pc lv (.int (nI j) :: .int (nI i) :: st) ws := g_isub F d (by rw [pk_sub h]; exact K)
theorem g_ladd_n (F : Fx E X cc own Ts rm L) {i j : Nat} (d : decode cc pc = .ok (.ladd, 1)) (K : GG E X k n (pc + 1) lv (.long (lN (i + j)) :: st) ws) : GG E X k n pc lv (.long (lN j) :: .long (lN i) :: st) ws := g_ladd F d (by rw [lN_add]; exact K)
theorem g_lmul_n (F : Fx E X cc own Ts rm L) {i j : Nat} (d : decode cc pc = .ok (.lmul, 1)) (K : GG E X k n (pc + 1) lv (.long (lN (i * j)) :: st) ws) : GG E X k n pc lv (.long (lN j) :: .long (lN i) :: st) ws := g_lmul F d (by rw [lN_mul]; exact K)
/-- the number on top is written otherwise -/
theorem g_topi {x y : Int32} (h : x = y) (K : GG E X k n pc lv (.int y :: st) ws) : GG E X k n pc lv (.int x :: st) ws := by rw [h]; exact K
theorem g_topl {x y : Int64} (h : x = y) (K : GG E X k n pc lv (.long y :: st) ws) : GG E X k n pc lv (.long x :: st) ws := by rw [h]; exact K
end GR2
abbrev RM (f lo : Nat) : Room := { frames := f, cells := 0, slots := 0, locals := lo }
/-- the words of a call -/
def cwd (own : String) (i : Nat) (C : String) (y : MethodName) (b : ByteArray) (L2 : Nat) (r : Option FieldType) : Prop := Cond.methodLink own i y ∈ wsL_law ∧ Cond.instanceMethod y ∈ wsL_law ∧ Cond.selects C y y ∈ wsL_law ∧ Cond.initialized C ∈ wsL_law ∧ Cond.code y b L2 r ∈ wsL_law ∧ y.cls = C ∧ y.cls ≠ "java/lang/invoke/MethodHandle" ∧ y.cls ≠ "java/lang/invoke/VarHandle"
def cwdS (own : String) (i : Nat) (y : MethodName) (b : ByteArray) (L2 : Nat) (r : Option FieldType) : Prop := Cond.methodLink own i y ∈ wsL_law ∧ Cond.static y ∈ wsL_law ∧ Cond.initialized own ∈ wsL_law ∧ Cond.code y b L2 r ∈ wsL_law ∧ y.cls = own ∧ y.cls ≠ "java/lang/invoke/MethodHandle" ∧ y.cls ≠ "java/lang/invoke/VarHandle"
def rmOk (rm2 rm : Room) (L2 : Nat) : Prop := rm2.frames + 1 ≤ rm.frames ∧ 8 + (L2 + 11) + rm2.locals ≤ rm.locals ∧ rm2.cells = 0 ∧ rm2.slots = 0
section GC2
variable {l : Launch} {D : va_G} {X : Cx} {k n pc L : Nat} {lv : List (Nat × Value)} {cc0 : ByteArray} {c0 : Cond} {rm : Room} {t : Ty3} {own : String}
theorem c_VI (F : Fx (EE l D t) X cc0 own (c0 :: wsL_law) rm L) {y : MethodName} {b : ByteArray} {L2 i : Nat} {rt : Option FieldType} {rm2 : Room} {b0 : Nat} {As st : List Value} (rest : List Value) {wr w0 : va_W} {post : Int32 → va_W → Prop} {C : String} {T : u_T} {N ci : Nat} {fs : List Value} (hM : CtI (EE l D t) y (.code y b L2 rt :: wsL_law) rm2 (.ref b0 :: As) w0 0 0 post) (cw : cwd own i C y b L2 rt) (ho : rmOk rm2 rm L2) (he : w0[0]? = some (b0, .inr (ci, fs))) (hc : vwCl[ci]? = some (C, T, N)) (hp : (parseMethodDescriptor y.desc).map (fun d => d.parameters.length) = some As.length) (hst : st = As.reverse ++ .ref b0 :: rest) (hroom : (rest.map fun v => v.category).sum ≤ 8) (hk : k ≤ rm.cells ∧ n ≤ rm.slots) (d : decode cc0 pc = .ok (.invokevirtual i, 3)) (K : ∀ (r : Int32) (u : va_W), post r u → GG (EE l D t) X k n (pc + 3) lv (.int r :: rest) (wr ++ u)) : GG (EE l D t) X k n pc lv st (wr ++ w0) :=
  g_callVI F hM (C := C) (bytes := b) (maxL := L2) (ret := rt) ⟨mkGood cw.1 cw.2.1 cw.2.2.1 cw.2.2.2.1 cw.2.2.2.2.1, ⟨_, rfl⟩, ⟨cw.2.2.2.2.2.1, cw.2.2.2.2.2.2.1, cw.2.2.2.2.2.2.2, hp⟩, ho.1, ho.2.1⟩ 0 he hc hst hroom ho.2.2 hk d K
theorem c_SI (F : Fx (EE l D t) X cc0 own (c0 :: wsL_law) rm L) {y : MethodName} {b : ByteArray} {L2 i : Nat} {rt : Option FieldType} {rm2 : Room} {As st : List Value} (rest : List Value) {wr w0 : va_W} {post : Int32 → va_W → Prop} (hM : CtI (EE l D t) y (.code y b L2 rt :: wsL_law) rm2 As w0 0 0 post) (cw : cwdS own i y b L2 rt) (ho : rmOk rm2 rm L2) (hp : (parseMethodDescriptor y.desc).map (fun d => d.parameters.length) = some As.length) (hst : st = As.reverse ++ rest) (hroom : (rest.map fun v => v.category).sum ≤ 8) (hk : k ≤ rm.cells ∧ n ≤ rm.slots) (d : decode cc0 pc = .ok (.invokestatic i, 3)) (K : ∀ (r : Int32) (u : va_W), post r u → GG (EE l D t) X k n (pc + 3) lv (.int r :: rest) (wr ++ u)) : GG (EE l D t) X k n pc lv st (wr ++ w0) :=
  g_callSI F hM (bytes := b) (maxL := L2) (ret := rt) ⟨mkGoodS cw.1 cw.2.1 cw.2.2.1 cw.2.2.2.1, ⟨_, rfl⟩, ⟨cw.2.2.2.2.1, cw.2.2.2.2.2.1, cw.2.2.2.2.2.2, hp⟩, ho.1, ho.2.1⟩ hst hroom ho.2.2 hk d K
theorem c_VL (F : Fx (EE l D t) X cc0 own (c0 :: wsL_law) rm L) {y : MethodName} {b : ByteArray} {L2 i : Nat} {rt : Option FieldType} {rm2 : Room} {b0 : Nat} {As st : List Value} (rest : List Value) {wr w0 : va_W} {post : Int64 → va_W → Prop} {C : String} {T : u_T} {N ci : Nat} {fs : List Value} (hM : CtL (EE l D t) y (.code y b L2 rt :: wsL_law) rm2 (.ref b0 :: As) w0 0 0 post) (cw : cwd own i C y b L2 rt) (ho : rmOk rm2 rm L2) (he : w0[0]? = some (b0, .inr (ci, fs))) (hc : vwCl[ci]? = some (C, T, N)) (hp : (parseMethodDescriptor y.desc).map (fun d => d.parameters.length) = some As.length) (hst : st = As.reverse ++ .ref b0 :: rest) (hroom : (rest.map fun v => v.category).sum ≤ 8) (hk : k ≤ rm.cells ∧ n ≤ rm.slots) (d : decode cc0 pc = .ok (.invokevirtual i, 3)) (K : ∀ (r : Int64) (u : va_W), post r u → GG (EE l D t) X k n (pc + 3) lv (.long r :: rest) (wr ++ u)) : GG (EE l D t) X k n pc lv st (wr ++ w0) :=
  g_callVL F hM (C := C) (bytes := b) (maxL := L2) (ret := rt) ⟨mkGood cw.1 cw.2.1 cw.2.2.1 cw.2.2.2.1 cw.2.2.2.2.1, ⟨_, rfl⟩, ⟨cw.2.2.2.2.2.1, cw.2.2.2.2.2.2.1, cw.2.2.2.2.2.2.2, hp⟩, ho.1, ho.2.1⟩ 0 he hc hst hroom ho.2.2 hk d K
theorem c_SL (F : Fx (EE l D t) X cc0 own (c0 :: wsL_law) rm L) {y : MethodName} {b : ByteArray} {L2 i : Nat} {rt : Option FieldType} {rm2 : Room} {As st : List Value} (rest : List Value) {wr w0 : va_W} {post : Int64 → va_W → Prop} (hM : CtL (EE l D t) y (.code y b L2 rt :: wsL_law) rm2 As w0 0 0 post) (cw : cwdS own i y b L2 rt) (ho : rmOk rm2 rm L2) (hp : (parseMethodDescriptor y.desc).map (fun d => d.parameters.length) = some As.length) (hst : st = As.reverse ++ rest) (hroom : (rest.map fun v => v.category).sum ≤ 8) (hk : k ≤ rm.cells ∧ n ≤ rm.slots) (d : decode cc0 pc = .ok (.invokestatic i, 3)) (K : ∀ (r : Int64) (u : va_W), post r u → GG (EE l D t) X k n (pc + 3) lv (.long r :: rest) (wr ++ u)) : GG (EE l D t) X k n pc lv st (wr ++ w0) :=
  g_callSL F hM (bytes := b) (maxL := L2) (ret := rt) ⟨mkGoodS cw.1 cw.2.1 cw.2.2.1 cw.2.2.2.1, ⟨_, rfl⟩, ⟨cw.2.2.2.2.1, cw.2.2.2.2.2.1, cw.2.2.2.2.2.2, hp⟩, ho.1, ho.2.1⟩ hst hroom ho.2.2 hk d K
theorem c_VV (F : Fx (EE l D t) X cc0 own (c0 :: wsL_law) rm L) {y : MethodName} {b : ByteArray} {L2 i : Nat} {rt : Option FieldType} {rm2 : Room} {b0 : Nat} {As st : List Value} (rest : List Value) {wr w0 : va_W} {post : va_W → Prop} {C : String} {T : u_T} {N ci : Nat} {fs : List Value} (hM : CtV (EE l D t) y (.code y b L2 rt :: wsL_law) rm2 (.ref b0 :: As) w0 0 0 post) (cw : cwd own i C y b L2 rt) (ho : rmOk rm2 rm L2) (he : w0[0]? = some (b0, .inr (ci, fs))) (hc : vwCl[ci]? = some (C, T, N)) (hp : (parseMethodDescriptor y.desc).map (fun d => d.parameters.length) = some As.length) (hst : st = As.reverse ++ .ref b0 :: rest) (hroom : (rest.map fun v => v.category).sum ≤ 8) (hk : k ≤ rm.cells ∧ n ≤ rm.slots) (d : decode cc0 pc = .ok (.invokevirtual i, 3)) (K : ∀ (u : va_W), post u → GG (EE l D t) X k n (pc + 3) lv (rest) (wr ++ u)) : GG (EE l D t) X k n pc lv st (wr ++ w0) :=
  g_callVV F hM (C := C) (bytes := b) (maxL := L2) (ret := rt) ⟨mkGood cw.1 cw.2.1 cw.2.2.1 cw.2.2.2.1 cw.2.2.2.2.1, ⟨_, rfl⟩, ⟨cw.2.2.2.2.2.1, cw.2.2.2.2.2.2.1, cw.2.2.2.2.2.2.2, hp⟩, ho.1, ho.2.1⟩ 0 he hc hst hroom ho.2.2 hk d K
theorem c_SV (F : Fx (EE l D t) X cc0 own (c0 :: wsL_law) rm L) {y : MethodName} {b : ByteArray} {L2 i : Nat} {rt : Option FieldType} {rm2 : Room} {As st : List Value} (rest : List Value) {wr w0 : va_W} {post : va_W → Prop} (hM : CtV (EE l D t) y (.code y b L2 rt :: wsL_law) rm2 As w0 0 0 post) (cw : cwdS own i y b L2 rt) (ho : rmOk rm2 rm L2) (hp : (parseMethodDescriptor y.desc).map (fun d => d.parameters.length) = some As.length) (hst : st = As.reverse ++ rest) (hroom : (rest.map fun v => v.category).sum ≤ 8) (hk : k ≤ rm.cells ∧ n ≤ rm.slots) (d : decode cc0 pc = .ok (.invokestatic i, 3)) (K : ∀ (u : va_W), post u → GG (EE l D t) X k n (pc + 3) lv (rest) (wr ++ u)) : GG (EE l D t) X k n pc lv st (wr ++ w0) :=
  g_callSV F hM (bytes := b) (maxL := L2) (ret := rt) ⟨mkGoodS cw.1 cw.2.1 cw.2.2.1 cw.2.2.2.1, ⟨_, rfl⟩, ⟨cw.2.2.2.2.1, cw.2.2.2.2.2.1, cw.2.2.2.2.2.2, hp⟩, ho.1, ho.2.1⟩ hst hroom ho.2.2 hk d K
end GC2
theorem mM_absl {c0 : Cond} : ∀ w ∈ wM RX0 154 Lib.MathLoose.abs_long.x Lib.MathLoose.abs_long.code 2 .long, w ∈ c0 :: wsL_law := fun w h => List.mem_cons_of_mem _ (by
  simp only [wM, List.mem_cons, List.not_mem_nil, or_false] at h
  rcases h with rfl | rfl | rfl | rfl
  · exact mw7_4
  · exact mw7_5
  · exact mw7_6
  · exact mw7_7)
theorem mM_maxl {c0 : Cond} : ∀ w ∈ wM RX0 160 Lib.MathLoose.max_long.x Lib.MathLoose.max_long.code 4 .long, w ∈ c0 :: wsL_law := fun w h => List.mem_cons_of_mem _ (by
  simp only [wM, List.mem_cons, List.not_mem_nil, or_false] at h
  rcases h with rfl | rfl | rfl | rfl
  · exact mw7_8
  · exact mw7_9
  · exact mw7_6
  · exact mw7_10)
theorem mM_minl {c0 : Cond} : ∀ w ∈ wM RX0 207 Lib.MathLoose.min_long.x Lib.MathLoose.min_long.code 4 .long, w ∈ c0 :: wsL_law := fun w h => List.mem_cons_of_mem _ (by
  simp only [wM, List.mem_cons, List.not_mem_nil, or_false] at h
  rcases h with rfl | rfl | rfl | rfl
  · exact mw15_16
  · exact mw15_17
  · exact mw7_6
  · exact mw15_18)
theorem mM_mini {c0 : Cond} : ∀ w ∈ wM RX0 183 Lib.Math.min.name Lib.Math.min.code 2 .int, w ∈ c0 :: wsL_law := fun w h => List.mem_cons_of_mem _ (by
  simp only [wM, List.mem_cons, List.not_mem_nil, or_false] at h
  rcases h with rfl | rfl | rfl | rfl
  · exact mw12_13
  · exact mw12_14
  · exact mw7_6
  · exact mw12_15)
theorem mM_maxi {c0 : Cond} : ∀ w ∈ wM RX0 187 Lib.Math.max.name Lib.Math.max.code 2 .int, w ∈ c0 :: wsL_law := fun w h => List.mem_cons_of_mem _ (by
  simp only [wM, List.mem_cons, List.not_mem_nil, or_false] at h
  rcases h with rfl | rfl | rfl | rfl
  · exact mw12_20
  · exact mw12_21
  · exact mw7_6
  · exact mw12_22)
theorem cwL_X0_point : cwd RL 13 RX0 yX0_point cX0_point 5 (some .int) := ⟨mw2_23, mw3_0, mw3_1, mw1_2, mw3_2, rfl, by decide +kernel, by decide +kernel⟩
theorem cwX0_X0_isPlace : cwdS RX0 66 yX0_isPlace cX0_isPlace 2 (some .boolean) := ⟨mw3_3, mw3_4, mw1_2, mw3_5, rfl, by decide +kernel, by decide +kernel⟩
theorem cwX0_X0_leastFree : cwd RX0 70 RX0 yX0_leastFree cX0_leastFree 2 (some .int) := ⟨mw3_8, mw3_9, mw3_10, mw1_2, mw3_11, rfl, by decide +kernel, by decide +kernel⟩
theorem cwX0_X0_put : cwd RX0 74 RX0 yX0_put cX0_put 4 none := ⟨mw3_12, mw3_13, mw3_14, mw1_2, mw3_15, rfl, by decide +kernel, by decide +kernel⟩
theorem cwX0_X0_forget : cwd RX0 82 RX0 yX0_forget cX0_forget 1 none := ⟨mw3_16, mw3_17, mw3_18, mw1_2, mw3_19, rfl, by decide +kernel, by decide +kernel⟩
theorem cwL_X1_point : cwd RL 17 RX1 yX1_point cX1_point 5 (some .int) := ⟨mw3_20, mw3_21, mw3_22, mw1_5, mw3_23, rfl, by decide +kernel, by decide +kernel⟩
theorem cwX1_X1_isPlace : cwdS RX1 45 yX1_isPlace cX1_isPlace 2 (some .boolean) := ⟨mw4_0, mw4_1, mw1_5, mw4_2, rfl, by decide +kernel, by decide +kernel⟩
theorem cwL_X0_remove : cwd RL 18 RX0 yX0_remove cX0_remove 2 (some .int) := ⟨mw4_5, mw4_6, mw4_7, mw1_2, mw4_8, rfl, by decide +kernel, by decide +kernel⟩
theorem cwX0_X0_isPoint : cwd RX0 78 RX0 yX0_isPoint cX0_isPoint 2 (some .boolean) := ⟨mw4_9, mw4_10, mw4_11, mw1_2, mw4_12, rfl, by decide +kernel, by decide +kernel⟩
theorem cwX0_X0_countPoints : cwd RX0 85 RX0 yX0_countPoints cX0_countPoints 3 (some .int) := ⟨mw4_13, mw4_14, mw4_15, mw1_2, mw4_16, rfl, by decide +kernel, by decide +kernel⟩
theorem cwL_X1_remove : cwd RL 22 RX1 yX1_remove cX1_remove 2 (some .int) := ⟨mw4_17, mw4_18, mw4_19, mw1_5, mw4_20, rfl, by decide +kernel, by decide +kernel⟩
theorem cwX1_X1_isPoint : cwd RX1 49 RX1 yX1_isPoint cX1_isPoint 2 (some .boolean) := ⟨mw4_21, mw4_22, mw4_23, mw1_5, mw5_0, rfl, by decide +kernel, by decide +kernel⟩
theorem cwX1_X1_points : cwd RX1 53 RX1 yX1_points cX1_points 3 (some .int) := ⟨mw5_1, mw5_2, mw5_3, mw1_5, mw5_4, rfl, by decide +kernel, by decide +kernel⟩
theorem cwL_X0_move : cwd RL 23 RX0 yX0_move cX0_move 4 (some .int) := ⟨mw5_5, mw5_6, mw5_7, mw1_2, mw5_8, rfl, by decide +kernel, by decide +kernel⟩
theorem cwL_X1_move : cwd RL 26 RX1 yX1_move cX1_move 4 (some .int) := ⟨mw5_9, mw5_10, mw5_11, mw1_5, mw5_12, rfl, by decide +kernel, by decide +kernel⟩
theorem cwL_X0_way : cwd RL 27 RX0 yX0_way cX0_way 2 (some .int) := ⟨mw5_13, mw5_14, mw5_15, mw1_2, mw5_16, rfl, by decide +kernel, by decide +kernel⟩
theorem cwL_X1_way : cwd RL 30 RX1 yX1_way cX1_way 2 (some .int) := ⟨mw5_17, mw5_18, mw5_19, mw1_5, mw5_20, rfl, by decide +kernel, by decide +kernel⟩
theorem cwL_X0_reach : cwd RL 33 RX0 yX0_reach cX0_reach 3 (some .int) := ⟨mw5_22, mw5_23, mw6_0, mw1_2, mw6_1, rfl, by decide +kernel, by decide +kernel⟩
theorem cwL_X1_reach : cwd RL 37 RX1 yX1_reach cX1_reach 3 (some .int) := ⟨mw6_2, mw6_3, mw6_4, mw1_5, mw6_5, rfl, by decide +kernel, by decide +kernel⟩
theorem cwL_X0_demand : cwd RL 38 RX0 yX0_demand cX0_demand 2 (some .int) := ⟨mw6_7, mw6_8, mw6_9, mw1_2, mw6_10, rfl, by decide +kernel, by decide +kernel⟩
theorem cwL_X1_demand : cwd RL 41 RX1 yX1_demand cX1_demand 2 (some .int) := ⟨mw6_11, mw6_12, mw6_13, mw1_5, mw6_14, rfl, by decide +kernel, by decide +kernel⟩
theorem cwL_X0_distance : cwd RL 42 RX0 yX0_distance cX0_distance 3 (some .long) := ⟨mw6_15, mw6_16, mw6_17, mw1_2, mw6_18, rfl, by decide +kernel, by decide +kernel⟩
theorem cwX0_X0_gapBetween : cwd RX0 90 RX0 yX0_gapBetween cX0_gapBetween 3 (some .long) := ⟨mw6_20, mw6_21, mw6_22, mw1_2, mw6_23, rfl, by decide +kernel, by decide +kernel⟩
theorem cwX0_X0_gapTo : cwd RX0 150 RX0 yX0_gapTo cX0_gapTo 8 (some .long) := ⟨mw7_0, mw7_1, mw7_2, mw1_2, mw7_3, rfl, by decide +kernel, by decide +kernel⟩
theorem cwL_X1_distance : cwd RL 46 RX1 yX1_distance cX1_distance 3 (some .long) := ⟨mw7_11, mw7_12, mw7_13, mw1_5, mw7_14, rfl, by decide +kernel, by decide +kernel⟩
theorem cwX1_X1_far : cwd RX1 64 RX1 yX1_far cX1_far 10 (some .long) := ⟨mw7_16, mw7_17, mw7_18, mw1_5, mw7_19, rfl, by decide +kernel, by decide +kernel⟩
theorem cwL_X0_kind : cwd RL 47 RX0 yX0_kind cX0_kind 2 (some .int) := ⟨mw7_20, mw7_21, mw7_22, mw1_2, mw7_23, rfl, by decide +kernel, by decide +kernel⟩
theorem cwX0_X0_sortWith : cwd RX0 94 RX0 yX0_sortWith cX0_sortWith 3 none := ⟨mw8_0, mw8_1, mw8_2, mw1_2, mw8_3, rfl, by decide +kernel, by decide +kernel⟩
theorem cwX0_X0_markCores : cwd RX0 164 RX0 yX0_markCores cX0_markCores 4 none := ⟨mw8_4, mw8_5, mw8_6, mw1_2, mw8_7, rfl, by decide +kernel, by decide +kernel⟩
theorem cwX0_X0_weightWithin : cwd RX0 102 RX0 yX0_weightWithin cX0_weightWithin 6 (some .int) := ⟨mw8_8, mw8_9, mw8_10, mw1_2, mw8_11, rfl, by decide +kernel, by decide +kernel⟩
theorem cwX0_X0_gatherCrowds : cwd RX0 167 RX0 yX0_gatherCrowds cX0_gatherCrowds 4 none := ⟨mw8_12, mw8_13, mw8_14, mw1_2, mw8_15, rfl, by decide +kernel, by decide +kernel⟩
theorem cwX0_X0_gatherFrom : cwd RX0 173 RX0 yX0_gatherFrom cX0_gatherFrom 6 none := ⟨mw8_16, mw8_17, mw8_18, mw1_2, mw8_19, rfl, by decide +kernel, by decide +kernel⟩
theorem cwX0_X0_leastUnsettledCore : cwd RX0 177 RX0 yX0_leastUnsettledCore cX0_leastUnsettledCore 2 (some .int) := ⟨mw8_20, mw8_21, mw8_22, mw1_2, mw8_23, rfl, by decide +kernel, by decide +kernel⟩
theorem cwX0_X0_gatherCoresNear : cwd RX0 180 RX0 yX0_gatherCoresNear cX0_gatherCoresNear 5 none := ⟨mw9_0, mw9_1, mw9_2, mw1_2, mw9_3, rfl, by decide +kernel, by decide +kernel⟩
theorem cwX0_X0_joinBorders : cwd RX0 170 RX0 yX0_joinBorders cX0_joinBorders 4 none := ⟨mw9_4, mw9_5, mw9_6, mw1_2, mw9_7, rfl, by decide +kernel, by decide +kernel⟩
theorem cwX0_X0_leastCrowdAt : cwd RX0 141 RX0 yX0_leastCrowdAt cX0_leastCrowdAt 7 (some .int) := ⟨mw9_8, mw9_9, mw9_10, mw1_2, mw9_11, rfl, by decide +kernel, by decide +kernel⟩
theorem cwX0_X0_kindOf : cwd RX0 98 RX0 yX0_kindOf cX0_kindOf 2 (some .int) := ⟨mw9_12, mw9_13, mw9_14, mw1_2, mw9_15, rfl, by decide +kernel, by decide +kernel⟩
theorem cwL_X1_kind : cwd RL 50 RX1 yX1_kind cX1_kind 2 (some .int) := ⟨mw9_16, mw9_17, mw9_18, mw1_5, mw9_19, rfl, by decide +kernel, by decide +kernel⟩
theorem cwX1_X1_find : cwd RX1 85 RX1 yX1_find cX1_find 6 none := ⟨mw9_20, mw9_21, mw9_22, mw1_5, mw9_23, rfl, by decide +kernel, by decide +kernel⟩
theorem cwX1_X1_weightWithin : cwd RX1 73 RX1 yX1_weightWithin cX1_weightWithin 6 (some .int) := ⟨mw10_1, mw10_2, mw10_3, mw1_5, mw10_4, rfl, by decide +kernel, by decide +kernel⟩
theorem cwX1_X1_spread : cwd RX1 77 RX1 yX1_spread cX1_spread 6 (some .boolean) := ⟨mw10_5, mw10_6, mw10_7, mw1_5, mw10_8, rfl, by decide +kernel, by decide +kernel⟩
theorem cwX1_X1_least : cwd RX1 81 RX1 yX1_least cX1_least 7 (some .int) := ⟨mw10_9, mw10_10, mw10_11, mw1_5, mw10_12, rfl, by decide +kernel, by decide +kernel⟩
theorem cwL_X0_crowd : cwd RL 51 RX0 yX0_crowd cX0_crowd 2 (some .int) := ⟨mw10_13, mw10_14, mw10_15, mw1_2, mw10_16, rfl, by decide +kernel, by decide +kernel⟩
theorem cwL_X1_crowd : cwd RL 54 RX1 yX1_crowd cX1_crowd 2 (some .int) := ⟨mw10_17, mw10_18, mw10_19, mw1_5, mw10_20, rfl, by decide +kernel, by decide +kernel⟩
theorem cwL_X0_count : cwd RL 55 RX0 yX0_count cX0_count 2 (some .int) := ⟨mw10_21, mw10_22, mw10_23, mw1_2, mw11_0, rfl, by decide +kernel, by decide +kernel⟩
theorem cwX0_X0_countKind : cwd RX0 119 RX0 yX0_countKind cX0_countKind 4 (some .int) := ⟨mw11_1, mw11_2, mw11_3, mw1_2, mw11_4, rfl, by decide +kernel, by decide +kernel⟩
theorem cwX0_X0_countWeights : cwd RX0 110 RX0 yX0_countWeights cX0_countWeights 3 (some .int) := ⟨mw11_5, mw11_6, mw11_7, mw1_2, mw11_8, rfl, by decide +kernel, by decide +kernel⟩
theorem cwL_X1_count : cwd RL 58 RX1 yX1_count cX1_count 6 (some .int) := ⟨mw11_9, mw11_10, mw11_11, mw1_5, mw11_12, rfl, by decide +kernel, by decide +kernel⟩
theorem cwL_X0_about : cwd RL 59 RX0 yX0_about cX0_about 3 (some .int) := ⟨mw11_13, mw11_14, mw11_15, mw1_2, mw11_16, rfl, by decide +kernel, by decide +kernel⟩
theorem cwX0_X0_pointsOf : cwd RX0 122 RX0 yX0_pointsOf cX0_pointsOf 4 (some .int) := ⟨mw11_17, mw11_18, mw11_19, mw1_2, mw11_20, rfl, by decide +kernel, by decide +kernel⟩
theorem cwX0_X0_coresOf : cwd RX0 125 RX0 yX0_coresOf cX0_coresOf 4 (some .int) := ⟨mw11_21, mw11_22, mw11_23, mw1_2, mw12_0, rfl, by decide +kernel, by decide +kernel⟩
theorem cwX0_X0_weightsOf : cwd RX0 128 RX0 yX0_weightsOf cX0_weightsOf 4 (some .int) := ⟨mw12_1, mw12_2, mw12_3, mw1_2, mw12_4, rfl, by decide +kernel, by decide +kernel⟩
theorem cwX0_X0_leastCoreOf : cwd RX0 131 RX0 yX0_leastCoreOf cX0_leastCoreOf 3 (some .int) := ⟨mw12_5, mw12_6, mw12_7, mw1_2, mw12_8, rfl, by decide +kernel, by decide +kernel⟩
theorem cwX0_X0_leastOf : cwd RX0 134 RX0 yX0_leastOf cX0_leastOf 5 (some .int) := ⟨mw12_9, mw12_10, mw12_11, mw1_2, mw12_12, rfl, by decide +kernel, by decide +kernel⟩
theorem cwX0_X0_greatestOf : cwd RX0 138 RX0 yX0_greatestOf cX0_greatestOf 5 (some .int) := ⟨mw12_16, mw12_17, mw12_18, mw1_2, mw12_19, rfl, by decide +kernel, by decide +kernel⟩
theorem cwL_X1_about : cwd RL 63 RX1 yX1_about cX1_about 12 (some .int) := ⟨mw12_23, mw13_0, mw13_1, mw1_5, mw13_2, rfl, by decide +kernel, by decide +kernel⟩
theorem cwL_X0_around : cwd RL 64 RX0 yX0_around cX0_around 2 (some .int) := ⟨mw13_3, mw13_4, mw13_5, mw1_2, mw13_6, rfl, by decide +kernel, by decide +kernel⟩
theorem cwL_X1_around : cwd RL 67 RX1 yX1_around cX1_around 2 (some .int) := ⟨mw13_7, mw13_8, mw13_9, mw1_5, mw13_10, rfl, by decide +kernel, by decide +kernel⟩
theorem cwL_X0_belongs : cwd RL 68 RX0 yX0_belongs cX0_belongs 3 (some .int) := ⟨mw13_11, mw13_12, mw13_13, mw1_2, mw13_14, rfl, by decide +kernel, by decide +kernel⟩
theorem cwL_X1_belongs : cwd RL 71 RX1 yX1_belongs cX1_belongs 3 (some .int) := ⟨mw13_15, mw13_16, mw13_17, mw1_5, mw13_18, rfl, by decide +kernel, by decide +kernel⟩
theorem cwL_X0_dense : cwd RL 72 RX0 yX0_dense cX0_dense 2 (some .long) := ⟨mw13_19, mw13_20, mw13_21, mw1_2, mw13_22, rfl, by decide +kernel, by decide +kernel⟩
theorem cwX0_X0_leastReachAsCore : cwd RX0 106 RX0 yX0_leastReachAsCore cX0_leastReachAsCore 7 (some .long) := ⟨mw13_23, mw14_0, mw14_1, mw1_2, mw14_2, rfl, by decide +kernel, by decide +kernel⟩
theorem cwX0_X0_lastGap : cwd RX0 189 RX0 yX0_lastGap cX0_lastGap 2 (some .long) := ⟨mw14_3, mw14_4, mw14_5, mw1_2, mw14_6, rfl, by decide +kernel, by decide +kernel⟩
theorem cwX0_X0_keepNear : cwd RX0 192 RX0 yX0_keepNear cX0_keepNear 6 (some .int) := ⟨mw14_7, mw14_8, mw14_9, mw1_2, mw14_10, rfl, by decide +kernel, by decide +kernel⟩
theorem cwL_X1_dense : cwd RL 76 RX1 yX1_dense cX1_dense 2 (some .long) := ⟨mw14_11, mw14_12, mw14_13, mw1_5, mw14_14, rfl, by decide +kernel, by decide +kernel⟩
theorem cwX1_X1_findDense : cwd RX1 89 RX1 yX1_findDense cX1_findDense 7 (some .long) := ⟨mw14_15, mw14_16, mw14_17, mw1_5, mw14_18, rfl, by decide +kernel, by decide +kernel⟩
theorem cwL_X0_meet : cwd RL 77 RX0 yX0_meet cX0_meet 3 (some .long) := ⟨mw14_19, mw14_20, mw14_21, mw1_2, mw14_22, rfl, by decide +kernel, by decide +kernel⟩
theorem cwX0_X0_findCoreFrom : cwd RX0 113 RX0 yX0_findCoreFrom cX0_findCoreFrom 2 none := ⟨mw14_23, mw15_0, mw15_1, mw1_2, mw15_2, rfl, by decide +kernel, by decide +kernel⟩
theorem cwX0_X0_leastReachFrom : cwd RX0 116 RX0 yX0_leastReachFrom cX0_leastReachFrom 5 (some .long) := ⟨mw15_3, mw15_4, mw15_5, mw1_2, mw15_6, rfl, by decide +kernel, by decide +kernel⟩
theorem cwX0_X0_cheapestUnsettled : cwd RX0 200 RX0 yX0_cheapestUnsettled cX0_cheapestUnsettled 3 (some .int) := ⟨mw15_8, mw15_9, mw15_10, mw1_2, mw15_11, rfl, by decide +kernel, by decide +kernel⟩
theorem cwX0_X0_reachOnFrom : cwd RX0 203 RX0 yX0_reachOnFrom cX0_reachOnFrom 5 none := ⟨mw15_12, mw15_13, mw15_14, mw1_2, mw15_15, rfl, by decide +kernel, by decide +kernel⟩
theorem cwL_X1_meet : cwd RL 80 RX1 yX1_meet cX1_meet 8 (some .long) := ⟨mw15_19, mw15_20, mw15_21, mw1_5, mw15_22, rfl, by decide +kernel, by decide +kernel⟩
theorem cwX1_X1_greater : cwdS RX1 93 yX1_greater cX1_greater 4 (some .long) := ⟨mw15_23, mw16_0, mw1_5, mw16_1, rfl, by decide +kernel, by decide +kernel⟩
theorem cwL_X0_crowds : cwd RL 81 RX0 yX0_crowds cX0_crowds 3 (some .int) := ⟨mw16_2, mw16_3, mw16_4, mw1_2, mw16_5, rfl, by decide +kernel, by decide +kernel⟩
theorem cwL_X1_crowds : cwd RL 84 RX1 yX1_crowds cX1_crowds 3 (some .int) := ⟨mw16_6, mw16_7, mw16_8, mw1_5, mw16_9, rfl, by decide +kernel, by decide +kernel⟩
theorem cwL_X0_check : cwd RL 85 RX0 yX0_check cX0_check 2 (some .int) := ⟨mw16_10, mw16_11, mw16_12, mw1_2, mw16_13, rfl, by decide +kernel, by decide +kernel⟩
theorem cwX0_X0_standsRight : cwd RX0 145 RX0 yX0_standsRight cX0_standsRight 6 (some .boolean) := ⟨mw16_14, mw16_15, mw16_16, mw1_2, mw16_17, rfl, by decide +kernel, by decide +kernel⟩
theorem cwL_X1_check : cwd RL 89 RX1 yX1_check cX1_check 1 (some .int) := ⟨mw16_18, mw16_19, mw16_20, mw1_5, mw16_21, rfl, by decide +kernel, by decide +kernel⟩
end
section
/-! Numbers: sums, gaps, places. -/
/-- a value that no rule unfolds by itself (a hundred and twenty rounds are long) -/
noncomputable def hide {α : Type} (x : α) : α := Classical.choose (⟨x, rfl⟩ : ∃ z : α, z = x)
theorem hide_eq {α : Type} (x : α) : hide x = x := Classical.choose_spec (⟨x, rfl⟩ : ∃ z : α, z = x)
def sumN (f : Nat → Nat) : Nat → Nat
  | 0 => 0
  | n + 1 => sumN f n + f n
theorem sumN_c {f : Nat → Nat} {n : Nat} {c : Prop} [Decidable c] {v : Nat} (e : f n = if c then v else 0) (h : c) : sumN f (n + 1) = sumN f n + v := by
  show sumN f n + f n = _
  rw [e, if_pos h]
theorem sumN_z {f : Nat → Nat} {n : Nat} {c : Prop} [Decidable c] {v : Nat} (e : f n = if c then v else 0) (h : ¬ c) : sumN f (n + 1) = sumN f n := by
  show sumN f n + f n = _
  rw [e, if_neg h]
  rfl
theorem sumN_le {f : Nat → Nat} {b : Nat} (h : ∀ j, f j ≤ b) : ∀ n, sumN f n ≤ n * b
  | 0 => by simp [sumN]
  | n + 1 => by
    have h1 := sumN_le h n
    have h2 := h n
    show sumN f n + f n ≤ (n + 1) * b
    rw [Nat.add_mul, Nat.one_mul]
    exact Nat.add_le_add h1 h2
theorem sumN_congr {f g : Nat → Nat} : ∀ n, (∀ j, j < n → f j = g j) → sumN f n = sumN g n
  | 0, _ => rfl
  | n + 1, h => by
    show sumN f n + f n = sumN g n + g n
    rw [sumN_congr n (fun j hj => h j (by omega)), h n (by omega)]
noncomputable def sum1 (f : Nat → Nat) : Nat := hide (sumN f 120)
theorem sum1_eq (f : Nat → Nat) : sum1 f = sumN f 120 := hide_eq _
def isPl (x y : Int32) : Bool := decide (¬ x < -1073741823) && (decide (¬ 1073741823 < x) && (decide (¬ y < -1073741823) && decide (¬ 1073741823 < y)))
/-- the place of a row that a number names -/
def idx (p : Int32) : Option Nat := if 0 ≤ p.toInt ∧ p.toInt < 120 then some p.toInt.toNat else none
theorem idx_nI {j : Nat} (h : j < 120) : idx (nI j) = some j := by
  have e := nI_toInt (n := j) (by omega)
  unfold idx
  rw [if_pos (by omega), e]
  rfl
theorem idx_neg {p : Int32} (h : p < 0) : idx p = none := by
  unfold idx
  rw [if_neg]
  intro z
  have h1 := Int32.lt_iff_toInt_lt.mp h
  have h2 : (0 : Int32).toInt = 0 := by decide
  omega
theorem idx_big {p : Int32} (h : nI 120 ≤ p) : idx p = none := by
  unfold idx
  rw [if_neg]
  intro z
  have h1 := Int32.le_iff_toInt_le.mp h
  have h2 : (nI 120).toInt = 120 := by decide
  omega
def isPt (s : Nat → Bool) (p : Int32) : Bool := match idx p with
  | some j => s j
  | none => false
theorem big_neg {p : Int32} (h : nI 120 ≤ p) : ¬ p < 0 := by
  intro z
  have h1 := Int32.le_iff_toInt_le.mp h
  have h2 : (nI 120).toInt = 120 := by decide
  have h3 := Int32.lt_iff_toInt_lt.mp z
  have h4 : (0 : Int32).toInt = 0 := by decide
  omega
/-- the first of n that is so -/
def firstN (s : Nat → Bool) : Nat → Option Nat
  | 0 => none
  | n + 1 => match firstN s n with
    | some j => some j
    | none => if s n then some n else none
theorem firstN_none {s : Nat → Bool} : ∀ {n : Nat}, (∀ j, j < n → s j = false) → firstN s n = none
  | 0, _ => rfl
  | n + 1, h => by
    unfold firstN
    rw [firstN_none (fun j hj => h j (by omega)), h n (by omega)]
    rfl
theorem firstN_some {s : Nat → Bool} {i : Nat} (hi : s i = true) (h : ∀ j, j < i → s j = false) : ∀ {n : Nat}, i < n → firstN s n = some i
  | 0, hn => absurd hn (by omega)
  | n + 1, hn => by
    unfold firstN
    by_cases e : i < n
    · rw [firstN_some hi h e]
    · have e2 : i = n := by omega
      subst e2
      rw [firstN_none h, hi]
      rfl
theorem firstN_spec {s : Nat → Bool} : ∀ {n i : Nat}, firstN s n = some i → i < n ∧ s i = true ∧ ∀ j, j < i → s j = false
  | 0, i, h => by cases h
  | n + 1, i, h => by
    unfold firstN at h
    cases e : firstN s n with
    | some j =>
      rw [e] at h
      cases h
      obtain ⟨h1, h2, h3⟩ := firstN_spec e
      exact ⟨by omega, h2, h3⟩
    | none =>
      rw [e] at h
      by_cases hs : s n = true
      · simp only [hs, if_true] at h
        cases h
        refine ⟨by omega, hs, fun j hj => ?_⟩
        cases hj2 : s j with
        | false => rfl
        | true =>
          exfalso
          obtain ⟨k, hk1, hk2⟩ := pk_least (fun k => s k = true) ⟨j, hj2⟩
          have hkj : k ≤ j := Nat.le_of_not_lt fun z => hk2 j z hj2
          have := firstN_some (s := s) (i := k) hk1 (fun z hz => by
            cases hz2 : s z with
            | false => rfl
            | true => exact absurd hz2 (hk2 z hz)) (n := n) (by omega)
          rw [e] at this
          cases this
      · simp [hs] at h
theorem firstN_nspec {s : Nat → Bool} {n : Nat} (h : firstN s n = none) : ∀ j, j < n → s j = false := by
  intro j hj
  cases hj2 : s j with
  | false => rfl
  | true =>
    exfalso
    obtain ⟨k, hk1, hk2⟩ := pk_least (fun k => s k = true) ⟨j, hj2⟩
    have hkj : k ≤ j := Nat.le_of_not_lt fun z => hk2 j z hj2
    have := firstN_some (s := s) (i := k) hk1 (fun z hz => by
      cases hz2 : s z with
      | false => rfl
      | true => exact absurd hz2 (hk2 z hz)) (n := n) (by omega)
    rw [h] at this
    cases this
noncomputable def fst1 (s : Nat → Bool) : Option Nat := hide (firstN s 120)
theorem fst1_eq (s : Nat → Bool) : fst1 s = firstN s 120 := hide_eq _
/-! gaps -/
def dist1 (a b : Int32) : Nat := (a.toInt - b.toInt).natAbs
theorem dist1_comm (a b : Int32) : dist1 a b = dist1 b a := by unfold dist1; omega
theorem dist1_lt (a b : Int32) : dist1 a b < 2 ^ 32 := by
  have h1 := a.le_toInt
  have h2 := a.toInt_lt
  have h3 := b.le_toInt
  have h4 := b.toInt_lt
  unfold dist1
  omega
theorem lN_of_toInt {x : Int64} {n : Nat} (hn : n < 2 ^ 63) (h : x.toInt = (n : Int)) : x = lN n := Int64.toInt_inj.mp (by rw [h, pk_lT hn])
theorem abs_dist (a b : Int32) : (if 0 < a.toInt64 - b.toInt64 then a.toInt64 - b.toInt64 else -(a.toInt64 - b.toInt64)) = lN (dist1 a b) := by
  have hs := lg_i2l_sub a b
  have hl := dist1_lt a b
  have h1 := a.le_toInt
  have h2 := a.toInt_lt
  have h3 := b.le_toInt
  have h4 := b.toInt_lt
  have z0 : (0 : Int64).toInt = 0 := by decide
  by_cases c : 0 < a.toInt64 - b.toInt64
  · rw [if_pos c]
    refine lN_of_toInt (by omega) ?_
    have := Int64.lt_iff_toInt_lt.mp c
    unfold dist1
    omega
  · rw [if_neg c]
    refine lN_of_toInt (by omega) ?_
    have hc : ¬ (0 : Int64).toInt < (a.toInt64 - b.toInt64).toInt := fun z => c (Int64.lt_iff_toInt_lt.mpr z)
    rw [Int64.toInt_neg, hs]
    have : (-(a.toInt - b.toInt)).bmod (2 ^ 64) = -(a.toInt - b.toInt) := by
      rw [Int.bmod_eq_of_le] <;> omega
    rw [this]
    unfold dist1
    omega
def gapN (wy : Nat) (xq yq x y : Int32) : Nat := if wy = 0 then dist1 xq x * dist1 xq x + dist1 yq y * dist1 yq y else if wy = 1 then max (dist1 xq x) (dist1 yq y) else dist1 xq x + dist1 yq y
theorem gapN_comm (wy : Nat) (xq yq x y : Int32) : gapN wy xq yq x y = gapN wy x y xq yq := by
  unfold gapN
  rw [dist1_comm xq x, dist1_comm yq y]
/-- the gap of two points -/
def gp (wy : Nat) (x y : Nat → Int32) (p q : Nat) : Nat := gapN wy (x q) (y q) (x p) (y p)
theorem gp_comm (wy : Nat) (x y : Nat → Int32) (p q : Nat) : gp wy x y p q = gp wy x y q p := gapN_comm _ _ _ _ _
theorem dist1_self (a : Int32) : dist1 a a = 0 := by unfold dist1; omega
theorem gp_self (wy : Nat) (x y : Nat → Int32) (p : Nat) : gp wy x y p p = 0 := by
  unfold gp gapN
  rw [dist1_self, dist1_self]
  split
  · rfl
  · split <;> rfl
theorem max_lN {a b : Nat} (ha : a < 2 ^ 63) (hb : b < 2 ^ 63) : (if lN b < lN a then lN a else lN b) = lN (max a b) := by
  by_cases h : b < a
  · rw [if_pos ((pk_lLT hb ha).mpr h), Nat.max_eq_left (by omega)]
  · rw [if_neg (fun z => h ((pk_lLT hb ha).mp z)), Nat.max_eq_right (by omega)]
theorem min_lN {a b : Nat} (ha : a < 2 ^ 63) (hb : b < 2 ^ 63) : (if lN b < lN a then lN b else lN a) = lN (min a b) := by
  by_cases h : b < a
  · rw [if_pos ((pk_lLT hb ha).mpr h), Nat.min_eq_right (by omega)]
  · rw [if_neg (fun z => h ((pk_lLT hb ha).mp z)), Nat.min_eq_left (by omega)]
def inR (z : Int32) : Prop := -1073741823 ≤ z.toInt ∧ z.toInt ≤ 1073741823
/-- what holds of the numbers of a state -/
def WFp (w : Nat → Nat) (x y : Nat → Int32) (wy re de : Nat) : Prop := (∀ j, w j ≤ 20) ∧ (∀ j, inR (x j)) ∧ (∀ j, inR (y j)) ∧ wy ≤ 2 ∧ re < 2 ^ 63 ∧ 1 ≤ de ∧ de ≤ 2400
theorem isPl_inR {x y : Int32} (h : isPl x y = true) : inR x ∧ inR y := by
  simp only [isPl, Bool.and_eq_true, decide_eq_true_eq, Int32.lt_iff_toInt_lt] at h
  have h1 : (-1073741823 : Int32).toInt = -1073741823 := by decide
  have h2 : (1073741823 : Int32).toInt = 1073741823 := by decide
  rw [h1, h2] at h
  unfold inR
  omega
theorem dist1_R {a b : Int32} (ha : inR a) (hb : inR b) : dist1 a b ≤ 2147483646 := by
  unfold inR at ha hb
  unfold dist1
  omega
theorem gapN_lt (wy : Nat) {xq yq x y : Int32} (h1 : inR xq) (h2 : inR yq) (h3 : inR x) (h4 : inR y) : gapN wy xq yq x y < 2 ^ 63 - 1 := by
  have a := dist1_R h1 h3
  have b := dist1_R h2 h4
  have a2 := Nat.mul_le_mul a a
  have b2 := Nat.mul_le_mul b b
  unfold gapN
  split
  · omega
  · split
    · have := Nat.max_le.mpr ⟨a, b⟩
      omega
    · omega
theorem gp_lt {w : Nat → Nat} {x y : Nat → Int32} {wy re de : Nat} (h : WFp w x y wy re de) (p q : Nat) : gp wy x y p q < 2 ^ 63 - 1 := gapN_lt _ (h.2.1 _) (h.2.2.1 _) (h.2.1 _) (h.2.2.1 _)
/-- the weights of a point's neighbours -/
def wwf (w : Nat → Nat) (g : Nat → Nat) (r : Nat) : Nat → Nat := fun q => if 0 < w q ∧ g q ≤ r then w q else 0
noncomputable def ww (w : Nat → Nat) (g : Nat → Nat) (r : Nat) : Nat := sum1 (wwf w g r)
theorem wwf_le {w g : Nat → Nat} {r : Nat} (h : ∀ j, w j ≤ 20) (j : Nat) : wwf w g r j ≤ 20 := by
  unfold wwf
  split
  · exact h j
  · omega
theorem sum_lt {f : Nat → Nat} {b : Nat} (h : ∀ j, f j ≤ b) {n : Nat} (hn : n ≤ 120) : sumN f n ≤ 120 * b := Nat.le_trans (sumN_le h n) (Nat.mul_le_mul_right b hn)
theorem sum1_le {f : Nat → Nat} {b : Nat} (h : ∀ j, f j ≤ b) : sum1 f ≤ 120 * b := by rw [sum1_eq]; exact sumN_le h 120
end
section
/-! Cores and crowds, as the class makes them. -/
def fill {α : Type} (f g : Nat → α) (n : Nat) : Nat → α := fun j => if j < n then g j else f j
theorem fill_0 {α : Type} (f g : Nat → α) : fill f g 0 = f := by
  funext j
  unfold fill
  rw [if_neg (by omega)]
theorem fill_at {α : Type} (f g : Nat → α) (i : Nat) : fill f g i i = f i := if_neg (by omega)
theorem fill_in {α : Type} {f g : Nat → α} {i j : Nat} (h : j < i) : fill f g i j = g j := if_pos h
theorem fill_out {α : Type} {f g : Nat → α} {i j : Nat} (h : i ≤ j) : fill f g i j = f j := if_neg (by omega)
theorem fill_up {α : Type} {f g : Nat → α} {i : Nat} {v : α} (h : g i = v) : fill f g (i + 1) = up (fill f g i) i v := by
  funext j
  by_cases e : j = i
  · subst e
    rw [fill_in (by omega), up_s, h]
  · rw [up_n e]
    by_cases e2 : j < i
    · rw [fill_in (by omega), fill_in e2]
    · rw [fill_out (by omega), fill_out (by omega)]
theorem fill_same {α : Type} {f g : Nat → α} {i : Nat} (h : g i = f i) : fill f g (i + 1) = fill f g i := by
  funext j
  unfold fill
  by_cases e : j = i
  · subst e
    rw [if_pos (by omega), if_neg (by omega), h]
  · by_cases e2 : j < i
    · rw [if_pos (by omega), if_pos e2]
    · rw [if_neg (by omega), if_neg e2]
theorem fill_of {α : Type} {f g : Nat → α} {i : Nat} {P : α → Prop} (hf : ∀ j, P (f j)) (hg : ∀ j, P (g j)) (j : Nat) : P (fill f g i j) := by
  unfold fill
  split
  · exact hg j
  · exact hf j
/-- a core with a reach -/
noncomputable def isC (w : Nat → Nat) (x y : Nat → Int32) (wy de r p : Nat) : Bool := decide (0 < w p ∧ de ≤ ww w (gp wy x y p) r)
def nearC (co : Nat → Bool) (cr : Nat → Option Nat) (cc : Nat) (g : Nat → Nat) (r : Nat) : Nat → Option Nat := fun q => if co q = true ∧ cr q = none ∧ g q ≤ r then some cc else cr q
def selU (cr : Nat → Option Nat) (se : Nat → Bool) (cc : Nat) : Nat → Bool := fun p => decide (cr p = some cc) && !se p
/-- gatherFrom's rounds -/
noncomputable def gF (co : Nat → Bool) (cc : Nat) (g : Nat → Nat → Nat) (r : Nat) : Nat → (Nat → Option Nat) → (Nat → Bool) → (Nat → Option Nat) × (Nat → Bool)
  | 0, cr, se => (cr, se)
  | n + 1, cr, se => match fst1 (selU cr se cc) with
    | none => (cr, se)
    | some p => gF co cc g r n (fill cr (nearC co cr cc (g p) r) 120) (up se p true)
noncomputable def gF1 (co : Nat → Bool) (cc : Nat) (g : Nat → Nat → Nat) (r : Nat) (cr : Nat → Option Nat) (se : Nat → Bool) : (Nat → Option Nat) × (Nat → Bool) := hide (gF co cc g r 120 cr se)
theorem gF1_eq (co : Nat → Bool) (cc : Nat) (g : Nat → Nat → Nat) (r : Nat) (cr : Nat → Option Nat) (se : Nat → Bool) : gF1 co cc g r cr se = gF co cc g r 120 cr se := hide_eq _
/-- gatherCrowds' rounds -/
noncomputable def gS (co : Nat → Bool) (g : Nat → Nat → Nat) (r : Nat) (cr : Nat → Option Nat) (se : Nat → Bool) : Nat → (Nat → Option Nat) × (Nat → Bool) × Nat
  | 0 => (cr, se, 0)
  | n + 1 => match gS co g r cr se n with
    | (cr1, se1, c1) => if co n = true ∧ cr1 n = none then
        match gF1 co c1 g r (up cr1 n (some c1)) se1 with
        | (cr2, se2) => (cr2, se2, c1 + 1)
      else (cr1, se1, c1)
noncomputable def gS1 (co : Nat → Bool) (g : Nat → Nat → Nat) (r : Nat) (cr : Nat → Option Nat) (se : Nat → Bool) : (Nat → Option Nat) × (Nat → Bool) × Nat := hide (gS co g r cr se 120)
theorem gS1_eq (co : Nat → Bool) (g : Nat → Nat → Nat) (r : Nat) (cr : Nat → Option Nat) (se : Nat → Bool) : gS1 co g r cr se = gS co g r cr se 120 := hide_eq _
def minO : Option Nat → Option Nat → Option Nat
  | none, c => c
  | some b, none => some b
  | some b, some c => some (min b c)
/-- the least crowd with a core near a place -/
def lcs (co : Nat → Bool) (cr : Nat → Option Nat) (g : Nat → Nat) (r : Nat) : Nat → Option Nat
  | 0 => none
  | n + 1 => if co n = true ∧ g n ≤ r then minO (lcs co cr g r n) (cr n) else lcs co cr g r n
noncomputable def lcs1 (co : Nat → Bool) (cr : Nat → Option Nat) (g : Nat → Nat) (r : Nat) : Option Nat := hide (lcs co cr g r 120)
theorem lcs1_eq (co : Nat → Bool) (cr : Nat → Option Nat) (g : Nat → Nat) (r : Nat) : lcs1 co cr g r = lcs co cr g r 120 := hide_eq _
theorem lcs_keep {co : Nat → Bool} {cr : Nat → Option Nat} {g : Nat → Nat} {r n : Nat} (h : co n = true → g n ≤ r → minO (lcs co cr g r n) (cr n) = lcs co cr g r n) : lcs co cr g r (n + 1) = lcs co cr g r n := by
  show (if co n = true ∧ g n ≤ r then _ else _) = _
  by_cases c : co n = true ∧ g n ≤ r
  · rw [if_pos c]; exact h c.1 c.2
  · rw [if_neg c]
theorem lcs_new {co : Nat → Bool} {cr : Nat → Option Nat} {g : Nat → Nat} {r n : Nat} (h1 : co n = true) (h2 : g n ≤ r) : lcs co cr g r (n + 1) = minO (lcs co cr g r n) (cr n) := if_pos ⟨h1, h2⟩
theorem lcs_lt {co : Nat → Bool} {cr : Nat → Option Nat} {g : Nat → Nat} {r : Nat} (h : ∀ q, q < 120 → co q = true → ∃ k, cr q = some k ∧ k < 120) : ∀ n, n ≤ 120 → ∀ k, lcs co cr g r n = some k → k < 120
  | 0, _, k, hk => by cases hk
  | n + 1, hn, k, hk => by
    have ih := lcs_lt (g := g) (r := r) h n (by omega)
    by_cases c : co n = true ∧ g n ≤ r
    · rw [lcs_new c.1 c.2] at hk
      obtain ⟨k2, e2, l2⟩ := h n (by omega) c.1
      rw [e2] at hk
      cases e : lcs co cr g r n with
      | none => rw [e] at hk; cases hk; exact l2
      | some b =>
        rw [e] at hk
        have := ih b e
        cases hk
        omega
    · rw [lcs_keep (fun a b => absurd ⟨a, b⟩ c)] at hk
      exact ih k hk
theorem lcs_congr {co : Nat → Bool} {cr cr2 : Nat → Option Nat} {g : Nat → Nat} {r : Nat} : ∀ n, (∀ q, q < n → co q = true → cr q = cr2 q) → lcs co cr g r n = lcs co cr2 g r n
  | 0, _ => rfl
  | n + 1, h => by
    show (if co n = true ∧ g n ≤ r then _ else _) = (if co n = true ∧ g n ≤ r then _ else _)
    by_cases c : co n = true ∧ g n ≤ r
    · rw [if_pos c, if_pos c, lcs_congr n (fun q hq => h q (by omega)), h n (by omega) c.1]
    · rw [if_neg c, if_neg c, lcs_congr n (fun q hq => h q (by omega))]
/-- joinBorders -/
noncomputable def jB (w : Nat → Nat) (co : Nat → Bool) (cr : Nat → Option Nat) (g : Nat → Nat → Nat) (r : Nat) : Nat → Option Nat := fun p => if 0 < w p ∧ co p = false then lcs1 co cr (g p) r else cr p
def bdC (cr : Nat → Option Nat) : Prop := ∀ j k, cr j = some k → k < 120
theorem bd31 {cr : Nat → Option Nat} (h : bdC cr) (j : Nat) : ∀ k, cr j = some k → k < 2 ^ 31 := fun k hk => by have := h j k hk; omega
theorem bdC_up {cr : Nat → Option Nat} (h : bdC cr) {j c : Nat} (hc : c < 120) : bdC (up cr j (some c)) := fun i k hk => by
  by_cases e : i = j
  · subst e
    rw [up_s] at hk
    cases hk
    exact hc
  · rw [up_n e] at hk
    exact h i k hk
theorem bdC_near {co : Nat → Bool} {cr : Nat → Option Nat} (h : bdC cr) {c : Nat} (hc : c < 120) {g : Nat → Nat} {r n : Nat} : bdC (fill cr (nearC co cr c g r) n) := fun i k hk => by
  unfold fill at hk
  split at hk
  · unfold nearC at hk
    split at hk
    · cases hk; exact hc
    · exact h i k hk
  · exact h i k hk
theorem gF_bd {co : Nat → Bool} {c : Nat} (hc : c < 120) {g : Nat → Nat → Nat} {r : Nat} : ∀ (n : Nat) (cr : Nat → Option Nat) (se : Nat → Bool), bdC cr → bdC (gF co c g r n cr se).1
  | 0, cr, se, h => h
  | n + 1, cr, se, h => by
    unfold gF
    cases fst1 (selU cr se c) with
    | none => exact h
    | some p => exact gF_bd hc n _ _ (bdC_near h hc)
theorem gS_bd {co : Nat → Bool} {g : Nat → Nat → Nat} {r : Nat} {cr : Nat → Option Nat} {se : Nat → Bool} (h : bdC cr) : ∀ n, n ≤ 120 → bdC (gS co g r cr se n).1 ∧ (gS co g r cr se n).2.2 ≤ n
  | 0, _ => ⟨h, Nat.le_refl 0⟩
  | n + 1, hn => by
    obtain ⟨h1, h2⟩ := gS_bd h n (by omega)
    unfold gS
    generalize gS co g r cr se n = z at h1 h2
    obtain ⟨cr1, se1, c1⟩ := z
    dsimp only at h1 h2 ⊢
    split
    · exact ⟨by rw [gF1_eq]; exact gF_bd (by omega) 120 _ _ (bdC_up h1 (by omega)), by dsimp only; omega⟩
    · exact ⟨h1, by dsimp only; omega⟩
theorem gS_y {co : Nat → Bool} {g : Nat → Nat → Nat} {r : Nat} {cr : Nat → Option Nat} {se : Nat → Bool} {n : Nat} (h1 : co n = true) (h2 : (gS co g r cr se n).1 n = none) : gS co g r cr se (n + 1) = ((gF1 co (gS co g r cr se n).2.2 g r (up (gS co g r cr se n).1 n (some (gS co g r cr se n).2.2)) (gS co g r cr se n).2.1).1, (gF1 co (gS co g r cr se n).2.2 g r (up (gS co g r cr se n).1 n (some (gS co g r cr se n).2.2)) (gS co g r cr se n).2.1).2, (gS co g r cr se n).2.2 + 1) := by
  show (match gS co g r cr se n with
    | (cr1, se1, c1) => if co n = true ∧ cr1 n = none then
        match gF1 co c1 g r (up cr1 n (some c1)) se1 with
        | (cr2, se2) => (cr2, se2, c1 + 1)
      else (cr1, se1, c1)) = _
  generalize gS co g r cr se n = z at h2 ⊢
  obtain ⟨cr1, se1, c1⟩ := z
  dsimp only at h2 ⊢
  rw [if_pos ⟨h1, h2⟩]
theorem gS_n {co : Nat → Bool} {g : Nat → Nat → Nat} {r : Nat} {cr : Nat → Option Nat} {se : Nat → Bool} {n : Nat} (h : ¬ (co n = true ∧ (gS co g r cr se n).1 n = none)) : gS co g r cr se (n + 1) = gS co g r cr se n := by
  show (match gS co g r cr se n with
    | (cr1, se1, c1) => if co n = true ∧ cr1 n = none then
        match gF1 co c1 g r (up cr1 n (some c1)) se1 with
        | (cr2, se2) => (cr2, se2, c1 + 1)
      else (cr1, se1, c1)) = _
  generalize gS co g r cr se n = z at h ⊢
  obtain ⟨cr1, se1, c1⟩ := z
  dsimp only at h ⊢
  rw [if_neg h]
end
section
/-! Points that hang together: paths, roots, their numbers. -/
def pth (A : Nat → Nat → Prop) : Nat → Nat → Nat → Prop
  | 0, p, q => p = q
  | k + 1, p, q => ∃ m, pth A k p m ∧ A m q
def cnn (A : Nat → Nat → Prop) (p q : Nat) : Prop := ∃ k, pth A k p q
theorem cnn_rf {A : Nat → Nat → Prop} (p : Nat) : cnn A p p := ⟨0, rfl⟩
theorem cnn_st {A : Nat → Nat → Prop} {p m q : Nat} (h : cnn A p m) (a : A m q) : cnn A p q := by
  obtain ⟨k, h⟩ := h
  exact ⟨k + 1, m, h, a⟩
theorem cnn_1 {A : Nat → Nat → Prop} {p q : Nat} (a : A p q) : cnn A p q := cnn_st (cnn_rf p) a
theorem pth_ind {A : Nat → Nat → Prop} {S : Nat → Prop} {p : Nat} (h0 : S p) (hs : ∀ m q, S m → A m q → S q) : ∀ (k q : Nat), pth A k p q → S q
  | 0, q, h => by
    have e : p = q := h
    rw [← e]
    exact h0
  | k + 1, q, h => by
    obtain ⟨m, h1, h2⟩ := h
    exact hs m q (pth_ind h0 hs k m h1) h2
theorem cnn_ind {A : Nat → Nat → Prop} {S : Nat → Prop} {p q : Nat} (h : cnn A p q) (h0 : S p) (hs : ∀ m q, S m → A m q → S q) : S q := by
  obtain ⟨k, h⟩ := h
  exact pth_ind h0 hs k q h
theorem cnn_tr {A : Nat → Nat → Prop} {p m q : Nat} (h1 : cnn A p m) (h2 : cnn A m q) : cnn A p q := cnn_ind (S := fun z => cnn A p z) h2 h1 (fun _ _ a b => cnn_st a b)
theorem cnn_sy {A : Nat → Nat → Prop} (hA : ∀ a b, A a b → A b a) {p q : Nat} (h : cnn A p q) : cnn A q p := cnn_ind (S := fun z => cnn A z p) h (cnn_rf p) (fun _ _ a b => cnn_tr (cnn_1 (hA _ _ b)) a)
/-- a root: the least core of those that hang together -/
def rt (C : Nat → Bool) (A : Nat → Nat → Prop) (p : Nat) : Prop := C p = true ∧ ∀ q, q < p → C q = true → ¬ cnn A q p
noncomputable def rtB (C : Nat → Bool) (A : Nat → Nat → Prop) (p : Nat) : Bool := @decide (rt C A p) (Classical.propDecidable _)
theorem rtB_t {C : Nat → Bool} {A : Nat → Nat → Prop} {p : Nat} : rtB C A p = true ↔ rt C A p := by
  unfold rtB
  exact @decide_eq_true_iff (rt C A p) (Classical.propDecidable _)
noncomputable def cRf (C : Nat → Bool) (A : Nat → Nat → Prop) : Nat → Nat := fun p => if rtB C A p = true then 1 else 0
/-- how many roots there are below -/
noncomputable def cR (C : Nat → Bool) (A : Nat → Nat → Prop) (n : Nat) : Nat := sumN (cRf C A) n
theorem cR_y {C : Nat → Bool} {A : Nat → Nat → Prop} {n : Nat} (h : rt C A n) : cR C A (n + 1) = cR C A n + 1 := by
  show sumN _ n + cRf C A n = sumN _ n + 1
  unfold cRf
  rw [if_pos (rtB_t.mpr h)]
theorem cR_n {C : Nat → Bool} {A : Nat → Nat → Prop} {n : Nat} (h : ¬ rt C A n) : cR C A (n + 1) = cR C A n := by
  show sumN _ n + cRf C A n = sumN _ n
  unfold cRf
  rw [if_neg (fun z => h (rtB_t.mp z))]
  rfl
theorem cR_mono {C : Nat → Bool} {A : Nat → Nat → Prop} {m : Nat} : ∀ d, cR C A m ≤ cR C A (m + d)
  | 0 => Nat.le_refl _
  | d + 1 => by
    have h1 := cR_mono (C := C) (A := A) (m := m) d
    show cR C A m ≤ sumN _ (m + d) + cRf C A (m + d)
    have h2 : cR C A (m + d) = sumN (cRf C A) (m + d) := rfl
    omega
theorem cR_lt {C : Nat → Bool} {A : Nat → Nat → Prop} {q n : Nat} (h : rt C A q) (hq : q < n) : cR C A q < cR C A n := by
  have h1 := cR_y h
  have h2 := cR_mono (C := C) (A := A) (m := q + 1) (n - (q + 1))
  rw [show q + 1 + (n - (q + 1)) = n by omega] at h2
  omega
theorem rt_ex {C : Nat → Bool} {A : Nat → Nat → Prop} {p : Nat} (hp : C p = true) : ∃ q, q ≤ p ∧ rt C A q ∧ cnn A q p := by
  obtain ⟨q, ⟨h1, h2⟩, h3⟩ := pk_least (fun q => C q = true ∧ cnn A q p) ⟨p, hp, cnn_rf p⟩
  refine ⟨q, Nat.le_of_not_lt fun z => h3 p z ⟨hp, cnn_rf p⟩, ⟨h1, fun q' hq' hc hn => h3 q' hq' ⟨hc, cnn_tr hn h2⟩⟩, h2⟩
theorem rt_un {C : Nat → Bool} {A : Nat → Nat → Prop} (hA : ∀ a b, A a b → A b a) {q q' p : Nat} (h1 : rt C A q) (h2 : rt C A q') (c1 : cnn A q p) (c2 : cnn A q' p) : q = q' := by
  have c3 : cnn A q q' := cnn_tr c1 (cnn_sy hA c2)
  rcases Nat.lt_trichotomy q q' with h | h | h
  · exact absurd c3 (h2.2 q h h1.1)
  · exact h
  · exact absurd (cnn_sy hA c3) (h1.2 q' h h2.1)
theorem cR_le {C : Nat → Bool} {A : Nat → Nat → Prop} : ∀ n, cR C A n ≤ n
  | 0 => Nat.le_refl 0
  | n + 1 => by
    have h := cR_le (C := C) (A := A) n
    by_cases c : rt C A n
    · rw [cR_y c]; omega
    · rw [cR_n c]; omega
/-- cores are neighbours -/
def adj (C : Nat → Bool) (g : Nat → Nat → Nat) (r : Nat) (p q : Nat) : Prop := p < 120 ∧ q < 120 ∧ C p = true ∧ C q = true ∧ g p q ≤ r
theorem adj_sy {C : Nat → Bool} {g : Nat → Nat → Nat} {r : Nat} (hg : ∀ p q, g p q = g q p) : ∀ a b, adj C g r a b → adj C g r b a := fun a b ⟨h1, h2, h3, h4, h5⟩ => ⟨h2, h1, h4, h3, by rw [hg]; exact h5⟩
theorem adj_congr {C C' : Nat → Bool} {g : Nat → Nat → Nat} {r : Nat} (h : ∀ p, p < 120 → C p = C' p) : adj C g r = adj C' g r := by
  funext p q
  unfold adj
  apply propext
  constructor
  · rintro ⟨h1, h2, h3, h4, h5⟩
    exact ⟨h1, h2, by rw [← h p h1]; exact h3, by rw [← h q h2]; exact h4, h5⟩
  · rintro ⟨h1, h2, h3, h4, h5⟩
    exact ⟨h1, h2, by rw [h p h1]; exact h3, by rw [h q h2]; exact h4, h5⟩
theorem cnn_core {C : Nat → Bool} {g : Nat → Nat → Nat} {r p q : Nat} (h : cnn (adj C g r) p q) (hp : C p = true) : C q = true := cnn_ind (S := fun z => C z = true) h hp (fun _ _ _ a => a.2.2.2.1)
theorem cnn_120 {C : Nat → Bool} {g : Nat → Nat → Nat} {r p q : Nat} (h : cnn (adj C g r) p q) (hp : p < 120) : q < 120 := cnn_ind (S := fun z => z < 120) h hp (fun _ _ _ a => a.2.1)
/-- how many are not settled -/
def unS (se : Nat → Bool) (n : Nat) : Nat := sumN (fun j => if se j = true then 0 else 1) n
theorem unS_keep {se : Nat → Bool} {p : Nat} : ∀ n, n ≤ p → unS (up se p true) n = unS se n
  | 0, _ => rfl
  | n + 1, h => by
    show unS (up se p true) n + (if up se p true n = true then 0 else 1) = unS se n + (if se n = true then 0 else 1)
    rw [unS_keep n (by omega), up_n (by omega)]
theorem unS_up {se : Nat → Bool} {p : Nat} (hs : se p = false) : ∀ n, p < n → unS (up se p true) n + 1 = unS se n
  | 0, h => absurd h (by omega)
  | n + 1, h => by
    show unS (up se p true) n + (if up se p true n = true then 0 else 1) + 1 = unS se n + (if se n = true then 0 else 1)
    by_cases e : p = n
    · subst e
      rw [unS_keep p (Nat.le_refl p), up_s, hs, if_pos rfl, if_neg (by decide)]
    · have h1 := unS_up hs n (by omega)
      rw [up_n (fun z => e z.symm)]
      omega
theorem unS_0 {se : Nat → Bool} : ∀ n, unS se n = 0 → ∀ p, p < n → se p = true
  | 0, _, p, hp => absurd hp (by omega)
  | n + 1, h, p, hp => by
    have e : unS se n + (if se n = true then 0 else 1) = 0 := h
    by_cases c : se n = true
    · by_cases e2 : p = n
      · rw [e2]; exact c
      · exact unS_0 n (by omega) p (by omega)
    · rw [if_neg c] at e
      omega
theorem unS_le (se : Nat → Bool) : ∀ n, unS se n ≤ n
  | 0 => Nat.le_refl 0
  | n + 1 => by
    have h1 := unS_le se n
    show unS se n + (if se n = true then 0 else 1) ≤ n + 1
    split <;> omega
/-- gatherFrom labels what hangs together with the first, and nothing else -/
theorem gF_ok {C : Nat → Bool} {g : Nat → Nat → Nat} {r c f : Nat} {b : Nat → Option Nat} (hf : f < 120) (hcf : C f = true) (hb : ∀ p, p < 120 → b p ≠ some c) (hbf : ∀ p, cnn (adj C g r) f p → b p = none) :
    ∀ (n : Nat) (cr : Nat → Option Nat) (se : Nat → Bool), unS se 120 ≤ n →
      (∀ p, p < 120 → cr p = some c → cnn (adj C g r) f p) → (∀ p, p < 120 → cr p = b p ∨ (cr p = some c ∧ b p = none ∧ C p = true)) → cr f = some c →
      (∀ p, p < 120 → cr p = some c → se p = true → ∀ q, adj C g r p q → b q = none → cr q = some c) → (∀ p, p < 120 → se p = true → cr p ≠ none) →
      (∀ p, p < 120 → cnn (adj C g r) f p → (gF C c g r n cr se).1 p = some c) ∧ (∀ p, p < 120 → ¬ cnn (adj C g r) f p → (gF C c g r n cr se).1 p = b p) ∧ (∀ p, p < 120 → (gF C c g r n cr se).2 p = true → (gF C c g r n cr se).1 p ≠ none) := by
  have fin : ∀ (cr : Nat → Option Nat) (se : Nat → Bool), (∀ p, p < 120 → cr p = some c → se p = true) →
      (∀ p, p < 120 → cr p = some c → cnn (adj C g r) f p) → (∀ p, p < 120 → cr p = b p ∨ (cr p = some c ∧ b p = none ∧ C p = true)) → cr f = some c →
      (∀ p, p < 120 → cr p = some c → se p = true → ∀ q, adj C g r p q → b q = none → cr q = some c) →
      (∀ p, p < 120 → cnn (adj C g r) f p → cr p = some c) ∧ (∀ p, p < 120 → ¬ cnn (adj C g r) f p → cr p = b p) := by
    intro cr se hall h1 h2 h3 h4
    constructor
    · intro p _ hp
      have key : ∀ z, cnn (adj C g r) f z → z < 120 ∧ cr z = some c := fun z hz => by
        obtain ⟨k, hz⟩ := hz
        induction k generalizing z with
        | zero =>
          have e : f = z := hz
          rw [← e]
          exact ⟨hf, h3⟩
        | succ k ih =>
          obtain ⟨m, hm1, hm2⟩ := hz
          obtain ⟨i1, i2⟩ := ih m hm1
          exact ⟨hm2.2.1, h4 m i1 i2 (hall m i1 i2) z hm2 (hbf z ⟨k + 1, m, hm1, hm2⟩)⟩
      exact (key p hp).2
    · intro p hp hn
      rcases h2 p hp with h | h
      · exact h
      · exact absurd (h1 p hp h.1) hn
  intro n
  induction n with
  | zero =>
    intro cr se hu h1 h2 h3 h4 h5
    obtain ⟨f1, f2⟩ := fin cr se (fun p hp _ => unS_0 120 (by omega) p hp) h1 h2 h3 h4
    exact ⟨f1, f2, h5⟩
  | succ n ih =>
    intro cr se hu h1 h2 h3 h4 h5
    unfold gF
    cases hfst : fst1 (selU cr se c) with
    | none =>
      have hn := firstN_nspec (by rw [← fst1_eq]; exact hfst)
      obtain ⟨f1, f2⟩ := fin cr se (fun p hp hc => by
        have := hn p hp
        unfold selU at this
        simp only [hc, decide_true, Bool.true_and, Bool.not_eq_false'] at this
        exact this) h1 h2 h3 h4
      exact ⟨f1, f2, h5⟩
    | some p =>
      obtain ⟨hp, hs, -⟩ := firstN_spec (by rw [← fst1_eq]; exact hfst)
      unfold selU at hs
      simp only [Bool.and_eq_true, decide_eq_true_eq, Bool.not_eq_true'] at hs
      obtain ⟨hs1, hs2⟩ := hs
      have hCp : C p = true := cnn_core (h1 p hp hs1) hcf
      have nv : ∀ q, q < 120 → fill cr (nearC C cr c (g p) r) 120 q = nearC C cr c (g p) r q := fun q hq => fill_in hq
      have mono : ∀ q, q < 120 → cr q = some c → fill cr (nearC C cr c (g p) r) 120 q = some c := fun q hq hc => by
        rw [nv q hq]
        unfold nearC
        rw [if_neg (by rw [hc]; simp), hc]
      have new : ∀ q, q < 120 → fill cr (nearC C cr c (g p) r) 120 q = cr q ∨ (fill cr (nearC C cr c (g p) r) 120 q = some c ∧ cr q = none ∧ adj C g r p q) := fun q hq => by
        rw [nv q hq]
        unfold nearC
        by_cases hc : C q = true ∧ cr q = none ∧ g p q ≤ r
        · rw [if_pos hc]
          exact Or.inr ⟨rfl, hc.2.1, hp, hq, hCp, hc.1, hc.2.2⟩
        · rw [if_neg hc]
          exact Or.inl rfl
      have cn : ∀ q, q < 120 → cr q = none → b q = none := fun q hq hc => by
        rcases h2 q hq with h | h
        · rw [← h]; exact hc
        · exact h.2.1
      refine ih _ _ (by have := unS_up hs2 120 hp; omega) ?_ ?_ (mono f hf h3) ?_ ?_
      · intro q hq hc
        rcases new q hq with h | h
        · exact h1 q hq (by rw [← h]; exact hc)
        · exact cnn_st (h1 p hp hs1) h.2.2
      · intro q hq
        rcases new q hq with h | h
        · rw [h]; exact h2 q hq
        · exact Or.inr ⟨h.1, cn q hq h.2.1, h.2.2.2.2.2.1⟩
      · intro q hq hc hse z hz hbz
        by_cases e : q = p
        · subst e
          rcases h2 z hz.2.1 with h | h
          · rw [nv z hz.2.1]
            unfold nearC
            rw [if_pos ⟨hz.2.2.2.1, by rw [h]; exact hbz, hz.2.2.2.2⟩]
          · exact mono z hz.2.1 h.1
        · rw [up_n e] at hse
          rcases new q hq with h | h
          · exact mono z hz.2.1 (h4 q hq (by rw [← h]; exact hc) hse z hz hbz)
          · exact absurd h.2.1 (h5 q hq hse)
      · intro q hq hse
        by_cases e : q = p
        · subst e
          rw [mono q hq hs1]
          simp
        · rw [up_n e] at hse
          rcases new q hq with h | h
          · rw [h]; exact h5 q hq hse
          · rw [h.1]; simp
/-- gatherCrowds: after n points the crowds of the roots below n stand, and nothing else -/
theorem gS_ok {C : Nat → Bool} {g : Nat → Nat → Nat} {r : Nat} (hg : ∀ p q, g p q = g q p) {cr0 : Nat → Option Nat} {se0 : Nat → Bool} (h0 : ∀ p, p < 120 → cr0 p = none) (hs0 : ∀ p, p < 120 → se0 p = false) :
    ∀ n, n ≤ 120 → (gS C g r cr0 se0 n).2.2 = cR C (adj C g r) n ∧
      (∀ p, p < 120 → ∀ q, q < n → rt C (adj C g r) q → cnn (adj C g r) q p → (gS C g r cr0 se0 n).1 p = some (cR C (adj C g r) q)) ∧
      (∀ p k, p < 120 → (gS C g r cr0 se0 n).1 p = some k → ∃ q, q < n ∧ rt C (adj C g r) q ∧ cnn (adj C g r) q p ∧ k = cR C (adj C g r) q) ∧
      (∀ p, p < 120 → (gS C g r cr0 se0 n).2.1 p = true → (gS C g r cr0 se0 n).1 p ≠ none)
  | 0, _ => by
    refine ⟨rfl, fun p _ q hq => absurd hq (by omega), fun p k hp hk => ?_, fun p hp hse => ?_⟩
    · have e : (gS C g r cr0 se0 0).1 p = none := h0 p hp
      rw [e] at hk
      cases hk
    · have e : (gS C g r cr0 se0 0).2.1 p = false := hs0 p hp
      rw [e] at hse
      cases hse
  | n + 1, hn => by
    obtain ⟨i1, i2, i3, i4⟩ := gS_ok hg (r := r) h0 hs0 n (by omega)
    have hA := adj_sy (C := C) (r := r) hg
    by_cases hc : C n = true ∧ (gS C g r cr0 se0 n).1 n = none
    · have hroot : rt C (adj C g r) n := by
        obtain ⟨q, h1, h2, h3⟩ := rt_ex (A := adj C g r) hc.1
        by_cases e : q = n
        · rw [← e]; exact h2
        · have := i2 n (by omega) q (by omega) h2 h3
          rw [hc.2] at this
          cases this
      rw [gS_y hc.1 hc.2]
      generalize hz : gS C g r cr0 se0 n = z at i1 i2 i3 i4 hc
      obtain ⟨cr1, se1, c1⟩ := z
      dsimp only at i1 i2 i3 i4 hc ⊢
      subst i1
      rw [gF1_eq]
      have fresh : ∀ p, p < 120 → cr1 p ≠ some (cR C (adj C g r) n) := fun p hp h => by
        obtain ⟨q, q1, q2, q3, q4⟩ := i3 p _ hp h
        have := cR_lt q2 q1
        omega
      have un : ∀ p, cnn (adj C g r) n p → cr1 p = none := fun p hp => by
        cases e : cr1 p with
        | none => rfl
        | some k =>
          obtain ⟨q, q1, q2, q3, q4⟩ := i3 p k (cnn_120 hp (by omega)) e
          have := rt_un hA q2 hroot q3 hp
          omega
      obtain ⟨g1, g2, g3⟩ := gF_ok (C := C) (g := g) (r := r) (c := cR C (adj C g r) n) (f := n) (b := cr1) (by omega) hc.1 fresh un 120 (up cr1 n (some (cR C (adj C g r) n))) se1 (unS_le se1 120)
        (fun p hp h => by
          by_cases e : p = n
          · rw [e]; exact cnn_rf n
          · rw [up_n e] at h
            exact absurd h (fresh p hp))
        (fun p hp => by
          by_cases e : p = n
          · subst e
            exact Or.inr ⟨up_s, hc.2, hc.1⟩
          · exact Or.inl (up_n e)) up_s
        (fun p hp h hse => by
          by_cases e : p = n
          · subst e
            exact absurd hc.2 (i4 p hp hse)
          · rw [up_n e] at h
            exact absurd h (fresh p hp))
        (fun p hp hse => by
          by_cases e : p = n
          · subst e
            rw [up_s]
            simp
          · rw [up_n e]
            exact i4 p hp hse)
      refine ⟨(cR_y hroot).symm, ?_, ?_, g3⟩
      · intro p hp q hq h1 h2
        by_cases e : q = n
        · subst e
          exact g1 p hp h2
        · by_cases c2 : cnn (adj C g r) n p
          · exact absurd (rt_un hA h1 hroot h2 c2) e
          · rw [g2 p hp c2]
            exact i2 p hp q (by omega) h1 h2
      · intro p k hp hk
        by_cases c2 : cnn (adj C g r) n p
        · rw [g1 p hp c2] at hk
          cases hk
          exact ⟨n, by omega, hroot, c2, rfl⟩
        · rw [g2 p hp c2] at hk
          obtain ⟨q, q1, q2⟩ := i3 p k hp hk
          exact ⟨q, by omega, q2⟩
    · have hnr : ¬ rt C (adj C g r) n := fun h => by
        cases e : (gS C g r cr0 se0 n).1 n with
        | none => exact hc ⟨h.1, e⟩
        | some k =>
          obtain ⟨q, q1, q2, q3, q4⟩ := i3 n k (by omega) e
          exact h.2 q q1 q2.1 q3
      rw [gS_n hc]
      refine ⟨by rw [cR_n hnr]; exact i1, ?_, ?_, i4⟩
      · intro p hp q hq h1 h2
        by_cases e : q = n
        · subst e
          exact absurd h1 hnr
        · exact i2 p hp q (by omega) h1 h2
      · intro p k hp hk
        obtain ⟨q, q1, q2⟩ := i3 p k hp hk
        exact ⟨q, by omega, q2⟩
/-- the cores, crowds and borders are as the document says -/
def Srt (w : Nat → Nat) (x y : Nat → Int32) (wy de r : Nat) (co : Nat → Bool) (cr : Nat → Option Nat) (cc : Nat) : Prop :=
  (∀ p, p < 120 → co p = isC w x y wy de r p) ∧
  (∀ p, p < 120 → co p = true → ∃ q, q < 120 ∧ rt co (adj co (gp wy x y) r) q ∧ cnn (adj co (gp wy x y) r) q p ∧ cr p = some (cR co (adj co (gp wy x y) r) q)) ∧
  (∀ p, p < 120 → co p = false → cr p = if 0 < w p then lcs1 co cr (gp wy x y p) r else none) ∧
  cc = cR co (adj co (gp wy x y) r) 120
end
section
/-! What the class makes is as the document says; and there is one such. -/
theorem rt_congr {C C' : Nat → Bool} {A : Nat → Nat → Prop} (h : ∀ p, p < 120 → C p = C' p) {p : Nat} (hp : p < 120) : rt C A p ↔ rt C' A p := by
  unfold rt
  rw [h p hp]
  constructor
  · rintro ⟨h1, h2⟩
    exact ⟨h1, fun q hq hc => h2 q hq (by rw [h q (by omega)]; exact hc)⟩
  · rintro ⟨h1, h2⟩
    exact ⟨h1, fun q hq hc => h2 q hq (by rw [← h q (by omega)]; exact hc)⟩
theorem cR_congr {C C' : Nat → Bool} {A : Nat → Nat → Prop} (h : ∀ p, p < 120 → C p = C' p) {n : Nat} (hn : n ≤ 120) : cR C A n = cR C' A n := by
  unfold cR
  refine sumN_congr n (fun j hj => ?_)
  unfold cRf
  have e : rtB C A j = rtB C' A j := by
    cases e1 : rtB C A j with
    | true => exact (rtB_t.mpr ((rt_congr h (by omega)).mp (rtB_t.mp e1))).symm
    | false =>
      cases e2 : rtB C' A j with
      | false => rfl
      | true =>
        rw [rtB_t.mpr ((rt_congr h (by omega)).mpr (rtB_t.mp e2))] at e1
        cases e1
  rw [e]
section SRT
variable {w : Nat → Nat} {x y : Nat → Int32} {wy re de r : Nat} {co co2 : Nat → Bool} {cr cr2 : Nat → Option Nat} {cc cc2 : Nat}
theorem Srt.core (h : Srt w x y wy de r co cr cc) {p : Nat} (hp : p < 120) (hc : co p = true) : ∃ k, cr p = some k ∧ k < cc ∧ k < 120 := by
  obtain ⟨q, h1, h2, h3, h4⟩ := h.2.1 p hp hc
  have h5 := cR_lt h2 h1
  have h6 := cR_le (C := co) (A := adj co (gp wy x y) r) 120
  have h7 := h.2.2.2
  exact ⟨_, h4, by omega, by omega⟩
theorem Srt.cc120 (h : Srt w x y wy de r co cr cc) : cc ≤ 120 := by
  rw [h.2.2.2]
  exact cR_le 120
theorem Srt.bd (h : Srt w x y wy de r co cr cc) {p : Nat} (hp : p < 120) : ∀ k, cr p = some k → k < 120 := by
  intro k hk
  cases hc : co p with
  | true =>
    obtain ⟨k2, e, -, h3⟩ := h.core hp hc
    rw [e] at hk
    cases hk
    exact h3
  | false =>
    rw [h.2.2.1 p hp hc] at hk
    by_cases e : 0 < w p
    · rw [if_pos e, lcs1_eq] at hk
      exact lcs_lt (fun q hq hq2 => by obtain ⟨k2, e2, -, h3⟩ := h.core hq hq2; exact ⟨k2, e2, h3⟩) 120 (Nat.le_refl 120) k hk
    · rw [if_neg e] at hk
      cases hk
theorem Srt.bd31 (h : Srt w x y wy de r co cr cc) {p : Nat} (hp : p < 120) : ∀ k, cr p = some k → k < 2 ^ 31 := fun k hk => by
  have := h.bd hp k hk
  omega
/-- a point that is not there is in no crowd -/
theorem Srt.free (h : Srt w x y wy de r co cr cc) {p : Nat} (hp : p < 120) (hw : w p = 0) : co p = false ∧ cr p = none := by
  have h1 : co p = false := by
    rw [h.1 p hp]
    unfold isC
    simp [hw]
  refine ⟨h1, ?_⟩
  rw [h.2.2.1 p hp h1, if_neg (by omega)]
theorem Srt.uniq (h : Srt w x y wy de r co cr cc) (h2 : Srt w x y wy de r co2 cr2 cc2) : (∀ p, p < 120 → co p = co2 p) ∧ (∀ p, p < 120 → cr p = cr2 p) ∧ cc = cc2 := by
  have e1 : ∀ p, p < 120 → co p = co2 p := fun p hp => by rw [h.1 p hp, h2.1 p hp]
  have eA := adj_congr (g := gp wy x y) (r := r) e1
  have ecore : ∀ p, p < 120 → co p = true → cr p = cr2 p := fun p hp hc => by
    obtain ⟨q, a1, a2, a3, a4⟩ := h.2.1 p hp hc
    obtain ⟨q2, b1, b2, b3, b4⟩ := h2.2.1 p hp (by rw [← e1 p hp]; exact hc)
    rw [← eA] at b2 b3 b4
    have b2' := (rt_congr e1 b1).mpr b2
    have := rt_un (adj_sy (gp_comm wy x y)) a2 b2' a3 b3
    subst this
    rw [a4, b4, cR_congr e1 (by omega)]
  refine ⟨e1, fun p hp => ?_, by rw [h.2.2.2, h2.2.2.2, ← eA, cR_congr e1 (Nat.le_refl 120)]⟩
  cases hc : co p with
  | true => exact ecore p hp hc
  | false =>
    rw [h.2.2.1 p hp hc, h2.2.2.1 p hp (by rw [← e1 p hp]; exact hc)]
    by_cases e : 0 < w p
    · rw [if_pos e, if_pos e, lcs1_eq, lcs1_eq]
      have a1 : ∀ n, n ≤ 120 → lcs co cr (gp wy x y p) r n = lcs co2 cr2 (gp wy x y p) r n := by
        intro n
        induction n with
        | zero => intro _; rfl
        | succ n ih =>
          intro hn
          show (if co n = true ∧ gp wy x y p n ≤ r then _ else _) = (if co2 n = true ∧ gp wy x y p n ≤ r then _ else _)
          rw [ih (by omega), ← e1 n (by omega)]
          by_cases c : co n = true ∧ gp wy x y p n ≤ r
          · rw [if_pos c, if_pos c, ecore n (by omega) c.1]
          · rw [if_neg c, if_neg c]
      exact a1 120 (Nat.le_refl 120)
    · rw [if_neg e, if_neg e]
theorem lcs_congr2 {g : Nat → Nat} {n : Nat} (hn : n ≤ 120) (h1 : ∀ p, p < 120 → co p = co2 p) (h2 : ∀ p, p < 120 → cr p = cr2 p) : lcs co cr g r n = lcs co2 cr2 g r n := by
  induction n with
  | zero => rfl
  | succ n ih =>
    show (if co n = true ∧ g n ≤ r then _ else _) = (if co2 n = true ∧ g n ≤ r then _ else _)
    rw [ih (by omega), ← h1 n (by omega), ← h2 n (by omega)]
/-- labels as they must be on the cores, borders by the least: sorted -/
theorem Srt.mk {z : Nat → Option Nat} (h1 : ∀ p, p < 120 → co p = isC w x y wy de r p) (h2 : ∀ p, p < 120 → co p = true → ∃ q, q < 120 ∧ rt co (adj co (gp wy x y) r) q ∧ cnn (adj co (gp wy x y) r) q p ∧ z p = some (cR co (adj co (gp wy x y) r) q)) (h3 : ∀ p, p < 120 → co p = false → z p = none) (hcc : cc = cR co (adj co (gp wy x y) r) 120)
    (hcr : ∀ p, p < 120 → cr p = if 0 < w p ∧ co p = false then lcs1 co z (gp wy x y p) r else z p) : Srt w x y wy de r co cr cc := by
  have hk : ∀ p, p < 120 → co p = true → cr p = z p := fun p hp hc => by rw [hcr p hp, if_neg (by simp [hc])]
  refine ⟨h1, fun p hp hc => ?_, fun p hp hc => ?_, hcc⟩
  · obtain ⟨q, a1, a2, a3, a4⟩ := h2 p hp hc
    exact ⟨q, a1, a2, a3, by rw [hk p hp hc]; exact a4⟩
  · rw [hcr p hp]
    by_cases e : 0 < w p
    · rw [if_pos ⟨e, hc⟩, if_pos e, lcs1_eq, lcs1_eq]
      exact lcs_congr 120 (fun q hq hq2 => (hk q hq hq2).symm)
    · rw [if_neg (fun q => e q.1), if_neg e, h3 p hp hc]
theorem srt_X (se : Nat → Bool) : Srt w x y wy de r (fill co (isC w x y wy de r) 120)
    (fill (gS1 (fill co (isC w x y wy de r) 120) (gp wy x y) r (fill cr (fun _ => none) 120) (fill se (fun _ => false) 120)).1 (jB w (fill co (isC w x y wy de r) 120) (gS1 (fill co (isC w x y wy de r) 120) (gp wy x y) r (fill cr (fun _ => none) 120) (fill se (fun _ => false) 120)).1 (gp wy x y) r) 120)
    (gS1 (fill co (isC w x y wy de r) 120) (gp wy x y) r (fill cr (fun _ => none) 120) (fill se (fun _ => false) 120)).2.2 := by
  have e1 : ∀ p, p < 120 → fill co (isC w x y wy de r) 120 p = isC w x y wy de r p := fun p hp => fill_in hp
  generalize fill co (isC w x y wy de r) 120 = C at e1 ⊢
  rw [gS1_eq]
  obtain ⟨i1, i2, i3, i4⟩ := gS_ok (C := C) (g := gp wy x y) (r := r) (gp_comm wy x y) (cr0 := fill cr (fun _ => none) 120) (se0 := fill se (fun _ => false) 120) (fun p hp => fill_in hp) (fun p hp => fill_in hp) 120 (Nat.le_refl 120)
  generalize gS C (gp wy x y) r (fill cr (fun _ => none) 120) (fill se (fun _ => false) 120) 120 = z at i1 i2 i3 i4 ⊢
  refine Srt.mk (z := z.1) e1 (fun p hp hc => ?_) (fun p hp hc => ?_) i1 (fun p hp => ?_)
  · obtain ⟨q, a1, a2, a3⟩ := rt_ex (A := adj C (gp wy x y) r) hc
    exact ⟨q, by omega, a2, a3, i2 p hp q (by omega) a2 a3⟩
  · cases e : z.1 p with
    | none => rfl
    | some k =>
      obtain ⟨q, a1, a2, a3, a4⟩ := i3 p k hp e
      rw [cnn_core a3 a2.1] at hc
      cases hc
  · rw [fill_in hp]
    rfl
theorem bdC_X (se : Nat → Bool) (hb : bdC cr) : bdC (fill (gS1 (fill co (isC w x y wy de r) 120) (gp wy x y) r (fill cr (fun _ => none) 120) (fill se (fun _ => false) 120)).1 (jB w (fill co (isC w x y wy de r) 120) (gS1 (fill co (isC w x y wy de r) 120) (gp wy x y) r (fill cr (fun _ => none) 120) (fill se (fun _ => false) 120)).1 (gp wy x y) r) 120) := by
  intro j k hk
  by_cases hj : j < 120
  · exact (srt_X (w := w) (x := x) (y := y) (wy := wy) (de := de) (r := r) (co := co) (cr := cr) se).bd hj k hk
  · rw [fill_out (by omega), gS1_eq] at hk
    exact (gS_bd (fun i z hz => by
      by_cases hi : i < 120
      · rw [fill_in hi] at hz
        cases hz
      · rw [fill_out (by omega)] at hz
        exact hb i z hz) 120 (Nat.le_refl 120)).1 j k hk
theorem core_X (se : Nat → Bool) : ∀ q, q < 120 → fill co (isC w x y wy de r) 120 q = true → ∃ k, (gS1 (fill co (isC w x y wy de r) 120) (gp wy x y) r (fill cr (fun _ => none) 120) (fill se (fun _ => false) 120)).1 q = some k ∧ k < 120 := by
  intro q hq hc
  obtain ⟨k, h1, h2, h3⟩ := (srt_X (w := w) (x := x) (y := y) (wy := wy) (de := de) (r := r) (co := co) (cr := cr) se).core hq hc
  rw [fill_in hq] at h1
  unfold jB at h1
  rw [if_neg (by rw [hc]; simp)] at h1
  exact ⟨k, h1, h3⟩
end SRT
end
section
def anyN (s : Nat → Bool) : Nat → Bool
  | 0 => false
  | n + 1 => anyN s n || s n
theorem anyN_t {s : Nat → Bool} {n : Nat} (h : s n = true) : anyN s (n + 1) = true := by
  show (anyN s n || s n) = true
  rw [h, Bool.or_true]
theorem anyN_f {s : Nat → Bool} {n : Nat} (h : s n = false) : anyN s (n + 1) = anyN s n := by
  show (anyN s n || s n) = _
  rw [h, Bool.or_false]
theorem anyN_k {s : Nat → Bool} {n : Nat} (h : anyN s n = true) : anyN s (n + 1) = true := by
  show (anyN s n || s n) = true
  rw [h, Bool.true_or]
theorem anyN_ex {s : Nat → Bool} : ∀ {n : Nat}, anyN s n = true → ∃ j, j < n ∧ s j = true
  | 0, h => by cases h
  | n + 1, h => by
    have h : (anyN s n || s n) = true := h
    rcases Bool.or_eq_true_iff.mp h with h | h
    · obtain ⟨j, h1, h2⟩ := anyN_ex h
      exact ⟨j, by omega, h2⟩
    · exact ⟨n, by omega, h⟩
theorem anyN_of {s : Nat → Bool} {j : Nat} (h : s j = true) : ∀ {n : Nat}, j < n → anyN s n = true
  | 0, hn => absurd hn (by omega)
  | n + 1, hn => by
    by_cases e : j = n
    · rw [← e]; exact anyN_t h
    · exact anyN_k (anyN_of h (by omega))
theorem oI_inj {q q2 : Option Nat} (h : ∀ k, q = some k → k < 2 ^ 31) (h2 : ∀ k, q2 = some k → k < 2 ^ 31) : oI q = oI q2 ↔ q = q2 := by
  cases q2 with
  | none => exact oI_none h
  | some k => exact oI_some h (h2 k rfl)
section GR3
variable {E : En} {X : Cx} {k n pc L : Nat} {lv : List (Nat × Value)} {st : List Value} {ws : va_W} {cc : ByteArray} {own : String} {Ts : List Cond} {rm : Room}
theorem g_icmp_ne_oo (F : Fx E X cc own Ts rm L) {q q2 : Option Nat} {off : Int} (tgt : Nat) (d : decode cc pc = .ok (.if_icmp .ne off, 3)) (ht : (pc : Int) + off = (tgt : Int)) (hc : ∀ k, q = some k → k < 2 ^ 31) (hc2 : ∀ k, q2 = some k → k < 2 ^ 31) (K1 : q ≠ q2 → GG E X k n tgt lv st ws) (K2 : q = q2 → GG E X k n (pc + 3) lv st ws) : GG E X k n pc lv (.int (oI q2) :: .int (oI q) :: st) ws :=
  g_icmp_ne F tgt d ht (fun h => K1 (fun z => h ((oI_inj hc hc2).mpr z))) (fun h => K2 ((oI_inj hc hc2).mp h))
end GR3
section SRT2
variable {w : Nat → Nat} {x y : Nat → Int32} {wy re de r : Nat} {co : Nat → Bool} {cr : Nat → Option Nat} {cc : Nat}
theorem cnn_first {A : Nat → Nat → Prop} {p : Nat} : ∀ (k q : Nat), pth A k p q → q ≠ p → ∃ z, z ≠ p ∧ A p z
  | 0, q, h, hn => absurd (show p = q from h).symm hn
  | k + 1, q, h, hn => by
    obtain ⟨m, h1, h2⟩ := h
    by_cases e : m = p
    · subst e
      exact ⟨q, hn, h2⟩
    · exact cnn_first k m h1 e
/-- near cores are in one crowd -/
theorem Srt.same (h : Srt w x y wy de r co cr cc) {p q : Nat} (hp : p < 120) (hq : q < 120) (h1 : co p = true) (h2 : co q = true) (hg : gp wy x y p q ≤ r) : cr p = cr q := by
  obtain ⟨a, a1, a2, a3, a4⟩ := h.2.1 p hp h1
  obtain ⟨b, b1, b2, b3, b4⟩ := h.2.1 q hq h2
  have := rt_un (adj_sy (gp_comm wy x y)) a2 b2 (cnn_st a3 ⟨hp, hq, h1, h2, hg⟩) b3
  subst this
  rw [a4, b4]
theorem Srt.conn (h : Srt w x y wy de r co cr cc) {p q : Nat} (hp : p < 120) (hq : q < 120) (h1 : co p = true) (h2 : co q = true) (he : cr p = cr q) : cnn (adj co (gp wy x y) r) p q := by
  obtain ⟨a, a1, a2, a3, a4⟩ := h.2.1 p hp h1
  obtain ⟨b, b1, b2, b3, b4⟩ := h.2.1 q hq h2
  rw [a4, b4] at he
  have e := Option.some.inj he
  have e2 : a = b := by
    rcases Nat.lt_trichotomy a b with z | z | z
    · have := cR_lt a2 z; omega
    · exact z
    · have := cR_lt b2 z; omega
  subst e2
  exact cnn_tr (cnn_sy (adj_sy (gp_comm wy x y)) a3) b3
theorem Srt.more (h : Srt w x y wy de r co cr cc) {p q : Nat} (hp : p < 120) (hq : q < 120) (h1 : co p = true) (h2 : co q = true) (he : cr q = cr p) (hn : q ≠ p) : ∃ z, z < 120 ∧ z ≠ p ∧ co z = true ∧ cr z = cr p ∧ gp wy x y p z ≤ r := by
  obtain ⟨k, hk⟩ := h.conn hp hq h1 h2 he.symm
  obtain ⟨z, z1, z2⟩ := cnn_first k q hk hn
  exact ⟨z, z2.2.1, z1, z2.2.2.2.1, (h.same hp z2.2.1 h1 z2.2.2.2.1 z2.2.2.2.2).symm, z2.2.2.2.2⟩
end SRT2
/-- stray, border, core -/
def knd (co : Nat → Bool) (cr : Nat → Option Nat) (p : Nat) : Nat := if co p = true then 2 else if cr p = none then 0 else 1
theorem knd_le (co : Nat → Bool) (cr : Nat → Option Nat) (p : Nat) : knd co cr p ≤ 2 := by
  unfold knd
  split
  · omega
  · split <;> omega
/-- the least and the greatest of those that are so -/
def mnf (x : Nat → Int32) (s : Nat → Bool) (z : Int32) : Nat → Int32
  | 0 => z
  | n + 1 => if s n = true then (if x n < mnf x s z n then x n else mnf x s z n) else mnf x s z n
def mxf (x : Nat → Int32) (s : Nat → Bool) (z : Int32) : Nat → Int32
  | 0 => z
  | n + 1 => if s n = true then (if mxf x s z n < x n then x n else mxf x s z n) else mxf x s z n
noncomputable def mn1 (x : Nat → Int32) (s : Nat → Bool) (z : Int32) : Int32 := hide (mnf x s z 120)
theorem mn1_eq (x : Nat → Int32) (s : Nat → Bool) (z : Int32) : mn1 x s z = mnf x s z 120 := hide_eq _
noncomputable def mx1 (x : Nat → Int32) (s : Nat → Bool) (z : Int32) : Int32 := hide (mxf x s z 120)
theorem mx1_eq (x : Nat → Int32) (s : Nat → Bool) (z : Int32) : mx1 x s z = mxf x s z 120 := hide_eq _
theorem mnf_y {x : Nat → Int32} {s : Nat → Bool} {z : Int32} {n : Nat} (h : s n = true) : mnf x s z (n + 1) = if x n < mnf x s z n then x n else mnf x s z n := if_pos h
theorem mnf_n {x : Nat → Int32} {s : Nat → Bool} {z : Int32} {n : Nat} (h : ¬ s n = true) : mnf x s z (n + 1) = mnf x s z n := if_neg h
theorem mxf_y {x : Nat → Int32} {s : Nat → Bool} {z : Int32} {n : Nat} (h : s n = true) : mxf x s z (n + 1) = if mxf x s z n < x n then x n else mxf x s z n := if_pos h
theorem mxf_n {x : Nat → Int32} {s : Nat → Bool} {z : Int32} {n : Nat} (h : ¬ s n = true) : mxf x s z (n + 1) = mxf x s z n := if_neg h
end
section
/-! From which reach on a point is a core. -/
def isDn (w g : Nat → Nat) (de : Nat) : Option Nat → Prop
  | some r => de ≤ ww w g r ∧ ∀ r', r' < r → ww w g r' < de
  | none => ∀ r, ww w g r < de
theorem isDn_un {w g : Nat → Nat} {de : Nat} {a b : Option Nat} (h1 : isDn w g de a) (h2 : isDn w g de b) : a = b := by
  cases a with
  | none =>
    cases b with
    | none => rfl
    | some r => exact absurd h2.1 (by have := h1 r; omega)
  | some r =>
    cases b with
    | none => exact absurd h1.1 (by have := h2 r; omega)
    | some r' =>
      rcases Nat.lt_trichotomy r r' with h | h | h
      · exact absurd h1.1 (by have := h2.2 r h; omega)
      · rw [h]
      · exact absurd h2.1 (by have := h1.2 r' h; omega)
theorem sumN_mono {f g : Nat → Nat} : ∀ n, (∀ j, j < n → f j ≤ g j) → sumN f n ≤ sumN g n
  | 0, _ => Nat.le_refl 0
  | n + 1, h => by
    have h1 := sumN_mono n (fun j hj => h j (by omega))
    have h2 := h n (by omega)
    show sumN f n + f n ≤ sumN g n + g n
    omega
/-- one more is put in -/
theorem sumN_ins {f f' : Nat → Nat} {at' : Nat} : ∀ k, at' ≤ k → (∀ i, i < at' → f' i = f i) → (∀ i, at' ≤ i → i < k → f' (i + 1) = f i) → sumN f' (k + 1) = sumN f k + f' at'
  | 0, h, _, _ => by
    have e : at' = 0 := by omega
    subst e
    show 0 + f' 0 = 0 + f' 0
    rfl
  | k + 1, h, h1, h2 => by
    by_cases e : at' = k + 1
    · subst e
      show sumN f' (k + 1) + f' (k + 1) = _
      rw [sumN_congr (k + 1) h1]
    · have ih := sumN_ins k (by omega) h1 (fun i a b => h2 i a (by omega))
      show sumN f' (k + 1) + f' (k + 1) = sumN f k + f k + f' at'
      rw [ih, h2 k (by omega) (by omega)]
      omega
def kSf (ng nw : Nat → Nat) (r : Nat) : Nat → Nat := fun i => if ng i ≤ r then nw i else 0
/-- what is kept within a reach -/
def kS (ng nw : Nat → Nat) (k r : Nat) : Nat := sumN (kSf ng nw r) k
def srtN (ng : Nat → Nat) (k : Nat) : Prop := ∀ i j, i ≤ j → j < k → ng i ≤ ng j
/-- (gap, weight) is put in at its place -/
def InsR (ng nw ng2 nw2 : Nat → Nat) (k gap wt : Nat) : Prop := ∃ at', at' ≤ k ∧ (∀ i, i < at' → ng2 i = ng i ∧ nw2 i = nw i) ∧ ng2 at' = gap ∧ nw2 at' = wt ∧ (∀ i, at' ≤ i → i < k → ng2 (i + 1) = ng i ∧ nw2 (i + 1) = nw i) ∧ (∀ i, i < at' → ng i ≤ gap) ∧ (∀ i, at' ≤ i → i < k → gap < ng i)
theorem InsR.sum {ng nw ng2 nw2 : Nat → Nat} {k gap wt : Nat} (h : InsR ng nw ng2 nw2 k gap wt) : sumN nw2 (k + 1) = sumN nw k + wt := by
  obtain ⟨a, h0, h1, h2, h3, h4, -, -⟩ := h
  rw [sumN_ins (f := nw) k h0 (fun i hi => (h1 i hi).2) (fun i a b => (h4 i a b).2), h3]
theorem InsR.kk {ng nw ng2 nw2 : Nat → Nat} {k gap wt : Nat} (h : InsR ng nw ng2 nw2 k gap wt) (r : Nat) : kS ng2 nw2 (k + 1) r = kS ng nw k r + (if gap ≤ r then wt else 0) := by
  obtain ⟨a, h0, h1, h2, h3, h4, -, -⟩ := h
  unfold kS
  rw [sumN_ins (f := kSf ng nw r) (f' := kSf ng2 nw2 r) k h0 (fun i hi => by unfold kSf; rw [(h1 i hi).1, (h1 i hi).2]) (fun i a b => by unfold kSf; rw [(h4 i a b).1, (h4 i a b).2])]
  unfold kSf
  rw [h2, h3]
theorem InsR.srt {ng nw ng2 nw2 : Nat → Nat} {k gap wt : Nat} (h : InsR ng nw ng2 nw2 k gap wt) (hs : srtN ng k) : srtN ng2 (k + 1) := by
  obtain ⟨a, h0, h1, h2, h3, h4, h5, h6⟩ := h
  have val : ∀ i, i < k + 1 → (i < a ∧ ng2 i = ng i) ∨ (i = a ∧ ng2 i = gap) ∨ (a < i ∧ ng2 i = ng (i - 1)) := fun i hi => by
    rcases Nat.lt_trichotomy i a with z | z | z
    · exact Or.inl ⟨z, (h1 i z).1⟩
    · exact Or.inr (Or.inl ⟨z, by rw [z]; exact h2⟩)
    · refine Or.inr (Or.inr ⟨z, ?_⟩)
      have := (h4 (i - 1) (by omega) (by omega)).1
      rw [show i - 1 + 1 = i by omega] at this
      exact this
  intro i j hij hj
  rcases val i (by omega) with ⟨a1, a2⟩ | ⟨a1, a2⟩ | ⟨a1, a2⟩ <;> rcases val j hj with ⟨b1, b2⟩ | ⟨b1, b2⟩ | ⟨b1, b2⟩ <;> rw [a2, b2]
  · exact hs i j hij (by omega)
  · exact h5 i a1
  · exact hs i (j - 1) (by omega) (by omega)
  · omega
  · exact Nat.le_refl _
  · exact Nat.le_of_lt (h6 (j - 1) (by omega) (by omega))
  · omega
  · omega
  · exact hs (i - 1) (j - 1) (by omega) (by omega)
theorem InsR.last {ng nw ng2 nw2 : Nat → Nat} {k gap wt : Nat} (h : InsR ng nw ng2 nw2 k gap wt) (hk : 1 ≤ k) (hg : gap < ng (k - 1)) : ng2 k = ng (k - 1) := by
  obtain ⟨a, h0, h1, h2, h3, h4, h5, h6⟩ := h
  have : a ≤ k - 1 := by
    rcases Nat.lt_or_ge (k - 1) a with z | z
    · have := h5 (k - 1) z
      omega
    · exact z
  have h8 := (h4 (k - 1) this (by omega)).1
  rw [show k - 1 + 1 = k by omega] at h8
  exact h8
/-- what is known of the kept ones, before those that are not needed have gone -/
def dT (w g : Nat → Nat) (de q k b : Nat) (ng nw : Nat → Nat) : Prop := k ≤ q ∧ b = sumN nw k ∧ srtN ng k ∧ (∀ r, kS ng nw k r ≤ sumN (wwf w g r) q) ∧ (∀ r, (b < de ∨ (1 ≤ k ∧ r < ng (k - 1))) → kS ng nw k r = sumN (wwf w g r) q)
def dI (w g : Nat → Nat) (de q k b : Nat) (ng nw : Nat → Nat) : Prop := dT w g de q k b ng nw ∧ (de ≤ b → b < de + nw (k - 1))
theorem kS_le {ng nw : Nat → Nat} (k r : Nat) : kS ng nw k r ≤ sumN nw k := sumN_mono k (fun j _ => by unfold kSf; split <;> omega)
theorem dI_0 {w g : Nat → Nat} {de : Nat} (h : 1 ≤ de) (ng nw : Nat → Nat) : dI w g de 0 0 0 ng nw := ⟨⟨Nat.le_refl 0, rfl, fun i j _ h => absurd h (by omega), fun r => Nat.le_refl 0, fun r _ => rfl⟩, fun h2 => by omega⟩
theorem wwf_0 {w g : Nat → Nat} {r q : Nat} (h : w q = 0) : wwf w g r q = 0 := by
  unfold wwf
  rw [if_neg (by omega)]
theorem wwf_y {w g : Nat → Nat} {r q : Nat} (h : 0 < w q) : wwf w g r q = if g q ≤ r then w q else 0 := by
  unfold wwf
  by_cases e : g q ≤ r
  · rw [if_pos ⟨h, e⟩, if_pos e]
  · rw [if_neg (fun z => e z.2), if_neg e]
theorem dI_free {w g : Nat → Nat} {de q k b : Nat} {ng nw : Nat → Nat} (h : dI w g de q k b ng nw) (hw : w q = 0) : dI w g de (q + 1) k b ng nw := by
  obtain ⟨⟨h1, h2, h3, h4, h5⟩, h6⟩ := h
  have e : ∀ r, sumN (wwf w g r) (q + 1) = sumN (wwf w g r) q := fun r => by
    show _ + wwf w g r q = _
    rw [wwf_0 hw]
    rfl
  exact ⟨⟨by omega, h2, h3, fun r => by rw [e]; exact h4 r, fun r hr => by rw [e]; exact h5 r hr⟩, h6⟩
theorem d_pos {w g : Nat → Nat} {de q k b : Nat} {ng nw : Nat → Nat} (h : dT w g de q k b ng nw) (hd : 1 ≤ de) (hb : de ≤ b) : 1 ≤ k := by
  obtain ⟨h1, h2, -⟩ := h
  rcases Nat.eq_zero_or_pos k with z | z
  · subst z
    have : b = 0 := h2
    omega
  · exact z
/-- one that is too far is left out -/
theorem dI_far {w g : Nat → Nat} {de q k b : Nat} {ng nw : Nat → Nat} (h : dI w g de q k b ng nw) (hd : 1 ≤ de) (hb : de ≤ b) (hg : ng (k - 1) ≤ g q) : dI w g de (q + 1) k b ng nw := by
  obtain ⟨ht, h6⟩ := h
  have hk := d_pos ht hd hb
  obtain ⟨h1, h2, h3, h4, h5⟩ := ht
  refine ⟨⟨by omega, h2, h3, fun r => ?_, fun r hr => ?_⟩, h6⟩
  · have := h4 r
    show _ ≤ _ + wwf w g r q
    omega
  · rcases hr with hr | hr
    · omega
    · show _ = _ + wwf w g r q
      rw [h5 r (Or.inr hr)]
      unfold wwf
      rw [if_neg (by omega)]
      rfl
/-- one more is kept -/
theorem dT_ins {w g : Nat → Nat} {de q k b : Nat} {ng nw ng2 nw2 : Nat → Nat} (h : dI w g de q k b ng nw) (hd : 1 ≤ de) (hw : 0 < w q) (hi : InsR ng nw ng2 nw2 k (g q) (w q)) (hc : b < de ∨ g q < ng (k - 1)) : dT w g de (q + 1) (k + 1) (b + w q) ng2 nw2 := by
  obtain ⟨ht, -⟩ := h
  have hpos := d_pos ht hd
  obtain ⟨h1, h2, h3, h4, h5⟩ := ht
  refine ⟨by omega, by rw [hi.sum, h2], hi.srt h3, fun r => ?_, fun r hr => ?_⟩
  · rw [hi.kk r]
    have := h4 r
    show _ ≤ _ + wwf w g r q
    rw [wwf_y hw]
    omega
  · rw [hi.kk r]
    show _ = _ + wwf w g r q
    rw [wwf_y hw]
    have key : kS ng nw k r = sumN (wwf w g r) q := by
      by_cases hb : b < de
      · exact h5 r (Or.inl hb)
      · have hk := hpos (by omega)
        rcases hr with hr | hr
        · omega
        · rw [show k + 1 - 1 = k by omega, hi.last hk (by omega)] at hr
          exact h5 r (Or.inr ⟨hk, hr.2⟩)
    rw [key]
/-- the last one isn't needed -/
theorem dT_drop {w g : Nat → Nat} {de q k b : Nat} {ng nw : Nat → Nat} (h : dT w g de q (k + 1) b ng nw) (hd : 1 ≤ de) (hb : de + nw k ≤ b) : dT w g de q k (b - nw k) ng nw := by
  obtain ⟨h1, h2, h3, h4, h5⟩ := h
  have e : sumN nw (k + 1) = sumN nw k + nw k := rfl
  have hb2 : b - nw k = sumN nw k := by omega
  have hk1 : 1 ≤ k := by
    rcases Nat.eq_zero_or_pos k with z | z
    · subst z
      have : sumN nw 0 = 0 := rfl
      omega
    · exact z
  refine ⟨by omega, hb2, fun i j a c => h3 i j a (by omega), fun r => ?_, fun r hr => ?_⟩
  · have := h4 r
    have e2 : kS ng nw (k + 1) r = kS ng nw k r + kSf ng nw r k := rfl
    omega
  · rcases hr with hr | hr
    · omega
    · have hs := h3 (k - 1) k (by omega) (by omega)
      have e2 : kS ng nw (k + 1) r = kS ng nw k r + kSf ng nw r k := rfl
      have e3 : kSf ng nw r k = 0 := by
        unfold kSf
        rw [if_neg (by omega)]
      have := h5 r (Or.inr ⟨by omega, by rw [show k + 1 - 1 = k by omega]; omega⟩)
      omega
theorem dI_done {w g : Nat → Nat} {de q k b : Nat} {ng nw : Nat → Nat} (h : dT w g de q k b ng nw) (hs : k = 0 ∨ b < de + nw (k - 1)) (hd : 1 ≤ de) : dI w g de q k b ng nw := ⟨h, fun hb => by
  rcases hs with hs | hs
  · have := d_pos h hd hb
    omega
  · exact hs⟩
/-- at the end -/
theorem dI_some {w g : Nat → Nat} {de k b : Nat} {ng nw : Nat → Nat} (h : dI w g de 120 k b ng nw) (hd : 1 ≤ de) (hb : de ≤ b) : isDn w g de (some (ng (k - 1))) := by
  obtain ⟨ht, h6⟩ := h
  have hk := d_pos ht hd hb
  obtain ⟨h1, h2, h3, h4, h5⟩ := ht
  have h6 := h6 hb
  constructor
  · have e : kS ng nw k (ng (k - 1)) = sumN nw k := sumN_congr k (fun j hj => by
      unfold kSf
      rw [if_pos (h3 j (k - 1) (by omega) (by omega))])
    have := h4 (ng (k - 1))
    unfold ww
    rw [sum1_eq]
    omega
  · intro r hr
    unfold ww
    rw [sum1_eq, ← h5 r (Or.inr ⟨hk, hr⟩)]
    obtain ⟨k', rfl⟩ : ∃ k', k = k' + 1 := ⟨k - 1, by omega⟩
    have e2 : kS ng nw (k' + 1) r = kS ng nw k' r + kSf ng nw r k' := rfl
    rw [show k' + 1 - 1 = k' by omega] at hr h6
    have e3 : kSf ng nw r k' = 0 := by
      unfold kSf
      rw [if_neg (by omega)]
    have e4 : sumN nw (k' + 1) = sumN nw k' + nw k' := rfl
    have := kS_le (ng := ng) (nw := nw) k' r
    omega
theorem dI_none {w g : Nat → Nat} {de k b : Nat} {ng nw : Nat → Nat} (h : dI w g de 120 k b ng nw) (hb : b < de) : isDn w g de none := by
  obtain ⟨⟨h1, h2, h3, h4, h5⟩, h6⟩ := h
  intro r
  unfold ww
  rw [sum1_eq, ← h5 r (Or.inl hb)]
  have := kS_le (ng := ng) (nw := nw) k r
  omega
theorem sumN_ge {f : Nat → Nat} {j : Nat} : ∀ {n : Nat}, j < n → f j ≤ sumN f n
  | 0, h => absurd h (by omega)
  | n + 1, h => by
    show f j ≤ sumN f n + f n
    by_cases e : j = n
    · rw [e]; omega
    · have := sumN_ge (f := f) (j := j) (n := n) (by omega)
      omega
theorem nI_dec {k : Nat} : nI (k + 1) + Int32.ofInt (-1) = nI k := by
  rw [show Int32.ofInt (-1) = -1 from by decide]
  exact pk_m1 k
end
section
/-! From which reach on two points hang together. -/
def eD (w d : Nat → Nat) (g : Nat → Nat → Nat) (r a b : Nat) : Prop := a < 120 ∧ b < 120 ∧ 0 < w a ∧ 0 < w b ∧ d a ≤ r ∧ d b ≤ r ∧ g a b ≤ r
def RR (w d : Nat → Nat) (g : Nat → Nat → Nat) (p r a : Nat) : Prop := d p ≤ r ∧ cnn (eD w d g r) p a
/-- the least reach with which two hang together -/
def isMt (w d : Nat → Nat) (g : Nat → Nat → Nat) (p q m : Nat) : Prop := RR w d g p m q ∧ ∀ r, RR w d g p r q → m ≤ r
theorem isMt_un {w d : Nat → Nat} {g : Nat → Nat → Nat} {p q m m2 : Nat} (h1 : isMt w d g p q m) (h2 : isMt w d g p q m2) : m = m2 := Nat.le_antisymm (h1.2 _ h2.1) (h2.2 _ h1.1)
theorem RR_mono {w d : Nat → Nat} {g : Nat → Nat → Nat} {p r r2 a : Nat} (h : RR w d g p r a) (hr : r ≤ r2) : RR w d g p r2 a :=
  ⟨Nat.le_trans h.1 hr, cnn_ind (S := fun z => cnn (eD w d g r2) p z) h.2 (cnn_rf p) (fun m q h1 h2 => cnn_st h1 ⟨h2.1, h2.2.1, h2.2.2.1, h2.2.2.2.1, Nat.le_trans h2.2.2.2.2.1 hr, Nat.le_trans h2.2.2.2.2.2.1 hr, Nat.le_trans h2.2.2.2.2.2.2 hr⟩)⟩
theorem RR_d {w d : Nat → Nat} {g : Nat → Nat → Nat} {p r a : Nat} (h : RR w d g p r a) : d a ≤ r := cnn_ind (S := fun z => d z ≤ r) h.2 h.1 (fun _ _ _ h2 => h2.2.2.2.2.2.1)
abbrev MX : Nat := 9223372036854775807
/-- what holds of costs and settled points -/
def DJ (w d : Nat → Nat) (g : Nat → Nat → Nat) (p : Nat) (cs : Nat → Nat) (se : Nat → Bool) : Prop :=
  (∀ j, j < 120 → 0 < w j → cs j < MX → RR w d g p (cs j) j) ∧
  (∀ a, a < 120 → 0 < w a → se a = true → cs a < MX ∧ ∀ r, RR w d g p r a → cs a ≤ r) ∧
  (∀ a b, a < 120 → b < 120 → 0 < w a → 0 < w b → se a = true → se b = false → cs b ≤ max (max (cs a) (d b)) (g a b)) ∧
  cs p ≤ d p ∧ (p < 120 ∧ 0 < w p) ∧ (∀ j, j < 120 → 0 < w j → d j < MX) ∧ (∀ a b, g a b < MX)
theorem DJ_min {w d : Nat → Nat} {g : Nat → Nat → Nat} {p : Nat} {cs : Nat → Nat} {se : Nat → Bool} (h : DJ w d g p cs se) {b : Nat} (hb : b < 120) (hw : 0 < w b) (hs : se b = false) (hm : ∀ j, j < 120 → 0 < w j → se j = false → cs b ≤ cs j) : cs b < MX ∧ ∀ r, RR w d g p r b → cs b ≤ r := by
  obtain ⟨h1, h2, h3, h4, h5, h6, h7⟩ := h
  constructor
  · cases hp : se p with
    | false =>
      have := hm p h5.1 h5.2 hp
      have := h6 p h5.1 h5.2
      omega
    | true =>
      have a1 := h3 p b h5.1 hb h5.2 hw hp hs
      have a2 := (h2 p h5.1 h5.2 hp).1
      have a3 := h6 b hb hw
      have a4 := h7 p b
      have : max (max (cs p) (d b)) (g p b) < MX := Nat.max_lt.mpr ⟨Nat.max_lt.mpr ⟨a2, a3⟩, a4⟩
      omega
  · intro r hr
    have key : ∀ z, cnn (eD w d g r) p z → (z < 120 ∧ 0 < w z) ∧ (cs b ≤ r ∨ se z = true) := fun z hz => by
      obtain ⟨k, hz⟩ := hz
      induction k generalizing z with
      | zero =>
        have e : p = z := hz
        subst e
        refine ⟨h5, ?_⟩
        cases hp : se p with
        | true => exact Or.inr rfl
        | false =>
          have := hm p h5.1 h5.2 hp
          have := hr.1
          exact Or.inl (by omega)
      | succ k ih =>
        obtain ⟨m, m1, m2⟩ := hz
        obtain ⟨i1, i2⟩ := ih m m1
        refine ⟨⟨m2.2.1, m2.2.2.2.1⟩, ?_⟩
        rcases i2 with i2 | i2
        · exact Or.inl i2
        · cases hz2 : se z with
          | true => exact Or.inr rfl
          | false =>
            have a1 := h3 m z i1.1 m2.2.1 i1.2 m2.2.2.2.1 i2 hz2
            have a2 := (h2 m i1.1 i1.2 i2).2 r ⟨hr.1, k, m1⟩
            have a3 : max (max (cs m) (d z)) (g m z) ≤ r := Nat.max_le.mpr ⟨Nat.max_le.mpr ⟨a2, m2.2.2.2.2.2.1⟩, m2.2.2.2.2.2.2⟩
            have a4 := hm z m2.2.1 m2.2.2.2.1 hz2
            exact Or.inl (by omega)
    rcases (key b hr.2).2 with h | h
    · exact h
    · rw [hs] at h
      cases h
/-- the costs when one more is settled -/
def rlx (w d : Nat → Nat) (g : Nat → Nat) (cb : Nat) (cs : Nat → Nat) (se : Nat → Bool) : Nat → Nat := fun j => if 0 < w j ∧ se j = false then min (cs j) (max (max cb (d j)) (g j)) else cs j
theorem DJ_step {w d : Nat → Nat} {g : Nat → Nat → Nat} {p : Nat} {cs cs2 : Nat → Nat} {se : Nat → Bool} (h : DJ w d g p cs se) {b : Nat} (hb : b < 120) (hw : 0 < w b) (hs : se b = false) (hm : ∀ j, j < 120 → 0 < w j → se j = false → cs b ≤ cs j) (h2 : ∀ j, j < 120 → cs2 j = rlx w d (g b) (cs b) cs (up se b true) j) : DJ w d g p cs2 (up se b true) := by
  obtain ⟨m1, m2⟩ := DJ_min h hb hw hs hm
  obtain ⟨h1, hB, h3, h4, h5, h6, h7⟩ := h
  have keep : ∀ j, j < 120 → up se b true j = true → cs2 j = cs j := fun j hj hse => by
    rw [h2 j hj]
    unfold rlx
    rw [if_neg (by rw [hse]; simp)]
  have le : ∀ j, j < 120 → cs2 j ≤ cs j := fun j hj => by
    rw [h2 j hj]
    unfold rlx
    split
    · exact Nat.min_le_left _ _
    · exact Nat.le_refl _
  have bs : cs2 b = cs b := keep b hb up_s
  refine ⟨fun j hj hwj hlt => ?_, fun a ha hwa hse => ?_, fun a c ha hc hwa hwc hsa hsc => ?_, Nat.le_trans (le p h5.1) h4, h5, h6, h7⟩
  · rw [h2 j hj] at hlt ⊢
    unfold rlx at hlt ⊢
    by_cases c : 0 < w j ∧ up se b true j = false
    · rw [if_pos c] at hlt ⊢
      rcases Nat.le_total (cs j) (max (max (cs b) (d j)) (g b j)) with z | z
      · rw [Nat.min_eq_left z] at hlt ⊢
        exact h1 j hj hwj hlt
      · rw [Nat.min_eq_right z] at hlt ⊢
        have hb1 := h1 b hb hw m1
        have hbd := RR_d hb1
        have e1 : cs b ≤ max (max (cs b) (d j)) (g b j) := Nat.le_trans (Nat.le_max_left _ _) (Nat.le_max_left _ _)
        have hb2 := RR_mono hb1 e1
        exact ⟨hb2.1, cnn_st hb2.2 ⟨hb, hj, hw, hwj, Nat.le_trans hbd e1, Nat.le_trans (Nat.le_max_right _ _) (Nat.le_max_left _ _), Nat.le_max_right _ _⟩⟩
    · rw [if_neg c] at hlt ⊢
      exact h1 j hj hwj hlt
  · rw [keep a ha hse]
    by_cases e : a = b
    · subst e
      exact ⟨m1, m2⟩
    · rw [up_n e] at hse
      exact hB a ha hwa hse
  · rw [keep a ha hsa]
    have hcb : c ≠ b := fun e => by
      rw [e, up_s] at hsc
      cases hsc
    by_cases e : a = b
    · subst e
      rw [h2 c hc]
      unfold rlx
      rw [if_pos ⟨hwc, hsc⟩]
      exact Nat.min_le_right _ _
    · rw [up_n e] at hsa
      have := h3 a c ha hc hwa hwc hsa (by rw [up_n hcb] at hsc; exact hsc)
      exact Nat.le_trans (le c hc) this
theorem DJ_0 {w d : Nat → Nat} {g : Nat → Nat → Nat} {p : Nat} {cs : Nat → Nat} {se : Nat → Bool} (hp : p < 120) (hw : 0 < w p) (hd : ∀ j, j < 120 → 0 < w j → d j < MX) (hg : ∀ a b, g a b < MX) (hc : cs p = d p) (hn : ∀ j, j < 120 → j ≠ p → cs j = MX) (hs : ∀ j, j < 120 → se j = false) : DJ w d g p cs se := by
  refine ⟨fun j hj hwj hlt => ?_, fun a ha _ hse => ?_, fun a b ha _ _ _ hse => ?_, by rw [hc]; exact Nat.le_refl _, ⟨hp, hw⟩, hd, hg⟩
  · by_cases e : j = p
    · subst e
      rw [hc]
      exact ⟨Nat.le_refl _, cnn_rf j⟩
    · rw [hn j hj e] at hlt
      omega
  · rw [hs a ha] at hse
    cases hse
  · rw [hs a ha] at hse
    cases hse
/-- the cheapest that isn't settled -/
def chps (cs : Nat → Nat) (n : Nat) : Option Nat → Bool
  | none => true
  | some b => decide (cs n < cs b)
def chp (w : Nat → Nat) (se : Nat → Bool) (cs : Nat → Nat) : Nat → Option Nat
  | 0 => none
  | n + 1 => if 0 < w n ∧ se n = false ∧ chps cs n (chp w se cs n) = true then some n else chp w se cs n
noncomputable def chp1 (w : Nat → Nat) (se : Nat → Bool) (cs : Nat → Nat) : Option Nat := hide (chp w se cs 120)
theorem chp1_eq (w : Nat → Nat) (se : Nat → Bool) (cs : Nat → Nat) : chp1 w se cs = chp w se cs 120 := hide_eq _
theorem chp_y {w : Nat → Nat} {se : Nat → Bool} {cs : Nat → Nat} {n : Nat} (h1 : 0 < w n) (h2 : se n = false) (h3 : chps cs n (chp w se cs n) = true) : chp w se cs (n + 1) = some n := if_pos ⟨h1, h2, h3⟩
theorem chp_n {w : Nat → Nat} {se : Nat → Bool} {cs : Nat → Nat} {n : Nat} (h : ¬ (0 < w n ∧ se n = false ∧ chps cs n (chp w se cs n) = true)) : chp w se cs (n + 1) = chp w se cs n := if_neg h
theorem chp_ok {w : Nat → Nat} {se : Nat → Bool} {cs : Nat → Nat} : ∀ n, (∀ b, chp w se cs n = some b → b < n ∧ 0 < w b ∧ se b = false ∧ ∀ j, j < n → 0 < w j → se j = false → cs b ≤ cs j) ∧ (chp w se cs n = none → ∀ j, j < n → ¬ (0 < w j ∧ se j = false))
  | 0 => ⟨fun b h => (by cases h), fun _ j hj => absurd hj (by omega)⟩
  | n + 1 => by
    obtain ⟨i1, i2⟩ := chp_ok (w := w) (se := se) (cs := cs) n
    by_cases c : 0 < w n ∧ se n = false ∧ chps cs n (chp w se cs n) = true
    · rw [chp_y c.1 c.2.1 c.2.2]
      refine ⟨fun b hb => ?_, fun h => by cases h⟩
      cases hb
      refine ⟨by omega, c.1, c.2.1, fun j hj hw hs => ?_⟩
      by_cases e : j = n
      · rw [e]; exact Nat.le_refl _
      · cases hq : chp w se cs n with
        | none => exact absurd ⟨hw, hs⟩ (i2 hq j (by omega))
        | some b =>
          have h1 := (i1 b hq).2.2.2 j (by omega) hw hs
          have h2 := c.2.2
          rw [hq] at h2
          have h3 : cs n < cs b := of_decide_eq_true h2
          omega
    · rw [chp_n c]
      refine ⟨fun b hb => ?_, fun h j hj => ?_⟩
      · obtain ⟨a1, a2, a3, a4⟩ := i1 b hb
        refine ⟨by omega, a2, a3, fun j hj hw hs => ?_⟩
        by_cases e : j = n
        · subst e
          have h2 : ¬ chps cs j (chp w se cs j) = true := fun z => c ⟨hw, hs, z⟩
          rw [hb] at h2
          have h3 : ¬ cs j < cs b := fun z => h2 (decide_eq_true z)
          omega
        · exact a4 j (by omega) hw hs
      · by_cases e : j = n
        · subst e
          intro z
          refine c ⟨z.1, z.2, ?_⟩
          rw [h]
          rfl
        · exact i2 h j (by omega)
theorem chp_lt {w : Nat → Nat} {se : Nat → Bool} {cs : Nat → Nat} {n b : Nat} (h : chp w se cs n = some b) : b < n := ((chp_ok n).1 b h).1
def bdN (ng nw : Nat → Nat) : Prop := (∀ i, ng i < MX) ∧ ∀ i, nw i ≤ 20
theorem up_bd {f : Nat → Nat} {B k v : Nat} (h : ∀ i, f i < B) (hv : v < B) : ∀ i, up f k v i < B := fun i => by
  unfold up
  split
  · exact hv
  · exact h i
theorem up_le {f : Nat → Nat} {B k v : Nat} (h : ∀ i, f i ≤ B) (hv : v ≤ B) : ∀ i, up f k v i ≤ B := fun i => by
  unfold up
  split
  · exact hv
  · exact h i
/-- the reaches from which on points are cores are known -/
def CfOk (w : Nat → Nat) (x y : Nat → Int32) (wy de : Nat) (cf : Nat → Option Nat) (n : Nat) : Prop := ∀ p, p < n → 0 < w p → isDn w (gp wy x y p) de (cf p) ∧ ∀ d, cf p = some d → d < MX
end
section
/-! What a call answers, and what it does. -/
abbrev VT : Type := (Nat → Nat) × (Nat → Int32) × (Nat → Int32) × Nat × Nat × Nat
def pt (w : Nat → Nat) (p : Int32) : Option Nat := match idx p with
  | some j => if 0 < w j then some j else none
  | none => none
theorem isPt_t {s : Nat → Bool} {p : Int32} (h : isPt s p = true) : ∃ j, j < 120 ∧ p = nI j ∧ s j = true := by
  rcases pk_ix p (n := 120) (by decide) with hp | hp | ⟨j, hj, rfl⟩
  · unfold isPt at h
    rw [idx_neg hp] at h
    cases h
  · unfold isPt at h
    rw [idx_big hp] at h
    cases h
  · unfold isPt at h
    rw [idx_nI hj] at h
    exact ⟨j, hj, rfl, h⟩
theorem pt_nI {w : Nat → Nat} {j : Nat} (hj : j < 120) (h : 0 < w j) : pt w (nI j) = some j := by
  unfold pt
  rw [idx_nI hj]
  exact if_pos h
theorem pt_f {w : Nat → Nat} {p : Int32} (h : isPt (fun j => decide (0 < w j)) p = false) : pt w p = none := by
  unfold isPt at h
  unfold pt
  cases e : idx p with
  | none => rfl
  | some j =>
    rw [e] at h
    exact if_neg (of_decide_eq_false h)
theorem pt_s {w : Nat → Nat} {p : Int32} {j : Nat} (h : pt w p = some j) : j < 120 ∧ p = nI j ∧ 0 < w j := by
  unfold pt at h
  rcases pk_ix p (n := 120) (by decide) with hp | hp | ⟨i, hi, rfl⟩
  · rw [idx_neg hp] at h
    cases h
  · rw [idx_big hp] at h
    cases h
  · rw [idx_nI hi] at h
    by_cases c : 0 < w i
    · have h : (if 0 < w i then some i else none) = some j := h
      rw [if_pos c] at h
      cases h
      exact ⟨hi, rfl, c⟩
    · have h : (if 0 < w i then some i else none) = some j := h
      rw [if_neg c] at h
      cases h
section SP
variable (w : Nat → Nat) (x y : Nat → Int32) (wy re de : Nat)
noncomputable def pointF (px py wt : Int32) : Int32 × VT := if isPl px py = true ∧ ¬ wt < 1 ∧ wt ≤ 20 then match fst1 (fun j => decide (w j = 0)) with
    | none => (oI none, (w, x, y, wy, re, de))
    | some j => (nI j, (up w j wt.toNatClampNeg, up x j px, up y j py, wy, re, de))
  else (oI none, (w, x, y, wy, re, de))
noncomputable def removeF (p : Int32) : Int32 × VT := match pt w p with
  | none => (oI none, (w, x, y, wy, re, de))
  | some j => (nI (sum1 (fun i => if 0 < up w j 0 i then 1 else 0)), (up w j 0, x, y, wy, re, de))
def moveF (p px py : Int32) : Int32 × VT := match pt w p with
  | none => (nI 0, (w, x, y, wy, re, de))
  | some j => if isPl px py = true then (nI 1, (w, up x j px, up y j py, wy, re, de)) else (nI 0, (w, x, y, wy, re, de))
def wayF (z : Int32) : Int32 × VT := if ¬ z < 0 ∧ z ≤ 2 then (nI 1, (w, x, y, z.toNatClampNeg, re, de)) else (nI 0, (w, x, y, wy, re, de))
def reachF (z : Int64) : Int32 × VT := if z < 0 then (nI 0, (w, x, y, wy, re, de)) else (nI 1, (w, x, y, wy, z.toInt.toNat, de))
def demandF (z : Int32) : Int32 × VT := if ¬ z < 1 ∧ z ≤ 2400 then (nI 1, (w, x, y, wy, re, z.toNatClampNeg)) else (nI 0, (w, x, y, wy, re, de))
def distF (p q : Int32) : Int64 := match pt w p, pt w q with
  | some i, some j => lN (gp wy x y i j)
  | _, _ => oL none
noncomputable def aroundF (p : Int32) : Int32 := match pt w p with
  | none => oI none
  | some j => nI (ww w (gp wy x y j) re)
def kindR (p r : Int32) : Prop := match pt w p with
  | none => r = oI none
  | some j => ∃ co cr cc, Srt w x y wy de re co cr cc ∧ r = nI (knd co cr j)
def crowdR (p r : Int32) : Prop := match pt w p with
  | none => r = oI none
  | some j => ∃ co cr cc, Srt w x y wy de re co cr cc ∧ r = oI (cr j)
noncomputable def cntK (co : Nat → Bool) (cr : Nat → Option Nat) (kd : Nat) : Nat := sum1 (fun p => if 0 < w p ∧ knd co cr p = kd then 1 else 0)
noncomputable def countF (co : Nat → Bool) (cr : Nat → Option Nat) (cc : Nat) (z : Int32) : Int32 := if z = nI 0 then nI cc else if z = nI 1 then nI (cntK w co cr 2) else if z = nI 2 then nI (cntK w co cr 1) else if z = nI 3 then nI (cntK w co cr 0) else if z = nI 4 then nI (sum1 (fun j => if 0 < w j then 1 else 0)) else if z = nI 5 then nI (sum1 w) else oI none
def countR (z r : Int32) : Prop := ∃ co cr cc, Srt w x y wy de re co cr cc ∧ r = countF w co cr cc z
noncomputable def aboutF (co : Nat → Bool) (cr : Nat → Option Nat) (cc : Nat) (c z : Int32) : Int32 := if ¬ c < 0 ∧ c < nI cc then (if z = nI 0 then nI (sum1 (fun p => if cr p = some c.toNatClampNeg then 1 else 0)) else if z = nI 1 then nI (sum1 (fun p => if co p = true ∧ cr p = some c.toNatClampNeg then 1 else 0)) else if z = nI 2 then nI (sum1 (fun p => if cr p = some c.toNatClampNeg then w p else 0)) else if z = nI 3 then oI (fst1 (fun p => co p && decide (cr p = some c.toNatClampNeg))) else if z = nI 4 then mn1 x (fun p => decide (cr p = some c.toNatClampNeg)) 1073741823 else if z = nI 5 then mn1 y (fun p => decide (cr p = some c.toNatClampNeg)) 1073741823 else if z = nI 6 then mx1 x (fun p => decide (cr p = some c.toNatClampNeg)) (-1073741823) else if z = nI 7 then mx1 y (fun p => decide (cr p = some c.toNatClampNeg)) (-1073741823) else oI none) else oI none
def aboutR (c z r : Int32) : Prop := ∃ co cr cc, Srt w x y wy de re co cr cc ∧ r = aboutF w x y co cr cc c z
def belongsR (px py r : Int32) : Prop := if isPl px py = true then ∃ co cr cc, Srt w x y wy de re co cr cc ∧ r = oI (lcs1 co cr (fun q => gapN wy (x q) (y q) px py) re) else r = oI none
def crowdsR (z : Int64) (r : Int32) : Prop := if z < 0 then r = oI none else ∃ co cr cc, Srt w x y wy de z.toInt.toNat co cr cc ∧ r = nI cc
def denseR (p : Int32) (r : Int64) : Prop := match pt w p with
  | none => r = oL none
  | some j => ∃ o, isDn w (gp wy x y j) de o ∧ r = oL o
def meetR (p q : Int32) (r : Int64) : Prop := match pt w p, pt w q with
  | some i, some j => if sum1 w < de then r = oL none else ∃ (d : Nat → Nat) (m : Nat), (∀ k, k < 120 → 0 < w k → isDn w (gp wy x y k) de (some (d k))) ∧ isMt w d (gp wy x y) i j m ∧ r = lN m
  | _, _ => r = oL none
end SP
/-- the numbers of the class's object -/
def XI (w : Nat → Nat) (x y : Nat → Int32) (wy re de : Nat) (co : Nat → Bool) (cr : Nat → Option Nat) (cc sr : Nat) (so : Bool) (cf : Nat → Option Nat) (ck : Bool) (ng nw cs : Nat → Nat) : Prop :=
  WFp w x y wy re de ∧ bdC cr ∧ sr < 2 ^ 63 ∧ (so = true → Srt w x y wy de sr co cr cc) ∧ (ck = true → CfOk w x y wy de cf 120) ∧ bdN ng nw ∧ (∀ j, cs j < 2 ^ 63) ∧ cc ≤ 120
def XW (a : Nat → Nat) (t : Ty3) (V : VT) (u : va_W) : Prop := ∃ co cr cc sr so cf ck ng nw cs se, u = WX a t V.1 V.2.1 V.2.2.1 V.2.2.2.1 V.2.2.2.2.1 V.2.2.2.2.2 co cr cc sr so cf ck ng nw cs se ∧ XI V.1 V.2.1 V.2.2.1 V.2.2.2.1 V.2.2.2.2.1 V.2.2.2.2.2 co cr cc sr so cf ck ng nw cs
theorem isDn_none {w g : Nat → Nat} {de : Nat} (hg : ∃ B, ∀ j, g j ≤ B) (h : isDn w g de none) : sum1 w < de := by
  obtain ⟨B, hB⟩ := hg
  have h1 := h B
  unfold ww at h1
  rw [sum1_eq, sumN_congr (g := w) 120 (fun j _ => by
    unfold wwf
    by_cases e : 0 < w j
    · rw [if_pos ⟨e, hB j⟩]
    · rw [if_neg (fun z => e z.1)]
      omega), ← sum1_eq] at h1
  exact h1
theorem isDn_some {w g : Nat → Nat} {de d : Nat} (h : isDn w g de (some d)) : de ≤ sum1 w := by
  have h1 := h.1
  unfold ww at h1
  rw [sum1_eq] at h1 ⊢
  exact Nat.le_trans h1 (sumN_mono 120 (fun j _ => by
    unfold wwf
    split <;> omega))
theorem isMt_congr {w d d2 : Nat → Nat} {g : Nat → Nat → Nat} {p q m : Nat} (hd : ∀ k, k < 120 → 0 < w k → d k = d2 k) (hp : p < 120) (hw : 0 < w p) (h : isMt w d g p q m) : isMt w d2 g p q m := by
  have e : ∀ r a, RR w d g p r a ↔ RR w d2 g p r a := by
    have key : ∀ (d d2 : Nat → Nat), (∀ k, k < 120 → 0 < w k → d k = d2 k) → ∀ r a, RR w d g p r a → RR w d2 g p r a := fun d d2 hd r a h =>
      ⟨by rw [← hd p hp hw]; exact h.1, cnn_ind (S := fun z => cnn (eD w d2 g r) p z) h.2 (cnn_rf p) (fun m q h1 h2 => cnn_st h1 ⟨h2.1, h2.2.1, h2.2.2.1, h2.2.2.2.1, by rw [← hd m h2.1 h2.2.2.1]; exact h2.2.2.2.2.1, by rw [← hd q h2.2.1 h2.2.2.2.1]; exact h2.2.2.2.2.2.1, h2.2.2.2.2.2.2⟩)⟩
    exact fun r a => ⟨key d d2 hd r a, key d2 d (fun k a b => (hd k a b).symm) r a⟩
  exact ⟨(e m q).mp h.1, fun r hr => h.2 r ((e r q).mpr hr)⟩
section UN
variable {w : Nat → Nat} {x y : Nat → Int32} {wy re de : Nat}
theorem Srt_ex (w : Nat → Nat) (x y : Nat → Int32) (wy re de : Nat) : ∃ co cr cc, Srt w x y wy de re co cr cc := ⟨_, _, _, srt_X (co := fun _ => false) (cr := fun _ => none) (fun _ => false)⟩
theorem knd_congr {co co2 : Nat → Bool} {cr cr2 : Nat → Option Nat} {p : Nat} (h1 : co p = co2 p) (h2 : cr p = cr2 p) : knd co cr p = knd co2 cr2 p := by
  unfold knd
  rw [h1, h2]
theorem kindR_un {p r r2 : Int32} (h : kindR w x y wy re de p r) (h2 : kindR w x y wy re de p r2) : r = r2 := by
  unfold kindR at h h2
  cases e : pt w p with
  | none =>
    rw [e] at h h2
    exact h.trans h2.symm
  | some j =>
    rw [e] at h h2
    obtain ⟨co, cr, cc, s1, rfl⟩ := h
    obtain ⟨co2, cr2, cc2, s2, rfl⟩ := h2
    obtain ⟨u1, u2, -⟩ := s1.uniq s2
    rw [knd_congr (u1 j (pt_s e).1) (u2 j (pt_s e).1)]
theorem crowdR_un {p r r2 : Int32} (h : crowdR w x y wy re de p r) (h2 : crowdR w x y wy re de p r2) : r = r2 := by
  unfold crowdR at h h2
  cases e : pt w p with
  | none =>
    rw [e] at h h2
    exact h.trans h2.symm
  | some j =>
    rw [e] at h h2
    obtain ⟨co, cr, cc, s1, rfl⟩ := h
    obtain ⟨co2, cr2, cc2, s2, rfl⟩ := h2
    obtain ⟨u1, u2, -⟩ := s1.uniq s2
    rw [u2 j (pt_s e).1]
theorem sum1_congr {f g : Nat → Nat} (h : ∀ j, j < 120 → f j = g j) : sum1 f = sum1 g := by
  rw [sum1_eq, sum1_eq]
  exact sumN_congr 120 h
theorem firstN_congr {s s2 : Nat → Bool} : ∀ n, (∀ j, j < n → s j = s2 j) → firstN s n = firstN s2 n
  | 0, _ => rfl
  | n + 1, h => by
    unfold firstN
    rw [firstN_congr n (fun j hj => h j (by omega)), h n (by omega)]
theorem fst1_congr {s s2 : Nat → Bool} (h : ∀ j, j < 120 → s j = s2 j) : fst1 s = fst1 s2 := by
  rw [fst1_eq, fst1_eq]
  exact firstN_congr 120 h
theorem mnf_congr {z : Int32} {s s2 : Nat → Bool} : ∀ n, (∀ j, j < n → s j = s2 j) → mnf x s z n = mnf x s2 z n
  | 0, _ => rfl
  | n + 1, h => by
    unfold mnf
    rw [mnf_congr n (fun j hj => h j (by omega)), h n (by omega)]
theorem mxf_congr {z : Int32} {s s2 : Nat → Bool} : ∀ n, (∀ j, j < n → s j = s2 j) → mxf x s z n = mxf x s2 z n
  | 0, _ => rfl
  | n + 1, h => by
    unfold mxf
    rw [mxf_congr n (fun j hj => h j (by omega)), h n (by omega)]
theorem mn1_congr {z : Int32} {s s2 : Nat → Bool} (h : ∀ j, j < 120 → s j = s2 j) : mn1 x s z = mn1 x s2 z := by
  rw [mn1_eq, mn1_eq]
  exact mnf_congr 120 h
theorem mx1_congr {z : Int32} {s s2 : Nat → Bool} (h : ∀ j, j < 120 → s j = s2 j) : mx1 x s z = mx1 x s2 z := by
  rw [mx1_eq, mx1_eq]
  exact mxf_congr 120 h
theorem countR_un {z r r2 : Int32} (h : countR w x y wy re de z r) (h2 : countR w x y wy re de z r2) : r = r2 := by
  obtain ⟨co, cr, cc, s1, rfl⟩ := h
  obtain ⟨co2, cr2, cc2, s2, rfl⟩ := h2
  obtain ⟨u1, u2, u3⟩ := s1.uniq s2
  have e : ∀ kd, cntK w co cr kd = cntK w co2 cr2 kd := fun kd => sum1_congr (fun j hj => by rw [knd_congr (u1 j hj) (u2 j hj)])
  unfold countF
  rw [u3, e, e, e]
theorem aboutR_un {c z r r2 : Int32} (h : aboutR w x y wy re de c z r) (h2 : aboutR w x y wy re de c z r2) : r = r2 := by
  obtain ⟨co, cr, cc, s1, rfl⟩ := h
  obtain ⟨co2, cr2, cc2, s2, rfl⟩ := h2
  obtain ⟨u1, u2, u3⟩ := s1.uniq s2
  have e1 : sum1 (fun p => if cr p = some c.toNatClampNeg then 1 else 0) = sum1 (fun p => if cr2 p = some c.toNatClampNeg then 1 else 0) := sum1_congr (fun j hj => by rw [u2 j hj])
  have e2 : sum1 (fun p => if co p = true ∧ cr p = some c.toNatClampNeg then 1 else 0) = sum1 (fun p => if co2 p = true ∧ cr2 p = some c.toNatClampNeg then 1 else 0) := sum1_congr (fun j hj => by rw [u1 j hj, u2 j hj])
  have e3 : sum1 (fun p => if cr p = some c.toNatClampNeg then w p else 0) = sum1 (fun p => if cr2 p = some c.toNatClampNeg then w p else 0) := sum1_congr (fun j hj => by rw [u2 j hj])
  have e4 : fst1 (fun p => co p && decide (cr p = some c.toNatClampNeg)) = fst1 (fun p => co2 p && decide (cr2 p = some c.toNatClampNeg)) := fst1_congr (fun j hj => by rw [u1 j hj, u2 j hj])
  have e5 : ∀ j, j < 120 → decide (cr j = some c.toNatClampNeg) = decide (cr2 j = some c.toNatClampNeg) := fun j hj => by rw [u2 j hj]
  unfold aboutF
  rw [u3, e1, e2, e3, e4, mn1_congr (x := x) e5, mn1_congr (x := y) e5, mx1_congr (x := x) e5, mx1_congr (x := y) e5]
theorem belongsR_un {p q r r2 : Int32} (h : belongsR w x y wy re de p q r) (h2 : belongsR w x y wy re de p q r2) : r = r2 := by
  unfold belongsR at h h2
  by_cases c : isPl p q = true
  · rw [if_pos c] at h h2
    obtain ⟨co, cr, cc, s1, rfl⟩ := h
    obtain ⟨co2, cr2, cc2, s2, rfl⟩ := h2
    obtain ⟨u1, u2, -⟩ := s1.uniq s2
    rw [lcs1_eq, lcs1_eq, lcs_congr2 (Nat.le_refl 120) u1 u2]
  · rw [if_neg c] at h h2
    exact h.trans h2.symm
theorem crowdsR_un {z : Int64} {r r2 : Int32} (h : crowdsR w x y wy de z r) (h2 : crowdsR w x y wy de z r2) : r = r2 := by
  unfold crowdsR at h h2
  by_cases c : z < 0
  · rw [if_pos c] at h h2
    exact h.trans h2.symm
  · rw [if_neg c] at h h2
    obtain ⟨co, cr, cc, s1, rfl⟩ := h
    obtain ⟨co2, cr2, cc2, s2, rfl⟩ := h2
    rw [(s1.uniq s2).2.2]
theorem denseR_un {p : Int32} {r r2 : Int64} (h : denseR w x y wy de p r) (h2 : denseR w x y wy de p r2) : r = r2 := by
  unfold denseR at h h2
  cases e : pt w p with
  | none =>
    rw [e] at h h2
    exact h.trans h2.symm
  | some j =>
    rw [e] at h h2
    obtain ⟨o, h1, rfl⟩ := h
    obtain ⟨o2, h3, rfl⟩ := h2
    rw [isDn_un h1 h3]
theorem meetR_un {p q : Int32} {r r2 : Int64} (h : meetR w x y wy de p q r) (h2 : meetR w x y wy de p q r2) : r = r2 := by
  unfold meetR at h h2
  cases e : pt w p with
  | none =>
    rw [e] at h h2
    exact h.trans h2.symm
  | some i =>
    cases e2 : pt w q with
    | none =>
      rw [e, e2] at h h2
      exact h.trans h2.symm
    | some j =>
      rw [e, e2] at h h2
      dsimp only at h h2
      by_cases c : sum1 w < de
      · rw [if_pos c] at h h2
        exact h.trans h2.symm
      · rw [if_neg c] at h h2
        obtain ⟨d, m, h1, h3, rfl⟩ := h
        obtain ⟨d2, m2, h4, h5, rfl⟩ := h2
        have := isMt_congr (d := d2) (d2 := d) (fun k hk hw => Option.some.inj (isDn_un (h4 k hk hw) (h1 k hk hw))) (pt_s e).1 (pt_s e).2.2 h5
        rw [isMt_un h3 this]
end UN
end
section
/-! Crowds, as the reference makes them. -/
noncomputable def any1 (s : Nat → Bool) : Bool := hide (anyN s 120)
theorem any1_eq (s : Nat → Bool) : any1 s = anyN s 120 := hide_eq _
def newS (co : Nat → Bool) (cr : Nat → Option Nat) (g : Nat → Nat) (r : Nat) : Nat → Bool := fun q => co q && (decide (cr q = none) && decide (g q ≤ r))
theorem nearC_y {co : Nat → Bool} {cr : Nat → Option Nat} {c r q : Nat} {g : Nat → Nat} (h : newS co cr g r q = true) : nearC co cr c g r q = some c ∧ cr q = none ∧ co q = true ∧ g q ≤ r := by
  unfold newS at h
  simp only [Bool.and_eq_true, decide_eq_true_eq] at h
  unfold nearC
  rw [if_pos h]
  exact ⟨rfl, h.2.1, h.1, h.2.2⟩
theorem nearC_n {co : Nat → Bool} {cr : Nat → Option Nat} {c r q : Nat} {g : Nat → Nat} (h : newS co cr g r q = false) : nearC co cr c g r q = cr q := by
  unfold nearC
  rw [if_neg]
  intro z
  unfold newS at h
  simp [z] at h
section LB
variable {C : Nat → Bool} {g : Nat → Nat → Nat} {r c f : Nat} {b : Nat → Option Nat}
/-- some of what hangs together with the first bears its number, nothing else has changed -/
def Lb (C : Nat → Bool) (g : Nat → Nat → Nat) (r c f : Nat) (b cr : Nat → Option Nat) : Prop :=
  (∀ p, p < 120 → cr p = some c → cnn (adj C g r) f p) ∧ (∀ p, p < 120 → cr p = b p ∨ (cr p = some c ∧ b p = none ∧ C p = true)) ∧ cr f = some c
/-- how many have no number -/
def unl (cr : Nat → Option Nat) (n : Nat) : Nat := sumN (fun j => if cr j = none then 1 else 0) n
theorem unl_le (cr : Nat → Option Nat) : ∀ n, unl cr n ≤ n
  | 0 => Nat.le_refl 0
  | n + 1 => by
    have h1 := unl_le cr n
    show unl cr n + (if cr n = none then 1 else 0) ≤ n + 1
    split <;> omega
theorem unl_mono {cr cr2 : Nat → Option Nat} (h : ∀ j, j < 120 → cr j ≠ none → cr2 j ≠ none) : ∀ n, n ≤ 120 → unl cr2 n ≤ unl cr n
  | 0, _ => Nat.le_refl 0
  | n + 1, hn => by
    have h1 := unl_mono h n (by omega)
    show unl cr2 n + (if cr2 n = none then 1 else 0) ≤ unl cr n + (if cr n = none then 1 else 0)
    by_cases e : cr n = none
    · rw [if_pos e]
      split <;> omega
    · rw [if_neg e, if_neg (h n (by omega) e)]
      omega
theorem unl_lt {cr cr2 : Nat → Option Nat} (h : ∀ j, j < 120 → cr j ≠ none → cr2 j ≠ none) {q : Nat} (h1 : cr q = none) (h2 : cr2 q ≠ none) : ∀ n, n ≤ 120 → q < n → unl cr2 n < unl cr n
  | 0, _, hq => absurd hq (by omega)
  | n + 1, hn, hq => by
    show unl cr2 n + (if cr2 n = none then 1 else 0) < unl cr n + (if cr n = none then 1 else 0)
    by_cases e : q = n
    · subst e
      rw [if_pos h1, if_neg h2]
      have := unl_mono h q (by omega)
      omega
    · have h3 := unl_lt h h1 h2 n (by omega) (by omega)
      by_cases e2 : cr n = none
      · rw [if_pos e2]
        split <;> omega
      · rw [if_neg e2, if_neg (h n (by omega) e2)]
        omega
theorem unl_congr {cr cr2 : Nat → Option Nat} (h : ∀ j, j < 120 → cr j = cr2 j) : unl cr 120 = unl cr2 120 := sumN_congr 120 (fun j hj => by rw [h j hj])
theorem Lb.near {cr : Nat → Option Nat} (h : Lb C g r c f b cr) (hf : f < 120) (hcf : C f = true) {p : Nat} (hp : p < 120) (hc : cr p = some c) : Lb C g r c f b (fill cr (nearC C cr c (g p) r) 120) := by
  obtain ⟨h1, h2, h3⟩ := h
  have nv : ∀ q, q < 120 → fill cr (nearC C cr c (g p) r) 120 q = nearC C cr c (g p) r q := fun q hq => fill_in hq
  refine ⟨fun q hq hc2 => ?_, fun q hq => ?_, ?_⟩
  · rw [nv q hq] at hc2
    cases e : newS C cr (g p) r q with
    | true =>
      obtain ⟨-, -, a3, a4⟩ := nearC_y (c := c) e
      exact cnn_st (h1 p hp hc) ⟨hp, hq, cnn_core (h1 p hp hc) hcf, a3, a4⟩
    | false =>
      rw [nearC_n e] at hc2
      exact h1 q hq hc2
  · rw [nv q hq]
    cases e : newS C cr (g p) r q with
    | true =>
      obtain ⟨a1, a2, a3, a4⟩ := nearC_y (c := c) e
      rcases h2 q hq with z | z
      · exact Or.inr ⟨a1, by rw [← z]; exact a2, a3⟩
      · exact Or.inr ⟨a1, z.2.1, a3⟩
    | false =>
      rw [nearC_n e]
      exact h2 q hq
  · rw [nv f hf]
    cases e : newS C cr (g p) r f with
    | true => exact (nearC_y e).1
    | false => rw [nearC_n e]; exact h3
theorem near_keep {cr : Nat → Option Nat} {p : Nat} : ∀ j, j < 120 → cr j ≠ none → fill cr (nearC C cr c (g p) r) 120 j ≠ none := fun j hj h => by
  rw [fill_in hj]
  cases e : newS C cr (g p) r j with
  | true => rw [(nearC_y e).1]; simp
  | false => rw [nearC_n e]; exact h
/-- one pass over all points -/
def Ps (C : Nat → Bool) (g : Nat → Nat → Nat) (r c f : Nat) (b cr0 : Nat → Option Nat) (n : Nat) (cr : Nat → Option Nat) (mo : Bool) : Prop :=
  Lb C g r c f b cr ∧ (mo = false → (∀ j, j < 120 → cr j = cr0 j) ∧ ∀ p, p < n → cr0 p = some c → ∀ q, adj C g r p q → cr0 q ≠ none) ∧ (mo = true → unl cr 120 < unl cr0 120)
theorem Ps.zero {cr0 : Nat → Option Nat} (h : Lb C g r c f b cr0) : Ps C g r c f b cr0 0 cr0 false := ⟨h, fun _ => ⟨fun _ _ => rfl, fun p hp => absurd hp (by omega)⟩, fun h => by cases h⟩
theorem Ps.skip {cr0 cr : Nat → Option Nat} {n : Nat} {mo : Bool} (h : Ps C g r c f b cr0 n cr mo) (hn : n < 120) (hc : cr n ≠ some c) : Ps C g r c f b cr0 (n + 1) cr mo := by
  refine ⟨h.1, fun hm => ⟨(h.2.1 hm).1, fun p hp hc2 => ?_⟩, h.2.2⟩
  by_cases e : p = n
  · subst e
    rw [← (h.2.1 hm).1 p hn] at hc2
    exact absurd hc2 hc
  · exact (h.2.1 hm).2 p (by omega) hc2
theorem Ps.sp {cr0 cr : Nat → Option Nat} {n : Nat} {mo : Bool} (h : Ps C g r c f b cr0 n cr mo) (hf : f < 120) (hcf : C f = true) (hn : n < 120) (hc : cr n = some c) : Ps C g r c f b cr0 (n + 1) (fill cr (nearC C cr c (g n) r) 120) (any1 (newS C cr (g n) r) || mo) := by
  have hl := h.1.near hf hcf hn hc
  rw [any1_eq]
  cases e : anyN (newS C cr (g n) r) 120 with
  | true =>
    refine ⟨hl, fun z => (by simp at z), fun _ => ?_⟩
    obtain ⟨q, q1, q2⟩ := anyN_ex e
    have a := nearC_y (c := c) q2
    have h1 := unl_lt (cr := cr) (near_keep (C := C) (g := g) (r := r) (c := c) (p := n)) (q := q) a.2.1 (by rw [fill_in q1, a.1]; simp) 120 (Nat.le_refl 120) q1
    cases hm : mo with
    | true => have := h.2.2 hm; omega
    | false => have := unl_congr (h.2.1 hm).1; omega
  | false =>
    have no : ∀ q, q < 120 → newS C cr (g n) r q = false := fun q hq => by
      cases e2 : newS C cr (g n) r q with
      | false => rfl
      | true =>
        rw [anyN_of e2 hq] at e
        cases e
    have same : ∀ q, q < 120 → fill cr (nearC C cr c (g n) r) 120 q = cr q := fun q hq => by rw [fill_in hq, nearC_n (no q hq)]
    rw [Bool.false_or]
    refine ⟨hl, fun hm => ⟨fun j hj => by rw [same j hj]; exact (h.2.1 hm).1 j hj, fun p hp hc2 q hq hz => ?_⟩, fun hm => by rw [unl_congr same]; exact h.2.2 hm⟩
    by_cases e3 : p = n
    · subst e3
      have h5 := no q hq.2.1
      rw [← (h.2.1 hm).1 q hq.2.1] at hz
      unfold newS at h5
      simp [hq.2.2.2.1, hz, hq.2.2.2.2] at h5
    · exact (h.2.1 hm).2 p (by omega) hc2 q hq hz
/-- nothing more to do: the crowd stands -/
theorem Lb.fin {cr : Nat → Option Nat} (h : Lb C g r c f b cr) (hf : f < 120) (hbf : ∀ p, cnn (adj C g r) f p → b p = none) (hcl : ∀ p, p < 120 → cr p = some c → ∀ q, adj C g r p q → cr q ≠ none) : (∀ p, p < 120 → cnn (adj C g r) f p → cr p = some c) ∧ (∀ p, p < 120 → ¬ cnn (adj C g r) f p → cr p = b p) := by
  obtain ⟨h1, h2, h3⟩ := h
  constructor
  · intro p _ hp
    have key : ∀ z, cnn (adj C g r) f z → z < 120 ∧ cr z = some c := fun z hz => by
      obtain ⟨k, hz⟩ := hz
      induction k generalizing z with
      | zero =>
        have e : f = z := hz
        rw [← e]
        exact ⟨hf, h3⟩
      | succ k ih =>
        obtain ⟨m, hm1, hm2⟩ := hz
        obtain ⟨i1, i2⟩ := ih m hm1
        refine ⟨hm2.2.1, ?_⟩
        rcases h2 z hm2.2.1 with e | e
        · exact absurd (e.trans (hbf z ⟨k + 1, m, hm1, hm2⟩)) (hcl m i1 i2 z hm2)
        · exact e.1
    exact (key p hp).2
  · intro p hp hn
    rcases h2 p hp with h | h
    · exact h
    · exact absurd (h1 p hp h.1) hn
/-- the crowds of the roots below n stand, and nothing else -/
def GI (C : Nat → Bool) (g : Nat → Nat → Nat) (r n : Nat) (cr : Nat → Option Nat) (c : Nat) : Prop :=
  c = cR C (adj C g r) n ∧ (∀ p, p < 120 → ∀ q, q < n → rt C (adj C g r) q → cnn (adj C g r) q p → cr p = some (cR C (adj C g r) q)) ∧
  (∀ p k, p < 120 → cr p = some k → ∃ q, q < n ∧ rt C (adj C g r) q ∧ cnn (adj C g r) q p ∧ k = cR C (adj C g r) q)
theorem GI.zero {cr : Nat → Option Nat} (h : ∀ p, p < 120 → cr p = none) : GI C g r 0 cr 0 := ⟨rfl, fun p _ q hq => absurd hq (by omega), fun p k hp hk => by rw [h p hp] at hk; cases hk⟩
theorem GI.bd {n : Nat} {cr : Nat → Option Nat} (h : GI C g r n cr c) (hn : n ≤ 120) {p : Nat} (hp : p < 120) : ∀ k, cr p = some k → k < 120 := fun k hk => by
  obtain ⟨q, q1, q2, q3, q4⟩ := h.2.2 p k hp hk
  have := cR_le (C := C) (A := adj C g r) q
  omega
theorem GI.cc {n : Nat} {cr : Nat → Option Nat} (h : GI C g r n cr c) : c ≤ n := by
  rw [h.1]
  exact cR_le n
theorem GI.root (hg : ∀ p q, g p q = g q p) {n : Nat} {cr : Nat → Option Nat} (h : GI C g r n cr c) (hn : n < 120) (h1 : C n = true) (h2 : cr n = none) : rt C (adj C g r) n ∧ (∀ p, p < 120 → cr p ≠ some c) ∧ (∀ p, cnn (adj C g r) n p → cr p = none) := by
  have hroot : rt C (adj C g r) n := by
    obtain ⟨q, a1, a2, a3⟩ := rt_ex (A := adj C g r) h1
    by_cases e : q = n
    · rw [← e]; exact a2
    · have := h.2.1 n hn q (by omega) a2 a3
      rw [h2] at this
      cases this
  refine ⟨hroot, fun p hp hc => ?_, fun p hp => ?_⟩
  · obtain ⟨q, q1, q2, q3, q4⟩ := h.2.2 p _ hp hc
    have := cR_lt q2 q1
    have := h.1
    omega
  · cases e : cr p with
    | none => rfl
    | some k =>
      obtain ⟨q, q1, q2, q3, q4⟩ := h.2.2 p k (cnn_120 hp hn) e
      have := rt_un (adj_sy hg) q2 hroot q3 hp
      omega
theorem GI.yes (hg : ∀ p q, g p q = g q p) {n : Nat} {cr cr2 : Nat → Option Nat} (h : GI C g r n cr c) (hroot : rt C (adj C g r) n) (g1 : ∀ p, p < 120 → cnn (adj C g r) n p → cr2 p = some c) (g2 : ∀ p, p < 120 → ¬ cnn (adj C g r) n p → cr2 p = cr p) : GI C g r (n + 1) cr2 (c + 1) := by
  obtain ⟨i1, i2, i3⟩ := h
  subst i1
  refine ⟨(cR_y hroot).symm, fun p hp q hq h1 h2 => ?_, fun p k hp hk => ?_⟩
  · by_cases e : q = n
    · subst e
      exact g1 p hp h2
    · by_cases c2 : cnn (adj C g r) n p
      · exact absurd (rt_un (adj_sy hg) h1 hroot h2 c2) e
      · rw [g2 p hp c2]
        exact i2 p hp q (by omega) h1 h2
  · by_cases c2 : cnn (adj C g r) n p
    · rw [g1 p hp c2] at hk
      cases hk
      exact ⟨n, by omega, hroot, c2, rfl⟩
    · rw [g2 p hp c2] at hk
      obtain ⟨q, q1, q2⟩ := i3 p k hp hk
      exact ⟨q, by omega, q2⟩
theorem GI.no {n : Nat} {cr : Nat → Option Nat} (h : GI C g r n cr c) (hn : n < 120) (hc : ¬ (C n = true ∧ cr n = none)) : GI C g r (n + 1) cr c := by
  obtain ⟨i1, i2, i3⟩ := h
  have hnr : ¬ rt C (adj C g r) n := fun h => by
    cases e : cr n with
    | none => exact hc ⟨h.1, e⟩
    | some k =>
      obtain ⟨q, q1, q2, q3, q4⟩ := i3 n k hn e
      exact h.2 q q1 q2.1 q3
  refine ⟨by rw [cR_n hnr]; exact i1, fun p hp q hq h1 h2 => ?_, fun p k hp hk => ?_⟩
  · by_cases e : q = n
    · subst e
      exact absurd h1 hnr
    · exact i2 p hp q (by omega) h1 h2
  · obtain ⟨q, q1, q2⟩ := i3 p k hp hk
    exact ⟨q, by omega, q2⟩
end LB
theorem GI.srt {w : Nat → Nat} {x y : Nat → Int32} {wy de r : Nat} {C : Nat → Bool} {z cr : Nat → Option Nat} {cc : Nat} (h : GI C (gp wy x y) r 120 z cc) (e1 : ∀ p, p < 120 → C p = isC w x y wy de r p) (hcr : ∀ p, p < 120 → cr p = if 0 < w p ∧ C p = false then lcs1 C z (gp wy x y p) r else z p) : Srt w x y wy de r C cr cc := by
  refine Srt.mk (z := z) e1 (fun p hp hc => ?_) (fun p hp hc => ?_) h.1 hcr
  · obtain ⟨q, a1, a2, a3⟩ := rt_ex (A := adj C (gp wy x y) r) hc
    exact ⟨q, by omega, a2, a3, h.2.1 p hp q (by omega) a2 a3⟩
  · cases e : z p with
    | none => rfl
    | some k =>
      obtain ⟨q, a1, a2, a3, a4⟩ := h.2.2 p k hp e
      rw [cnn_core a3 a2.1] at hc
      cases hc
/-- the reference's rows and the points -/
def MI (v : Nat → Nat) (x y : Nat → Int32) (wy re de : Nat) (is : Nat → Bool) (w : Nat → Nat) : Prop := WFp v x y wy re de ∧ ∀ j, is j = decide (0 < v j) ∧ (0 < v j → w j = v j)
def MW (a : Nat → Nat) (t : Ty3) (V : VT) (u : va_W) : Prop := ∃ is w co cr cc dn cs df, u = WM a t is V.2.1 V.2.2.1 w V.2.2.2.1 V.2.2.2.2.1 V.2.2.2.2.2 co cr cc dn cs df ∧ MI V.1 V.2.1 V.2.2.1 V.2.2.2.1 V.2.2.2.2.1 V.2.2.2.2.2 is w
theorem MI.isv {v : Nat → Nat} {x y : Nat → Int32} {wy re de : Nat} {is : Nat → Bool} {w : Nat → Nat} (h : MI v x y wy re de is w) : is = fun j => decide (0 < v j) := funext fun j => (h.2 j).1
theorem MI.y {v : Nat → Nat} {x y : Nat → Int32} {wy re de : Nat} {is : Nat → Bool} {w : Nat → Nat} (h : MI v x y wy re de is w) {j : Nat} (hj : is j = true) : 0 < v j ∧ w j = v j := by
  rw [(h.2 j).1] at hj
  have := of_decide_eq_true hj
  exact ⟨this, (h.2 j).2 this⟩
theorem MI.n {v : Nat → Nat} {x y : Nat → Int32} {wy re de : Nat} {is : Nat → Bool} {w : Nat → Nat} (h : MI v x y wy re de is w) {j : Nat} (hj : is j = false) : v j = 0 := by
  rw [(h.2 j).1] at hj
  have := of_decide_eq_false hj
  omega
theorem sub_dist {a b : Int32} (h : b.toInt64 ≤ a.toInt64) : a.toInt64 - b.toInt64 = lN (dist1 a b) := by
  have hs := lg_i2l_sub a b
  have hl := dist1_lt a b
  have h2 := Int64.le_iff_toInt_le.mp h
  rw [Int32.toInt_toInt64, Int32.toInt_toInt64] at h2
  refine lN_of_toInt (by omega) ?_
  unfold dist1
  omega
theorem sub_dist2 {a b : Int32} (h : ¬ b.toInt64 ≤ a.toInt64) : b.toInt64 - a.toInt64 = lN (dist1 a b) := by
  rw [dist1_comm]
  exact sub_dist (by
    rcases lg_tri a.toInt64 b.toInt64 with q | q | q
    · exact Int64.le_of_lt q
    · rw [q]; exact Int64.le_refl _
    · exact absurd (Int64.le_of_lt q) h)
end
section
set_option maxHeartbeats 4000000 in
set_option maxRecDepth 100000 in
/-- isPlace -/
theorem cX_isPlace {l : Launch} {D : va_G} {t : Ty3} {a : Nat → Nat} {w : Nat → Nat} {x : Nat → Int32} {y : Nat → Int32} {wy : Nat} {re : Nat} {de : Nat} {co : Nat → Bool} {cr : Nat → Option Nat} {cc : Nat} {sr : Nat} {so : Bool} {cf : Nat → Option Nat} {ck : Bool} {ng : Nat → Nat} {nw : Nat → Nat} {cs : Nat → Nat} {se : Nat → Bool} (p0 p1 : Int32) : CtI (EE l D t) yX0_isPlace tsX0_isPlace (RM 0 0) [.int p0, .int p1] (WX a t w x y wy re de co cr cc sr so cf ck ng nw cs se) 0 0 (fun r u => u = WX a t w x y wy re de co cr cc sr so cf ck ng nw cs se ∧ r = b2 (isPl p0 p1)) := by
  refine CtZ.of (by decide +kernel) rfl (Nat.le_of_ble_eq_true rfl) (fun v u h => by obtain ⟨_, rfl⟩ := h; exact narrow_b2 _) (fun X F E => ?_)
  show GG (EE l D t) X 0 0 0 [(0, .int p0), (1, .int p1)] [] (WX a t w x y wy re de co cr cc sr so cf ck ng nw cs se)
  refine g_iload_n F dX0_isPlace_0 rfl rfl ?_
  refine g_ldc F (-1073741823) dX0_isPlace_1 (List.mem_cons_of_mem _ mw3_6) ?_
  refine g_icmp_lt F 28 dX0_isPlace_3 (by decide)  (fun h1 => ?_) (fun h1 => ?_)
  · refine g_iconst F (b2 false) dX0_isPlace_28 (by decide) ?_
    exact E _ _ _ _ dX0_isPlace_29 ⟨rfl, by rw [show isPl p0 p1 = false from by simp [isPl, h1]]⟩
  · refine g_iload_n F dX0_isPlace_6 rfl rfl ?_
    refine g_ldc F (1073741823) dX0_isPlace_7 (List.mem_cons_of_mem _ mw3_7) ?_
    refine g_icmp_gt F 28 dX0_isPlace_9 (by decide)  (fun h2 => ?_) (fun h2 => ?_)
    · refine g_iconst F (b2 false) dX0_isPlace_28 (by decide) ?_
      exact E _ _ _ _ dX0_isPlace_29 ⟨rfl, by rw [show isPl p0 p1 = false from by simp [isPl, h1, h2]]⟩
    · refine g_iload_n F dX0_isPlace_12 rfl rfl ?_
      refine g_ldc F (-1073741823) dX0_isPlace_13 (List.mem_cons_of_mem _ mw3_6) ?_
      refine g_icmp_lt F 28 dX0_isPlace_15 (by decide)  (fun h3 => ?_) (fun h3 => ?_)
      · refine g_iconst F (b2 false) dX0_isPlace_28 (by decide) ?_
        exact E _ _ _ _ dX0_isPlace_29 ⟨rfl, by rw [show isPl p0 p1 = false from by simp [isPl, h1, h2, h3]]⟩
      · refine g_iload_n F dX0_isPlace_18 rfl rfl ?_
        refine g_ldc F (1073741823) dX0_isPlace_19 (List.mem_cons_of_mem _ mw3_7) ?_
        refine g_icmp_gt F 28 dX0_isPlace_21 (by decide)  (fun h4 => ?_) (fun h4 => ?_)
        · refine g_iconst F (b2 false) dX0_isPlace_28 (by decide) ?_
          exact E _ _ _ _ dX0_isPlace_29 ⟨rfl, by rw [show isPl p0 p1 = false from by simp [isPl, h1, h2, h3, h4]]⟩
        · refine g_iconst F (b2 true) dX0_isPlace_24 (by decide) ?_
          refine g_goto F 29 dX0_isPlace_25 (by decide) ?_
          exact E _ _ _ _ dX0_isPlace_29 ⟨rfl, by rw [show isPl p0 p1 = true from by simp [isPl, h1, h2, h3, h4]]⟩
set_option maxHeartbeats 4000000 in
set_option maxRecDepth 100000 in
/-- isPoint -/
theorem cX_isPoint {l : Launch} {D : va_G} {t : Ty3} {a : Nat → Nat} {w : Nat → Nat} {x : Nat → Int32} {y : Nat → Int32} {wy : Nat} {re : Nat} {de : Nat} {co : Nat → Bool} {cr : Nat → Option Nat} {cc : Nat} {sr : Nat} {so : Bool} {cf : Nat → Option Nat} {ck : Bool} {ng : Nat → Nat} {nw : Nat → Nat} {cs : Nat → Nat} {se : Nat → Bool} (hw : ∀ j, w j ≤ 20) (p : Int32) : CtI (EE l D t) yX0_isPoint tsX0_isPoint (RM 0 0) [.ref (a 0), .int p] (WX a t w x y wy re de co cr cc sr so cf ck ng nw cs se) 0 0 (fun r u => u = WX a t w x y wy re de co cr cc sr so cf ck ng nw cs se ∧ r = b2 (isPt (fun j => decide (0 < w j)) p)) := by
  refine CtZ.of (by decide +kernel) rfl (Nat.le_of_ble_eq_true rfl) (fun v u h => by obtain ⟨_, rfl⟩ := h; exact narrow_b2 _) (fun X F E => ?_)
  show GG (EE l D t) X 0 0 0 [(0, .ref (a 0)), (1, .int p)] [] (WX a t w x y wy re de co cr cc sr so cf ck ng nw cs se)
  rcases pk_ix p (n := 120) (by decide) with hp | hp | ⟨j, hj, rfl⟩
  · refine g_iload_n F dX0_isPoint_0 rfl rfl ?_
    refine g_if_lt_t F 23 dX0_isPoint_1 (by decide) hp ?_
    refine g_iconst F (b2 false) dX0_isPoint_23 (by decide) ?_
    exact E _ _ _ _ dX0_isPoint_24 ⟨rfl, by unfold isPt; rw [idx_neg hp]⟩
  · refine g_iload_n F dX0_isPoint_0 rfl rfl ?_
    refine g_if_lt_f F 23 dX0_isPoint_1 (by decide) (big_neg hp) ?_
    refine g_iload_n F dX0_isPoint_4 rfl rfl ?_
    refine g_bipush F (nI 120) dX0_isPoint_5 (by decide) ?_
    refine g_icmp_ge_t F 23 dX0_isPoint_7 (by decide) hp ?_
    refine g_iconst F (b2 false) dX0_isPoint_23 (by decide) ?_
    exact E _ _ _ _ dX0_isPoint_24 ⟨rfl, by unfold isPt; rw [idx_big hp]⟩
  · refine g_iload_n F dX0_isPoint_0 rfl rfl ?_
    refine g_if_lt_f F 23 dX0_isPoint_1 (by decide) (nI_pos (by omega)) ?_
    refine g_iload_n F dX0_isPoint_4 rfl rfl ?_
    refine g_bipush F (nI 120) dX0_isPoint_5 (by decide) ?_
    refine g_icmp_ge_f F 23 dX0_isPoint_7 (by decide) (nI_ge hj (by decide)) ?_
    refine g_aload_n F dX0_isPoint_10 rfl rfl ?_
    refine gX_get_weights F dX0_isPoint_11 ?_
    refine g_iload_n F dX0_isPoint_14 rfl rfl ?_
    refine gX_ld_weights F hj dX0_isPoint_15 ?_
    refine g_if_le_n F 23 dX0_isPoint_16 (by decide) (by have := hw j; omega) (fun h => ?_) (fun h => ?_)
    · refine g_iconst F (b2 false) dX0_isPoint_23 (by decide) ?_
      exact E _ _ _ _ dX0_isPoint_24 ⟨rfl, by unfold isPt; rw [idx_nI hj]; simp [h]⟩
    · refine g_iconst F (b2 true) dX0_isPoint_19 (by decide) ?_
      refine g_goto F 24 dX0_isPoint_20 (by decide) ?_
      exact E _ _ _ _ dX0_isPoint_24 ⟨rfl, by unfold isPt; rw [idx_nI hj]; simp [h]⟩
set_option maxHeartbeats 4000000 in
set_option maxRecDepth 100000 in
/-- leastFree -/
theorem cX_leastFree {l : Launch} {D : va_G} {t : Ty3} {a : Nat → Nat} {w : Nat → Nat} {x : Nat → Int32} {y : Nat → Int32} {wy : Nat} {re : Nat} {de : Nat} {co : Nat → Bool} {cr : Nat → Option Nat} {cc : Nat} {sr : Nat} {so : Bool} {cf : Nat → Option Nat} {ck : Bool} {ng : Nat → Nat} {nw : Nat → Nat} {cs : Nat → Nat} {se : Nat → Bool} (hw : ∀ j, w j ≤ 20) : CtI (EE l D t) yX0_leastFree tsX0_leastFree (RM 0 0) [.ref (a 0)] (WX a t w x y wy re de co cr cc sr so cf ck ng nw cs se) 0 0 (fun r u => u = WX a t w x y wy re de co cr cc sr so cf ck ng nw cs se ∧ r = oI (fst1 (fun j => decide (w j = 0)))) := by
  refine CtI.of (by decide +kernel) rfl (Nat.le_of_ble_eq_true rfl) (fun X F E => ?_)
  show GG (EE l D t) X 0 0 0 [(0, .ref (a 0))] [] (WX a t w x y wy re de co cr cc sr so cf ck ng nw cs se)
  refine g_iconst F (nI 0) dX0_leastFree_0 (by decide) ?_
  refine g_istore_n (lv2 := [(0, .ref (a 0)), (1, .int (nI 0))]) F dX0_leastFree_1 rfl (by decide) rfl ?_
  refine up_loopI (I := fun i => ∀ j, j < i → decide (w j = 0) = false) (P := fun i => GG (EE l D t) X 0 0 2 [(0, .ref (a 0)), (1, .int (nI i))] [] (WX a t w x y wy re de co cr cc sr so cf ck ng nw cs se)) 120 (fun j hj => absurd hj (by omega)) (fun hI => ?_) (fun i hi hI ih => ?_)
  · show GG (EE l D t) X 0 0 2 [(0, .ref (a 0)), (1, .int (nI 120))] [] (WX a t w x y wy re de co cr cc sr so cf ck ng nw cs se)
    refine g_iload_n F dX0_leastFree_2 rfl rfl ?_
    refine g_bipush F (nI 120) dX0_leastFree_3 (by decide) ?_
    refine g_icmp_ge_t F 25 dX0_leastFree_5 (by decide) (nI_le (Nat.le_refl 120) (by decide)) ?_
    refine g_iconst F (oI none) dX0_leastFree_25 (by decide) ?_
    exact E _ _ _ _ dX0_leastFree_26 ⟨rfl, by rw [fst1_eq, firstN_none hI]⟩
  · show GG (EE l D t) X 0 0 2 [(0, .ref (a 0)), (1, .int (nI i))] [] (WX a t w x y wy re de co cr cc sr so cf ck ng nw cs se)
    refine g_iload_n F dX0_leastFree_2 rfl rfl ?_
    refine g_bipush F (nI 120) dX0_leastFree_3 (by decide) ?_
    refine g_icmp_ge_f F 25 dX0_leastFree_5 (by decide) (nI_ge hi (by decide)) ?_
    refine g_aload_n F dX0_leastFree_8 rfl rfl ?_
    refine gX_get_weights F dX0_leastFree_9 ?_
    refine g_iload_n F dX0_leastFree_12 rfl rfl ?_
    refine gX_ld_weights F hi dX0_leastFree_13 ?_
    refine g_if_ne_n F 19 dX0_leastFree_14 (by decide) (by have := hw i; omega) (fun h => ?_) (fun h => ?_)
    · refine g_iinc (lv2 := [(0, .ref (a 0)), (1, .int (nI (i + 1)))]) F (nI (i + 1)) dX0_leastFree_19 rfl (nI_add i 1) (by decide) rfl ?_
      refine g_goto F 2 dX0_leastFree_22 (by decide) ?_
      exact ih (lt_s hI (by simp; omega))
    · refine g_iload_n F dX0_leastFree_17 rfl rfl ?_
      exact E _ _ _ _ dX0_leastFree_18 ⟨rfl, by rw [fst1_eq, firstN_some (i := i) (by simp [h]) hI hi]; rfl⟩
set_option maxHeartbeats 4000000 in
set_option maxRecDepth 100000 in
/-- forget -/
theorem cX_forget {l : Launch} {D : va_G} {t : Ty3} {a : Nat → Nat} {w : Nat → Nat} {x : Nat → Int32} {y : Nat → Int32} {wy : Nat} {re : Nat} {de : Nat} {co : Nat → Bool} {cr : Nat → Option Nat} {cc : Nat} {sr : Nat} {so : Bool} {cf : Nat → Option Nat} {ck : Bool} {ng : Nat → Nat} {nw : Nat → Nat} {cs : Nat → Nat} {se : Nat → Bool}  : CtV (EE l D t) yX0_forget tsX0_forget (RM 0 0) [.ref (a 0)] (WX a t w x y wy re de co cr cc sr so cf ck ng nw cs se) 0 0 (fun u => u = WX a t w x y wy re de co cr cc sr false cf false ng nw cs se) := by
  refine CtV.of (by decide +kernel) rfl (Nat.le_of_ble_eq_true rfl) (fun X F E => ?_)
  show GG (EE l D t) X 0 0 0 [(0, .ref (a 0))] [] (WX a t w x y wy re de co cr cc sr so cf ck ng nw cs se)
  refine g_aload_n F dX0_forget_0 rfl rfl ?_
  refine g_iconst F (b2 false) dX0_forget_1 (by decide) ?_
  refine gX_put_sorted F dX0_forget_2 ?_
  refine g_aload_n F dX0_forget_5 rfl rfl ?_
  refine g_iconst F (b2 false) dX0_forget_6 (by decide) ?_
  refine gX_put_coreFromKnown F dX0_forget_7 ?_
  exact E _ _ _ dX0_forget_10 rfl
set_option maxHeartbeats 4000000 in
set_option maxRecDepth 100000 in
/-- put -/
theorem cX_put {l : Launch} {D : va_G} {t : Ty3} {a : Nat → Nat} {w : Nat → Nat} {x : Nat → Int32} {y : Nat → Int32} {wy : Nat} {re : Nat} {de : Nat} {co : Nat → Bool} {cr : Nat → Option Nat} {cc : Nat} {sr : Nat} {so : Bool} {cf : Nat → Option Nat} {ck : Bool} {ng : Nat → Nat} {nw : Nat → Nat} {cs : Nat → Nat} {se : Nat → Bool} {j : Nat} (hj : j < 120) (p1 p2 : Int32) : CtV (EE l D t) yX0_put tsX0_put (RM 1 20) [.ref (a 0), .int (nI j), .int p1, .int p2] (WX a t w x y wy re de co cr cc sr so cf ck ng nw cs se) 0 0 (fun u => u = WX a t w (up x j p1) (up y j p2) wy re de co cr cc sr false cf false ng nw cs se) := by
  refine CtV.of (by decide +kernel) rfl (Nat.le_of_ble_eq_true rfl) (fun X F E => ?_)
  show GG (EE l D t) X 0 0 0 [(0, .ref (a 0)), (1, .int (nI j)), (2, .int p1), (3, .int p2)] [] (WX a t w x y wy re de co cr cc sr so cf ck ng nw cs se)
  refine g_aload_n F dX0_put_0 rfl rfl ?_
  refine gX_get_xs F dX0_put_1 ?_
  refine g_iload_n F dX0_put_4 rfl rfl ?_
  refine g_iload_n F dX0_put_5 rfl rfl ?_
  refine gX_st_xs F hj dX0_put_6 ?_
  refine g_aload_n F dX0_put_7 rfl rfl ?_
  refine gX_get_ys F dX0_put_8 ?_
  refine g_iload_n F dX0_put_11 rfl rfl ?_
  refine g_iload_n F dX0_put_12 rfl rfl ?_
  refine gX_st_ys F hj dX0_put_13 ?_
  refine g_aload_n F dX0_put_14 rfl rfl ?_
  refine c_VV F [] (wr := []) cX_forget cwX0_X0_forget ⟨by decide, by decide, rfl, rfl⟩ rfl rfl rfl rfl (Nat.le_of_ble_eq_true rfl) ⟨by decide, by decide⟩ dX0_put_15 (fun u hu => ?_)
  obtain rfl := hu
  show GG (EE l D t) X 0 0 18 [(0, .ref (a 0)), (1, .int (nI j)), (2, .int p1), (3, .int p2)] [] (WX a t w (up x j p1) (up y j p2) wy re de co cr cc sr false cf false ng nw cs se)
  exact E _ _ _ dX0_put_18 rfl
set_option maxHeartbeats 4000000 in
set_option maxRecDepth 100000 in
/-- countPoints -/
theorem cX_countPoints {l : Launch} {D : va_G} {t : Ty3} {a : Nat → Nat} {w : Nat → Nat} {x : Nat → Int32} {y : Nat → Int32} {wy : Nat} {re : Nat} {de : Nat} {co : Nat → Bool} {cr : Nat → Option Nat} {cc : Nat} {sr : Nat} {so : Bool} {cf : Nat → Option Nat} {ck : Bool} {ng : Nat → Nat} {nw : Nat → Nat} {cs : Nat → Nat} {se : Nat → Bool} (hw : ∀ j, w j ≤ 20) : CtI (EE l D t) yX0_countPoints tsX0_countPoints (RM 0 0) [.ref (a 0)] (WX a t w x y wy re de co cr cc sr so cf ck ng nw cs se) 0 0 (fun r u => u = WX a t w x y wy re de co cr cc sr so cf ck ng nw cs se ∧ r = nI (sum1 (fun j => if 0 < w j then 1 else 0))) := by
  refine CtI.of (by decide +kernel) rfl (Nat.le_of_ble_eq_true rfl) (fun X F E => ?_)
  show GG (EE l D t) X 0 0 0 [(0, .ref (a 0))] [] (WX a t w x y wy re de co cr cc sr so cf ck ng nw cs se)
  refine g_iconst F (nI 0) dX0_countPoints_0 (by decide) ?_
  refine g_istore_n (lv2 := [(0, .ref (a 0)), (1, .int (nI 0))]) F dX0_countPoints_1 rfl (by decide) rfl ?_
  refine g_iconst F (nI 0) dX0_countPoints_2 (by decide) ?_
  refine g_istore_n (lv2 := [(0, .ref (a 0)), (1, .int (nI 0)), (2, .int (nI 0))]) F dX0_countPoints_3 rfl (by decide) rfl ?_
  refine up_loop (P := fun i => GG (EE l D t) X 0 0 4 [(0, .ref (a 0)), (1, .int (nI (sumN (fun j => if 0 < w j then 1 else 0) i))), (2, .int (nI i))] [] (WX a t w x y wy re de co cr cc sr so cf ck ng nw cs se)) 120 ?_ (fun i hi ih => ?_)
  · show GG (EE l D t) X 0 0 4 [(0, .ref (a 0)), (1, .int (nI (sumN (fun j => if 0 < w j then 1 else 0) 120))), (2, .int (nI 120))] [] (WX a t w x y wy re de co cr cc sr so cf ck ng nw cs se)
    refine g_iload_n F dX0_countPoints_4 rfl rfl ?_
    refine g_bipush F (nI 120) dX0_countPoints_5 (by decide) ?_
    refine g_icmp_ge_t F 28 dX0_countPoints_7 (by decide) (nI_le (Nat.le_refl 120) (by decide)) ?_
    refine g_iload_n F dX0_countPoints_28 rfl rfl ?_
    exact E _ _ _ _ dX0_countPoints_29 ⟨rfl, by rw [sum1_eq]⟩
  · show GG (EE l D t) X 0 0 4 [(0, .ref (a 0)), (1, .int (nI (sumN (fun j => if 0 < w j then 1 else 0) i))), (2, .int (nI i))] [] (WX a t w x y wy re de co cr cc sr so cf ck ng nw cs se)
    refine g_iload_n F dX0_countPoints_4 rfl rfl ?_
    refine g_bipush F (nI 120) dX0_countPoints_5 (by decide) ?_
    refine g_icmp_ge_f F 28 dX0_countPoints_7 (by decide) (nI_ge hi (by decide)) ?_
    refine g_aload_n F dX0_countPoints_10 rfl rfl ?_
    refine gX_get_weights F dX0_countPoints_11 ?_
    refine g_iload_n F dX0_countPoints_14 rfl rfl ?_
    refine gX_ld_weights F hi dX0_countPoints_15 ?_
    refine g_if_le_n F 22 dX0_countPoints_16 (by decide) (by have := hw i; omega) (fun h => ?_) (fun h => ?_)
    · refine g_iinc (lv2 := [(0, .ref (a 0)), (1, .int (nI (sumN (fun j => if 0 < w j then 1 else 0) i))), (2, .int (nI (i + 1)))]) F (nI (i + 1)) dX0_countPoints_22 rfl (nI_add i 1) (by decide) rfl ?_
      refine g_goto F 4 dX0_countPoints_25 (by decide) ?_
      rw [sumN_z (f := (fun j => if 0 < w j then 1 else 0)) (n := i) (c := 0 < w i) (v := 1) rfl (by omega)] at ih
      exact ih
    · refine g_iinc (lv2 := [(0, .ref (a 0)), (1, .int (nI ((sumN (fun j => if 0 < w j then 1 else 0) i) + 1))), (2, .int (nI i))]) F (nI ((sumN (fun j => if 0 < w j then 1 else 0) i) + 1)) dX0_countPoints_19 rfl (nI_add (sumN (fun j => if 0 < w j then 1 else 0) i) 1) (by decide) rfl ?_
      refine g_iinc (lv2 := [(0, .ref (a 0)), (1, .int (nI ((sumN (fun j => if 0 < w j then 1 else 0) i) + 1))), (2, .int (nI (i + 1)))]) F (nI (i + 1)) dX0_countPoints_22 rfl (nI_add i 1) (by decide) rfl ?_
      refine g_goto F 4 dX0_countPoints_25 (by decide) ?_
      rw [sumN_c (f := (fun j => if 0 < w j then 1 else 0)) (n := i) (c := 0 < w i) (v := 1) rfl h] at ih
      exact ih
set_option maxHeartbeats 4000000 in
set_option maxRecDepth 100000 in
/-- countWeights -/
theorem cX_countWeights {l : Launch} {D : va_G} {t : Ty3} {a : Nat → Nat} {w : Nat → Nat} {x : Nat → Int32} {y : Nat → Int32} {wy : Nat} {re : Nat} {de : Nat} {co : Nat → Bool} {cr : Nat → Option Nat} {cc : Nat} {sr : Nat} {so : Bool} {cf : Nat → Option Nat} {ck : Bool} {ng : Nat → Nat} {nw : Nat → Nat} {cs : Nat → Nat} {se : Nat → Bool}  : CtI (EE l D t) yX0_countWeights tsX0_countWeights (RM 0 0) [.ref (a 0)] (WX a t w x y wy re de co cr cc sr so cf ck ng nw cs se) 0 0 (fun r u => u = WX a t w x y wy re de co cr cc sr so cf ck ng nw cs se ∧ r = nI (sum1 w)) := by
  refine CtI.of (by decide +kernel) rfl (Nat.le_of_ble_eq_true rfl) (fun X F E => ?_)
  show GG (EE l D t) X 0 0 0 [(0, .ref (a 0))] [] (WX a t w x y wy re de co cr cc sr so cf ck ng nw cs se)
  refine g_iconst F (nI 0) dX0_countWeights_0 (by decide) ?_
  refine g_istore_n (lv2 := [(0, .ref (a 0)), (1, .int (nI 0))]) F dX0_countWeights_1 rfl (by decide) rfl ?_
  refine g_iconst F (nI 0) dX0_countWeights_2 (by decide) ?_
  refine g_istore_n (lv2 := [(0, .ref (a 0)), (1, .int (nI 0)), (2, .int (nI 0))]) F dX0_countWeights_3 rfl (by decide) rfl ?_
  refine up_loop (P := fun i => GG (EE l D t) X 0 0 4 [(0, .ref (a 0)), (1, .int (nI (sumN w i))), (2, .int (nI i))] [] (WX a t w x y wy re de co cr cc sr so cf ck ng nw cs se)) 120 ?_ (fun i hi ih => ?_)
  · show GG (EE l D t) X 0 0 4 [(0, .ref (a 0)), (1, .int (nI (sumN w 120))), (2, .int (nI 120))] [] (WX a t w x y wy re de co cr cc sr so cf ck ng nw cs se)
    refine g_iload_n F dX0_countWeights_4 rfl rfl ?_
    refine g_bipush F (nI 120) dX0_countWeights_5 (by decide) ?_
    refine g_icmp_ge_t F 25 dX0_countWeights_7 (by decide) (nI_le (Nat.le_refl 120) (by decide)) ?_
    refine g_iload_n F dX0_countWeights_25 rfl rfl ?_
    exact E _ _ _ _ dX0_countWeights_26 ⟨rfl, by rw [sum1_eq]⟩
  · show GG (EE l D t) X 0 0 4 [(0, .ref (a 0)), (1, .int (nI (sumN w i))), (2, .int (nI i))] [] (WX a t w x y wy re de co cr cc sr so cf ck ng nw cs se)
    refine g_iload_n F dX0_countWeights_4 rfl rfl ?_
    refine g_bipush F (nI 120) dX0_countWeights_5 (by decide) ?_
    refine g_icmp_ge_f F 25 dX0_countWeights_7 (by decide) (nI_ge hi (by decide)) ?_
    refine g_iload_n F dX0_countWeights_10 rfl rfl ?_
    refine g_aload_n F dX0_countWeights_11 rfl rfl ?_
    refine gX_get_weights F dX0_countWeights_12 ?_
    refine g_iload_n F dX0_countWeights_15 rfl rfl ?_
    refine gX_ld_weights F hi dX0_countWeights_16 ?_
    refine g_iadd_n F dX0_countWeights_17 ?_
    refine g_istore_n (lv2 := [(0, .ref (a 0)), (1, .int (nI ((sumN w i) + (w i)))), (2, .int (nI i))]) F dX0_countWeights_18 rfl (by decide) rfl ?_
    refine g_iinc (lv2 := [(0, .ref (a 0)), (1, .int (nI ((sumN w i) + (w i)))), (2, .int (nI (i + 1)))]) F (nI (i + 1)) dX0_countWeights_19 rfl (nI_add i 1) (by decide) rfl ?_
    refine g_goto F 4 dX0_countWeights_22 (by decide) ?_
    exact ih
set_option maxHeartbeats 4000000 in
set_option maxRecDepth 100000 in
/-- gapTo -/
theorem cX_gapTo {l : Launch} {D : va_G} {t : Ty3} {a : Nat → Nat} {w : Nat → Nat} {x : Nat → Int32} {y : Nat → Int32} {wy : Nat} {re : Nat} {de : Nat} {co : Nat → Bool} {cr : Nat → Option Nat} {cc : Nat} {sr : Nat} {so : Bool} {cf : Nat → Option Nat} {ck : Bool} {ng : Nat → Nat} {nw : Nat → Nat} {cs : Nat → Nat} {se : Nat → Bool} (hwy : wy ≤ 2) {j : Nat} (hj : j < 120) (p1 p2 : Int32) : CtL (EE l D t) yX0_gapTo tsX0_gapTo (RM 1 23) [.ref (a 0), .int (nI j), .int p1, .int p2] (WX a t w x y wy re de co cr cc sr so cf ck ng nw cs se) 0 0 (fun r u => u = WX a t w x y wy re de co cr cc sr so cf ck ng nw cs se ∧ r = lN (gapN wy (x j) (y j) p1 p2)) := by
  refine CtL.of (by decide +kernel) rfl (Nat.le_of_ble_eq_true rfl) (fun X F E => ?_)
  show GG (EE l D t) X 0 0 0 [(0, .ref (a 0)), (1, .int (nI j)), (2, .int p1), (3, .int p2)] [] (WX a t w x y wy re de co cr cc sr so cf ck ng nw cs se)
  refine g_aload_n F dX0_gapTo_0 rfl rfl ?_
  refine gX_get_xs F dX0_gapTo_1 ?_
  refine g_iload_n F dX0_gapTo_4 rfl rfl ?_
  refine gX_ld_xs F hj dX0_gapTo_5 ?_
  refine g_i2l F dX0_gapTo_6 ?_
  refine g_iload_n F dX0_gapTo_7 rfl rfl ?_
  refine g_i2l F dX0_gapTo_8 ?_
  refine g_lsub F dX0_gapTo_9 ?_
  refine g_absl F dX0_gapTo_10 mM_absl ⟨by decide, Nat.le_of_ble_eq_true rfl, by decide, by decide⟩ ?_
  refine g_topl (abs_dist _ _) ?_
  refine g_lstore (lv2 := [(0, .ref (a 0)), (1, .int (nI j)), (2, .int p1), (3, .int p2), (4, .long (lN (dist1 (x j) p1)))]) F dX0_gapTo_13 (by decide) rfl ?_
  refine g_aload_n F dX0_gapTo_15 rfl rfl ?_
  refine gX_get_ys F dX0_gapTo_16 ?_
  refine g_iload_n F dX0_gapTo_19 rfl rfl ?_
  refine gX_ld_ys F hj dX0_gapTo_20 ?_
  refine g_i2l F dX0_gapTo_21 ?_
  refine g_iload_n F dX0_gapTo_22 rfl rfl ?_
  refine g_i2l F dX0_gapTo_23 ?_
  refine g_lsub F dX0_gapTo_24 ?_
  refine g_absl F dX0_gapTo_25 mM_absl ⟨by decide, Nat.le_of_ble_eq_true rfl, by decide, by decide⟩ ?_
  refine g_topl (abs_dist _ _) ?_
  refine g_lstore (lv2 := [(0, .ref (a 0)), (1, .int (nI j)), (2, .int p1), (3, .int p2), (4, .long (lN (dist1 (x j) p1))), (6, .long (lN (dist1 (y j) p2)))]) F dX0_gapTo_28 (by decide) rfl ?_
  refine g_aload_n F dX0_gapTo_30 rfl rfl ?_
  refine gX_get_wayNow F dX0_gapTo_31 ?_
  refine g_if_ne_n F 49 dX0_gapTo_34 (by decide) (by omega) (fun h => ?_) (fun h => ?_)
  · refine g_aload_n F dX0_gapTo_49 rfl rfl ?_
    refine gX_get_wayNow F dX0_gapTo_50 ?_
    refine g_iconst F (nI 1) dX0_gapTo_53 (by decide) ?_
    refine g_icmp_ne_n F 67 dX0_gapTo_54 (by decide) (by omega) (by decide) (fun h2 => ?_) (fun h2 => ?_)
    · refine g_lload F dX0_gapTo_67 rfl ?_
      refine g_lload F dX0_gapTo_69 rfl ?_
      refine g_ladd_n F dX0_gapTo_71 ?_
      exact E _ _ _ _ dX0_gapTo_72 ⟨rfl, by unfold gapN; rw [if_neg (by omega), if_neg h2]⟩
    · refine g_lload F dX0_gapTo_57 rfl ?_
      refine g_lload F dX0_gapTo_59 rfl ?_
      refine g_maxl F dX0_gapTo_61 mM_maxl ⟨by decide, Nat.le_of_ble_eq_true rfl, by decide, by decide⟩ ?_
      refine g_topl (max_lN (Nat.lt_trans (dist1_lt _ _) (by decide)) (Nat.lt_trans (dist1_lt _ _) (by decide))) ?_
      refine g_goto F 72 dX0_gapTo_64 (by decide) ?_
      exact E _ _ _ _ dX0_gapTo_72 ⟨rfl, by unfold gapN; rw [if_neg (by omega), if_pos h2]⟩
  · refine g_lload F dX0_gapTo_37 rfl ?_
    refine g_lload F dX0_gapTo_39 rfl ?_
    refine g_lmul_n F dX0_gapTo_41 ?_
    refine g_lload F dX0_gapTo_42 rfl ?_
    refine g_lload F dX0_gapTo_44 rfl ?_
    refine g_lmul_n F dX0_gapTo_46 ?_
    refine g_ladd_n F dX0_gapTo_47 ?_
    exact E _ _ _ _ dX0_gapTo_48 ⟨rfl, by unfold gapN; rw [if_pos h]⟩
set_option maxHeartbeats 4000000 in
set_option maxRecDepth 100000 in
/-- gapBetween -/
theorem cX_gapBetween {l : Launch} {D : va_G} {t : Ty3} {a : Nat → Nat} {w : Nat → Nat} {x : Nat → Int32} {y : Nat → Int32} {wy : Nat} {re : Nat} {de : Nat} {co : Nat → Bool} {cr : Nat → Option Nat} {cc : Nat} {sr : Nat} {so : Bool} {cf : Nat → Option Nat} {ck : Bool} {ng : Nat → Nat} {nw : Nat → Nat} {cs : Nat → Nat} {se : Nat → Bool} (hwy : wy ≤ 2) {i j : Nat} (hi : i < 120) (hj : j < 120) : CtL (EE l D t) yX0_gapBetween tsX0_gapBetween (RM 2 50) [.ref (a 0), .int (nI i), .int (nI j)] (WX a t w x y wy re de co cr cc sr so cf ck ng nw cs se) 0 0 (fun r u => u = WX a t w x y wy re de co cr cc sr so cf ck ng nw cs se ∧ r = lN (gp wy x y i j)) := by
  refine CtL.of (by decide +kernel) rfl (Nat.le_of_ble_eq_true rfl) (fun X F E => ?_)
  show GG (EE l D t) X 0 0 0 [(0, .ref (a 0)), (1, .int (nI i)), (2, .int (nI j))] [] (WX a t w x y wy re de co cr cc sr so cf ck ng nw cs se)
  refine g_aload_n F dX0_gapBetween_0 rfl rfl ?_
  refine g_iload_n F dX0_gapBetween_1 rfl rfl ?_
  refine g_aload_n F dX0_gapBetween_2 rfl rfl ?_
  refine gX_get_xs F dX0_gapBetween_3 ?_
  refine g_iload_n F dX0_gapBetween_6 rfl rfl ?_
  refine gX_ld_xs F hi dX0_gapBetween_7 ?_
  refine g_aload_n F dX0_gapBetween_8 rfl rfl ?_
  refine gX_get_ys F dX0_gapBetween_9 ?_
  refine g_iload_n F dX0_gapBetween_12 rfl rfl ?_
  refine gX_ld_ys F hi dX0_gapBetween_13 ?_
  refine c_VL F [] (wr := []) (cX_gapTo hwy hj (x i) (y i)) cwX0_X0_gapTo ⟨by decide, by decide, rfl, rfl⟩ rfl rfl rfl rfl (Nat.le_of_ble_eq_true rfl) ⟨by decide, by decide⟩ dX0_gapBetween_14 (fun r u hu => ?_)
  obtain ⟨rfl, rfl⟩ := hu
  show GG (EE l D t) X 0 0 17 [(0, .ref (a 0)), (1, .int (nI i)), (2, .int (nI j))] [.long (lN (gp wy x y i j))] (WX a t w x y wy re de co cr cc sr so cf ck ng nw cs se)
  exact E _ _ _ _ dX0_gapBetween_17 ⟨rfl, rfl⟩
set_option maxHeartbeats 4000000 in
set_option maxRecDepth 100000 in
/-- weightWithin -/
theorem cX_weightWithin {l : Launch} {D : va_G} {t : Ty3} {a : Nat → Nat} {w : Nat → Nat} {x : Nat → Int32} {y : Nat → Int32} {wy : Nat} {re : Nat} {de : Nat} {co : Nat → Bool} {cr : Nat → Option Nat} {cc : Nat} {sr : Nat} {so : Bool} {cf : Nat → Option Nat} {ck : Bool} {ng : Nat → Nat} {nw : Nat → Nat} {cs : Nat → Nat} {se : Nat → Bool} (hf : WFp w x y wy re de) {p r0 : Nat} (hp : p < 120) (hr : r0 < 2 ^ 63) : CtI (EE l D t) yX0_weightWithin tsX0_weightWithin (RM 3 72) [.ref (a 0), .int (nI p), .long (lN r0)] (WX a t w x y wy re de co cr cc sr so cf ck ng nw cs se) 0 0 (fun r u => u = WX a t w x y wy re de co cr cc sr so cf ck ng nw cs se ∧ r = nI (ww w (gp wy x y p) r0)) := by
  refine CtI.of (by decide +kernel) rfl (Nat.le_of_ble_eq_true rfl) (fun X F E => ?_)
  show GG (EE l D t) X 0 0 0 [(0, .ref (a 0)), (1, .int (nI p)), (2, .long (lN r0))] [] (WX a t w x y wy re de co cr cc sr so cf ck ng nw cs se)
  refine g_iconst F (nI 0) dX0_weightWithin_0 (by decide) ?_
  refine g_istore (lv2 := [(0, .ref (a 0)), (1, .int (nI p)), (2, .long (lN r0)), (4, .int (nI 0))]) F dX0_weightWithin_1 (by decide) rfl ?_
  refine g_iconst F (nI 0) dX0_weightWithin_3 (by decide) ?_
  refine g_istore (lv2 := [(0, .ref (a 0)), (1, .int (nI p)), (2, .long (lN r0)), (4, .int (nI 0)), (5, .int (nI 0))]) F dX0_weightWithin_4 (by decide) rfl ?_
  refine up_loop (P := fun i => GG (EE l D t) X 0 0 6 [(0, .ref (a 0)), (1, .int (nI p)), (2, .long (lN r0)), (4, .int (nI (sumN (wwf w (gp wy x y p) r0) i))), (5, .int (nI i))] [] (WX a t w x y wy re de co cr cc sr so cf ck ng nw cs se)) 120 ?_ (fun i hi ih => ?_)
  · show GG (EE l D t) X 0 0 6 [(0, .ref (a 0)), (1, .int (nI p)), (2, .long (lN r0)), (4, .int (nI (sumN (wwf w (gp wy x y p) r0) 120))), (5, .int (nI 120))] [] (WX a t w x y wy re de co cr cc sr so cf ck ng nw cs se)
    refine g_iload F dX0_weightWithin_6 rfl ?_
    refine g_bipush F (nI 120) dX0_weightWithin_8 (by decide) ?_
    refine g_icmp_ge_t F 53 dX0_weightWithin_10 (by decide) (nI_le (Nat.le_refl 120) (by decide)) ?_
    refine g_iload F dX0_weightWithin_53 rfl ?_
    exact E _ _ _ _ dX0_weightWithin_55 ⟨rfl, by unfold ww; rw [sum1_eq]⟩
  · show GG (EE l D t) X 0 0 6 [(0, .ref (a 0)), (1, .int (nI p)), (2, .long (lN r0)), (4, .int (nI (sumN (wwf w (gp wy x y p) r0) i))), (5, .int (nI i))] [] (WX a t w x y wy re de co cr cc sr so cf ck ng nw cs se)
    refine g_iload F dX0_weightWithin_6 rfl ?_
    refine g_bipush F (nI 120) dX0_weightWithin_8 (by decide) ?_
    refine g_icmp_ge_f F 53 dX0_weightWithin_10 (by decide) (nI_ge hi (by decide)) ?_
    refine g_aload_n F dX0_weightWithin_13 rfl rfl ?_
    refine gX_get_weights F dX0_weightWithin_14 ?_
    refine g_iload F dX0_weightWithin_17 rfl ?_
    refine gX_ld_weights F hi dX0_weightWithin_19 ?_
    refine g_if_le_n F 47 dX0_weightWithin_20 (by decide) (by have := hf.1 i; omega) (fun h => ?_) (fun h => ?_)
    · refine g_iinc (lv2 := [(0, .ref (a 0)), (1, .int (nI p)), (2, .long (lN r0)), (4, .int (nI (sumN (wwf w (gp wy x y p) r0) i))), (5, .int (nI (i + 1)))]) F (nI (i + 1)) dX0_weightWithin_47 rfl (nI_add i 1) (by decide) rfl ?_
      refine g_goto F 6 dX0_weightWithin_50 (by decide) ?_
      rw [sumN_z (f := (wwf w (gp wy x y p) r0)) (n := i) (c := 0 < w i ∧ gp wy x y p i ≤ r0) (v := w i) rfl (by omega)] at ih
      exact ih
    · refine g_aload_n F dX0_weightWithin_23 rfl rfl ?_
      refine g_iload_n F dX0_weightWithin_24 rfl rfl ?_
      refine g_iload F dX0_weightWithin_25 rfl ?_
      refine c_VL F [] (wr := []) (cX_gapBetween hf.2.2.2.1 hp hi) cwX0_X0_gapBetween ⟨by decide, by decide, rfl, rfl⟩ rfl rfl rfl rfl (Nat.le_of_ble_eq_true rfl) ⟨by decide, by decide⟩ dX0_weightWithin_27 (fun r u hu => ?_)
      obtain ⟨rfl, rfl⟩ := hu
      show GG (EE l D t) X 0 0 30 [(0, .ref (a 0)), (1, .int (nI p)), (2, .long (lN r0)), (4, .int (nI (sumN (wwf w (gp wy x y p) r0) i))), (5, .int (nI i))] [.long (lN (gp wy x y p i))] (WX a t w x y wy re de co cr cc sr so cf ck ng nw cs se)
      refine g_lload_n F dX0_weightWithin_30 rfl rfl ?_
      refine g_lc_gt_n F 47 dX0_weightWithin_31 dX0_weightWithin_32 (by decide) (Nat.lt_of_lt_of_le (gp_lt hf p i) (by decide)) hr (fun h2 => ?_) (fun h2 => ?_)
      · refine g_iinc (lv2 := [(0, .ref (a 0)), (1, .int (nI p)), (2, .long (lN r0)), (4, .int (nI (sumN (wwf w (gp wy x y p) r0) i))), (5, .int (nI (i + 1)))]) F (nI (i + 1)) dX0_weightWithin_47 rfl (nI_add i 1) (by decide) rfl ?_
        refine g_goto F 6 dX0_weightWithin_50 (by decide) ?_
        rw [sumN_z (f := (wwf w (gp wy x y p) r0)) (n := i) (c := 0 < w i ∧ gp wy x y p i ≤ r0) (v := w i) rfl (by omega)] at ih
        exact ih
      · refine g_iload F dX0_weightWithin_35 rfl ?_
        refine g_aload_n F dX0_weightWithin_37 rfl rfl ?_
        refine gX_get_weights F dX0_weightWithin_38 ?_
        refine g_iload F dX0_weightWithin_41 rfl ?_
        refine gX_ld_weights F hi dX0_weightWithin_43 ?_
        refine g_iadd_n F dX0_weightWithin_44 ?_
        refine g_istore (lv2 := [(0, .ref (a 0)), (1, .int (nI p)), (2, .long (lN r0)), (4, .int (nI ((sumN (wwf w (gp wy x y p) r0) i) + (w i)))), (5, .int (nI i))]) F dX0_weightWithin_45 (by decide) rfl ?_
        refine g_iinc (lv2 := [(0, .ref (a 0)), (1, .int (nI p)), (2, .long (lN r0)), (4, .int (nI ((sumN (wwf w (gp wy x y p) r0) i) + (w i)))), (5, .int (nI (i + 1)))]) F (nI (i + 1)) dX0_weightWithin_47 rfl (nI_add i 1) (by decide) rfl ?_
        refine g_goto F 6 dX0_weightWithin_50 (by decide) ?_
        rw [sumN_c (f := (wwf w (gp wy x y p) r0)) (n := i) (c := 0 < w i ∧ gp wy x y p i ≤ r0) (v := w i) rfl ⟨h, h2⟩] at ih
        exact ih
end
section
set_option maxHeartbeats 4000000 in
set_option maxRecDepth 100000 in
/-- markCores -/
theorem cX_markCores {l : Launch} {D : va_G} {t : Ty3} {a : Nat → Nat} {w : Nat → Nat} {x : Nat → Int32} {y : Nat → Int32} {wy : Nat} {re : Nat} {de : Nat} {co : Nat → Bool} {cr : Nat → Option Nat} {cc : Nat} {sr : Nat} {so : Bool} {cf : Nat → Option Nat} {ck : Bool} {ng : Nat → Nat} {nw : Nat → Nat} {cs : Nat → Nat} {se : Nat → Bool} (hf : WFp w x y wy re de) {r0 : Nat} (hr : r0 < 2 ^ 63) : CtV (EE l D t) yX0_markCores tsX0_markCores (RM 4 97) [.ref (a 0), .long (lN r0)] (WX a t w x y wy re de co cr cc sr so cf ck ng nw cs se) 0 0 (fun u => u = WX a t w x y wy re de (fill co (isC w x y wy de r0) 120) (fill cr (fun _ => none) 120) cc sr so cf ck ng nw cs (fill se (fun _ => false) 120)) := by
  refine CtV.of (by decide +kernel) rfl (Nat.le_of_ble_eq_true rfl) (fun X F E => ?_)
  show GG (EE l D t) X 0 0 0 [(0, .ref (a 0)), (1, .long (lN r0))] [] (WX a t w x y wy re de co cr cc sr so cf ck ng nw cs se)
  refine g_iconst F (nI 0) dX0_markCores_0 (by decide) ?_
  refine g_istore_n (lv2 := [(0, .ref (a 0)), (1, .long (lN r0)), (3, .int (nI 0))]) F dX0_markCores_1 rfl (by decide) rfl ?_
  have e0 : WX a t w x y wy re de (fill co (isC w x y wy de r0) 0) (fill cr (fun _ => none) 0) cc sr so cf ck ng nw cs (fill se (fun _ => false) 0) = WX a t w x y wy re de co cr cc sr so cf ck ng nw cs se := by rw [fill_0, fill_0, fill_0]
  rw [← e0]
  refine up_loop (P := fun i => GG (EE l D t) X 0 0 2 [(0, .ref (a 0)), (1, .long (lN r0)), (3, .int (nI i))] [] (WX a t w x y wy re de (fill co (isC w x y wy de r0) i) (fill cr (fun _ => none) i) cc sr so cf ck ng nw cs (fill se (fun _ => false) i))) 120 ?_ (fun i hi ih => ?_)
  · show GG (EE l D t) X 0 0 2 [(0, .ref (a 0)), (1, .long (lN r0)), (3, .int (nI 120))] [] (WX a t w x y wy re de (fill co (isC w x y wy de r0) 120) (fill cr (fun _ => none) 120) cc sr so cf ck ng nw cs (fill se (fun _ => false) 120))
    refine g_iload_n F dX0_markCores_2 rfl rfl ?_
    refine g_bipush F (nI 120) dX0_markCores_3 (by decide) ?_
    refine g_icmp_ge_t F 61 dX0_markCores_5 (by decide) (nI_le (Nat.le_refl 120) (by decide)) ?_
    exact E _ _ _ dX0_markCores_61 rfl
  · show GG (EE l D t) X 0 0 2 [(0, .ref (a 0)), (1, .long (lN r0)), (3, .int (nI i))] [] (WX a t w x y wy re de (fill co (isC w x y wy de r0) i) (fill cr (fun _ => none) i) cc sr so cf ck ng nw cs (fill se (fun _ => false) i))
    refine g_iload_n F dX0_markCores_2 rfl rfl ?_
    refine g_bipush F (nI 120) dX0_markCores_3 (by decide) ?_
    refine g_icmp_ge_f F 61 dX0_markCores_5 (by decide) (nI_ge hi (by decide)) ?_
    refine g_aload_n F dX0_markCores_8 rfl rfl ?_
    refine gX_get_core F dX0_markCores_9 ?_
    refine g_iload_n F dX0_markCores_12 rfl rfl ?_
    refine g_aload_n F dX0_markCores_13 rfl rfl ?_
    refine gX_get_weights F dX0_markCores_14 ?_
    refine g_iload_n F dX0_markCores_17 rfl rfl ?_
    refine gX_ld_weights F hi dX0_markCores_18 ?_
    refine g_if_le_n F 39 dX0_markCores_19 (by decide) (by have := hf.1 i; omega) (fun h => ?_) (fun h => ?_)
    · refine g_iconst F (b2 false) dX0_markCores_39 (by decide) ?_
      refine gX_st_core F hi dX0_markCores_40 ?_
      refine g_aload_n F dX0_markCores_41 rfl rfl ?_
      refine gX_get_crowdOf F dX0_markCores_42 ?_
      refine g_iload_n F dX0_markCores_45 rfl rfl ?_
      refine g_iconst F (oI none) dX0_markCores_46 (by decide) ?_
      refine gX_st_crowdOf F hi dX0_markCores_47 ?_
      refine g_aload_n F dX0_markCores_48 rfl rfl ?_
      refine gX_get_settled F dX0_markCores_49 ?_
      refine g_iload_n F dX0_markCores_52 rfl rfl ?_
      refine g_iconst F (b2 false) dX0_markCores_53 (by decide) ?_
      refine gX_st_settled F hi dX0_markCores_54 ?_
      refine g_iinc (lv2 := [(0, .ref (a 0)), (1, .long (lN r0)), (3, .int (nI (i + 1)))]) F (nI (i + 1)) dX0_markCores_55 rfl (nI_add i 1) (by decide) rfl ?_
      refine g_goto F 2 dX0_markCores_58 (by decide) ?_
      rw [fill_up (f := co) (g := (isC w x y wy de r0)) (v := false) (by unfold isC; simp; omega), fill_up (f := cr) (g := fun _ => none) (v := none) rfl, fill_up (f := se) (g := fun _ => false) (v := false) rfl] at ih
      exact ih
    · refine g_aload_n F dX0_markCores_22 rfl rfl ?_
      refine g_iload_n F dX0_markCores_23 rfl rfl ?_
      refine g_lload_n F dX0_markCores_24 rfl rfl ?_
      refine c_VI F [.int (nI i), .ref (a 4)] (wr := []) (cX_weightWithin hf hi hr) cwX0_X0_weightWithin ⟨by decide, by decide, rfl, rfl⟩ rfl rfl rfl rfl (Nat.le_of_ble_eq_true rfl) ⟨by decide, by decide⟩ dX0_markCores_25 (fun r u hu => ?_)
      obtain ⟨rfl, rfl⟩ := hu
      show GG (EE l D t) X 0 0 28 [(0, .ref (a 0)), (1, .long (lN r0)), (3, .int (nI i))] [.int (nI (ww w (gp wy x y i) r0)), .int (nI i), .ref (a 4)] (WX a t w x y wy re de (fill co (isC w x y wy de r0) i) (fill cr (fun _ => none) i) cc sr so cf ck ng nw cs (fill se (fun _ => false) i))
      refine g_aload_n F dX0_markCores_28 rfl rfl ?_
      refine gX_get_demandNow F dX0_markCores_29 ?_
      refine g_icmp_lt_n F 39 dX0_markCores_32 (by decide) (by have := sum1_le (wwf_le (g := gp wy x y i) (r := r0) hf.1); unfold ww; omega) (by have := hf.2.2.2.2.2; omega) (fun h2 => ?_) (fun h2 => ?_)
      · refine g_iconst F (b2 false) dX0_markCores_39 (by decide) ?_
        refine gX_st_core F hi dX0_markCores_40 ?_
        refine g_aload_n F dX0_markCores_41 rfl rfl ?_
        refine gX_get_crowdOf F dX0_markCores_42 ?_
        refine g_iload_n F dX0_markCores_45 rfl rfl ?_
        refine g_iconst F (oI none) dX0_markCores_46 (by decide) ?_
        refine gX_st_crowdOf F hi dX0_markCores_47 ?_
        refine g_aload_n F dX0_markCores_48 rfl rfl ?_
        refine gX_get_settled F dX0_markCores_49 ?_
        refine g_iload_n F dX0_markCores_52 rfl rfl ?_
        refine g_iconst F (b2 false) dX0_markCores_53 (by decide) ?_
        refine gX_st_settled F hi dX0_markCores_54 ?_
        refine g_iinc (lv2 := [(0, .ref (a 0)), (1, .long (lN r0)), (3, .int (nI (i + 1)))]) F (nI (i + 1)) dX0_markCores_55 rfl (nI_add i 1) (by decide) rfl ?_
        refine g_goto F 2 dX0_markCores_58 (by decide) ?_
        rw [fill_up (f := co) (g := (isC w x y wy de r0)) (v := false) (by unfold isC; simp; omega), fill_up (f := cr) (g := fun _ => none) (v := none) rfl, fill_up (f := se) (g := fun _ => false) (v := false) rfl] at ih
        exact ih
      · refine g_iconst F (b2 true) dX0_markCores_35 (by decide) ?_
        refine g_goto F 40 dX0_markCores_36 (by decide) ?_
        refine gX_st_core F hi dX0_markCores_40 ?_
        refine g_aload_n F dX0_markCores_41 rfl rfl ?_
        refine gX_get_crowdOf F dX0_markCores_42 ?_
        refine g_iload_n F dX0_markCores_45 rfl rfl ?_
        refine g_iconst F (oI none) dX0_markCores_46 (by decide) ?_
        refine gX_st_crowdOf F hi dX0_markCores_47 ?_
        refine g_aload_n F dX0_markCores_48 rfl rfl ?_
        refine gX_get_settled F dX0_markCores_49 ?_
        refine g_iload_n F dX0_markCores_52 rfl rfl ?_
        refine g_iconst F (b2 false) dX0_markCores_53 (by decide) ?_
        refine gX_st_settled F hi dX0_markCores_54 ?_
        refine g_iinc (lv2 := [(0, .ref (a 0)), (1, .long (lN r0)), (3, .int (nI (i + 1)))]) F (nI (i + 1)) dX0_markCores_55 rfl (nI_add i 1) (by decide) rfl ?_
        refine g_goto F 2 dX0_markCores_58 (by decide) ?_
        rw [fill_up (f := co) (g := (isC w x y wy de r0)) (v := true) (by unfold isC; simp; omega), fill_up (f := cr) (g := fun _ => none) (v := none) rfl, fill_up (f := se) (g := fun _ => false) (v := false) rfl] at ih
        exact ih
set_option maxHeartbeats 4000000 in
set_option maxRecDepth 100000 in
/-- leastUnsettledCore -/
theorem cX_leastUnsettledCore {l : Launch} {D : va_G} {t : Ty3} {a : Nat → Nat} {w : Nat → Nat} {x : Nat → Int32} {y : Nat → Int32} {wy : Nat} {re : Nat} {de : Nat} {co : Nat → Bool} {cr : Nat → Option Nat} {cc : Nat} {sr : Nat} {so : Bool} {cf : Nat → Option Nat} {ck : Bool} {ng : Nat → Nat} {nw : Nat → Nat} {cs : Nat → Nat} {se : Nat → Bool} (hcr : bdC cr) (hcc : cc < 120) : CtI (EE l D t) yX0_leastUnsettledCore tsX0_leastUnsettledCore (RM 0 0) [.ref (a 0)] (WX a t w x y wy re de co cr cc sr so cf ck ng nw cs se) 0 0 (fun r u => u = WX a t w x y wy re de co cr cc sr so cf ck ng nw cs se ∧ r = oI (fst1 (selU cr se cc))) := by
  refine CtI.of (by decide +kernel) rfl (Nat.le_of_ble_eq_true rfl) (fun X F E => ?_)
  show GG (EE l D t) X 0 0 0 [(0, .ref (a 0))] [] (WX a t w x y wy re de co cr cc sr so cf ck ng nw cs se)
  refine g_iconst F (nI 0) dX0_leastUnsettledCore_0 (by decide) ?_
  refine g_istore_n (lv2 := [(0, .ref (a 0)), (1, .int (nI 0))]) F dX0_leastUnsettledCore_1 rfl (by decide) rfl ?_
  refine up_loopI (I := fun i => ∀ j, j < i → selU cr se cc j = false) (P := fun i => GG (EE l D t) X 0 0 2 [(0, .ref (a 0)), (1, .int (nI i))] [] (WX a t w x y wy re de co cr cc sr so cf ck ng nw cs se)) 120 (fun j hj => absurd hj (by omega)) (fun hI => ?_) (fun i hi hI ih => ?_)
  · show GG (EE l D t) X 0 0 2 [(0, .ref (a 0)), (1, .int (nI 120))] [] (WX a t w x y wy re de co cr cc sr so cf ck ng nw cs se)
    refine g_iload_n F dX0_leastUnsettledCore_2 rfl rfl ?_
    refine g_bipush F (nI 120) dX0_leastUnsettledCore_3 (by decide) ?_
    refine g_icmp_ge_t F 38 dX0_leastUnsettledCore_5 (by decide) (nI_le (Nat.le_refl 120) (by decide)) ?_
    refine g_iconst F (oI none) dX0_leastUnsettledCore_38 (by decide) ?_
    exact E _ _ _ _ dX0_leastUnsettledCore_39 ⟨rfl, by rw [fst1_eq, firstN_none hI]⟩
  · show GG (EE l D t) X 0 0 2 [(0, .ref (a 0)), (1, .int (nI i))] [] (WX a t w x y wy re de co cr cc sr so cf ck ng nw cs se)
    refine g_iload_n F dX0_leastUnsettledCore_2 rfl rfl ?_
    refine g_bipush F (nI 120) dX0_leastUnsettledCore_3 (by decide) ?_
    refine g_icmp_ge_f F 38 dX0_leastUnsettledCore_5 (by decide) (nI_ge hi (by decide)) ?_
    refine g_aload_n F dX0_leastUnsettledCore_8 rfl rfl ?_
    refine gX_get_crowdOf F dX0_leastUnsettledCore_9 ?_
    refine g_iload_n F dX0_leastUnsettledCore_12 rfl rfl ?_
    refine gX_ld_crowdOf F hi dX0_leastUnsettledCore_13 ?_
    refine g_aload_n F dX0_leastUnsettledCore_14 rfl rfl ?_
    refine gX_get_crowdCount F dX0_leastUnsettledCore_15 ?_
    refine g_icmp_ne_on F 32 dX0_leastUnsettledCore_18 (by decide) (bd31 hcr i) (by omega) (fun h => ?_) (fun h => ?_)
    · refine g_iinc (lv2 := [(0, .ref (a 0)), (1, .int (nI (i + 1)))]) F (nI (i + 1)) dX0_leastUnsettledCore_32 rfl (nI_add i 1) (by decide) rfl ?_
      refine g_goto F 2 dX0_leastUnsettledCore_35 (by decide) ?_
      exact ih (lt_s hI (by simp [selU, h]))
    · refine g_aload_n F dX0_leastUnsettledCore_21 rfl rfl ?_
      refine gX_get_settled F dX0_leastUnsettledCore_22 ?_
      refine g_iload_n F dX0_leastUnsettledCore_25 rfl rfl ?_
      refine gX_ld_settled F hi dX0_leastUnsettledCore_26 ?_
      refine g_if_ne_b F 32 dX0_leastUnsettledCore_27 (by decide)  (fun h2 => ?_) (fun h2 => ?_)
      · refine g_iinc (lv2 := [(0, .ref (a 0)), (1, .int (nI (i + 1)))]) F (nI (i + 1)) dX0_leastUnsettledCore_32 rfl (nI_add i 1) (by decide) rfl ?_
        refine g_goto F 2 dX0_leastUnsettledCore_35 (by decide) ?_
        exact ih (lt_s hI (by simp [selU, h2]))
      · refine g_iload_n F dX0_leastUnsettledCore_30 rfl rfl ?_
        exact E _ _ _ _ dX0_leastUnsettledCore_31 ⟨rfl, by rw [fst1_eq, firstN_some (i := i) (by simp [selU, h, h2]) hI hi]; rfl⟩
set_option maxHeartbeats 4000000 in
set_option maxRecDepth 100000 in
/-- gatherCoresNear -/
theorem cX_gatherCoresNear {l : Launch} {D : va_G} {t : Ty3} {a : Nat → Nat} {w : Nat → Nat} {x : Nat → Int32} {y : Nat → Int32} {wy : Nat} {re : Nat} {de : Nat} {co : Nat → Bool} {cr : Nat → Option Nat} {cc : Nat} {sr : Nat} {so : Bool} {cf : Nat → Option Nat} {ck : Bool} {ng : Nat → Nat} {nw : Nat → Nat} {cs : Nat → Nat} {se : Nat → Bool} (hf : WFp w x y wy re de) (hcr : bdC cr) {p r0 : Nat} (hp : p < 120) (hr : r0 < 2 ^ 63) : CtV (EE l D t) yX0_gatherCoresNear tsX0_gatherCoresNear (RM 3 72) [.ref (a 0), .int (nI p), .long (lN r0)] (WX a t w x y wy re de co cr cc sr so cf ck ng nw cs se) 0 0 (fun u => u = WX a t w x y wy re de co (fill cr (nearC co cr cc (gp wy x y p) r0) 120) cc sr so cf ck ng nw cs se) := by
  refine CtV.of (by decide +kernel) rfl (Nat.le_of_ble_eq_true rfl) (fun X F E => ?_)
  show GG (EE l D t) X 0 0 0 [(0, .ref (a 0)), (1, .int (nI p)), (2, .long (lN r0))] [] (WX a t w x y wy re de co cr cc sr so cf ck ng nw cs se)
  refine g_iconst F (nI 0) dX0_gatherCoresNear_0 (by decide) ?_
  refine g_istore (lv2 := [(0, .ref (a 0)), (1, .int (nI p)), (2, .long (lN r0)), (4, .int (nI 0))]) F dX0_gatherCoresNear_1 (by decide) rfl ?_
  have e0 : WX a t w x y wy re de co (fill cr (nearC co cr cc (gp wy x y p) r0) 0) cc sr so cf ck ng nw cs se = WX a t w x y wy re de co cr cc sr so cf ck ng nw cs se := by rw [fill_0]
  rw [← e0]
  refine up_loop (P := fun i => GG (EE l D t) X 0 0 3 [(0, .ref (a 0)), (1, .int (nI p)), (2, .long (lN r0)), (4, .int (nI i))] [] (WX a t w x y wy re de co (fill cr (nearC co cr cc (gp wy x y p) r0) i) cc sr so cf ck ng nw cs se)) 120 ?_ (fun i hi ih => ?_)
  · show GG (EE l D t) X 0 0 3 [(0, .ref (a 0)), (1, .int (nI p)), (2, .long (lN r0)), (4, .int (nI 120))] [] (WX a t w x y wy re de co (fill cr (nearC co cr cc (gp wy x y p) r0) 120) cc sr so cf ck ng nw cs se)
    refine g_iload F dX0_gatherCoresNear_3 rfl ?_
    refine g_bipush F (nI 120) dX0_gatherCoresNear_5 (by decide) ?_
    refine g_icmp_ge_t F 60 dX0_gatherCoresNear_7 (by decide) (nI_le (Nat.le_refl 120) (by decide)) ?_
    exact E _ _ _ dX0_gatherCoresNear_60 rfl
  · show GG (EE l D t) X 0 0 3 [(0, .ref (a 0)), (1, .int (nI p)), (2, .long (lN r0)), (4, .int (nI i))] [] (WX a t w x y wy re de co (fill cr (nearC co cr cc (gp wy x y p) r0) i) cc sr so cf ck ng nw cs se)
    refine g_iload F dX0_gatherCoresNear_3 rfl ?_
    refine g_bipush F (nI 120) dX0_gatherCoresNear_5 (by decide) ?_
    refine g_icmp_ge_f F 60 dX0_gatherCoresNear_7 (by decide) (nI_ge hi (by decide)) ?_
    refine g_aload_n F dX0_gatherCoresNear_10 rfl rfl ?_
    refine gX_get_core F dX0_gatherCoresNear_11 ?_
    refine g_iload F dX0_gatherCoresNear_14 rfl ?_
    refine gX_ld_core F hi dX0_gatherCoresNear_16 ?_
    refine g_if_eq_b F 54 dX0_gatherCoresNear_17 (by decide)  (fun h => ?_) (fun h => ?_)
    · refine g_iinc (lv2 := [(0, .ref (a 0)), (1, .int (nI p)), (2, .long (lN r0)), (4, .int (nI (i + 1)))]) F (nI (i + 1)) dX0_gatherCoresNear_54 rfl (nI_add i 1) (by decide) rfl ?_
      refine g_goto F 3 dX0_gatherCoresNear_57 (by decide) ?_
      rw [fill_same (f := cr) (g := (nearC co cr cc (gp wy x y p) r0)) (by unfold nearC; rw [if_neg (by simp [h])])] at ih
      exact ih
    · refine g_aload_n F dX0_gatherCoresNear_20 rfl rfl ?_
      refine gX_get_crowdOf F dX0_gatherCoresNear_21 ?_
      refine g_iload F dX0_gatherCoresNear_24 rfl ?_
      refine gX_ld_crowdOf F hi dX0_gatherCoresNear_26 ?_
      refine g_iconst F (oI none) dX0_gatherCoresNear_27 (by decide) ?_
      refine g_icmp_ne_o F 54 dX0_gatherCoresNear_28 (by decide) (by rw [fill_at]; exact bd31 hcr i) (fun h2 => ?_) (fun h2 => ?_)
      · rw [fill_at] at h2
        refine g_iinc (lv2 := [(0, .ref (a 0)), (1, .int (nI p)), (2, .long (lN r0)), (4, .int (nI (i + 1)))]) F (nI (i + 1)) dX0_gatherCoresNear_54 rfl (nI_add i 1) (by decide) rfl ?_
        refine g_goto F 3 dX0_gatherCoresNear_57 (by decide) ?_
        rw [fill_same (f := cr) (g := (nearC co cr cc (gp wy x y p) r0)) (by unfold nearC; rw [if_neg (by simp [h2])])] at ih
        exact ih
      · rw [fill_at] at h2
        refine g_aload_n F dX0_gatherCoresNear_31 rfl rfl ?_
        refine g_iload_n F dX0_gatherCoresNear_32 rfl rfl ?_
        refine g_iload F dX0_gatherCoresNear_33 rfl ?_
        refine c_VL F [] (wr := []) (cX_gapBetween hf.2.2.2.1 hp hi) cwX0_X0_gapBetween ⟨by decide, by decide, rfl, rfl⟩ rfl rfl rfl rfl (Nat.le_of_ble_eq_true rfl) ⟨by decide, by decide⟩ dX0_gatherCoresNear_35 (fun r u hu => ?_)
        obtain ⟨rfl, rfl⟩ := hu
        show GG (EE l D t) X 0 0 38 [(0, .ref (a 0)), (1, .int (nI p)), (2, .long (lN r0)), (4, .int (nI i))] [.long (lN (gp wy x y p i))] (WX a t w x y wy re de co (fill cr (nearC co cr cc (gp wy x y p) r0) i) cc sr so cf ck ng nw cs se)
        refine g_lload_n F dX0_gatherCoresNear_38 rfl rfl ?_
        refine g_lc_gt_n F 54 dX0_gatherCoresNear_39 dX0_gatherCoresNear_40 (by decide) (Nat.lt_of_lt_of_le (gp_lt hf p i) (by decide)) hr (fun h3 => ?_) (fun h3 => ?_)
        · refine g_iinc (lv2 := [(0, .ref (a 0)), (1, .int (nI p)), (2, .long (lN r0)), (4, .int (nI (i + 1)))]) F (nI (i + 1)) dX0_gatherCoresNear_54 rfl (nI_add i 1) (by decide) rfl ?_
          refine g_goto F 3 dX0_gatherCoresNear_57 (by decide) ?_
          rw [fill_same (f := cr) (g := (nearC co cr cc (gp wy x y p) r0)) (by unfold nearC; rw [if_neg (by omega)])] at ih
          exact ih
        · refine g_aload_n F dX0_gatherCoresNear_43 rfl rfl ?_
          refine gX_get_crowdOf F dX0_gatherCoresNear_44 ?_
          refine g_iload F dX0_gatherCoresNear_47 rfl ?_
          refine g_aload_n F dX0_gatherCoresNear_49 rfl rfl ?_
          refine gX_get_crowdCount F dX0_gatherCoresNear_50 ?_
          refine gX_st_crowdOf (e := (some cc)) F hi dX0_gatherCoresNear_53 ?_
          refine g_iinc (lv2 := [(0, .ref (a 0)), (1, .int (nI p)), (2, .long (lN r0)), (4, .int (nI (i + 1)))]) F (nI (i + 1)) dX0_gatherCoresNear_54 rfl (nI_add i 1) (by decide) rfl ?_
          refine g_goto F 3 dX0_gatherCoresNear_57 (by decide) ?_
          rw [fill_up (f := cr) (g := (nearC co cr cc (gp wy x y p) r0)) (v := some cc) (by unfold nearC; rw [if_pos ⟨h, h2, h3⟩])] at ih
          exact ih

set_option maxHeartbeats 4000000 in
set_option maxRecDepth 100000 in
/-- gatherFrom -/
theorem cX_gatherFrom {l : Launch} {D : va_G} {t : Ty3} {a : Nat → Nat} {w : Nat → Nat} {x : Nat → Int32} {y : Nat → Int32} {wy : Nat} {re : Nat} {de : Nat} {co : Nat → Bool} {cr : Nat → Option Nat} {cc : Nat} {sr : Nat} {so : Bool} {cf : Nat → Option Nat} {ck : Bool} {ng : Nat → Nat} {nw : Nat → Nat} {cs : Nat → Nat} {se : Nat → Bool} (hf : WFp w x y wy re de) (hcr : bdC cr) (hcc : cc < 120) {p r0 : Nat} (hp : p < 120) (hr : r0 < 2 ^ 63) : CtV (EE l D t) yX0_gatherFrom tsX0_gatherFrom (RM 4 96) [.ref (a 0), .int (nI p), .long (lN r0)] (WX a t w x y wy re de co cr cc sr so cf ck ng nw cs se) 0 0 (fun u => u = WX a t w x y wy re de co ((gF1 co cc (gp wy x y) r0 (up cr p (some cc)) se).1) cc sr so cf ck ng nw cs ((gF1 co cc (gp wy x y) r0 (up cr p (some cc)) se).2)) := by
  refine CtV.of (by decide +kernel) rfl (Nat.le_of_ble_eq_true rfl) (fun X F E => ?_)
  show GG (EE l D t) X 0 0 0 [(0, .ref (a 0)), (1, .int (nI p)), (2, .long (lN r0))] [] (WX a t w x y wy re de co cr cc sr so cf ck ng nw cs se)
  refine g_aload_n F dX0_gatherFrom_0 rfl rfl ?_
  refine gX_get_crowdOf F dX0_gatherFrom_1 ?_
  refine g_iload_n F dX0_gatherFrom_4 rfl rfl ?_
  refine g_aload_n F dX0_gatherFrom_5 rfl rfl ?_
  refine gX_get_crowdCount F dX0_gatherFrom_6 ?_
  refine gX_st_crowdOf (e := (some cc)) F hp dX0_gatherFrom_9 ?_
  refine g_iconst F (nI 0) dX0_gatherFrom_10 (by decide) ?_
  refine g_istore (lv2 := [(0, .ref (a 0)), (1, .int (nI p)), (2, .long (lN r0)), (4, .int (nI 0))]) F dX0_gatherFrom_11 (by decide) rfl ?_
  have key : ∀ (m i : Nat) (c1 : Nat → Option Nat) (s1 : Nat → Bool), i + m = 120 → bdC c1 → (∀ u, u = WX a t w x y wy re de co ((gF co cc (gp wy x y) r0 m c1 s1).1) cc sr so cf ck ng nw cs ((gF co cc (gp wy x y) r0 m c1 s1).2) → u = WX a t w x y wy re de co ((gF1 co cc (gp wy x y) r0 (up cr p (some cc)) se).1) cc sr so cf ck ng nw cs ((gF1 co cc (gp wy x y) r0 (up cr p (some cc)) se).2)) → GG (EE l D t) X 0 0 13 [(0, .ref (a 0)), (1, .int (nI p)), (2, .long (lN r0)), (4, .int (nI i))] [] (WX a t w x y wy re de co c1 cc sr so cf ck ng nw cs s1) := by
    intro m
    induction m with
    | zero =>
      intro i c1 s1 him hcr hfin
      have hi : i = 120 := by omega
      subst hi
      refine g_iload F dX0_gatherFrom_13 rfl ?_
      refine g_bipush F (nI 120) dX0_gatherFrom_15 (by decide) ?_
      refine g_icmp_ge_t F 54 dX0_gatherFrom_17 (by decide) (nI_le (Nat.le_refl 120) (by decide)) ?_
      exact E _ _ _ dX0_gatherFrom_54 (hfin _ rfl)
    | succ m ih =>
      intro i c1 s1 him hcr hfin
      have hi : i < 120 := by omega
      refine g_iload F dX0_gatherFrom_13 rfl ?_
      refine g_bipush F (nI 120) dX0_gatherFrom_15 (by decide) ?_
      refine g_icmp_ge_f F 54 dX0_gatherFrom_17 (by decide) (nI_ge hi (by decide)) ?_
      refine g_aload_n F dX0_gatherFrom_20 rfl rfl ?_
      refine c_VI F [] (wr := []) (cX_leastUnsettledCore hcr hcc) cwX0_X0_leastUnsettledCore ⟨by decide, by decide, rfl, rfl⟩ rfl rfl rfl rfl (Nat.le_of_ble_eq_true rfl) ⟨by decide, by decide⟩ dX0_gatherFrom_21 (fun r u hu => ?_)
      obtain ⟨rfl, rfl⟩ := hu
      show GG (EE l D t) X 0 0 24 [(0, .ref (a 0)), (1, .int (nI p)), (2, .long (lN r0)), (4, .int (nI i))] [.int (oI (fst1 (selU c1 s1 cc)))] (WX a t w x y wy re de co c1 cc sr so cf ck ng nw cs s1)
      cases hq : fst1 (selU c1 s1 cc) with
      | none =>
        refine g_istore (lv2 := [(0, .ref (a 0)), (1, .int (nI p)), (2, .long (lN r0)), (4, .int (nI i)), (5, .int (oI none))]) F dX0_gatherFrom_24 (by decide) rfl ?_
        refine g_iload F dX0_gatherFrom_26 rfl ?_
        refine g_iconst F (oI none) dX0_gatherFrom_28 (by decide) ?_
        refine g_icmp_ne_o F 33 dX0_gatherFrom_29 (by decide) (fun k hk => by cases hk) (fun h => absurd rfl h) (fun h => ?_)
        exact E _ _ _ dX0_gatherFrom_32 (hfin _ (by unfold gF; rw [hq]))
      | some q =>
        obtain ⟨hq1, hq2, hq3⟩ := firstN_spec (by rw [← fst1_eq]; exact hq)
        refine g_istore (lv2 := [(0, .ref (a 0)), (1, .int (nI p)), (2, .long (lN r0)), (4, .int (nI i)), (5, .int (oI (some q)))]) F dX0_gatherFrom_24 (by decide) rfl ?_
        refine g_iload F dX0_gatherFrom_26 rfl ?_
        refine g_iconst F (oI none) dX0_gatherFrom_28 (by decide) ?_
        refine g_icmp_ne_o F 33 dX0_gatherFrom_29 (by decide) (fun k hk => by cases hk; omega) (fun h => ?_) (fun h => absurd h (by simp))
        show GG (EE l D t) X 0 0 33 [(0, .ref (a 0)), (1, .int (nI p)), (2, .long (lN r0)), (4, .int (nI i)), (5, .int (nI q))] [] (WX a t w x y wy re de co c1 cc sr so cf ck ng nw cs s1)
        refine g_aload_n F dX0_gatherFrom_33 rfl rfl ?_
        refine gX_get_settled F dX0_gatherFrom_34 ?_
        refine g_iload F dX0_gatherFrom_37 rfl ?_
        refine g_iconst F (b2 true) dX0_gatherFrom_39 (by decide) ?_
        refine gX_st_settled F hq1 dX0_gatherFrom_40 ?_
        refine g_aload_n F dX0_gatherFrom_41 rfl rfl ?_
        refine g_iload F dX0_gatherFrom_42 rfl ?_
        refine g_lload_n F dX0_gatherFrom_44 rfl rfl ?_
        refine c_VV F [] (wr := []) (cX_gatherCoresNear hf hcr hq1 hr) cwX0_X0_gatherCoresNear ⟨by decide, by decide, rfl, rfl⟩ rfl rfl rfl rfl (Nat.le_of_ble_eq_true rfl) ⟨by decide, by decide⟩ dX0_gatherFrom_45 (fun u hu => ?_)
        obtain rfl := hu
        show GG (EE l D t) X 0 0 48 [(0, .ref (a 0)), (1, .int (nI p)), (2, .long (lN r0)), (4, .int (nI i)), (5, .int (nI q))] [] (WX a t w x y wy re de co (fill c1 (nearC co c1 cc (gp wy x y q) r0) 120) cc sr so cf ck ng nw cs (up s1 q true))
        refine g_iinc (lv2 := [(0, .ref (a 0)), (1, .int (nI p)), (2, .long (lN r0)), (4, .int (nI (i + 1))), (5, .int (nI q))]) F (nI (i + 1)) dX0_gatherFrom_48 rfl (nI_add i 1) (by decide) rfl ?_
        refine g_goto F 13 dX0_gatherFrom_51 (by decide) ?_
        refine g_lv [0, 1, 2, 3] rfl ?_
        refine ih (i + 1) _ _ (by omega) (bdC_near hcr hcc) (fun u hu => hfin u ?_)
        rw [hu]
        conv => rhs; unfold gF
        rw [hq]
  exact key 120 0 _ _ rfl (bdC_up hcr hcc) (fun u hu => by rw [gF1_eq]; exact hu)
set_option maxHeartbeats 4000000 in
set_option maxRecDepth 100000 in
/-- gatherCrowds -/
theorem cX_gatherCrowds {l : Launch} {D : va_G} {t : Ty3} {a : Nat → Nat} {w : Nat → Nat} {x : Nat → Int32} {y : Nat → Int32} {wy : Nat} {re : Nat} {de : Nat} {co : Nat → Bool} {cr : Nat → Option Nat} {cc : Nat} {sr : Nat} {so : Bool} {cf : Nat → Option Nat} {ck : Bool} {ng : Nat → Nat} {nw : Nat → Nat} {cs : Nat → Nat} {se : Nat → Bool} (hf : WFp w x y wy re de) (hcr : bdC cr) {r0 : Nat} (hr : r0 < 2 ^ 63) : CtV (EE l D t) yX0_gatherCrowds tsX0_gatherCrowds (RM 5 121) [.ref (a 0), .long (lN r0)] (WX a t w x y wy re de co cr cc sr so cf ck ng nw cs se) 0 0 (fun u => u = WX a t w x y wy re de co ((gS1 co (gp wy x y) r0 cr se).1) ((gS1 co (gp wy x y) r0 cr se).2.2) sr so cf ck ng nw cs ((gS1 co (gp wy x y) r0 cr se).2.1)) := by
  refine CtV.of (by decide +kernel) rfl (Nat.le_of_ble_eq_true rfl) (fun X F E => ?_)
  show GG (EE l D t) X 0 0 0 [(0, .ref (a 0)), (1, .long (lN r0))] [] (WX a t w x y wy re de co cr cc sr so cf ck ng nw cs se)
  refine g_aload_n F dX0_gatherCrowds_0 rfl rfl ?_
  refine g_iconst F (nI 0) dX0_gatherCrowds_1 (by decide) ?_
  refine gX_put_crowdCount F dX0_gatherCrowds_2 ?_
  refine g_iconst F (nI 0) dX0_gatherCrowds_5 (by decide) ?_
  refine g_istore_n (lv2 := [(0, .ref (a 0)), (1, .long (lN r0)), (3, .int (nI 0))]) F dX0_gatherCrowds_6 rfl (by decide) rfl ?_
  refine up_loop (P := fun i => GG (EE l D t) X 0 0 7 [(0, .ref (a 0)), (1, .long (lN r0)), (3, .int (nI i))] [] (WX a t w x y wy re de co ((gS co (gp wy x y) r0 cr se i).1) ((gS co (gp wy x y) r0 cr se i).2.2) sr so cf ck ng nw cs ((gS co (gp wy x y) r0 cr se i).2.1))) 120 ?_ (fun i hi ih => ?_)
  · show GG (EE l D t) X 0 0 7 [(0, .ref (a 0)), (1, .long (lN r0)), (3, .int (nI 120))] [] (WX a t w x y wy re de co ((gS co (gp wy x y) r0 cr se 120).1) ((gS co (gp wy x y) r0 cr se 120).2.2) sr so cf ck ng nw cs ((gS co (gp wy x y) r0 cr se 120).2.1))
    refine g_iload_n F dX0_gatherCrowds_7 rfl rfl ?_
    refine g_bipush F (nI 120) dX0_gatherCrowds_8 (by decide) ?_
    refine g_icmp_ge_t F 54 dX0_gatherCrowds_10 (by decide) (nI_le (Nat.le_refl 120) (by decide)) ?_
    exact E _ _ _ dX0_gatherCrowds_54 (by rw [gS1_eq])
  · show GG (EE l D t) X 0 0 7 [(0, .ref (a 0)), (1, .long (lN r0)), (3, .int (nI i))] [] (WX a t w x y wy re de co ((gS co (gp wy x y) r0 cr se i).1) ((gS co (gp wy x y) r0 cr se i).2.2) sr so cf ck ng nw cs ((gS co (gp wy x y) r0 cr se i).2.1))
    refine g_iload_n F dX0_gatherCrowds_7 rfl rfl ?_
    refine g_bipush F (nI 120) dX0_gatherCrowds_8 (by decide) ?_
    refine g_icmp_ge_f F 54 dX0_gatherCrowds_10 (by decide) (nI_ge hi (by decide)) ?_
    obtain ⟨hb1, hb2⟩ := gS_bd (co := co) (g := gp wy x y) (r := r0) (se := se) hcr i (by omega)
    refine g_aload_n F dX0_gatherCrowds_13 rfl rfl ?_
    refine gX_get_core F dX0_gatherCrowds_14 ?_
    refine g_iload_n F dX0_gatherCrowds_17 rfl rfl ?_
    refine gX_ld_core F hi dX0_gatherCrowds_18 ?_
    refine g_if_eq_b F 48 dX0_gatherCrowds_19 (by decide)  (fun h => ?_) (fun h => ?_)
    · refine g_iinc (lv2 := [(0, .ref (a 0)), (1, .long (lN r0)), (3, .int (nI (i + 1)))]) F (nI (i + 1)) dX0_gatherCrowds_48 rfl (nI_add i 1) (by decide) rfl ?_
      refine g_goto F 7 dX0_gatherCrowds_51 (by decide) ?_
      rw [gS_n (by simp [h])] at ih
      exact ih
    · refine g_aload_n F dX0_gatherCrowds_22 rfl rfl ?_
      refine gX_get_crowdOf F dX0_gatherCrowds_23 ?_
      refine g_iload_n F dX0_gatherCrowds_26 rfl rfl ?_
      refine gX_ld_crowdOf F hi dX0_gatherCrowds_27 ?_
      refine g_iconst F (oI none) dX0_gatherCrowds_28 (by decide) ?_
      refine g_icmp_ne_o F 48 dX0_gatherCrowds_29 (by decide) (bd31 hb1 i) (fun h2 => ?_) (fun h2 => ?_)
      · refine g_iinc (lv2 := [(0, .ref (a 0)), (1, .long (lN r0)), (3, .int (nI (i + 1)))]) F (nI (i + 1)) dX0_gatherCrowds_48 rfl (nI_add i 1) (by decide) rfl ?_
        refine g_goto F 7 dX0_gatherCrowds_51 (by decide) ?_
        rw [gS_n (fun z => h2 z.2)] at ih
        exact ih
      · refine g_aload_n F dX0_gatherCrowds_32 rfl rfl ?_
        refine g_iload_n F dX0_gatherCrowds_33 rfl rfl ?_
        refine g_lload_n F dX0_gatherCrowds_34 rfl rfl ?_
        refine c_VV F [] (wr := []) (cX_gatherFrom hf hb1 (by omega) hi hr) cwX0_X0_gatherFrom ⟨by decide, by decide, rfl, rfl⟩ rfl rfl rfl rfl (Nat.le_of_ble_eq_true rfl) ⟨by decide, by decide⟩ dX0_gatherCrowds_35 (fun u hu => ?_)
        obtain rfl := hu
        show GG (EE l D t) X 0 0 38 [(0, .ref (a 0)), (1, .long (lN r0)), (3, .int (nI i))] [] (WX a t w x y wy re de co ((gF1 co (gS co (gp wy x y) r0 cr se i).2.2 (gp wy x y) r0 (up (gS co (gp wy x y) r0 cr se i).1 i (some (gS co (gp wy x y) r0 cr se i).2.2)) (gS co (gp wy x y) r0 cr se i).2.1).1) ((gS co (gp wy x y) r0 cr se i).2.2) sr so cf ck ng nw cs ((gF1 co (gS co (gp wy x y) r0 cr se i).2.2 (gp wy x y) r0 (up (gS co (gp wy x y) r0 cr se i).1 i (some (gS co (gp wy x y) r0 cr se i).2.2)) (gS co (gp wy x y) r0 cr se i).2.1).2))
        refine g_aload_n F dX0_gatherCrowds_38 rfl rfl ?_
        refine g_dup F dX0_gatherCrowds_39 rfl ?_
        refine gX_get_crowdCount F dX0_gatherCrowds_40 ?_
        refine g_iconst F (nI 1) dX0_gatherCrowds_43 (by decide) ?_
        refine g_iadd_n F dX0_gatherCrowds_44 ?_
        refine gX_put_crowdCount F dX0_gatherCrowds_45 ?_
        refine g_iinc (lv2 := [(0, .ref (a 0)), (1, .long (lN r0)), (3, .int (nI (i + 1)))]) F (nI (i + 1)) dX0_gatherCrowds_48 rfl (nI_add i 1) (by decide) rfl ?_
        refine g_goto F 7 dX0_gatherCrowds_51 (by decide) ?_
        rw [gS_y h h2] at ih
        exact ih
set_option maxHeartbeats 4000000 in
set_option maxRecDepth 100000 in
/-- leastCrowdAt -/
theorem cX_leastCrowdAt {l : Launch} {D : va_G} {t : Ty3} {a : Nat → Nat} {w : Nat → Nat} {x : Nat → Int32} {y : Nat → Int32} {wy : Nat} {re : Nat} {de : Nat} {co : Nat → Bool} {cr : Nat → Option Nat} {cc : Nat} {sr : Nat} {so : Bool} {cf : Nat → Option Nat} {ck : Bool} {ng : Nat → Nat} {nw : Nat → Nat} {cs : Nat → Nat} {se : Nat → Bool} (hf : WFp w x y wy re de) (hcr : ∀ q, q < 120 → co q = true → ∃ k, cr q = some k ∧ k < 120) {p1 p2 : Int32} (hp1 : inR p1) (hp2 : inR p2) {r0 : Nat} (hr : r0 < 2 ^ 63) : CtI (EE l D t) yX0_leastCrowdAt tsX0_leastCrowdAt (RM 2 50) [.ref (a 0), .int p1, .int p2, .long (lN r0)] (WX a t w x y wy re de co cr cc sr so cf ck ng nw cs se) 0 0 (fun r u => u = WX a t w x y wy re de co cr cc sr so cf ck ng nw cs se ∧ r = oI (lcs1 co cr (fun q => gapN wy (x q) (y q) p1 p2) r0)) := by
  refine CtI.of (by decide +kernel) rfl (Nat.le_of_ble_eq_true rfl) (fun X F E => ?_)
  show GG (EE l D t) X 0 0 0 [(0, .ref (a 0)), (1, .int p1), (2, .int p2), (3, .long (lN r0))] [] (WX a t w x y wy re de co cr cc sr so cf ck ng nw cs se)
  refine g_iconst F (oI none) dX0_leastCrowdAt_0 (by decide) ?_
  refine g_istore (lv2 := [(0, .ref (a 0)), (1, .int p1), (2, .int p2), (3, .long (lN r0)), (5, .int (oI none))]) F dX0_leastCrowdAt_1 (by decide) rfl ?_
  refine g_iconst F (nI 0) dX0_leastCrowdAt_3 (by decide) ?_
  refine g_istore (lv2 := [(0, .ref (a 0)), (1, .int p1), (2, .int p2), (3, .long (lN r0)), (5, .int (oI none)), (6, .int (nI 0))]) F dX0_leastCrowdAt_4 (by decide) rfl ?_
  refine up_loop (P := fun i => GG (EE l D t) X 0 0 6 [(0, .ref (a 0)), (1, .int p1), (2, .int p2), (3, .long (lN r0)), (5, .int (oI (lcs co cr (fun q => gapN wy (x q) (y q) p1 p2) r0 i))), (6, .int (nI i))] [] (WX a t w x y wy re de co cr cc sr so cf ck ng nw cs se)) 120 ?_ (fun i hi ih => ?_)
  · show GG (EE l D t) X 0 0 6 [(0, .ref (a 0)), (1, .int p1), (2, .int p2), (3, .long (lN r0)), (5, .int (oI (lcs co cr (fun q => gapN wy (x q) (y q) p1 p2) r0 120))), (6, .int (nI 120))] [] (WX a t w x y wy re de co cr cc sr so cf ck ng nw cs se)
    refine g_iload F dX0_leastCrowdAt_6 rfl ?_
    refine g_bipush F (nI 120) dX0_leastCrowdAt_8 (by decide) ?_
    refine g_icmp_ge_t F 69 dX0_leastCrowdAt_10 (by decide) (nI_le (Nat.le_refl 120) (by decide)) ?_
    refine g_iload F dX0_leastCrowdAt_69 rfl ?_
    exact E _ _ _ _ dX0_leastCrowdAt_71 ⟨rfl, by rw [lcs1_eq]⟩
  · show GG (EE l D t) X 0 0 6 [(0, .ref (a 0)), (1, .int p1), (2, .int p2), (3, .long (lN r0)), (5, .int (oI (lcs co cr (fun q => gapN wy (x q) (y q) p1 p2) r0 i))), (6, .int (nI i))] [] (WX a t w x y wy re de co cr cc sr so cf ck ng nw cs se)
    refine g_iload F dX0_leastCrowdAt_6 rfl ?_
    refine g_bipush F (nI 120) dX0_leastCrowdAt_8 (by decide) ?_
    refine g_icmp_ge_f F 69 dX0_leastCrowdAt_10 (by decide) (nI_ge hi (by decide)) ?_
    refine g_aload_n F dX0_leastCrowdAt_13 rfl rfl ?_
    refine gX_get_core F dX0_leastCrowdAt_14 ?_
    refine g_iload F dX0_leastCrowdAt_17 rfl ?_
    refine gX_ld_core F hi dX0_leastCrowdAt_19 ?_
    refine g_if_eq_b F 63 dX0_leastCrowdAt_20 (by decide)  (fun h => ?_) (fun h => ?_)
    · refine g_iinc (lv2 := [(0, .ref (a 0)), (1, .int p1), (2, .int p2), (3, .long (lN r0)), (5, .int (oI (lcs co cr (fun q => gapN wy (x q) (y q) p1 p2) r0 i))), (6, .int (nI (i + 1)))]) F (nI (i + 1)) dX0_leastCrowdAt_63 rfl (nI_add i 1) (by decide) rfl ?_
      refine g_goto F 6 dX0_leastCrowdAt_66 (by decide) ?_
      rw [lcs_keep (co := co) (cr := cr) (g := (fun q => gapN wy (x q) (y q) p1 p2)) (r := r0) (n := i) (fun z => absurd z (by simp [h]))] at ih
      exact ih
    · obtain ⟨k, hk, hk2⟩ := hcr i hi h
      have hl := lcs_lt (g := (fun q => gapN wy (x q) (y q) p1 p2)) (r := r0) hcr i (by omega)
      refine g_iload F dX0_leastCrowdAt_23 rfl ?_
      refine g_iconst F (oI none) dX0_leastCrowdAt_25 (by decide) ?_
      refine g_icmp_eq_o F 41 dX0_leastCrowdAt_26 (by decide) (fun z hz => by have := hl z hz; omega) (fun h2 => ?_) (fun h2 => ?_)
      · refine g_aload_n F dX0_leastCrowdAt_41 rfl rfl ?_
        refine g_iload F dX0_leastCrowdAt_42 rfl ?_
        refine g_iload_n F dX0_leastCrowdAt_44 rfl rfl ?_
        refine g_iload_n F dX0_leastCrowdAt_45 rfl rfl ?_
        refine c_VL F [] (wr := []) (cX_gapTo hf.2.2.2.1 hi p1 p2) cwX0_X0_gapTo ⟨by decide, by decide, rfl, rfl⟩ rfl rfl rfl rfl (Nat.le_of_ble_eq_true rfl) ⟨by decide, by decide⟩ dX0_leastCrowdAt_46 (fun r u hu => ?_)
        obtain ⟨rfl, rfl⟩ := hu
        show GG (EE l D t) X 0 0 49 [(0, .ref (a 0)), (1, .int p1), (2, .int p2), (3, .long (lN r0)), (5, .int (oI (lcs co cr (fun q => gapN wy (x q) (y q) p1 p2) r0 i))), (6, .int (nI i))] [.long (lN (gapN wy (x i) (y i) p1 p2))] (WX a t w x y wy re de co cr cc sr so cf ck ng nw cs se)
        refine g_lload_n F dX0_leastCrowdAt_49 rfl rfl ?_
        refine g_lc_gt_n F 63 dX0_leastCrowdAt_50 dX0_leastCrowdAt_51 (by decide) (Nat.lt_of_lt_of_le (gapN_lt wy (hf.2.1 i) (hf.2.2.1 i) hp1 hp2) (by decide)) hr (fun h4 => ?_) (fun h4 => ?_)
        · refine g_iinc (lv2 := [(0, .ref (a 0)), (1, .int p1), (2, .int p2), (3, .long (lN r0)), (5, .int (oI (lcs co cr (fun q => gapN wy (x q) (y q) p1 p2) r0 i))), (6, .int (nI (i + 1)))]) F (nI (i + 1)) dX0_leastCrowdAt_63 rfl (nI_add i 1) (by decide) rfl ?_
          refine g_goto F 6 dX0_leastCrowdAt_66 (by decide) ?_
          rw [lcs_keep (co := co) (cr := cr) (g := (fun q => gapN wy (x q) (y q) p1 p2)) (r := r0) (n := i) (fun _ z => absurd z (by show ¬ gapN wy (x i) (y i) p1 p2 ≤ r0; omega))] at ih
          exact ih
        · refine g_aload_n F dX0_leastCrowdAt_54 rfl rfl ?_
          refine gX_get_crowdOf F dX0_leastCrowdAt_55 ?_
          refine g_iload F dX0_leastCrowdAt_58 rfl ?_
          refine gX_ld_crowdOf F hi dX0_leastCrowdAt_60 ?_
          refine g_istore (lv2 := [(0, .ref (a 0)), (1, .int p1), (2, .int p2), (3, .long (lN r0)), (5, .int (oI (cr i))), (6, .int (nI i))]) F dX0_leastCrowdAt_61 (by decide) rfl ?_
          refine g_iinc (lv2 := [(0, .ref (a 0)), (1, .int p1), (2, .int p2), (3, .long (lN r0)), (5, .int (oI (cr i))), (6, .int (nI (i + 1)))]) F (nI (i + 1)) dX0_leastCrowdAt_63 rfl (nI_add i 1) (by decide) rfl ?_
          refine g_goto F 6 dX0_leastCrowdAt_66 (by decide) ?_
          rw [lcs_new (co := co) (cr := cr) (g := (fun q => gapN wy (x q) (y q) p1 p2)) (r := r0) (n := i) h h4, h2, show minO none (cr i) = cr i from rfl] at ih
          exact ih
      · obtain ⟨b0, hb0⟩ := Option.ne_none_iff_exists'.mp h2
        have hb1 := hl b0 hb0
        refine g_aload_n F dX0_leastCrowdAt_29 rfl rfl ?_
        refine gX_get_crowdOf F dX0_leastCrowdAt_30 ?_
        refine g_iload F dX0_leastCrowdAt_33 rfl ?_
        refine gX_ld_crowdOf F hi dX0_leastCrowdAt_35 ?_
        refine g_iload F dX0_leastCrowdAt_36 rfl ?_
        refine g_eq (lv' := [(0, .ref (a 0)), (1, .int p1), (2, .int p2), (3, .long (lN r0)), (5, .int (oI (lcs co cr (fun q => gapN wy (x q) (y q) p1 p2) r0 i))), (6, .int (nI i))]) (st' := [.int (nI b0), .int (nI k)]) ?_ rfl rfl (by rw [hk, hb0]; rfl) rfl
        refine g_icmp_ge_n F 63 dX0_leastCrowdAt_38 (by decide) (by omega) (by omega) (fun h3 => ?_) (fun h3 => ?_)
        · refine g_iinc (lv2 := [(0, .ref (a 0)), (1, .int p1), (2, .int p2), (3, .long (lN r0)), (5, .int (oI (lcs co cr (fun q => gapN wy (x q) (y q) p1 p2) r0 i))), (6, .int (nI (i + 1)))]) F (nI (i + 1)) dX0_leastCrowdAt_63 rfl (nI_add i 1) (by decide) rfl ?_
          refine g_goto F 6 dX0_leastCrowdAt_66 (by decide) ?_
          rw [lcs_keep (co := co) (cr := cr) (g := (fun q => gapN wy (x q) (y q) p1 p2)) (r := r0) (n := i) (fun _ _ => by rw [hb0, hk]; exact congrArg some (Nat.min_eq_left h3))] at ih
          exact ih
        · refine g_aload_n F dX0_leastCrowdAt_41 rfl rfl ?_
          refine g_iload F dX0_leastCrowdAt_42 rfl ?_
          refine g_iload_n F dX0_leastCrowdAt_44 rfl rfl ?_
          refine g_iload_n F dX0_leastCrowdAt_45 rfl rfl ?_
          refine c_VL F [] (wr := []) (cX_gapTo hf.2.2.2.1 hi p1 p2) cwX0_X0_gapTo ⟨by decide, by decide, rfl, rfl⟩ rfl rfl rfl rfl (Nat.le_of_ble_eq_true rfl) ⟨by decide, by decide⟩ dX0_leastCrowdAt_46 (fun r u hu => ?_)
          obtain ⟨rfl, rfl⟩ := hu
          show GG (EE l D t) X 0 0 49 [(0, .ref (a 0)), (1, .int p1), (2, .int p2), (3, .long (lN r0)), (5, .int (oI (lcs co cr (fun q => gapN wy (x q) (y q) p1 p2) r0 i))), (6, .int (nI i))] [.long (lN (gapN wy (x i) (y i) p1 p2))] (WX a t w x y wy re de co cr cc sr so cf ck ng nw cs se)
          refine g_lload_n F dX0_leastCrowdAt_49 rfl rfl ?_
          refine g_lc_gt_n F 63 dX0_leastCrowdAt_50 dX0_leastCrowdAt_51 (by decide) (Nat.lt_of_lt_of_le (gapN_lt wy (hf.2.1 i) (hf.2.2.1 i) hp1 hp2) (by decide)) hr (fun h4 => ?_) (fun h4 => ?_)
          · refine g_iinc (lv2 := [(0, .ref (a 0)), (1, .int p1), (2, .int p2), (3, .long (lN r0)), (5, .int (oI (lcs co cr (fun q => gapN wy (x q) (y q) p1 p2) r0 i))), (6, .int (nI (i + 1)))]) F (nI (i + 1)) dX0_leastCrowdAt_63 rfl (nI_add i 1) (by decide) rfl ?_
            refine g_goto F 6 dX0_leastCrowdAt_66 (by decide) ?_
            rw [lcs_keep (co := co) (cr := cr) (g := (fun q => gapN wy (x q) (y q) p1 p2)) (r := r0) (n := i) (fun _ z => absurd z (by show ¬ gapN wy (x i) (y i) p1 p2 ≤ r0; omega))] at ih
            exact ih
          · refine g_aload_n F dX0_leastCrowdAt_54 rfl rfl ?_
            refine gX_get_crowdOf F dX0_leastCrowdAt_55 ?_
            refine g_iload F dX0_leastCrowdAt_58 rfl ?_
            refine gX_ld_crowdOf F hi dX0_leastCrowdAt_60 ?_
            refine g_istore (lv2 := [(0, .ref (a 0)), (1, .int p1), (2, .int p2), (3, .long (lN r0)), (5, .int (oI (cr i))), (6, .int (nI i))]) F dX0_leastCrowdAt_61 (by decide) rfl ?_
            refine g_iinc (lv2 := [(0, .ref (a 0)), (1, .int p1), (2, .int p2), (3, .long (lN r0)), (5, .int (oI (cr i))), (6, .int (nI (i + 1)))]) F (nI (i + 1)) dX0_leastCrowdAt_63 rfl (nI_add i 1) (by decide) rfl ?_
            refine g_goto F 6 dX0_leastCrowdAt_66 (by decide) ?_
            rw [lcs_new (co := co) (cr := cr) (g := (fun q => gapN wy (x q) (y q) p1 p2)) (r := r0) (n := i) h h4, hb0, show minO (some b0) (cr i) = cr i from by rw [hk]; exact congrArg some (Nat.min_eq_right (by omega))] at ih
            exact ih
set_option maxHeartbeats 4000000 in
set_option maxRecDepth 100000 in
/-- joinBorders -/
theorem cX_joinBorders {l : Launch} {D : va_G} {t : Ty3} {a : Nat → Nat} {w : Nat → Nat} {x : Nat → Int32} {y : Nat → Int32} {wy : Nat} {re : Nat} {de : Nat} {co : Nat → Bool} {cr : Nat → Option Nat} {cc : Nat} {sr : Nat} {so : Bool} {cf : Nat → Option Nat} {ck : Bool} {ng : Nat → Nat} {nw : Nat → Nat} {cs : Nat → Nat} {se : Nat → Bool} (hf : WFp w x y wy re de) (hcr : ∀ q, q < 120 → co q = true → ∃ k, cr q = some k ∧ k < 120) {r0 : Nat} (hr : r0 < 2 ^ 63) : CtV (EE l D t) yX0_joinBorders tsX0_joinBorders (RM 3 76) [.ref (a 0), .long (lN r0)] (WX a t w x y wy re de co cr cc sr so cf ck ng nw cs se) 0 0 (fun u => u = WX a t w x y wy re de co (fill cr (jB w co cr (fun p q => gapN wy (x q) (y q) (x p) (y p)) r0) 120) cc sr so cf ck ng nw cs se) := by
  refine CtV.of (by decide +kernel) rfl (Nat.le_of_ble_eq_true rfl) (fun X F E => ?_)
  show GG (EE l D t) X 0 0 0 [(0, .ref (a 0)), (1, .long (lN r0))] [] (WX a t w x y wy re de co cr cc sr so cf ck ng nw cs se)
  refine g_iconst F (nI 0) dX0_joinBorders_0 (by decide) ?_
  refine g_istore_n (lv2 := [(0, .ref (a 0)), (1, .long (lN r0)), (3, .int (nI 0))]) F dX0_joinBorders_1 rfl (by decide) rfl ?_
  have e0 : WX a t w x y wy re de co (fill cr (jB w co cr (fun p q => gapN wy (x q) (y q) (x p) (y p)) r0) 0) cc sr so cf ck ng nw cs se = WX a t w x y wy re de co cr cc sr so cf ck ng nw cs se := by rw [fill_0]
  rw [← e0]
  refine up_loop (P := fun i => GG (EE l D t) X 0 0 2 [(0, .ref (a 0)), (1, .long (lN r0)), (3, .int (nI i))] [] (WX a t w x y wy re de co (fill cr (jB w co cr (fun p q => gapN wy (x q) (y q) (x p) (y p)) r0) i) cc sr so cf ck ng nw cs se)) 120 ?_ (fun i hi ih => ?_)
  · show GG (EE l D t) X 0 0 2 [(0, .ref (a 0)), (1, .long (lN r0)), (3, .int (nI 120))] [] (WX a t w x y wy re de co (fill cr (jB w co cr (fun p q => gapN wy (x q) (y q) (x p) (y p)) r0) 120) cc sr so cf ck ng nw cs se)
    refine g_iload_n F dX0_joinBorders_2 rfl rfl ?_
    refine g_bipush F (nI 120) dX0_joinBorders_3 (by decide) ?_
    refine g_icmp_ge_t F 55 dX0_joinBorders_5 (by decide) (nI_le (Nat.le_refl 120) (by decide)) ?_
    exact E _ _ _ dX0_joinBorders_55 rfl
  · show GG (EE l D t) X 0 0 2 [(0, .ref (a 0)), (1, .long (lN r0)), (3, .int (nI i))] [] (WX a t w x y wy re de co (fill cr (jB w co cr (fun p q => gapN wy (x q) (y q) (x p) (y p)) r0) i) cc sr so cf ck ng nw cs se)
    refine g_iload_n F dX0_joinBorders_2 rfl rfl ?_
    refine g_bipush F (nI 120) dX0_joinBorders_3 (by decide) ?_
    refine g_icmp_ge_f F 55 dX0_joinBorders_5 (by decide) (nI_ge hi (by decide)) ?_
    refine g_aload_n F dX0_joinBorders_8 rfl rfl ?_
    refine gX_get_weights F dX0_joinBorders_9 ?_
    refine g_iload_n F dX0_joinBorders_12 rfl rfl ?_
    refine gX_ld_weights F hi dX0_joinBorders_13 ?_
    refine g_if_le_n F 49 dX0_joinBorders_14 (by decide) (by have := hf.1 i; omega) (fun h => ?_) (fun h => ?_)
    · refine g_iinc (lv2 := [(0, .ref (a 0)), (1, .long (lN r0)), (3, .int (nI (i + 1)))]) F (nI (i + 1)) dX0_joinBorders_49 rfl (nI_add i 1) (by decide) rfl ?_
      refine g_goto F 2 dX0_joinBorders_52 (by decide) ?_
      rw [fill_same (f := cr) (g := (jB w co cr (fun p q => gapN wy (x q) (y q) (x p) (y p)) r0)) (by unfold jB; rw [if_neg (by omega)])] at ih
      exact ih
    · refine g_aload_n F dX0_joinBorders_17 rfl rfl ?_
      refine gX_get_core F dX0_joinBorders_18 ?_
      refine g_iload_n F dX0_joinBorders_21 rfl rfl ?_
      refine gX_ld_core F hi dX0_joinBorders_22 ?_
      refine g_if_ne_b F 49 dX0_joinBorders_23 (by decide)  (fun h2 => ?_) (fun h2 => ?_)
      · refine g_iinc (lv2 := [(0, .ref (a 0)), (1, .long (lN r0)), (3, .int (nI (i + 1)))]) F (nI (i + 1)) dX0_joinBorders_49 rfl (nI_add i 1) (by decide) rfl ?_
        refine g_goto F 2 dX0_joinBorders_52 (by decide) ?_
        rw [fill_same (f := cr) (g := (jB w co cr (fun p q => gapN wy (x q) (y q) (x p) (y p)) r0)) (by unfold jB; rw [if_neg (by simp [h2])])] at ih
        exact ih
      · have hq : ∀ q, q < 120 → co q = true → fill cr (jB w co cr (fun p q => gapN wy (x q) (y q) (x p) (y p)) r0) i q = cr q := fun q _ hq => by unfold fill jB; split <;> simp [hq]
        refine g_aload_n F dX0_joinBorders_26 rfl rfl ?_
        refine gX_get_crowdOf F dX0_joinBorders_27 ?_
        refine g_iload_n F dX0_joinBorders_30 rfl rfl ?_
        refine g_aload_n F dX0_joinBorders_31 rfl rfl ?_
        refine g_aload_n F dX0_joinBorders_32 rfl rfl ?_
        refine gX_get_xs F dX0_joinBorders_33 ?_
        refine g_iload_n F dX0_joinBorders_36 rfl rfl ?_
        refine gX_ld_xs F hi dX0_joinBorders_37 ?_
        refine g_aload_n F dX0_joinBorders_38 rfl rfl ?_
        refine gX_get_ys F dX0_joinBorders_39 ?_
        refine g_iload_n F dX0_joinBorders_42 rfl rfl ?_
        refine gX_ld_ys F hi dX0_joinBorders_43 ?_
        refine g_lload_n F dX0_joinBorders_44 rfl rfl ?_
        refine c_VI F [.int (nI i), .ref (a 5)] (wr := []) (cX_leastCrowdAt hf (fun q h1 h2 => by rw [hq q h1 h2]; exact hcr q h1 h2) (hf.2.1 i) (hf.2.2.1 i) hr) cwX0_X0_leastCrowdAt ⟨by decide, by decide, rfl, rfl⟩ rfl rfl rfl rfl (Nat.le_of_ble_eq_true rfl) ⟨by decide, by decide⟩ dX0_joinBorders_45 (fun r u hu => ?_)
        obtain ⟨rfl, rfl⟩ := hu
        show GG (EE l D t) X 0 0 48 [(0, .ref (a 0)), (1, .long (lN r0)), (3, .int (nI i))] [.int (oI (lcs1 co (fill cr (jB w co cr (fun p q => gapN wy (x q) (y q) (x p) (y p)) r0) i) (fun q => gapN wy (x q) (y q) (x i) (y i)) r0)), .int (nI i), .ref (a 5)] (WX a t w x y wy re de co (fill cr (jB w co cr (fun p q => gapN wy (x q) (y q) (x p) (y p)) r0) i) cc sr so cf ck ng nw cs se)
        refine g_topi (y := oI (lcs1 co cr (fun q => gapN wy (x q) (y q) (x i) (y i)) r0)) (congrArg oI (by rw [lcs1_eq, lcs1_eq]; exact lcs_congr 120 hq)) ?_
        refine gX_st_crowdOf F hi dX0_joinBorders_48 ?_
        refine g_iinc (lv2 := [(0, .ref (a 0)), (1, .long (lN r0)), (3, .int (nI (i + 1)))]) F (nI (i + 1)) dX0_joinBorders_49 rfl (nI_add i 1) (by decide) rfl ?_
        refine g_goto F 2 dX0_joinBorders_52 (by decide) ?_
        rw [fill_up (f := cr) (g := (jB w co cr (fun p q => gapN wy (x q) (y q) (x p) (y p)) r0)) (v := lcs1 co cr (fun q => gapN wy (x q) (y q) (x i) (y i)) r0) (by unfold jB; rw [if_pos ⟨h, h2⟩])] at ih
        exact ih
end
section
theorem bdC_none {cr : Nat → Option Nat} (hb : bdC cr) : bdC (fill cr (fun _ => none) 120) := fun i z hz => by
  by_cases hi : i < 120
  · rw [fill_in hi] at hz
    cases hz
  · rw [fill_out (by omega)] at hz
    exact hb i z hz
set_option maxHeartbeats 4000000 in
set_option maxRecDepth 100000 in
/-- sortWith -/
theorem cX_sortWith {l : Launch} {D : va_G} {t : Ty3} {a : Nat → Nat} {w : Nat → Nat} {x : Nat → Int32} {y : Nat → Int32} {wy : Nat} {re : Nat} {de : Nat} {co : Nat → Bool} {cr : Nat → Option Nat} {cc : Nat} {sr : Nat} {so : Bool} {cf : Nat → Option Nat} {ck : Bool} {ng : Nat → Nat} {nw : Nat → Nat} {cs : Nat → Nat} {se : Nat → Bool} (hf : WFp w x y wy re de) (hb : bdC cr) (hsr : sr < 2 ^ 63) (hs : so = true → Srt w x y wy de sr co cr cc) {r0 : Nat} (hr : r0 < 2 ^ 63) : CtV (EE l D t) yX0_sortWith tsX0_sortWith (RM 6 144) [.ref (a 0), .long (lN r0)] (WX a t w x y wy re de co cr cc sr so cf ck ng nw cs se) 0 0 (fun u => ∃ (co2 : Nat → Bool) (cr2 : Nat → Option Nat) (cc2 : Nat) (se2 : Nat → Bool), u = WX a t w x y wy re de co2 cr2 cc2 r0 true cf ck ng nw cs se2 ∧ bdC cr2 ∧ Srt w x y wy de r0 co2 cr2 cc2) := by
  refine CtV.of (by decide +kernel) rfl (Nat.le_of_ble_eq_true rfl) (fun X F E => ?_)
  show GG (EE l D t) X 0 0 0 [(0, .ref (a 0)), (1, .long (lN r0))] [] (WX a t w x y wy re de co cr cc sr so cf ck ng nw cs se)
  refine g_aload_n F dX0_sortWith_0 rfl rfl ?_
  refine gX_get_sorted F dX0_sortWith_1 ?_
  refine g_if_eq_b F 17 dX0_sortWith_4 (by decide)  (fun h => ?_) (fun h => ?_)
  · refine g_aload_n F dX0_sortWith_17 rfl rfl ?_
    refine g_lload_n F dX0_sortWith_18 rfl rfl ?_
    refine c_VV F [] (wr := []) (cX_markCores hf hr) cwX0_X0_markCores ⟨by decide, by decide, rfl, rfl⟩ rfl rfl rfl rfl (Nat.le_of_ble_eq_true rfl) ⟨by decide, by decide⟩ dX0_sortWith_19 (fun u hu => ?_)
    obtain rfl := hu
    show GG (EE l D t) X 0 0 22 [(0, .ref (a 0)), (1, .long (lN r0))] [] (WX a t w x y wy re de (fill co (isC w x y wy de r0) 120) (fill cr (fun _ => none) 120) cc sr so cf ck ng nw cs (fill se (fun _ => false) 120))
    refine g_aload_n F dX0_sortWith_22 rfl rfl ?_
    refine g_lload_n F dX0_sortWith_23 rfl rfl ?_
    refine c_VV F [] (wr := []) (cX_gatherCrowds hf (bdC_none hb) hr) cwX0_X0_gatherCrowds ⟨by decide, by decide, rfl, rfl⟩ rfl rfl rfl rfl (Nat.le_of_ble_eq_true rfl) ⟨by decide, by decide⟩ dX0_sortWith_24 (fun u hu => ?_)
    obtain rfl := hu
    show GG (EE l D t) X 0 0 27 [(0, .ref (a 0)), (1, .long (lN r0))] [] (WX a t w x y wy re de (fill co (isC w x y wy de r0) 120) ((gS1 (fill co (isC w x y wy de r0) 120) (gp wy x y) r0 (fill cr (fun _ => none) 120) (fill se (fun _ => false) 120)).1) ((gS1 (fill co (isC w x y wy de r0) 120) (gp wy x y) r0 (fill cr (fun _ => none) 120) (fill se (fun _ => false) 120)).2.2) sr so cf ck ng nw cs ((gS1 (fill co (isC w x y wy de r0) 120) (gp wy x y) r0 (fill cr (fun _ => none) 120) (fill se (fun _ => false) 120)).2.1))
    refine g_aload_n F dX0_sortWith_27 rfl rfl ?_
    refine g_lload_n F dX0_sortWith_28 rfl rfl ?_
    refine c_VV F [] (wr := []) (cX_joinBorders hf (core_X se) hr) cwX0_X0_joinBorders ⟨by decide, by decide, rfl, rfl⟩ rfl rfl rfl rfl (Nat.le_of_ble_eq_true rfl) ⟨by decide, by decide⟩ dX0_sortWith_29 (fun u hu => ?_)
    obtain rfl := hu
    show GG (EE l D t) X 0 0 32 [(0, .ref (a 0)), (1, .long (lN r0))] [] (WX a t w x y wy re de (fill co (isC w x y wy de r0) 120) (fill (gS1 (fill co (isC w x y wy de r0) 120) (gp wy x y) r0 (fill cr (fun _ => none) 120) (fill se (fun _ => false) 120)).1 (jB w (fill co (isC w x y wy de r0) 120) (gS1 (fill co (isC w x y wy de r0) 120) (gp wy x y) r0 (fill cr (fun _ => none) 120) (fill se (fun _ => false) 120)).1 (fun p q => gapN wy (x q) (y q) (x p) (y p)) r0) 120) ((gS1 (fill co (isC w x y wy de r0) 120) (gp wy x y) r0 (fill cr (fun _ => none) 120) (fill se (fun _ => false) 120)).2.2) sr so cf ck ng nw cs ((gS1 (fill co (isC w x y wy de r0) 120) (gp wy x y) r0 (fill cr (fun _ => none) 120) (fill se (fun _ => false) 120)).2.1))
    refine g_aload_n F dX0_sortWith_32 rfl rfl ?_
    refine g_lload_n F dX0_sortWith_33 rfl rfl ?_
    refine gX_put_sortedReach F dX0_sortWith_34 ?_
    refine g_aload_n F dX0_sortWith_37 rfl rfl ?_
    refine g_iconst F (b2 true) dX0_sortWith_38 (by decide) ?_
    refine gX_put_sorted F dX0_sortWith_39 ?_
    exact E _ _ _ dX0_sortWith_42 ⟨_, _, _, _, rfl, bdC_X se hb, srt_X se⟩
  · refine g_aload_n F dX0_sortWith_7 rfl rfl ?_
    refine gX_get_sortedReach F dX0_sortWith_8 ?_
    refine g_lload_n F dX0_sortWith_11 rfl rfl ?_
    refine g_lc_ne_n F 17 dX0_sortWith_12 dX0_sortWith_13 (by decide) hsr hr (fun h2 => ?_) (fun h2 => ?_)
    · refine g_aload_n F dX0_sortWith_17 rfl rfl ?_
      refine g_lload_n F dX0_sortWith_18 rfl rfl ?_
      refine c_VV F [] (wr := []) (cX_markCores hf hr) cwX0_X0_markCores ⟨by decide, by decide, rfl, rfl⟩ rfl rfl rfl rfl (Nat.le_of_ble_eq_true rfl) ⟨by decide, by decide⟩ dX0_sortWith_19 (fun u hu => ?_)
      obtain rfl := hu
      show GG (EE l D t) X 0 0 22 [(0, .ref (a 0)), (1, .long (lN r0))] [] (WX a t w x y wy re de (fill co (isC w x y wy de r0) 120) (fill cr (fun _ => none) 120) cc sr so cf ck ng nw cs (fill se (fun _ => false) 120))
      refine g_aload_n F dX0_sortWith_22 rfl rfl ?_
      refine g_lload_n F dX0_sortWith_23 rfl rfl ?_
      refine c_VV F [] (wr := []) (cX_gatherCrowds hf (bdC_none hb) hr) cwX0_X0_gatherCrowds ⟨by decide, by decide, rfl, rfl⟩ rfl rfl rfl rfl (Nat.le_of_ble_eq_true rfl) ⟨by decide, by decide⟩ dX0_sortWith_24 (fun u hu => ?_)
      obtain rfl := hu
      show GG (EE l D t) X 0 0 27 [(0, .ref (a 0)), (1, .long (lN r0))] [] (WX a t w x y wy re de (fill co (isC w x y wy de r0) 120) ((gS1 (fill co (isC w x y wy de r0) 120) (gp wy x y) r0 (fill cr (fun _ => none) 120) (fill se (fun _ => false) 120)).1) ((gS1 (fill co (isC w x y wy de r0) 120) (gp wy x y) r0 (fill cr (fun _ => none) 120) (fill se (fun _ => false) 120)).2.2) sr so cf ck ng nw cs ((gS1 (fill co (isC w x y wy de r0) 120) (gp wy x y) r0 (fill cr (fun _ => none) 120) (fill se (fun _ => false) 120)).2.1))
      refine g_aload_n F dX0_sortWith_27 rfl rfl ?_
      refine g_lload_n F dX0_sortWith_28 rfl rfl ?_
      refine c_VV F [] (wr := []) (cX_joinBorders hf (core_X se) hr) cwX0_X0_joinBorders ⟨by decide, by decide, rfl, rfl⟩ rfl rfl rfl rfl (Nat.le_of_ble_eq_true rfl) ⟨by decide, by decide⟩ dX0_sortWith_29 (fun u hu => ?_)
      obtain rfl := hu
      show GG (EE l D t) X 0 0 32 [(0, .ref (a 0)), (1, .long (lN r0))] [] (WX a t w x y wy re de (fill co (isC w x y wy de r0) 120) (fill (gS1 (fill co (isC w x y wy de r0) 120) (gp wy x y) r0 (fill cr (fun _ => none) 120) (fill se (fun _ => false) 120)).1 (jB w (fill co (isC w x y wy de r0) 120) (gS1 (fill co (isC w x y wy de r0) 120) (gp wy x y) r0 (fill cr (fun _ => none) 120) (fill se (fun _ => false) 120)).1 (fun p q => gapN wy (x q) (y q) (x p) (y p)) r0) 120) ((gS1 (fill co (isC w x y wy de r0) 120) (gp wy x y) r0 (fill cr (fun _ => none) 120) (fill se (fun _ => false) 120)).2.2) sr so cf ck ng nw cs ((gS1 (fill co (isC w x y wy de r0) 120) (gp wy x y) r0 (fill cr (fun _ => none) 120) (fill se (fun _ => false) 120)).2.1))
      refine g_aload_n F dX0_sortWith_32 rfl rfl ?_
      refine g_lload_n F dX0_sortWith_33 rfl rfl ?_
      refine gX_put_sortedReach F dX0_sortWith_34 ?_
      refine g_aload_n F dX0_sortWith_37 rfl rfl ?_
      refine g_iconst F (b2 true) dX0_sortWith_38 (by decide) ?_
      refine gX_put_sorted F dX0_sortWith_39 ?_
      exact E _ _ _ dX0_sortWith_42 ⟨_, _, _, _, rfl, bdC_X se hb, srt_X se⟩
    · exact E _ _ _ dX0_sortWith_16 ⟨co, cr, cc, se, by rw [h, h2], hb, by rw [← h2]; exact hs h⟩
set_option maxHeartbeats 4000000 in
set_option maxRecDepth 100000 in
/-- kindOf -/
theorem cX_kindOf {l : Launch} {D : va_G} {t : Ty3} {a : Nat → Nat} {w : Nat → Nat} {x : Nat → Int32} {y : Nat → Int32} {wy : Nat} {re : Nat} {de : Nat} {co : Nat → Bool} {cr : Nat → Option Nat} {cc : Nat} {sr : Nat} {so : Bool} {cf : Nat → Option Nat} {ck : Bool} {ng : Nat → Nat} {nw : Nat → Nat} {cs : Nat → Nat} {se : Nat → Bool} (hb : bdC cr) {p : Nat} (hp : p < 120) : CtI (EE l D t) yX0_kindOf tsX0_kindOf (RM 0 0) [.ref (a 0), .int (nI p)] (WX a t w x y wy re de co cr cc sr so cf ck ng nw cs se) 0 0 (fun r u => u = WX a t w x y wy re de co cr cc sr so cf ck ng nw cs se ∧ r = nI (knd co cr p)) := by
  refine CtI.of (by decide +kernel) rfl (Nat.le_of_ble_eq_true rfl) (fun X F E => ?_)
  show GG (EE l D t) X 0 0 0 [(0, .ref (a 0)), (1, .int (nI p))] [] (WX a t w x y wy re de co cr cc sr so cf ck ng nw cs se)
  refine g_aload_n F dX0_kindOf_0 rfl rfl ?_
  refine gX_get_core F dX0_kindOf_1 ?_
  refine g_iload_n F dX0_kindOf_4 rfl rfl ?_
  refine gX_ld_core F hp dX0_kindOf_5 ?_
  refine g_if_eq_b F 11 dX0_kindOf_6 (by decide)  (fun h => ?_) (fun h => ?_)
  · refine g_aload_n F dX0_kindOf_11 rfl rfl ?_
    refine gX_get_crowdOf F dX0_kindOf_12 ?_
    refine g_iload_n F dX0_kindOf_15 rfl rfl ?_
    refine gX_ld_crowdOf F hp dX0_kindOf_16 ?_
    refine g_iconst F (oI none) dX0_kindOf_17 (by decide) ?_
    refine g_icmp_ne_o F 25 dX0_kindOf_18 (by decide) (bd31 hb p) (fun h2 => ?_) (fun h2 => ?_)
    · refine g_iconst F (nI 1) dX0_kindOf_25 (by decide) ?_
      exact E _ _ _ _ dX0_kindOf_26 ⟨rfl, by unfold knd; rw [if_neg (by simp [h]), if_neg h2]⟩
    · refine g_iconst F (nI 0) dX0_kindOf_21 (by decide) ?_
      refine g_goto F 26 dX0_kindOf_22 (by decide) ?_
      exact E _ _ _ _ dX0_kindOf_26 ⟨rfl, by unfold knd; rw [if_neg (by simp [h]), if_pos h2]⟩
  · refine g_iconst F (nI 2) dX0_kindOf_9 (by decide) ?_
    exact E _ _ _ _ dX0_kindOf_10 ⟨rfl, by unfold knd; rw [if_pos h]⟩
set_option maxHeartbeats 4000000 in
set_option maxRecDepth 100000 in
/-- countKind -/
theorem cX_countKind {l : Launch} {D : va_G} {t : Ty3} {a : Nat → Nat} {w : Nat → Nat} {x : Nat → Int32} {y : Nat → Int32} {wy : Nat} {re : Nat} {de : Nat} {co : Nat → Bool} {cr : Nat → Option Nat} {cc : Nat} {sr : Nat} {so : Bool} {cf : Nat → Option Nat} {ck : Bool} {ng : Nat → Nat} {nw : Nat → Nat} {cs : Nat → Nat} {se : Nat → Bool} (hf : WFp w x y wy re de) (hb : bdC cr) (hsr : sr < 2 ^ 63) (hs : so = true → Srt w x y wy de sr co cr cc) {kd : Nat} (hk : kd ≤ 2) : CtI (EE l D t) yX0_countKind tsX0_countKind (RM 7 166) [.ref (a 0), .int (nI kd)] (WX a t w x y wy re de co cr cc sr so cf ck ng nw cs se) 0 0 (fun r u => ∃ (co2 : Nat → Bool) (cr2 : Nat → Option Nat) (cc2 : Nat) (se2 : Nat → Bool), u = WX a t w x y wy re de co2 cr2 cc2 re true cf ck ng nw cs se2 ∧ bdC cr2 ∧ Srt w x y wy de re co2 cr2 cc2 ∧ r = nI (sum1 (fun p => if 0 < w p ∧ knd co2 cr2 p = kd then 1 else 0))) := by
  refine CtI.of (by decide +kernel) rfl (Nat.le_of_ble_eq_true rfl) (fun X F E => ?_)
  show GG (EE l D t) X 0 0 0 [(0, .ref (a 0)), (1, .int (nI kd))] [] (WX a t w x y wy re de co cr cc sr so cf ck ng nw cs se)
  refine g_aload_n F dX0_countKind_0 rfl rfl ?_
  refine g_aload_n F dX0_countKind_1 rfl rfl ?_
  refine gX_get_reachNow F dX0_countKind_2 ?_
  refine c_VV F [] (wr := []) (cX_sortWith hf hb hsr hs hf.2.2.2.2.1) cwX0_X0_sortWith ⟨by decide, by decide, rfl, rfl⟩ rfl rfl rfl rfl (Nat.le_of_ble_eq_true rfl) ⟨by decide, by decide⟩ dX0_countKind_5 (fun u hu => ?_)
  obtain ⟨co2, cr2, cc2, se2, rfl, hb2, hs2⟩ := hu
  show GG (EE l D t) X 0 0 8 [(0, .ref (a 0)), (1, .int (nI kd))] [] (WX a t w x y wy re de co2 cr2 cc2 re true cf ck ng nw cs se2)
  refine g_iconst F (nI 0) dX0_countKind_8 (by decide) ?_
  refine g_istore_n (lv2 := [(0, .ref (a 0)), (1, .int (nI kd)), (2, .int (nI 0))]) F dX0_countKind_9 rfl (by decide) rfl ?_
  refine g_iconst F (nI 0) dX0_countKind_10 (by decide) ?_
  refine g_istore_n (lv2 := [(0, .ref (a 0)), (1, .int (nI kd)), (2, .int (nI 0)), (3, .int (nI 0))]) F dX0_countKind_11 rfl (by decide) rfl ?_
  refine up_loop (P := fun i => GG (EE l D t) X 0 0 12 [(0, .ref (a 0)), (1, .int (nI kd)), (2, .int (nI (sumN (fun p => if 0 < w p ∧ knd co2 cr2 p = kd then 1 else 0) i))), (3, .int (nI i))] [] (WX a t w x y wy re de co2 cr2 cc2 re true cf ck ng nw cs se2)) 120 ?_ (fun i hi ih => ?_)
  · show GG (EE l D t) X 0 0 12 [(0, .ref (a 0)), (1, .int (nI kd)), (2, .int (nI (sumN (fun p => if 0 < w p ∧ knd co2 cr2 p = kd then 1 else 0) 120))), (3, .int (nI 120))] [] (WX a t w x y wy re de co2 cr2 cc2 re true cf ck ng nw cs se2)
    refine g_iload_n F dX0_countKind_12 rfl rfl ?_
    refine g_bipush F (nI 120) dX0_countKind_13 (by decide) ?_
    refine g_icmp_ge_t F 45 dX0_countKind_15 (by decide) (nI_le (Nat.le_refl 120) (by decide)) ?_
    refine g_iload_n F dX0_countKind_45 rfl rfl ?_
    exact E _ _ _ _ dX0_countKind_46 ⟨co2, cr2, cc2, se2, rfl, hb2, hs2, by rw [sum1_eq]⟩
  · show GG (EE l D t) X 0 0 12 [(0, .ref (a 0)), (1, .int (nI kd)), (2, .int (nI (sumN (fun p => if 0 < w p ∧ knd co2 cr2 p = kd then 1 else 0) i))), (3, .int (nI i))] [] (WX a t w x y wy re de co2 cr2 cc2 re true cf ck ng nw cs se2)
    refine g_iload_n F dX0_countKind_12 rfl rfl ?_
    refine g_bipush F (nI 120) dX0_countKind_13 (by decide) ?_
    refine g_icmp_ge_f F 45 dX0_countKind_15 (by decide) (nI_ge hi (by decide)) ?_
    refine g_aload_n F dX0_countKind_18 rfl rfl ?_
    refine gX_get_weights F dX0_countKind_19 ?_
    refine g_iload_n F dX0_countKind_22 rfl rfl ?_
    refine gX_ld_weights F hi dX0_countKind_23 ?_
    refine g_if_le_n F 39 dX0_countKind_24 (by decide) (by have := hf.1 i; omega) (fun h => ?_) (fun h => ?_)
    · refine g_iinc (lv2 := [(0, .ref (a 0)), (1, .int (nI kd)), (2, .int (nI (sumN (fun p => if 0 < w p ∧ knd co2 cr2 p = kd then 1 else 0) i))), (3, .int (nI (i + 1)))]) F (nI (i + 1)) dX0_countKind_39 rfl (nI_add i 1) (by decide) rfl ?_
      refine g_goto F 12 dX0_countKind_42 (by decide) ?_
      rw [sumN_z (f := (fun p => if 0 < w p ∧ knd co2 cr2 p = kd then 1 else 0)) (n := i) (c := 0 < w i ∧ knd co2 cr2 i = kd) (v := 1) rfl (by omega)] at ih
      exact ih
    · refine g_aload_n F dX0_countKind_27 rfl rfl ?_
      refine g_iload_n F dX0_countKind_28 rfl rfl ?_
      refine c_VI F [] (wr := []) (cX_kindOf hb2 hi) cwX0_X0_kindOf ⟨by decide, by decide, rfl, rfl⟩ rfl rfl rfl rfl (Nat.le_of_ble_eq_true rfl) ⟨by decide, by decide⟩ dX0_countKind_29 (fun r u hu => ?_)
      obtain ⟨rfl, rfl⟩ := hu
      show GG (EE l D t) X 0 0 32 [(0, .ref (a 0)), (1, .int (nI kd)), (2, .int (nI (sumN (fun p => if 0 < w p ∧ knd co2 cr2 p = kd then 1 else 0) i))), (3, .int (nI i))] [.int (nI (knd co2 cr2 i))] (WX a t w x y wy re de co2 cr2 cc2 re true cf ck ng nw cs se2)
      refine g_iload_n F dX0_countKind_32 rfl rfl ?_
      refine g_icmp_ne_n F 39 dX0_countKind_33 (by decide) (by have := knd_le co2 cr2 i; omega) (by omega) (fun h2 => ?_) (fun h2 => ?_)
      · refine g_iinc (lv2 := [(0, .ref (a 0)), (1, .int (nI kd)), (2, .int (nI (sumN (fun p => if 0 < w p ∧ knd co2 cr2 p = kd then 1 else 0) i))), (3, .int (nI (i + 1)))]) F (nI (i + 1)) dX0_countKind_39 rfl (nI_add i 1) (by decide) rfl ?_
        refine g_goto F 12 dX0_countKind_42 (by decide) ?_
        rw [sumN_z (f := (fun p => if 0 < w p ∧ knd co2 cr2 p = kd then 1 else 0)) (n := i) (c := 0 < w i ∧ knd co2 cr2 i = kd) (v := 1) rfl (fun z => h2 z.2)] at ih
        exact ih
      · refine g_iinc (lv2 := [(0, .ref (a 0)), (1, .int (nI kd)), (2, .int (nI ((sumN (fun p => if 0 < w p ∧ knd co2 cr2 p = kd then 1 else 0) i) + 1))), (3, .int (nI i))]) F (nI ((sumN (fun p => if 0 < w p ∧ knd co2 cr2 p = kd then 1 else 0) i) + 1)) dX0_countKind_36 rfl (nI_add (sumN (fun p => if 0 < w p ∧ knd co2 cr2 p = kd then 1 else 0) i) 1) (by decide) rfl ?_
        refine g_iinc (lv2 := [(0, .ref (a 0)), (1, .int (nI kd)), (2, .int (nI ((sumN (fun p => if 0 < w p ∧ knd co2 cr2 p = kd then 1 else 0) i) + 1))), (3, .int (nI (i + 1)))]) F (nI (i + 1)) dX0_countKind_39 rfl (nI_add i 1) (by decide) rfl ?_
        refine g_goto F 12 dX0_countKind_42 (by decide) ?_
        rw [sumN_c (f := (fun p => if 0 < w p ∧ knd co2 cr2 p = kd then 1 else 0)) (n := i) (c := 0 < w i ∧ knd co2 cr2 i = kd) (v := 1) rfl ⟨h, h2⟩] at ih
        exact ih
set_option maxHeartbeats 4000000 in
set_option maxRecDepth 100000 in
/-- X0_pointsOf -/
theorem cX_pointsOf {l : Launch} {D : va_G} {t : Ty3} {a : Nat → Nat} {w : Nat → Nat} {x : Nat → Int32} {y : Nat → Int32} {wy : Nat} {re : Nat} {de : Nat} {co : Nat → Bool} {cr : Nat → Option Nat} {cc : Nat} {sr : Nat} {so : Bool} {cf : Nat → Option Nat} {ck : Bool} {ng : Nat → Nat} {nw : Nat → Nat} {cs : Nat → Nat} {se : Nat → Bool} (hb : bdC cr) {c : Nat} (hc : c < 120) : CtI (EE l D t) yX0_pointsOf tsX0_pointsOf (RM 0 0) [.ref (a 0), .int (nI c)] (WX a t w x y wy re de co cr cc sr so cf ck ng nw cs se) 0 0 (fun r u => u = WX a t w x y wy re de co cr cc sr so cf ck ng nw cs se ∧ r = nI (sum1 (fun p => if cr p = some c then 1 else 0))) := by
  refine CtI.of (by decide +kernel) rfl (Nat.le_of_ble_eq_true rfl) (fun X F E => ?_)
  show GG (EE l D t) X 0 0 0 [(0, .ref (a 0)), (1, .int (nI c))] [] (WX a t w x y wy re de co cr cc sr so cf ck ng nw cs se)
  refine g_iconst F (nI 0) dX0_pointsOf_0 (by decide) ?_
  refine g_istore_n (lv2 := [(0, .ref (a 0)), (1, .int (nI c)), (2, .int (nI 0))]) F dX0_pointsOf_1 rfl (by decide) rfl ?_
  refine g_iconst F (nI 0) dX0_pointsOf_2 (by decide) ?_
  refine g_istore_n (lv2 := [(0, .ref (a 0)), (1, .int (nI c)), (2, .int (nI 0)), (3, .int (nI 0))]) F dX0_pointsOf_3 rfl (by decide) rfl ?_
  refine up_loop (P := fun i => GG (EE l D t) X 0 0 4 [(0, .ref (a 0)), (1, .int (nI c)), (2, .int (nI (sumN (fun p => if cr p = some c then 1 else 0) i))), (3, .int (nI i))] [] (WX a t w x y wy re de co cr cc sr so cf ck ng nw cs se)) 120 ?_ (fun i hi ih => ?_)
  · show GG (EE l D t) X 0 0 4 [(0, .ref (a 0)), (1, .int (nI c)), (2, .int (nI (sumN (fun p => if cr p = some c then 1 else 0) 120))), (3, .int (nI 120))] [] (WX a t w x y wy re de co cr cc sr so cf ck ng nw cs se)
    refine g_iload_n F dX0_pointsOf_4 rfl rfl ?_
    refine g_bipush F (nI 120) dX0_pointsOf_5 (by decide) ?_
    refine g_icmp_ge_t F 29 dX0_pointsOf_7 (by decide) (nI_le (Nat.le_refl 120) (by decide)) ?_
    refine g_iload_n F dX0_pointsOf_29 rfl rfl ?_
    exact E _ _ _ _ dX0_pointsOf_30 ⟨rfl, by rw [sum1_eq]⟩
  · show GG (EE l D t) X 0 0 4 [(0, .ref (a 0)), (1, .int (nI c)), (2, .int (nI (sumN (fun p => if cr p = some c then 1 else 0) i))), (3, .int (nI i))] [] (WX a t w x y wy re de co cr cc sr so cf ck ng nw cs se)
    refine g_iload_n F dX0_pointsOf_4 rfl rfl ?_
    refine g_bipush F (nI 120) dX0_pointsOf_5 (by decide) ?_
    refine g_icmp_ge_f F 29 dX0_pointsOf_7 (by decide) (nI_ge hi (by decide)) ?_
    refine g_aload_n F dX0_pointsOf_10 rfl rfl ?_
    refine gX_get_crowdOf F dX0_pointsOf_11 ?_
    refine g_iload_n F dX0_pointsOf_14 rfl rfl ?_
    refine gX_ld_crowdOf F hi dX0_pointsOf_15 ?_
    refine g_iload_n F dX0_pointsOf_16 rfl rfl ?_
    refine g_icmp_ne_on F 23 dX0_pointsOf_17 (by decide) (bd31 hb i) (by omega) (fun h0 => ?_) (fun h0 => ?_)
    · refine g_iinc (lv2 := [(0, .ref (a 0)), (1, .int (nI c)), (2, .int (nI (sumN (fun p => if cr p = some c then 1 else 0) i))), (3, .int (nI (i + 1)))]) F (nI (i + 1)) dX0_pointsOf_23 rfl (nI_add i 1) (by decide) rfl ?_
      refine g_goto F 4 dX0_pointsOf_26 (by decide) ?_
      rw [sumN_z (f := (fun p => if cr p = some c then 1 else 0)) (n := i) (c := cr i = some c) (v := 1) rfl (by simp [h0])] at ih
      exact ih
    · refine g_iinc (lv2 := [(0, .ref (a 0)), (1, .int (nI c)), (2, .int (nI ((sumN (fun p => if cr p = some c then 1 else 0) i) + 1))), (3, .int (nI i))]) F (nI ((sumN (fun p => if cr p = some c then 1 else 0) i) + 1)) dX0_pointsOf_20 rfl (nI_add (sumN (fun p => if cr p = some c then 1 else 0) i) 1) (by decide) rfl ?_
      refine g_iinc (lv2 := [(0, .ref (a 0)), (1, .int (nI c)), (2, .int (nI ((sumN (fun p => if cr p = some c then 1 else 0) i) + 1))), (3, .int (nI (i + 1)))]) F (nI (i + 1)) dX0_pointsOf_23 rfl (nI_add i 1) (by decide) rfl ?_
      refine g_goto F 4 dX0_pointsOf_26 (by decide) ?_
      rw [sumN_c (f := (fun p => if cr p = some c then 1 else 0)) (n := i) (c := cr i = some c) (v := 1) rfl h0] at ih
      exact ih
set_option maxHeartbeats 4000000 in
set_option maxRecDepth 100000 in
/-- X0_coresOf -/
theorem cX_coresOf {l : Launch} {D : va_G} {t : Ty3} {a : Nat → Nat} {w : Nat → Nat} {x : Nat → Int32} {y : Nat → Int32} {wy : Nat} {re : Nat} {de : Nat} {co : Nat → Bool} {cr : Nat → Option Nat} {cc : Nat} {sr : Nat} {so : Bool} {cf : Nat → Option Nat} {ck : Bool} {ng : Nat → Nat} {nw : Nat → Nat} {cs : Nat → Nat} {se : Nat → Bool} (hb : bdC cr) {c : Nat} (hc : c < 120) : CtI (EE l D t) yX0_coresOf tsX0_coresOf (RM 0 0) [.ref (a 0), .int (nI c)] (WX a t w x y wy re de co cr cc sr so cf ck ng nw cs se) 0 0 (fun r u => u = WX a t w x y wy re de co cr cc sr so cf ck ng nw cs se ∧ r = nI (sum1 (fun p => if co p = true ∧ cr p = some c then 1 else 0))) := by
  refine CtI.of (by decide +kernel) rfl (Nat.le_of_ble_eq_true rfl) (fun X F E => ?_)
  show GG (EE l D t) X 0 0 0 [(0, .ref (a 0)), (1, .int (nI c))] [] (WX a t w x y wy re de co cr cc sr so cf ck ng nw cs se)
  refine g_iconst F (nI 0) dX0_coresOf_0 (by decide) ?_
  refine g_istore_n (lv2 := [(0, .ref (a 0)), (1, .int (nI c)), (2, .int (nI 0))]) F dX0_coresOf_1 rfl (by decide) rfl ?_
  refine g_iconst F (nI 0) dX0_coresOf_2 (by decide) ?_
  refine g_istore_n (lv2 := [(0, .ref (a 0)), (1, .int (nI c)), (2, .int (nI 0)), (3, .int (nI 0))]) F dX0_coresOf_3 rfl (by decide) rfl ?_
  refine up_loop (P := fun i => GG (EE l D t) X 0 0 4 [(0, .ref (a 0)), (1, .int (nI c)), (2, .int (nI (sumN (fun p => if co p = true ∧ cr p = some c then 1 else 0) i))), (3, .int (nI i))] [] (WX a t w x y wy re de co cr cc sr so cf ck ng nw cs se)) 120 ?_ (fun i hi ih => ?_)
  · show GG (EE l D t) X 0 0 4 [(0, .ref (a 0)), (1, .int (nI c)), (2, .int (nI (sumN (fun p => if co p = true ∧ cr p = some c then 1 else 0) 120))), (3, .int (nI 120))] [] (WX a t w x y wy re de co cr cc sr so cf ck ng nw cs se)
    refine g_iload_n F dX0_coresOf_4 rfl rfl ?_
    refine g_bipush F (nI 120) dX0_coresOf_5 (by decide) ?_
    refine g_icmp_ge_t F 38 dX0_coresOf_7 (by decide) (nI_le (Nat.le_refl 120) (by decide)) ?_
    refine g_iload_n F dX0_coresOf_38 rfl rfl ?_
    exact E _ _ _ _ dX0_coresOf_39 ⟨rfl, by rw [sum1_eq]⟩
  · show GG (EE l D t) X 0 0 4 [(0, .ref (a 0)), (1, .int (nI c)), (2, .int (nI (sumN (fun p => if co p = true ∧ cr p = some c then 1 else 0) i))), (3, .int (nI i))] [] (WX a t w x y wy re de co cr cc sr so cf ck ng nw cs se)
    refine g_iload_n F dX0_coresOf_4 rfl rfl ?_
    refine g_bipush F (nI 120) dX0_coresOf_5 (by decide) ?_
    refine g_icmp_ge_f F 38 dX0_coresOf_7 (by decide) (nI_ge hi (by decide)) ?_
    refine g_aload_n F dX0_coresOf_10 rfl rfl ?_
    refine gX_get_core F dX0_coresOf_11 ?_
    refine g_iload_n F dX0_coresOf_14 rfl rfl ?_
    refine gX_ld_core F hi dX0_coresOf_15 ?_
    refine g_if_eq_b F 32 dX0_coresOf_16 (by decide)  (fun h0 => ?_) (fun h0 => ?_)
    · refine g_iinc (lv2 := [(0, .ref (a 0)), (1, .int (nI c)), (2, .int (nI (sumN (fun p => if co p = true ∧ cr p = some c then 1 else 0) i))), (3, .int (nI (i + 1)))]) F (nI (i + 1)) dX0_coresOf_32 rfl (nI_add i 1) (by decide) rfl ?_
      refine g_goto F 4 dX0_coresOf_35 (by decide) ?_
      rw [sumN_z (f := (fun p => if co p = true ∧ cr p = some c then 1 else 0)) (n := i) (c := co i = true ∧ cr i = some c) (v := 1) rfl (by simp [h0])] at ih
      exact ih
    · refine g_aload_n F dX0_coresOf_19 rfl rfl ?_
      refine gX_get_crowdOf F dX0_coresOf_20 ?_
      refine g_iload_n F dX0_coresOf_23 rfl rfl ?_
      refine gX_ld_crowdOf F hi dX0_coresOf_24 ?_
      refine g_iload_n F dX0_coresOf_25 rfl rfl ?_
      refine g_icmp_ne_on F 32 dX0_coresOf_26 (by decide) (bd31 hb i) (by omega) (fun h1 => ?_) (fun h1 => ?_)
      · refine g_iinc (lv2 := [(0, .ref (a 0)), (1, .int (nI c)), (2, .int (nI (sumN (fun p => if co p = true ∧ cr p = some c then 1 else 0) i))), (3, .int (nI (i + 1)))]) F (nI (i + 1)) dX0_coresOf_32 rfl (nI_add i 1) (by decide) rfl ?_
        refine g_goto F 4 dX0_coresOf_35 (by decide) ?_
        rw [sumN_z (f := (fun p => if co p = true ∧ cr p = some c then 1 else 0)) (n := i) (c := co i = true ∧ cr i = some c) (v := 1) rfl (by simp [h1])] at ih
        exact ih
      · refine g_iinc (lv2 := [(0, .ref (a 0)), (1, .int (nI c)), (2, .int (nI ((sumN (fun p => if co p = true ∧ cr p = some c then 1 else 0) i) + 1))), (3, .int (nI i))]) F (nI ((sumN (fun p => if co p = true ∧ cr p = some c then 1 else 0) i) + 1)) dX0_coresOf_29 rfl (nI_add (sumN (fun p => if co p = true ∧ cr p = some c then 1 else 0) i) 1) (by decide) rfl ?_
        refine g_iinc (lv2 := [(0, .ref (a 0)), (1, .int (nI c)), (2, .int (nI ((sumN (fun p => if co p = true ∧ cr p = some c then 1 else 0) i) + 1))), (3, .int (nI (i + 1)))]) F (nI (i + 1)) dX0_coresOf_32 rfl (nI_add i 1) (by decide) rfl ?_
        refine g_goto F 4 dX0_coresOf_35 (by decide) ?_
        rw [sumN_c (f := (fun p => if co p = true ∧ cr p = some c then 1 else 0)) (n := i) (c := co i = true ∧ cr i = some c) (v := 1) rfl ⟨h0, h1⟩] at ih
        exact ih
set_option maxHeartbeats 4000000 in
set_option maxRecDepth 100000 in
/-- X0_weightsOf -/
theorem cX_weightsOf {l : Launch} {D : va_G} {t : Ty3} {a : Nat → Nat} {w : Nat → Nat} {x : Nat → Int32} {y : Nat → Int32} {wy : Nat} {re : Nat} {de : Nat} {co : Nat → Bool} {cr : Nat → Option Nat} {cc : Nat} {sr : Nat} {so : Bool} {cf : Nat → Option Nat} {ck : Bool} {ng : Nat → Nat} {nw : Nat → Nat} {cs : Nat → Nat} {se : Nat → Bool} (hb : bdC cr) {c : Nat} (hc : c < 120) : CtI (EE l D t) yX0_weightsOf tsX0_weightsOf (RM 0 0) [.ref (a 0), .int (nI c)] (WX a t w x y wy re de co cr cc sr so cf ck ng nw cs se) 0 0 (fun r u => u = WX a t w x y wy re de co cr cc sr so cf ck ng nw cs se ∧ r = nI (sum1 (fun p => if cr p = some c then w p else 0))) := by
  refine CtI.of (by decide +kernel) rfl (Nat.le_of_ble_eq_true rfl) (fun X F E => ?_)
  show GG (EE l D t) X 0 0 0 [(0, .ref (a 0)), (1, .int (nI c))] [] (WX a t w x y wy re de co cr cc sr so cf ck ng nw cs se)
  refine g_iconst F (nI 0) dX0_weightsOf_0 (by decide) ?_
  refine g_istore_n (lv2 := [(0, .ref (a 0)), (1, .int (nI c)), (2, .int (nI 0))]) F dX0_weightsOf_1 rfl (by decide) rfl ?_
  refine g_iconst F (nI 0) dX0_weightsOf_2 (by decide) ?_
  refine g_istore_n (lv2 := [(0, .ref (a 0)), (1, .int (nI c)), (2, .int (nI 0)), (3, .int (nI 0))]) F dX0_weightsOf_3 rfl (by decide) rfl ?_
  refine up_loop (P := fun i => GG (EE l D t) X 0 0 4 [(0, .ref (a 0)), (1, .int (nI c)), (2, .int (nI (sumN (fun p => if cr p = some c then w p else 0) i))), (3, .int (nI i))] [] (WX a t w x y wy re de co cr cc sr so cf ck ng nw cs se)) 120 ?_ (fun i hi ih => ?_)
  · show GG (EE l D t) X 0 0 4 [(0, .ref (a 0)), (1, .int (nI c)), (2, .int (nI (sumN (fun p => if cr p = some c then w p else 0) 120))), (3, .int (nI 120))] [] (WX a t w x y wy re de co cr cc sr so cf ck ng nw cs se)
    refine g_iload_n F dX0_weightsOf_4 rfl rfl ?_
    refine g_bipush F (nI 120) dX0_weightsOf_5 (by decide) ?_
    refine g_icmp_ge_t F 35 dX0_weightsOf_7 (by decide) (nI_le (Nat.le_refl 120) (by decide)) ?_
    refine g_iload_n F dX0_weightsOf_35 rfl rfl ?_
    exact E _ _ _ _ dX0_weightsOf_36 ⟨rfl, by rw [sum1_eq]⟩
  · show GG (EE l D t) X 0 0 4 [(0, .ref (a 0)), (1, .int (nI c)), (2, .int (nI (sumN (fun p => if cr p = some c then w p else 0) i))), (3, .int (nI i))] [] (WX a t w x y wy re de co cr cc sr so cf ck ng nw cs se)
    refine g_iload_n F dX0_weightsOf_4 rfl rfl ?_
    refine g_bipush F (nI 120) dX0_weightsOf_5 (by decide) ?_
    refine g_icmp_ge_f F 35 dX0_weightsOf_7 (by decide) (nI_ge hi (by decide)) ?_
    refine g_aload_n F dX0_weightsOf_10 rfl rfl ?_
    refine gX_get_crowdOf F dX0_weightsOf_11 ?_
    refine g_iload_n F dX0_weightsOf_14 rfl rfl ?_
    refine gX_ld_crowdOf F hi dX0_weightsOf_15 ?_
    refine g_iload_n F dX0_weightsOf_16 rfl rfl ?_
    refine g_icmp_ne_on F 29 dX0_weightsOf_17 (by decide) (bd31 hb i) (by omega) (fun h0 => ?_) (fun h0 => ?_)
    · refine g_iinc (lv2 := [(0, .ref (a 0)), (1, .int (nI c)), (2, .int (nI (sumN (fun p => if cr p = some c then w p else 0) i))), (3, .int (nI (i + 1)))]) F (nI (i + 1)) dX0_weightsOf_29 rfl (nI_add i 1) (by decide) rfl ?_
      refine g_goto F 4 dX0_weightsOf_32 (by decide) ?_
      rw [sumN_z (f := (fun p => if cr p = some c then w p else 0)) (n := i) (c := cr i = some c) (v := w i) rfl (by simp [h0])] at ih
      exact ih
    · refine g_iload_n F dX0_weightsOf_20 rfl rfl ?_
      refine g_aload_n F dX0_weightsOf_21 rfl rfl ?_
      refine gX_get_weights F dX0_weightsOf_22 ?_
      refine g_iload_n F dX0_weightsOf_25 rfl rfl ?_
      refine gX_ld_weights F hi dX0_weightsOf_26 ?_
      refine g_iadd_n F dX0_weightsOf_27 ?_
      refine g_istore_n (lv2 := [(0, .ref (a 0)), (1, .int (nI c)), (2, .int (nI ((sumN (fun p => if cr p = some c then w p else 0) i) + (w i)))), (3, .int (nI i))]) F dX0_weightsOf_28 rfl (by decide) rfl ?_
      refine g_iinc (lv2 := [(0, .ref (a 0)), (1, .int (nI c)), (2, .int (nI ((sumN (fun p => if cr p = some c then w p else 0) i) + (w i)))), (3, .int (nI (i + 1)))]) F (nI (i + 1)) dX0_weightsOf_29 rfl (nI_add i 1) (by decide) rfl ?_
      refine g_goto F 4 dX0_weightsOf_32 (by decide) ?_
      rw [sumN_c (f := (fun p => if cr p = some c then w p else 0)) (n := i) (c := cr i = some c) (v := w i) rfl h0] at ih
      exact ih
set_option maxHeartbeats 4000000 in
set_option maxRecDepth 100000 in
/-- leastCoreOf -/
theorem cX_leastCoreOf {l : Launch} {D : va_G} {t : Ty3} {a : Nat → Nat} {w : Nat → Nat} {x : Nat → Int32} {y : Nat → Int32} {wy : Nat} {re : Nat} {de : Nat} {co : Nat → Bool} {cr : Nat → Option Nat} {cc : Nat} {sr : Nat} {so : Bool} {cf : Nat → Option Nat} {ck : Bool} {ng : Nat → Nat} {nw : Nat → Nat} {cs : Nat → Nat} {se : Nat → Bool} (hb : bdC cr) {c : Nat} (hc : c < 120) : CtI (EE l D t) yX0_leastCoreOf tsX0_leastCoreOf (RM 0 0) [.ref (a 0), .int (nI c)] (WX a t w x y wy re de co cr cc sr so cf ck ng nw cs se) 0 0 (fun r u => u = WX a t w x y wy re de co cr cc sr so cf ck ng nw cs se ∧ r = oI (fst1 (fun p => co p && decide (cr p = some c)))) := by
  refine CtI.of (by decide +kernel) rfl (Nat.le_of_ble_eq_true rfl) (fun X F E => ?_)
  show GG (EE l D t) X 0 0 0 [(0, .ref (a 0)), (1, .int (nI c))] [] (WX a t w x y wy re de co cr cc sr so cf ck ng nw cs se)
  refine g_iconst F (nI 0) dX0_leastCoreOf_0 (by decide) ?_
  refine g_istore_n (lv2 := [(0, .ref (a 0)), (1, .int (nI c)), (2, .int (nI 0))]) F dX0_leastCoreOf_1 rfl (by decide) rfl ?_
  refine up_loopI (I := fun i => ∀ j, j < i → (fun p => co p && decide (cr p = some c)) j = false) (P := fun i => GG (EE l D t) X 0 0 2 [(0, .ref (a 0)), (1, .int (nI c)), (2, .int (nI i))] [] (WX a t w x y wy re de co cr cc sr so cf ck ng nw cs se)) 120 (fun j hj => absurd hj (by omega)) (fun hI => ?_) (fun i hi hI ih => ?_)
  · show GG (EE l D t) X 0 0 2 [(0, .ref (a 0)), (1, .int (nI c)), (2, .int (nI 120))] [] (WX a t w x y wy re de co cr cc sr so cf ck ng nw cs se)
    refine g_iload_n F dX0_leastCoreOf_2 rfl rfl ?_
    refine g_bipush F (nI 120) dX0_leastCoreOf_3 (by decide) ?_
    refine g_icmp_ge_t F 35 dX0_leastCoreOf_5 (by decide) (nI_le (Nat.le_refl 120) (by decide)) ?_
    refine g_iconst F (oI none) dX0_leastCoreOf_35 (by decide) ?_
    exact E _ _ _ _ dX0_leastCoreOf_36 ⟨rfl, by rw [fst1_eq, firstN_none hI]⟩
  · show GG (EE l D t) X 0 0 2 [(0, .ref (a 0)), (1, .int (nI c)), (2, .int (nI i))] [] (WX a t w x y wy re de co cr cc sr so cf ck ng nw cs se)
    refine g_iload_n F dX0_leastCoreOf_2 rfl rfl ?_
    refine g_bipush F (nI 120) dX0_leastCoreOf_3 (by decide) ?_
    refine g_icmp_ge_f F 35 dX0_leastCoreOf_5 (by decide) (nI_ge hi (by decide)) ?_
    refine g_aload_n F dX0_leastCoreOf_8 rfl rfl ?_
    refine gX_get_core F dX0_leastCoreOf_9 ?_
    refine g_iload_n F dX0_leastCoreOf_12 rfl rfl ?_
    refine gX_ld_core F hi dX0_leastCoreOf_13 ?_
    refine g_if_eq_b F 29 dX0_leastCoreOf_14 (by decide)  (fun h => ?_) (fun h => ?_)
    · refine g_iinc (lv2 := [(0, .ref (a 0)), (1, .int (nI c)), (2, .int (nI (i + 1)))]) F (nI (i + 1)) dX0_leastCoreOf_29 rfl (nI_add i 1) (by decide) rfl ?_
      refine g_goto F 2 dX0_leastCoreOf_32 (by decide) ?_
      exact ih (lt_s hI (by simp [h]))
    · refine g_aload_n F dX0_leastCoreOf_17 rfl rfl ?_
      refine gX_get_crowdOf F dX0_leastCoreOf_18 ?_
      refine g_iload_n F dX0_leastCoreOf_21 rfl rfl ?_
      refine gX_ld_crowdOf F hi dX0_leastCoreOf_22 ?_
      refine g_iload_n F dX0_leastCoreOf_23 rfl rfl ?_
      refine g_icmp_ne_on F 29 dX0_leastCoreOf_24 (by decide) (bd31 hb i) (by omega) (fun h2 => ?_) (fun h2 => ?_)
      · refine g_iinc (lv2 := [(0, .ref (a 0)), (1, .int (nI c)), (2, .int (nI (i + 1)))]) F (nI (i + 1)) dX0_leastCoreOf_29 rfl (nI_add i 1) (by decide) rfl ?_
        refine g_goto F 2 dX0_leastCoreOf_32 (by decide) ?_
        exact ih (lt_s hI (by simp [h2]))
      · refine g_iload_n F dX0_leastCoreOf_27 rfl rfl ?_
        exact E _ _ _ _ dX0_leastCoreOf_28 ⟨rfl, by rw [fst1_eq, firstN_some (i := i) (by simp [h, h2]) hI hi]; rfl⟩
set_option maxHeartbeats 4000000 in
set_option maxRecDepth 100000 in
/-- X0_leastOf -/
theorem cX_leastOf_x {l : Launch} {D : va_G} {t : Ty3} {a : Nat → Nat} {w : Nat → Nat} {x : Nat → Int32} {y : Nat → Int32} {wy : Nat} {re : Nat} {de : Nat} {co : Nat → Bool} {cr : Nat → Option Nat} {cc : Nat} {sr : Nat} {so : Bool} {cf : Nat → Option Nat} {ck : Bool} {ng : Nat → Nat} {nw : Nat → Nat} {cs : Nat → Nat} {se : Nat → Bool} (hb : bdC cr) {c : Nat} (hc : c < 120) : CtI (EE l D t) yX0_leastOf tsX0_leastOf (RM 1 23) [.ref (a 0), .ref (a 2), .int (nI c)] (WX a t w x y wy re de co cr cc sr so cf ck ng nw cs se) 0 0 (fun r u => u = WX a t w x y wy re de co cr cc sr so cf ck ng nw cs se ∧ r = mn1 x (fun p => decide (cr p = some c)) 1073741823) := by
  refine CtI.of (by decide +kernel) rfl (Nat.le_of_ble_eq_true rfl) (fun X F E => ?_)
  show GG (EE l D t) X 0 0 0 [(0, .ref (a 0)), (1, .ref (a 2)), (2, .int (nI c))] [] (WX a t w x y wy re de co cr cc sr so cf ck ng nw cs se)
  refine g_ldc F (1073741823) dX0_leastOf_0 (List.mem_cons_of_mem _ mw3_7) ?_
  refine g_istore_n (lv2 := [(0, .ref (a 0)), (1, .ref (a 2)), (2, .int (nI c)), (3, .int (1073741823))]) F dX0_leastOf_2 rfl (by decide) rfl ?_
  refine g_iconst F (nI 0) dX0_leastOf_3 (by decide) ?_
  refine g_istore (lv2 := [(0, .ref (a 0)), (1, .ref (a 2)), (2, .int (nI c)), (3, .int (1073741823)), (4, .int (nI 0))]) F dX0_leastOf_4 (by decide) rfl ?_
  refine up_loop (P := fun i => GG (EE l D t) X 0 0 6 [(0, .ref (a 0)), (1, .ref (a 2)), (2, .int (nI c)), (3, .int (mnf x (fun p => decide (cr p = some c)) 1073741823 i)), (4, .int (nI i))] [] (WX a t w x y wy re de co cr cc sr so cf ck ng nw cs se)) 120 ?_ (fun i hi ih => ?_)
  · show GG (EE l D t) X 0 0 6 [(0, .ref (a 0)), (1, .ref (a 2)), (2, .int (nI c)), (3, .int (mnf x (fun p => decide (cr p = some c)) 1073741823 120)), (4, .int (nI 120))] [] (WX a t w x y wy re de co cr cc sr so cf ck ng nw cs se)
    refine g_iload F dX0_leastOf_6 rfl ?_
    refine g_bipush F (nI 120) dX0_leastOf_8 (by decide) ?_
    refine g_icmp_ge_t F 46 dX0_leastOf_10 (by decide) (nI_le (Nat.le_refl 120) (by decide)) ?_
    refine g_iload_n F dX0_leastOf_46 rfl rfl ?_
    exact E _ _ _ _ dX0_leastOf_47 ⟨rfl, by rw [mn1_eq]⟩
  · show GG (EE l D t) X 0 0 6 [(0, .ref (a 0)), (1, .ref (a 2)), (2, .int (nI c)), (3, .int (mnf x (fun p => decide (cr p = some c)) 1073741823 i)), (4, .int (nI i))] [] (WX a t w x y wy re de co cr cc sr so cf ck ng nw cs se)
    refine g_iload F dX0_leastOf_6 rfl ?_
    refine g_bipush F (nI 120) dX0_leastOf_8 (by decide) ?_
    refine g_icmp_ge_f F 46 dX0_leastOf_10 (by decide) (nI_ge hi (by decide)) ?_
    refine g_iload F dX0_leastOf_13 rfl ?_
    refine g_aload_n F dX0_leastOf_15 rfl rfl ?_
    refine g_alen F 2 0 (x := (120, .inl x)) rfl rfl dX0_leastOf_16 ?_
    show GG (EE l D t) X 0 0 17 [(0, .ref (a 0)), (1, .ref (a 2)), (2, .int (nI c)), (3, .int (mnf x (fun p => decide (cr p = some c)) 1073741823 i)), (4, .int (nI i))] [.int (nI 120), .int (nI i)] (WX a t w x y wy re de co cr cc sr so cf ck ng nw cs se)
    refine g_icmp_ge_f F 46 dX0_leastOf_17 (by decide) (nI_ge hi (by decide)) ?_
    refine g_aload_n F dX0_leastOf_20 rfl rfl ?_
    refine gX_get_crowdOf F dX0_leastOf_21 ?_
    refine g_iload F dX0_leastOf_24 rfl ?_
    refine gX_ld_crowdOf F hi dX0_leastOf_26 ?_
    refine g_iload_n F dX0_leastOf_27 rfl rfl ?_
    refine g_icmp_ne_on F 40 dX0_leastOf_28 (by decide) (bd31 hb i) (by omega) (fun h => ?_) (fun h => ?_)
    · refine g_iinc (lv2 := [(0, .ref (a 0)), (1, .ref (a 2)), (2, .int (nI c)), (3, .int (mnf x (fun p => decide (cr p = some c)) 1073741823 i)), (4, .int (nI (i + 1)))]) F (nI (i + 1)) dX0_leastOf_40 rfl (nI_add i 1) (by decide) rfl ?_
      refine g_goto F 6 dX0_leastOf_43 (by decide) ?_
      rw [mnf_n (x := x) (s := (fun p => decide (cr p = some c))) (z := 1073741823) (n := i) (by simp [h])] at ih
      exact ih
    · refine g_iload_n F dX0_leastOf_31 rfl rfl ?_
      refine g_aload_n F dX0_leastOf_32 rfl rfl ?_
      refine g_iload F dX0_leastOf_33 rfl ?_
      refine gX_ld_xs F hi dX0_leastOf_35 ?_
      refine g_mini F dX0_leastOf_36 mM_mini ⟨by decide, Nat.le_of_ble_eq_true rfl, by decide, by decide⟩ ?_
      refine g_istore_n (lv2 := [(0, .ref (a 0)), (1, .ref (a 2)), (2, .int (nI c)), (3, .int (if (x i) < (mnf x (fun p => decide (cr p = some c)) 1073741823 i) then (x i) else (mnf x (fun p => decide (cr p = some c)) 1073741823 i))), (4, .int (nI i))]) F dX0_leastOf_39 rfl (by decide) rfl ?_
      refine g_iinc (lv2 := [(0, .ref (a 0)), (1, .ref (a 2)), (2, .int (nI c)), (3, .int (if (x i) < (mnf x (fun p => decide (cr p = some c)) 1073741823 i) then (x i) else (mnf x (fun p => decide (cr p = some c)) 1073741823 i))), (4, .int (nI (i + 1)))]) F (nI (i + 1)) dX0_leastOf_40 rfl (nI_add i 1) (by decide) rfl ?_
      refine g_goto F 6 dX0_leastOf_43 (by decide) ?_
      rw [mnf_y (x := x) (s := (fun p => decide (cr p = some c))) (z := 1073741823) (n := i) (by simp [h])] at ih
      exact ih
set_option maxHeartbeats 4000000 in
set_option maxRecDepth 100000 in
/-- X0_leastOf -/
theorem cX_leastOf_y {l : Launch} {D : va_G} {t : Ty3} {a : Nat → Nat} {w : Nat → Nat} {x : Nat → Int32} {y : Nat → Int32} {wy : Nat} {re : Nat} {de : Nat} {co : Nat → Bool} {cr : Nat → Option Nat} {cc : Nat} {sr : Nat} {so : Bool} {cf : Nat → Option Nat} {ck : Bool} {ng : Nat → Nat} {nw : Nat → Nat} {cs : Nat → Nat} {se : Nat → Bool} (hb : bdC cr) {c : Nat} (hc : c < 120) : CtI (EE l D t) yX0_leastOf tsX0_leastOf (RM 1 23) [.ref (a 0), .ref (a 3), .int (nI c)] (WX a t w x y wy re de co cr cc sr so cf ck ng nw cs se) 0 0 (fun r u => u = WX a t w x y wy re de co cr cc sr so cf ck ng nw cs se ∧ r = mn1 y (fun p => decide (cr p = some c)) 1073741823) := by
  refine CtI.of (by decide +kernel) rfl (Nat.le_of_ble_eq_true rfl) (fun X F E => ?_)
  show GG (EE l D t) X 0 0 0 [(0, .ref (a 0)), (1, .ref (a 3)), (2, .int (nI c))] [] (WX a t w x y wy re de co cr cc sr so cf ck ng nw cs se)
  refine g_ldc F (1073741823) dX0_leastOf_0 (List.mem_cons_of_mem _ mw3_7) ?_
  refine g_istore_n (lv2 := [(0, .ref (a 0)), (1, .ref (a 3)), (2, .int (nI c)), (3, .int (1073741823))]) F dX0_leastOf_2 rfl (by decide) rfl ?_
  refine g_iconst F (nI 0) dX0_leastOf_3 (by decide) ?_
  refine g_istore (lv2 := [(0, .ref (a 0)), (1, .ref (a 3)), (2, .int (nI c)), (3, .int (1073741823)), (4, .int (nI 0))]) F dX0_leastOf_4 (by decide) rfl ?_
  refine up_loop (P := fun i => GG (EE l D t) X 0 0 6 [(0, .ref (a 0)), (1, .ref (a 3)), (2, .int (nI c)), (3, .int (mnf y (fun p => decide (cr p = some c)) 1073741823 i)), (4, .int (nI i))] [] (WX a t w x y wy re de co cr cc sr so cf ck ng nw cs se)) 120 ?_ (fun i hi ih => ?_)
  · show GG (EE l D t) X 0 0 6 [(0, .ref (a 0)), (1, .ref (a 3)), (2, .int (nI c)), (3, .int (mnf y (fun p => decide (cr p = some c)) 1073741823 120)), (4, .int (nI 120))] [] (WX a t w x y wy re de co cr cc sr so cf ck ng nw cs se)
    refine g_iload F dX0_leastOf_6 rfl ?_
    refine g_bipush F (nI 120) dX0_leastOf_8 (by decide) ?_
    refine g_icmp_ge_t F 46 dX0_leastOf_10 (by decide) (nI_le (Nat.le_refl 120) (by decide)) ?_
    refine g_iload_n F dX0_leastOf_46 rfl rfl ?_
    exact E _ _ _ _ dX0_leastOf_47 ⟨rfl, by rw [mn1_eq]⟩
  · show GG (EE l D t) X 0 0 6 [(0, .ref (a 0)), (1, .ref (a 3)), (2, .int (nI c)), (3, .int (mnf y (fun p => decide (cr p = some c)) 1073741823 i)), (4, .int (nI i))] [] (WX a t w x y wy re de co cr cc sr so cf ck ng nw cs se)
    refine g_iload F dX0_leastOf_6 rfl ?_
    refine g_bipush F (nI 120) dX0_leastOf_8 (by decide) ?_
    refine g_icmp_ge_f F 46 dX0_leastOf_10 (by decide) (nI_ge hi (by decide)) ?_
    refine g_iload F dX0_leastOf_13 rfl ?_
    refine g_aload_n F dX0_leastOf_15 rfl rfl ?_
    refine g_alen F 3 0 (x := (120, .inl y)) rfl rfl dX0_leastOf_16 ?_
    show GG (EE l D t) X 0 0 17 [(0, .ref (a 0)), (1, .ref (a 3)), (2, .int (nI c)), (3, .int (mnf y (fun p => decide (cr p = some c)) 1073741823 i)), (4, .int (nI i))] [.int (nI 120), .int (nI i)] (WX a t w x y wy re de co cr cc sr so cf ck ng nw cs se)
    refine g_icmp_ge_f F 46 dX0_leastOf_17 (by decide) (nI_ge hi (by decide)) ?_
    refine g_aload_n F dX0_leastOf_20 rfl rfl ?_
    refine gX_get_crowdOf F dX0_leastOf_21 ?_
    refine g_iload F dX0_leastOf_24 rfl ?_
    refine gX_ld_crowdOf F hi dX0_leastOf_26 ?_
    refine g_iload_n F dX0_leastOf_27 rfl rfl ?_
    refine g_icmp_ne_on F 40 dX0_leastOf_28 (by decide) (bd31 hb i) (by omega) (fun h => ?_) (fun h => ?_)
    · refine g_iinc (lv2 := [(0, .ref (a 0)), (1, .ref (a 3)), (2, .int (nI c)), (3, .int (mnf y (fun p => decide (cr p = some c)) 1073741823 i)), (4, .int (nI (i + 1)))]) F (nI (i + 1)) dX0_leastOf_40 rfl (nI_add i 1) (by decide) rfl ?_
      refine g_goto F 6 dX0_leastOf_43 (by decide) ?_
      rw [mnf_n (x := y) (s := (fun p => decide (cr p = some c))) (z := 1073741823) (n := i) (by simp [h])] at ih
      exact ih
    · refine g_iload_n F dX0_leastOf_31 rfl rfl ?_
      refine g_aload_n F dX0_leastOf_32 rfl rfl ?_
      refine g_iload F dX0_leastOf_33 rfl ?_
      refine gX_ld_ys F hi dX0_leastOf_35 ?_
      refine g_mini F dX0_leastOf_36 mM_mini ⟨by decide, Nat.le_of_ble_eq_true rfl, by decide, by decide⟩ ?_
      refine g_istore_n (lv2 := [(0, .ref (a 0)), (1, .ref (a 3)), (2, .int (nI c)), (3, .int (if (y i) < (mnf y (fun p => decide (cr p = some c)) 1073741823 i) then (y i) else (mnf y (fun p => decide (cr p = some c)) 1073741823 i))), (4, .int (nI i))]) F dX0_leastOf_39 rfl (by decide) rfl ?_
      refine g_iinc (lv2 := [(0, .ref (a 0)), (1, .ref (a 3)), (2, .int (nI c)), (3, .int (if (y i) < (mnf y (fun p => decide (cr p = some c)) 1073741823 i) then (y i) else (mnf y (fun p => decide (cr p = some c)) 1073741823 i))), (4, .int (nI (i + 1)))]) F (nI (i + 1)) dX0_leastOf_40 rfl (nI_add i 1) (by decide) rfl ?_
      refine g_goto F 6 dX0_leastOf_43 (by decide) ?_
      rw [mnf_y (x := y) (s := (fun p => decide (cr p = some c))) (z := 1073741823) (n := i) (by simp [h])] at ih
      exact ih
set_option maxHeartbeats 4000000 in
set_option maxRecDepth 100000 in
/-- X0_greatestOf -/
theorem cX_greatestOf_x {l : Launch} {D : va_G} {t : Ty3} {a : Nat → Nat} {w : Nat → Nat} {x : Nat → Int32} {y : Nat → Int32} {wy : Nat} {re : Nat} {de : Nat} {co : Nat → Bool} {cr : Nat → Option Nat} {cc : Nat} {sr : Nat} {so : Bool} {cf : Nat → Option Nat} {ck : Bool} {ng : Nat → Nat} {nw : Nat → Nat} {cs : Nat → Nat} {se : Nat → Bool} (hb : bdC cr) {c : Nat} (hc : c < 120) : CtI (EE l D t) yX0_greatestOf tsX0_greatestOf (RM 1 23) [.ref (a 0), .ref (a 2), .int (nI c)] (WX a t w x y wy re de co cr cc sr so cf ck ng nw cs se) 0 0 (fun r u => u = WX a t w x y wy re de co cr cc sr so cf ck ng nw cs se ∧ r = mx1 x (fun p => decide (cr p = some c)) (-1073741823)) := by
  refine CtI.of (by decide +kernel) rfl (Nat.le_of_ble_eq_true rfl) (fun X F E => ?_)
  show GG (EE l D t) X 0 0 0 [(0, .ref (a 0)), (1, .ref (a 2)), (2, .int (nI c))] [] (WX a t w x y wy re de co cr cc sr so cf ck ng nw cs se)
  refine g_ldc F (-1073741823) dX0_greatestOf_0 (List.mem_cons_of_mem _ mw3_6) ?_
  refine g_istore_n (lv2 := [(0, .ref (a 0)), (1, .ref (a 2)), (2, .int (nI c)), (3, .int (-1073741823))]) F dX0_greatestOf_2 rfl (by decide) rfl ?_
  refine g_iconst F (nI 0) dX0_greatestOf_3 (by decide) ?_
  refine g_istore (lv2 := [(0, .ref (a 0)), (1, .ref (a 2)), (2, .int (nI c)), (3, .int (-1073741823)), (4, .int (nI 0))]) F dX0_greatestOf_4 (by decide) rfl ?_
  refine up_loop (P := fun i => GG (EE l D t) X 0 0 6 [(0, .ref (a 0)), (1, .ref (a 2)), (2, .int (nI c)), (3, .int (mxf x (fun p => decide (cr p = some c)) (-1073741823) i)), (4, .int (nI i))] [] (WX a t w x y wy re de co cr cc sr so cf ck ng nw cs se)) 120 ?_ (fun i hi ih => ?_)
  · show GG (EE l D t) X 0 0 6 [(0, .ref (a 0)), (1, .ref (a 2)), (2, .int (nI c)), (3, .int (mxf x (fun p => decide (cr p = some c)) (-1073741823) 120)), (4, .int (nI 120))] [] (WX a t w x y wy re de co cr cc sr so cf ck ng nw cs se)
    refine g_iload F dX0_greatestOf_6 rfl ?_
    refine g_bipush F (nI 120) dX0_greatestOf_8 (by decide) ?_
    refine g_icmp_ge_t F 46 dX0_greatestOf_10 (by decide) (nI_le (Nat.le_refl 120) (by decide)) ?_
    refine g_iload_n F dX0_greatestOf_46 rfl rfl ?_
    exact E _ _ _ _ dX0_greatestOf_47 ⟨rfl, by rw [mx1_eq]⟩
  · show GG (EE l D t) X 0 0 6 [(0, .ref (a 0)), (1, .ref (a 2)), (2, .int (nI c)), (3, .int (mxf x (fun p => decide (cr p = some c)) (-1073741823) i)), (4, .int (nI i))] [] (WX a t w x y wy re de co cr cc sr so cf ck ng nw cs se)
    refine g_iload F dX0_greatestOf_6 rfl ?_
    refine g_bipush F (nI 120) dX0_greatestOf_8 (by decide) ?_
    refine g_icmp_ge_f F 46 dX0_greatestOf_10 (by decide) (nI_ge hi (by decide)) ?_
    refine g_iload F dX0_greatestOf_13 rfl ?_
    refine g_aload_n F dX0_greatestOf_15 rfl rfl ?_
    refine g_alen F 2 0 (x := (120, .inl x)) rfl rfl dX0_greatestOf_16 ?_
    show GG (EE l D t) X 0 0 17 [(0, .ref (a 0)), (1, .ref (a 2)), (2, .int (nI c)), (3, .int (mxf x (fun p => decide (cr p = some c)) (-1073741823) i)), (4, .int (nI i))] [.int (nI 120), .int (nI i)] (WX a t w x y wy re de co cr cc sr so cf ck ng nw cs se)
    refine g_icmp_ge_f F 46 dX0_greatestOf_17 (by decide) (nI_ge hi (by decide)) ?_
    refine g_aload_n F dX0_greatestOf_20 rfl rfl ?_
    refine gX_get_crowdOf F dX0_greatestOf_21 ?_
    refine g_iload F dX0_greatestOf_24 rfl ?_
    refine gX_ld_crowdOf F hi dX0_greatestOf_26 ?_
    refine g_iload_n F dX0_greatestOf_27 rfl rfl ?_
    refine g_icmp_ne_on F 40 dX0_greatestOf_28 (by decide) (bd31 hb i) (by omega) (fun h => ?_) (fun h => ?_)
    · refine g_iinc (lv2 := [(0, .ref (a 0)), (1, .ref (a 2)), (2, .int (nI c)), (3, .int (mxf x (fun p => decide (cr p = some c)) (-1073741823) i)), (4, .int (nI (i + 1)))]) F (nI (i + 1)) dX0_greatestOf_40 rfl (nI_add i 1) (by decide) rfl ?_
      refine g_goto F 6 dX0_greatestOf_43 (by decide) ?_
      rw [mxf_n (x := x) (s := (fun p => decide (cr p = some c))) (z := (-1073741823)) (n := i) (by simp [h])] at ih
      exact ih
    · refine g_iload_n F dX0_greatestOf_31 rfl rfl ?_
      refine g_aload_n F dX0_greatestOf_32 rfl rfl ?_
      refine g_iload F dX0_greatestOf_33 rfl ?_
      refine gX_ld_xs F hi dX0_greatestOf_35 ?_
      refine g_maxi F dX0_greatestOf_36 mM_maxi ⟨by decide, Nat.le_of_ble_eq_true rfl, by decide, by decide⟩ ?_
      refine g_istore_n (lv2 := [(0, .ref (a 0)), (1, .ref (a 2)), (2, .int (nI c)), (3, .int (if (mxf x (fun p => decide (cr p = some c)) (-1073741823) i) < (x i) then (x i) else (mxf x (fun p => decide (cr p = some c)) (-1073741823) i))), (4, .int (nI i))]) F dX0_greatestOf_39 rfl (by decide) rfl ?_
      refine g_iinc (lv2 := [(0, .ref (a 0)), (1, .ref (a 2)), (2, .int (nI c)), (3, .int (if (mxf x (fun p => decide (cr p = some c)) (-1073741823) i) < (x i) then (x i) else (mxf x (fun p => decide (cr p = some c)) (-1073741823) i))), (4, .int (nI (i + 1)))]) F (nI (i + 1)) dX0_greatestOf_40 rfl (nI_add i 1) (by decide) rfl ?_
      refine g_goto F 6 dX0_greatestOf_43 (by decide) ?_
      rw [mxf_y (x := x) (s := (fun p => decide (cr p = some c))) (z := (-1073741823)) (n := i) (by simp [h])] at ih
      exact ih
set_option maxHeartbeats 4000000 in
set_option maxRecDepth 100000 in
/-- X0_greatestOf -/
theorem cX_greatestOf_y {l : Launch} {D : va_G} {t : Ty3} {a : Nat → Nat} {w : Nat → Nat} {x : Nat → Int32} {y : Nat → Int32} {wy : Nat} {re : Nat} {de : Nat} {co : Nat → Bool} {cr : Nat → Option Nat} {cc : Nat} {sr : Nat} {so : Bool} {cf : Nat → Option Nat} {ck : Bool} {ng : Nat → Nat} {nw : Nat → Nat} {cs : Nat → Nat} {se : Nat → Bool} (hb : bdC cr) {c : Nat} (hc : c < 120) : CtI (EE l D t) yX0_greatestOf tsX0_greatestOf (RM 1 23) [.ref (a 0), .ref (a 3), .int (nI c)] (WX a t w x y wy re de co cr cc sr so cf ck ng nw cs se) 0 0 (fun r u => u = WX a t w x y wy re de co cr cc sr so cf ck ng nw cs se ∧ r = mx1 y (fun p => decide (cr p = some c)) (-1073741823)) := by
  refine CtI.of (by decide +kernel) rfl (Nat.le_of_ble_eq_true rfl) (fun X F E => ?_)
  show GG (EE l D t) X 0 0 0 [(0, .ref (a 0)), (1, .ref (a 3)), (2, .int (nI c))] [] (WX a t w x y wy re de co cr cc sr so cf ck ng nw cs se)
  refine g_ldc F (-1073741823) dX0_greatestOf_0 (List.mem_cons_of_mem _ mw3_6) ?_
  refine g_istore_n (lv2 := [(0, .ref (a 0)), (1, .ref (a 3)), (2, .int (nI c)), (3, .int (-1073741823))]) F dX0_greatestOf_2 rfl (by decide) rfl ?_
  refine g_iconst F (nI 0) dX0_greatestOf_3 (by decide) ?_
  refine g_istore (lv2 := [(0, .ref (a 0)), (1, .ref (a 3)), (2, .int (nI c)), (3, .int (-1073741823)), (4, .int (nI 0))]) F dX0_greatestOf_4 (by decide) rfl ?_
  refine up_loop (P := fun i => GG (EE l D t) X 0 0 6 [(0, .ref (a 0)), (1, .ref (a 3)), (2, .int (nI c)), (3, .int (mxf y (fun p => decide (cr p = some c)) (-1073741823) i)), (4, .int (nI i))] [] (WX a t w x y wy re de co cr cc sr so cf ck ng nw cs se)) 120 ?_ (fun i hi ih => ?_)
  · show GG (EE l D t) X 0 0 6 [(0, .ref (a 0)), (1, .ref (a 3)), (2, .int (nI c)), (3, .int (mxf y (fun p => decide (cr p = some c)) (-1073741823) 120)), (4, .int (nI 120))] [] (WX a t w x y wy re de co cr cc sr so cf ck ng nw cs se)
    refine g_iload F dX0_greatestOf_6 rfl ?_
    refine g_bipush F (nI 120) dX0_greatestOf_8 (by decide) ?_
    refine g_icmp_ge_t F 46 dX0_greatestOf_10 (by decide) (nI_le (Nat.le_refl 120) (by decide)) ?_
    refine g_iload_n F dX0_greatestOf_46 rfl rfl ?_
    exact E _ _ _ _ dX0_greatestOf_47 ⟨rfl, by rw [mx1_eq]⟩
  · show GG (EE l D t) X 0 0 6 [(0, .ref (a 0)), (1, .ref (a 3)), (2, .int (nI c)), (3, .int (mxf y (fun p => decide (cr p = some c)) (-1073741823) i)), (4, .int (nI i))] [] (WX a t w x y wy re de co cr cc sr so cf ck ng nw cs se)
    refine g_iload F dX0_greatestOf_6 rfl ?_
    refine g_bipush F (nI 120) dX0_greatestOf_8 (by decide) ?_
    refine g_icmp_ge_f F 46 dX0_greatestOf_10 (by decide) (nI_ge hi (by decide)) ?_
    refine g_iload F dX0_greatestOf_13 rfl ?_
    refine g_aload_n F dX0_greatestOf_15 rfl rfl ?_
    refine g_alen F 3 0 (x := (120, .inl y)) rfl rfl dX0_greatestOf_16 ?_
    show GG (EE l D t) X 0 0 17 [(0, .ref (a 0)), (1, .ref (a 3)), (2, .int (nI c)), (3, .int (mxf y (fun p => decide (cr p = some c)) (-1073741823) i)), (4, .int (nI i))] [.int (nI 120), .int (nI i)] (WX a t w x y wy re de co cr cc sr so cf ck ng nw cs se)
    refine g_icmp_ge_f F 46 dX0_greatestOf_17 (by decide) (nI_ge hi (by decide)) ?_
    refine g_aload_n F dX0_greatestOf_20 rfl rfl ?_
    refine gX_get_crowdOf F dX0_greatestOf_21 ?_
    refine g_iload F dX0_greatestOf_24 rfl ?_
    refine gX_ld_crowdOf F hi dX0_greatestOf_26 ?_
    refine g_iload_n F dX0_greatestOf_27 rfl rfl ?_
    refine g_icmp_ne_on F 40 dX0_greatestOf_28 (by decide) (bd31 hb i) (by omega) (fun h => ?_) (fun h => ?_)
    · refine g_iinc (lv2 := [(0, .ref (a 0)), (1, .ref (a 3)), (2, .int (nI c)), (3, .int (mxf y (fun p => decide (cr p = some c)) (-1073741823) i)), (4, .int (nI (i + 1)))]) F (nI (i + 1)) dX0_greatestOf_40 rfl (nI_add i 1) (by decide) rfl ?_
      refine g_goto F 6 dX0_greatestOf_43 (by decide) ?_
      rw [mxf_n (x := y) (s := (fun p => decide (cr p = some c))) (z := (-1073741823)) (n := i) (by simp [h])] at ih
      exact ih
    · refine g_iload_n F dX0_greatestOf_31 rfl rfl ?_
      refine g_aload_n F dX0_greatestOf_32 rfl rfl ?_
      refine g_iload F dX0_greatestOf_33 rfl ?_
      refine gX_ld_ys F hi dX0_greatestOf_35 ?_
      refine g_maxi F dX0_greatestOf_36 mM_maxi ⟨by decide, Nat.le_of_ble_eq_true rfl, by decide, by decide⟩ ?_
      refine g_istore_n (lv2 := [(0, .ref (a 0)), (1, .ref (a 3)), (2, .int (nI c)), (3, .int (if (mxf y (fun p => decide (cr p = some c)) (-1073741823) i) < (y i) then (y i) else (mxf y (fun p => decide (cr p = some c)) (-1073741823) i))), (4, .int (nI i))]) F dX0_greatestOf_39 rfl (by decide) rfl ?_
      refine g_iinc (lv2 := [(0, .ref (a 0)), (1, .ref (a 3)), (2, .int (nI c)), (3, .int (if (mxf y (fun p => decide (cr p = some c)) (-1073741823) i) < (y i) then (y i) else (mxf y (fun p => decide (cr p = some c)) (-1073741823) i))), (4, .int (nI (i + 1)))]) F (nI (i + 1)) dX0_greatestOf_40 rfl (nI_add i 1) (by decide) rfl ?_
      refine g_goto F 6 dX0_greatestOf_43 (by decide) ?_
      rw [mxf_y (x := y) (s := (fun p => decide (cr p = some c))) (z := (-1073741823)) (n := i) (by simp [h])] at ih
      exact ih
set_option maxHeartbeats 4000000 in
set_option maxRecDepth 100000 in
/-- standsRight -/
theorem cX_standsRight {l : Launch} {D : va_G} {t : Ty3} {a : Nat → Nat} {w : Nat → Nat} {x : Nat → Int32} {y : Nat → Int32} {wy : Nat} {re : Nat} {de : Nat} {co : Nat → Bool} {cr : Nat → Option Nat} {cc : Nat} {sr : Nat} {so : Bool} {cf : Nat → Option Nat} {ck : Bool} {ng : Nat → Nat} {nw : Nat → Nat} {cs : Nat → Nat} {se : Nat → Bool} (hf : WFp w x y wy re de) (hs : Srt w x y wy de re co cr cc) {p : Nat} (hp : p < 120) (hc : co p = true) : CtI (EE l D t) yX0_standsRight tsX0_standsRight (RM 3 72) [.ref (a 0), .int (nI p)] (WX a t w x y wy re de co cr cc sr so cf ck ng nw cs se) 0 0 (fun r u => u = WX a t w x y wy re de co cr cc sr so cf ck ng nw cs se ∧ r = b2 true) := by
  refine CtZ.of (by decide +kernel) rfl (Nat.le_of_ble_eq_true rfl) (fun v u h => by obtain ⟨_, rfl⟩ := h; exact narrow_b2 _) (fun X F E => ?_)
  show GG (EE l D t) X 0 0 0 [(0, .ref (a 0)), (1, .int (nI p))] [] (WX a t w x y wy re de co cr cc sr so cf ck ng nw cs se)
  refine g_iconst F (b2 false) dX0_standsRight_0 (by decide) ?_
  refine g_istore_n (lv2 := [(0, .ref (a 0)), (1, .int (nI p)), (2, .int (b2 false))]) F dX0_standsRight_1 rfl (by decide) rfl ?_
  refine g_iconst F (b2 false) dX0_standsRight_2 (by decide) ?_
  refine g_istore_n (lv2 := [(0, .ref (a 0)), (1, .int (nI p)), (2, .int (b2 false)), (3, .int (b2 false))]) F dX0_standsRight_3 rfl (by decide) rfl ?_
  refine g_iconst F (nI 0) dX0_standsRight_4 (by decide) ?_
  refine g_istore (lv2 := [(0, .ref (a 0)), (1, .int (nI p)), (2, .int (b2 false)), (3, .int (b2 false)), (4, .int (nI 0))]) F dX0_standsRight_5 (by decide) rfl ?_
  refine up_loop (P := fun i => GG (EE l D t) X 0 0 7 [(0, .ref (a 0)), (1, .int (nI p)), (2, .int (b2 (anyN (fun q => decide (q ≠ p) && (co q && decide (cr q = cr p))) i))), (3, .int (b2 (anyN (fun q => decide (q ≠ p) && (co q && (decide (cr q = cr p) && decide (gp wy x y p q ≤ re)))) i))), (4, .int (nI i))] [] (WX a t w x y wy re de co cr cc sr so cf ck ng nw cs se)) 120 ?_ (fun i hi ih => ?_)
  · show GG (EE l D t) X 0 0 7 [(0, .ref (a 0)), (1, .int (nI p)), (2, .int (b2 (anyN (fun q => decide (q ≠ p) && (co q && decide (cr q = cr p))) 120))), (3, .int (b2 (anyN (fun q => decide (q ≠ p) && (co q && (decide (cr q = cr p) && decide (gp wy x y p q ≤ re)))) 120))), (4, .int (nI 120))] [] (WX a t w x y wy re de co cr cc sr so cf ck ng nw cs se)
    refine g_iload F dX0_standsRight_7 rfl ?_
    refine g_bipush F (nI 120) dX0_standsRight_9 (by decide) ?_
    refine g_icmp_ge_t F 104 dX0_standsRight_11 (by decide) (nI_le (Nat.le_refl 120) (by decide)) ?_
    refine g_iload_n F dX0_standsRight_104 rfl rfl ?_
    refine g_if_ne_b F 112 dX0_standsRight_105 (by decide)  (fun h => ?_) (fun h => ?_)
    · refine g_iconst F (b2 true) dX0_standsRight_112 (by decide) ?_
      refine g_goto F 117 dX0_standsRight_113 (by decide) ?_
      exact E _ _ _ _ dX0_standsRight_117 ⟨rfl, rfl⟩
    · refine g_iload_n F dX0_standsRight_108 rfl rfl ?_
      refine g_if_ne_b F 116 dX0_standsRight_109 (by decide)  (fun h2 => ?_) (fun h2 => ?_)
      · exfalso
        obtain ⟨q, q1, q2⟩ := anyN_ex h2
        simp only [Bool.and_eq_true, decide_eq_true_eq] at q2
        obtain ⟨z, z1, z2, z3, z4, z5⟩ := hs.more hp q1 hc q2.2.1 q2.2.2 q2.1
        rw [anyN_of (s := (fun q => decide (q ≠ p) && (co q && (decide (cr q = cr p) && decide (gp wy x y p q ≤ re))))) (j := z) (by simp [z2, z3, z4, z5]) z1] at h
        cases h
      · refine g_iconst F (b2 true) dX0_standsRight_112 (by decide) ?_
        refine g_goto F 117 dX0_standsRight_113 (by decide) ?_
        exact E _ _ _ _ dX0_standsRight_117 ⟨rfl, rfl⟩
  · show GG (EE l D t) X 0 0 7 [(0, .ref (a 0)), (1, .int (nI p)), (2, .int (b2 (anyN (fun q => decide (q ≠ p) && (co q && decide (cr q = cr p))) i))), (3, .int (b2 (anyN (fun q => decide (q ≠ p) && (co q && (decide (cr q = cr p) && decide (gp wy x y p q ≤ re)))) i))), (4, .int (nI i))] [] (WX a t w x y wy re de co cr cc sr so cf ck ng nw cs se)
    refine g_iload F dX0_standsRight_7 rfl ?_
    refine g_bipush F (nI 120) dX0_standsRight_9 (by decide) ?_
    refine g_icmp_ge_f F 104 dX0_standsRight_11 (by decide) (nI_ge hi (by decide)) ?_
    refine g_iload F dX0_standsRight_14 rfl ?_
    refine g_iload_n F dX0_standsRight_16 rfl rfl ?_
    refine g_icmp_eq_n F 98 dX0_standsRight_17 (by decide) (by omega) (by omega) (fun h => ?_) (fun h => ?_)
    · refine g_iinc (lv2 := [(0, .ref (a 0)), (1, .int (nI p)), (2, .int (b2 (anyN (fun q => decide (q ≠ p) && (co q && decide (cr q = cr p))) i))), (3, .int (b2 (anyN (fun q => decide (q ≠ p) && (co q && (decide (cr q = cr p) && decide (gp wy x y p q ≤ re)))) i))), (4, .int (nI (i + 1)))]) F (nI (i + 1)) dX0_standsRight_98 rfl (nI_add i 1) (by decide) rfl ?_
      refine g_goto F 7 dX0_standsRight_101 (by decide) ?_
      rw [anyN_f (s := (fun q => decide (q ≠ p) && (co q && decide (cr q = cr p)))) (n := i) (by simp [h]), anyN_f (s := (fun q => decide (q ≠ p) && (co q && (decide (cr q = cr p) && decide (gp wy x y p q ≤ re))))) (n := i) (by simp [h])] at ih
      exact ih
    · refine g_aload_n F dX0_standsRight_20 rfl rfl ?_
      refine gX_get_core F dX0_standsRight_21 ?_
      refine g_iload F dX0_standsRight_24 rfl ?_
      refine gX_ld_core F hi dX0_standsRight_26 ?_
      refine g_if_ne_b F 33 dX0_standsRight_27 (by decide)  (fun h2 => ?_) (fun h2 => ?_)
      · refine g_aload_n F dX0_standsRight_33 rfl rfl ?_
        refine g_iload_n F dX0_standsRight_34 rfl rfl ?_
        refine g_iload F dX0_standsRight_35 rfl ?_
        refine c_VL F [] (wr := []) (cX_gapBetween hf.2.2.2.1 hp hi) cwX0_X0_gapBetween ⟨by decide, by decide, rfl, rfl⟩ rfl rfl rfl rfl (Nat.le_of_ble_eq_true rfl) ⟨by decide, by decide⟩ dX0_standsRight_37 (fun r u hu => ?_)
        obtain ⟨rfl, rfl⟩ := hu
        show GG (EE l D t) X 0 0 40 [(0, .ref (a 0)), (1, .int (nI p)), (2, .int (b2 (anyN (fun q => decide (q ≠ p) && (co q && decide (cr q = cr p))) i))), (3, .int (b2 (anyN (fun q => decide (q ≠ p) && (co q && (decide (cr q = cr p) && decide (gp wy x y p q ≤ re)))) i))), (4, .int (nI i))] [.long (lN (gp wy x y p i))] (WX a t w x y wy re de co cr cc sr so cf ck ng nw cs se)
        refine g_aload_n F dX0_standsRight_40 rfl rfl ?_
        refine gX_get_reachNow F dX0_standsRight_41 ?_
        refine g_lc_gt_n F 52 dX0_standsRight_44 dX0_standsRight_45 (by decide) (Nat.lt_of_lt_of_le (gp_lt hf p i) (by decide)) hf.2.2.2.2.1 (fun h3 => ?_) (fun h3 => ?_)
        · refine g_iconst F (b2 false) dX0_standsRight_52 (by decide) ?_
          refine g_istore (lv2 := [(0, .ref (a 0)), (1, .int (nI p)), (2, .int (b2 (anyN (fun q => decide (q ≠ p) && (co q && decide (cr q = cr p))) i))), (3, .int (b2 (anyN (fun q => decide (q ≠ p) && (co q && (decide (cr q = cr p) && decide (gp wy x y p q ≤ re)))) i))), (4, .int (nI i)), (5, .int (b2 false))]) F dX0_standsRight_53 (by decide) rfl ?_
          refine g_aload_n F dX0_standsRight_55 rfl rfl ?_
          refine gX_get_crowdOf F dX0_standsRight_56 ?_
          refine g_iload F dX0_standsRight_59 rfl ?_
          refine gX_ld_crowdOf F hi dX0_standsRight_61 ?_
          refine g_aload_n F dX0_standsRight_62 rfl rfl ?_
          refine gX_get_crowdOf F dX0_standsRight_63 ?_
          refine g_iload_n F dX0_standsRight_66 rfl rfl ?_
          refine gX_ld_crowdOf F hp dX0_standsRight_67 ?_
          refine g_icmp_ne_oo F 91 dX0_standsRight_68 (by decide) (hs.bd31 hi) (hs.bd31 hp) (fun h4 => ?_) (fun h4 => ?_)
          · refine g_iload F dX0_standsRight_91 rfl ?_
            refine g_if_eq_b F 98 dX0_standsRight_93 (by decide)  (fun h5 => ?_) (fun h5 => ?_)
            · refine g_iinc (lv2 := [(0, .ref (a 0)), (1, .int (nI p)), (2, .int (b2 (anyN (fun q => decide (q ≠ p) && (co q && decide (cr q = cr p))) i))), (3, .int (b2 (anyN (fun q => decide (q ≠ p) && (co q && (decide (cr q = cr p) && decide (gp wy x y p q ≤ re)))) i))), (4, .int (nI (i + 1))), (5, .int (b2 false))]) F (nI (i + 1)) dX0_standsRight_98 rfl (nI_add i 1) (by decide) rfl ?_
              refine g_goto F 7 dX0_standsRight_101 (by decide) ?_
              refine g_lv [0, 1, 2, 3, 4] rfl ?_
              rw [anyN_f (s := (fun q => decide (q ≠ p) && (co q && decide (cr q = cr p)))) (n := i) (by simp [h4]), anyN_f (s := (fun q => decide (q ≠ p) && (co q && (decide (cr q = cr p) && decide (gp wy x y p q ≤ re))))) (n := i) (by simp [h4])] at ih
              exact ih
            · cases h5
          · refine g_iconst F (b2 true) dX0_standsRight_71 (by decide) ?_
            refine g_istore_n (lv2 := [(0, .ref (a 0)), (1, .int (nI p)), (2, .int (b2 true)), (3, .int (b2 (anyN (fun q => decide (q ≠ p) && (co q && (decide (cr q = cr p) && decide (gp wy x y p q ≤ re)))) i))), (4, .int (nI i)), (5, .int (b2 false))]) F dX0_standsRight_72 rfl (by decide) rfl ?_
            refine g_iload_n F dX0_standsRight_73 rfl rfl ?_
            refine g_if_ne_b F 82 dX0_standsRight_74 (by decide)  (fun h5 => ?_) (fun h5 => ?_)
            · refine g_iconst F (b2 true) dX0_standsRight_82 (by decide) ?_
              refine g_goto F 87 dX0_standsRight_83 (by decide) ?_
              refine g_istore_n (lv2 := [(0, .ref (a 0)), (1, .int (nI p)), (2, .int (b2 true)), (3, .int (b2 true)), (4, .int (nI i)), (5, .int (b2 false))]) F dX0_standsRight_87 rfl (by decide) rfl ?_
              refine g_goto F 98 dX0_standsRight_88 (by decide) ?_
              refine g_iinc (lv2 := [(0, .ref (a 0)), (1, .int (nI p)), (2, .int (b2 true)), (3, .int (b2 true)), (4, .int (nI (i + 1))), (5, .int (b2 false))]) F (nI (i + 1)) dX0_standsRight_98 rfl (nI_add i 1) (by decide) rfl ?_
              refine g_goto F 7 dX0_standsRight_101 (by decide) ?_
              refine g_lv [0, 1, 2, 3, 4] rfl ?_
              rw [anyN_t (s := (fun q => decide (q ≠ p) && (co q && decide (cr q = cr p)))) (n := i) (by simp [h, h2, h4]), anyN_k (s := (fun q => decide (q ≠ p) && (co q && (decide (cr q = cr p) && decide (gp wy x y p q ≤ re))))) (n := i) h5] at ih
              exact ih
            · refine g_iload F dX0_standsRight_77 rfl ?_
              refine g_if_eq_b F 86 dX0_standsRight_79 (by decide)  (fun h6 => ?_) (fun h6 => ?_)
              · refine g_iconst F (b2 false) dX0_standsRight_86 (by decide) ?_
                refine g_istore_n (lv2 := [(0, .ref (a 0)), (1, .int (nI p)), (2, .int (b2 true)), (3, .int (b2 false)), (4, .int (nI i)), (5, .int (b2 false))]) F dX0_standsRight_87 rfl (by decide) rfl ?_
                refine g_goto F 98 dX0_standsRight_88 (by decide) ?_
                refine g_iinc (lv2 := [(0, .ref (a 0)), (1, .int (nI p)), (2, .int (b2 true)), (3, .int (b2 false)), (4, .int (nI (i + 1))), (5, .int (b2 false))]) F (nI (i + 1)) dX0_standsRight_98 rfl (nI_add i 1) (by decide) rfl ?_
                refine g_goto F 7 dX0_standsRight_101 (by decide) ?_
                refine g_lv [0, 1, 2, 3, 4] rfl ?_
                rw [anyN_t (s := (fun q => decide (q ≠ p) && (co q && decide (cr q = cr p)))) (n := i) (by simp [h, h2, h4]), anyN_f (s := (fun q => decide (q ≠ p) && (co q && (decide (cr q = cr p) && decide (gp wy x y p q ≤ re))))) (n := i) (by simp; omega), h5] at ih
                exact ih
              · cases h6
        · refine g_iconst F (b2 true) dX0_standsRight_48 (by decide) ?_
          refine g_goto F 53 dX0_standsRight_49 (by decide) ?_
          refine g_istore (lv2 := [(0, .ref (a 0)), (1, .int (nI p)), (2, .int (b2 (anyN (fun q => decide (q ≠ p) && (co q && decide (cr q = cr p))) i))), (3, .int (b2 (anyN (fun q => decide (q ≠ p) && (co q && (decide (cr q = cr p) && decide (gp wy x y p q ≤ re)))) i))), (4, .int (nI i)), (5, .int (b2 true))]) F dX0_standsRight_53 (by decide) rfl ?_
          refine g_aload_n F dX0_standsRight_55 rfl rfl ?_
          refine gX_get_crowdOf F dX0_standsRight_56 ?_
          refine g_iload F dX0_standsRight_59 rfl ?_
          refine gX_ld_crowdOf F hi dX0_standsRight_61 ?_
          refine g_aload_n F dX0_standsRight_62 rfl rfl ?_
          refine gX_get_crowdOf F dX0_standsRight_63 ?_
          refine g_iload_n F dX0_standsRight_66 rfl rfl ?_
          refine gX_ld_crowdOf F hp dX0_standsRight_67 ?_
          refine g_icmp_ne_oo F 91 dX0_standsRight_68 (by decide) (hs.bd31 hi) (hs.bd31 hp) (fun h4 => ?_) (fun h4 => ?_)
          · refine g_iload F dX0_standsRight_91 rfl ?_
            refine g_if_eq_b F 98 dX0_standsRight_93 (by decide)  (fun h5 => ?_) (fun h5 => ?_)
            · cases h5
            · exact absurd (hs.same hp hi hc h2 h3).symm h4
          · refine g_iconst F (b2 true) dX0_standsRight_71 (by decide) ?_
            refine g_istore_n (lv2 := [(0, .ref (a 0)), (1, .int (nI p)), (2, .int (b2 true)), (3, .int (b2 (anyN (fun q => decide (q ≠ p) && (co q && (decide (cr q = cr p) && decide (gp wy x y p q ≤ re)))) i))), (4, .int (nI i)), (5, .int (b2 true))]) F dX0_standsRight_72 rfl (by decide) rfl ?_
            refine g_iload_n F dX0_standsRight_73 rfl rfl ?_
            refine g_if_ne_b F 82 dX0_standsRight_74 (by decide)  (fun h5 => ?_) (fun h5 => ?_)
            · refine g_iconst F (b2 true) dX0_standsRight_82 (by decide) ?_
              refine g_goto F 87 dX0_standsRight_83 (by decide) ?_
              refine g_istore_n (lv2 := [(0, .ref (a 0)), (1, .int (nI p)), (2, .int (b2 true)), (3, .int (b2 true)), (4, .int (nI i)), (5, .int (b2 true))]) F dX0_standsRight_87 rfl (by decide) rfl ?_
              refine g_goto F 98 dX0_standsRight_88 (by decide) ?_
              refine g_iinc (lv2 := [(0, .ref (a 0)), (1, .int (nI p)), (2, .int (b2 true)), (3, .int (b2 true)), (4, .int (nI (i + 1))), (5, .int (b2 true))]) F (nI (i + 1)) dX0_standsRight_98 rfl (nI_add i 1) (by decide) rfl ?_
              refine g_goto F 7 dX0_standsRight_101 (by decide) ?_
              refine g_lv [0, 1, 2, 3, 4] rfl ?_
              rw [anyN_t (s := (fun q => decide (q ≠ p) && (co q && decide (cr q = cr p)))) (n := i) (by simp [h, h2, h4]), anyN_k (s := (fun q => decide (q ≠ p) && (co q && (decide (cr q = cr p) && decide (gp wy x y p q ≤ re))))) (n := i) h5] at ih
              exact ih
            · refine g_iload F dX0_standsRight_77 rfl ?_
              refine g_if_eq_b F 86 dX0_standsRight_79 (by decide)  (fun h6 => ?_) (fun h6 => ?_)
              · cases h6
              · refine g_iconst F (b2 true) dX0_standsRight_82 (by decide) ?_
                refine g_goto F 87 dX0_standsRight_83 (by decide) ?_
                refine g_istore_n (lv2 := [(0, .ref (a 0)), (1, .int (nI p)), (2, .int (b2 true)), (3, .int (b2 true)), (4, .int (nI i)), (5, .int (b2 true))]) F dX0_standsRight_87 rfl (by decide) rfl ?_
                refine g_goto F 98 dX0_standsRight_88 (by decide) ?_
                refine g_iinc (lv2 := [(0, .ref (a 0)), (1, .int (nI p)), (2, .int (b2 true)), (3, .int (b2 true)), (4, .int (nI (i + 1))), (5, .int (b2 true))]) F (nI (i + 1)) dX0_standsRight_98 rfl (nI_add i 1) (by decide) rfl ?_
                refine g_goto F 7 dX0_standsRight_101 (by decide) ?_
                refine g_lv [0, 1, 2, 3, 4] rfl ?_
                rw [anyN_t (s := (fun q => decide (q ≠ p) && (co q && decide (cr q = cr p)))) (n := i) (by simp [h, h2, h4]), anyN_t (s := (fun q => decide (q ≠ p) && (co q && (decide (cr q = cr p) && decide (gp wy x y p q ≤ re))))) (n := i) (by simp [h, h2, h4, h3])] at ih
                exact ih
      · refine g_goto F 98 dX0_standsRight_30 (by decide) ?_
        refine g_iinc (lv2 := [(0, .ref (a 0)), (1, .int (nI p)), (2, .int (b2 (anyN (fun q => decide (q ≠ p) && (co q && decide (cr q = cr p))) i))), (3, .int (b2 (anyN (fun q => decide (q ≠ p) && (co q && (decide (cr q = cr p) && decide (gp wy x y p q ≤ re)))) i))), (4, .int (nI (i + 1)))]) F (nI (i + 1)) dX0_standsRight_98 rfl (nI_add i 1) (by decide) rfl ?_
        refine g_goto F 7 dX0_standsRight_101 (by decide) ?_
        rw [anyN_f (s := (fun q => decide (q ≠ p) && (co q && decide (cr q = cr p)))) (n := i) (by simp [h2]), anyN_f (s := (fun q => decide (q ≠ p) && (co q && (decide (cr q = cr p) && decide (gp wy x y p q ≤ re))))) (n := i) (by simp [h2])] at ih
        exact ih
end
section
set_option maxHeartbeats 4000000 in
set_option maxRecDepth 100000 in
/-- lastGap -/
theorem cX_lastGap {l : Launch} {D : va_G} {t : Ty3} {a : Nat → Nat} {w : Nat → Nat} {x : Nat → Int32} {y : Nat → Int32} {wy : Nat} {re : Nat} {de : Nat} {co : Nat → Bool} {cr : Nat → Option Nat} {cc : Nat} {sr : Nat} {so : Bool} {cf : Nat → Option Nat} {ck : Bool} {ng : Nat → Nat} {nw : Nat → Nat} {cs : Nat → Nat} {se : Nat → Bool} {k : Nat} (hk : 0 < k) (hk2 : k ≤ 120) : CtL (EE l D t) yX0_lastGap tsX0_lastGap (RM 0 0) [.ref (a 0), .int (nI k)] (WX a t w x y wy re de co cr cc sr so cf ck ng nw cs se) 0 0 (fun r u => u = WX a t w x y wy re de co cr cc sr so cf ck ng nw cs se ∧ r = lN (ng (k - 1))) := by
  refine CtL.of (by decide +kernel) rfl (Nat.le_of_ble_eq_true rfl) (fun X F E => ?_)
  show GG (EE l D t) X 0 0 0 [(0, .ref (a 0)), (1, .int (nI k))] [] (WX a t w x y wy re de co cr cc sr so cf ck ng nw cs se)
  refine g_iload_n F dX0_lastGap_0 rfl rfl ?_
  refine g_if_le_f F 15 dX0_lastGap_1 (by decide) (nI_nle (by omega) (by omega)) ?_
  refine g_aload_n F dX0_lastGap_4 rfl rfl ?_
  refine gX_get_nearGap F dX0_lastGap_5 ?_
  refine g_iload_n F dX0_lastGap_8 rfl rfl ?_
  refine g_iconst F (nI 1) dX0_lastGap_9 (by decide) ?_
  refine g_isub_n F dX0_lastGap_10 (show 1 ≤ k from hk) ?_
  refine gX_ld_nearGap F (by omega) dX0_lastGap_11 ?_
  refine g_goto F 18 dX0_lastGap_12 (by decide) ?_
  exact E _ _ _ _ dX0_lastGap_18 ⟨rfl, rfl⟩
set_option maxHeartbeats 4000000 in
set_option maxRecDepth 100000 in
/-- keepNear -/
theorem cX_keepNear {l : Launch} {D : va_G} {t : Ty3} {a : Nat → Nat} {w : Nat → Nat} {x : Nat → Int32} {y : Nat → Int32} {wy : Nat} {re : Nat} {de : Nat} {co : Nat → Bool} {cr : Nat → Option Nat} {cc : Nat} {sr : Nat} {so : Bool} {cf : Nat → Option Nat} {ck : Bool} {ng : Nat → Nat} {nw : Nat → Nat} {cs : Nat → Nat} {se : Nat → Bool} (hb : bdN ng nw) {k gap wt : Nat} (hk : k < 120) (hgap : gap < MX) (hwt : wt ≤ 20) (hs : srtN ng k) : CtI (EE l D t) yX0_keepNear tsX0_keepNear (RM 0 0) [.ref (a 0), .int (nI k), .long (lN gap), .int (nI wt)] (WX a t w x y wy re de co cr cc sr so cf ck ng nw cs se) 0 0 (fun r u => ∃ ng2 nw2, u = WX a t w x y wy re de co cr cc sr so cf ck ng2 nw2 cs se ∧ r = nI (k + 1) ∧ InsR ng nw ng2 nw2 k gap wt ∧ bdN ng2 nw2) := by
  refine CtI.of (by decide +kernel) rfl (Nat.le_of_ble_eq_true rfl) (fun X F E => ?_)
  show GG (EE l D t) X 0 0 0 [(0, .ref (a 0)), (1, .int (nI k)), (2, .long (lN gap)), (4, .int (nI wt))] [] (WX a t w x y wy re de co cr cc sr so cf ck ng nw cs se)
  refine g_iload_n F dX0_keepNear_0 rfl rfl ?_
  refine g_bipush F (nI 120) dX0_keepNear_1 (by decide) ?_
  refine g_icmp_lt_t F 8 dX0_keepNear_3 (by decide) (nI_lt hk (by decide)) ?_
  refine g_iload_n F dX0_keepNear_8 rfl rfl ?_
  refine g_istore (lv2 := [(0, .ref (a 0)), (1, .int (nI k)), (2, .long (lN gap)), (4, .int (nI wt)), (5, .int (nI k))]) F dX0_keepNear_9 (by decide) rfl ?_
  have key : ∀ (z : Nat) (g1 n1 : Nat → Nat), z ≤ k → (∀ i, i < z → g1 i = ng i ∧ n1 i = nw i) → (∀ i, z ≤ i → i < k → (g1 (i + 1) = ng i ∧ n1 (i + 1) = nw i) ∧ gap < ng i) → bdN g1 n1 → GG (EE l D t) X 0 0 11 [(0, .ref (a 0)), (1, .int (nI k)), (2, .long (lN gap)), (4, .int (nI wt)), (5, .int (nI z))] [] (WX a t w x y wy re de co cr cc sr so cf ck g1 n1 cs se) := by
    intro z
    induction z with
    | zero =>
      intro g1 n1 hz h1 h2 hb
      refine g_iload F dX0_keepNear_11 rfl ?_
      refine g_if_le_t F 68 dX0_keepNear_13 (by decide) (by decide) ?_
      refine g_aload_n F dX0_keepNear_68 rfl rfl ?_
      refine gX_get_nearGap F dX0_keepNear_69 ?_
      refine g_iload F dX0_keepNear_72 rfl ?_
      refine g_lload_n F dX0_keepNear_74 rfl rfl ?_
      refine gX_st_nearGap F (by omega) dX0_keepNear_75 ?_
      refine g_aload_n F dX0_keepNear_76 rfl rfl ?_
      refine gX_get_nearWeight F dX0_keepNear_77 ?_
      refine g_iload F dX0_keepNear_80 rfl ?_
      refine g_iload F dX0_keepNear_82 rfl ?_
      refine gX_st_nearWeight F (by omega) dX0_keepNear_84 ?_
      refine g_iload_n F dX0_keepNear_85 rfl rfl ?_
      refine g_iconst F (nI 1) dX0_keepNear_86 (by decide) ?_
      refine g_iadd_n F dX0_keepNear_87 ?_
      exact E _ _ _ _ dX0_keepNear_88 ⟨_, _, rfl, rfl, ⟨0, hz, fun i hi => ⟨by rw [up_n (by omega)]; exact (h1 i hi).1, by rw [up_n (by omega)]; exact (h1 i hi).2⟩, up_s, up_s, fun i hi hi2 => ⟨by rw [up_n (by omega)]; exact (h2 i hi hi2).1.1, by rw [up_n (by omega)]; exact (h2 i hi hi2).1.2⟩, fun i hi => absurd hi (by omega), fun i hi hi2 => (h2 i hi hi2).2⟩, up_bd hb.1 hgap, up_le hb.2 hwt⟩
    | succ z ih =>
      intro g1 n1 hz h1 h2 hb
      refine g_iload F dX0_keepNear_11 rfl ?_
      refine g_if_le_f F 68 dX0_keepNear_13 (by decide) (nI_nle (by omega) (by omega)) ?_
      refine g_aload_n F dX0_keepNear_16 rfl rfl ?_
      refine gX_get_nearGap F dX0_keepNear_17 ?_
      refine g_iload F dX0_keepNear_20 rfl ?_
      refine g_iconst F (nI 1) dX0_keepNear_22 (by decide) ?_
      refine g_isub_n F dX0_keepNear_23 (by omega) ?_
      show GG (EE l D t) X 0 0 24 [(0, .ref (a 0)), (1, .int (nI k)), (2, .long (lN gap)), (4, .int (nI wt)), (5, .int (nI (z + 1)))] [.int (nI z), .ref (a 7)] (WX a t w x y wy re de co cr cc sr so cf ck g1 n1 cs se)
      refine gX_ld_nearGap F (by omega) dX0_keepNear_24 ?_
      refine g_lload_n F dX0_keepNear_25 rfl rfl ?_
      refine g_lc_le_n F 68 dX0_keepNear_26 dX0_keepNear_27 (by decide) (Nat.lt_trans (hb.1 z) (by decide)) (Nat.lt_trans hgap (by decide)) (fun h => ?_) (fun h => ?_)
      · refine g_aload_n F dX0_keepNear_68 rfl rfl ?_
        refine gX_get_nearGap F dX0_keepNear_69 ?_
        refine g_iload F dX0_keepNear_72 rfl ?_
        refine g_lload_n F dX0_keepNear_74 rfl rfl ?_
        refine gX_st_nearGap F (by omega) dX0_keepNear_75 ?_
        refine g_aload_n F dX0_keepNear_76 rfl rfl ?_
        refine gX_get_nearWeight F dX0_keepNear_77 ?_
        refine g_iload F dX0_keepNear_80 rfl ?_
        refine g_iload F dX0_keepNear_82 rfl ?_
        refine gX_st_nearWeight F (by omega) dX0_keepNear_84 ?_
        refine g_iload_n F dX0_keepNear_85 rfl rfl ?_
        refine g_iconst F (nI 1) dX0_keepNear_86 (by decide) ?_
        refine g_iadd_n F dX0_keepNear_87 ?_
        exact E _ _ _ _ dX0_keepNear_88 ⟨_, _, rfl, rfl, ⟨z + 1, hz, fun i hi => ⟨by rw [up_n (by omega)]; exact (h1 i hi).1, by rw [up_n (by omega)]; exact (h1 i hi).2⟩, up_s, up_s, fun i hi hi2 => ⟨by rw [up_n (by omega)]; exact (h2 i hi hi2).1.1, by rw [up_n (by omega)]; exact (h2 i hi hi2).1.2⟩, fun i hi => by have e := (h1 z (by omega)).1; have := hs i z (by omega) (by omega); omega, fun i hi hi2 => (h2 i hi hi2).2⟩, up_bd hb.1 hgap, up_le hb.2 hwt⟩
      · refine g_aload_n F dX0_keepNear_30 rfl rfl ?_
        refine gX_get_nearGap F dX0_keepNear_31 ?_
        refine g_iload F dX0_keepNear_34 rfl ?_
        refine g_aload_n F dX0_keepNear_36 rfl rfl ?_
        refine gX_get_nearGap F dX0_keepNear_37 ?_
        refine g_iload F dX0_keepNear_40 rfl ?_
        refine g_iconst F (nI 1) dX0_keepNear_42 (by decide) ?_
        refine g_isub_n F dX0_keepNear_43 (by omega) ?_
        show GG (EE l D t) X 0 0 44 [(0, .ref (a 0)), (1, .int (nI k)), (2, .long (lN gap)), (4, .int (nI wt)), (5, .int (nI (z + 1)))] [.int (nI z), .ref (a 7), .int (nI (z + 1)), .ref (a 7)] (WX a t w x y wy re de co cr cc sr so cf ck g1 n1 cs se)
        refine gX_ld_nearGap F (by omega) dX0_keepNear_44 ?_
        refine gX_st_nearGap F (by omega) dX0_keepNear_45 ?_
        refine g_aload_n F dX0_keepNear_46 rfl rfl ?_
        refine gX_get_nearWeight F dX0_keepNear_47 ?_
        refine g_iload F dX0_keepNear_50 rfl ?_
        refine g_aload_n F dX0_keepNear_52 rfl rfl ?_
        refine gX_get_nearWeight F dX0_keepNear_53 ?_
        refine g_iload F dX0_keepNear_56 rfl ?_
        refine g_iconst F (nI 1) dX0_keepNear_58 (by decide) ?_
        refine g_isub_n F dX0_keepNear_59 (by omega) ?_
        show GG (EE l D t) X 0 0 60 [(0, .ref (a 0)), (1, .int (nI k)), (2, .long (lN gap)), (4, .int (nI wt)), (5, .int (nI (z + 1)))] [.int (nI z), .ref (a 8), .int (nI (z + 1)), .ref (a 8)] (WX a t w x y wy re de co cr cc sr so cf ck (up g1 (z + 1) (g1 z)) n1 cs se)
        refine gX_ld_nearWeight F (by omega) dX0_keepNear_60 ?_
        refine gX_st_nearWeight F (by omega) dX0_keepNear_61 ?_
        refine g_iinc (lv2 := [(0, .ref (a 0)), (1, .int (nI k)), (2, .long (lN gap)), (4, .int (nI wt)), (5, .int (nI z))]) F (nI z) dX0_keepNear_62 rfl nI_dec (by decide) rfl ?_
        refine g_goto F 11 dX0_keepNear_65 (by decide) ?_
        refine ih _ _ (by omega) (fun i hi => ⟨by rw [up_n (by omega)]; exact (h1 i (by omega)).1, by rw [up_n (by omega)]; exact (h1 i (by omega)).2⟩) (fun i hi hi2 => ?_) ⟨up_bd hb.1 (hb.1 z), up_le hb.2 (hb.2 z)⟩
        by_cases e : i = z
        · subst e
          rw [up_s, up_s, (h1 i (by omega)).1, (h1 i (by omega)).2]
          exact ⟨⟨rfl, rfl⟩, by have := (h1 i (by omega)).1; omega⟩
        · rw [up_n (by omega), up_n (by omega)]
          exact h2 i (by omega) hi2
  exact key k ng nw (Nat.le_refl k) (fun i _ => ⟨rfl, rfl⟩) (fun i a b => absurd b (by omega)) hb
set_option maxHeartbeats 4000000 in
set_option maxRecDepth 100000 in
/-- leastReachAsCore -/
theorem cX_leastReachAsCore {l : Launch} {D : va_G} {t : Ty3} {a : Nat → Nat} {w : Nat → Nat} {x : Nat → Int32} {y : Nat → Int32} {wy : Nat} {re : Nat} {de : Nat} {co : Nat → Bool} {cr : Nat → Option Nat} {cc : Nat} {sr : Nat} {so : Bool} {cf : Nat → Option Nat} {ck : Bool} {ng : Nat → Nat} {nw : Nat → Nat} {cs : Nat → Nat} {se : Nat → Bool} (hf : WFp w x y wy re de) (hb : bdN ng nw) {p : Nat} (hp : p < 120) : CtL (EE l D t) yX0_leastReachAsCore tsX0_leastReachAsCore (RM 3 72) [.ref (a 0), .int (nI p)] (WX a t w x y wy re de co cr cc sr so cf ck ng nw cs se) 0 0 (fun r u => ∃ ng2 nw2 o, u = WX a t w x y wy re de co cr cc sr so cf ck ng2 nw2 cs se ∧ bdN ng2 nw2 ∧ r = oL o ∧ isDn w (gp wy x y p) de o ∧ ∀ d, o = some d → d < MX) := by
  refine CtL.of (by decide +kernel) rfl (Nat.le_of_ble_eq_true rfl) (fun X F E => ?_)
  show GG (EE l D t) X 0 0 0 [(0, .ref (a 0)), (1, .int (nI p))] [] (WX a t w x y wy re de co cr cc sr so cf ck ng nw cs se)
  refine g_iconst F (nI 0) dX0_leastReachAsCore_0 (by decide) ?_
  refine g_istore_n (lv2 := [(0, .ref (a 0)), (1, .int (nI p)), (2, .int (nI 0))]) F dX0_leastReachAsCore_1 rfl (by decide) rfl ?_
  refine g_iconst F (nI 0) dX0_leastReachAsCore_2 (by decide) ?_
  refine g_istore_n (lv2 := [(0, .ref (a 0)), (1, .int (nI p)), (2, .int (nI 0)), (3, .int (nI 0))]) F dX0_leastReachAsCore_3 rfl (by decide) rfl ?_
  refine g_iconst F (nI 0) dX0_leastReachAsCore_4 (by decide) ?_
  refine g_istore (lv2 := [(0, .ref (a 0)), (1, .int (nI p)), (2, .int (nI 0)), (3, .int (nI 0)), (4, .int (nI 0))]) F dX0_leastReachAsCore_5 (by decide) rfl ?_
  have hd : 1 ≤ de := hf.2.2.2.2.2.1
  have hd2 : de ≤ 2400 := hf.2.2.2.2.2.2
  have key : ∀ (m i k b : Nat) (g1 n1 : Nat → Nat), i + m = 120 → dI w (gp wy x y p) de i k b g1 n1 → bdN g1 n1 → GG (EE l D t) X 0 0 7 [(0, .ref (a 0)), (1, .int (nI p)), (2, .int (nI k)), (3, .int (nI b)), (4, .int (nI i))] [] (WX a t w x y wy re de co cr cc sr so cf ck g1 n1 cs se) := by
    intro m
    induction m with
    | zero =>
      intro i k b g1 n1 him hI hb
      have hi : i = 120 := by omega
      subst hi
      have hk : k ≤ 120 := hI.1.1
      have hb20 : b ≤ 2400 := by
        have e := hI.1.2.1
        have e2 := sumN_le hb.2 k
        have e3 : k * 20 ≤ 120 * 20 := Nat.mul_le_mul_right 20 (by omega)
        omega
      refine g_iload F dX0_leastReachAsCore_7 rfl ?_
      refine g_bipush F (nI 120) dX0_leastReachAsCore_9 (by decide) ?_
      refine g_icmp_ge_t F 125 dX0_leastReachAsCore_11 (by decide) (nI_le (Nat.le_refl 120) (by decide)) ?_
      refine g_iload_n F dX0_leastReachAsCore_125 rfl rfl ?_
      refine g_aload_n F dX0_leastReachAsCore_126 rfl rfl ?_
      refine gX_get_demandNow F dX0_leastReachAsCore_127 ?_
      refine g_icmp_lt_n F 141 dX0_leastReachAsCore_130 (by decide) (by omega) (by omega) (fun h => ?_) (fun h => ?_)
      · refine g_ldc2 F (oL none) dX0_leastReachAsCore_141 (List.mem_cons_of_mem _ mw6_19) ?_
        exact E _ _ _ _ dX0_leastReachAsCore_144 ⟨g1, n1, none, rfl, hb, rfl, dI_none hI h, fun d hd => by cases hd⟩
      · have hk1 := d_pos hI.1 hd h
        refine g_aload_n F dX0_leastReachAsCore_133 rfl rfl ?_
        refine g_iload_n F dX0_leastReachAsCore_134 rfl rfl ?_
        refine c_VL F [] (wr := []) (cX_lastGap (by omega) (by omega)) cwX0_X0_lastGap ⟨by decide, by decide, rfl, rfl⟩ rfl rfl rfl rfl (Nat.le_of_ble_eq_true rfl) ⟨by decide, by decide⟩ dX0_leastReachAsCore_135 (fun r u hu => ?_)
        obtain ⟨rfl, rfl⟩ := hu
        show GG (EE l D t) X 0 0 138 [(0, .ref (a 0)), (1, .int (nI p)), (2, .int (nI k)), (3, .int (nI b)), (4, .int (nI 120))] [.long (lN (g1 (k - 1)))] (WX a t w x y wy re de co cr cc sr so cf ck g1 n1 cs se)
        refine g_goto F 144 dX0_leastReachAsCore_138 (by decide) ?_
        exact E _ _ _ _ dX0_leastReachAsCore_144 ⟨g1, n1, some (g1 (k - 1)), rfl, hb, rfl, dI_some hI hd h, fun d hd => by cases hd; exact hb.1 _⟩
    | succ m ih =>
      intro i k b g1 n1 him hI hb
      have hi : i < 120 := by omega
      have hk : k ≤ i := hI.1.1
      have hb20 : b ≤ 2400 := by
        have e := hI.1.2.1
        have e2 := sumN_le hb.2 k
        have e3 : k * 20 ≤ 120 * 20 := Nat.mul_le_mul_right 20 (by omega)
        omega
      refine g_iload F dX0_leastReachAsCore_7 rfl ?_
      refine g_bipush F (nI 120) dX0_leastReachAsCore_9 (by decide) ?_
      refine g_icmp_ge_f F 125 dX0_leastReachAsCore_11 (by decide) (nI_ge hi (by decide)) ?_
      refine g_aload_n F dX0_leastReachAsCore_14 rfl rfl ?_
      refine gX_get_weights F dX0_leastReachAsCore_15 ?_
      refine g_iload F dX0_leastReachAsCore_18 rfl ?_
      refine gX_ld_weights F hi dX0_leastReachAsCore_20 ?_
      refine g_if_ne_n F 27 dX0_leastReachAsCore_21 (by decide) (by have := hf.1 i; omega) (fun h => ?_) (fun h => ?_)
      · have ins : (b < de ∨ gp wy x y p i < g1 (k - 1)) → GG (EE l D t) X 0 0 58 [(0, .ref (a 0)), (1, .int (nI p)), (2, .int (nI k)), (3, .int (nI b)), (4, .int (nI i)), (5, .long (lN (gp wy x y p i)))] [] (WX a t w x y wy re de co cr cc sr so cf ck g1 n1 cs se) := by
          intro hc
          refine g_aload_n F dX0_leastReachAsCore_58 rfl rfl ?_
          refine g_iload_n F dX0_leastReachAsCore_59 rfl rfl ?_
          refine g_lload F dX0_leastReachAsCore_60 rfl ?_
          refine g_aload_n F dX0_leastReachAsCore_62 rfl rfl ?_
          refine gX_get_weights F dX0_leastReachAsCore_63 ?_
          refine g_iload F dX0_leastReachAsCore_66 rfl ?_
          refine gX_ld_weights F hi dX0_leastReachAsCore_68 ?_
          refine c_VI F [] (wr := []) (cX_keepNear hb (by omega) (gp_lt hf p i) (hf.1 i) hI.1.2.2.1) cwX0_X0_keepNear ⟨by decide, by decide, rfl, rfl⟩ rfl rfl rfl rfl (Nat.le_of_ble_eq_true rfl) ⟨by decide, by decide⟩ dX0_leastReachAsCore_69 (fun r u hu => ?_)
          obtain ⟨g2, n2, rfl, rfl, hins, hb2⟩ := hu
          show GG (EE l D t) X 0 0 72 [(0, .ref (a 0)), (1, .int (nI p)), (2, .int (nI k)), (3, .int (nI b)), (4, .int (nI i)), (5, .long (lN (gp wy x y p i)))] [.int (nI (k + 1))] (WX a t w x y wy re de co cr cc sr so cf ck g2 n2 cs se)
          refine g_istore_n (lv2 := [(0, .ref (a 0)), (1, .int (nI p)), (2, .int (nI (k + 1))), (3, .int (nI b)), (4, .int (nI i)), (5, .long (lN (gp wy x y p i)))]) F dX0_leastReachAsCore_72 rfl (by decide) rfl ?_
          refine g_iload_n F dX0_leastReachAsCore_73 rfl rfl ?_
          refine g_aload_n F dX0_leastReachAsCore_74 rfl rfl ?_
          refine gX_get_weights F dX0_leastReachAsCore_75 ?_
          refine g_iload F dX0_leastReachAsCore_78 rfl ?_
          refine gX_ld_weights F hi dX0_leastReachAsCore_80 ?_
          refine g_iadd_n F dX0_leastReachAsCore_81 ?_
          refine g_istore_n (lv2 := [(0, .ref (a 0)), (1, .int (nI p)), (2, .int (nI (k + 1))), (3, .int (nI (b + (w i)))), (4, .int (nI i)), (5, .long (lN (gp wy x y p i)))]) F dX0_leastReachAsCore_82 rfl (by decide) rfl ?_
          have trim : ∀ (k b : Nat), dT w (gp wy x y p) de (i + 1) k b g2 n2 → GG (EE l D t) X 0 0 83 [(0, .ref (a 0)), (1, .int (nI p)), (2, .int (nI k)), (3, .int (nI b)), (4, .int (nI i)), (5, .long (lN (gp wy x y p i)))] [] (WX a t w x y wy re de co cr cc sr so cf ck g2 n2 cs se) := by
            intro k
            induction k with
            | zero =>
              intro b hT
              refine g_iload_n F dX0_leastReachAsCore_83 rfl rfl ?_
              refine g_if_le_t F 119 dX0_leastReachAsCore_84 (by decide) (by decide) ?_
              refine g_iinc (lv2 := [(0, .ref (a 0)), (1, .int (nI p)), (2, .int (nI 0)), (3, .int (nI b)), (4, .int (nI (i + 1))), (5, .long (lN (gp wy x y p i)))]) F (nI (i + 1)) dX0_leastReachAsCore_119 rfl (nI_add i 1) (by decide) rfl ?_
              refine g_goto F 7 dX0_leastReachAsCore_122 (by decide) ?_
              refine g_lv [0, 1, 2, 3, 4] rfl ?_
              exact ih (i + 1) 0 b g2 n2 (by omega) (dI_done hT (Or.inl rfl) hd) hb2
            | succ k iht =>
              intro b hT
              have hk2 : k + 1 ≤ i + 1 := hT.1
              have hle : n2 k ≤ b := by rw [hT.2.1]; exact sumN_ge (Nat.lt_succ_self k)
              have hb21 : b ≤ 2400 := by
                have e := hT.2.1
                have e2 := sumN_le hb2.2 (k + 1)
                have e3 : (k + 1) * 20 ≤ 120 * 20 := Nat.mul_le_mul_right 20 (by omega)
                omega
              refine g_iload_n F dX0_leastReachAsCore_83 rfl rfl ?_
              refine g_if_le_f F 119 dX0_leastReachAsCore_84 (by decide) (nI_nle (by omega) (by omega)) ?_
              refine g_iload_n F dX0_leastReachAsCore_87 rfl rfl ?_
              refine g_aload_n F dX0_leastReachAsCore_88 rfl rfl ?_
              refine gX_get_nearWeight F dX0_leastReachAsCore_89 ?_
              refine g_iload_n F dX0_leastReachAsCore_92 rfl rfl ?_
              refine g_iconst F (nI 1) dX0_leastReachAsCore_93 (by decide) ?_
              refine g_isub_n F dX0_leastReachAsCore_94 (by omega) ?_
              show GG (EE l D t) X 0 0 95 [(0, .ref (a 0)), (1, .int (nI p)), (2, .int (nI (k + 1))), (3, .int (nI b)), (4, .int (nI i)), (5, .long (lN (gp wy x y p i)))] [.int (nI k), .ref (a 8), .int (nI b)] (WX a t w x y wy re de co cr cc sr so cf ck g2 n2 cs se)
              refine gX_ld_nearWeight F (by omega) dX0_leastReachAsCore_95 ?_
              refine g_isub_n F dX0_leastReachAsCore_96 hle ?_
              refine g_aload_n F dX0_leastReachAsCore_97 rfl rfl ?_
              refine gX_get_demandNow F dX0_leastReachAsCore_98 ?_
              refine g_icmp_lt_n F 119 dX0_leastReachAsCore_101 (by decide) (by omega) (by omega) (fun h9 => ?_) (fun h9 => ?_)
              · refine g_iinc (lv2 := [(0, .ref (a 0)), (1, .int (nI p)), (2, .int (nI (k + 1))), (3, .int (nI b)), (4, .int (nI (i + 1))), (5, .long (lN (gp wy x y p i)))]) F (nI (i + 1)) dX0_leastReachAsCore_119 rfl (nI_add i 1) (by decide) rfl ?_
                refine g_goto F 7 dX0_leastReachAsCore_122 (by decide) ?_
                refine g_lv [0, 1, 2, 3, 4] rfl ?_
                exact ih (i + 1) (k + 1) b g2 n2 (by omega) (dI_done hT (Or.inr (by rw [show k + 1 - 1 = k from rfl]; omega)) hd) hb2
              · refine g_iinc (lv2 := [(0, .ref (a 0)), (1, .int (nI p)), (2, .int (nI k)), (3, .int (nI b)), (4, .int (nI i)), (5, .long (lN (gp wy x y p i)))]) F (nI k) dX0_leastReachAsCore_104 rfl nI_dec (by decide) rfl ?_
                refine g_iload_n F dX0_leastReachAsCore_107 rfl rfl ?_
                refine g_aload_n F dX0_leastReachAsCore_108 rfl rfl ?_
                refine gX_get_nearWeight F dX0_leastReachAsCore_109 ?_
                refine g_iload_n F dX0_leastReachAsCore_112 rfl rfl ?_
                refine gX_ld_nearWeight F (by omega) dX0_leastReachAsCore_113 ?_
                refine g_isub_n F dX0_leastReachAsCore_114 hle ?_
                refine g_istore_n (lv2 := [(0, .ref (a 0)), (1, .int (nI p)), (2, .int (nI k)), (3, .int (nI (b - (n2 k)))), (4, .int (nI i)), (5, .long (lN (gp wy x y p i)))]) F dX0_leastReachAsCore_115 rfl (by decide) rfl ?_
                refine g_goto F 83 dX0_leastReachAsCore_116 (by decide) ?_
                exact iht (b - n2 k) (dT_drop hT hd (by omega))
          exact trim (k + 1) (b + w i) (dT_ins hI hd h hins hc)
        refine g_aload_n F dX0_leastReachAsCore_27 rfl rfl ?_
        refine g_iload_n F dX0_leastReachAsCore_28 rfl rfl ?_
        refine g_iload F dX0_leastReachAsCore_29 rfl ?_
        refine c_VL F [] (wr := []) (cX_gapBetween hf.2.2.2.1 hp hi) cwX0_X0_gapBetween ⟨by decide, by decide, rfl, rfl⟩ rfl rfl rfl rfl (Nat.le_of_ble_eq_true rfl) ⟨by decide, by decide⟩ dX0_leastReachAsCore_31 (fun r u hu => ?_)
        obtain ⟨rfl, rfl⟩ := hu
        show GG (EE l D t) X 0 0 34 [(0, .ref (a 0)), (1, .int (nI p)), (2, .int (nI k)), (3, .int (nI b)), (4, .int (nI i))] [.long (lN (gp wy x y p i))] (WX a t w x y wy re de co cr cc sr so cf ck g1 n1 cs se)
        refine g_lstore (lv2 := [(0, .ref (a 0)), (1, .int (nI p)), (2, .int (nI k)), (3, .int (nI b)), (4, .int (nI i)), (5, .long (lN (gp wy x y p i)))]) F dX0_leastReachAsCore_34 (by decide) rfl ?_
        refine g_iload_n F dX0_leastReachAsCore_36 rfl rfl ?_
        refine g_aload_n F dX0_leastReachAsCore_37 rfl rfl ?_
        refine gX_get_demandNow F dX0_leastReachAsCore_38 ?_
        refine g_icmp_lt_n F 58 dX0_leastReachAsCore_41 (by decide) (by omega) (by omega) (fun h2 => ?_) (fun h2 => ?_)
        · exact ins (Or.inl h2)
        · have hk1 := d_pos hI.1 hd h2
          refine g_lload F dX0_leastReachAsCore_44 rfl ?_
          refine g_aload_n F dX0_leastReachAsCore_46 rfl rfl ?_
          refine g_iload_n F dX0_leastReachAsCore_47 rfl rfl ?_
          refine c_VL F [.long (lN (gp wy x y p i))] (wr := []) (cX_lastGap (by omega) (by omega)) cwX0_X0_lastGap ⟨by decide, by decide, rfl, rfl⟩ rfl rfl rfl rfl (Nat.le_of_ble_eq_true rfl) ⟨by decide, by decide⟩ dX0_leastReachAsCore_48 (fun r u hu => ?_)
          obtain ⟨rfl, rfl⟩ := hu
          show GG (EE l D t) X 0 0 51 [(0, .ref (a 0)), (1, .int (nI p)), (2, .int (nI k)), (3, .int (nI b)), (4, .int (nI i)), (5, .long (lN (gp wy x y p i)))] [.long (lN (g1 (k - 1))), .long (lN (gp wy x y p i))] (WX a t w x y wy re de co cr cc sr so cf ck g1 n1 cs se)
          refine g_lc_lt_n F 58 dX0_leastReachAsCore_51 dX0_leastReachAsCore_52 (by decide) (Nat.lt_trans (gp_lt hf p i) (by decide)) (Nat.lt_trans (hb.1 _) (by decide)) (fun h3 => ?_) (fun h3 => ?_)
          · exact ins (Or.inr h3)
          · refine g_goto F 119 dX0_leastReachAsCore_55 (by decide) ?_
            refine g_iinc (lv2 := [(0, .ref (a 0)), (1, .int (nI p)), (2, .int (nI k)), (3, .int (nI b)), (4, .int (nI (i + 1))), (5, .long (lN (gp wy x y p i)))]) F (nI (i + 1)) dX0_leastReachAsCore_119 rfl (nI_add i 1) (by decide) rfl ?_
            refine g_goto F 7 dX0_leastReachAsCore_122 (by decide) ?_
            refine g_lv [0, 1, 2, 3, 4] rfl ?_
            exact ih (i + 1) k b g1 n1 (by omega) (dI_far hI hd h2 h3) hb
      · refine g_goto F 119 dX0_leastReachAsCore_24 (by decide) ?_
        refine g_iinc (lv2 := [(0, .ref (a 0)), (1, .int (nI p)), (2, .int (nI k)), (3, .int (nI b)), (4, .int (nI (i + 1)))]) F (nI (i + 1)) dX0_leastReachAsCore_119 rfl (nI_add i 1) (by decide) rfl ?_
        refine g_goto F 7 dX0_leastReachAsCore_122 (by decide) ?_
        exact ih (i + 1) k b g1 n1 (by omega) (dI_free hI h) hb
  exact key 120 0 0 0 ng nw rfl (dI_0 hd ng nw) hb
set_option maxHeartbeats 4000000 in
set_option maxRecDepth 100000 in
/-- findCoreFrom -/
theorem cX_findCoreFrom {l : Launch} {D : va_G} {t : Ty3} {a : Nat → Nat} {w : Nat → Nat} {x : Nat → Int32} {y : Nat → Int32} {wy : Nat} {re : Nat} {de : Nat} {co : Nat → Bool} {cr : Nat → Option Nat} {cc : Nat} {sr : Nat} {so : Bool} {cf : Nat → Option Nat} {ck : Bool} {ng : Nat → Nat} {nw : Nat → Nat} {cs : Nat → Nat} {se : Nat → Bool} (hf : WFp w x y wy re de) (hb : bdN ng nw) (hck : ck = true → CfOk w x y wy de cf 120) : CtV (EE l D t) yX0_findCoreFrom tsX0_findCoreFrom (RM 4 98) [.ref (a 0)] (WX a t w x y wy re de co cr cc sr so cf ck ng nw cs se) 0 0 (fun u => ∃ cf2 ng2 nw2, u = WX a t w x y wy re de co cr cc sr so cf2 true ng2 nw2 cs se ∧ CfOk w x y wy de cf2 120 ∧ bdN ng2 nw2) := by
  refine CtV.of (by decide +kernel) rfl (Nat.le_of_ble_eq_true rfl) (fun X F E => ?_)
  show GG (EE l D t) X 0 0 0 [(0, .ref (a 0))] [] (WX a t w x y wy re de co cr cc sr so cf ck ng nw cs se)
  refine g_aload_n F dX0_findCoreFrom_0 rfl rfl ?_
  refine gX_get_coreFromKnown F dX0_findCoreFrom_1 ?_
  refine g_if_eq_b F 8 dX0_findCoreFrom_4 (by decide)  (fun h => ?_) (fun h => ?_)
  · refine g_iconst F (nI 0) dX0_findCoreFrom_8 (by decide) ?_
    refine g_istore_n (lv2 := [(0, .ref (a 0)), (1, .int (nI 0))]) F dX0_findCoreFrom_9 rfl (by decide) rfl ?_
    have key : ∀ (m i : Nat) (c1 : Nat → Option Nat) (g1 n1 : Nat → Nat), i + m = 120 → CfOk w x y wy de c1 i → bdN g1 n1 → GG (EE l D t) X 0 0 10 [(0, .ref (a 0)), (1, .int (nI i))] [] (WX a t w x y wy re de co cr cc sr so c1 ck g1 n1 cs se) := by
      intro m
      induction m with
      | zero =>
        intro i c1 g1 n1 him hC hb
        have hi : i = 120 := by omega
        subst hi
        refine g_iload_n F dX0_findCoreFrom_10 rfl rfl ?_
        refine g_bipush F (nI 120) dX0_findCoreFrom_11 (by decide) ?_
        refine g_icmp_ge_t F 48 dX0_findCoreFrom_13 (by decide) (nI_le (Nat.le_refl 120) (by decide)) ?_
        refine g_aload_n F dX0_findCoreFrom_48 rfl rfl ?_
        refine g_iconst F (b2 true) dX0_findCoreFrom_49 (by decide) ?_
        refine gX_put_coreFromKnown F dX0_findCoreFrom_50 ?_
        exact E _ _ _ dX0_findCoreFrom_53 ⟨c1, g1, n1, rfl, hC, hb⟩
      | succ m ih =>
        intro i c1 g1 n1 him hC hb
        have hi : i < 120 := by omega
        refine g_iload_n F dX0_findCoreFrom_10 rfl rfl ?_
        refine g_bipush F (nI 120) dX0_findCoreFrom_11 (by decide) ?_
        refine g_icmp_ge_f F 48 dX0_findCoreFrom_13 (by decide) (nI_ge hi (by decide)) ?_
        refine g_aload_n F dX0_findCoreFrom_16 rfl rfl ?_
        refine gX_get_coreFrom F dX0_findCoreFrom_17 ?_
        refine g_iload_n F dX0_findCoreFrom_20 rfl rfl ?_
        refine g_aload_n F dX0_findCoreFrom_21 rfl rfl ?_
        refine gX_get_weights F dX0_findCoreFrom_22 ?_
        refine g_iload_n F dX0_findCoreFrom_25 rfl rfl ?_
        refine gX_ld_weights F hi dX0_findCoreFrom_26 ?_
        refine g_if_le_n F 38 dX0_findCoreFrom_27 (by decide) (by have := hf.1 i; omega) (fun h => ?_) (fun h => ?_)
        · refine g_ldc2 F (oL none) dX0_findCoreFrom_38 (List.mem_cons_of_mem _ mw6_19) ?_
          refine gX_st_coreFrom F hi dX0_findCoreFrom_41 ?_
          refine g_iinc (lv2 := [(0, .ref (a 0)), (1, .int (nI (i + 1)))]) F (nI (i + 1)) dX0_findCoreFrom_42 rfl (nI_add i 1) (by decide) rfl ?_
          refine g_goto F 10 dX0_findCoreFrom_45 (by decide) ?_
          refine ih (i + 1) _ g1 n1 (by omega) (fun p hp hw => ?_) hb
          by_cases e : p = i
          · subst e
            rw [up_s]
            omega
          · rw [up_n e]
            exact hC p (by omega) hw
        · refine g_aload_n F dX0_findCoreFrom_30 rfl rfl ?_
          refine g_iload_n F dX0_findCoreFrom_31 rfl rfl ?_
          refine c_VL F [.int (nI i), .ref (a 6)] (wr := []) (cX_leastReachAsCore hf hb hi) cwX0_X0_leastReachAsCore ⟨by decide, by decide, rfl, rfl⟩ rfl rfl rfl rfl (Nat.le_of_ble_eq_true rfl) ⟨by decide, by decide⟩ dX0_findCoreFrom_32 (fun r u hu => ?_)
          obtain ⟨g2, n2, o, rfl, hb2, rfl, ho1, ho2⟩ := hu
          show GG (EE l D t) X 0 0 35 [(0, .ref (a 0)), (1, .int (nI i))] [.long (oL o), .int (nI i), .ref (a 6)] (WX a t w x y wy re de co cr cc sr so c1 ck g2 n2 cs se)
          refine g_goto F 41 dX0_findCoreFrom_35 (by decide) ?_
          refine gX_st_coreFrom F hi dX0_findCoreFrom_41 ?_
          refine g_iinc (lv2 := [(0, .ref (a 0)), (1, .int (nI (i + 1)))]) F (nI (i + 1)) dX0_findCoreFrom_42 rfl (nI_add i 1) (by decide) rfl ?_
          refine g_goto F 10 dX0_findCoreFrom_45 (by decide) ?_
          refine ih (i + 1) _ g2 n2 (by omega) (fun p hp hw => ?_) hb2
          by_cases e : p = i
          · subst e
            rw [up_s]
            exact ⟨ho1, ho2⟩
          · rw [up_n e]
            exact hC p (by omega) hw
    exact key 120 0 cf ng nw rfl (fun p hp => absurd hp (by omega)) hb
  · exact E _ _ _ dX0_findCoreFrom_7 ⟨cf, ng, nw, by rw [h], hck h, hb⟩
set_option maxHeartbeats 4000000 in
set_option maxRecDepth 100000 in
/-- cheapestUnsettled -/
theorem cX_cheapestUnsettled {l : Launch} {D : va_G} {t : Ty3} {a : Nat → Nat} {w : Nat → Nat} {x : Nat → Int32} {y : Nat → Int32} {wy : Nat} {re : Nat} {de : Nat} {co : Nat → Bool} {cr : Nat → Option Nat} {cc : Nat} {sr : Nat} {so : Bool} {cf : Nat → Option Nat} {ck : Bool} {ng : Nat → Nat} {nw : Nat → Nat} {cs : Nat → Nat} {se : Nat → Bool} (hf : WFp w x y wy re de) (hcs : ∀ j, cs j < 2 ^ 63) : CtI (EE l D t) yX0_cheapestUnsettled tsX0_cheapestUnsettled (RM 0 0) [.ref (a 0)] (WX a t w x y wy re de co cr cc sr so cf ck ng nw cs se) 0 0 (fun r u => u = WX a t w x y wy re de co cr cc sr so cf ck ng nw cs se ∧ r = oI (chp1 w se cs)) := by
  refine CtI.of (by decide +kernel) rfl (Nat.le_of_ble_eq_true rfl) (fun X F E => ?_)
  show GG (EE l D t) X 0 0 0 [(0, .ref (a 0))] [] (WX a t w x y wy re de co cr cc sr so cf ck ng nw cs se)
  refine g_iconst F (oI none) dX0_cheapestUnsettled_0 (by decide) ?_
  refine g_istore_n (lv2 := [(0, .ref (a 0)), (1, .int (oI none))]) F dX0_cheapestUnsettled_1 rfl (by decide) rfl ?_
  refine g_iconst F (nI 0) dX0_cheapestUnsettled_2 (by decide) ?_
  refine g_istore_n (lv2 := [(0, .ref (a 0)), (1, .int (oI none)), (2, .int (nI 0))]) F dX0_cheapestUnsettled_3 rfl (by decide) rfl ?_
  refine up_loop (P := fun i => GG (EE l D t) X 0 0 4 [(0, .ref (a 0)), (1, .int (oI (chp w se cs i))), (2, .int (nI i))] [] (WX a t w x y wy re de co cr cc sr so cf ck ng nw cs se)) 120 ?_ (fun i hi ih => ?_)
  · show GG (EE l D t) X 0 0 4 [(0, .ref (a 0)), (1, .int (oI (chp w se cs 120))), (2, .int (nI 120))] [] (WX a t w x y wy re de co cr cc sr so cf ck ng nw cs se)
    refine g_iload_n F dX0_cheapestUnsettled_4 rfl rfl ?_
    refine g_bipush F (nI 120) dX0_cheapestUnsettled_5 (by decide) ?_
    refine g_icmp_ge_t F 57 dX0_cheapestUnsettled_7 (by decide) (nI_le (Nat.le_refl 120) (by decide)) ?_
    refine g_iload_n F dX0_cheapestUnsettled_57 rfl rfl ?_
    exact E _ _ _ _ dX0_cheapestUnsettled_58 ⟨rfl, by rw [chp1_eq]⟩
  · show GG (EE l D t) X 0 0 4 [(0, .ref (a 0)), (1, .int (oI (chp w se cs i))), (2, .int (nI i))] [] (WX a t w x y wy re de co cr cc sr so cf ck ng nw cs se)
    refine g_iload_n F dX0_cheapestUnsettled_4 rfl rfl ?_
    refine g_bipush F (nI 120) dX0_cheapestUnsettled_5 (by decide) ?_
    refine g_icmp_ge_f F 57 dX0_cheapestUnsettled_7 (by decide) (nI_ge hi (by decide)) ?_
    cases hq : chp w se cs i with
    | none =>
      refine g_aload_n F dX0_cheapestUnsettled_10 rfl rfl ?_
      refine gX_get_weights F dX0_cheapestUnsettled_11 ?_
      refine g_iload_n F dX0_cheapestUnsettled_14 rfl rfl ?_
      refine gX_ld_weights F hi dX0_cheapestUnsettled_15 ?_
      refine g_if_le_n F 51 dX0_cheapestUnsettled_16 (by decide) (by have := hf.1 i; omega) (fun h => ?_) (fun h => ?_)
      · refine g_iinc (lv2 := [(0, .ref (a 0)), (1, .int (oI none)), (2, .int (nI (i + 1)))]) F (nI (i + 1)) dX0_cheapestUnsettled_51 rfl (nI_add i 1) (by decide) rfl ?_
        refine g_goto F 4 dX0_cheapestUnsettled_54 (by decide) ?_
        rw [chp_n (by omega), hq] at ih
        exact ih
      · refine g_aload_n F dX0_cheapestUnsettled_19 rfl rfl ?_
        refine gX_get_settled F dX0_cheapestUnsettled_20 ?_
        refine g_iload_n F dX0_cheapestUnsettled_23 rfl rfl ?_
        refine gX_ld_settled F hi dX0_cheapestUnsettled_24 ?_
        refine g_if_ne_b F 51 dX0_cheapestUnsettled_25 (by decide)  (fun h2 => ?_) (fun h2 => ?_)
        · refine g_iinc (lv2 := [(0, .ref (a 0)), (1, .int (oI none)), (2, .int (nI (i + 1)))]) F (nI (i + 1)) dX0_cheapestUnsettled_51 rfl (nI_add i 1) (by decide) rfl ?_
          refine g_goto F 4 dX0_cheapestUnsettled_54 (by decide) ?_
          rw [chp_n (by simp [h2]), hq] at ih
          exact ih
        · refine g_iload_n F dX0_cheapestUnsettled_28 rfl rfl ?_
          refine g_iconst F (oI none) dX0_cheapestUnsettled_29 (by decide) ?_
          refine g_icmp_eq_o F 49 dX0_cheapestUnsettled_30 (by decide) (fun k hk => by cases hk) (fun h3 => ?_) (fun h3 => absurd rfl h3)
          refine g_iload_n F dX0_cheapestUnsettled_49 rfl rfl ?_
          refine g_istore_n (lv2 := [(0, .ref (a 0)), (1, .int (nI i)), (2, .int (nI i))]) F dX0_cheapestUnsettled_50 rfl (by decide) rfl ?_
          refine g_iinc (lv2 := [(0, .ref (a 0)), (1, .int (nI i)), (2, .int (nI (i + 1)))]) F (nI (i + 1)) dX0_cheapestUnsettled_51 rfl (nI_add i 1) (by decide) rfl ?_
          refine g_goto F 4 dX0_cheapestUnsettled_54 (by decide) ?_
          rw [chp_y h h2 (by rw [hq]; rfl)] at ih
          exact ih
    | some b =>
      have hb := chp_lt hq
      show GG (EE l D t) X 0 0 10 [(0, .ref (a 0)), (1, .int (nI b)), (2, .int (nI i))] [] (WX a t w x y wy re de co cr cc sr so cf ck ng nw cs se)
      refine g_aload_n F dX0_cheapestUnsettled_10 rfl rfl ?_
      refine gX_get_weights F dX0_cheapestUnsettled_11 ?_
      refine g_iload_n F dX0_cheapestUnsettled_14 rfl rfl ?_
      refine gX_ld_weights F hi dX0_cheapestUnsettled_15 ?_
      refine g_if_le_n F 51 dX0_cheapestUnsettled_16 (by decide) (by have := hf.1 i; omega) (fun h => ?_) (fun h => ?_)
      · refine g_iinc (lv2 := [(0, .ref (a 0)), (1, .int (nI b)), (2, .int (nI (i + 1)))]) F (nI (i + 1)) dX0_cheapestUnsettled_51 rfl (nI_add i 1) (by decide) rfl ?_
        refine g_goto F 4 dX0_cheapestUnsettled_54 (by decide) ?_
        rw [chp_n (by omega), hq] at ih
        exact ih
      · refine g_aload_n F dX0_cheapestUnsettled_19 rfl rfl ?_
        refine gX_get_settled F dX0_cheapestUnsettled_20 ?_
        refine g_iload_n F dX0_cheapestUnsettled_23 rfl rfl ?_
        refine gX_ld_settled F hi dX0_cheapestUnsettled_24 ?_
        refine g_if_ne_b F 51 dX0_cheapestUnsettled_25 (by decide)  (fun h2 => ?_) (fun h2 => ?_)
        · refine g_iinc (lv2 := [(0, .ref (a 0)), (1, .int (nI b)), (2, .int (nI (i + 1)))]) F (nI (i + 1)) dX0_cheapestUnsettled_51 rfl (nI_add i 1) (by decide) rfl ?_
          refine g_goto F 4 dX0_cheapestUnsettled_54 (by decide) ?_
          rw [chp_n (by simp [h2]), hq] at ih
          exact ih
        · refine g_iload_n F dX0_cheapestUnsettled_28 rfl rfl ?_
          refine g_iconst F (oI none) dX0_cheapestUnsettled_29 (by decide) ?_
          refine g_icmp_eq_o (q := some b) F 49 dX0_cheapestUnsettled_30 (by decide) (fun k hk => by cases hk; omega) (fun h3 => absurd h3 (by simp)) (fun h3 => ?_)
          refine g_aload_n F dX0_cheapestUnsettled_33 rfl rfl ?_
          refine gX_get_cost F dX0_cheapestUnsettled_34 ?_
          refine g_iload_n F dX0_cheapestUnsettled_37 rfl rfl ?_
          refine gX_ld_cost F hi dX0_cheapestUnsettled_38 ?_
          refine g_aload_n F dX0_cheapestUnsettled_39 rfl rfl ?_
          refine gX_get_cost F dX0_cheapestUnsettled_40 ?_
          refine g_iload_n F dX0_cheapestUnsettled_43 rfl rfl ?_
          refine gX_ld_cost F (by omega) dX0_cheapestUnsettled_44 ?_
          refine g_lc_ge_n F 51 dX0_cheapestUnsettled_45 dX0_cheapestUnsettled_46 (by decide) (hcs i) (hcs b) (fun h4 => ?_) (fun h4 => ?_)
          · refine g_iinc (lv2 := [(0, .ref (a 0)), (1, .int (nI b)), (2, .int (nI (i + 1)))]) F (nI (i + 1)) dX0_cheapestUnsettled_51 rfl (nI_add i 1) (by decide) rfl ?_
            refine g_goto F 4 dX0_cheapestUnsettled_54 (by decide) ?_
            rw [chp_n (by rw [hq]; simp [chps]; omega), hq] at ih
            exact ih
          · refine g_iload_n F dX0_cheapestUnsettled_49 rfl rfl ?_
            refine g_istore_n (lv2 := [(0, .ref (a 0)), (1, .int (nI i)), (2, .int (nI i))]) F dX0_cheapestUnsettled_50 rfl (by decide) rfl ?_
            refine g_iinc (lv2 := [(0, .ref (a 0)), (1, .int (nI i)), (2, .int (nI (i + 1)))]) F (nI (i + 1)) dX0_cheapestUnsettled_51 rfl (nI_add i 1) (by decide) rfl ?_
            refine g_goto F 4 dX0_cheapestUnsettled_54 (by decide) ?_
            rw [chp_y h h2 (by rw [hq]; simp [chps, h4])] at ih
            exact ih
set_option maxHeartbeats 4000000 in
set_option maxRecDepth 100000 in
/-- reachOnFrom -/
theorem cX_reachOnFrom {l : Launch} {D : va_G} {t : Ty3} {a : Nat → Nat} {w : Nat → Nat} {x : Nat → Int32} {y : Nat → Int32} {wy : Nat} {re : Nat} {de : Nat} {co : Nat → Bool} {cr : Nat → Option Nat} {cc : Nat} {sr : Nat} {so : Bool} {cf : Nat → Option Nat} {ck : Bool} {ng : Nat → Nat} {nw : Nat → Nat} {cs : Nat → Nat} {se : Nat → Bool} (hf : WFp w x y wy re de) (hcs : ∀ j, cs j < 2 ^ 63) {d : Nat → Nat} (hcf : ∀ j, j < 120 → 0 < w j → cf j = some (d j) ∧ d j < MX) {p : Nat} (hp : p < 120) (hse : se p = true) : CtV (EE l D t) yX0_reachOnFrom tsX0_reachOnFrom (RM 3 72) [.ref (a 0), .int (nI p)] (WX a t w x y wy re de co cr cc sr so cf ck ng nw cs se) 0 0 (fun u => u = WX a t w x y wy re de co cr cc sr so cf ck ng nw (fill cs (rlx w d (gp wy x y p) (cs p) cs se) 120) se) := by
  refine CtV.of (by decide +kernel) rfl (Nat.le_of_ble_eq_true rfl) (fun X F E => ?_)
  show GG (EE l D t) X 0 0 0 [(0, .ref (a 0)), (1, .int (nI p))] [] (WX a t w x y wy re de co cr cc sr so cf ck ng nw cs se)
  have hR : ∀ i, fill cs (rlx w d (gp wy x y p) (cs p) cs se) i p = cs p := fun i => by
    unfold fill rlx
    split
    · rw [if_neg (by rw [hse]; simp)]
    · rfl
  refine g_iconst F (nI 0) dX0_reachOnFrom_0 (by decide) ?_
  refine g_istore_n (lv2 := [(0, .ref (a 0)), (1, .int (nI p)), (2, .int (nI 0))]) F dX0_reachOnFrom_1 rfl (by decide) rfl ?_
  have e0 : WX a t w x y wy re de co cr cc sr so cf ck ng nw (fill cs (rlx w d (gp wy x y p) (cs p) cs se) 0) se = WX a t w x y wy re de co cr cc sr so cf ck ng nw cs se := by rw [fill_0]
  rw [← e0]
  refine up_loop (P := fun i => GG (EE l D t) X 0 0 2 [(0, .ref (a 0)), (1, .int (nI p)), (2, .int (nI i))] [] (WX a t w x y wy re de co cr cc sr so cf ck ng nw (fill cs (rlx w d (gp wy x y p) (cs p) cs se) i) se)) 120 ?_ (fun i hi ih => ?_)
  · show GG (EE l D t) X 0 0 2 [(0, .ref (a 0)), (1, .int (nI p)), (2, .int (nI 120))] [] (WX a t w x y wy re de co cr cc sr so cf ck ng nw (fill cs (rlx w d (gp wy x y p) (cs p) cs se) 120) se)
    refine g_iload_n F dX0_reachOnFrom_2 rfl rfl ?_
    refine g_bipush F (nI 120) dX0_reachOnFrom_3 (by decide) ?_
    refine g_icmp_ge_t F 73 dX0_reachOnFrom_5 (by decide) (nI_le (Nat.le_refl 120) (by decide)) ?_
    exact E _ _ _ dX0_reachOnFrom_73 rfl
  · show GG (EE l D t) X 0 0 2 [(0, .ref (a 0)), (1, .int (nI p)), (2, .int (nI i))] [] (WX a t w x y wy re de co cr cc sr so cf ck ng nw (fill cs (rlx w d (gp wy x y p) (cs p) cs se) i) se)
    refine g_iload_n F dX0_reachOnFrom_2 rfl rfl ?_
    refine g_bipush F (nI 120) dX0_reachOnFrom_3 (by decide) ?_
    refine g_icmp_ge_f F 73 dX0_reachOnFrom_5 (by decide) (nI_ge hi (by decide)) ?_
    refine g_aload_n F dX0_reachOnFrom_8 rfl rfl ?_
    refine gX_get_weights F dX0_reachOnFrom_9 ?_
    refine g_iload_n F dX0_reachOnFrom_12 rfl rfl ?_
    refine gX_ld_weights F hi dX0_reachOnFrom_13 ?_
    refine g_if_le_n F 67 dX0_reachOnFrom_14 (by decide) (by have := hf.1 i; omega) (fun h => ?_) (fun h => ?_)
    · refine g_iinc (lv2 := [(0, .ref (a 0)), (1, .int (nI p)), (2, .int (nI (i + 1)))]) F (nI (i + 1)) dX0_reachOnFrom_67 rfl (nI_add i 1) (by decide) rfl ?_
      refine g_goto F 2 dX0_reachOnFrom_70 (by decide) ?_
      rw [fill_same (f := cs) (g := (rlx w d (gp wy x y p) (cs p) cs se)) (by unfold rlx; rw [if_neg (by omega)])] at ih
      exact ih
    · refine g_aload_n F dX0_reachOnFrom_17 rfl rfl ?_
      refine gX_get_settled F dX0_reachOnFrom_18 ?_
      refine g_iload_n F dX0_reachOnFrom_21 rfl rfl ?_
      refine gX_ld_settled F hi dX0_reachOnFrom_22 ?_
      refine g_if_ne_b F 67 dX0_reachOnFrom_23 (by decide)  (fun h2 => ?_) (fun h2 => ?_)
      · refine g_iinc (lv2 := [(0, .ref (a 0)), (1, .int (nI p)), (2, .int (nI (i + 1)))]) F (nI (i + 1)) dX0_reachOnFrom_67 rfl (nI_add i 1) (by decide) rfl ?_
        refine g_goto F 2 dX0_reachOnFrom_70 (by decide) ?_
        rw [fill_same (f := cs) (g := (rlx w d (gp wy x y p) (cs p) cs se)) (by unfold rlx; rw [if_neg (by simp [h2])])] at ih
        exact ih
      · obtain ⟨hd1, hd2⟩ := hcf i hi h
        refine g_aload_n F dX0_reachOnFrom_26 rfl rfl ?_
        refine gX_get_cost F dX0_reachOnFrom_27 ?_
        refine g_iload_n F dX0_reachOnFrom_30 rfl rfl ?_
        refine gX_ld_cost F hp dX0_reachOnFrom_31 ?_
        refine g_topl (y := lN (cs p)) (congrArg lN (hR i)) ?_
        refine g_aload_n F dX0_reachOnFrom_32 rfl rfl ?_
        refine gX_get_coreFrom F dX0_reachOnFrom_33 ?_
        refine g_iload_n F dX0_reachOnFrom_36 rfl rfl ?_
        refine gX_ld_coreFrom F hi dX0_reachOnFrom_37 ?_
        refine g_topl (y := lN (d i)) (by rw [hd1]; rfl) ?_
        refine g_maxl F dX0_reachOnFrom_38 mM_maxl ⟨by decide, Nat.le_of_ble_eq_true rfl, by decide, by decide⟩ ?_
        refine g_topl (max_lN (hcs p) (Nat.lt_trans hd2 (by decide))) ?_
        refine g_lstore_n (lv2 := [(0, .ref (a 0)), (1, .int (nI p)), (2, .int (nI i)), (3, .long (lN (max (cs p) (d i))))]) F dX0_reachOnFrom_41 rfl (by decide) rfl ?_
        refine g_aload_n F dX0_reachOnFrom_42 rfl rfl ?_
        refine gX_get_cost F dX0_reachOnFrom_43 ?_
        refine g_iload_n F dX0_reachOnFrom_46 rfl rfl ?_
        refine g_aload_n F dX0_reachOnFrom_47 rfl rfl ?_
        refine gX_get_cost F dX0_reachOnFrom_48 ?_
        refine g_iload_n F dX0_reachOnFrom_51 rfl rfl ?_
        refine gX_ld_cost F hi dX0_reachOnFrom_52 ?_
        refine g_topl (y := lN (cs i)) (congrArg lN (fill_at cs _ i)) ?_
        refine g_lload_n F dX0_reachOnFrom_53 rfl rfl ?_
        refine g_aload_n F dX0_reachOnFrom_54 rfl rfl ?_
        refine g_iload_n F dX0_reachOnFrom_55 rfl rfl ?_
        refine g_iload_n F dX0_reachOnFrom_56 rfl rfl ?_
        refine c_VL F [.long (lN (max (cs p) (d i))), .long (lN (cs i)), .int (nI i), .ref (a 9)] (wr := []) (cX_gapBetween hf.2.2.2.1 hp hi) cwX0_X0_gapBetween ⟨by decide, by decide, rfl, rfl⟩ rfl rfl rfl rfl (Nat.le_of_ble_eq_true rfl) ⟨by decide, by decide⟩ dX0_reachOnFrom_57 (fun r u hu => ?_)
        obtain ⟨rfl, rfl⟩ := hu
        show GG (EE l D t) X 0 0 60 [(0, .ref (a 0)), (1, .int (nI p)), (2, .int (nI i)), (3, .long (lN (max (cs p) (d i))))] [.long (lN (gp wy x y p i)), .long (lN (max (cs p) (d i))), .long (lN (cs i)), .int (nI i), .ref (a 9)] (WX a t w x y wy re de co cr cc sr so cf ck ng nw (fill cs (rlx w d (gp wy x y p) (cs p) cs se) i) se)
        refine g_maxl F dX0_reachOnFrom_60 mM_maxl ⟨by decide, Nat.le_of_ble_eq_true rfl, by decide, by decide⟩ ?_
        refine g_topl (max_lN (Nat.max_lt.mpr ⟨hcs p, Nat.lt_trans hd2 (by decide)⟩) (Nat.lt_trans (gp_lt hf p i) (by decide))) ?_
        refine g_minl F dX0_reachOnFrom_63 mM_minl ⟨by decide, Nat.le_of_ble_eq_true rfl, by decide, by decide⟩ ?_
        refine g_topl (min_lN (hcs i) (Nat.max_lt.mpr ⟨Nat.max_lt.mpr ⟨hcs p, Nat.lt_trans hd2 (by decide)⟩, Nat.lt_trans (gp_lt hf p i) (by decide)⟩)) ?_
        refine gX_st_cost F hi dX0_reachOnFrom_66 ?_
        refine g_iinc (lv2 := [(0, .ref (a 0)), (1, .int (nI p)), (2, .int (nI (i + 1))), (3, .long (lN (max (cs p) (d i))))]) F (nI (i + 1)) dX0_reachOnFrom_67 rfl (nI_add i 1) (by decide) rfl ?_
        refine g_goto F 2 dX0_reachOnFrom_70 (by decide) ?_
        refine g_lv [0, 1, 2] rfl ?_
        rw [fill_up (f := cs) (g := (rlx w d (gp wy x y p) (cs p) cs se)) (v := min (cs i) (max (max (cs p) (d i)) (gp wy x y p i))) (by unfold rlx; rw [if_pos ⟨h, h2⟩])] at ih
        exact ih
set_option maxHeartbeats 4000000 in
set_option maxRecDepth 100000 in
/-- leastReachFrom -/
theorem cX_leastReachFrom {l : Launch} {D : va_G} {t : Ty3} {a : Nat → Nat} {w : Nat → Nat} {x : Nat → Int32} {y : Nat → Int32} {wy : Nat} {re : Nat} {de : Nat} {co : Nat → Bool} {cr : Nat → Option Nat} {cc : Nat} {sr : Nat} {so : Bool} {cf : Nat → Option Nat} {ck : Bool} {ng : Nat → Nat} {nw : Nat → Nat} {cs : Nat → Nat} {se : Nat → Bool} (hf : WFp w x y wy re de) (hcs : ∀ j, cs j < 2 ^ 63) {d : Nat → Nat} (hcf : ∀ j, j < 120 → 0 < w j → cf j = some (d j) ∧ d j < MX) {p q : Nat} (hp : p < 120) (hq : q < 120) (hwp : 0 < w p) (hwq : 0 < w q) : CtL (EE l D t) yX0_leastReachFrom tsX0_leastReachFrom (RM 4 96) [.ref (a 0), .int (nI p), .int (nI q)] (WX a t w x y wy re de co cr cc sr so cf ck ng nw cs se) 0 0 (fun r u => ∃ cs2 se2 m, u = WX a t w x y wy re de co cr cc sr so cf ck ng nw cs2 se2 ∧ (∀ j, cs2 j < 2 ^ 63) ∧ r = lN m ∧ isMt w d (gp wy x y) p q m ∧ m < 2 ^ 63) := by
  refine CtL.of (by decide +kernel) rfl (Nat.le_of_ble_eq_true rfl) (fun X F E => ?_)
  show GG (EE l D t) X 0 0 0 [(0, .ref (a 0)), (1, .int (nI p)), (2, .int (nI q))] [] (WX a t w x y wy re de co cr cc sr so cf ck ng nw cs se)
  refine g_iconst F (nI 0) dX0_leastReachFrom_0 (by decide) ?_
  refine g_istore_n (lv2 := [(0, .ref (a 0)), (1, .int (nI p)), (2, .int (nI q)), (3, .int (nI 0))]) F dX0_leastReachFrom_1 rfl (by decide) rfl ?_
  have e0 : WX a t w x y wy re de co cr cc sr so cf ck ng nw (fill cs (fun _ => MX) 0) (fill se (fun _ => false) 0) = WX a t w x y wy re de co cr cc sr so cf ck ng nw cs se := by rw [fill_0, fill_0]
  rw [← e0]
  refine up_loop (P := fun i => GG (EE l D t) X 0 0 2 [(0, .ref (a 0)), (1, .int (nI p)), (2, .int (nI q)), (3, .int (nI i))] [] (WX a t w x y wy re de co cr cc sr so cf ck ng nw (fill cs (fun _ => MX) i) (fill se (fun _ => false) i))) 120 ?_ (fun i hi ih => ?_)
  · show GG (EE l D t) X 0 0 2 [(0, .ref (a 0)), (1, .int (nI p)), (2, .int (nI q)), (3, .int (nI 120))] [] (WX a t w x y wy re de co cr cc sr so cf ck ng nw (fill cs (fun _ => MX) 120) (fill se (fun _ => false) 120))
    refine g_iload_n F dX0_leastReachFrom_2 rfl rfl ?_
    refine g_bipush F (nI 120) dX0_leastReachFrom_3 (by decide) ?_
    refine g_icmp_ge_t F 30 dX0_leastReachFrom_5 (by decide) (nI_le (Nat.le_refl 120) (by decide)) ?_
    refine g_aload_n F dX0_leastReachFrom_30 rfl rfl ?_
    refine gX_get_cost F dX0_leastReachFrom_31 ?_
    refine g_iload_n F dX0_leastReachFrom_34 rfl rfl ?_
    refine g_aload_n F dX0_leastReachFrom_35 rfl rfl ?_
    refine gX_get_coreFrom F dX0_leastReachFrom_36 ?_
    refine g_iload_n F dX0_leastReachFrom_39 rfl rfl ?_
    refine gX_ld_coreFrom F hp dX0_leastReachFrom_40 ?_
    refine g_topl (y := lN (d p)) (by rw [(hcf p hp hwp).1]; rfl) ?_
    refine gX_st_cost F hp dX0_leastReachFrom_41 ?_
    refine g_iconst F (nI 0) dX0_leastReachFrom_42 (by decide) ?_
    refine g_istore_n (lv2 := [(0, .ref (a 0)), (1, .int (nI p)), (2, .int (nI q)), (3, .int (nI 0))]) F dX0_leastReachFrom_43 rfl (by decide) rfl ?_
    have key : ∀ (m i : Nat) (c1 : Nat → Nat) (s1 : Nat → Bool), i + m = 120 → unS s1 120 ≤ m → s1 q = false → DJ w d (gp wy x y) p c1 s1 → (∀ j, c1 j < 2 ^ 63) → GG (EE l D t) X 0 0 44 [(0, .ref (a 0)), (1, .int (nI p)), (2, .int (nI q)), (3, .int (nI i))] [] (WX a t w x y wy re de co cr cc sr so cf ck ng nw c1 s1) := by
      intro m
      induction m with
      | zero =>
        intro i c1 s1 him hu hsq
        rw [unS_0 (se := s1) 120 (by omega) q hq] at hsq
        cases hsq
      | succ m ih =>
        intro i c1 s1 him hu hsq hJ hc1
        have hi : i < 120 := by omega
        refine g_iload_n F dX0_leastReachFrom_44 rfl rfl ?_
        refine g_bipush F (nI 120) dX0_leastReachFrom_45 (by decide) ?_
        refine g_icmp_ge_f F 99 dX0_leastReachFrom_47 (by decide) (nI_ge hi (by decide)) ?_
        refine g_aload_n F dX0_leastReachFrom_50 rfl rfl ?_
        refine c_VI F [] (wr := []) (cX_cheapestUnsettled hf hc1) cwX0_X0_cheapestUnsettled ⟨by decide, by decide, rfl, rfl⟩ rfl rfl rfl rfl (Nat.le_of_ble_eq_true rfl) ⟨by decide, by decide⟩ dX0_leastReachFrom_51 (fun r u hu => ?_)
        obtain ⟨rfl, rfl⟩ := hu
        show GG (EE l D t) X 0 0 54 [(0, .ref (a 0)), (1, .int (nI p)), (2, .int (nI q)), (3, .int (nI i))] [.int (oI (chp1 w s1 c1))] (WX a t w x y wy re de co cr cc sr so cf ck ng nw c1 s1)
        cases hz : chp1 w s1 c1 with
        | none =>
          exact absurd ⟨hwq, hsq⟩ ((chp_ok 120).2 (by rw [← chp1_eq]; exact hz) q hq)
        | some b =>
          obtain ⟨hb1, hb2, hb3, hb4⟩ := (chp_ok 120).1 b (by rw [← chp1_eq]; exact hz)
          refine g_istore (lv2 := [(0, .ref (a 0)), (1, .int (nI p)), (2, .int (nI q)), (3, .int (nI i)), (4, .int (oI (some b)))]) F dX0_leastReachFrom_54 (by decide) rfl ?_
          refine g_iload F dX0_leastReachFrom_56 rfl ?_
          refine g_iconst F (oI none) dX0_leastReachFrom_58 (by decide) ?_
          refine g_icmp_ne_o F 66 dX0_leastReachFrom_59 (by decide) (fun k hk => by cases hk; omega) (fun h => ?_) (fun h => absurd h (by simp))
          show GG (EE l D t) X 0 0 66 [(0, .ref (a 0)), (1, .int (nI p)), (2, .int (nI q)), (3, .int (nI i)), (4, .int (nI b))] [] (WX a t w x y wy re de co cr cc sr so cf ck ng nw c1 s1)
          refine g_iload F dX0_leastReachFrom_66 rfl ?_
          refine g_iload_n F dX0_leastReachFrom_68 rfl rfl ?_
          refine g_icmp_ne_n F 79 dX0_leastReachFrom_69 (by decide) (by omega) (by omega) (fun h2 => ?_) (fun h2 => ?_)
          · refine g_aload_n F dX0_leastReachFrom_79 rfl rfl ?_
            refine gX_get_settled F dX0_leastReachFrom_80 ?_
            refine g_iload F dX0_leastReachFrom_83 rfl ?_
            refine g_iconst F (b2 true) dX0_leastReachFrom_85 (by decide) ?_
            refine gX_st_settled F hb1 dX0_leastReachFrom_86 ?_
            refine g_aload_n F dX0_leastReachFrom_87 rfl rfl ?_
            refine g_iload F dX0_leastReachFrom_88 rfl ?_
            refine c_VV F [] (wr := []) (cX_reachOnFrom hf hc1 hcf hb1 up_s) cwX0_X0_reachOnFrom ⟨by decide, by decide, rfl, rfl⟩ rfl rfl rfl rfl (Nat.le_of_ble_eq_true rfl) ⟨by decide, by decide⟩ dX0_leastReachFrom_90 (fun u hu => ?_)
            obtain rfl := hu
            show GG (EE l D t) X 0 0 93 [(0, .ref (a 0)), (1, .int (nI p)), (2, .int (nI q)), (3, .int (nI i)), (4, .int (nI b))] [] (WX a t w x y wy re de co cr cc sr so cf ck ng nw (fill c1 (rlx w d (gp wy x y b) (c1 b) c1 (up s1 b true)) 120) (up s1 b true))
            refine g_iinc (lv2 := [(0, .ref (a 0)), (1, .int (nI p)), (2, .int (nI q)), (3, .int (nI (i + 1))), (4, .int (nI b))]) F (nI (i + 1)) dX0_leastReachFrom_93 rfl (nI_add i 1) (by decide) rfl ?_
            refine g_goto F 44 dX0_leastReachFrom_96 (by decide) ?_
            refine g_lv [0, 1, 2, 3] rfl ?_
            refine ih (i + 1) _ _ (by omega) (by have := unS_up hb3 120 hb1; omega) (by rw [up_n (fun z => h2 z.symm)]; exact hsq) (DJ_step hJ hb1 hb2 hb3 hb4 (fun j hj => fill_in hj)) (fun j => ?_)
            unfold fill rlx
            split
            · split
              · exact Nat.lt_of_le_of_lt (Nat.min_le_left _ _) (hc1 j)
              · exact hc1 j
            · exact hc1 j
          · subst h2
            refine g_aload_n F dX0_leastReachFrom_72 rfl rfl ?_
            refine gX_get_cost F dX0_leastReachFrom_73 ?_
            refine g_iload_n F dX0_leastReachFrom_76 rfl rfl ?_
            refine gX_ld_cost F hb1 dX0_leastReachFrom_77 ?_
            exact E _ _ _ _ dX0_leastReachFrom_78 ⟨c1, s1, c1 b, rfl, hc1, rfl, ⟨hJ.1 b hb1 hb2 (DJ_min hJ hb1 hb2 hb3 hb4).1, (DJ_min hJ hb1 hb2 hb3 hb4).2⟩, hc1 b⟩
    refine key 120 0 _ _ rfl (unS_le _ 120) (fill_in hq) (DJ_0 hp hwp (fun j hj hw => (hcf j hj hw).2) (fun a b => gp_lt hf a b) up_s (fun j hj hn => by rw [up_n hn, fill_in hj]) (fun j hj => fill_in hj)) (up_bd (fun j => ?_) (Nat.lt_trans (hcf p hp hwp).2 (by decide)))
    unfold fill
    split
    · show MX < 2 ^ 63
      decide
    · exact hcs j
  · show GG (EE l D t) X 0 0 2 [(0, .ref (a 0)), (1, .int (nI p)), (2, .int (nI q)), (3, .int (nI i))] [] (WX a t w x y wy re de co cr cc sr so cf ck ng nw (fill cs (fun _ => MX) i) (fill se (fun _ => false) i))
    refine g_iload_n F dX0_leastReachFrom_2 rfl rfl ?_
    refine g_bipush F (nI 120) dX0_leastReachFrom_3 (by decide) ?_
    refine g_icmp_ge_f F 30 dX0_leastReachFrom_5 (by decide) (nI_ge hi (by decide)) ?_
    refine g_aload_n F dX0_leastReachFrom_8 rfl rfl ?_
    refine gX_get_cost F dX0_leastReachFrom_9 ?_
    refine g_iload_n F dX0_leastReachFrom_12 rfl rfl ?_
    refine g_ldc2 F (lN 9223372036854775807) dX0_leastReachFrom_13 (List.mem_cons_of_mem _ mw15_7) ?_
    refine gX_st_cost F hi dX0_leastReachFrom_16 ?_
    refine g_aload_n F dX0_leastReachFrom_17 rfl rfl ?_
    refine gX_get_settled F dX0_leastReachFrom_18 ?_
    refine g_iload_n F dX0_leastReachFrom_21 rfl rfl ?_
    refine g_iconst F (b2 false) dX0_leastReachFrom_22 (by decide) ?_
    refine gX_st_settled F hi dX0_leastReachFrom_23 ?_
    refine g_iinc (lv2 := [(0, .ref (a 0)), (1, .int (nI p)), (2, .int (nI q)), (3, .int (nI (i + 1)))]) F (nI (i + 1)) dX0_leastReachFrom_24 rfl (nI_add i 1) (by decide) rfl ?_
    refine g_goto F 2 dX0_leastReachFrom_27 (by decide) ?_
    rw [fill_up (f := cs) (g := fun _ => MX) (v := MX) rfl, fill_up (f := se) (g := fun _ => false) (v := false) rfl] at ih
    exact ih
end
section
theorem XI_sorted {w : Nat → Nat} {x y : Nat → Int32} {wy re de : Nat} {co : Nat → Bool} {cr : Nat → Option Nat} {cc sr : Nat} {so : Bool} {cf : Nat → Option Nat} {ck : Bool} {ng nw cs : Nat → Nat} {co2 : Nat → Bool} {cr2 : Nat → Option Nat} {cc2 r0 : Nat} (hI : XI w x y wy re de co cr cc sr so cf ck ng nw cs) (hb : bdC cr2) (hs : Srt w x y wy de r0 co2 cr2 cc2) (hr : r0 < 2 ^ 63) : XI w x y wy re de co2 cr2 cc2 r0 true cf ck ng nw cs :=
  ⟨hI.1, hb, hr, fun _ => hs, hI.2.2.2.2.1, hI.2.2.2.2.2.1, hI.2.2.2.2.2.2.1, hs.cc120⟩
/-- what was known is forgotten -/
theorem XI_new {w w2 : Nat → Nat} {x y x2 y2 : Nat → Int32} {wy re de wy2 re2 de2 : Nat} {co : Nat → Bool} {cr : Nat → Option Nat} {cc sr : Nat} {so : Bool} {cf : Nat → Option Nat} {ck : Bool} {ng nw cs : Nat → Nat} (hI : XI w x y wy re de co cr cc sr so cf ck ng nw cs) (hf : WFp w2 x2 y2 wy2 re2 de2) : XI w2 x2 y2 wy2 re2 de2 co cr cc sr false cf false ng nw cs :=
  ⟨hf, hI.2.1, hI.2.2.1, fun h => (by cases h), fun h => (by cases h), hI.2.2.2.2.2.1, hI.2.2.2.2.2.2.1, hI.2.2.2.2.2.2.2⟩
theorem i32_of {z lo hi : Int32} {m n : Nat} (h1 : ¬ z < lo) (h2 : z ≤ hi) (hl : lo.toInt = m) (hh : hi.toInt = n) : ∃ k, m ≤ k ∧ k ≤ n ∧ z = nI k := by
  have a1 : ¬ z.toInt < lo.toInt := fun q => h1 (Int32.lt_iff_toInt_lt.mpr q)
  have a2 := Int32.le_iff_toInt_le.mp h2
  have a3 := hi.toInt_lt
  refine ⟨z.toInt.toNat, by omega, by omega, Int32.toInt_inj.mp ?_⟩
  rw [nI_toInt (by omega)]
  omega
theorem up_R {x : Nat → Int32} {j : Nat} {v : Int32} (h : ∀ i, inR (x i)) (hv : inR v) : ∀ i, inR (up x j v i) := fun i => by
  unfold up
  split
  · exact hv
  · exact h i
theorem WFp_pt {w : Nat → Nat} {x y : Nat → Int32} {wy re de j n : Nat} {px py : Int32} (hf : WFp w x y wy re de) (hn : n ≤ 20) (hp : isPl px py = true) : WFp (up w j n) (up x j px) (up y j py) wy re de :=
  ⟨up_le hf.1 hn, up_R hf.2.1 (isPl_inR hp).1, up_R hf.2.2.1 (isPl_inR hp).2, hf.2.2.2⟩
theorem WFp_mv {w : Nat → Nat} {x y : Nat → Int32} {wy re de j : Nat} {px py : Int32} (hf : WFp w x y wy re de) (hp : isPl px py = true) : WFp w (up x j px) (up y j py) wy re de :=
  ⟨hf.1, up_R hf.2.1 (isPl_inR hp).1, up_R hf.2.2.1 (isPl_inR hp).2, hf.2.2.2⟩
theorem WFp_rm {w : Nat → Nat} {x y : Nat → Int32} {wy re de j : Nat} (hf : WFp w x y wy re de) : WFp (up w j 0) x y wy re de := ⟨up_le hf.1 (by omega), hf.2⟩
set_option maxHeartbeats 4000000 in
set_option maxRecDepth 100000 in
/-- point -/
theorem cX_point {l : Launch} {D : va_G} {t : Ty3} {a : Nat → Nat} {w : Nat → Nat} {x : Nat → Int32} {y : Nat → Int32} {wy : Nat} {re : Nat} {de : Nat} {co : Nat → Bool} {cr : Nat → Option Nat} {cc : Nat} {sr : Nat} {so : Bool} {cf : Nat → Option Nat} {ck : Bool} {ng : Nat → Nat} {nw : Nat → Nat} {cs : Nat → Nat} {se : Nat → Bool} (hI : XI w x y wy re de co cr cc sr so cf ck ng nw cs) (p0 p1 p2 : Int32) : CtI (EE l D t) yX0_point tsX0_point (RM 2 43) [.ref (a 0), .int p0, .int p1, .int p2] (WX a t w x y wy re de co cr cc sr so cf ck ng nw cs se) 0 0 (fun r u => r = (pointF w x y wy re de p0 p1 p2).1 ∧ XW a t (pointF w x y wy re de p0 p1 p2).2 u) := by
  refine CtI.of (by decide +kernel) rfl (Nat.le_of_ble_eq_true rfl) (fun X F E => ?_)
  show GG (EE l D t) X 0 0 0 [(0, .ref (a 0)), (1, .int p0), (2, .int p1), (3, .int p2)] [] (WX a t w x y wy re de co cr cc sr so cf ck ng nw cs se)
  refine g_iload_n F dX0_point_0 rfl rfl ?_
  refine g_iload_n F dX0_point_1 rfl rfl ?_
  refine c_SI F [] (wr := []) (cX_isPlace p0 p1) cwX0_X0_isPlace ⟨by decide, by decide, rfl, rfl⟩ rfl rfl (Nat.le_of_ble_eq_true rfl) ⟨by decide, by decide⟩ dX0_point_2 (fun r u hu => ?_)
  obtain ⟨rfl, rfl⟩ := hu
  show GG (EE l D t) X 0 0 5 [(0, .ref (a 0)), (1, .int p0), (2, .int p1), (3, .int p2)] [.int (b2 (isPl p0 p1))] (WX a t w x y wy re de co cr cc sr so cf ck ng nw cs se)
  refine g_if_eq_b F 19 dX0_point_5 (by decide)  (fun h => ?_) (fun h => ?_)
  · refine g_iconst F (oI none) dX0_point_19 (by decide) ?_
    exact E _ _ _ _ dX0_point_20 (by rw [show pointF w x y wy re de p0 p1 p2 = (oI none, (w, x, y, wy, re, de)) from by unfold pointF; rw [if_neg (fun z => by rw [h] at z; cases z.1)]]; exact ⟨rfl, ⟨_, _, _, _, _, _, _, _, _, _, _, rfl, hI⟩⟩)
  · refine g_iload_n F dX0_point_8 rfl rfl ?_
    refine g_iconst F 1 dX0_point_9 (by decide) ?_
    refine g_icmp_lt F 19 dX0_point_10 (by decide)  (fun h2 => ?_) (fun h2 => ?_)
    · refine g_iconst F (oI none) dX0_point_19 (by decide) ?_
      exact E _ _ _ _ dX0_point_20 (by rw [show pointF w x y wy re de p0 p1 p2 = (oI none, (w, x, y, wy, re, de)) from by unfold pointF; rw [if_neg (fun z => z.2.1 h2)]]; exact ⟨rfl, ⟨_, _, _, _, _, _, _, _, _, _, _, rfl, hI⟩⟩)
    · refine g_iload_n F dX0_point_13 rfl rfl ?_
      refine g_bipush F 20 dX0_point_14 (by decide) ?_
      refine g_icmp_le F 21 dX0_point_16 (by decide)  (fun h3 => ?_) (fun h3 => ?_)
      · refine g_aload_n F dX0_point_21 rfl rfl ?_
        refine c_VI F [] (wr := []) (cX_leastFree hI.1.1) cwX0_X0_leastFree ⟨by decide, by decide, rfl, rfl⟩ rfl rfl rfl rfl (Nat.le_of_ble_eq_true rfl) ⟨by decide, by decide⟩ dX0_point_22 (fun r u hu => ?_)
        obtain ⟨rfl, rfl⟩ := hu
        show GG (EE l D t) X 0 0 25 [(0, .ref (a 0)), (1, .int p0), (2, .int p1), (3, .int p2)] [.int (oI (fst1 (fun j => decide (w j = 0))))] (WX a t w x y wy re de co cr cc sr so cf ck ng nw cs se)
        cases hq : fst1 (fun j => decide (w j = 0)) with
        | none =>
          refine g_istore (lv2 := [(0, .ref (a 0)), (1, .int p0), (2, .int p1), (3, .int p2), (4, .int (oI none))]) F dX0_point_25 (by decide) rfl ?_
          refine g_iload F dX0_point_27 rfl ?_
          refine g_iconst F (oI none) dX0_point_29 (by decide) ?_
          refine g_icmp_ne_o F 35 dX0_point_30 (by decide) (fun k hk => by cases hk) (fun h => absurd rfl h) (fun h9 => ?_)
          refine g_iconst F (oI none) dX0_point_33 (by decide) ?_
          exact E _ _ _ _ dX0_point_34 (by rw [show pointF w x y wy re de p0 p1 p2 = (oI none, (w, x, y, wy, re, de)) from by unfold pointF; rw [if_pos ⟨h, h2, h3⟩, hq]]; exact ⟨rfl, ⟨_, _, _, _, _, _, _, _, _, _, _, rfl, hI⟩⟩)
        | some j =>
          refine g_istore (lv2 := [(0, .ref (a 0)), (1, .int p0), (2, .int p1), (3, .int p2), (4, .int (oI (some j)))]) F dX0_point_25 (by decide) rfl ?_
          refine g_iload F dX0_point_27 rfl ?_
          refine g_iconst F (oI none) dX0_point_29 (by decide) ?_
          obtain ⟨hj, -, -⟩ := firstN_spec (by rw [← fst1_eq]; exact hq)
          refine g_icmp_ne_o F 35 dX0_point_30 (by decide) (fun k hk => by cases hk; omega) (fun h9 => ?_) (fun h9 => absurd h9 (by simp))
          obtain ⟨m, hm1, hm2, rfl⟩ := i32_of (m := 1) (n := 20) h2 h3 (by decide) (by decide)
          show GG (EE l D t) X 0 0 35 [(0, .ref (a 0)), (1, .int p0), (2, .int p1), (3, .int (nI m)), (4, .int (nI j))] [] (WX a t w x y wy re de co cr cc sr so cf ck ng nw cs se)
          refine g_aload_n F dX0_point_35 rfl rfl ?_
          refine gX_get_weights F dX0_point_36 ?_
          refine g_iload F dX0_point_39 rfl ?_
          refine g_iload_n F dX0_point_41 rfl rfl ?_
          refine gX_st_weights F hj dX0_point_42 ?_
          refine g_aload_n F dX0_point_43 rfl rfl ?_
          refine g_iload F dX0_point_44 rfl ?_
          refine g_iload_n F dX0_point_46 rfl rfl ?_
          refine g_iload_n F dX0_point_47 rfl rfl ?_
          refine c_VV F [] (wr := []) (cX_put hj p0 p1) cwX0_X0_put ⟨by decide, by decide, rfl, rfl⟩ rfl rfl rfl rfl (Nat.le_of_ble_eq_true rfl) ⟨by decide, by decide⟩ dX0_point_48 (fun u hu => ?_)
          obtain rfl := hu
          show GG (EE l D t) X 0 0 51 [(0, .ref (a 0)), (1, .int p0), (2, .int p1), (3, .int (nI m)), (4, .int (nI j))] [] (WX a t (up w j m) (up x j p0) (up y j p1) wy re de co cr cc sr false cf false ng nw cs se)
          refine g_iload F dX0_point_51 rfl ?_
          exact E _ _ _ _ dX0_point_53 (by rw [show pointF w x y wy re de p0 p1 (nI m) = (nI j, (up w j m, up x j p0, up y j p1, wy, re, de)) from by unfold pointF; rw [if_pos ⟨h, h2, h3⟩, hq]; dsimp only; rw [nI_clamp (by omega)]]; exact ⟨rfl, ⟨_, _, _, _, _, _, _, _, _, _, _, rfl, XI_new hI (WFp_pt hI.1 hm2 h)⟩⟩)
      · refine g_iconst F (oI none) dX0_point_19 (by decide) ?_
        exact E _ _ _ _ dX0_point_20 (by rw [show pointF w x y wy re de p0 p1 p2 = (oI none, (w, x, y, wy, re, de)) from by unfold pointF; rw [if_neg (fun z => h3 z.2.2)]]; exact ⟨rfl, ⟨_, _, _, _, _, _, _, _, _, _, _, rfl, hI⟩⟩)
set_option maxHeartbeats 4000000 in
set_option maxRecDepth 100000 in
/-- remove -/
theorem cX_remove {l : Launch} {D : va_G} {t : Ty3} {a : Nat → Nat} {w : Nat → Nat} {x : Nat → Int32} {y : Nat → Int32} {wy : Nat} {re : Nat} {de : Nat} {co : Nat → Bool} {cr : Nat → Option Nat} {cc : Nat} {sr : Nat} {so : Bool} {cf : Nat → Option Nat} {ck : Bool} {ng : Nat → Nat} {nw : Nat → Nat} {cs : Nat → Nat} {se : Nat → Bool} (hI : XI w x y wy re de co cr cc sr so cf ck ng nw cs) (p : Int32) : CtI (EE l D t) yX0_remove tsX0_remove (RM 1 22) [.ref (a 0), .int p] (WX a t w x y wy re de co cr cc sr so cf ck ng nw cs se) 0 0 (fun r u => r = (removeF w x y wy re de p).1 ∧ XW a t (removeF w x y wy re de p).2 u) := by
  refine CtI.of (by decide +kernel) rfl (Nat.le_of_ble_eq_true rfl) (fun X F E => ?_)
  show GG (EE l D t) X 0 0 0 [(0, .ref (a 0)), (1, .int p)] [] (WX a t w x y wy re de co cr cc sr so cf ck ng nw cs se)
  refine g_aload_n F dX0_remove_0 rfl rfl ?_
  refine g_iload_n F dX0_remove_1 rfl rfl ?_
  refine c_VI F [] (wr := []) (cX_isPoint hI.1.1 p) cwX0_X0_isPoint ⟨by decide, by decide, rfl, rfl⟩ rfl rfl rfl rfl (Nat.le_of_ble_eq_true rfl) ⟨by decide, by decide⟩ dX0_remove_2 (fun r u hu => ?_)
  obtain ⟨rfl, rfl⟩ := hu
  show GG (EE l D t) X 0 0 5 [(0, .ref (a 0)), (1, .int p)] [.int (b2 (isPt (fun j => decide (0 < w j)) p))] (WX a t w x y wy re de co cr cc sr so cf ck ng nw cs se)
  refine g_if_ne_b F 10 dX0_remove_5 (by decide)  (fun h => ?_) (fun h => ?_)
  · obtain ⟨j, hj, rfl, hwj⟩ := isPt_t h
    have hwj : 0 < w j := of_decide_eq_true hwj
    refine g_aload_n F dX0_remove_10 rfl rfl ?_
    refine gX_get_weights F dX0_remove_11 ?_
    refine g_iload_n F dX0_remove_14 rfl rfl ?_
    refine g_iconst F (nI 0) dX0_remove_15 (by decide) ?_
    refine gX_st_weights F hj dX0_remove_16 ?_
    refine g_aload_n F dX0_remove_17 rfl rfl ?_
    refine c_VV F [] (wr := []) cX_forget cwX0_X0_forget ⟨by decide, by decide, rfl, rfl⟩ rfl rfl rfl rfl (Nat.le_of_ble_eq_true rfl) ⟨by decide, by decide⟩ dX0_remove_18 (fun u hu => ?_)
    obtain rfl := hu
    show GG (EE l D t) X 0 0 21 [(0, .ref (a 0)), (1, .int (nI j))] [] (WX a t (up w j 0) x y wy re de co cr cc sr false cf false ng nw cs se)
    refine g_aload_n F dX0_remove_21 rfl rfl ?_
    refine c_VI F [] (wr := []) (cX_countPoints (up_le hI.1.1 (by omega))) cwX0_X0_countPoints ⟨by decide, by decide, rfl, rfl⟩ rfl rfl rfl rfl (Nat.le_of_ble_eq_true rfl) ⟨by decide, by decide⟩ dX0_remove_22 (fun r u hu => ?_)
    obtain ⟨rfl, rfl⟩ := hu
    show GG (EE l D t) X 0 0 25 [(0, .ref (a 0)), (1, .int (nI j))] [.int (nI (sum1 (fun i => if 0 < up w j 0 i then 1 else 0)))] (WX a t (up w j 0) x y wy re de co cr cc sr false cf false ng nw cs se)
    exact E _ _ _ _ dX0_remove_25 (by rw [show removeF w x y wy re de (nI j) = (nI (sum1 (fun i => if 0 < up w j 0 i then 1 else 0)), (up w j 0, x, y, wy, re, de)) from by unfold removeF; rw [pt_nI hj hwj]]; exact ⟨rfl, ⟨_, _, _, _, _, _, _, _, _, _, _, rfl, XI_new hI (WFp_rm hI.1)⟩⟩)
  · refine g_iconst F (oI none) dX0_remove_8 (by decide) ?_
    exact E _ _ _ _ dX0_remove_9 (by rw [show removeF w x y wy re de p = (oI none, (w, x, y, wy, re, de)) from by unfold removeF; rw [pt_f h]]; exact ⟨rfl, ⟨_, _, _, _, _, _, _, _, _, _, _, rfl, hI⟩⟩)
set_option maxHeartbeats 4000000 in
set_option maxRecDepth 100000 in
/-- move -/
theorem cX_move {l : Launch} {D : va_G} {t : Ty3} {a : Nat → Nat} {w : Nat → Nat} {x : Nat → Int32} {y : Nat → Int32} {wy : Nat} {re : Nat} {de : Nat} {co : Nat → Bool} {cr : Nat → Option Nat} {cc : Nat} {sr : Nat} {so : Bool} {cf : Nat → Option Nat} {ck : Bool} {ng : Nat → Nat} {nw : Nat → Nat} {cs : Nat → Nat} {se : Nat → Bool} (hI : XI w x y wy re de co cr cc sr so cf ck ng nw cs) (p p0 p1 : Int32) : CtI (EE l D t) yX0_move tsX0_move (RM 2 43) [.ref (a 0), .int p, .int p0, .int p1] (WX a t w x y wy re de co cr cc sr so cf ck ng nw cs se) 0 0 (fun r u => r = (moveF w x y wy re de p p0 p1).1 ∧ XW a t (moveF w x y wy re de p p0 p1).2 u) := by
  refine CtI.of (by decide +kernel) rfl (Nat.le_of_ble_eq_true rfl) (fun X F E => ?_)
  show GG (EE l D t) X 0 0 0 [(0, .ref (a 0)), (1, .int p), (2, .int p0), (3, .int p1)] [] (WX a t w x y wy re de co cr cc sr so cf ck ng nw cs se)
  refine g_aload_n F dX0_move_0 rfl rfl ?_
  refine g_iload_n F dX0_move_1 rfl rfl ?_
  refine c_VI F [] (wr := []) (cX_isPoint hI.1.1 p) cwX0_X0_isPoint ⟨by decide, by decide, rfl, rfl⟩ rfl rfl rfl rfl (Nat.le_of_ble_eq_true rfl) ⟨by decide, by decide⟩ dX0_move_2 (fun r u hu => ?_)
  obtain ⟨rfl, rfl⟩ := hu
  show GG (EE l D t) X 0 0 5 [(0, .ref (a 0)), (1, .int p), (2, .int p0), (3, .int p1)] [.int (b2 (isPt (fun j => decide (0 < w j)) p))] (WX a t w x y wy re de co cr cc sr so cf ck ng nw cs se)
  refine g_if_eq_b F 16 dX0_move_5 (by decide)  (fun h => ?_) (fun h => ?_)
  · refine g_iconst F (nI 0) dX0_move_16 (by decide) ?_
    exact E _ _ _ _ dX0_move_17 (by rw [show moveF w x y wy re de p p0 p1 = (nI 0, (w, x, y, wy, re, de)) from by unfold moveF; rw [pt_f h]]; exact ⟨rfl, ⟨_, _, _, _, _, _, _, _, _, _, _, rfl, hI⟩⟩)
  · obtain ⟨j, hj, rfl, hwj⟩ := isPt_t h
    have hwj : 0 < w j := of_decide_eq_true hwj
    refine g_iload_n F dX0_move_8 rfl rfl ?_
    refine g_iload_n F dX0_move_9 rfl rfl ?_
    refine c_SI F [] (wr := []) (cX_isPlace p0 p1) cwX0_X0_isPlace ⟨by decide, by decide, rfl, rfl⟩ rfl rfl (Nat.le_of_ble_eq_true rfl) ⟨by decide, by decide⟩ dX0_move_10 (fun r u hu => ?_)
    obtain ⟨rfl, rfl⟩ := hu
    show GG (EE l D t) X 0 0 13 [(0, .ref (a 0)), (1, .int (nI j)), (2, .int p0), (3, .int p1)] [.int (b2 (isPl p0 p1))] (WX a t w x y wy re de co cr cc sr so cf ck ng nw cs se)
    refine g_if_ne_b F 18 dX0_move_13 (by decide)  (fun h2 => ?_) (fun h2 => ?_)
    · refine g_aload_n F dX0_move_18 rfl rfl ?_
      refine g_iload_n F dX0_move_19 rfl rfl ?_
      refine g_iload_n F dX0_move_20 rfl rfl ?_
      refine g_iload_n F dX0_move_21 rfl rfl ?_
      refine c_VV F [] (wr := []) (cX_put hj p0 p1) cwX0_X0_put ⟨by decide, by decide, rfl, rfl⟩ rfl rfl rfl rfl (Nat.le_of_ble_eq_true rfl) ⟨by decide, by decide⟩ dX0_move_22 (fun u hu => ?_)
      obtain rfl := hu
      show GG (EE l D t) X 0 0 25 [(0, .ref (a 0)), (1, .int (nI j)), (2, .int p0), (3, .int p1)] [] (WX a t w (up x j p0) (up y j p1) wy re de co cr cc sr false cf false ng nw cs se)
      refine g_iconst F (nI 1) dX0_move_25 (by decide) ?_
      exact E _ _ _ _ dX0_move_26 (by rw [show moveF w x y wy re de (nI j) p0 p1 = (nI 1, (w, up x j p0, up y j p1, wy, re, de)) from by unfold moveF; rw [pt_nI hj hwj]; dsimp only; rw [if_pos h2]]; exact ⟨rfl, ⟨_, _, _, _, _, _, _, _, _, _, _, rfl, XI_new hI (WFp_mv hI.1 h2)⟩⟩)
    · refine g_iconst F (nI 0) dX0_move_16 (by decide) ?_
      exact E _ _ _ _ dX0_move_17 (by rw [show moveF w x y wy re de (nI j) p0 p1 = (nI 0, (w, x, y, wy, re, de)) from by unfold moveF; rw [pt_nI hj hwj]; dsimp only; rw [if_neg (by simp [h2])]]; exact ⟨rfl, ⟨_, _, _, _, _, _, _, _, _, _, _, rfl, hI⟩⟩)
set_option maxHeartbeats 4000000 in
set_option maxRecDepth 100000 in
/-- way -/
theorem cX_way {l : Launch} {D : va_G} {t : Ty3} {a : Nat → Nat} {w : Nat → Nat} {x : Nat → Int32} {y : Nat → Int32} {wy : Nat} {re : Nat} {de : Nat} {co : Nat → Bool} {cr : Nat → Option Nat} {cc : Nat} {sr : Nat} {so : Bool} {cf : Nat → Option Nat} {ck : Bool} {ng : Nat → Nat} {nw : Nat → Nat} {cs : Nat → Nat} {se : Nat → Bool} (hI : XI w x y wy re de co cr cc sr so cf ck ng nw cs) (p : Int32) : CtI (EE l D t) yX0_way tsX0_way (RM 1 20) [.ref (a 0), .int p] (WX a t w x y wy re de co cr cc sr so cf ck ng nw cs se) 0 0 (fun r u => r = (wayF w x y wy re de p).1 ∧ XW a t (wayF w x y wy re de p).2 u) := by
  refine CtI.of (by decide +kernel) rfl (Nat.le_of_ble_eq_true rfl) (fun X F E => ?_)
  show GG (EE l D t) X 0 0 0 [(0, .ref (a 0)), (1, .int p)] [] (WX a t w x y wy re de co cr cc sr so cf ck ng nw cs se)
  refine g_iload_n F dX0_way_0 rfl rfl ?_
  refine g_if_lt F 9 dX0_way_1 (by decide)  (fun h => ?_) (fun h => ?_)
  · refine g_iconst F (nI 0) dX0_way_9 (by decide) ?_
    exact E _ _ _ _ dX0_way_10 (by rw [show wayF w x y wy re de p = (nI 0, (w, x, y, wy, re, de)) from by unfold wayF; rw [if_neg (fun z => z.1 h)]]; exact ⟨rfl, ⟨_, _, _, _, _, _, _, _, _, _, _, rfl, hI⟩⟩)
  · refine g_iload_n F dX0_way_4 rfl rfl ?_
    refine g_iconst F 2 dX0_way_5 (by decide) ?_
    refine g_icmp_le F 11 dX0_way_6 (by decide)  (fun h2 => ?_) (fun h2 => ?_)
    · obtain ⟨m, hm1, hm2, rfl⟩ := i32_of (m := 0) (n := 2) h h2 (by decide) (by decide)
      refine g_aload_n F dX0_way_11 rfl rfl ?_
      refine g_iload_n F dX0_way_12 rfl rfl ?_
      refine gX_put_wayNow F dX0_way_13 ?_
      refine g_aload_n F dX0_way_16 rfl rfl ?_
      refine c_VV F [] (wr := []) cX_forget cwX0_X0_forget ⟨by decide, by decide, rfl, rfl⟩ rfl rfl rfl rfl (Nat.le_of_ble_eq_true rfl) ⟨by decide, by decide⟩ dX0_way_17 (fun u hu => ?_)
      obtain rfl := hu
      show GG (EE l D t) X 0 0 20 [(0, .ref (a 0)), (1, .int (nI m))] [] (WX a t w x y m re de co cr cc sr false cf false ng nw cs se)
      refine g_iconst F (nI 1) dX0_way_20 (by decide) ?_
      exact E _ _ _ _ dX0_way_21 (by rw [show wayF w x y wy re de (nI m) = (nI 1, (w, x, y, m, re, de)) from by unfold wayF; rw [if_pos ⟨h, h2⟩, nI_clamp (by omega)]]; exact ⟨rfl, ⟨_, _, _, _, _, _, _, _, _, _, _, rfl, XI_new hI ⟨hI.1.1, hI.1.2.1, hI.1.2.2.1, hm2, hI.1.2.2.2.2⟩⟩⟩)
    · refine g_iconst F (nI 0) dX0_way_9 (by decide) ?_
      exact E _ _ _ _ dX0_way_10 (by rw [show wayF w x y wy re de p = (nI 0, (w, x, y, wy, re, de)) from by unfold wayF; rw [if_neg (fun z => h2 z.2)]]; exact ⟨rfl, ⟨_, _, _, _, _, _, _, _, _, _, _, rfl, hI⟩⟩)
theorem l_neg {z : Int64} (h : ¬ 0 ≤ z) : z < 0 := by
  rcases lg_tri z 0 with q | q | q
  · exact q
  · exact absurd (by rw [q]; exact Int64.le_refl _) h
  · exact absurd (Int64.le_of_lt q) h
set_option maxHeartbeats 4000000 in
set_option maxRecDepth 100000 in
/-- reach -/
theorem cX_reach {l : Launch} {D : va_G} {t : Ty3} {a : Nat → Nat} {w : Nat → Nat} {x : Nat → Int32} {y : Nat → Int32} {wy : Nat} {re : Nat} {de : Nat} {co : Nat → Bool} {cr : Nat → Option Nat} {cc : Nat} {sr : Nat} {so : Bool} {cf : Nat → Option Nat} {ck : Bool} {ng : Nat → Nat} {nw : Nat → Nat} {cs : Nat → Nat} {se : Nat → Bool} (hI : XI w x y wy re de co cr cc sr so cf ck ng nw cs) (p : Int64) : CtI (EE l D t) yX0_reach tsX0_reach (RM 0 0) [.ref (a 0), .long p] (WX a t w x y wy re de co cr cc sr so cf ck ng nw cs se) 0 0 (fun r u => r = (reachF w x y wy re de p).1 ∧ XW a t (reachF w x y wy re de p).2 u) := by
  refine CtI.of (by decide +kernel) rfl (Nat.le_of_ble_eq_true rfl) (fun X F E => ?_)
  show GG (EE l D t) X 0 0 0 [(0, .ref (a 0)), (1, .long p)] [] (WX a t w x y wy re de co cr cc sr so cf ck ng nw cs se)
  refine g_lload_n F dX0_reach_0 rfl rfl ?_
  refine g_lconst F 0 dX0_reach_1 rfl ?_
  refine g_lc_ge F 8 dX0_reach_2 dX0_reach_3 (by decide)  (fun h => ?_) (fun h => ?_)
  · have h9 : ¬ p < 0 := lg_le_not_lt h
    obtain ⟨m, hm, rfl⟩ := pk_lOf h9
    refine g_aload_n F dX0_reach_8 rfl rfl ?_
    refine g_lload_n F dX0_reach_9 rfl rfl ?_
    refine gX_put_reachNow F dX0_reach_10 ?_
    refine g_iconst F (nI 1) dX0_reach_13 (by decide) ?_
    exact E _ _ _ _ dX0_reach_14 (by rw [show reachF w x y wy re de (lN m) = (nI 1, (w, x, y, wy, m, de)) from by unfold reachF; rw [if_neg h9, pk_lT hm]; rfl]; exact ⟨rfl, ⟨_, _, _, _, _, _, _, _, _, _, _, rfl, ⟨⟨hI.1.1, hI.1.2.1, hI.1.2.2.1, hI.1.2.2.2.1, hm, hI.1.2.2.2.2.2⟩, hI.2⟩⟩⟩)
  · refine g_iconst F (nI 0) dX0_reach_6 (by decide) ?_
    exact E _ _ _ _ dX0_reach_7 (by rw [show reachF w x y wy re de p = (nI 0, (w, x, y, wy, re, de)) from by unfold reachF; rw [if_pos (l_neg h)]]; exact ⟨rfl, ⟨_, _, _, _, _, _, _, _, _, _, _, rfl, hI⟩⟩)
set_option maxHeartbeats 4000000 in
set_option maxRecDepth 100000 in
/-- demand -/
theorem cX_demand {l : Launch} {D : va_G} {t : Ty3} {a : Nat → Nat} {w : Nat → Nat} {x : Nat → Int32} {y : Nat → Int32} {wy : Nat} {re : Nat} {de : Nat} {co : Nat → Bool} {cr : Nat → Option Nat} {cc : Nat} {sr : Nat} {so : Bool} {cf : Nat → Option Nat} {ck : Bool} {ng : Nat → Nat} {nw : Nat → Nat} {cs : Nat → Nat} {se : Nat → Bool} (hI : XI w x y wy re de co cr cc sr so cf ck ng nw cs) (p : Int32) : CtI (EE l D t) yX0_demand tsX0_demand (RM 1 20) [.ref (a 0), .int p] (WX a t w x y wy re de co cr cc sr so cf ck ng nw cs se) 0 0 (fun r u => r = (demandF w x y wy re de p).1 ∧ XW a t (demandF w x y wy re de p).2 u) := by
  refine CtI.of (by decide +kernel) rfl (Nat.le_of_ble_eq_true rfl) (fun X F E => ?_)
  show GG (EE l D t) X 0 0 0 [(0, .ref (a 0)), (1, .int p)] [] (WX a t w x y wy re de co cr cc sr so cf ck ng nw cs se)
  refine g_iload_n F dX0_demand_0 rfl rfl ?_
  refine g_iconst F 1 dX0_demand_1 (by decide) ?_
  refine g_icmp_lt F 12 dX0_demand_2 (by decide)  (fun h => ?_) (fun h => ?_)
  · refine g_iconst F (nI 0) dX0_demand_12 (by decide) ?_
    exact E _ _ _ _ dX0_demand_13 (by rw [show demandF w x y wy re de p = (nI 0, (w, x, y, wy, re, de)) from by unfold demandF; rw [if_neg (fun z => z.1 h)]]; exact ⟨rfl, ⟨_, _, _, _, _, _, _, _, _, _, _, rfl, hI⟩⟩)
  · refine g_iload_n F dX0_demand_5 rfl rfl ?_
    refine g_sipush F 2400 dX0_demand_6 (by decide) ?_
    refine g_icmp_le F 14 dX0_demand_9 (by decide)  (fun h2 => ?_) (fun h2 => ?_)
    · obtain ⟨m, hm1, hm2, rfl⟩ := i32_of (m := 1) (n := 2400) h h2 (by decide) (by decide)
      refine g_aload_n F dX0_demand_14 rfl rfl ?_
      refine g_iload_n F dX0_demand_15 rfl rfl ?_
      refine gX_put_demandNow F dX0_demand_16 ?_
      refine g_aload_n F dX0_demand_19 rfl rfl ?_
      refine c_VV F [] (wr := []) cX_forget cwX0_X0_forget ⟨by decide, by decide, rfl, rfl⟩ rfl rfl rfl rfl (Nat.le_of_ble_eq_true rfl) ⟨by decide, by decide⟩ dX0_demand_20 (fun u hu => ?_)
      obtain rfl := hu
      show GG (EE l D t) X 0 0 23 [(0, .ref (a 0)), (1, .int (nI m))] [] (WX a t w x y wy re m co cr cc sr false cf false ng nw cs se)
      refine g_iconst F (nI 1) dX0_demand_23 (by decide) ?_
      exact E _ _ _ _ dX0_demand_24 (by rw [show demandF w x y wy re de (nI m) = (nI 1, (w, x, y, wy, re, m)) from by unfold demandF; rw [if_pos ⟨h, h2⟩, nI_clamp (by omega)]]; exact ⟨rfl, ⟨_, _, _, _, _, _, _, _, _, _, _, rfl, XI_new hI ⟨hI.1.1, hI.1.2.1, hI.1.2.2.1, hI.1.2.2.2.1, hI.1.2.2.2.2.1, hm1, hm2⟩⟩⟩)
    · refine g_iconst F (nI 0) dX0_demand_12 (by decide) ?_
      exact E _ _ _ _ dX0_demand_13 (by rw [show demandF w x y wy re de p = (nI 0, (w, x, y, wy, re, de)) from by unfold demandF; rw [if_neg (fun z => h2 z.2)]]; exact ⟨rfl, ⟨_, _, _, _, _, _, _, _, _, _, _, rfl, hI⟩⟩)
set_option maxHeartbeats 4000000 in
set_option maxRecDepth 100000 in
/-- distance -/
theorem cX_distance {l : Launch} {D : va_G} {t : Ty3} {a : Nat → Nat} {w : Nat → Nat} {x : Nat → Int32} {y : Nat → Int32} {wy : Nat} {re : Nat} {de : Nat} {co : Nat → Bool} {cr : Nat → Option Nat} {cc : Nat} {sr : Nat} {so : Bool} {cf : Nat → Option Nat} {ck : Bool} {ng : Nat → Nat} {nw : Nat → Nat} {cs : Nat → Nat} {se : Nat → Bool} (hI : XI w x y wy re de co cr cc sr so cf ck ng nw cs) (p q : Int32) : CtL (EE l D t) yX0_distance tsX0_distance (RM 3 72) [.ref (a 0), .int p, .int q] (WX a t w x y wy re de co cr cc sr so cf ck ng nw cs se) 0 0 (fun r u => r = distF w x y wy p q ∧ XW a t (w, x, y, wy, re, de) u) := by
  refine CtL.of (by decide +kernel) rfl (Nat.le_of_ble_eq_true rfl) (fun X F E => ?_)
  show GG (EE l D t) X 0 0 0 [(0, .ref (a 0)), (1, .int p), (2, .int q)] [] (WX a t w x y wy re de co cr cc sr so cf ck ng nw cs se)
  refine g_aload_n F dX0_distance_0 rfl rfl ?_
  refine g_iload_n F dX0_distance_1 rfl rfl ?_
  refine c_VI F [] (wr := []) (cX_isPoint hI.1.1 p) cwX0_X0_isPoint ⟨by decide, by decide, rfl, rfl⟩ rfl rfl rfl rfl (Nat.le_of_ble_eq_true rfl) ⟨by decide, by decide⟩ dX0_distance_2 (fun r u hu => ?_)
  obtain ⟨rfl, rfl⟩ := hu
  show GG (EE l D t) X 0 0 5 [(0, .ref (a 0)), (1, .int p), (2, .int q)] [.int (b2 (isPt (fun j => decide (0 < w j)) p))] (WX a t w x y wy re de co cr cc sr so cf ck ng nw cs se)
  refine g_if_eq_b F 16 dX0_distance_5 (by decide)  (fun h => ?_) (fun h => ?_)
  · refine g_ldc2 F (oL none) dX0_distance_16 (List.mem_cons_of_mem _ mw6_19) ?_
    exact E _ _ _ _ dX0_distance_19 ⟨by unfold distF; rw [pt_f h], ⟨_, _, _, _, _, _, _, _, _, _, _, rfl, hI⟩⟩
  · obtain ⟨i, hi, rfl, hwi⟩ := isPt_t h
    have hwi : 0 < w i := of_decide_eq_true hwi
    refine g_aload_n F dX0_distance_8 rfl rfl ?_
    refine g_iload_n F dX0_distance_9 rfl rfl ?_
    refine c_VI F [] (wr := []) (cX_isPoint hI.1.1 q) cwX0_X0_isPoint ⟨by decide, by decide, rfl, rfl⟩ rfl rfl rfl rfl (Nat.le_of_ble_eq_true rfl) ⟨by decide, by decide⟩ dX0_distance_10 (fun r u hu => ?_)
    obtain ⟨rfl, rfl⟩ := hu
    show GG (EE l D t) X 0 0 13 [(0, .ref (a 0)), (1, .int (nI i)), (2, .int q)] [.int (b2 (isPt (fun j => decide (0 < w j)) q))] (WX a t w x y wy re de co cr cc sr so cf ck ng nw cs se)
    refine g_if_ne_b F 20 dX0_distance_13 (by decide)  (fun h2 => ?_) (fun h2 => ?_)
    · obtain ⟨j, hj, rfl, hwj⟩ := isPt_t h2
      have hwj : 0 < w j := of_decide_eq_true hwj
      refine g_aload_n F dX0_distance_20 rfl rfl ?_
      refine g_iload_n F dX0_distance_21 rfl rfl ?_
      refine g_iload_n F dX0_distance_22 rfl rfl ?_
      refine c_VL F [] (wr := []) (cX_gapBetween hI.1.2.2.2.1 hi hj) cwX0_X0_gapBetween ⟨by decide, by decide, rfl, rfl⟩ rfl rfl rfl rfl (Nat.le_of_ble_eq_true rfl) ⟨by decide, by decide⟩ dX0_distance_23 (fun r u hu => ?_)
      obtain ⟨rfl, rfl⟩ := hu
      show GG (EE l D t) X 0 0 26 [(0, .ref (a 0)), (1, .int (nI i)), (2, .int (nI j))] [.long (lN (gp wy x y i j))] (WX a t w x y wy re de co cr cc sr so cf ck ng nw cs se)
      exact E _ _ _ _ dX0_distance_26 ⟨by unfold distF; rw [pt_nI hi hwi, pt_nI hj hwj], ⟨_, _, _, _, _, _, _, _, _, _, _, rfl, hI⟩⟩
    · refine g_ldc2 F (oL none) dX0_distance_16 (List.mem_cons_of_mem _ mw6_19) ?_
      exact E _ _ _ _ dX0_distance_19 ⟨by unfold distF; rw [pt_nI hi hwi, pt_f h2], ⟨_, _, _, _, _, _, _, _, _, _, _, rfl, hI⟩⟩
set_option maxHeartbeats 4000000 in
set_option maxRecDepth 100000 in
/-- kind -/
theorem cX_kind {l : Launch} {D : va_G} {t : Ty3} {a : Nat → Nat} {w : Nat → Nat} {x : Nat → Int32} {y : Nat → Int32} {wy : Nat} {re : Nat} {de : Nat} {co : Nat → Bool} {cr : Nat → Option Nat} {cc : Nat} {sr : Nat} {so : Bool} {cf : Nat → Option Nat} {ck : Bool} {ng : Nat → Nat} {nw : Nat → Nat} {cs : Nat → Nat} {se : Nat → Bool} (hI : XI w x y wy re de co cr cc sr so cf ck ng nw cs) (p : Int32) : CtI (EE l D t) yX0_kind tsX0_kind (RM 7 166) [.ref (a 0), .int p] (WX a t w x y wy re de co cr cc sr so cf ck ng nw cs se) 0 0 (fun r u => kindR w x y wy re de p r ∧ XW a t (w, x, y, wy, re, de) u) := by
  refine CtI.of (by decide +kernel) rfl (Nat.le_of_ble_eq_true rfl) (fun X F E => ?_)
  show GG (EE l D t) X 0 0 0 [(0, .ref (a 0)), (1, .int p)] [] (WX a t w x y wy re de co cr cc sr so cf ck ng nw cs se)
  refine g_aload_n F dX0_kind_0 rfl rfl ?_
  refine g_iload_n F dX0_kind_1 rfl rfl ?_
  refine c_VI F [] (wr := []) (cX_isPoint hI.1.1 p) cwX0_X0_isPoint ⟨by decide, by decide, rfl, rfl⟩ rfl rfl rfl rfl (Nat.le_of_ble_eq_true rfl) ⟨by decide, by decide⟩ dX0_kind_2 (fun r u hu => ?_)
  obtain ⟨rfl, rfl⟩ := hu
  show GG (EE l D t) X 0 0 5 [(0, .ref (a 0)), (1, .int p)] [.int (b2 (isPt (fun j => decide (0 < w j)) p))] (WX a t w x y wy re de co cr cc sr so cf ck ng nw cs se)
  refine g_if_ne_b F 10 dX0_kind_5 (by decide)  (fun h => ?_) (fun h => ?_)
  · obtain ⟨j, hj, rfl, hwj⟩ := isPt_t h
    have hwj : 0 < w j := of_decide_eq_true hwj
    refine g_aload_n F dX0_kind_10 rfl rfl ?_
    refine g_aload_n F dX0_kind_11 rfl rfl ?_
    refine gX_get_reachNow F dX0_kind_12 ?_
    refine c_VV F [] (wr := []) (cX_sortWith hI.1 hI.2.1 hI.2.2.1 hI.2.2.2.1 hI.1.2.2.2.2.1) cwX0_X0_sortWith ⟨by decide, by decide, rfl, rfl⟩ rfl rfl rfl rfl (Nat.le_of_ble_eq_true rfl) ⟨by decide, by decide⟩ dX0_kind_15 (fun u hu => ?_)
    obtain ⟨co2, cr2, cc2, se2, rfl, hb2, hs2⟩ := hu
    show GG (EE l D t) X 0 0 18 [(0, .ref (a 0)), (1, .int (nI j))] [] (WX a t w x y wy re de co2 cr2 cc2 re true cf ck ng nw cs se2)
    have hI2 : XI w x y wy re de co2 cr2 cc2 re true cf ck ng nw cs := XI_sorted hI hb2 hs2 hI.1.2.2.2.2.1
    refine g_aload_n F dX0_kind_18 rfl rfl ?_
    refine g_iload_n F dX0_kind_19 rfl rfl ?_
    refine c_VI F [] (wr := []) (cX_kindOf hb2 hj) cwX0_X0_kindOf ⟨by decide, by decide, rfl, rfl⟩ rfl rfl rfl rfl (Nat.le_of_ble_eq_true rfl) ⟨by decide, by decide⟩ dX0_kind_20 (fun r u hu => ?_)
    obtain ⟨rfl, rfl⟩ := hu
    show GG (EE l D t) X 0 0 23 [(0, .ref (a 0)), (1, .int (nI j))] [.int (nI (knd co2 cr2 j))] (WX a t w x y wy re de co2 cr2 cc2 re true cf ck ng nw cs se2)
    exact E _ _ _ _ dX0_kind_23 ⟨by unfold kindR; rw [pt_nI hj hwj]; exact ⟨co2, cr2, cc2, hs2, rfl⟩, ⟨_, _, _, _, _, _, _, _, _, _, _, rfl, hI2⟩⟩
  · refine g_iconst F (oI none) dX0_kind_8 (by decide) ?_
    exact E _ _ _ _ dX0_kind_9 ⟨by unfold kindR; rw [pt_f h], ⟨_, _, _, _, _, _, _, _, _, _, _, rfl, hI⟩⟩
set_option maxHeartbeats 4000000 in
set_option maxRecDepth 100000 in
/-- crowd -/
theorem cX_crowd {l : Launch} {D : va_G} {t : Ty3} {a : Nat → Nat} {w : Nat → Nat} {x : Nat → Int32} {y : Nat → Int32} {wy : Nat} {re : Nat} {de : Nat} {co : Nat → Bool} {cr : Nat → Option Nat} {cc : Nat} {sr : Nat} {so : Bool} {cf : Nat → Option Nat} {ck : Bool} {ng : Nat → Nat} {nw : Nat → Nat} {cs : Nat → Nat} {se : Nat → Bool} (hI : XI w x y wy re de co cr cc sr so cf ck ng nw cs) (p : Int32) : CtI (EE l D t) yX0_crowd tsX0_crowd (RM 7 166) [.ref (a 0), .int p] (WX a t w x y wy re de co cr cc sr so cf ck ng nw cs se) 0 0 (fun r u => crowdR w x y wy re de p r ∧ XW a t (w, x, y, wy, re, de) u) := by
  refine CtI.of (by decide +kernel) rfl (Nat.le_of_ble_eq_true rfl) (fun X F E => ?_)
  show GG (EE l D t) X 0 0 0 [(0, .ref (a 0)), (1, .int p)] [] (WX a t w x y wy re de co cr cc sr so cf ck ng nw cs se)
  refine g_aload_n F dX0_crowd_0 rfl rfl ?_
  refine g_iload_n F dX0_crowd_1 rfl rfl ?_
  refine c_VI F [] (wr := []) (cX_isPoint hI.1.1 p) cwX0_X0_isPoint ⟨by decide, by decide, rfl, rfl⟩ rfl rfl rfl rfl (Nat.le_of_ble_eq_true rfl) ⟨by decide, by decide⟩ dX0_crowd_2 (fun r u hu => ?_)
  obtain ⟨rfl, rfl⟩ := hu
  show GG (EE l D t) X 0 0 5 [(0, .ref (a 0)), (1, .int p)] [.int (b2 (isPt (fun j => decide (0 < w j)) p))] (WX a t w x y wy re de co cr cc sr so cf ck ng nw cs se)
  refine g_if_ne_b F 10 dX0_crowd_5 (by decide)  (fun h => ?_) (fun h => ?_)
  · obtain ⟨j, hj, rfl, hwj⟩ := isPt_t h
    have hwj : 0 < w j := of_decide_eq_true hwj
    refine g_aload_n F dX0_crowd_10 rfl rfl ?_
    refine g_aload_n F dX0_crowd_11 rfl rfl ?_
    refine gX_get_reachNow F dX0_crowd_12 ?_
    refine c_VV F [] (wr := []) (cX_sortWith hI.1 hI.2.1 hI.2.2.1 hI.2.2.2.1 hI.1.2.2.2.2.1) cwX0_X0_sortWith ⟨by decide, by decide, rfl, rfl⟩ rfl rfl rfl rfl (Nat.le_of_ble_eq_true rfl) ⟨by decide, by decide⟩ dX0_crowd_15 (fun u hu => ?_)
    obtain ⟨co2, cr2, cc2, se2, rfl, hb2, hs2⟩ := hu
    show GG (EE l D t) X 0 0 18 [(0, .ref (a 0)), (1, .int (nI j))] [] (WX a t w x y wy re de co2 cr2 cc2 re true cf ck ng nw cs se2)
    have hI2 : XI w x y wy re de co2 cr2 cc2 re true cf ck ng nw cs := XI_sorted hI hb2 hs2 hI.1.2.2.2.2.1
    refine g_aload_n F dX0_crowd_18 rfl rfl ?_
    refine gX_get_crowdOf F dX0_crowd_19 ?_
    refine g_iload_n F dX0_crowd_22 rfl rfl ?_
    refine gX_ld_crowdOf F hj dX0_crowd_23 ?_
    exact E _ _ _ _ dX0_crowd_24 ⟨by unfold crowdR; rw [pt_nI hj hwj]; exact ⟨co2, cr2, cc2, hs2, rfl⟩, ⟨_, _, _, _, _, _, _, _, _, _, _, rfl, hI2⟩⟩
  · refine g_iconst F (oI none) dX0_crowd_8 (by decide) ?_
    exact E _ _ _ _ dX0_crowd_9 ⟨by unfold crowdR; rw [pt_f h], ⟨_, _, _, _, _, _, _, _, _, _, _, rfl, hI⟩⟩
set_option maxHeartbeats 4000000 in
set_option maxRecDepth 100000 in
/-- around -/
theorem cX_around {l : Launch} {D : va_G} {t : Ty3} {a : Nat → Nat} {w : Nat → Nat} {x : Nat → Int32} {y : Nat → Int32} {wy : Nat} {re : Nat} {de : Nat} {co : Nat → Bool} {cr : Nat → Option Nat} {cc : Nat} {sr : Nat} {so : Bool} {cf : Nat → Option Nat} {ck : Bool} {ng : Nat → Nat} {nw : Nat → Nat} {cs : Nat → Nat} {se : Nat → Bool} (hI : XI w x y wy re de co cr cc sr so cf ck ng nw cs) (p : Int32) : CtI (EE l D t) yX0_around tsX0_around (RM 4 97) [.ref (a 0), .int p] (WX a t w x y wy re de co cr cc sr so cf ck ng nw cs se) 0 0 (fun r u => r = aroundF w x y wy re p ∧ XW a t (w, x, y, wy, re, de) u) := by
  refine CtI.of (by decide +kernel) rfl (Nat.le_of_ble_eq_true rfl) (fun X F E => ?_)
  show GG (EE l D t) X 0 0 0 [(0, .ref (a 0)), (1, .int p)] [] (WX a t w x y wy re de co cr cc sr so cf ck ng nw cs se)
  refine g_aload_n F dX0_around_0 rfl rfl ?_
  refine g_iload_n F dX0_around_1 rfl rfl ?_
  refine c_VI F [] (wr := []) (cX_isPoint hI.1.1 p) cwX0_X0_isPoint ⟨by decide, by decide, rfl, rfl⟩ rfl rfl rfl rfl (Nat.le_of_ble_eq_true rfl) ⟨by decide, by decide⟩ dX0_around_2 (fun r u hu => ?_)
  obtain ⟨rfl, rfl⟩ := hu
  show GG (EE l D t) X 0 0 5 [(0, .ref (a 0)), (1, .int p)] [.int (b2 (isPt (fun j => decide (0 < w j)) p))] (WX a t w x y wy re de co cr cc sr so cf ck ng nw cs se)
  refine g_if_ne_b F 10 dX0_around_5 (by decide)  (fun h => ?_) (fun h => ?_)
  · obtain ⟨j, hj, rfl, hwj⟩ := isPt_t h
    have hwj : 0 < w j := of_decide_eq_true hwj
    refine g_aload_n F dX0_around_10 rfl rfl ?_
    refine g_iload_n F dX0_around_11 rfl rfl ?_
    refine g_aload_n F dX0_around_12 rfl rfl ?_
    refine gX_get_reachNow F dX0_around_13 ?_
    refine c_VI F [] (wr := []) (cX_weightWithin hI.1 hj hI.1.2.2.2.2.1) cwX0_X0_weightWithin ⟨by decide, by decide, rfl, rfl⟩ rfl rfl rfl rfl (Nat.le_of_ble_eq_true rfl) ⟨by decide, by decide⟩ dX0_around_16 (fun r u hu => ?_)
    obtain ⟨rfl, rfl⟩ := hu
    show GG (EE l D t) X 0 0 19 [(0, .ref (a 0)), (1, .int (nI j))] [.int (nI (ww w (gp wy x y j) re))] (WX a t w x y wy re de co cr cc sr so cf ck ng nw cs se)
    exact E _ _ _ _ dX0_around_19 ⟨by unfold aroundF; rw [pt_nI hj hwj], ⟨_, _, _, _, _, _, _, _, _, _, _, rfl, hI⟩⟩
  · refine g_iconst F (oI none) dX0_around_8 (by decide) ?_
    exact E _ _ _ _ dX0_around_9 ⟨by unfold aroundF; rw [pt_f h], ⟨_, _, _, _, _, _, _, _, _, _, _, rfl, hI⟩⟩
set_option maxHeartbeats 4000000 in
set_option maxRecDepth 100000 in
/-- dense -/
theorem cX_dense {l : Launch} {D : va_G} {t : Ty3} {a : Nat → Nat} {w : Nat → Nat} {x : Nat → Int32} {y : Nat → Int32} {wy : Nat} {re : Nat} {de : Nat} {co : Nat → Bool} {cr : Nat → Option Nat} {cc : Nat} {sr : Nat} {so : Bool} {cf : Nat → Option Nat} {ck : Bool} {ng : Nat → Nat} {nw : Nat → Nat} {cs : Nat → Nat} {se : Nat → Bool} (hI : XI w x y wy re de co cr cc sr so cf ck ng nw cs) (p : Int32) : CtL (EE l D t) yX0_dense tsX0_dense (RM 4 98) [.ref (a 0), .int p] (WX a t w x y wy re de co cr cc sr so cf ck ng nw cs se) 0 0 (fun r u => denseR w x y wy de p r ∧ XW a t (w, x, y, wy, re, de) u) := by
  refine CtL.of (by decide +kernel) rfl (Nat.le_of_ble_eq_true rfl) (fun X F E => ?_)
  show GG (EE l D t) X 0 0 0 [(0, .ref (a 0)), (1, .int p)] [] (WX a t w x y wy re de co cr cc sr so cf ck ng nw cs se)
  refine g_aload_n F dX0_dense_0 rfl rfl ?_
  refine g_iload_n F dX0_dense_1 rfl rfl ?_
  refine c_VI F [] (wr := []) (cX_isPoint hI.1.1 p) cwX0_X0_isPoint ⟨by decide, by decide, rfl, rfl⟩ rfl rfl rfl rfl (Nat.le_of_ble_eq_true rfl) ⟨by decide, by decide⟩ dX0_dense_2 (fun r u hu => ?_)
  obtain ⟨rfl, rfl⟩ := hu
  show GG (EE l D t) X 0 0 5 [(0, .ref (a 0)), (1, .int p)] [.int (b2 (isPt (fun j => decide (0 < w j)) p))] (WX a t w x y wy re de co cr cc sr so cf ck ng nw cs se)
  refine g_if_ne_b F 12 dX0_dense_5 (by decide)  (fun h => ?_) (fun h => ?_)
  · obtain ⟨j, hj, rfl, hwj⟩ := isPt_t h
    have hwj : 0 < w j := of_decide_eq_true hwj
    refine g_aload_n F dX0_dense_12 rfl rfl ?_
    refine g_iload_n F dX0_dense_13 rfl rfl ?_
    refine c_VL F [] (wr := []) (cX_leastReachAsCore hI.1 hI.2.2.2.2.2.1 hj) cwX0_X0_leastReachAsCore ⟨by decide, by decide, rfl, rfl⟩ rfl rfl rfl rfl (Nat.le_of_ble_eq_true rfl) ⟨by decide, by decide⟩ dX0_dense_14 (fun r u hu => ?_)
    obtain ⟨g2, n2, o, rfl, hb2, rfl, ho1, ho2⟩ := hu
    show GG (EE l D t) X 0 0 17 [(0, .ref (a 0)), (1, .int (nI j))] [.long (oL o)] (WX a t w x y wy re de co cr cc sr so cf ck g2 n2 cs se)
    exact E _ _ _ _ dX0_dense_17 ⟨by unfold denseR; rw [pt_nI hj hwj]; exact ⟨o, ho1, rfl⟩, ⟨_, _, _, _, _, _, _, _, _, _, _, rfl, ⟨hI.1, hI.2.1, hI.2.2.1, hI.2.2.2.1, hI.2.2.2.2.1, hb2, hI.2.2.2.2.2.2⟩⟩⟩
  · refine g_ldc2 F (oL none) dX0_dense_8 (List.mem_cons_of_mem _ mw6_19) ?_
    exact E _ _ _ _ dX0_dense_11 ⟨by unfold denseR; rw [pt_f h], ⟨_, _, _, _, _, _, _, _, _, _, _, rfl, hI⟩⟩
set_option maxHeartbeats 4000000 in
set_option maxRecDepth 100000 in
/-- meet -/
theorem cX_meet {l : Launch} {D : va_G} {t : Ty3} {a : Nat → Nat} {w : Nat → Nat} {x : Nat → Int32} {y : Nat → Int32} {wy : Nat} {re : Nat} {de : Nat} {co : Nat → Bool} {cr : Nat → Option Nat} {cc : Nat} {sr : Nat} {so : Bool} {cf : Nat → Option Nat} {ck : Bool} {ng : Nat → Nat} {nw : Nat → Nat} {cs : Nat → Nat} {se : Nat → Bool} (hI : XI w x y wy re de co cr cc sr so cf ck ng nw cs) (p q : Int32) : CtL (EE l D t) yX0_meet tsX0_meet (RM 5 120) [.ref (a 0), .int p, .int q] (WX a t w x y wy re de co cr cc sr so cf ck ng nw cs se) 0 0 (fun r u => meetR w x y wy de p q r ∧ XW a t (w, x, y, wy, re, de) u) := by
  refine CtL.of (by decide +kernel) rfl (Nat.le_of_ble_eq_true rfl) (fun X F E => ?_)
  show GG (EE l D t) X 0 0 0 [(0, .ref (a 0)), (1, .int p), (2, .int q)] [] (WX a t w x y wy re de co cr cc sr so cf ck ng nw cs se)
  refine g_aload_n F dX0_meet_0 rfl rfl ?_
  refine g_iload_n F dX0_meet_1 rfl rfl ?_
  refine c_VI F [] (wr := []) (cX_isPoint hI.1.1 p) cwX0_X0_isPoint ⟨by decide, by decide, rfl, rfl⟩ rfl rfl rfl rfl (Nat.le_of_ble_eq_true rfl) ⟨by decide, by decide⟩ dX0_meet_2 (fun r u hu => ?_)
  obtain ⟨rfl, rfl⟩ := hu
  show GG (EE l D t) X 0 0 5 [(0, .ref (a 0)), (1, .int p), (2, .int q)] [.int (b2 (isPt (fun j => decide (0 < w j)) p))] (WX a t w x y wy re de co cr cc sr so cf ck ng nw cs se)
  refine g_if_eq_b F 27 dX0_meet_5 (by decide)  (fun h => ?_) (fun h => ?_)
  · refine g_ldc2 F (oL none) dX0_meet_27 (List.mem_cons_of_mem _ mw6_19) ?_
    exact E _ _ _ _ dX0_meet_30 ⟨by unfold meetR; rw [pt_f h], ⟨_, _, _, _, _, _, _, _, _, _, _, rfl, hI⟩⟩
  · obtain ⟨i, hi, rfl, hwi⟩ := isPt_t h
    have hwi : 0 < w i := of_decide_eq_true hwi
    refine g_aload_n F dX0_meet_8 rfl rfl ?_
    refine g_iload_n F dX0_meet_9 rfl rfl ?_
    refine c_VI F [] (wr := []) (cX_isPoint hI.1.1 q) cwX0_X0_isPoint ⟨by decide, by decide, rfl, rfl⟩ rfl rfl rfl rfl (Nat.le_of_ble_eq_true rfl) ⟨by decide, by decide⟩ dX0_meet_10 (fun r u hu => ?_)
    obtain ⟨rfl, rfl⟩ := hu
    show GG (EE l D t) X 0 0 13 [(0, .ref (a 0)), (1, .int (nI i)), (2, .int q)] [.int (b2 (isPt (fun j => decide (0 < w j)) q))] (WX a t w x y wy re de co cr cc sr so cf ck ng nw cs se)
    refine g_if_eq_b F 27 dX0_meet_13 (by decide)  (fun h2 => ?_) (fun h2 => ?_)
    · refine g_ldc2 F (oL none) dX0_meet_27 (List.mem_cons_of_mem _ mw6_19) ?_
      exact E _ _ _ _ dX0_meet_30 ⟨by unfold meetR; rw [pt_nI hi hwi, pt_f h2], ⟨_, _, _, _, _, _, _, _, _, _, _, rfl, hI⟩⟩
    · obtain ⟨j, hj, rfl, hwj⟩ := isPt_t h2
      have hwj : 0 < w j := of_decide_eq_true hwj
      refine g_aload_n F dX0_meet_16 rfl rfl ?_
      refine c_VI F [] (wr := []) cX_countWeights cwX0_X0_countWeights ⟨by decide, by decide, rfl, rfl⟩ rfl rfl rfl rfl (Nat.le_of_ble_eq_true rfl) ⟨by decide, by decide⟩ dX0_meet_17 (fun r u hu => ?_)
      obtain ⟨rfl, rfl⟩ := hu
      show GG (EE l D t) X 0 0 20 [(0, .ref (a 0)), (1, .int (nI i)), (2, .int (nI j))] [.int (nI (sum1 w))] (WX a t w x y wy re de co cr cc sr so cf ck ng nw cs se)
      refine g_aload_n F dX0_meet_20 rfl rfl ?_
      refine gX_get_demandNow F dX0_meet_21 ?_
      refine g_icmp_ge_n F 31 dX0_meet_24 (by decide) (by have := sum1_le hI.1.1; omega) (by have := hI.1.2.2.2.2.2; omega) (fun h3 => ?_) (fun h3 => ?_)
      · refine g_aload_n F dX0_meet_31 rfl rfl ?_
        refine c_VV F [] (wr := []) (cX_findCoreFrom hI.1 hI.2.2.2.2.2.1 hI.2.2.2.2.1) cwX0_X0_findCoreFrom ⟨by decide, by decide, rfl, rfl⟩ rfl rfl rfl rfl (Nat.le_of_ble_eq_true rfl) ⟨by decide, by decide⟩ dX0_meet_32 (fun u hu => ?_)
        obtain ⟨cf2, g2, n2, rfl, hC, hb2⟩ := hu
        show GG (EE l D t) X 0 0 35 [(0, .ref (a 0)), (1, .int (nI i)), (2, .int (nI j))] [] (WX a t w x y wy re de co cr cc sr so cf2 true g2 n2 cs se)
        have hd : ∀ k, k < 120 → 0 < w k → cf2 k = some ((cf2 k).getD 0) ∧ (cf2 k).getD 0 < MX := fun k hk hwk => by
          obtain ⟨c1, c2⟩ := hC k hk hwk
          cases e : cf2 k with
          | none =>
            rw [e] at c1
            exact absurd (isDn_none ⟨MX, fun z => Nat.le_of_lt (gp_lt hI.1 k z)⟩ c1) (by omega)
          | some d => exact ⟨rfl, c2 d e⟩
        refine g_aload_n F dX0_meet_35 rfl rfl ?_
        refine g_iload_n F dX0_meet_36 rfl rfl ?_
        refine g_iload_n F dX0_meet_37 rfl rfl ?_
        refine c_VL F [] (wr := []) (cX_leastReachFrom hI.1 hI.2.2.2.2.2.2.1 hd hi hj hwi hwj) cwX0_X0_leastReachFrom ⟨by decide, by decide, rfl, rfl⟩ rfl rfl rfl rfl (Nat.le_of_ble_eq_true rfl) ⟨by decide, by decide⟩ dX0_meet_38 (fun r u hu => ?_)
        obtain ⟨cs2, se2, m, rfl, hcs2, rfl, hm, hm2⟩ := hu
        show GG (EE l D t) X 0 0 41 [(0, .ref (a 0)), (1, .int (nI i)), (2, .int (nI j))] [.long (lN m)] (WX a t w x y wy re de co cr cc sr so cf2 true g2 n2 cs2 se2)
        exact E _ _ _ _ dX0_meet_41 ⟨by unfold meetR; rw [pt_nI hi hwi, pt_nI hj hwj]; dsimp only; rw [if_neg (by omega)]; exact ⟨fun k => (cf2 k).getD 0, m, fun k hk hwk => by have := (hC k hk hwk).1; rw [(hd k hk hwk).1] at this; exact this, hm, rfl⟩, ⟨_, _, _, _, _, _, _, _, _, _, _, rfl, ⟨hI.1, hI.2.1, hI.2.2.1, hI.2.2.2.1, fun _ => hC, hb2, hcs2, hI.2.2.2.2.2.2.2⟩⟩⟩
      · refine g_ldc2 F (oL none) dX0_meet_27 (List.mem_cons_of_mem _ mw6_19) ?_
        exact E _ _ _ _ dX0_meet_30 ⟨by unfold meetR; rw [pt_nI hi hwi, pt_nI hj hwj]; dsimp only; rw [if_pos h3], ⟨_, _, _, _, _, _, _, _, _, _, _, rfl, hI⟩⟩
set_option maxHeartbeats 4000000 in
set_option maxRecDepth 100000 in
/-- count -/
theorem cX_count {l : Launch} {D : va_G} {t : Ty3} {a : Nat → Nat} {w : Nat → Nat} {x : Nat → Int32} {y : Nat → Int32} {wy : Nat} {re : Nat} {de : Nat} {co : Nat → Bool} {cr : Nat → Option Nat} {cc : Nat} {sr : Nat} {so : Bool} {cf : Nat → Option Nat} {ck : Bool} {ng : Nat → Nat} {nw : Nat → Nat} {cs : Nat → Nat} {se : Nat → Bool} (hI : XI w x y wy re de co cr cc sr so cf ck ng nw cs) (p : Int32) : CtI (EE l D t) yX0_count tsX0_count (RM 8 189) [.ref (a 0), .int p] (WX a t w x y wy re de co cr cc sr so cf ck ng nw cs se) 0 0 (fun r u => countR w x y wy re de p r ∧ XW a t (w, x, y, wy, re, de) u) := by
  refine CtI.of (by decide +kernel) rfl (Nat.le_of_ble_eq_true rfl) (fun X F E => ?_)
  show GG (EE l D t) X 0 0 0 [(0, .ref (a 0)), (1, .int p)] [] (WX a t w x y wy re de co cr cc sr so cf ck ng nw cs se)
  refine g_iload_n F dX0_count_0 rfl rfl ?_
  rcases pk_ix p (n := 6) (by decide) with hp | hp | ⟨k, hk, rfl⟩
  · refine g_tableOut F 81 dX0_count_1 (Or.inl (Int32.lt_iff_toInt_lt.mp hp)) (by decide) ?_
    obtain ⟨co2, cr2, cc2, hs2⟩ := Srt_ex w x y wy re de
    refine g_iconst F (oI none) dX0_count_81 (by decide) ?_
    exact E _ _ _ _ dX0_count_82 ⟨⟨co2, cr2, cc2, hs2, by unfold countF; rw [if_neg (fun z => absurd hp (by rw [z]; decide)), if_neg (fun z => absurd hp (by rw [z]; decide)), if_neg (fun z => absurd hp (by rw [z]; decide)), if_neg (fun z => absurd hp (by rw [z]; decide)), if_neg (fun z => absurd hp (by rw [z]; decide)), if_neg (fun z => absurd hp (by rw [z]; decide))]⟩, ⟨_, _, _, _, _, _, _, _, _, _, _, rfl, hI⟩⟩
  · refine g_tableOut F 81 dX0_count_1 (Or.inr (Int.lt_of_lt_of_le (by decide) (Int32.le_iff_toInt_le.mp hp))) (by decide) ?_
    obtain ⟨co2, cr2, cc2, hs2⟩ := Srt_ex w x y wy re de
    refine g_iconst F (oI none) dX0_count_81 (by decide) ?_
    exact E _ _ _ _ dX0_count_82 ⟨⟨co2, cr2, cc2, hs2, by unfold countF; rw [if_neg (fun z => absurd hp (by rw [z]; decide)), if_neg (fun z => absurd hp (by rw [z]; decide)), if_neg (fun z => absurd hp (by rw [z]; decide)), if_neg (fun z => absurd hp (by rw [z]; decide)), if_neg (fun z => absurd hp (by rw [z]; decide)), if_neg (fun z => absurd hp (by rw [z]; decide))]⟩, ⟨_, _, _, _, _, _, _, _, _, _, _, rfl, hI⟩⟩
  · rcases (show k = 0 ∨ k = 1 ∨ k = 2 ∨ k = 3 ∨ k = 4 ∨ k = 5 by omega) with rfl | rfl | rfl | rfl | rfl | rfl
    · refine g_tableIn (off := 39) F 40 dX0_count_1 (by decide) (by decide) (by decide +kernel) (by decide) ?_
      refine g_aload_n F dX0_count_40 rfl rfl ?_
      refine g_aload_n F dX0_count_41 rfl rfl ?_
      refine gX_get_reachNow F dX0_count_42 ?_
      refine c_VV F [] (wr := []) (cX_sortWith hI.1 hI.2.1 hI.2.2.1 hI.2.2.2.1 hI.1.2.2.2.2.1) cwX0_X0_sortWith ⟨by decide, by decide, rfl, rfl⟩ rfl rfl rfl rfl (Nat.le_of_ble_eq_true rfl) ⟨by decide, by decide⟩ dX0_count_45 (fun u hu => ?_)
      obtain ⟨co2, cr2, cc2, se2, rfl, hb2, hs2⟩ := hu
      show GG (EE l D t) X 0 0 48 [(0, .ref (a 0)), (1, .int (nI 0))] [] (WX a t w x y wy re de co2 cr2 cc2 re true cf ck ng nw cs se2)
      have hI2 : XI w x y wy re de co2 cr2 cc2 re true cf ck ng nw cs := XI_sorted hI hb2 hs2 hI.1.2.2.2.2.1
      refine g_aload_n F dX0_count_48 rfl rfl ?_
      refine gX_get_crowdCount F dX0_count_49 ?_
      exact E _ _ _ _ dX0_count_52 ⟨⟨co2, cr2, cc2, hs2, by unfold countF; rw [if_pos rfl]⟩, ⟨_, _, _, _, _, _, _, _, _, _, _, rfl, hI2⟩⟩
    · refine g_tableIn (off := 52) F 53 dX0_count_1 (by decide) (by decide) (by decide +kernel) (by decide) ?_
      refine g_aload_n F dX0_count_53 rfl rfl ?_
      refine g_iconst F (nI 2) dX0_count_54 (by decide) ?_
      refine c_VI F [] (wr := []) (cX_countKind hI.1 hI.2.1 hI.2.2.1 hI.2.2.2.1 (kd := 2) (by decide)) cwX0_X0_countKind ⟨by decide, by decide, rfl, rfl⟩ rfl rfl rfl rfl (Nat.le_of_ble_eq_true rfl) ⟨by decide, by decide⟩ dX0_count_55 (fun r u hu => ?_)
      obtain ⟨co2, cr2, cc2, se2, rfl, hb2, hs2, rfl⟩ := hu
      show GG (EE l D t) X 0 0 58 [(0, .ref (a 0)), (1, .int (nI 1))] [.int (nI (cntK w co2 cr2 2))] (WX a t w x y wy re de co2 cr2 cc2 re true cf ck ng nw cs se2)
      have hI2 : XI w x y wy re de co2 cr2 cc2 re true cf ck ng nw cs := XI_sorted hI hb2 hs2 hI.1.2.2.2.2.1
      exact E _ _ _ _ dX0_count_58 ⟨⟨co2, cr2, cc2, hs2, by unfold countF; rw [if_neg (by decide), if_pos rfl]⟩, ⟨_, _, _, _, _, _, _, _, _, _, _, rfl, hI2⟩⟩
    · refine g_tableIn (off := 58) F 59 dX0_count_1 (by decide) (by decide) (by decide +kernel) (by decide) ?_
      refine g_aload_n F dX0_count_59 rfl rfl ?_
      refine g_iconst F (nI 1) dX0_count_60 (by decide) ?_
      refine c_VI F [] (wr := []) (cX_countKind hI.1 hI.2.1 hI.2.2.1 hI.2.2.2.1 (kd := 1) (by decide)) cwX0_X0_countKind ⟨by decide, by decide, rfl, rfl⟩ rfl rfl rfl rfl (Nat.le_of_ble_eq_true rfl) ⟨by decide, by decide⟩ dX0_count_61 (fun r u hu => ?_)
      obtain ⟨co2, cr2, cc2, se2, rfl, hb2, hs2, rfl⟩ := hu
      show GG (EE l D t) X 0 0 64 [(0, .ref (a 0)), (1, .int (nI 2))] [.int (nI (cntK w co2 cr2 1))] (WX a t w x y wy re de co2 cr2 cc2 re true cf ck ng nw cs se2)
      have hI2 : XI w x y wy re de co2 cr2 cc2 re true cf ck ng nw cs := XI_sorted hI hb2 hs2 hI.1.2.2.2.2.1
      exact E _ _ _ _ dX0_count_64 ⟨⟨co2, cr2, cc2, hs2, by unfold countF; rw [if_neg (by decide), if_neg (by decide), if_pos rfl]⟩, ⟨_, _, _, _, _, _, _, _, _, _, _, rfl, hI2⟩⟩
    · refine g_tableIn (off := 64) F 65 dX0_count_1 (by decide) (by decide) (by decide +kernel) (by decide) ?_
      refine g_aload_n F dX0_count_65 rfl rfl ?_
      refine g_iconst F (nI 0) dX0_count_66 (by decide) ?_
      refine c_VI F [] (wr := []) (cX_countKind hI.1 hI.2.1 hI.2.2.1 hI.2.2.2.1 (kd := 0) (by decide)) cwX0_X0_countKind ⟨by decide, by decide, rfl, rfl⟩ rfl rfl rfl rfl (Nat.le_of_ble_eq_true rfl) ⟨by decide, by decide⟩ dX0_count_67 (fun r u hu => ?_)
      obtain ⟨co2, cr2, cc2, se2, rfl, hb2, hs2, rfl⟩ := hu
      show GG (EE l D t) X 0 0 70 [(0, .ref (a 0)), (1, .int (nI 3))] [.int (nI (cntK w co2 cr2 0))] (WX a t w x y wy re de co2 cr2 cc2 re true cf ck ng nw cs se2)
      have hI2 : XI w x y wy re de co2 cr2 cc2 re true cf ck ng nw cs := XI_sorted hI hb2 hs2 hI.1.2.2.2.2.1
      exact E _ _ _ _ dX0_count_70 ⟨⟨co2, cr2, cc2, hs2, by unfold countF; rw [if_neg (by decide), if_neg (by decide), if_neg (by decide), if_pos rfl]⟩, ⟨_, _, _, _, _, _, _, _, _, _, _, rfl, hI2⟩⟩
    · refine g_tableIn (off := 70) F 71 dX0_count_1 (by decide) (by decide) (by decide +kernel) (by decide) ?_
      obtain ⟨co2, cr2, cc2, hs2⟩ := Srt_ex w x y wy re de
      refine g_aload_n F dX0_count_71 rfl rfl ?_
      refine c_VI F [] (wr := []) (cX_countPoints hI.1.1) cwX0_X0_countPoints ⟨by decide, by decide, rfl, rfl⟩ rfl rfl rfl rfl (Nat.le_of_ble_eq_true rfl) ⟨by decide, by decide⟩ dX0_count_72 (fun r u hu => ?_)
      obtain ⟨rfl, rfl⟩ := hu
      show GG (EE l D t) X 0 0 75 [(0, .ref (a 0)), (1, .int (nI 4))] [.int (nI (sum1 (fun j => if 0 < w j then 1 else 0)))] (WX a t w x y wy re de co cr cc sr so cf ck ng nw cs se)
      exact E _ _ _ _ dX0_count_75 ⟨⟨co2, cr2, cc2, hs2, by unfold countF; rw [if_neg (by decide), if_neg (by decide), if_neg (by decide), if_neg (by decide), if_pos rfl]⟩, ⟨_, _, _, _, _, _, _, _, _, _, _, rfl, hI⟩⟩
    · refine g_tableIn (off := 75) F 76 dX0_count_1 (by decide) (by decide) (by decide +kernel) (by decide) ?_
      obtain ⟨co2, cr2, cc2, hs2⟩ := Srt_ex w x y wy re de
      refine g_aload_n F dX0_count_76 rfl rfl ?_
      refine c_VI F [] (wr := []) cX_countWeights cwX0_X0_countWeights ⟨by decide, by decide, rfl, rfl⟩ rfl rfl rfl rfl (Nat.le_of_ble_eq_true rfl) ⟨by decide, by decide⟩ dX0_count_77 (fun r u hu => ?_)
      obtain ⟨rfl, rfl⟩ := hu
      show GG (EE l D t) X 0 0 80 [(0, .ref (a 0)), (1, .int (nI 5))] [.int (nI (sum1 w))] (WX a t w x y wy re de co cr cc sr so cf ck ng nw cs se)
      exact E _ _ _ _ dX0_count_80 ⟨⟨co2, cr2, cc2, hs2, by unfold countF; rw [if_neg (by decide), if_neg (by decide), if_neg (by decide), if_neg (by decide), if_neg (by decide), if_pos rfl]⟩, ⟨_, _, _, _, _, _, _, _, _, _, _, rfl, hI⟩⟩
set_option maxHeartbeats 4000000 in
set_option maxRecDepth 100000 in
/-- about -/
theorem cX_about {l : Launch} {D : va_G} {t : Ty3} {a : Nat → Nat} {w : Nat → Nat} {x : Nat → Int32} {y : Nat → Int32} {wy : Nat} {re : Nat} {de : Nat} {co : Nat → Bool} {cr : Nat → Option Nat} {cc : Nat} {sr : Nat} {so : Bool} {cf : Nat → Option Nat} {ck : Bool} {ng : Nat → Nat} {nw : Nat → Nat} {cs : Nat → Nat} {se : Nat → Bool} (hI : XI w x y wy re de co cr cc sr so cf ck ng nw cs) (p q : Int32) : CtI (EE l D t) yX0_about tsX0_about (RM 7 166) [.ref (a 0), .int p, .int q] (WX a t w x y wy re de co cr cc sr so cf ck ng nw cs se) 0 0 (fun r u => aboutR w x y wy re de p q r ∧ XW a t (w, x, y, wy, re, de) u) := by
  refine CtI.of (by decide +kernel) rfl (Nat.le_of_ble_eq_true rfl) (fun X F E => ?_)
  show GG (EE l D t) X 0 0 0 [(0, .ref (a 0)), (1, .int p), (2, .int q)] [] (WX a t w x y wy re de co cr cc sr so cf ck ng nw cs se)
  refine g_aload_n F dX0_about_0 rfl rfl ?_
  refine g_aload_n F dX0_about_1 rfl rfl ?_
  refine gX_get_reachNow F dX0_about_2 ?_
  refine c_VV F [] (wr := []) (cX_sortWith hI.1 hI.2.1 hI.2.2.1 hI.2.2.2.1 hI.1.2.2.2.2.1) cwX0_X0_sortWith ⟨by decide, by decide, rfl, rfl⟩ rfl rfl rfl rfl (Nat.le_of_ble_eq_true rfl) ⟨by decide, by decide⟩ dX0_about_5 (fun u hu => ?_)
  obtain ⟨co2, cr2, cc2, se2, rfl, hb2, hs2⟩ := hu
  show GG (EE l D t) X 0 0 8 [(0, .ref (a 0)), (1, .int p), (2, .int q)] [] (WX a t w x y wy re de co2 cr2 cc2 re true cf ck ng nw cs se2)
  have hI2 : XI w x y wy re de co2 cr2 cc2 re true cf ck ng nw cs := XI_sorted hI hb2 hs2 hI.1.2.2.2.2.1
  refine g_iload_n F dX0_about_8 rfl rfl ?_
  refine g_if_lt F 20 dX0_about_9 (by decide)  (fun h => ?_) (fun h => ?_)
  · refine g_iconst F (oI none) dX0_about_20 (by decide) ?_
    exact E _ _ _ _ dX0_about_21 ⟨⟨co2, cr2, cc2, hs2, by unfold aboutF; rw [if_neg (fun z => z.1 h)]⟩, ⟨_, _, _, _, _, _, _, _, _, _, _, rfl, hI2⟩⟩
  · refine g_iload_n F dX0_about_12 rfl rfl ?_
    refine g_aload_n F dX0_about_13 rfl rfl ?_
    refine gX_get_crowdCount F dX0_about_14 ?_
    refine g_icmp_lt F 22 dX0_about_17 (by decide)  (fun h2 => ?_) (fun h2 => ?_)
    · obtain ⟨c, hc1, rfl⟩ := nI_of h
      have hcc := hs2.cc120
      have hc2 : c < cc2 := (nI_ltI hc1 (by omega)).mp h2
      refine g_iload_n F dX0_about_22 rfl rfl ?_
      rcases pk_ix q (n := 8) (by decide) with hp | hp | ⟨k, hk, rfl⟩
      · refine g_tableOut F 132 dX0_about_23 (Or.inl (Int32.lt_iff_toInt_lt.mp hp)) (by decide) ?_
        refine g_iconst F (oI none) dX0_about_132 (by decide) ?_
        exact E _ _ _ _ dX0_about_133 ⟨⟨co2, cr2, cc2, hs2, by unfold aboutF; rw [if_pos ⟨h, h2⟩, if_neg (fun z => absurd hp (by rw [z]; decide)), if_neg (fun z => absurd hp (by rw [z]; decide)), if_neg (fun z => absurd hp (by rw [z]; decide)), if_neg (fun z => absurd hp (by rw [z]; decide)), if_neg (fun z => absurd hp (by rw [z]; decide)), if_neg (fun z => absurd hp (by rw [z]; decide)), if_neg (fun z => absurd hp (by rw [z]; decide)), if_neg (fun z => absurd hp (by rw [z]; decide))]⟩, ⟨_, _, _, _, _, _, _, _, _, _, _, rfl, hI2⟩⟩
      · refine g_tableOut F 132 dX0_about_23 (Or.inr (Int.lt_of_lt_of_le (by decide) (Int32.le_iff_toInt_le.mp hp))) (by decide) ?_
        refine g_iconst F (oI none) dX0_about_132 (by decide) ?_
        exact E _ _ _ _ dX0_about_133 ⟨⟨co2, cr2, cc2, hs2, by unfold aboutF; rw [if_pos ⟨h, h2⟩, if_neg (fun z => absurd hp (by rw [z]; decide)), if_neg (fun z => absurd hp (by rw [z]; decide)), if_neg (fun z => absurd hp (by rw [z]; decide)), if_neg (fun z => absurd hp (by rw [z]; decide)), if_neg (fun z => absurd hp (by rw [z]; decide)), if_neg (fun z => absurd hp (by rw [z]; decide)), if_neg (fun z => absurd hp (by rw [z]; decide)), if_neg (fun z => absurd hp (by rw [z]; decide))]⟩, ⟨_, _, _, _, _, _, _, _, _, _, _, rfl, hI2⟩⟩
      · rcases (show k = 0 ∨ k = 1 ∨ k = 2 ∨ k = 3 ∨ k = 4 ∨ k = 5 ∨ k = 6 ∨ k = 7 by omega) with rfl | rfl | rfl | rfl | rfl | rfl | rfl | rfl
        · refine g_tableIn (off := 45) F 68 dX0_about_23 (by decide) (by decide) (by decide +kernel) (by decide) ?_
          refine g_aload_n F dX0_about_68 rfl rfl ?_
          refine g_iload_n F dX0_about_69 rfl rfl ?_
          refine c_VI F [] (wr := []) (cX_pointsOf hb2 (by omega)) cwX0_X0_pointsOf ⟨by decide, by decide, rfl, rfl⟩ rfl rfl rfl rfl (Nat.le_of_ble_eq_true rfl) ⟨by decide, by decide⟩ dX0_about_70 (fun r u hu => ?_)
          obtain ⟨rfl, rfl⟩ := hu
          show GG (EE l D t) X 0 0 73 [(0, .ref (a 0)), (1, .int (nI c)), (2, .int (nI 0))] [.int (nI (sum1 (fun p => if cr2 p = some c then 1 else 0)))] (WX a t w x y wy re de co2 cr2 cc2 re true cf ck ng nw cs se2)
          exact E _ _ _ _ dX0_about_73 ⟨⟨co2, cr2, cc2, hs2, by unfold aboutF; rw [if_pos ⟨h, h2⟩, if_pos rfl, nI_clamp hc1]⟩, ⟨_, _, _, _, _, _, _, _, _, _, _, rfl, hI2⟩⟩
        · refine g_tableIn (off := 51) F 74 dX0_about_23 (by decide) (by decide) (by decide +kernel) (by decide) ?_
          refine g_aload_n F dX0_about_74 rfl rfl ?_
          refine g_iload_n F dX0_about_75 rfl rfl ?_
          refine c_VI F [] (wr := []) (cX_coresOf hb2 (by omega)) cwX0_X0_coresOf ⟨by decide, by decide, rfl, rfl⟩ rfl rfl rfl rfl (Nat.le_of_ble_eq_true rfl) ⟨by decide, by decide⟩ dX0_about_76 (fun r u hu => ?_)
          obtain ⟨rfl, rfl⟩ := hu
          show GG (EE l D t) X 0 0 79 [(0, .ref (a 0)), (1, .int (nI c)), (2, .int (nI 1))] [.int (nI (sum1 (fun p => if co2 p = true ∧ cr2 p = some c then 1 else 0)))] (WX a t w x y wy re de co2 cr2 cc2 re true cf ck ng nw cs se2)
          exact E _ _ _ _ dX0_about_79 ⟨⟨co2, cr2, cc2, hs2, by unfold aboutF; rw [if_pos ⟨h, h2⟩, if_neg (by decide), if_pos rfl, nI_clamp hc1]⟩, ⟨_, _, _, _, _, _, _, _, _, _, _, rfl, hI2⟩⟩
        · refine g_tableIn (off := 57) F 80 dX0_about_23 (by decide) (by decide) (by decide +kernel) (by decide) ?_
          refine g_aload_n F dX0_about_80 rfl rfl ?_
          refine g_iload_n F dX0_about_81 rfl rfl ?_
          refine c_VI F [] (wr := []) (cX_weightsOf hb2 (by omega)) cwX0_X0_weightsOf ⟨by decide, by decide, rfl, rfl⟩ rfl rfl rfl rfl (Nat.le_of_ble_eq_true rfl) ⟨by decide, by decide⟩ dX0_about_82 (fun r u hu => ?_)
          obtain ⟨rfl, rfl⟩ := hu
          show GG (EE l D t) X 0 0 85 [(0, .ref (a 0)), (1, .int (nI c)), (2, .int (nI 2))] [.int (nI (sum1 (fun p => if cr2 p = some c then w p else 0)))] (WX a t w x y wy re de co2 cr2 cc2 re true cf ck ng nw cs se2)
          exact E _ _ _ _ dX0_about_85 ⟨⟨co2, cr2, cc2, hs2, by unfold aboutF; rw [if_pos ⟨h, h2⟩, if_neg (by decide), if_neg (by decide), if_pos rfl, nI_clamp hc1]⟩, ⟨_, _, _, _, _, _, _, _, _, _, _, rfl, hI2⟩⟩
        · refine g_tableIn (off := 63) F 86 dX0_about_23 (by decide) (by decide) (by decide +kernel) (by decide) ?_
          refine g_aload_n F dX0_about_86 rfl rfl ?_
          refine g_iload_n F dX0_about_87 rfl rfl ?_
          refine c_VI F [] (wr := []) (cX_leastCoreOf hb2 (by omega)) cwX0_X0_leastCoreOf ⟨by decide, by decide, rfl, rfl⟩ rfl rfl rfl rfl (Nat.le_of_ble_eq_true rfl) ⟨by decide, by decide⟩ dX0_about_88 (fun r u hu => ?_)
          obtain ⟨rfl, rfl⟩ := hu
          show GG (EE l D t) X 0 0 91 [(0, .ref (a 0)), (1, .int (nI c)), (2, .int (nI 3))] [.int (oI (fst1 (fun p => co2 p && decide (cr2 p = some c))))] (WX a t w x y wy re de co2 cr2 cc2 re true cf ck ng nw cs se2)
          exact E _ _ _ _ dX0_about_91 ⟨⟨co2, cr2, cc2, hs2, by unfold aboutF; rw [if_pos ⟨h, h2⟩, if_neg (by decide), if_neg (by decide), if_neg (by decide), if_pos rfl, nI_clamp hc1]⟩, ⟨_, _, _, _, _, _, _, _, _, _, _, rfl, hI2⟩⟩
        · refine g_tableIn (off := 69) F 92 dX0_about_23 (by decide) (by decide) (by decide +kernel) (by decide) ?_
          refine g_aload_n F dX0_about_92 rfl rfl ?_
          refine g_aload_n F dX0_about_93 rfl rfl ?_
          refine gX_get_xs F dX0_about_94 ?_
          refine g_iload_n F dX0_about_97 rfl rfl ?_
          refine c_VI F [] (wr := []) (cX_leastOf_x hb2 (by omega)) cwX0_X0_leastOf ⟨by decide, by decide, rfl, rfl⟩ rfl rfl rfl rfl (Nat.le_of_ble_eq_true rfl) ⟨by decide, by decide⟩ dX0_about_98 (fun r u hu => ?_)
          obtain ⟨rfl, rfl⟩ := hu
          show GG (EE l D t) X 0 0 101 [(0, .ref (a 0)), (1, .int (nI c)), (2, .int (nI 4))] [.int (mn1 x (fun p => decide (cr2 p = some c)) 1073741823)] (WX a t w x y wy re de co2 cr2 cc2 re true cf ck ng nw cs se2)
          exact E _ _ _ _ dX0_about_101 ⟨⟨co2, cr2, cc2, hs2, by unfold aboutF; rw [if_pos ⟨h, h2⟩, if_neg (by decide), if_neg (by decide), if_neg (by decide), if_neg (by decide), if_pos rfl, nI_clamp hc1]⟩, ⟨_, _, _, _, _, _, _, _, _, _, _, rfl, hI2⟩⟩
        · refine g_tableIn (off := 79) F 102 dX0_about_23 (by decide) (by decide) (by decide +kernel) (by decide) ?_
          refine g_aload_n F dX0_about_102 rfl rfl ?_
          refine g_aload_n F dX0_about_103 rfl rfl ?_
          refine gX_get_ys F dX0_about_104 ?_
          refine g_iload_n F dX0_about_107 rfl rfl ?_
          refine c_VI F [] (wr := []) (cX_leastOf_y hb2 (by omega)) cwX0_X0_leastOf ⟨by decide, by decide, rfl, rfl⟩ rfl rfl rfl rfl (Nat.le_of_ble_eq_true rfl) ⟨by decide, by decide⟩ dX0_about_108 (fun r u hu => ?_)
          obtain ⟨rfl, rfl⟩ := hu
          show GG (EE l D t) X 0 0 111 [(0, .ref (a 0)), (1, .int (nI c)), (2, .int (nI 5))] [.int (mn1 y (fun p => decide (cr2 p = some c)) 1073741823)] (WX a t w x y wy re de co2 cr2 cc2 re true cf ck ng nw cs se2)
          exact E _ _ _ _ dX0_about_111 ⟨⟨co2, cr2, cc2, hs2, by unfold aboutF; rw [if_pos ⟨h, h2⟩, if_neg (by decide), if_neg (by decide), if_neg (by decide), if_neg (by decide), if_neg (by decide), if_pos rfl, nI_clamp hc1]⟩, ⟨_, _, _, _, _, _, _, _, _, _, _, rfl, hI2⟩⟩
        · refine g_tableIn (off := 89) F 112 dX0_about_23 (by decide) (by decide) (by decide +kernel) (by decide) ?_
          refine g_aload_n F dX0_about_112 rfl rfl ?_
          refine g_aload_n F dX0_about_113 rfl rfl ?_
          refine gX_get_xs F dX0_about_114 ?_
          refine g_iload_n F dX0_about_117 rfl rfl ?_
          refine c_VI F [] (wr := []) (cX_greatestOf_x hb2 (by omega)) cwX0_X0_greatestOf ⟨by decide, by decide, rfl, rfl⟩ rfl rfl rfl rfl (Nat.le_of_ble_eq_true rfl) ⟨by decide, by decide⟩ dX0_about_118 (fun r u hu => ?_)
          obtain ⟨rfl, rfl⟩ := hu
          show GG (EE l D t) X 0 0 121 [(0, .ref (a 0)), (1, .int (nI c)), (2, .int (nI 6))] [.int (mx1 x (fun p => decide (cr2 p = some c)) (-1073741823))] (WX a t w x y wy re de co2 cr2 cc2 re true cf ck ng nw cs se2)
          exact E _ _ _ _ dX0_about_121 ⟨⟨co2, cr2, cc2, hs2, by unfold aboutF; rw [if_pos ⟨h, h2⟩, if_neg (by decide), if_neg (by decide), if_neg (by decide), if_neg (by decide), if_neg (by decide), if_neg (by decide), if_pos rfl, nI_clamp hc1]⟩, ⟨_, _, _, _, _, _, _, _, _, _, _, rfl, hI2⟩⟩
        · refine g_tableIn (off := 99) F 122 dX0_about_23 (by decide) (by decide) (by decide +kernel) (by decide) ?_
          refine g_aload_n F dX0_about_122 rfl rfl ?_
          refine g_aload_n F dX0_about_123 rfl rfl ?_
          refine gX_get_ys F dX0_about_124 ?_
          refine g_iload_n F dX0_about_127 rfl rfl ?_
          refine c_VI F [] (wr := []) (cX_greatestOf_y hb2 (by omega)) cwX0_X0_greatestOf ⟨by decide, by decide, rfl, rfl⟩ rfl rfl rfl rfl (Nat.le_of_ble_eq_true rfl) ⟨by decide, by decide⟩ dX0_about_128 (fun r u hu => ?_)
          obtain ⟨rfl, rfl⟩ := hu
          show GG (EE l D t) X 0 0 131 [(0, .ref (a 0)), (1, .int (nI c)), (2, .int (nI 7))] [.int (mx1 y (fun p => decide (cr2 p = some c)) (-1073741823))] (WX a t w x y wy re de co2 cr2 cc2 re true cf ck ng nw cs se2)
          exact E _ _ _ _ dX0_about_131 ⟨⟨co2, cr2, cc2, hs2, by unfold aboutF; rw [if_pos ⟨h, h2⟩, if_neg (by decide), if_neg (by decide), if_neg (by decide), if_neg (by decide), if_neg (by decide), if_neg (by decide), if_neg (by decide), if_pos rfl, nI_clamp hc1]⟩, ⟨_, _, _, _, _, _, _, _, _, _, _, rfl, hI2⟩⟩
    · refine g_iconst F (oI none) dX0_about_20 (by decide) ?_
      exact E _ _ _ _ dX0_about_21 ⟨⟨co2, cr2, cc2, hs2, by unfold aboutF; rw [if_neg (fun z => h2 z.2)]⟩, ⟨_, _, _, _, _, _, _, _, _, _, _, rfl, hI2⟩⟩
set_option maxHeartbeats 4000000 in
set_option maxRecDepth 100000 in
/-- belongs -/
theorem cX_belongs {l : Launch} {D : va_G} {t : Ty3} {a : Nat → Nat} {w : Nat → Nat} {x : Nat → Int32} {y : Nat → Int32} {wy : Nat} {re : Nat} {de : Nat} {co : Nat → Bool} {cr : Nat → Option Nat} {cc : Nat} {sr : Nat} {so : Bool} {cf : Nat → Option Nat} {ck : Bool} {ng : Nat → Nat} {nw : Nat → Nat} {cs : Nat → Nat} {se : Nat → Bool} (hI : XI w x y wy re de co cr cc sr so cf ck ng nw cs) (p q : Int32) : CtI (EE l D t) yX0_belongs tsX0_belongs (RM 7 166) [.ref (a 0), .int p, .int q] (WX a t w x y wy re de co cr cc sr so cf ck ng nw cs se) 0 0 (fun r u => belongsR w x y wy re de p q r ∧ XW a t (w, x, y, wy, re, de) u) := by
  refine CtI.of (by decide +kernel) rfl (Nat.le_of_ble_eq_true rfl) (fun X F E => ?_)
  show GG (EE l D t) X 0 0 0 [(0, .ref (a 0)), (1, .int p), (2, .int q)] [] (WX a t w x y wy re de co cr cc sr so cf ck ng nw cs se)
  refine g_iload_n F dX0_belongs_0 rfl rfl ?_
  refine g_iload_n F dX0_belongs_1 rfl rfl ?_
  refine c_SI F [] (wr := []) (cX_isPlace p q) cwX0_X0_isPlace ⟨by decide, by decide, rfl, rfl⟩ rfl rfl (Nat.le_of_ble_eq_true rfl) ⟨by decide, by decide⟩ dX0_belongs_2 (fun r u hu => ?_)
  obtain ⟨rfl, rfl⟩ := hu
  show GG (EE l D t) X 0 0 5 [(0, .ref (a 0)), (1, .int p), (2, .int q)] [.int (b2 (isPl p q))] (WX a t w x y wy re de co cr cc sr so cf ck ng nw cs se)
  refine g_if_ne_b F 10 dX0_belongs_5 (by decide)  (fun h => ?_) (fun h => ?_)
  · refine g_aload_n F dX0_belongs_10 rfl rfl ?_
    refine g_aload_n F dX0_belongs_11 rfl rfl ?_
    refine gX_get_reachNow F dX0_belongs_12 ?_
    refine c_VV F [] (wr := []) (cX_sortWith hI.1 hI.2.1 hI.2.2.1 hI.2.2.2.1 hI.1.2.2.2.2.1) cwX0_X0_sortWith ⟨by decide, by decide, rfl, rfl⟩ rfl rfl rfl rfl (Nat.le_of_ble_eq_true rfl) ⟨by decide, by decide⟩ dX0_belongs_15 (fun u hu => ?_)
    obtain ⟨co2, cr2, cc2, se2, rfl, hb2, hs2⟩ := hu
    show GG (EE l D t) X 0 0 18 [(0, .ref (a 0)), (1, .int p), (2, .int q)] [] (WX a t w x y wy re de co2 cr2 cc2 re true cf ck ng nw cs se2)
    have hI2 : XI w x y wy re de co2 cr2 cc2 re true cf ck ng nw cs := XI_sorted hI hb2 hs2 hI.1.2.2.2.2.1
    refine g_aload_n F dX0_belongs_18 rfl rfl ?_
    refine g_iload_n F dX0_belongs_19 rfl rfl ?_
    refine g_iload_n F dX0_belongs_20 rfl rfl ?_
    refine g_aload_n F dX0_belongs_21 rfl rfl ?_
    refine gX_get_reachNow F dX0_belongs_22 ?_
    refine c_VI F [] (wr := []) (cX_leastCrowdAt hI.1 (fun z h1 h2 => by obtain ⟨k, e1, -, e3⟩ := hs2.core h1 h2; exact ⟨k, e1, e3⟩) (isPl_inR h).1 (isPl_inR h).2 hI.1.2.2.2.2.1) cwX0_X0_leastCrowdAt ⟨by decide, by decide, rfl, rfl⟩ rfl rfl rfl rfl (Nat.le_of_ble_eq_true rfl) ⟨by decide, by decide⟩ dX0_belongs_25 (fun r u hu => ?_)
    obtain ⟨rfl, rfl⟩ := hu
    show GG (EE l D t) X 0 0 28 [(0, .ref (a 0)), (1, .int p), (2, .int q)] [.int (oI (lcs1 co2 cr2 (fun z => gapN wy (x z) (y z) p q) re))] (WX a t w x y wy re de co2 cr2 cc2 re true cf ck ng nw cs se2)
    exact E _ _ _ _ dX0_belongs_28 ⟨by unfold belongsR; rw [if_pos h]; exact ⟨co2, cr2, cc2, hs2, rfl⟩, ⟨_, _, _, _, _, _, _, _, _, _, _, rfl, hI2⟩⟩
  · refine g_iconst F (oI none) dX0_belongs_8 (by decide) ?_
    exact E _ _ _ _ dX0_belongs_9 ⟨by unfold belongsR; rw [if_neg (by simp [h])], ⟨_, _, _, _, _, _, _, _, _, _, _, rfl, hI⟩⟩
set_option maxHeartbeats 4000000 in
set_option maxRecDepth 100000 in
/-- crowds -/
theorem cX_crowds {l : Launch} {D : va_G} {t : Ty3} {a : Nat → Nat} {w : Nat → Nat} {x : Nat → Int32} {y : Nat → Int32} {wy : Nat} {re : Nat} {de : Nat} {co : Nat → Bool} {cr : Nat → Option Nat} {cc : Nat} {sr : Nat} {so : Bool} {cf : Nat → Option Nat} {ck : Bool} {ng : Nat → Nat} {nw : Nat → Nat} {cs : Nat → Nat} {se : Nat → Bool} (hI : XI w x y wy re de co cr cc sr so cf ck ng nw cs) (p : Int64) : CtI (EE l D t) yX0_crowds tsX0_crowds (RM 7 166) [.ref (a 0), .long p] (WX a t w x y wy re de co cr cc sr so cf ck ng nw cs se) 0 0 (fun r u => crowdsR w x y wy de p r ∧ XW a t (w, x, y, wy, re, de) u) := by
  refine CtI.of (by decide +kernel) rfl (Nat.le_of_ble_eq_true rfl) (fun X F E => ?_)
  show GG (EE l D t) X 0 0 0 [(0, .ref (a 0)), (1, .long p)] [] (WX a t w x y wy re de co cr cc sr so cf ck ng nw cs se)
  refine g_lload_n F dX0_crowds_0 rfl rfl ?_
  refine g_lconst F 0 dX0_crowds_1 rfl ?_
  refine g_lc_ge F 8 dX0_crowds_2 dX0_crowds_3 (by decide)  (fun h => ?_) (fun h => ?_)
  · have h9 : ¬ p < 0 := lg_le_not_lt h
    obtain ⟨m, hm, rfl⟩ := pk_lOf h9
    refine g_aload_n F dX0_crowds_8 rfl rfl ?_
    refine g_lload_n F dX0_crowds_9 rfl rfl ?_
    refine c_VV F [] (wr := []) (cX_sortWith hI.1 hI.2.1 hI.2.2.1 hI.2.2.2.1 hm) cwX0_X0_sortWith ⟨by decide, by decide, rfl, rfl⟩ rfl rfl rfl rfl (Nat.le_of_ble_eq_true rfl) ⟨by decide, by decide⟩ dX0_crowds_10 (fun u hu => ?_)
    obtain ⟨co2, cr2, cc2, se2, rfl, hb2, hs2⟩ := hu
    show GG (EE l D t) X 0 0 13 [(0, .ref (a 0)), (1, .long (lN m))] [] (WX a t w x y wy re de co2 cr2 cc2 m true cf ck ng nw cs se2)
    have hI2 : XI w x y wy re de co2 cr2 cc2 m true cf ck ng nw cs := XI_sorted hI hb2 hs2 hm
    refine g_aload_n F dX0_crowds_13 rfl rfl ?_
    refine gX_get_crowdCount F dX0_crowds_14 ?_
    exact E _ _ _ _ dX0_crowds_17 ⟨by unfold crowdsR; rw [if_neg h9, pk_lT hm]; exact ⟨co2, cr2, cc2, hs2, rfl⟩, ⟨_, _, _, _, _, _, _, _, _, _, _, rfl, hI2⟩⟩
  · refine g_iconst F (oI none) dX0_crowds_6 (by decide) ?_
    exact E _ _ _ _ dX0_crowds_7 ⟨by unfold crowdsR; rw [if_pos (l_neg h)], ⟨_, _, _, _, _, _, _, _, _, _, _, rfl, hI⟩⟩
set_option maxHeartbeats 4000000 in
set_option maxRecDepth 100000 in
/-- check -/
theorem cX_check {l : Launch} {D : va_G} {t : Ty3} {a : Nat → Nat} {w : Nat → Nat} {x : Nat → Int32} {y : Nat → Int32} {wy : Nat} {re : Nat} {de : Nat} {co : Nat → Bool} {cr : Nat → Option Nat} {cc : Nat} {sr : Nat} {so : Bool} {cf : Nat → Option Nat} {ck : Bool} {ng : Nat → Nat} {nw : Nat → Nat} {cs : Nat → Nat} {se : Nat → Bool} (hI : XI w x y wy re de co cr cc sr so cf ck ng nw cs) : CtI (EE l D t) yX0_check tsX0_check (RM 7 166) [.ref (a 0)] (WX a t w x y wy re de co cr cc sr so cf ck ng nw cs se) 0 0 (fun r u => r = nI 1 ∧ XW a t (w, x, y, wy, re, de) u) := by
  refine CtI.of (by decide +kernel) rfl (Nat.le_of_ble_eq_true rfl) (fun X F E => ?_)
  show GG (EE l D t) X 0 0 0 [(0, .ref (a 0))] [] (WX a t w x y wy re de co cr cc sr so cf ck ng nw cs se)
  refine g_aload_n F dX0_check_0 rfl rfl ?_
  refine g_aload_n F dX0_check_1 rfl rfl ?_
  refine gX_get_reachNow F dX0_check_2 ?_
  refine c_VV F [] (wr := []) (cX_sortWith hI.1 hI.2.1 hI.2.2.1 hI.2.2.2.1 hI.1.2.2.2.2.1) cwX0_X0_sortWith ⟨by decide, by decide, rfl, rfl⟩ rfl rfl rfl rfl (Nat.le_of_ble_eq_true rfl) ⟨by decide, by decide⟩ dX0_check_5 (fun u hu => ?_)
  obtain ⟨co2, cr2, cc2, se2, rfl, hb2, hs2⟩ := hu
  show GG (EE l D t) X 0 0 8 [(0, .ref (a 0))] [] (WX a t w x y wy re de co2 cr2 cc2 re true cf ck ng nw cs se2)
  have hI2 : XI w x y wy re de co2 cr2 cc2 re true cf ck ng nw cs := XI_sorted hI hb2 hs2 hI.1.2.2.2.2.1
  refine g_iconst F (nI 0) dX0_check_8 (by decide) ?_
  refine g_istore_n (lv2 := [(0, .ref (a 0)), (1, .int (nI 0))]) F dX0_check_9 rfl (by decide) rfl ?_
  refine up_loop (P := fun i => GG (EE l D t) X 0 0 10 [(0, .ref (a 0)), (1, .int (nI i))] [] (WX a t w x y wy re de co2 cr2 cc2 re true cf ck ng nw cs se2)) 120 ?_ (fun i hi ih => ?_)
  · show GG (EE l D t) X 0 0 10 [(0, .ref (a 0)), (1, .int (nI 120))] [] (WX a t w x y wy re de co2 cr2 cc2 re true cf ck ng nw cs se2)
    refine g_iload_n F dX0_check_10 rfl rfl ?_
    refine g_bipush F (nI 120) dX0_check_11 (by decide) ?_
    refine g_icmp_ge_t F 41 dX0_check_13 (by decide) (nI_le (Nat.le_refl 120) (by decide)) ?_
    refine g_iconst F (nI 1) dX0_check_41 (by decide) ?_
    exact E _ _ _ _ dX0_check_42 ⟨rfl, ⟨_, _, _, _, _, _, _, _, _, _, _, rfl, hI2⟩⟩
  · show GG (EE l D t) X 0 0 10 [(0, .ref (a 0)), (1, .int (nI i))] [] (WX a t w x y wy re de co2 cr2 cc2 re true cf ck ng nw cs se2)
    refine g_iload_n F dX0_check_10 rfl rfl ?_
    refine g_bipush F (nI 120) dX0_check_11 (by decide) ?_
    refine g_icmp_ge_f F 41 dX0_check_13 (by decide) (nI_ge hi (by decide)) ?_
    refine g_aload_n F dX0_check_16 rfl rfl ?_
    refine gX_get_core F dX0_check_17 ?_
    refine g_iload_n F dX0_check_20 rfl rfl ?_
    refine gX_ld_core F hi dX0_check_21 ?_
    refine g_if_eq_b F 35 dX0_check_22 (by decide)  (fun h => ?_) (fun h => ?_)
    · refine g_iinc (lv2 := [(0, .ref (a 0)), (1, .int (nI (i + 1)))]) F (nI (i + 1)) dX0_check_35 rfl (nI_add i 1) (by decide) rfl ?_
      refine g_goto F 10 dX0_check_38 (by decide) ?_
      exact ih
    · refine g_aload_n F dX0_check_25 rfl rfl ?_
      refine g_iload_n F dX0_check_26 rfl rfl ?_
      refine c_VI F [] (wr := []) (cX_standsRight hI.1 hs2 hi h) cwX0_X0_standsRight ⟨by decide, by decide, rfl, rfl⟩ rfl rfl rfl rfl (Nat.le_of_ble_eq_true rfl) ⟨by decide, by decide⟩ dX0_check_27 (fun r u hu => ?_)
      obtain ⟨rfl, rfl⟩ := hu
      show GG (EE l D t) X 0 0 30 [(0, .ref (a 0)), (1, .int (nI i))] [.int (b2 true)] (WX a t w x y wy re de co2 cr2 cc2 re true cf ck ng nw cs se2)
      refine g_if_ne_b F 35 dX0_check_30 (by decide)  (fun h2 => ?_) (fun h2 => ?_)
      · refine g_iinc (lv2 := [(0, .ref (a 0)), (1, .int (nI (i + 1)))]) F (nI (i + 1)) dX0_check_35 rfl (nI_add i 1) (by decide) rfl ?_
        refine g_goto F 10 dX0_check_38 (by decide) ?_
        exact ih
      · cases h2
end
section
set_option maxHeartbeats 4000000 in
set_option maxRecDepth 100000 in
/-- isPlace -/
theorem cM_isPlace {l : Launch} {D : va_G} {t : Ty3} {a : Nat → Nat} {is : Nat → Bool} {x : Nat → Int32} {y : Nat → Int32} {w : Nat → Nat} {wy : Nat} {re : Nat} {de : Nat} {co : Nat → Bool} {cr : Nat → Option Nat} {cc : Nat} {dn : Nat → Bool} {cs : Nat → Option Nat} {df : Nat → Option Nat} (p0 p1 : Int32) : CtI (EE l D t) yX1_isPlace tsX1_isPlace (RM 0 0) [.int p0, .int p1] (WM a t is x y w wy re de co cr cc dn cs df) 0 0 (fun r u => u = WM a t is x y w wy re de co cr cc dn cs df ∧ r = b2 (isPl p0 p1)) := by
  refine CtZ.of (by decide +kernel) rfl (Nat.le_of_ble_eq_true rfl) (fun v u h => by obtain ⟨_, rfl⟩ := h; exact narrow_b2 _) (fun X F E => ?_)
  show GG (EE l D t) X 0 0 0 [(0, .int p0), (1, .int p1)] [] (WM a t is x y w wy re de co cr cc dn cs df)
  refine g_iload_n F dX1_isPlace_0 rfl rfl ?_
  refine g_ldc F (-1073741823) dX1_isPlace_1 (List.mem_cons_of_mem _ mw4_3) ?_
  refine g_icmp_lt F 28 dX1_isPlace_3 (by decide)  (fun h1 => ?_) (fun h1 => ?_)
  · refine g_iconst F (b2 false) dX1_isPlace_28 (by decide) ?_
    exact E _ _ _ _ dX1_isPlace_29 ⟨rfl, by rw [show isPl p0 p1 = false from by simp [isPl, h1]]⟩
  · refine g_iload_n F dX1_isPlace_6 rfl rfl ?_
    refine g_ldc F (1073741823) dX1_isPlace_7 (List.mem_cons_of_mem _ mw4_4) ?_
    refine g_icmp_gt F 28 dX1_isPlace_9 (by decide)  (fun h2 => ?_) (fun h2 => ?_)
    · refine g_iconst F (b2 false) dX1_isPlace_28 (by decide) ?_
      exact E _ _ _ _ dX1_isPlace_29 ⟨rfl, by rw [show isPl p0 p1 = false from by simp [isPl, h1, h2]]⟩
    · refine g_iload_n F dX1_isPlace_12 rfl rfl ?_
      refine g_ldc F (-1073741823) dX1_isPlace_13 (List.mem_cons_of_mem _ mw4_3) ?_
      refine g_icmp_lt F 28 dX1_isPlace_15 (by decide)  (fun h3 => ?_) (fun h3 => ?_)
      · refine g_iconst F (b2 false) dX1_isPlace_28 (by decide) ?_
        exact E _ _ _ _ dX1_isPlace_29 ⟨rfl, by rw [show isPl p0 p1 = false from by simp [isPl, h1, h2, h3]]⟩
      · refine g_iload_n F dX1_isPlace_18 rfl rfl ?_
        refine g_ldc F (1073741823) dX1_isPlace_19 (List.mem_cons_of_mem _ mw4_4) ?_
        refine g_icmp_gt F 28 dX1_isPlace_21 (by decide)  (fun h4 => ?_) (fun h4 => ?_)
        · refine g_iconst F (b2 false) dX1_isPlace_28 (by decide) ?_
          exact E _ _ _ _ dX1_isPlace_29 ⟨rfl, by rw [show isPl p0 p1 = false from by simp [isPl, h1, h2, h3, h4]]⟩
        · refine g_iconst F (b2 true) dX1_isPlace_24 (by decide) ?_
          refine g_goto F 29 dX1_isPlace_25 (by decide) ?_
          exact E _ _ _ _ dX1_isPlace_29 ⟨rfl, by rw [show isPl p0 p1 = true from by simp [isPl, h1, h2, h3, h4]]⟩
set_option maxHeartbeats 4000000 in
set_option maxRecDepth 100000 in
/-- isPoint -/
theorem cM_isPoint {l : Launch} {D : va_G} {t : Ty3} {a : Nat → Nat} {is : Nat → Bool} {x : Nat → Int32} {y : Nat → Int32} {w : Nat → Nat} {wy : Nat} {re : Nat} {de : Nat} {co : Nat → Bool} {cr : Nat → Option Nat} {cc : Nat} {dn : Nat → Bool} {cs : Nat → Option Nat} {df : Nat → Option Nat} (p : Int32) : CtI (EE l D t) yX1_isPoint tsX1_isPoint (RM 0 0) [.ref (a 0), .int p] (WM a t is x y w wy re de co cr cc dn cs df) 0 0 (fun r u => u = WM a t is x y w wy re de co cr cc dn cs df ∧ r = b2 (isPt is p)) := by
  refine CtZ.of (by decide +kernel) rfl (Nat.le_of_ble_eq_true rfl) (fun v u h => by obtain ⟨_, rfl⟩ := h; exact narrow_b2 _) (fun X F E => ?_)
  show GG (EE l D t) X 0 0 0 [(0, .ref (a 0)), (1, .int p)] [] (WM a t is x y w wy re de co cr cc dn cs df)
  rcases pk_ix p (n := 120) (by decide) with hp | hp | ⟨j, hj, rfl⟩
  · refine g_iload_n F dX1_isPoint_0 rfl rfl ?_
    refine g_if_lt_t F 23 dX1_isPoint_1 (by decide) hp ?_
    refine g_iconst F (b2 false) dX1_isPoint_23 (by decide) ?_
    exact E _ _ _ _ dX1_isPoint_24 ⟨rfl, by unfold isPt; rw [idx_neg hp]⟩
  · refine g_iload_n F dX1_isPoint_0 rfl rfl ?_
    refine g_if_lt_f F 23 dX1_isPoint_1 (by decide) (big_neg hp) ?_
    refine g_iload_n F dX1_isPoint_4 rfl rfl ?_
    refine g_bipush F (nI 120) dX1_isPoint_5 (by decide) ?_
    refine g_icmp_ge_t F 23 dX1_isPoint_7 (by decide) hp ?_
    refine g_iconst F (b2 false) dX1_isPoint_23 (by decide) ?_
    exact E _ _ _ _ dX1_isPoint_24 ⟨rfl, by unfold isPt; rw [idx_big hp]⟩
  · refine g_iload_n F dX1_isPoint_0 rfl rfl ?_
    refine g_if_lt_f F 23 dX1_isPoint_1 (by decide) (nI_pos (by omega)) ?_
    refine g_iload_n F dX1_isPoint_4 rfl rfl ?_
    refine g_bipush F (nI 120) dX1_isPoint_5 (by decide) ?_
    refine g_icmp_ge_f F 23 dX1_isPoint_7 (by decide) (nI_ge hj (by decide)) ?_
    refine g_aload_n F dX1_isPoint_10 rfl rfl ?_
    refine gM_get_is F dX1_isPoint_11 ?_
    refine g_iload_n F dX1_isPoint_14 rfl rfl ?_
    refine gM_ld_is F hj dX1_isPoint_15 ?_
    refine g_if_eq_b F 23 dX1_isPoint_16 (by decide)  (fun h => ?_) (fun h => ?_)
    · refine g_iconst F (b2 false) dX1_isPoint_23 (by decide) ?_
      exact E _ _ _ _ dX1_isPoint_24 ⟨rfl, by unfold isPt; rw [idx_nI hj]; simp [h]⟩
    · refine g_iconst F (b2 true) dX1_isPoint_19 (by decide) ?_
      refine g_goto F 24 dX1_isPoint_20 (by decide) ?_
      exact E _ _ _ _ dX1_isPoint_24 ⟨rfl, by unfold isPt; rw [idx_nI hj]; simp [h]⟩
set_option maxHeartbeats 4000000 in
set_option maxRecDepth 100000 in
/-- points -/
theorem cM_points {l : Launch} {D : va_G} {t : Ty3} {a : Nat → Nat} {is : Nat → Bool} {x : Nat → Int32} {y : Nat → Int32} {w : Nat → Nat} {wy : Nat} {re : Nat} {de : Nat} {co : Nat → Bool} {cr : Nat → Option Nat} {cc : Nat} {dn : Nat → Bool} {cs : Nat → Option Nat} {df : Nat → Option Nat}  : CtI (EE l D t) yX1_points tsX1_points (RM 0 0) [.ref (a 0)] (WM a t is x y w wy re de co cr cc dn cs df) 0 0 (fun r u => u = WM a t is x y w wy re de co cr cc dn cs df ∧ r = nI (sum1 (fun j => if is j = true then 1 else 0))) := by
  refine CtI.of (by decide +kernel) rfl (Nat.le_of_ble_eq_true rfl) (fun X F E => ?_)
  show GG (EE l D t) X 0 0 0 [(0, .ref (a 0))] [] (WM a t is x y w wy re de co cr cc dn cs df)
  refine g_iconst F (nI 0) dX1_points_0 (by decide) ?_
  refine g_istore_n (lv2 := [(0, .ref (a 0)), (1, .int (nI 0))]) F dX1_points_1 rfl (by decide) rfl ?_
  refine g_iconst F (nI 0) dX1_points_2 (by decide) ?_
  refine g_istore_n (lv2 := [(0, .ref (a 0)), (1, .int (nI 0)), (2, .int (nI 0))]) F dX1_points_3 rfl (by decide) rfl ?_
  refine up_loop (P := fun i => GG (EE l D t) X 0 0 4 [(0, .ref (a 0)), (1, .int (nI (sumN (fun j => if is j = true then 1 else 0) i))), (2, .int (nI i))] [] (WM a t is x y w wy re de co cr cc dn cs df)) 120 ?_ (fun i hi ih => ?_)
  · show GG (EE l D t) X 0 0 4 [(0, .ref (a 0)), (1, .int (nI (sumN (fun j => if is j = true then 1 else 0) 120))), (2, .int (nI 120))] [] (WM a t is x y w wy re de co cr cc dn cs df)
    refine g_iload_n F dX1_points_4 rfl rfl ?_
    refine g_bipush F (nI 120) dX1_points_5 (by decide) ?_
    refine g_icmp_ge_t F 33 dX1_points_7 (by decide) (nI_le (Nat.le_refl 120) (by decide)) ?_
    refine g_iload_n F dX1_points_33 rfl rfl ?_
    exact E _ _ _ _ dX1_points_34 ⟨rfl, by rw [sum1_eq]⟩
  · show GG (EE l D t) X 0 0 4 [(0, .ref (a 0)), (1, .int (nI (sumN (fun j => if is j = true then 1 else 0) i))), (2, .int (nI i))] [] (WM a t is x y w wy re de co cr cc dn cs df)
    refine g_iload_n F dX1_points_4 rfl rfl ?_
    refine g_bipush F (nI 120) dX1_points_5 (by decide) ?_
    refine g_icmp_ge_f F 33 dX1_points_7 (by decide) (nI_ge hi (by decide)) ?_
    refine g_iload_n F dX1_points_10 rfl rfl ?_
    refine g_aload_n F dX1_points_11 rfl rfl ?_
    refine gM_get_is F dX1_points_12 ?_
    refine g_iload_n F dX1_points_15 rfl rfl ?_
    refine gM_ld_is F hi dX1_points_16 ?_
    refine g_if_eq_b F 24 dX1_points_17 (by decide)  (fun h => ?_) (fun h => ?_)
    · refine g_iconst F (nI 0) dX1_points_24 (by decide) ?_
      refine g_iadd_n F dX1_points_25 ?_
      refine g_istore_n (lv2 := [(0, .ref (a 0)), (1, .int (nI ((sumN (fun j => if is j = true then 1 else 0) i) + 0))), (2, .int (nI i))]) F dX1_points_26 rfl (by decide) rfl ?_
      refine g_iinc (lv2 := [(0, .ref (a 0)), (1, .int (nI ((sumN (fun j => if is j = true then 1 else 0) i) + 0))), (2, .int (nI (i + 1)))]) F (nI (i + 1)) dX1_points_27 rfl (nI_add i 1) (by decide) rfl ?_
      refine g_goto F 4 dX1_points_30 (by decide) ?_
      rw [sumN_z (f := (fun j => if is j = true then 1 else 0)) (n := i) (c := is i = true) (v := 1) rfl (by simp [h])] at ih
      exact ih
    · refine g_iconst F (nI 1) dX1_points_20 (by decide) ?_
      refine g_goto F 25 dX1_points_21 (by decide) ?_
      refine g_iadd_n F dX1_points_25 ?_
      refine g_istore_n (lv2 := [(0, .ref (a 0)), (1, .int (nI ((sumN (fun j => if is j = true then 1 else 0) i) + 1))), (2, .int (nI i))]) F dX1_points_26 rfl (by decide) rfl ?_
      refine g_iinc (lv2 := [(0, .ref (a 0)), (1, .int (nI ((sumN (fun j => if is j = true then 1 else 0) i) + 1))), (2, .int (nI (i + 1)))]) F (nI (i + 1)) dX1_points_27 rfl (nI_add i 1) (by decide) rfl ?_
      refine g_goto F 4 dX1_points_30 (by decide) ?_
      rw [sumN_c (f := (fun j => if is j = true then 1 else 0)) (n := i) (c := is i = true) (v := 1) rfl h] at ih
      exact ih
set_option maxHeartbeats 4000000 in
set_option maxRecDepth 100000 in
/-- far -/
theorem cM_far {l : Launch} {D : va_G} {t : Ty3} {a : Nat → Nat} {is : Nat → Bool} {x : Nat → Int32} {y : Nat → Int32} {w : Nat → Nat} {wy : Nat} {re : Nat} {de : Nat} {co : Nat → Bool} {cr : Nat → Option Nat} {cc : Nat} {dn : Nat → Bool} {cs : Nat → Option Nat} {df : Nat → Option Nat} (hwy : wy ≤ 2) {j : Nat} (hj : j < 120) (p1 p2 : Int32) : CtL (EE l D t) yX1_far tsX1_far (RM 0 0) [.ref (a 0), .int (nI j), .long p1.toInt64, .long p2.toInt64] (WM a t is x y w wy re de co cr cc dn cs df) 0 0 (fun r u => u = WM a t is x y w wy re de co cr cc dn cs df ∧ r = lN (gapN wy (x j) (y j) p1 p2)) := by
  refine CtL.of (by decide +kernel) rfl (Nat.le_of_ble_eq_true rfl) (fun X F E => ?_)
  show GG (EE l D t) X 0 0 0 [(0, .ref (a 0)), (1, .int (nI j)), (2, .long p1.toInt64), (4, .long p2.toInt64)] [] (WM a t is x y w wy re de co cr cc dn cs df)
  have k3 : GG (EE l D t) X 0 0 73 [(0, .ref (a 0)), (1, .int (nI j)), (2, .long p1.toInt64), (4, .long p2.toInt64), (6, .long (lN (dist1 (x j) p1))), (8, .long (lN (dist1 (y j) p2)))] [] (WM a t is x y w wy re de co cr cc dn cs df) := by
    refine g_aload_n F dX1_far_73 rfl rfl ?_
    refine gM_get_way F dX1_far_74 ?_
    refine g_if_ne_n F 94 dX1_far_77 (by decide) (by omega) (fun h => ?_) (fun h => ?_)
    · refine g_aload_n F dX1_far_94 rfl rfl ?_
      refine gM_get_way F dX1_far_95 ?_
      refine g_iconst F (nI 1) dX1_far_98 (by decide) ?_
      refine g_icmp_ne_n F 120 dX1_far_99 (by decide) (by omega) (by decide) (fun h2 => ?_) (fun h2 => ?_)
      · refine g_lload F dX1_far_120 rfl ?_
        refine g_lload F dX1_far_122 rfl ?_
        refine g_ladd_n F dX1_far_124 ?_
        exact E _ _ _ _ dX1_far_125 ⟨rfl, by unfold gapN; rw [if_neg (by omega), if_neg h2]⟩
      · refine g_lload F dX1_far_102 rfl ?_
        refine g_lload F dX1_far_104 rfl ?_
        refine g_lc_le_n F 115 dX1_far_106 dX1_far_107 (by decide) (Nat.lt_trans (dist1_lt _ _) (by decide)) (Nat.lt_trans (dist1_lt _ _) (by decide)) (fun h3 => ?_) (fun h3 => ?_)
        · refine g_lload F dX1_far_115 rfl ?_
          refine g_goto F 125 dX1_far_117 (by decide) ?_
          exact E _ _ _ _ dX1_far_125 ⟨rfl, by unfold gapN; rw [if_neg (by omega), if_pos h2, Nat.max_eq_right h3]⟩
        · refine g_lload F dX1_far_110 rfl ?_
          refine g_goto F 125 dX1_far_112 (by decide) ?_
          exact E _ _ _ _ dX1_far_125 ⟨rfl, by unfold gapN; rw [if_neg (by omega), if_pos h2, Nat.max_eq_left (Nat.le_of_lt h3)]⟩
    · refine g_lload F dX1_far_80 rfl ?_
      refine g_lload F dX1_far_82 rfl ?_
      refine g_lmul_n F dX1_far_84 ?_
      refine g_lload F dX1_far_85 rfl ?_
      refine g_lload F dX1_far_87 rfl ?_
      refine g_lmul_n F dX1_far_89 ?_
      refine g_ladd_n F dX1_far_90 ?_
      refine g_goto F 125 dX1_far_91 (by decide) ?_
      exact E _ _ _ _ dX1_far_125 ⟨rfl, by unfold gapN; rw [if_pos h]⟩
  have k2 : GG (EE l D t) X 0 0 35 [(0, .ref (a 0)), (1, .int (nI j)), (2, .long p1.toInt64), (4, .long p2.toInt64), (6, .long (lN (dist1 (x j) p1)))] [] (WM a t is x y w wy re de co cr cc dn cs df) := by
    refine g_aload_n F dX1_far_35 rfl rfl ?_
    refine gM_get_ys F dX1_far_36 ?_
    refine g_iload_n F dX1_far_39 rfl rfl ?_
    refine gM_ld_ys F hj dX1_far_40 ?_
    refine g_i2l F dX1_far_41 ?_
    refine g_lload F dX1_far_42 rfl ?_
    refine g_lc_ge F 61 dX1_far_44 dX1_far_45 (by decide)  (fun h => ?_) (fun h => ?_)
    · refine g_aload_n F dX1_far_61 rfl rfl ?_
      refine gM_get_ys F dX1_far_62 ?_
      refine g_iload_n F dX1_far_65 rfl rfl ?_
      refine gM_ld_ys F hj dX1_far_66 ?_
      refine g_i2l F dX1_far_67 ?_
      refine g_lload F dX1_far_68 rfl ?_
      refine g_lsub F dX1_far_70 ?_
      refine g_topl (sub_dist h) ?_
      refine g_lstore (lv2 := [(0, .ref (a 0)), (1, .int (nI j)), (2, .long p1.toInt64), (4, .long p2.toInt64), (6, .long (lN (dist1 (x j) p1))), (8, .long (lN (dist1 (y j) p2)))]) F dX1_far_71 (by decide) rfl ?_
      exact k3
    · refine g_lload F dX1_far_48 rfl ?_
      refine g_aload_n F dX1_far_50 rfl rfl ?_
      refine gM_get_ys F dX1_far_51 ?_
      refine g_iload_n F dX1_far_54 rfl rfl ?_
      refine gM_ld_ys F hj dX1_far_55 ?_
      refine g_i2l F dX1_far_56 ?_
      refine g_lsub F dX1_far_57 ?_
      refine g_goto F 71 dX1_far_58 (by decide) ?_
      refine g_topl (sub_dist2 h) ?_
      refine g_lstore (lv2 := [(0, .ref (a 0)), (1, .int (nI j)), (2, .long p1.toInt64), (4, .long p2.toInt64), (6, .long (lN (dist1 (x j) p1))), (8, .long (lN (dist1 (y j) p2)))]) F dX1_far_71 (by decide) rfl ?_
      exact k3
  refine g_aload_n F dX1_far_0 rfl rfl ?_
  refine gM_get_xs F dX1_far_1 ?_
  refine g_iload_n F dX1_far_4 rfl rfl ?_
  refine gM_ld_xs F hj dX1_far_5 ?_
  refine g_i2l F dX1_far_6 ?_
  refine g_lload_n F dX1_far_7 rfl rfl ?_
  refine g_lc_ge F 24 dX1_far_8 dX1_far_9 (by decide)  (fun h => ?_) (fun h => ?_)
  · refine g_aload_n F dX1_far_24 rfl rfl ?_
    refine gM_get_xs F dX1_far_25 ?_
    refine g_iload_n F dX1_far_28 rfl rfl ?_
    refine gM_ld_xs F hj dX1_far_29 ?_
    refine g_i2l F dX1_far_30 ?_
    refine g_lload_n F dX1_far_31 rfl rfl ?_
    refine g_lsub F dX1_far_32 ?_
    refine g_topl (sub_dist h) ?_
    refine g_lstore (lv2 := [(0, .ref (a 0)), (1, .int (nI j)), (2, .long p1.toInt64), (4, .long p2.toInt64), (6, .long (lN (dist1 (x j) p1)))]) F dX1_far_33 (by decide) rfl ?_
    exact k2
  · refine g_lload_n F dX1_far_12 rfl rfl ?_
    refine g_aload_n F dX1_far_13 rfl rfl ?_
    refine gM_get_xs F dX1_far_14 ?_
    refine g_iload_n F dX1_far_17 rfl rfl ?_
    refine gM_ld_xs F hj dX1_far_18 ?_
    refine g_i2l F dX1_far_19 ?_
    refine g_lsub F dX1_far_20 ?_
    refine g_goto F 33 dX1_far_21 (by decide) ?_
    refine g_topl (sub_dist2 h) ?_
    refine g_lstore (lv2 := [(0, .ref (a 0)), (1, .int (nI j)), (2, .long p1.toInt64), (4, .long p2.toInt64), (6, .long (lN (dist1 (x j) p1)))]) F dX1_far_33 (by decide) rfl ?_
    exact k2
set_option maxHeartbeats 4000000 in
set_option maxRecDepth 100000 in
/-- weightWithin -/
theorem cM_weightWithin {l : Launch} {D : va_G} {t : Ty3} {a : Nat → Nat} {is : Nat → Bool} {x : Nat → Int32} {y : Nat → Int32} {w : Nat → Nat} {wy : Nat} {re : Nat} {de : Nat} {co : Nat → Bool} {cr : Nat → Option Nat} {cc : Nat} {dn : Nat → Bool} {cs : Nat → Option Nat} {df : Nat → Option Nat} {v : Nat → Nat} (hM : MI v x y wy re de is w) {p r0 : Nat} (hp : p < 120) (hr : r0 < 2 ^ 63) : CtI (EE l D t) yX1_weightWithin tsX1_weightWithin (RM 1 29) [.ref (a 0), .int (nI p), .long (lN r0)] (WM a t is x y w wy re de co cr cc dn cs df) 0 0 (fun r u => u = WM a t is x y w wy re de co cr cc dn cs df ∧ r = nI (ww v (gp wy x y p) r0)) := by
  refine CtI.of (by decide +kernel) rfl (Nat.le_of_ble_eq_true rfl) (fun X F E => ?_)
  show GG (EE l D t) X 0 0 0 [(0, .ref (a 0)), (1, .int (nI p)), (2, .long (lN r0))] [] (WM a t is x y w wy re de co cr cc dn cs df)
  refine g_iconst F (nI 0) dX1_weightWithin_0 (by decide) ?_
  refine g_istore (lv2 := [(0, .ref (a 0)), (1, .int (nI p)), (2, .long (lN r0)), (4, .int (nI 0))]) F dX1_weightWithin_1 (by decide) rfl ?_
  refine g_iconst F (nI 0) dX1_weightWithin_3 (by decide) ?_
  refine g_istore (lv2 := [(0, .ref (a 0)), (1, .int (nI p)), (2, .long (lN r0)), (4, .int (nI 0)), (5, .int (nI 0))]) F dX1_weightWithin_4 (by decide) rfl ?_
  refine up_loop (P := fun i => GG (EE l D t) X 0 0 6 [(0, .ref (a 0)), (1, .int (nI p)), (2, .long (lN r0)), (4, .int (nI (sumN (wwf v (gp wy x y p) r0) i))), (5, .int (nI i))] [] (WM a t is x y w wy re de co cr cc dn cs df)) 120 ?_ (fun i hi ih => ?_)
  · show GG (EE l D t) X 0 0 6 [(0, .ref (a 0)), (1, .int (nI p)), (2, .long (lN r0)), (4, .int (nI (sumN (wwf v (gp wy x y p) r0) 120))), (5, .int (nI 120))] [] (WM a t is x y w wy re de co cr cc dn cs df)
    refine g_iload F dX1_weightWithin_6 rfl ?_
    refine g_bipush F (nI 120) dX1_weightWithin_8 (by decide) ?_
    refine g_icmp_ge_t F 71 dX1_weightWithin_10 (by decide) (nI_le (Nat.le_refl 120) (by decide)) ?_
    refine g_iload F dX1_weightWithin_71 rfl ?_
    exact E _ _ _ _ dX1_weightWithin_73 ⟨rfl, by unfold ww; rw [sum1_eq]⟩
  · show GG (EE l D t) X 0 0 6 [(0, .ref (a 0)), (1, .int (nI p)), (2, .long (lN r0)), (4, .int (nI (sumN (wwf v (gp wy x y p) r0) i))), (5, .int (nI i))] [] (WM a t is x y w wy re de co cr cc dn cs df)
    refine g_iload F dX1_weightWithin_6 rfl ?_
    refine g_bipush F (nI 120) dX1_weightWithin_8 (by decide) ?_
    refine g_icmp_ge_f F 71 dX1_weightWithin_10 (by decide) (nI_ge hi (by decide)) ?_
    refine g_iload F dX1_weightWithin_13 rfl ?_
    refine g_aload_n F dX1_weightWithin_15 rfl rfl ?_
    refine gM_get_is F dX1_weightWithin_16 ?_
    refine g_iload F dX1_weightWithin_19 rfl ?_
    refine gM_ld_is F hi dX1_weightWithin_21 ?_
    refine g_if_eq_b F 61 dX1_weightWithin_22 (by decide)  (fun h => ?_) (fun h => ?_)
    · refine g_iconst F (nI 0) dX1_weightWithin_61 (by decide) ?_
      refine g_iadd_n F dX1_weightWithin_62 ?_
      refine g_istore (lv2 := [(0, .ref (a 0)), (1, .int (nI p)), (2, .long (lN r0)), (4, .int (nI ((sumN (wwf v (gp wy x y p) r0) i) + 0))), (5, .int (nI i))]) F dX1_weightWithin_63 (by decide) rfl ?_
      refine g_iinc (lv2 := [(0, .ref (a 0)), (1, .int (nI p)), (2, .long (lN r0)), (4, .int (nI ((sumN (wwf v (gp wy x y p) r0) i) + 0))), (5, .int (nI (i + 1)))]) F (nI (i + 1)) dX1_weightWithin_65 rfl (nI_add i 1) (by decide) rfl ?_
      refine g_goto F 6 dX1_weightWithin_68 (by decide) ?_
      rw [sumN_z (f := (wwf v (gp wy x y p) r0)) (n := i) (c := 0 < v i ∧ gp wy x y p i ≤ r0) (v := v i) rfl (by have := hM.n h; omega)] at ih
      exact ih
    · refine g_aload_n F dX1_weightWithin_25 rfl rfl ?_
      refine g_iload_n F dX1_weightWithin_26 rfl rfl ?_
      refine g_aload_n F dX1_weightWithin_27 rfl rfl ?_
      refine gM_get_xs F dX1_weightWithin_28 ?_
      refine g_iload F dX1_weightWithin_31 rfl ?_
      refine gM_ld_xs F hi dX1_weightWithin_33 ?_
      refine g_i2l F dX1_weightWithin_34 ?_
      refine g_aload_n F dX1_weightWithin_35 rfl rfl ?_
      refine gM_get_ys F dX1_weightWithin_36 ?_
      refine g_iload F dX1_weightWithin_39 rfl ?_
      refine gM_ld_ys F hi dX1_weightWithin_41 ?_
      refine g_i2l F dX1_weightWithin_42 ?_
      refine c_VL F [.int (nI (sumN (wwf v (gp wy x y p) r0) i))] (wr := []) (cM_far hM.1.2.2.2.1 hp (x i) (y i)) cwX1_X1_far ⟨by decide, by decide, rfl, rfl⟩ rfl rfl rfl rfl (Nat.le_of_ble_eq_true rfl) ⟨by decide, by decide⟩ dX1_weightWithin_43 (fun r u hu => ?_)
      obtain ⟨rfl, rfl⟩ := hu
      show GG (EE l D t) X 0 0 46 [(0, .ref (a 0)), (1, .int (nI p)), (2, .long (lN r0)), (4, .int (nI (sumN (wwf v (gp wy x y p) r0) i))), (5, .int (nI i))] [.long (lN (gapN wy (x p) (y p) (x i) (y i))), .int (nI (sumN (wwf v (gp wy x y p) r0) i))] (WM a t is x y w wy re de co cr cc dn cs df)
      refine g_topl (y := lN (gp wy x y p i)) (congrArg lN (gapN_comm _ _ _ _ _)) ?_
      refine g_lload_n F dX1_weightWithin_46 rfl rfl ?_
      refine g_lc_gt_n F 61 dX1_weightWithin_47 dX1_weightWithin_48 (by decide) (Nat.lt_trans (gp_lt hM.1 p i) (by decide)) hr (fun h2 => ?_) (fun h2 => ?_)
      · refine g_iconst F (nI 0) dX1_weightWithin_61 (by decide) ?_
        refine g_iadd_n F dX1_weightWithin_62 ?_
        refine g_istore (lv2 := [(0, .ref (a 0)), (1, .int (nI p)), (2, .long (lN r0)), (4, .int (nI ((sumN (wwf v (gp wy x y p) r0) i) + 0))), (5, .int (nI i))]) F dX1_weightWithin_63 (by decide) rfl ?_
        refine g_iinc (lv2 := [(0, .ref (a 0)), (1, .int (nI p)), (2, .long (lN r0)), (4, .int (nI ((sumN (wwf v (gp wy x y p) r0) i) + 0))), (5, .int (nI (i + 1)))]) F (nI (i + 1)) dX1_weightWithin_65 rfl (nI_add i 1) (by decide) rfl ?_
        refine g_goto F 6 dX1_weightWithin_68 (by decide) ?_
        rw [sumN_z (f := (wwf v (gp wy x y p) r0)) (n := i) (c := 0 < v i ∧ gp wy x y p i ≤ r0) (v := v i) rfl (by omega)] at ih
        exact ih
      · refine g_aload_n F dX1_weightWithin_51 rfl rfl ?_
        refine gM_get_weights F dX1_weightWithin_52 ?_
        refine g_iload F dX1_weightWithin_55 rfl ?_
        refine gM_ld_weights F hi dX1_weightWithin_57 ?_
        refine g_topi (y := nI (v i)) (congrArg nI (hM.y h).2) ?_
        refine g_goto F 62 dX1_weightWithin_58 (by decide) ?_
        refine g_iadd_n F dX1_weightWithin_62 ?_
        refine g_istore (lv2 := [(0, .ref (a 0)), (1, .int (nI p)), (2, .long (lN r0)), (4, .int (nI ((sumN (wwf v (gp wy x y p) r0) i) + (v i)))), (5, .int (nI i))]) F dX1_weightWithin_63 (by decide) rfl ?_
        refine g_iinc (lv2 := [(0, .ref (a 0)), (1, .int (nI p)), (2, .long (lN r0)), (4, .int (nI ((sumN (wwf v (gp wy x y p) r0) i) + (v i)))), (5, .int (nI (i + 1)))]) F (nI (i + 1)) dX1_weightWithin_65 rfl (nI_add i 1) (by decide) rfl ?_
        refine g_goto F 6 dX1_weightWithin_68 (by decide) ?_
        rw [sumN_c (f := (wwf v (gp wy x y p) r0)) (n := i) (c := 0 < v i ∧ gp wy x y p i ≤ r0) (v := v i) rfl ⟨(hM.y h).1, h2⟩] at ih
        exact ih
set_option maxHeartbeats 4000000 in
set_option maxRecDepth 100000 in
/-- spread -/
theorem cM_spread {l : Launch} {D : va_G} {t : Ty3} {a : Nat → Nat} {is : Nat → Bool} {x : Nat → Int32} {y : Nat → Int32} {w : Nat → Nat} {wy : Nat} {re : Nat} {de : Nat} {co : Nat → Bool} {cr : Nat → Option Nat} {cc : Nat} {dn : Nat → Bool} {cs : Nat → Option Nat} {df : Nat → Option Nat} {v : Nat → Nat} (hM : MI v x y wy re de is w) (hcr : ∀ j, j < 120 → ∀ k, cr j = some k → k < 120) {p r0 : Nat} (hp : p < 120) (hr : r0 < 2 ^ 63) : CtI (EE l D t) yX1_spread tsX1_spread (RM 1 29) [.ref (a 0), .int (nI p), .long (lN r0)] (WM a t is x y w wy re de co cr cc dn cs df) 0 0 (fun r u => u = WM a t is x y w wy re de co (fill cr (nearC co cr cc (gp wy x y p) r0) 120) cc dn cs df ∧ r = b2 (any1 (newS co cr (gp wy x y p) r0))) := by
  refine CtZ.of (by decide +kernel) rfl (Nat.le_of_ble_eq_true rfl) (fun v u h => by obtain ⟨_, rfl⟩ := h; exact narrow_b2 _) (fun X F E => ?_)
  show GG (EE l D t) X 0 0 0 [(0, .ref (a 0)), (1, .int (nI p)), (2, .long (lN r0))] [] (WM a t is x y w wy re de co cr cc dn cs df)
  refine g_iconst F (b2 false) dX1_spread_0 (by decide) ?_
  refine g_istore (lv2 := [(0, .ref (a 0)), (1, .int (nI p)), (2, .long (lN r0)), (4, .int (b2 false))]) F dX1_spread_1 (by decide) rfl ?_
  refine g_iconst F (nI 0) dX1_spread_3 (by decide) ?_
  refine g_istore (lv2 := [(0, .ref (a 0)), (1, .int (nI p)), (2, .long (lN r0)), (4, .int (b2 false)), (5, .int (nI 0))]) F dX1_spread_4 (by decide) rfl ?_
  have e0 : WM a t is x y w wy re de co (fill cr (nearC co cr cc (gp wy x y p) r0) 0) cc dn cs df = WM a t is x y w wy re de co cr cc dn cs df := by rw [fill_0]
  rw [← e0]
  refine up_loop (P := fun i => GG (EE l D t) X 0 0 6 [(0, .ref (a 0)), (1, .int (nI p)), (2, .long (lN r0)), (4, .int (b2 (anyN (newS co cr (gp wy x y p) r0) i))), (5, .int (nI i))] [] (WM a t is x y w wy re de co (fill cr (nearC co cr cc (gp wy x y p) r0) i) cc dn cs df)) 120 ?_ (fun i hi ih => ?_)
  · show GG (EE l D t) X 0 0 6 [(0, .ref (a 0)), (1, .int (nI p)), (2, .long (lN r0)), (4, .int (b2 (anyN (newS co cr (gp wy x y p) r0) 120))), (5, .int (nI 120))] [] (WM a t is x y w wy re de co (fill cr (nearC co cr cc (gp wy x y p) r0) 120) cc dn cs df)
    refine g_iload F dX1_spread_6 rfl ?_
    refine g_bipush F (nI 120) dX1_spread_8 (by decide) ?_
    refine g_icmp_ge_t F 82 dX1_spread_10 (by decide) (nI_le (Nat.le_refl 120) (by decide)) ?_
    refine g_iload F dX1_spread_82 rfl ?_
    exact E _ _ _ _ dX1_spread_84 ⟨rfl, by rw [any1_eq]⟩
  · show GG (EE l D t) X 0 0 6 [(0, .ref (a 0)), (1, .int (nI p)), (2, .long (lN r0)), (4, .int (b2 (anyN (newS co cr (gp wy x y p) r0) i))), (5, .int (nI i))] [] (WM a t is x y w wy re de co (fill cr (nearC co cr cc (gp wy x y p) r0) i) cc dn cs df)
    refine g_iload F dX1_spread_6 rfl ?_
    refine g_bipush F (nI 120) dX1_spread_8 (by decide) ?_
    refine g_icmp_ge_f F 82 dX1_spread_10 (by decide) (nI_ge hi (by decide)) ?_
    refine g_aload_n F dX1_spread_13 rfl rfl ?_
    refine gM_get_core F dX1_spread_14 ?_
    refine g_iload F dX1_spread_17 rfl ?_
    refine gM_ld_core F hi dX1_spread_19 ?_
    refine g_if_eq_b F 76 dX1_spread_20 (by decide)  (fun h => ?_) (fun h => ?_)
    · refine g_iinc (lv2 := [(0, .ref (a 0)), (1, .int (nI p)), (2, .long (lN r0)), (4, .int (b2 (anyN (newS co cr (gp wy x y p) r0) i))), (5, .int (nI (i + 1)))]) F (nI (i + 1)) dX1_spread_76 rfl (nI_add i 1) (by decide) rfl ?_
      refine g_goto F 6 dX1_spread_79 (by decide) ?_
      rw [fill_same (f := cr) (g := (nearC co cr cc (gp wy x y p) r0)) (nearC_n (by simp [newS, h])), anyN_f (s := (newS co cr (gp wy x y p) r0)) (n := i) (by simp [newS, h])] at ih
      exact ih
    · refine g_aload_n F dX1_spread_23 rfl rfl ?_
      refine gM_get_crowdOf F dX1_spread_24 ?_
      refine g_iload F dX1_spread_27 rfl ?_
      refine gM_ld_crowdOf F hi dX1_spread_29 ?_
      refine g_if_ge_o F 76 dX1_spread_30 (by decide) (by rw [fill_at]; exact fun k hk => by have := hcr i hi k hk; omega) (fun h2 => ?_) (fun h2 => ?_)
      · rw [fill_at] at h2
        refine g_iinc (lv2 := [(0, .ref (a 0)), (1, .int (nI p)), (2, .long (lN r0)), (4, .int (b2 (anyN (newS co cr (gp wy x y p) r0) i))), (5, .int (nI (i + 1)))]) F (nI (i + 1)) dX1_spread_76 rfl (nI_add i 1) (by decide) rfl ?_
        refine g_goto F 6 dX1_spread_79 (by decide) ?_
        rw [fill_same (f := cr) (g := (nearC co cr cc (gp wy x y p) r0)) (nearC_n (by simp [newS, h2])), anyN_f (s := (newS co cr (gp wy x y p) r0)) (n := i) (by simp [newS, h2])] at ih
        exact ih
      · rw [fill_at] at h2
        refine g_aload_n F dX1_spread_33 rfl rfl ?_
        refine g_iload_n F dX1_spread_34 rfl rfl ?_
        refine g_aload_n F dX1_spread_35 rfl rfl ?_
        refine gM_get_xs F dX1_spread_36 ?_
        refine g_iload F dX1_spread_39 rfl ?_
        refine gM_ld_xs F hi dX1_spread_41 ?_
        refine g_i2l F dX1_spread_42 ?_
        refine g_aload_n F dX1_spread_43 rfl rfl ?_
        refine gM_get_ys F dX1_spread_44 ?_
        refine g_iload F dX1_spread_47 rfl ?_
        refine gM_ld_ys F hi dX1_spread_49 ?_
        refine g_i2l F dX1_spread_50 ?_
        refine c_VL F [] (wr := []) (cM_far hM.1.2.2.2.1 hp (x i) (y i)) cwX1_X1_far ⟨by decide, by decide, rfl, rfl⟩ rfl rfl rfl rfl (Nat.le_of_ble_eq_true rfl) ⟨by decide, by decide⟩ dX1_spread_51 (fun r u hu => ?_)
        obtain ⟨rfl, rfl⟩ := hu
        show GG (EE l D t) X 0 0 54 [(0, .ref (a 0)), (1, .int (nI p)), (2, .long (lN r0)), (4, .int (b2 (anyN (newS co cr (gp wy x y p) r0) i))), (5, .int (nI i))] [.long (lN (gapN wy (x p) (y p) (x i) (y i)))] (WM a t is x y w wy re de co (fill cr (nearC co cr cc (gp wy x y p) r0) i) cc dn cs df)
        refine g_topl (y := lN (gp wy x y p i)) (congrArg lN (gapN_comm _ _ _ _ _)) ?_
        refine g_lload_n F dX1_spread_54 rfl rfl ?_
        refine g_lc_le_n F 62 dX1_spread_55 dX1_spread_56 (by decide) (Nat.lt_trans (gp_lt hM.1 p i) (by decide)) hr (fun h3 => ?_) (fun h3 => ?_)
        · have hn : newS co cr (gp wy x y p) r0 i = true := by simp [newS, h, h2, h3]
          refine g_aload_n F dX1_spread_62 rfl rfl ?_
          refine gM_get_crowdOf F dX1_spread_63 ?_
          refine g_iload F dX1_spread_66 rfl ?_
          refine g_aload_n F dX1_spread_68 rfl rfl ?_
          refine gM_get_crowds F dX1_spread_69 ?_
          refine gM_st_crowdOf (e := (some cc)) F hi dX1_spread_72 ?_
          refine g_iconst F (b2 true) dX1_spread_73 (by decide) ?_
          refine g_istore (lv2 := [(0, .ref (a 0)), (1, .int (nI p)), (2, .long (lN r0)), (4, .int (b2 true)), (5, .int (nI i))]) F dX1_spread_74 (by decide) rfl ?_
          refine g_iinc (lv2 := [(0, .ref (a 0)), (1, .int (nI p)), (2, .long (lN r0)), (4, .int (b2 true)), (5, .int (nI (i + 1)))]) F (nI (i + 1)) dX1_spread_76 rfl (nI_add i 1) (by decide) rfl ?_
          refine g_goto F 6 dX1_spread_79 (by decide) ?_
          rw [fill_up (f := cr) (g := (nearC co cr cc (gp wy x y p) r0)) (v := some cc) (nearC_y hn).1, anyN_t (s := (newS co cr (gp wy x y p) r0)) (n := i) hn] at ih
          exact ih
        · refine g_goto F 76 dX1_spread_59 (by decide) ?_
          refine g_iinc (lv2 := [(0, .ref (a 0)), (1, .int (nI p)), (2, .long (lN r0)), (4, .int (b2 (anyN (newS co cr (gp wy x y p) r0) i))), (5, .int (nI (i + 1)))]) F (nI (i + 1)) dX1_spread_76 rfl (nI_add i 1) (by decide) rfl ?_
          refine g_goto F 6 dX1_spread_79 (by decide) ?_
          rw [fill_same (f := cr) (g := (nearC co cr cc (gp wy x y p) r0)) (nearC_n (by simp [newS]; omega)), anyN_f (s := (newS co cr (gp wy x y p) r0)) (n := i) (by simp [newS]; omega)] at ih
          exact ih
set_option maxHeartbeats 4000000 in
set_option maxRecDepth 100000 in
/-- least -/
theorem cM_least {l : Launch} {D : va_G} {t : Ty3} {a : Nat → Nat} {is : Nat → Bool} {x : Nat → Int32} {y : Nat → Int32} {w : Nat → Nat} {wy : Nat} {re : Nat} {de : Nat} {co : Nat → Bool} {cr : Nat → Option Nat} {cc : Nat} {dn : Nat → Bool} {cs : Nat → Option Nat} {df : Nat → Option Nat} {v : Nat → Nat} (hM : MI v x y wy re de is w) (hcr : ∀ q, q < 120 → co q = true → ∃ k, cr q = some k ∧ k < 120) {p1 p2 : Int32} (hp1 : inR p1) (hp2 : inR p2) {r0 : Nat} (hr : r0 < 2 ^ 63) : CtI (EE l D t) yX1_least tsX1_least (RM 1 29) [.ref (a 0), .int p1, .int p2, .long (lN r0)] (WM a t is x y w wy re de co cr cc dn cs df) 0 0 (fun r u => u = WM a t is x y w wy re de co cr cc dn cs df ∧ r = oI (lcs1 co cr (fun q => gapN wy (x q) (y q) p1 p2) r0)) := by
  refine CtI.of (by decide +kernel) rfl (Nat.le_of_ble_eq_true rfl) (fun X F E => ?_)
  show GG (EE l D t) X 0 0 0 [(0, .ref (a 0)), (1, .int p1), (2, .int p2), (3, .long (lN r0))] [] (WM a t is x y w wy re de co cr cc dn cs df)
  refine g_iconst F (oI none) dX1_least_0 (by decide) ?_
  refine g_istore (lv2 := [(0, .ref (a 0)), (1, .int p1), (2, .int p2), (3, .long (lN r0)), (5, .int (oI none))]) F dX1_least_1 (by decide) rfl ?_
  refine g_iconst F (nI 0) dX1_least_3 (by decide) ?_
  refine g_istore (lv2 := [(0, .ref (a 0)), (1, .int p1), (2, .int p2), (3, .long (lN r0)), (5, .int (oI none)), (6, .int (nI 0))]) F dX1_least_4 (by decide) rfl ?_
  refine up_loop (P := fun i => GG (EE l D t) X 0 0 6 [(0, .ref (a 0)), (1, .int p1), (2, .int p2), (3, .long (lN r0)), (5, .int (oI (lcs co cr (fun q => gapN wy (x q) (y q) p1 p2) r0 i))), (6, .int (nI i))] [] (WM a t is x y w wy re de co cr cc dn cs df)) 120 ?_ (fun i hi ih => ?_)
  · show GG (EE l D t) X 0 0 6 [(0, .ref (a 0)), (1, .int p1), (2, .int p2), (3, .long (lN r0)), (5, .int (oI (lcs co cr (fun q => gapN wy (x q) (y q) p1 p2) r0 120))), (6, .int (nI 120))] [] (WM a t is x y w wy re de co cr cc dn cs df)
    refine g_iload F dX1_least_6 rfl ?_
    refine g_bipush F (nI 120) dX1_least_8 (by decide) ?_
    refine g_icmp_ge_t F 70 dX1_least_10 (by decide) (nI_le (Nat.le_refl 120) (by decide)) ?_
    refine g_iload F dX1_least_70 rfl ?_
    exact E _ _ _ _ dX1_least_72 ⟨rfl, by rw [lcs1_eq]⟩
  · show GG (EE l D t) X 0 0 6 [(0, .ref (a 0)), (1, .int p1), (2, .int p2), (3, .long (lN r0)), (5, .int (oI (lcs co cr (fun q => gapN wy (x q) (y q) p1 p2) r0 i))), (6, .int (nI i))] [] (WM a t is x y w wy re de co cr cc dn cs df)
    refine g_iload F dX1_least_6 rfl ?_
    refine g_bipush F (nI 120) dX1_least_8 (by decide) ?_
    refine g_icmp_ge_f F 70 dX1_least_10 (by decide) (nI_ge hi (by decide)) ?_
    refine g_aload_n F dX1_least_13 rfl rfl ?_
    refine gM_get_core F dX1_least_14 ?_
    refine g_iload F dX1_least_17 rfl ?_
    refine gM_ld_core F hi dX1_least_19 ?_
    refine g_if_eq_b F 64 dX1_least_20 (by decide)  (fun h => ?_) (fun h => ?_)
    · refine g_iinc (lv2 := [(0, .ref (a 0)), (1, .int p1), (2, .int p2), (3, .long (lN r0)), (5, .int (oI (lcs co cr (fun q => gapN wy (x q) (y q) p1 p2) r0 i))), (6, .int (nI (i + 1)))]) F (nI (i + 1)) dX1_least_64 rfl (nI_add i 1) (by decide) rfl ?_
      refine g_goto F 6 dX1_least_67 (by decide) ?_
      rw [lcs_keep (co := co) (cr := cr) (g := (fun q => gapN wy (x q) (y q) p1 p2)) (r := r0) (n := i) (fun z => absurd z (by simp [h]))] at ih
      exact ih
    · obtain ⟨k, hk, hk2⟩ := hcr i hi h
      have hl := lcs_lt (g := (fun q => gapN wy (x q) (y q) p1 p2)) (r := r0) hcr i (by omega)
      refine g_aload_n F dX1_least_23 rfl rfl ?_
      refine g_iload F dX1_least_24 rfl ?_
      refine g_iload_n F dX1_least_26 rfl rfl ?_
      refine g_i2l F dX1_least_27 ?_
      refine g_iload_n F dX1_least_28 rfl rfl ?_
      refine g_i2l F dX1_least_29 ?_
      refine c_VL F [] (wr := []) (cM_far hM.1.2.2.2.1 hi p1 p2) cwX1_X1_far ⟨by decide, by decide, rfl, rfl⟩ rfl rfl rfl rfl (Nat.le_of_ble_eq_true rfl) ⟨by decide, by decide⟩ dX1_least_30 (fun r u hu => ?_)
      obtain ⟨rfl, rfl⟩ := hu
      show GG (EE l D t) X 0 0 33 [(0, .ref (a 0)), (1, .int p1), (2, .int p2), (3, .long (lN r0)), (5, .int (oI (lcs co cr (fun q => gapN wy (x q) (y q) p1 p2) r0 i))), (6, .int (nI i))] [.long (lN (gapN wy (x i) (y i) p1 p2))] (WM a t is x y w wy re de co cr cc dn cs df)
      refine g_lload_n F dX1_least_33 rfl rfl ?_
      refine g_lc_gt_n F 64 dX1_least_34 dX1_least_35 (by decide) (Nat.lt_trans (gapN_lt wy (hM.1.2.1 i) (hM.1.2.2.1 i) hp1 hp2) (by decide)) hr (fun h4 => ?_) (fun h4 => ?_)
      · refine g_iinc (lv2 := [(0, .ref (a 0)), (1, .int p1), (2, .int p2), (3, .long (lN r0)), (5, .int (oI (lcs co cr (fun q => gapN wy (x q) (y q) p1 p2) r0 i))), (6, .int (nI (i + 1)))]) F (nI (i + 1)) dX1_least_64 rfl (nI_add i 1) (by decide) rfl ?_
        refine g_goto F 6 dX1_least_67 (by decide) ?_
        rw [lcs_keep (co := co) (cr := cr) (g := (fun q => gapN wy (x q) (y q) p1 p2)) (r := r0) (n := i) (fun _ z => absurd z (by show ¬ gapN wy (x i) (y i) p1 p2 ≤ r0; omega))] at ih
        exact ih
      · refine g_iload F dX1_least_38 rfl ?_
        refine g_if_lt_o F 55 dX1_least_40 (by decide) (fun z hz => by have := hl z hz; omega) (fun h2 => ?_) (fun h2 => ?_)
        · refine g_aload_n F dX1_least_55 rfl rfl ?_
          refine gM_get_crowdOf F dX1_least_56 ?_
          refine g_iload F dX1_least_59 rfl ?_
          refine gM_ld_crowdOf F hi dX1_least_61 ?_
          refine g_istore (lv2 := [(0, .ref (a 0)), (1, .int p1), (2, .int p2), (3, .long (lN r0)), (5, .int (oI (cr i))), (6, .int (nI i))]) F dX1_least_62 (by decide) rfl ?_
          refine g_iinc (lv2 := [(0, .ref (a 0)), (1, .int p1), (2, .int p2), (3, .long (lN r0)), (5, .int (oI (cr i))), (6, .int (nI (i + 1)))]) F (nI (i + 1)) dX1_least_64 rfl (nI_add i 1) (by decide) rfl ?_
          refine g_goto F 6 dX1_least_67 (by decide) ?_
          rw [lcs_new (co := co) (cr := cr) (g := (fun q => gapN wy (x q) (y q) p1 p2)) (r := r0) (n := i) h h4, h2, show minO none (cr i) = cr i from rfl] at ih
          exact ih
        · obtain ⟨b0, hb0⟩ := Option.ne_none_iff_exists'.mp h2
          have hb1 := hl b0 hb0
          refine g_aload_n F dX1_least_43 rfl rfl ?_
          refine gM_get_crowdOf F dX1_least_44 ?_
          refine g_iload F dX1_least_47 rfl ?_
          refine gM_ld_crowdOf F hi dX1_least_49 ?_
          refine g_iload F dX1_least_50 rfl ?_
          refine g_eq (lv' := [(0, .ref (a 0)), (1, .int p1), (2, .int p2), (3, .long (lN r0)), (5, .int (oI (lcs co cr (fun q => gapN wy (x q) (y q) p1 p2) r0 i))), (6, .int (nI i))]) (st' := [.int (nI b0), .int (nI k)]) ?_ rfl rfl (by rw [hk, hb0]; rfl) rfl
          refine g_icmp_ge_n F 64 dX1_least_52 (by decide) (by omega) (by omega) (fun h3 => ?_) (fun h3 => ?_)
          · refine g_iinc (lv2 := [(0, .ref (a 0)), (1, .int p1), (2, .int p2), (3, .long (lN r0)), (5, .int (oI (lcs co cr (fun q => gapN wy (x q) (y q) p1 p2) r0 i))), (6, .int (nI (i + 1)))]) F (nI (i + 1)) dX1_least_64 rfl (nI_add i 1) (by decide) rfl ?_
            refine g_goto F 6 dX1_least_67 (by decide) ?_
            rw [lcs_keep (co := co) (cr := cr) (g := (fun q => gapN wy (x q) (y q) p1 p2)) (r := r0) (n := i) (fun _ _ => by rw [hb0, hk]; exact congrArg some (Nat.min_eq_left h3))] at ih
            exact ih
          · refine g_aload_n F dX1_least_55 rfl rfl ?_
            refine gM_get_crowdOf F dX1_least_56 ?_
            refine g_iload F dX1_least_59 rfl ?_
            refine gM_ld_crowdOf F hi dX1_least_61 ?_
            refine g_istore (lv2 := [(0, .ref (a 0)), (1, .int p1), (2, .int p2), (3, .long (lN r0)), (5, .int (oI (cr i))), (6, .int (nI i))]) F dX1_least_62 (by decide) rfl ?_
            refine g_iinc (lv2 := [(0, .ref (a 0)), (1, .int p1), (2, .int p2), (3, .long (lN r0)), (5, .int (oI (cr i))), (6, .int (nI (i + 1)))]) F (nI (i + 1)) dX1_least_64 rfl (nI_add i 1) (by decide) rfl ?_
            refine g_goto F 6 dX1_least_67 (by decide) ?_
            rw [lcs_new (co := co) (cr := cr) (g := (fun q => gapN wy (x q) (y q) p1 p2)) (r := r0) (n := i) h h4, hb0, show minO (some b0) (cr i) = cr i from by rw [hk]; exact congrArg some (Nat.min_eq_right (by omega))] at ih
            exact ih
set_option maxHeartbeats 4000000 in
set_option maxRecDepth 100000 in
/-- find -/
theorem cM_find {l : Launch} {D : va_G} {t : Ty3} {a : Nat → Nat} {is : Nat → Bool} {x : Nat → Int32} {y : Nat → Int32} {w : Nat → Nat} {wy : Nat} {re : Nat} {de : Nat} {co : Nat → Bool} {cr : Nat → Option Nat} {cc : Nat} {dn : Nat → Bool} {cs : Nat → Option Nat} {df : Nat → Option Nat} {v : Nat → Nat} (hM : MI v x y wy re de is w) {r0 : Nat} (hr : r0 < 2 ^ 63) : CtV (EE l D t) yX1_find tsX1_find (RM 2 55) [.ref (a 0), .long (lN r0)] (WM a t is x y w wy re de co cr cc dn cs df) 0 0 (fun u => ∃ co2 cr2 cc2, u = WM a t is x y w wy re de co2 cr2 cc2 dn cs df ∧ Srt v x y wy de r0 co2 cr2 cc2) := by
  refine CtV.of (by decide +kernel) rfl (Nat.le_of_ble_eq_true rfl) (fun X F E => ?_)
  show GG (EE l D t) X 0 0 0 [(0, .ref (a 0)), (1, .long (lN r0))] [] (WM a t is x y w wy re de co cr cc dn cs df)
  refine g_aload_n F dX1_find_0 rfl rfl ?_
  refine g_iconst F (nI 0) dX1_find_1 (by decide) ?_
  refine gM_put_crowds F dX1_find_2 ?_
  refine g_iconst F (nI 0) dX1_find_5 (by decide) ?_
  refine g_istore_n (lv2 := [(0, .ref (a 0)), (1, .long (lN r0)), (3, .int (nI 0))]) F dX1_find_6 rfl (by decide) rfl ?_
  have e0 : WM a t is x y w wy re de (fill co (isC v x y wy de r0) 0) (fill cr (fun _ => none) 0) 0 dn cs df = WM a t is x y w wy re de co cr 0 dn cs df := by rw [fill_0, fill_0]
  rw [← e0]
  refine up_loop (P := fun i => GG (EE l D t) X 0 0 7 [(0, .ref (a 0)), (1, .long (lN r0)), (3, .int (nI i))] [] (WM a t is x y w wy re de (fill co (isC v x y wy de r0) i) (fill cr (fun _ => none) i) 0 dn cs df)) 120 ?_ (fun i hi ih => ?_)
  · show GG (EE l D t) X 0 0 7 [(0, .ref (a 0)), (1, .long (lN r0)), (3, .int (nI 120))] [] (WM a t is x y w wy re de (fill co (isC v x y wy de r0) 120) (fill cr (fun _ => none) 120) 0 dn cs df)
    refine g_iload_n F dX1_find_7 rfl rfl ?_
    refine g_bipush F (nI 120) dX1_find_8 (by decide) ?_
    refine g_icmp_ge_t F 59 dX1_find_10 (by decide) (nI_le (Nat.le_refl 120) (by decide)) ?_
    refine g_iconst F (nI 0) dX1_find_59 (by decide) ?_
    refine g_istore_n (lv2 := [(0, .ref (a 0)), (1, .long (lN r0)), (3, .int (nI 0))]) F dX1_find_60 rfl (by decide) rfl ?_
    have e1 : ∀ p, p < 120 → fill co (isC v x y wy de r0) 120 p = isC v x y wy de r0 p := fun p hp => fill_in hp
    have e2 : ∀ p, p < 120 → fill cr (fun _ => (none : Option Nat)) 120 p = none := fun p hp => fill_in hp
    generalize fill co (isC v x y wy de r0) 120 = C at e1 ⊢
    generalize fill cr (fun _ => (none : Option Nat)) 120 = cr0 at e2 ⊢
    have key : ∀ (m i : Nat) (c1 : Nat → Option Nat) (cc : Nat), i + m = 120 → GI C (gp wy x y) r0 i c1 cc → GG (EE l D t) X 0 0 61 [(0, .ref (a 0)), (1, .long (lN r0)), (3, .int (nI i))] [] (WM a t is x y w wy re de C c1 cc dn cs df) := by
      intro m
      induction m with
      | zero =>
        intro i c1 cc him hG
        have hi : i = 120 := by omega
        subst hi
        refine g_iload_n F dX1_find_61 rfl rfl ?_
        refine g_bipush F (nI 120) dX1_find_62 (by decide) ?_
        refine g_icmp_ge_t F 180 dX1_find_64 (by decide) (nI_le (Nat.le_refl 120) (by decide)) ?_
        refine g_iconst F (nI 0) dX1_find_180 (by decide) ?_
        refine g_istore_n (lv2 := [(0, .ref (a 0)), (1, .long (lN r0)), (3, .int (nI 0))]) F dX1_find_181 rfl (by decide) rfl ?_
        have hk : ∀ q, q < 120 → C q = true → ∃ k, c1 q = some k ∧ k < 120 := fun q hq hc => by
          obtain ⟨p, p1, p2, p3⟩ := rt_ex (A := adj C (gp wy x y) r0) hc
          have e := hG.2.1 q hq p (by omega) p2 p3
          exact ⟨_, e, hG.bd (Nat.le_refl 120) hq _ e⟩
        have e0 : WM a t is x y w wy re de C (fill c1 (jB v C c1 (fun p q => gapN wy (x q) (y q) (x p) (y p)) r0) 0) cc dn cs df = WM a t is x y w wy re de C c1 cc dn cs df := by rw [fill_0]
        rw [← e0]
        refine up_loop (P := fun i => GG (EE l D t) X 0 0 182 [(0, .ref (a 0)), (1, .long (lN r0)), (3, .int (nI i))] [] (WM a t is x y w wy re de C (fill c1 (jB v C c1 (fun p q => gapN wy (x q) (y q) (x p) (y p)) r0) i) cc dn cs df)) 120 ?_ (fun i hi ih => ?_)
        · show GG (EE l D t) X 0 0 182 [(0, .ref (a 0)), (1, .long (lN r0)), (3, .int (nI 120))] [] (WM a t is x y w wy re de C (fill c1 (jB v C c1 (fun p q => gapN wy (x q) (y q) (x p) (y p)) r0) 120) cc dn cs df)
          refine g_iload_n F dX1_find_182 rfl rfl ?_
          refine g_bipush F (nI 120) dX1_find_183 (by decide) ?_
          refine g_icmp_ge_t F 235 dX1_find_185 (by decide) (nI_le (Nat.le_refl 120) (by decide)) ?_
          exact E _ _ _ dX1_find_235 ⟨C, _, cc, rfl, hG.srt e1 (fun p hp => by rw [fill_in hp]; rfl)⟩
        · show GG (EE l D t) X 0 0 182 [(0, .ref (a 0)), (1, .long (lN r0)), (3, .int (nI i))] [] (WM a t is x y w wy re de C (fill c1 (jB v C c1 (fun p q => gapN wy (x q) (y q) (x p) (y p)) r0) i) cc dn cs df)
          refine g_iload_n F dX1_find_182 rfl rfl ?_
          refine g_bipush F (nI 120) dX1_find_183 (by decide) ?_
          refine g_icmp_ge_f F 235 dX1_find_185 (by decide) (nI_ge hi (by decide)) ?_
          refine g_aload_n F dX1_find_188 rfl rfl ?_
          refine gM_get_is F dX1_find_189 ?_
          refine g_iload_n F dX1_find_192 rfl rfl ?_
          refine gM_ld_is F hi dX1_find_193 ?_
          refine g_if_eq_b F 229 dX1_find_194 (by decide)  (fun h => ?_) (fun h => ?_)
          · refine g_iinc (lv2 := [(0, .ref (a 0)), (1, .long (lN r0)), (3, .int (nI (i + 1)))]) F (nI (i + 1)) dX1_find_229 rfl (nI_add i 1) (by decide) rfl ?_
            refine g_goto F 182 dX1_find_232 (by decide) ?_
            rw [fill_same (f := c1) (g := (jB v C c1 (fun p q => gapN wy (x q) (y q) (x p) (y p)) r0)) (by unfold jB; rw [if_neg (by have := hM.n h; omega)])] at ih
            exact ih
          · refine g_aload_n F dX1_find_197 rfl rfl ?_
            refine gM_get_core F dX1_find_198 ?_
            refine g_iload_n F dX1_find_201 rfl rfl ?_
            refine gM_ld_core F hi dX1_find_202 ?_
            refine g_if_ne_b F 229 dX1_find_203 (by decide)  (fun h2 => ?_) (fun h2 => ?_)
            · refine g_iinc (lv2 := [(0, .ref (a 0)), (1, .long (lN r0)), (3, .int (nI (i + 1)))]) F (nI (i + 1)) dX1_find_229 rfl (nI_add i 1) (by decide) rfl ?_
              refine g_goto F 182 dX1_find_232 (by decide) ?_
              rw [fill_same (f := c1) (g := (jB v C c1 (fun p q => gapN wy (x q) (y q) (x p) (y p)) r0)) (by unfold jB; rw [if_neg (by simp [h2])])] at ih
              exact ih
            · have hq : ∀ q, q < 120 → C q = true → fill c1 (jB v C c1 (fun p q => gapN wy (x q) (y q) (x p) (y p)) r0) i q = c1 q := fun q _ hq => by unfold fill jB; split <;> simp [hq]
              refine g_aload_n F dX1_find_206 rfl rfl ?_
              refine gM_get_crowdOf F dX1_find_207 ?_
              refine g_iload_n F dX1_find_210 rfl rfl ?_
              refine g_aload_n F dX1_find_211 rfl rfl ?_
              refine g_aload_n F dX1_find_212 rfl rfl ?_
              refine gM_get_xs F dX1_find_213 ?_
              refine g_iload_n F dX1_find_216 rfl rfl ?_
              refine gM_ld_xs F hi dX1_find_217 ?_
              refine g_aload_n F dX1_find_218 rfl rfl ?_
              refine gM_get_ys F dX1_find_219 ?_
              refine g_iload_n F dX1_find_222 rfl rfl ?_
              refine gM_ld_ys F hi dX1_find_223 ?_
              refine g_lload_n F dX1_find_224 rfl rfl ?_
              refine c_VI F [.int (nI i), .ref (a 6)] (wr := []) (cM_least hM (fun q h1 h2 => by rw [hq q h1 h2]; exact hk q h1 h2) (hM.1.2.1 i) (hM.1.2.2.1 i) hr) cwX1_X1_least ⟨by decide, by decide, rfl, rfl⟩ rfl rfl rfl rfl (Nat.le_of_ble_eq_true rfl) ⟨by decide, by decide⟩ dX1_find_225 (fun r u hu => ?_)
              obtain ⟨rfl, rfl⟩ := hu
              show GG (EE l D t) X 0 0 228 [(0, .ref (a 0)), (1, .long (lN r0)), (3, .int (nI i))] [.int (oI (lcs1 C (fill c1 (jB v C c1 (fun p q => gapN wy (x q) (y q) (x p) (y p)) r0) i) (fun q => gapN wy (x q) (y q) (x i) (y i)) r0)), .int (nI i), .ref (a 6)] (WM a t is x y w wy re de C (fill c1 (jB v C c1 (fun p q => gapN wy (x q) (y q) (x p) (y p)) r0) i) cc dn cs df)
              refine g_topi (y := oI (lcs1 C c1 (fun q => gapN wy (x q) (y q) (x i) (y i)) r0)) (congrArg oI (by rw [lcs1_eq, lcs1_eq]; exact lcs_congr 120 hq)) ?_
              refine gM_st_crowdOf F hi dX1_find_228 ?_
              refine g_iinc (lv2 := [(0, .ref (a 0)), (1, .long (lN r0)), (3, .int (nI (i + 1)))]) F (nI (i + 1)) dX1_find_229 rfl (nI_add i 1) (by decide) rfl ?_
              refine g_goto F 182 dX1_find_232 (by decide) ?_
              rw [fill_up (f := c1) (g := (jB v C c1 (fun p q => gapN wy (x q) (y q) (x p) (y p)) r0)) (v := lcs1 C c1 (fun q => gapN wy (x q) (y q) (x i) (y i)) r0) (by unfold jB; rw [if_pos ⟨(hM.y h).1, h2⟩])] at ih
              exact ih
      | succ m ih =>
        intro i c1 cc him hG
        have hi : i < 120 := by omega
        have hcc := hG.cc
        refine g_iload_n F dX1_find_61 rfl rfl ?_
        refine g_bipush F (nI 120) dX1_find_62 (by decide) ?_
        refine g_icmp_ge_f F 180 dX1_find_64 (by decide) (nI_ge hi (by decide)) ?_
        refine g_aload_n F dX1_find_67 rfl rfl ?_
        refine gM_get_core F dX1_find_68 ?_
        refine g_iload_n F dX1_find_71 rfl rfl ?_
        refine gM_ld_core F hi dX1_find_72 ?_
        refine g_if_eq_b F 174 dX1_find_73 (by decide)  (fun h => ?_) (fun h => ?_)
        · refine g_iinc (lv2 := [(0, .ref (a 0)), (1, .long (lN r0)), (3, .int (nI (i + 1)))]) F (nI (i + 1)) dX1_find_174 rfl (nI_add i 1) (by decide) rfl ?_
          refine g_goto F 61 dX1_find_177 (by decide) ?_
          exact ih (i + 1) c1 cc (by omega) (hG.no hi (by simp [h]))
        · refine g_aload_n F dX1_find_76 rfl rfl ?_
          refine gM_get_crowdOf F dX1_find_77 ?_
          refine g_iload_n F dX1_find_80 rfl rfl ?_
          refine gM_ld_crowdOf F hi dX1_find_81 ?_
          refine g_if_lt_o F 88 dX1_find_82 (by decide) (fun k hk => by have := hG.bd (by omega) hi k hk; omega) (fun h2 => ?_) (fun h2 => ?_)
          · obtain ⟨hroot, hfr, hun⟩ := hG.root (gp_comm wy x y) hi h h2
            refine g_aload_n F dX1_find_88 rfl rfl ?_
            refine gM_get_crowdOf F dX1_find_89 ?_
            refine g_iload_n F dX1_find_92 rfl rfl ?_
            refine g_aload_n F dX1_find_93 rfl rfl ?_
            refine gM_get_crowds F dX1_find_94 ?_
            refine gM_st_crowdOf (e := (some cc)) F hi dX1_find_97 ?_
            refine g_iconst F (b2 true) dX1_find_98 (by decide) ?_
            refine g_istore (lv2 := [(0, .ref (a 0)), (1, .long (lN r0)), (3, .int (nI i)), (4, .int (b2 true))]) F dX1_find_99 (by decide) rfl ?_
            have wh : ∀ (n : Nat) (c2 : Nat → Option Nat), unl c2 120 ≤ n → Lb C (gp wy x y) r0 cc i c1 c2 → GG (EE l D t) X 0 0 101 [(0, .ref (a 0)), (1, .long (lN r0)), (3, .int (nI i)), (4, .int (b2 true))] [] (WM a t is x y w wy re de C c2 cc dn cs df) := by
              intro n
              induction n with
              | zero =>
                intro c2 hu hL
                refine g_iload F dX1_find_101 rfl ?_
                refine g_if_eq_b F 164 dX1_find_103 (by decide) (fun h9 => by cases h9) (fun h9 => ?_)
                refine g_iconst F (b2 false) dX1_find_106 (by decide) ?_
                refine g_istore (lv2 := [(0, .ref (a 0)), (1, .long (lN r0)), (3, .int (nI i)), (4, .int (b2 false))]) F dX1_find_107 (by decide) rfl ?_
                refine g_iconst F (nI 0) dX1_find_109 (by decide) ?_
                refine g_istore (lv2 := [(0, .ref (a 0)), (1, .long (lN r0)), (3, .int (nI i)), (4, .int (b2 false)), (5, .int (nI 0))]) F dX1_find_110 (by decide) rfl ?_
                have ps : ∀ (m z : Nat) (c3 : Nat → Option Nat) (mo : Bool), z + m = 120 → Ps C (gp wy x y) r0 cc i c1 c2 z c3 mo → GG (EE l D t) X 0 0 112 [(0, .ref (a 0)), (1, .long (lN r0)), (3, .int (nI i)), (4, .int (b2 mo)), (5, .int (nI z))] [] (WM a t is x y w wy re de C c3 cc dn cs df) := by
                  intro m
                  induction m with
                  | zero =>
                    intro z c3 mo hzm hP
                    have hz : z = 120 := by omega
                    subst hz
                    refine g_iload F dX1_find_112 rfl ?_
                    refine g_bipush F (nI 120) dX1_find_114 (by decide) ?_
                    refine g_icmp_ge_t F 161 dX1_find_116 (by decide) (nI_le (Nat.le_refl 120) (by decide)) ?_
                    refine g_goto F 101 dX1_find_161 (by decide) ?_
                    refine g_lv [0, 1, 2, 3] rfl ?_
                    cases mo with
                    | true =>
                      exact absurd (hP.2.2 rfl) (by omega)
                    | false =>
                      refine g_iload F dX1_find_101 rfl ?_
                      refine g_if_eq_b F 164 dX1_find_103 (by decide) (fun h9 => ?_) (fun h9 => by cases h9)
                      obtain ⟨f1, f2⟩ := hP.2.1 rfl
                      obtain ⟨l1, l2⟩ := hP.1.fin hi hun (fun p hp hc q hq => by rw [f1 q hq.2.1]; exact f2 p hp (by rw [← f1 p hp]; exact hc) q hq)
                      refine g_aload_n F dX1_find_164 rfl rfl ?_
                      refine g_dup F dX1_find_165 rfl ?_
                      refine gM_get_crowds F dX1_find_166 ?_
                      refine g_iconst F (nI 1) dX1_find_169 (by decide) ?_
                      refine g_iadd_n F dX1_find_170 ?_
                      refine gM_put_crowds F dX1_find_171 ?_
                      refine g_iinc (lv2 := [(0, .ref (a 0)), (1, .long (lN r0)), (3, .int (nI (i + 1))), (4, .int (b2 false))]) F (nI (i + 1)) dX1_find_174 rfl (nI_add i 1) (by decide) rfl ?_
                      refine g_goto F 61 dX1_find_177 (by decide) ?_
                      refine g_lv [0, 1, 2] rfl ?_
                      exact ih (i + 1) c3 (cc + 1) (by omega) (hG.yes (gp_comm wy x y) hroot l1 l2)
                  | succ m ihm =>
                    intro z c3 mo hzm hP
                    have hz : z < 120 := by omega
                    have hb3 : ∀ j, j < 120 → ∀ k, c3 j = some k → k < 120 := fun j hj k hk => by
                      rcases hP.1.2.1 j hj with e | e
                      · rw [e] at hk
                        exact hG.bd (by omega) hj k hk
                      · rw [e.1] at hk
                        cases hk
                        omega
                    refine g_iload F dX1_find_112 rfl ?_
                    refine g_bipush F (nI 120) dX1_find_114 (by decide) ?_
                    refine g_icmp_ge_f F 161 dX1_find_116 (by decide) (nI_ge hz (by decide)) ?_
                    refine g_aload_n F dX1_find_119 rfl rfl ?_
                    refine gM_get_crowdOf F dX1_find_120 ?_
                    refine g_iload F dX1_find_123 rfl ?_
                    refine gM_ld_crowdOf F hz dX1_find_125 ?_
                    refine g_aload_n F dX1_find_126 rfl rfl ?_
                    refine gM_get_crowds F dX1_find_127 ?_
                    refine g_icmp_ne_on F 143 dX1_find_130 (by decide) (fun k hk => by have := hb3 z hz k hk; omega) (by omega) (fun h3 => ?_) (fun h3 => ?_)
                    · refine g_iload F dX1_find_143 rfl ?_
                      refine g_if_eq_b F 152 dX1_find_145 (by decide)  (fun h5 => ?_) (fun h5 => ?_)
                      · refine g_iconst F (b2 false) dX1_find_152 (by decide) ?_
                        refine g_istore (lv2 := [(0, .ref (a 0)), (1, .long (lN r0)), (3, .int (nI i)), (4, .int (b2 false)), (5, .int (nI z))]) F dX1_find_153 (by decide) rfl ?_
                        refine g_iinc (lv2 := [(0, .ref (a 0)), (1, .long (lN r0)), (3, .int (nI i)), (4, .int (b2 false)), (5, .int (nI (z + 1)))]) F (nI (z + 1)) dX1_find_155 rfl (nI_add z 1) (by decide) rfl ?_
                        refine g_goto F 112 dX1_find_158 (by decide) ?_
                        rw [h5] at hP
                        exact ihm (z + 1) _ false (by omega) (hP.skip hz h3)
                      · refine g_iconst F (b2 true) dX1_find_148 (by decide) ?_
                        refine g_goto F 153 dX1_find_149 (by decide) ?_
                        refine g_istore (lv2 := [(0, .ref (a 0)), (1, .long (lN r0)), (3, .int (nI i)), (4, .int (b2 true)), (5, .int (nI z))]) F dX1_find_153 (by decide) rfl ?_
                        refine g_iinc (lv2 := [(0, .ref (a 0)), (1, .long (lN r0)), (3, .int (nI i)), (4, .int (b2 true)), (5, .int (nI (z + 1)))]) F (nI (z + 1)) dX1_find_155 rfl (nI_add z 1) (by decide) rfl ?_
                        refine g_goto F 112 dX1_find_158 (by decide) ?_
                        rw [h5] at hP
                        exact ihm (z + 1) _ true (by omega) (hP.skip hz h3)
                    · refine g_aload_n F dX1_find_133 rfl rfl ?_
                      refine g_iload F dX1_find_134 rfl ?_
                      refine g_lload_n F dX1_find_136 rfl rfl ?_
                      refine c_VI F [] (wr := []) (cM_spread hM hb3 hz hr) cwX1_X1_spread ⟨by decide, by decide, rfl, rfl⟩ rfl rfl rfl rfl (Nat.le_of_ble_eq_true rfl) ⟨by decide, by decide⟩ dX1_find_137 (fun r u hu => ?_)
                      obtain ⟨rfl, rfl⟩ := hu
                      show GG (EE l D t) X 0 0 140 [(0, .ref (a 0)), (1, .long (lN r0)), (3, .int (nI i)), (4, .int (b2 mo)), (5, .int (nI z))] [.int (b2 (any1 (newS C c3 (gp wy x y z) r0)))] (WM a t is x y w wy re de C (fill c3 (nearC C c3 cc (gp wy x y z) r0) 120) cc dn cs df)
                      have hsp := hP.sp hi h hz h3
                      refine g_if_ne_b F 148 dX1_find_140 (by decide)  (fun h4 => ?_) (fun h4 => ?_)
                      · refine g_iconst F (b2 true) dX1_find_148 (by decide) ?_
                        refine g_goto F 153 dX1_find_149 (by decide) ?_
                        refine g_istore (lv2 := [(0, .ref (a 0)), (1, .long (lN r0)), (3, .int (nI i)), (4, .int (b2 true)), (5, .int (nI z))]) F dX1_find_153 (by decide) rfl ?_
                        refine g_iinc (lv2 := [(0, .ref (a 0)), (1, .long (lN r0)), (3, .int (nI i)), (4, .int (b2 true)), (5, .int (nI (z + 1)))]) F (nI (z + 1)) dX1_find_155 rfl (nI_add z 1) (by decide) rfl ?_
                        refine g_goto F 112 dX1_find_158 (by decide) ?_
                        rw [h4, Bool.true_or] at hsp
                        exact ihm (z + 1) _ true (by omega) hsp
                      · rw [h4, Bool.false_or] at hsp
                        refine g_iload F dX1_find_143 rfl ?_
                        refine g_if_eq_b F 152 dX1_find_145 (by decide)  (fun h5 => ?_) (fun h5 => ?_)
                        · refine g_iconst F (b2 false) dX1_find_152 (by decide) ?_
                          refine g_istore (lv2 := [(0, .ref (a 0)), (1, .long (lN r0)), (3, .int (nI i)), (4, .int (b2 false)), (5, .int (nI z))]) F dX1_find_153 (by decide) rfl ?_
                          refine g_iinc (lv2 := [(0, .ref (a 0)), (1, .long (lN r0)), (3, .int (nI i)), (4, .int (b2 false)), (5, .int (nI (z + 1)))]) F (nI (z + 1)) dX1_find_155 rfl (nI_add z 1) (by decide) rfl ?_
                          refine g_goto F 112 dX1_find_158 (by decide) ?_
                          rw [h5] at hsp
                          exact ihm (z + 1) _ false (by omega) hsp
                        · refine g_iconst F (b2 true) dX1_find_148 (by decide) ?_
                          refine g_goto F 153 dX1_find_149 (by decide) ?_
                          refine g_istore (lv2 := [(0, .ref (a 0)), (1, .long (lN r0)), (3, .int (nI i)), (4, .int (b2 true)), (5, .int (nI z))]) F dX1_find_153 (by decide) rfl ?_
                          refine g_iinc (lv2 := [(0, .ref (a 0)), (1, .long (lN r0)), (3, .int (nI i)), (4, .int (b2 true)), (5, .int (nI (z + 1)))]) F (nI (z + 1)) dX1_find_155 rfl (nI_add z 1) (by decide) rfl ?_
                          refine g_goto F 112 dX1_find_158 (by decide) ?_
                          rw [h5] at hsp
                          exact ihm (z + 1) _ true (by omega) hsp
                exact ps 120 0 c2 false rfl (Ps.zero hL)
              | succ n ihn =>
                intro c2 hu hL
                refine g_iload F dX1_find_101 rfl ?_
                refine g_if_eq_b F 164 dX1_find_103 (by decide) (fun h9 => by cases h9) (fun h9 => ?_)
                refine g_iconst F (b2 false) dX1_find_106 (by decide) ?_
                refine g_istore (lv2 := [(0, .ref (a 0)), (1, .long (lN r0)), (3, .int (nI i)), (4, .int (b2 false))]) F dX1_find_107 (by decide) rfl ?_
                refine g_iconst F (nI 0) dX1_find_109 (by decide) ?_
                refine g_istore (lv2 := [(0, .ref (a 0)), (1, .long (lN r0)), (3, .int (nI i)), (4, .int (b2 false)), (5, .int (nI 0))]) F dX1_find_110 (by decide) rfl ?_
                have ps : ∀ (m z : Nat) (c3 : Nat → Option Nat) (mo : Bool), z + m = 120 → Ps C (gp wy x y) r0 cc i c1 c2 z c3 mo → GG (EE l D t) X 0 0 112 [(0, .ref (a 0)), (1, .long (lN r0)), (3, .int (nI i)), (4, .int (b2 mo)), (5, .int (nI z))] [] (WM a t is x y w wy re de C c3 cc dn cs df) := by
                  intro m
                  induction m with
                  | zero =>
                    intro z c3 mo hzm hP
                    have hz : z = 120 := by omega
                    subst hz
                    refine g_iload F dX1_find_112 rfl ?_
                    refine g_bipush F (nI 120) dX1_find_114 (by decide) ?_
                    refine g_icmp_ge_t F 161 dX1_find_116 (by decide) (nI_le (Nat.le_refl 120) (by decide)) ?_
                    refine g_goto F 101 dX1_find_161 (by decide) ?_
                    refine g_lv [0, 1, 2, 3] rfl ?_
                    cases mo with
                    | true =>
                      exact ihn c3 (by have := hP.2.2 rfl; omega) hP.1
                    | false =>
                      refine g_iload F dX1_find_101 rfl ?_
                      refine g_if_eq_b F 164 dX1_find_103 (by decide) (fun h9 => ?_) (fun h9 => by cases h9)
                      obtain ⟨f1, f2⟩ := hP.2.1 rfl
                      obtain ⟨l1, l2⟩ := hP.1.fin hi hun (fun p hp hc q hq => by rw [f1 q hq.2.1]; exact f2 p hp (by rw [← f1 p hp]; exact hc) q hq)
                      refine g_aload_n F dX1_find_164 rfl rfl ?_
                      refine g_dup F dX1_find_165 rfl ?_
                      refine gM_get_crowds F dX1_find_166 ?_
                      refine g_iconst F (nI 1) dX1_find_169 (by decide) ?_
                      refine g_iadd_n F dX1_find_170 ?_
                      refine gM_put_crowds F dX1_find_171 ?_
                      refine g_iinc (lv2 := [(0, .ref (a 0)), (1, .long (lN r0)), (3, .int (nI (i + 1))), (4, .int (b2 false))]) F (nI (i + 1)) dX1_find_174 rfl (nI_add i 1) (by decide) rfl ?_
                      refine g_goto F 61 dX1_find_177 (by decide) ?_
                      refine g_lv [0, 1, 2] rfl ?_
                      exact ih (i + 1) c3 (cc + 1) (by omega) (hG.yes (gp_comm wy x y) hroot l1 l2)
                  | succ m ihm =>
                    intro z c3 mo hzm hP
                    have hz : z < 120 := by omega
                    have hb3 : ∀ j, j < 120 → ∀ k, c3 j = some k → k < 120 := fun j hj k hk => by
                      rcases hP.1.2.1 j hj with e | e
                      · rw [e] at hk
                        exact hG.bd (by omega) hj k hk
                      · rw [e.1] at hk
                        cases hk
                        omega
                    refine g_iload F dX1_find_112 rfl ?_
                    refine g_bipush F (nI 120) dX1_find_114 (by decide) ?_
                    refine g_icmp_ge_f F 161 dX1_find_116 (by decide) (nI_ge hz (by decide)) ?_
                    refine g_aload_n F dX1_find_119 rfl rfl ?_
                    refine gM_get_crowdOf F dX1_find_120 ?_
                    refine g_iload F dX1_find_123 rfl ?_
                    refine gM_ld_crowdOf F hz dX1_find_125 ?_
                    refine g_aload_n F dX1_find_126 rfl rfl ?_
                    refine gM_get_crowds F dX1_find_127 ?_
                    refine g_icmp_ne_on F 143 dX1_find_130 (by decide) (fun k hk => by have := hb3 z hz k hk; omega) (by omega) (fun h3 => ?_) (fun h3 => ?_)
                    · refine g_iload F dX1_find_143 rfl ?_
                      refine g_if_eq_b F 152 dX1_find_145 (by decide)  (fun h5 => ?_) (fun h5 => ?_)
                      · refine g_iconst F (b2 false) dX1_find_152 (by decide) ?_
                        refine g_istore (lv2 := [(0, .ref (a 0)), (1, .long (lN r0)), (3, .int (nI i)), (4, .int (b2 false)), (5, .int (nI z))]) F dX1_find_153 (by decide) rfl ?_
                        refine g_iinc (lv2 := [(0, .ref (a 0)), (1, .long (lN r0)), (3, .int (nI i)), (4, .int (b2 false)), (5, .int (nI (z + 1)))]) F (nI (z + 1)) dX1_find_155 rfl (nI_add z 1) (by decide) rfl ?_
                        refine g_goto F 112 dX1_find_158 (by decide) ?_
                        rw [h5] at hP
                        exact ihm (z + 1) _ false (by omega) (hP.skip hz h3)
                      · refine g_iconst F (b2 true) dX1_find_148 (by decide) ?_
                        refine g_goto F 153 dX1_find_149 (by decide) ?_
                        refine g_istore (lv2 := [(0, .ref (a 0)), (1, .long (lN r0)), (3, .int (nI i)), (4, .int (b2 true)), (5, .int (nI z))]) F dX1_find_153 (by decide) rfl ?_
                        refine g_iinc (lv2 := [(0, .ref (a 0)), (1, .long (lN r0)), (3, .int (nI i)), (4, .int (b2 true)), (5, .int (nI (z + 1)))]) F (nI (z + 1)) dX1_find_155 rfl (nI_add z 1) (by decide) rfl ?_
                        refine g_goto F 112 dX1_find_158 (by decide) ?_
                        rw [h5] at hP
                        exact ihm (z + 1) _ true (by omega) (hP.skip hz h3)
                    · refine g_aload_n F dX1_find_133 rfl rfl ?_
                      refine g_iload F dX1_find_134 rfl ?_
                      refine g_lload_n F dX1_find_136 rfl rfl ?_
                      refine c_VI F [] (wr := []) (cM_spread hM hb3 hz hr) cwX1_X1_spread ⟨by decide, by decide, rfl, rfl⟩ rfl rfl rfl rfl (Nat.le_of_ble_eq_true rfl) ⟨by decide, by decide⟩ dX1_find_137 (fun r u hu => ?_)
                      obtain ⟨rfl, rfl⟩ := hu
                      show GG (EE l D t) X 0 0 140 [(0, .ref (a 0)), (1, .long (lN r0)), (3, .int (nI i)), (4, .int (b2 mo)), (5, .int (nI z))] [.int (b2 (any1 (newS C c3 (gp wy x y z) r0)))] (WM a t is x y w wy re de C (fill c3 (nearC C c3 cc (gp wy x y z) r0) 120) cc dn cs df)
                      have hsp := hP.sp hi h hz h3
                      refine g_if_ne_b F 148 dX1_find_140 (by decide)  (fun h4 => ?_) (fun h4 => ?_)
                      · refine g_iconst F (b2 true) dX1_find_148 (by decide) ?_
                        refine g_goto F 153 dX1_find_149 (by decide) ?_
                        refine g_istore (lv2 := [(0, .ref (a 0)), (1, .long (lN r0)), (3, .int (nI i)), (4, .int (b2 true)), (5, .int (nI z))]) F dX1_find_153 (by decide) rfl ?_
                        refine g_iinc (lv2 := [(0, .ref (a 0)), (1, .long (lN r0)), (3, .int (nI i)), (4, .int (b2 true)), (5, .int (nI (z + 1)))]) F (nI (z + 1)) dX1_find_155 rfl (nI_add z 1) (by decide) rfl ?_
                        refine g_goto F 112 dX1_find_158 (by decide) ?_
                        rw [h4, Bool.true_or] at hsp
                        exact ihm (z + 1) _ true (by omega) hsp
                      · rw [h4, Bool.false_or] at hsp
                        refine g_iload F dX1_find_143 rfl ?_
                        refine g_if_eq_b F 152 dX1_find_145 (by decide)  (fun h5 => ?_) (fun h5 => ?_)
                        · refine g_iconst F (b2 false) dX1_find_152 (by decide) ?_
                          refine g_istore (lv2 := [(0, .ref (a 0)), (1, .long (lN r0)), (3, .int (nI i)), (4, .int (b2 false)), (5, .int (nI z))]) F dX1_find_153 (by decide) rfl ?_
                          refine g_iinc (lv2 := [(0, .ref (a 0)), (1, .long (lN r0)), (3, .int (nI i)), (4, .int (b2 false)), (5, .int (nI (z + 1)))]) F (nI (z + 1)) dX1_find_155 rfl (nI_add z 1) (by decide) rfl ?_
                          refine g_goto F 112 dX1_find_158 (by decide) ?_
                          rw [h5] at hsp
                          exact ihm (z + 1) _ false (by omega) hsp
                        · refine g_iconst F (b2 true) dX1_find_148 (by decide) ?_
                          refine g_goto F 153 dX1_find_149 (by decide) ?_
                          refine g_istore (lv2 := [(0, .ref (a 0)), (1, .long (lN r0)), (3, .int (nI i)), (4, .int (b2 true)), (5, .int (nI z))]) F dX1_find_153 (by decide) rfl ?_
                          refine g_iinc (lv2 := [(0, .ref (a 0)), (1, .long (lN r0)), (3, .int (nI i)), (4, .int (b2 true)), (5, .int (nI (z + 1)))]) F (nI (z + 1)) dX1_find_155 rfl (nI_add z 1) (by decide) rfl ?_
                          refine g_goto F 112 dX1_find_158 (by decide) ?_
                          rw [h5] at hsp
                          exact ihm (z + 1) _ true (by omega) hsp
                exact ps 120 0 c2 false rfl (Ps.zero hL)
            exact wh 120 _ (unl_le _ 120) ⟨fun p hp hc => by
              by_cases e : p = i
              · rw [e]; exact cnn_rf i
              · rw [up_n e] at hc
                exact absurd hc (hfr p hp), fun p hp => by
              by_cases e : p = i
              · subst e
                exact Or.inr ⟨up_s, h2, h⟩
              · exact Or.inl (up_n e), up_s⟩
          · refine g_goto F 174 dX1_find_85 (by decide) ?_
            refine g_iinc (lv2 := [(0, .ref (a 0)), (1, .long (lN r0)), (3, .int (nI (i + 1)))]) F (nI (i + 1)) dX1_find_174 rfl (nI_add i 1) (by decide) rfl ?_
            refine g_goto F 61 dX1_find_177 (by decide) ?_
            exact ih (i + 1) c1 cc (by omega) (hG.no hi (fun z => h2 z.2))
    exact key 120 0 cr0 0 rfl (GI.zero e2)
  · show GG (EE l D t) X 0 0 7 [(0, .ref (a 0)), (1, .long (lN r0)), (3, .int (nI i))] [] (WM a t is x y w wy re de (fill co (isC v x y wy de r0) i) (fill cr (fun _ => none) i) 0 dn cs df)
    refine g_iload_n F dX1_find_7 rfl rfl ?_
    refine g_bipush F (nI 120) dX1_find_8 (by decide) ?_
    refine g_icmp_ge_f F 59 dX1_find_10 (by decide) (nI_ge hi (by decide)) ?_
    refine g_aload_n F dX1_find_13 rfl rfl ?_
    refine gM_get_core F dX1_find_14 ?_
    refine g_iload_n F dX1_find_17 rfl rfl ?_
    refine g_aload_n F dX1_find_18 rfl rfl ?_
    refine gM_get_is F dX1_find_19 ?_
    refine g_iload_n F dX1_find_22 rfl rfl ?_
    refine gM_ld_is F hi dX1_find_23 ?_
    refine g_if_eq_b F 44 dX1_find_24 (by decide)  (fun h => ?_) (fun h => ?_)
    · refine g_iconst F (b2 false) dX1_find_44 (by decide) ?_
      refine gM_st_core F hi dX1_find_45 ?_
      refine g_aload_n F dX1_find_46 rfl rfl ?_
      refine gM_get_crowdOf F dX1_find_47 ?_
      refine g_iload_n F dX1_find_50 rfl rfl ?_
      refine g_iconst F (oI none) dX1_find_51 (by decide) ?_
      refine gM_st_crowdOf F hi dX1_find_52 ?_
      refine g_iinc (lv2 := [(0, .ref (a 0)), (1, .long (lN r0)), (3, .int (nI (i + 1)))]) F (nI (i + 1)) dX1_find_53 rfl (nI_add i 1) (by decide) rfl ?_
      refine g_goto F 7 dX1_find_56 (by decide) ?_
      rw [fill_up (f := co) (g := (isC v x y wy de r0)) (v := false) (by unfold isC; have := hM.n h; simp; omega), fill_up (f := cr) (g := fun _ => none) (v := none) rfl] at ih
      exact ih
    · refine g_aload_n F dX1_find_27 rfl rfl ?_
      refine g_iload_n F dX1_find_28 rfl rfl ?_
      refine g_lload_n F dX1_find_29 rfl rfl ?_
      refine c_VI F [.int (nI i), .ref (a 5)] (wr := []) (cM_weightWithin hM hi hr) cwX1_X1_weightWithin ⟨by decide, by decide, rfl, rfl⟩ rfl rfl rfl rfl (Nat.le_of_ble_eq_true rfl) ⟨by decide, by decide⟩ dX1_find_30 (fun r u hu => ?_)
      obtain ⟨rfl, rfl⟩ := hu
      show GG (EE l D t) X 0 0 33 [(0, .ref (a 0)), (1, .long (lN r0)), (3, .int (nI i))] [.int (nI (ww v (gp wy x y i) r0)), .int (nI i), .ref (a 5)] (WM a t is x y w wy re de (fill co (isC v x y wy de r0) i) (fill cr (fun _ => none) i) 0 dn cs df)
      refine g_aload_n F dX1_find_33 rfl rfl ?_
      refine gM_get_demand F dX1_find_34 ?_
      refine g_icmp_lt_n F 44 dX1_find_37 (by decide) (by have := sum1_le (wwf_le (g := gp wy x y i) (r := r0) hM.1.1); unfold ww; omega) (by have := hM.1.2.2.2.2.2; omega) (fun h2 => ?_) (fun h2 => ?_)
      · refine g_iconst F (b2 false) dX1_find_44 (by decide) ?_
        refine gM_st_core F hi dX1_find_45 ?_
        refine g_aload_n F dX1_find_46 rfl rfl ?_
        refine gM_get_crowdOf F dX1_find_47 ?_
        refine g_iload_n F dX1_find_50 rfl rfl ?_
        refine g_iconst F (oI none) dX1_find_51 (by decide) ?_
        refine gM_st_crowdOf F hi dX1_find_52 ?_
        refine g_iinc (lv2 := [(0, .ref (a 0)), (1, .long (lN r0)), (3, .int (nI (i + 1)))]) F (nI (i + 1)) dX1_find_53 rfl (nI_add i 1) (by decide) rfl ?_
        refine g_goto F 7 dX1_find_56 (by decide) ?_
        rw [fill_up (f := co) (g := (isC v x y wy de r0)) (v := false) (by unfold isC; simp; omega), fill_up (f := cr) (g := fun _ => none) (v := none) rfl] at ih
        exact ih
      · refine g_iconst F (b2 true) dX1_find_40 (by decide) ?_
        refine g_goto F 45 dX1_find_41 (by decide) ?_
        refine gM_st_core F hi dX1_find_45 ?_
        refine g_aload_n F dX1_find_46 rfl rfl ?_
        refine gM_get_crowdOf F dX1_find_47 ?_
        refine g_iload_n F dX1_find_50 rfl rfl ?_
        refine g_iconst F (oI none) dX1_find_51 (by decide) ?_
        refine gM_st_crowdOf F hi dX1_find_52 ?_
        refine g_iinc (lv2 := [(0, .ref (a 0)), (1, .long (lN r0)), (3, .int (nI (i + 1)))]) F (nI (i + 1)) dX1_find_53 rfl (nI_add i 1) (by decide) rfl ?_
        refine g_goto F 7 dX1_find_56 (by decide) ?_
        rw [fill_up (f := co) (g := (isC v x y wy de r0)) (v := true) (by unfold isC; have := (hM.y h).1; simp; omega), fill_up (f := cr) (g := fun _ => none) (v := none) rfl] at ih
        exact ih
end
