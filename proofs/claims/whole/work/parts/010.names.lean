-- ===== PART A: goes FIRST, ahead of the names: the tables' words, and 'selects' of the private methods out of them =====
/-- a private method of a class that the tables say can be made, by its rows of tables_1 -/
def lw_okq (q : MethodName × Nat) : Prop := (q.1.cls ≠ "java/lang/invoke/MethodHandle" ∧ q.1.cls ≠ "java/lang/invoke/VarHandle") ∧ Cond.instantiable q.1.cls q.2 ∈ tables_1 ∧ Cond.privateMethod q.1 ∈ tables_1 ∧ Cond.instanceMethod q.1 ∈ tables_1
theorem lw_p0 : lw_okq (⟨"PointCrowds", "leastFree", "()I"⟩, 17) := ⟨⟨by decide +kernel, by decide +kernel⟩, List.mem_of_getElem? (i := 5) (by decide +kernel), List.mem_of_getElem? (i := 77) (by decide +kernel), List.mem_of_getElem? (i := 78) (by decide +kernel)⟩
theorem lw_p1 : lw_okq (⟨"PointCrowds", "put", "(III)V"⟩, 17) := ⟨⟨by decide +kernel, by decide +kernel⟩, List.mem_of_getElem? (i := 5) (by decide +kernel), List.mem_of_getElem? (i := 81) (by decide +kernel), List.mem_of_getElem? (i := 82) (by decide +kernel)⟩
theorem lw_p2 : lw_okq (⟨"PointCrowds", "forget", "()V"⟩, 17) := ⟨⟨by decide +kernel, by decide +kernel⟩, List.mem_of_getElem? (i := 5) (by decide +kernel), List.mem_of_getElem? (i := 85) (by decide +kernel), List.mem_of_getElem? (i := 86) (by decide +kernel)⟩
theorem lw_p3 : lw_okq (⟨"PointCrowds", "isPoint", "(I)Z"⟩, 17) := ⟨⟨by decide +kernel, by decide +kernel⟩, List.mem_of_getElem? (i := 5) (by decide +kernel), List.mem_of_getElem? (i := 93) (by decide +kernel), List.mem_of_getElem? (i := 94) (by decide +kernel)⟩
theorem lw_p4 : lw_okq (⟨"PointCrowds", "countPoints", "()I"⟩, 17) := ⟨⟨by decide +kernel, by decide +kernel⟩, List.mem_of_getElem? (i := 5) (by decide +kernel), List.mem_of_getElem? (i := 97) (by decide +kernel), List.mem_of_getElem? (i := 98) (by decide +kernel)⟩
theorem lw_p5 : lw_okq (⟨"PointCrowds", "gapBetween", "(II)J"⟩, 17) := ⟨⟨by decide +kernel, by decide +kernel⟩, List.mem_of_getElem? (i := 5) (by decide +kernel), List.mem_of_getElem? (i := 122) (by decide +kernel), List.mem_of_getElem? (i := 123) (by decide +kernel)⟩
theorem lw_p6 : lw_okq (⟨"PointCrowds", "gapTo", "(III)J"⟩, 17) := ⟨⟨by decide +kernel, by decide +kernel⟩, List.mem_of_getElem? (i := 5) (by decide +kernel), List.mem_of_getElem? (i := 126) (by decide +kernel), List.mem_of_getElem? (i := 127) (by decide +kernel)⟩
theorem lw_p7 : lw_okq (⟨"PointCrowds", "sortWith", "(J)V"⟩, 17) := ⟨⟨by decide +kernel, by decide +kernel⟩, List.mem_of_getElem? (i := 5) (by decide +kernel), List.mem_of_getElem? (i := 140) (by decide +kernel), List.mem_of_getElem? (i := 141) (by decide +kernel)⟩
theorem lw_p8 : lw_okq (⟨"PointCrowds", "markCores", "(J)V"⟩, 17) := ⟨⟨by decide +kernel, by decide +kernel⟩, List.mem_of_getElem? (i := 5) (by decide +kernel), List.mem_of_getElem? (i := 144) (by decide +kernel), List.mem_of_getElem? (i := 145) (by decide +kernel)⟩
theorem lw_p9 : lw_okq (⟨"PointCrowds", "weightWithin", "(IJ)I"⟩, 17) := ⟨⟨by decide +kernel, by decide +kernel⟩, List.mem_of_getElem? (i := 5) (by decide +kernel), List.mem_of_getElem? (i := 148) (by decide +kernel), List.mem_of_getElem? (i := 149) (by decide +kernel)⟩
theorem lw_p10 : lw_okq (⟨"PointCrowds", "gatherCrowds", "(J)V"⟩, 17) := ⟨⟨by decide +kernel, by decide +kernel⟩, List.mem_of_getElem? (i := 5) (by decide +kernel), List.mem_of_getElem? (i := 152) (by decide +kernel), List.mem_of_getElem? (i := 153) (by decide +kernel)⟩
theorem lw_p11 : lw_okq (⟨"PointCrowds", "gatherFrom", "(IJ)V"⟩, 17) := ⟨⟨by decide +kernel, by decide +kernel⟩, List.mem_of_getElem? (i := 5) (by decide +kernel), List.mem_of_getElem? (i := 156) (by decide +kernel), List.mem_of_getElem? (i := 157) (by decide +kernel)⟩
theorem lw_p12 : lw_okq (⟨"PointCrowds", "leastUnsettledCore", "()I"⟩, 17) := ⟨⟨by decide +kernel, by decide +kernel⟩, List.mem_of_getElem? (i := 5) (by decide +kernel), List.mem_of_getElem? (i := 160) (by decide +kernel), List.mem_of_getElem? (i := 161) (by decide +kernel)⟩
theorem lw_p13 : lw_okq (⟨"PointCrowds", "gatherCoresNear", "(IJ)V"⟩, 17) := ⟨⟨by decide +kernel, by decide +kernel⟩, List.mem_of_getElem? (i := 5) (by decide +kernel), List.mem_of_getElem? (i := 164) (by decide +kernel), List.mem_of_getElem? (i := 165) (by decide +kernel)⟩
theorem lw_p14 : lw_okq (⟨"PointCrowds", "joinBorders", "(J)V"⟩, 17) := ⟨⟨by decide +kernel, by decide +kernel⟩, List.mem_of_getElem? (i := 5) (by decide +kernel), List.mem_of_getElem? (i := 168) (by decide +kernel), List.mem_of_getElem? (i := 169) (by decide +kernel)⟩
theorem lw_p15 : lw_okq (⟨"PointCrowds", "leastCrowdAt", "(IIJ)I"⟩, 17) := ⟨⟨by decide +kernel, by decide +kernel⟩, List.mem_of_getElem? (i := 5) (by decide +kernel), List.mem_of_getElem? (i := 172) (by decide +kernel), List.mem_of_getElem? (i := 173) (by decide +kernel)⟩
def lw_privs_1 : List (MethodName × Nat) := [(⟨"PointCrowds", "leastFree", "()I"⟩, 17), (⟨"PointCrowds", "put", "(III)V"⟩, 17), (⟨"PointCrowds", "forget", "()V"⟩, 17), (⟨"PointCrowds", "isPoint", "(I)Z"⟩, 17), (⟨"PointCrowds", "countPoints", "()I"⟩, 17), (⟨"PointCrowds", "gapBetween", "(II)J"⟩, 17), (⟨"PointCrowds", "gapTo", "(III)J"⟩, 17), (⟨"PointCrowds", "sortWith", "(J)V"⟩, 17), (⟨"PointCrowds", "markCores", "(J)V"⟩, 17), (⟨"PointCrowds", "weightWithin", "(IJ)I"⟩, 17), (⟨"PointCrowds", "gatherCrowds", "(J)V"⟩, 17), (⟨"PointCrowds", "gatherFrom", "(IJ)V"⟩, 17), (⟨"PointCrowds", "leastUnsettledCore", "()I"⟩, 17), (⟨"PointCrowds", "gatherCoresNear", "(IJ)V"⟩, 17), (⟨"PointCrowds", "joinBorders", "(J)V"⟩, 17), (⟨"PointCrowds", "leastCrowdAt", "(IIJ)I"⟩, 17)]
theorem lw_r1 : ∀ q ∈ lw_privs_1, lw_okq q := List.forall_mem_cons.mpr ⟨lw_p0, List.forall_mem_cons.mpr ⟨lw_p1, List.forall_mem_cons.mpr ⟨lw_p2, List.forall_mem_cons.mpr ⟨lw_p3, List.forall_mem_cons.mpr ⟨lw_p4, List.forall_mem_cons.mpr ⟨lw_p5, List.forall_mem_cons.mpr ⟨lw_p6, List.forall_mem_cons.mpr ⟨lw_p7, List.forall_mem_cons.mpr ⟨lw_p8, List.forall_mem_cons.mpr ⟨lw_p9, List.forall_mem_cons.mpr ⟨lw_p10, List.forall_mem_cons.mpr ⟨lw_p11, List.forall_mem_cons.mpr ⟨lw_p12, List.forall_mem_cons.mpr ⟨lw_p13, List.forall_mem_cons.mpr ⟨lw_p14, List.forall_mem_cons.mpr ⟨lw_p15, fun _ h => absurd h List.not_mem_nil⟩⟩⟩⟩⟩⟩⟩⟩⟩⟩⟩⟩⟩⟩⟩⟩
theorem lw_p16 : lw_okq (⟨"PointCrowds", "kindOf", "(I)I"⟩, 17) := ⟨⟨by decide +kernel, by decide +kernel⟩, List.mem_of_getElem? (i := 5) (by decide +kernel), List.mem_of_getElem? (i := 176) (by decide +kernel), List.mem_of_getElem? (i := 177) (by decide +kernel)⟩
theorem lw_p17 : lw_okq (⟨"PointCrowds", "leastReachAsCore", "(I)J"⟩, 17) := ⟨⟨by decide +kernel, by decide +kernel⟩, List.mem_of_getElem? (i := 5) (by decide +kernel), List.mem_of_getElem? (i := 192) (by decide +kernel), List.mem_of_getElem? (i := 193) (by decide +kernel)⟩
theorem lw_p18 : lw_okq (⟨"PointCrowds", "lastGap", "(I)J"⟩, 17) := ⟨⟨by decide +kernel, by decide +kernel⟩, List.mem_of_getElem? (i := 5) (by decide +kernel), List.mem_of_getElem? (i := 196) (by decide +kernel), List.mem_of_getElem? (i := 197) (by decide +kernel)⟩
theorem lw_p19 : lw_okq (⟨"PointCrowds", "keepNear", "(IJI)I"⟩, 17) := ⟨⟨by decide +kernel, by decide +kernel⟩, List.mem_of_getElem? (i := 5) (by decide +kernel), List.mem_of_getElem? (i := 200) (by decide +kernel), List.mem_of_getElem? (i := 201) (by decide +kernel)⟩
theorem lw_p20 : lw_okq (⟨"PointCrowds", "countWeights", "()I"⟩, 17) := ⟨⟨by decide +kernel, by decide +kernel⟩, List.mem_of_getElem? (i := 5) (by decide +kernel), List.mem_of_getElem? (i := 208) (by decide +kernel), List.mem_of_getElem? (i := 209) (by decide +kernel)⟩
theorem lw_p21 : lw_okq (⟨"PointCrowds", "findCoreFrom", "()V"⟩, 17) := ⟨⟨by decide +kernel, by decide +kernel⟩, List.mem_of_getElem? (i := 5) (by decide +kernel), List.mem_of_getElem? (i := 212) (by decide +kernel), List.mem_of_getElem? (i := 213) (by decide +kernel)⟩
theorem lw_p22 : lw_okq (⟨"PointCrowds", "leastReachFrom", "(II)J"⟩, 17) := ⟨⟨by decide +kernel, by decide +kernel⟩, List.mem_of_getElem? (i := 5) (by decide +kernel), List.mem_of_getElem? (i := 216) (by decide +kernel), List.mem_of_getElem? (i := 217) (by decide +kernel)⟩
theorem lw_p23 : lw_okq (⟨"PointCrowds", "cheapestUnsettled", "()I"⟩, 17) := ⟨⟨by decide +kernel, by decide +kernel⟩, List.mem_of_getElem? (i := 5) (by decide +kernel), List.mem_of_getElem? (i := 221) (by decide +kernel), List.mem_of_getElem? (i := 222) (by decide +kernel)⟩
theorem lw_p24 : lw_okq (⟨"PointCrowds", "reachOnFrom", "(I)V"⟩, 17) := ⟨⟨by decide +kernel, by decide +kernel⟩, List.mem_of_getElem? (i := 5) (by decide +kernel), List.mem_of_getElem? (i := 225) (by decide +kernel), List.mem_of_getElem? (i := 226) (by decide +kernel)⟩
theorem lw_p25 : lw_okq (⟨"PointCrowds", "countKind", "(I)I"⟩, 17) := ⟨⟨by decide +kernel, by decide +kernel⟩, List.mem_of_getElem? (i := 5) (by decide +kernel), List.mem_of_getElem? (i := 236) (by decide +kernel), List.mem_of_getElem? (i := 237) (by decide +kernel)⟩
theorem lw_p26 : lw_okq (⟨"PointCrowds", "pointsOf", "(I)I"⟩, 17) := ⟨⟨by decide +kernel, by decide +kernel⟩, List.mem_of_getElem? (i := 5) (by decide +kernel), List.mem_of_getElem? (i := 244) (by decide +kernel), List.mem_of_getElem? (i := 245) (by decide +kernel)⟩
theorem lw_p27 : lw_okq (⟨"PointCrowds", "coresOf", "(I)I"⟩, 17) := ⟨⟨by decide +kernel, by decide +kernel⟩, List.mem_of_getElem? (i := 5) (by decide +kernel), List.mem_of_getElem? (i := 248) (by decide +kernel), List.mem_of_getElem? (i := 249) (by decide +kernel)⟩
theorem lw_p28 : lw_okq (⟨"PointCrowds", "weightsOf", "(I)I"⟩, 17) := ⟨⟨by decide +kernel, by decide +kernel⟩, List.mem_of_getElem? (i := 5) (by decide +kernel), List.mem_of_getElem? (i := 252) (by decide +kernel), List.mem_of_getElem? (i := 253) (by decide +kernel)⟩
theorem lw_p29 : lw_okq (⟨"PointCrowds", "leastCoreOf", "(I)I"⟩, 17) := ⟨⟨by decide +kernel, by decide +kernel⟩, List.mem_of_getElem? (i := 5) (by decide +kernel), List.mem_of_getElem? (i := 256) (by decide +kernel), List.mem_of_getElem? (i := 257) (by decide +kernel)⟩
theorem lw_p30 : lw_okq (⟨"PointCrowds", "leastOf", "([II)I"⟩, 17) := ⟨⟨by decide +kernel, by decide +kernel⟩, List.mem_of_getElem? (i := 5) (by decide +kernel), List.mem_of_getElem? (i := 260) (by decide +kernel), List.mem_of_getElem? (i := 261) (by decide +kernel)⟩
theorem lw_p31 : lw_okq (⟨"PointCrowds", "greatestOf", "([II)I"⟩, 17) := ⟨⟨by decide +kernel, by decide +kernel⟩, List.mem_of_getElem? (i := 5) (by decide +kernel), List.mem_of_getElem? (i := 267) (by decide +kernel), List.mem_of_getElem? (i := 268) (by decide +kernel)⟩
def lw_privs_2 : List (MethodName × Nat) := [(⟨"PointCrowds", "kindOf", "(I)I"⟩, 17), (⟨"PointCrowds", "leastReachAsCore", "(I)J"⟩, 17), (⟨"PointCrowds", "lastGap", "(I)J"⟩, 17), (⟨"PointCrowds", "keepNear", "(IJI)I"⟩, 17), (⟨"PointCrowds", "countWeights", "()I"⟩, 17), (⟨"PointCrowds", "findCoreFrom", "()V"⟩, 17), (⟨"PointCrowds", "leastReachFrom", "(II)J"⟩, 17), (⟨"PointCrowds", "cheapestUnsettled", "()I"⟩, 17), (⟨"PointCrowds", "reachOnFrom", "(I)V"⟩, 17), (⟨"PointCrowds", "countKind", "(I)I"⟩, 17), (⟨"PointCrowds", "pointsOf", "(I)I"⟩, 17), (⟨"PointCrowds", "coresOf", "(I)I"⟩, 17), (⟨"PointCrowds", "weightsOf", "(I)I"⟩, 17), (⟨"PointCrowds", "leastCoreOf", "(I)I"⟩, 17), (⟨"PointCrowds", "leastOf", "([II)I"⟩, 17), (⟨"PointCrowds", "greatestOf", "([II)I"⟩, 17)]
theorem lw_r2 : ∀ q ∈ lw_privs_2, lw_okq q := List.forall_mem_cons.mpr ⟨lw_p16, List.forall_mem_cons.mpr ⟨lw_p17, List.forall_mem_cons.mpr ⟨lw_p18, List.forall_mem_cons.mpr ⟨lw_p19, List.forall_mem_cons.mpr ⟨lw_p20, List.forall_mem_cons.mpr ⟨lw_p21, List.forall_mem_cons.mpr ⟨lw_p22, List.forall_mem_cons.mpr ⟨lw_p23, List.forall_mem_cons.mpr ⟨lw_p24, List.forall_mem_cons.mpr ⟨lw_p25, List.forall_mem_cons.mpr ⟨lw_p26, List.forall_mem_cons.mpr ⟨lw_p27, List.forall_mem_cons.mpr ⟨lw_p28, List.forall_mem_cons.mpr ⟨lw_p29, List.forall_mem_cons.mpr ⟨lw_p30, List.forall_mem_cons.mpr ⟨lw_p31, fun _ h => absurd h List.not_mem_nil⟩⟩⟩⟩⟩⟩⟩⟩⟩⟩⟩⟩⟩⟩⟩⟩
theorem lw_p32 : lw_okq (⟨"PointCrowds", "standsRight", "(I)Z"⟩, 17) := ⟨⟨by decide +kernel, by decide +kernel⟩, List.mem_of_getElem? (i := 5) (by decide +kernel), List.mem_of_getElem? (i := 286) (by decide +kernel), List.mem_of_getElem? (i := 287) (by decide +kernel)⟩
theorem lw_p33 : lw_okq (⟨"PointCrowdsModel", "isPoint", "(I)Z"⟩, 13) := ⟨⟨by decide +kernel, by decide +kernel⟩, List.mem_of_getElem? (i := 290) (by decide +kernel), List.mem_of_getElem? (i := 349) (by decide +kernel), List.mem_of_getElem? (i := 350) (by decide +kernel)⟩
theorem lw_p34 : lw_okq (⟨"PointCrowdsModel", "points", "()I"⟩, 13) := ⟨⟨by decide +kernel, by decide +kernel⟩, List.mem_of_getElem? (i := 290) (by decide +kernel), List.mem_of_getElem? (i := 353) (by decide +kernel), List.mem_of_getElem? (i := 354) (by decide +kernel)⟩
theorem lw_p35 : lw_okq (⟨"PointCrowdsModel", "far", "(IJJ)J"⟩, 13) := ⟨⟨by decide +kernel, by decide +kernel⟩, List.mem_of_getElem? (i := 290) (by decide +kernel), List.mem_of_getElem? (i := 377) (by decide +kernel), List.mem_of_getElem? (i := 378) (by decide +kernel)⟩
theorem lw_p36 : lw_okq (⟨"PointCrowdsModel", "find", "(J)V"⟩, 13) := ⟨⟨by decide +kernel, by decide +kernel⟩, List.mem_of_getElem? (i := 290) (by decide +kernel), List.mem_of_getElem? (i := 386) (by decide +kernel), List.mem_of_getElem? (i := 387) (by decide +kernel)⟩
theorem lw_p37 : lw_okq (⟨"PointCrowdsModel", "weightWithin", "(IJ)I"⟩, 13) := ⟨⟨by decide +kernel, by decide +kernel⟩, List.mem_of_getElem? (i := 290) (by decide +kernel), List.mem_of_getElem? (i := 390) (by decide +kernel), List.mem_of_getElem? (i := 391) (by decide +kernel)⟩
theorem lw_p38 : lw_okq (⟨"PointCrowdsModel", "spread", "(IJ)Z"⟩, 13) := ⟨⟨by decide +kernel, by decide +kernel⟩, List.mem_of_getElem? (i := 290) (by decide +kernel), List.mem_of_getElem? (i := 394) (by decide +kernel), List.mem_of_getElem? (i := 395) (by decide +kernel)⟩
theorem lw_p39 : lw_okq (⟨"PointCrowdsModel", "least", "(IIJ)I"⟩, 13) := ⟨⟨by decide +kernel, by decide +kernel⟩, List.mem_of_getElem? (i := 290) (by decide +kernel), List.mem_of_getElem? (i := 398) (by decide +kernel), List.mem_of_getElem? (i := 399) (by decide +kernel)⟩
theorem lw_p40 : lw_okq (⟨"PointCrowdsModel", "findDense", "(I)J"⟩, 13) := ⟨⟨by decide +kernel, by decide +kernel⟩, List.mem_of_getElem? (i := 290) (by decide +kernel), List.mem_of_getElem? (i := 426) (by decide +kernel), List.mem_of_getElem? (i := 427) (by decide +kernel)⟩
def lw_privs_3 : List (MethodName × Nat) := [(⟨"PointCrowds", "standsRight", "(I)Z"⟩, 17), (⟨"PointCrowdsModel", "isPoint", "(I)Z"⟩, 13), (⟨"PointCrowdsModel", "points", "()I"⟩, 13), (⟨"PointCrowdsModel", "far", "(IJJ)J"⟩, 13), (⟨"PointCrowdsModel", "find", "(J)V"⟩, 13), (⟨"PointCrowdsModel", "weightWithin", "(IJ)I"⟩, 13), (⟨"PointCrowdsModel", "spread", "(IJ)Z"⟩, 13), (⟨"PointCrowdsModel", "least", "(IIJ)I"⟩, 13), (⟨"PointCrowdsModel", "findDense", "(I)J"⟩, 13)]
theorem lw_r3 : ∀ q ∈ lw_privs_3, lw_okq q := List.forall_mem_cons.mpr ⟨lw_p32, List.forall_mem_cons.mpr ⟨lw_p33, List.forall_mem_cons.mpr ⟨lw_p34, List.forall_mem_cons.mpr ⟨lw_p35, List.forall_mem_cons.mpr ⟨lw_p36, List.forall_mem_cons.mpr ⟨lw_p37, List.forall_mem_cons.mpr ⟨lw_p38, List.forall_mem_cons.mpr ⟨lw_p39, List.forall_mem_cons.mpr ⟨lw_p40, fun _ h => absurd h List.not_mem_nil⟩⟩⟩⟩⟩⟩⟩⟩⟩
def lw_privs : List (MethodName × Nat) := lw_privs_1 ++ (lw_privs_2 ++ (lw_privs_3))
def lw_tbl : List Cond := k2_sels lw_privs ++ tables_1
theorem lw_privs_ok : ∀ q ∈ lw_privs, lw_okq q := by
  show ∀ q ∈ lw_privs_1 ++ (lw_privs_2 ++ (lw_privs_3)), lw_okq q
  exact List.forall_mem_append.mpr ⟨lw_r1, List.forall_mem_append.mpr ⟨lw_r2, lw_r3⟩⟩
-- names (printed by the task, cut to what is used)
def RX0 : String := "PointCrowds"
def TX0 : u_T := fun k => match k with
  | 0 => ("PointCrowds", "weights", "[I", true)
  | 1 => ("PointCrowds", "xs", "[I", true)
  | 2 => ("PointCrowds", "ys", "[I", true)
  | 3 => ("PointCrowds", "wayNow", "I", false)
  | 4 => ("PointCrowds", "reachNow", "J", false)
  | 5 => ("PointCrowds", "demandNow", "I", false)
  | 6 => ("PointCrowds", "core", "[Z", true)
  | 7 => ("PointCrowds", "crowdOf", "[I", true)
  | 8 => ("PointCrowds", "crowdCount", "I", false)
  | 9 => ("PointCrowds", "sortedReach", "J", false)
  | 10 => ("PointCrowds", "sorted", "Z", false)
  | 11 => ("PointCrowds", "coreFrom", "[J", true)
  | 12 => ("PointCrowds", "coreFromKnown", "Z", false)
  | 13 => ("PointCrowds", "nearGap", "[J", true)
  | 14 => ("PointCrowds", "nearWeight", "[I", true)
  | 15 => ("PointCrowds", "cost", "[J", true)
  | _ => ("PointCrowds", "settled", "[Z", true)
def tyX0 : Nat → FieldType := fun k => match k with
  | 0 => .array .int
  | 1 => .array .int
  | 2 => .array .int
  | 3 => .int
  | 4 => .long
  | 5 => .int
  | 6 => .array .boolean
  | 7 => .array .int
  | 8 => .int
  | 9 => .long
  | 10 => .boolean
  | 11 => .array .long
  | 12 => .boolean
  | 13 => .array .long
  | 14 => .array .int
  | 15 => .array .long
  | _ => .array .boolean
abbrev wsX00 : List Cond := u_ws RX0 TX0 17
theorem nmX0 : ∀ a, a < 17 → ∀ b, b < 17 → a ≠ b → (TX0 a).2.1 ≠ (TX0 b).2.1 := by decide +kernel
theorem tyX0_ok : ∀ k, k < 17 → parseFieldDescriptor (TX0 k).2.2.1 = some (tyX0 k) := by decide +kernel
abbrev cX0_init : ByteArray := prog_1_method_1_code
def yX0_init : MethodName := ⟨RX0, "<init>", "()V"⟩
abbrev cX0_point : ByteArray := prog_1_method_2_code
def yX0_point : MethodName := ⟨RX0, "point", "(III)I"⟩
abbrev cX0_remove : ByteArray := prog_1_method_3_code
def yX0_remove : MethodName := ⟨RX0, "remove", "(I)I"⟩
abbrev cX0_move : ByteArray := prog_1_method_4_code
def yX0_move : MethodName := ⟨RX0, "move", "(III)I"⟩
abbrev cX0_way : ByteArray := prog_1_method_5_code
def yX0_way : MethodName := ⟨RX0, "way", "(I)I"⟩
abbrev cX0_reach : ByteArray := prog_1_method_6_code
def yX0_reach : MethodName := ⟨RX0, "reach", "(J)I"⟩
abbrev cX0_demand : ByteArray := prog_1_method_7_code
def yX0_demand : MethodName := ⟨RX0, "demand", "(I)I"⟩
abbrev cX0_distance : ByteArray := prog_1_method_8_code
def yX0_distance : MethodName := ⟨RX0, "distance", "(II)J"⟩
abbrev cX0_kind : ByteArray := prog_1_method_9_code
def yX0_kind : MethodName := ⟨RX0, "kind", "(I)I"⟩
abbrev cX0_crowd : ByteArray := prog_1_method_10_code
def yX0_crowd : MethodName := ⟨RX0, "crowd", "(I)I"⟩
abbrev cX0_around : ByteArray := prog_1_method_11_code
def yX0_around : MethodName := ⟨RX0, "around", "(I)I"⟩
abbrev cX0_dense : ByteArray := prog_1_method_12_code
def yX0_dense : MethodName := ⟨RX0, "dense", "(I)J"⟩
abbrev cX0_meet : ByteArray := prog_1_method_13_code
def yX0_meet : MethodName := ⟨RX0, "meet", "(II)J"⟩
abbrev cX0_count : ByteArray := prog_1_method_14_code
def yX0_count : MethodName := ⟨RX0, "count", "(I)I"⟩
abbrev cX0_about : ByteArray := prog_1_method_15_code
def yX0_about : MethodName := ⟨RX0, "about", "(II)I"⟩
abbrev cX0_belongs : ByteArray := prog_1_method_16_code
def yX0_belongs : MethodName := ⟨RX0, "belongs", "(II)I"⟩
abbrev cX0_crowds : ByteArray := prog_1_method_17_code
def yX0_crowds : MethodName := ⟨RX0, "crowds", "(J)I"⟩
abbrev cX0_check : ByteArray := prog_1_method_18_code
def yX0_check : MethodName := ⟨RX0, "check", "()I"⟩
abbrev cX0_isPlace : ByteArray := prog_1_method_19_code
def yX0_isPlace : MethodName := ⟨RX0, "isPlace", "(II)Z"⟩
abbrev cX0_isPoint : ByteArray := prog_1_method_20_code
def yX0_isPoint : MethodName := ⟨RX0, "isPoint", "(I)Z"⟩
abbrev cX0_leastFree : ByteArray := prog_1_method_21_code
def yX0_leastFree : MethodName := ⟨RX0, "leastFree", "()I"⟩
abbrev cX0_put : ByteArray := prog_1_method_22_code
def yX0_put : MethodName := ⟨RX0, "put", "(III)V"⟩
abbrev cX0_forget : ByteArray := prog_1_method_23_code
def yX0_forget : MethodName := ⟨RX0, "forget", "()V"⟩
abbrev cX0_countPoints : ByteArray := prog_1_method_24_code
def yX0_countPoints : MethodName := ⟨RX0, "countPoints", "()I"⟩
abbrev cX0_countWeights : ByteArray := prog_1_method_25_code
def yX0_countWeights : MethodName := ⟨RX0, "countWeights", "()I"⟩
abbrev cX0_gapBetween : ByteArray := prog_1_method_26_code
def yX0_gapBetween : MethodName := ⟨RX0, "gapBetween", "(II)J"⟩
abbrev cX0_gapTo : ByteArray := prog_1_method_27_code
def yX0_gapTo : MethodName := ⟨RX0, "gapTo", "(III)J"⟩
abbrev cX0_weightWithin : ByteArray := prog_1_method_28_code
def yX0_weightWithin : MethodName := ⟨RX0, "weightWithin", "(IJ)I"⟩
abbrev cX0_sortWith : ByteArray := prog_1_method_29_code
def yX0_sortWith : MethodName := ⟨RX0, "sortWith", "(J)V"⟩
abbrev cX0_markCores : ByteArray := prog_1_method_30_code
def yX0_markCores : MethodName := ⟨RX0, "markCores", "(J)V"⟩
abbrev cX0_gatherCrowds : ByteArray := prog_1_method_31_code
def yX0_gatherCrowds : MethodName := ⟨RX0, "gatherCrowds", "(J)V"⟩
abbrev cX0_gatherFrom : ByteArray := prog_1_method_32_code
def yX0_gatherFrom : MethodName := ⟨RX0, "gatherFrom", "(IJ)V"⟩
abbrev cX0_leastUnsettledCore : ByteArray := prog_1_method_33_code
def yX0_leastUnsettledCore : MethodName := ⟨RX0, "leastUnsettledCore", "()I"⟩
abbrev cX0_gatherCoresNear : ByteArray := prog_1_method_34_code
def yX0_gatherCoresNear : MethodName := ⟨RX0, "gatherCoresNear", "(IJ)V"⟩
abbrev cX0_joinBorders : ByteArray := prog_1_method_35_code
def yX0_joinBorders : MethodName := ⟨RX0, "joinBorders", "(J)V"⟩
abbrev cX0_leastCrowdAt : ByteArray := prog_1_method_36_code
def yX0_leastCrowdAt : MethodName := ⟨RX0, "leastCrowdAt", "(IIJ)I"⟩
abbrev cX0_kindOf : ByteArray := prog_1_method_37_code
def yX0_kindOf : MethodName := ⟨RX0, "kindOf", "(I)I"⟩
abbrev cX0_countKind : ByteArray := prog_1_method_38_code
def yX0_countKind : MethodName := ⟨RX0, "countKind", "(I)I"⟩
abbrev cX0_standsRight : ByteArray := prog_1_method_39_code
def yX0_standsRight : MethodName := ⟨RX0, "standsRight", "(I)Z"⟩
abbrev cX0_pointsOf : ByteArray := prog_1_method_40_code
def yX0_pointsOf : MethodName := ⟨RX0, "pointsOf", "(I)I"⟩
abbrev cX0_coresOf : ByteArray := prog_1_method_41_code
def yX0_coresOf : MethodName := ⟨RX0, "coresOf", "(I)I"⟩
abbrev cX0_weightsOf : ByteArray := prog_1_method_42_code
def yX0_weightsOf : MethodName := ⟨RX0, "weightsOf", "(I)I"⟩
abbrev cX0_leastCoreOf : ByteArray := prog_1_method_43_code
def yX0_leastCoreOf : MethodName := ⟨RX0, "leastCoreOf", "(I)I"⟩
abbrev cX0_leastOf : ByteArray := prog_1_method_44_code
def yX0_leastOf : MethodName := ⟨RX0, "leastOf", "([II)I"⟩
abbrev cX0_greatestOf : ByteArray := prog_1_method_45_code
def yX0_greatestOf : MethodName := ⟨RX0, "greatestOf", "([II)I"⟩
abbrev cX0_findCoreFrom : ByteArray := prog_1_method_46_code
def yX0_findCoreFrom : MethodName := ⟨RX0, "findCoreFrom", "()V"⟩
abbrev cX0_leastReachAsCore : ByteArray := prog_1_method_47_code
def yX0_leastReachAsCore : MethodName := ⟨RX0, "leastReachAsCore", "(I)J"⟩
abbrev cX0_lastGap : ByteArray := prog_1_method_48_code
def yX0_lastGap : MethodName := ⟨RX0, "lastGap", "(I)J"⟩
abbrev cX0_keepNear : ByteArray := prog_1_method_49_code
def yX0_keepNear : MethodName := ⟨RX0, "keepNear", "(IJI)I"⟩
abbrev cX0_leastReachFrom : ByteArray := prog_1_method_50_code
def yX0_leastReachFrom : MethodName := ⟨RX0, "leastReachFrom", "(II)J"⟩
abbrev cX0_cheapestUnsettled : ByteArray := prog_1_method_51_code
def yX0_cheapestUnsettled : MethodName := ⟨RX0, "cheapestUnsettled", "()I"⟩
abbrev cX0_reachOnFrom : ByteArray := prog_1_method_52_code
def yX0_reachOnFrom : MethodName := ⟨RX0, "reachOnFrom", "(I)V"⟩
def RX1 : String := "PointCrowdsModel"
def TX1 : u_T := fun k => match k with
  | 0 => ("PointCrowdsModel", "is", "[Z", true)
  | 1 => ("PointCrowdsModel", "xs", "[I", true)
  | 2 => ("PointCrowdsModel", "ys", "[I", true)
  | 3 => ("PointCrowdsModel", "weights", "[I", true)
  | 4 => ("PointCrowdsModel", "way", "I", false)
  | 5 => ("PointCrowdsModel", "reach", "J", false)
  | 6 => ("PointCrowdsModel", "demand", "I", false)
  | 7 => ("PointCrowdsModel", "core", "[Z", true)
  | 8 => ("PointCrowdsModel", "crowdOf", "[I", true)
  | 9 => ("PointCrowdsModel", "crowds", "I", false)
  | 10 => ("PointCrowdsModel", "done", "[Z", true)
  | 11 => ("PointCrowdsModel", "cost", "[J", true)
  | _ => ("PointCrowdsModel", "denseOf", "[J", true)
def tyX1 : Nat → FieldType := fun k => match k with
  | 0 => .array .boolean
  | 1 => .array .int
  | 2 => .array .int
  | 3 => .array .int
  | 4 => .int
  | 5 => .long
  | 6 => .int
  | 7 => .array .boolean
  | 8 => .array .int
  | 9 => .int
  | 10 => .array .boolean
  | 11 => .array .long
  | _ => .array .long
abbrev wsX10 : List Cond := u_ws RX1 TX1 13
theorem nmX1 : ∀ a, a < 13 → ∀ b, b < 13 → a ≠ b → (TX1 a).2.1 ≠ (TX1 b).2.1 := by decide +kernel
theorem tyX1_ok : ∀ k, k < 13 → parseFieldDescriptor (TX1 k).2.2.1 = some (tyX1 k) := by decide +kernel
abbrev cX1_init : ByteArray := prog_3_method_1_code
def yX1_init : MethodName := ⟨RX1, "<init>", "()V"⟩
abbrev cX1_isPlace : ByteArray := prog_3_method_2_code
def yX1_isPlace : MethodName := ⟨RX1, "isPlace", "(II)Z"⟩
abbrev cX1_isPoint : ByteArray := prog_3_method_3_code
def yX1_isPoint : MethodName := ⟨RX1, "isPoint", "(I)Z"⟩
abbrev cX1_point : ByteArray := prog_3_method_4_code
def yX1_point : MethodName := ⟨RX1, "point", "(III)I"⟩
abbrev cX1_points : ByteArray := prog_3_method_5_code
def yX1_points : MethodName := ⟨RX1, "points", "()I"⟩
abbrev cX1_remove : ByteArray := prog_3_method_6_code
def yX1_remove : MethodName := ⟨RX1, "remove", "(I)I"⟩
abbrev cX1_move : ByteArray := prog_3_method_7_code
def yX1_move : MethodName := ⟨RX1, "move", "(III)I"⟩
abbrev cX1_way : ByteArray := prog_3_method_8_code
def yX1_way : MethodName := ⟨RX1, "way", "(I)I"⟩
abbrev cX1_reach : ByteArray := prog_3_method_9_code
def yX1_reach : MethodName := ⟨RX1, "reach", "(J)I"⟩
abbrev cX1_demand : ByteArray := prog_3_method_10_code
def yX1_demand : MethodName := ⟨RX1, "demand", "(I)I"⟩
abbrev cX1_far : ByteArray := prog_3_method_11_code
def yX1_far : MethodName := ⟨RX1, "far", "(IJJ)J"⟩
abbrev cX1_distance : ByteArray := prog_3_method_12_code
def yX1_distance : MethodName := ⟨RX1, "distance", "(II)J"⟩
abbrev cX1_weightWithin : ByteArray := prog_3_method_13_code
def yX1_weightWithin : MethodName := ⟨RX1, "weightWithin", "(IJ)I"⟩
abbrev cX1_find : ByteArray := prog_3_method_14_code
def yX1_find : MethodName := ⟨RX1, "find", "(J)V"⟩
abbrev cX1_spread : ByteArray := prog_3_method_15_code
def yX1_spread : MethodName := ⟨RX1, "spread", "(IJ)Z"⟩
abbrev cX1_least : ByteArray := prog_3_method_16_code
def yX1_least : MethodName := ⟨RX1, "least", "(IIJ)I"⟩
abbrev cX1_kind : ByteArray := prog_3_method_17_code
def yX1_kind : MethodName := ⟨RX1, "kind", "(I)I"⟩
abbrev cX1_crowd : ByteArray := prog_3_method_18_code
def yX1_crowd : MethodName := ⟨RX1, "crowd", "(I)I"⟩
abbrev cX1_count : ByteArray := prog_3_method_19_code
def yX1_count : MethodName := ⟨RX1, "count", "(I)I"⟩
abbrev cX1_about : ByteArray := prog_3_method_20_code
def yX1_about : MethodName := ⟨RX1, "about", "(II)I"⟩
abbrev cX1_around : ByteArray := prog_3_method_21_code
def yX1_around : MethodName := ⟨RX1, "around", "(I)I"⟩
abbrev cX1_belongs : ByteArray := prog_3_method_22_code
def yX1_belongs : MethodName := ⟨RX1, "belongs", "(II)I"⟩
abbrev cX1_findDense : ByteArray := prog_3_method_23_code
def yX1_findDense : MethodName := ⟨RX1, "findDense", "(I)J"⟩
abbrev cX1_dense : ByteArray := prog_3_method_24_code
def yX1_dense : MethodName := ⟨RX1, "dense", "(I)J"⟩
abbrev cX1_greater : ByteArray := prog_3_method_25_code
def yX1_greater : MethodName := ⟨RX1, "greater", "(JJ)J"⟩
abbrev cX1_meet : ByteArray := prog_3_method_26_code
def yX1_meet : MethodName := ⟨RX1, "meet", "(II)J"⟩
abbrev cX1_crowds : ByteArray := prog_3_method_27_code
def yX1_crowds : MethodName := ⟨RX1, "crowds", "(J)I"⟩
abbrev cX1_check : ByteArray := prog_3_method_28_code
def yX1_check : MethodName := ⟨RX1, "check", "()I"⟩
def RL : String := "PointCrowdsLaw"
abbrev cL_law : ByteArray := code
def yL_law : MethodName := ⟨RL, "law", "([I)Z"⟩
def wsL_law_r1 : List Cond := [Cond.classLink RL 7 RX0, Cond.instantiable RX0 17, Cond.initialized RX0, Cond.classLink RL 10 RX1, Cond.instantiable RX1 13, Cond.initialized RX1, Cond.constantLong RL 31 (4294967295), Cond.methodLink RL 9 yX0_init, Cond.instanceMethod yX0_init, Cond.code yX0_init cX0_init 1 none, Cond.methodLink RX0 3 objectInit, Cond.instanceMethod objectInit, Cond.code objectInit ⟨#[0xb1]⟩ 1 none, Cond.arrayClass .int, Cond.fieldLink RX0 9 "PointCrowds" "weights" "[I", Cond.fieldLink RX0 13 "PointCrowds" "xs" "[I", Cond.fieldLink RX0 16 "PointCrowds" "ys" "[I", Cond.fieldLink RX0 19 "PointCrowds" "wayNow" "I", Cond.fieldLink RX0 23 "PointCrowds" "reachNow" "J", Cond.fieldLink RX0 27 "PointCrowds" "demandNow" "I", Cond.arrayClass .boolean, Cond.fieldLink RX0 30 "PointCrowds" "core" "[Z", Cond.fieldLink RX0 34 "PointCrowds" "crowdOf" "[I", Cond.fieldLink RX0 37 "PointCrowds" "crowdCount" "I"]
def wsL_law_r2 : List Cond := [Cond.fieldLink RX0 40 "PointCrowds" "sortedReach" "J", Cond.fieldLink RX0 43 "PointCrowds" "sorted" "Z", Cond.arrayClass .long, Cond.fieldLink RX0 47 "PointCrowds" "coreFrom" "[J", Cond.fieldLink RX0 51 "PointCrowds" "coreFromKnown" "Z", Cond.fieldLink RX0 54 "PointCrowds" "nearGap" "[J", Cond.fieldLink RX0 57 "PointCrowds" "nearWeight" "[I", Cond.fieldLink RX0 60 "PointCrowds" "cost" "[J", Cond.fieldLink RX0 63 "PointCrowds" "settled" "[Z", Cond.methodLink RL 12 yX1_init, Cond.instanceMethod yX1_init, Cond.code yX1_init cX1_init 1 none, Cond.methodLink RX1 1 objectInit, Cond.fieldLink RX1 7 "PointCrowdsModel" "is" "[Z", Cond.fieldLink RX1 13 "PointCrowdsModel" "xs" "[I", Cond.fieldLink RX1 17 "PointCrowdsModel" "ys" "[I", Cond.fieldLink RX1 20 "PointCrowdsModel" "weights" "[I", Cond.fieldLink RX1 23 "PointCrowdsModel" "demand" "I", Cond.fieldLink RX1 27 "PointCrowdsModel" "core" "[Z", Cond.fieldLink RX1 30 "PointCrowdsModel" "crowdOf" "[I", Cond.fieldLink RX1 33 "PointCrowdsModel" "done" "[Z", Cond.fieldLink RX1 36 "PointCrowdsModel" "cost" "[J", Cond.fieldLink RX1 40 "PointCrowdsModel" "denseOf" "[J", Cond.methodLink RL 13 yX0_point]
def wsL_law_r3 : List Cond := [Cond.instanceMethod yX0_point, Cond.selects RX0 yX0_point yX0_point, Cond.code yX0_point cX0_point 5 (some .int), Cond.methodLink RX0 66 yX0_isPlace, Cond.static yX0_isPlace, Cond.code yX0_isPlace cX0_isPlace 2 (some .boolean), Cond.constant RX0 148 (-1073741823), Cond.constant RX0 149 (1073741823), Cond.methodLink RX0 70 yX0_leastFree, Cond.instanceMethod yX0_leastFree, Cond.selects RX0 yX0_leastFree yX0_leastFree, Cond.code yX0_leastFree cX0_leastFree 2 (some .int), Cond.methodLink RX0 74 yX0_put, Cond.instanceMethod yX0_put, Cond.selects RX0 yX0_put yX0_put, Cond.code yX0_put cX0_put 4 none, Cond.methodLink RX0 82 yX0_forget, Cond.instanceMethod yX0_forget, Cond.selects RX0 yX0_forget yX0_forget, Cond.code yX0_forget cX0_forget 1 none, Cond.methodLink RL 17 yX1_point, Cond.instanceMethod yX1_point, Cond.selects RX1 yX1_point yX1_point, Cond.code yX1_point cX1_point 5 (some .int)]
def wsL_law_r4 : List Cond := [Cond.methodLink RX1 45 yX1_isPlace, Cond.static yX1_isPlace, Cond.code yX1_isPlace cX1_isPlace 2 (some .boolean), Cond.constant RX1 43 (-1073741823), Cond.constant RX1 44 (1073741823), Cond.methodLink RL 18 yX0_remove, Cond.instanceMethod yX0_remove, Cond.selects RX0 yX0_remove yX0_remove, Cond.code yX0_remove cX0_remove 2 (some .int), Cond.methodLink RX0 78 yX0_isPoint, Cond.instanceMethod yX0_isPoint, Cond.selects RX0 yX0_isPoint yX0_isPoint, Cond.code yX0_isPoint cX0_isPoint 2 (some .boolean), Cond.methodLink RX0 85 yX0_countPoints, Cond.instanceMethod yX0_countPoints, Cond.selects RX0 yX0_countPoints yX0_countPoints, Cond.code yX0_countPoints cX0_countPoints 3 (some .int), Cond.methodLink RL 22 yX1_remove, Cond.instanceMethod yX1_remove, Cond.selects RX1 yX1_remove yX1_remove, Cond.code yX1_remove cX1_remove 2 (some .int), Cond.methodLink RX1 49 yX1_isPoint, Cond.instanceMethod yX1_isPoint, Cond.selects RX1 yX1_isPoint yX1_isPoint]
def wsL_law_r5 : List Cond := [Cond.code yX1_isPoint cX1_isPoint 2 (some .boolean), Cond.methodLink RX1 53 yX1_points, Cond.instanceMethod yX1_points, Cond.selects RX1 yX1_points yX1_points, Cond.code yX1_points cX1_points 3 (some .int), Cond.methodLink RL 23 yX0_move, Cond.instanceMethod yX0_move, Cond.selects RX0 yX0_move yX0_move, Cond.code yX0_move cX0_move 4 (some .int), Cond.methodLink RL 26 yX1_move, Cond.instanceMethod yX1_move, Cond.selects RX1 yX1_move yX1_move, Cond.code yX1_move cX1_move 4 (some .int), Cond.methodLink RL 27 yX0_way, Cond.instanceMethod yX0_way, Cond.selects RX0 yX0_way yX0_way, Cond.code yX0_way cX0_way 2 (some .int), Cond.methodLink RL 30 yX1_way, Cond.instanceMethod yX1_way, Cond.selects RX1 yX1_way yX1_way, Cond.code yX1_way cX1_way 2 (some .int), Cond.fieldLink RX1 57 "PointCrowdsModel" "way" "I", Cond.methodLink RL 33 yX0_reach, Cond.instanceMethod yX0_reach]
def wsL_law_r6 : List Cond := [Cond.selects RX0 yX0_reach yX0_reach, Cond.code yX0_reach cX0_reach 3 (some .int), Cond.methodLink RL 37 yX1_reach, Cond.instanceMethod yX1_reach, Cond.selects RX1 yX1_reach yX1_reach, Cond.code yX1_reach cX1_reach 3 (some .int), Cond.fieldLink RX1 60 "PointCrowdsModel" "reach" "J", Cond.methodLink RL 38 yX0_demand, Cond.instanceMethod yX0_demand, Cond.selects RX0 yX0_demand yX0_demand, Cond.code yX0_demand cX0_demand 2 (some .int), Cond.methodLink RL 41 yX1_demand, Cond.instanceMethod yX1_demand, Cond.selects RX1 yX1_demand yX1_demand, Cond.code yX1_demand cX1_demand 2 (some .int), Cond.methodLink RL 42 yX0_distance, Cond.instanceMethod yX0_distance, Cond.selects RX0 yX0_distance yX0_distance, Cond.code yX0_distance cX0_distance 3 (some .long), Cond.constantLong RX0 88 (-1), Cond.methodLink RX0 90 yX0_gapBetween, Cond.instanceMethod yX0_gapBetween, Cond.selects RX0 yX0_gapBetween yX0_gapBetween, Cond.code yX0_gapBetween cX0_gapBetween 3 (some .long)]
def wsL_law_r7 : List Cond := [Cond.methodLink RX0 150 yX0_gapTo, Cond.instanceMethod yX0_gapTo, Cond.selects RX0 yX0_gapTo yX0_gapTo, Cond.code yX0_gapTo cX0_gapTo 8 (some .long), Cond.methodLink RX0 154 Lib.MathLoose.abs_long.x, Cond.static Lib.MathLoose.abs_long.x, Cond.initialized "java/lang/Math", Cond.code Lib.MathLoose.abs_long.x Lib.MathLoose.abs_long.code 2 (some .long), Cond.methodLink RX0 160 Lib.MathLoose.max_long.x, Cond.static Lib.MathLoose.max_long.x, Cond.code Lib.MathLoose.max_long.x Lib.MathLoose.max_long.code 4 (some .long), Cond.methodLink RL 46 yX1_distance, Cond.instanceMethod yX1_distance, Cond.selects RX1 yX1_distance yX1_distance, Cond.code yX1_distance cX1_distance 3 (some .long), Cond.constantLong RX1 68 (-1), Cond.methodLink RX1 64 yX1_far, Cond.instanceMethod yX1_far, Cond.selects RX1 yX1_far yX1_far, Cond.code yX1_far cX1_far 10 (some .long), Cond.methodLink RL 47 yX0_kind, Cond.instanceMethod yX0_kind, Cond.selects RX0 yX0_kind yX0_kind, Cond.code yX0_kind cX0_kind 2 (some .int)]
def wsL_law_r8 : List Cond := [Cond.methodLink RX0 94 yX0_sortWith, Cond.instanceMethod yX0_sortWith, Cond.selects RX0 yX0_sortWith yX0_sortWith, Cond.code yX0_sortWith cX0_sortWith 3 none, Cond.methodLink RX0 164 yX0_markCores, Cond.instanceMethod yX0_markCores, Cond.selects RX0 yX0_markCores yX0_markCores, Cond.code yX0_markCores cX0_markCores 4 none, Cond.methodLink RX0 102 yX0_weightWithin, Cond.instanceMethod yX0_weightWithin, Cond.selects RX0 yX0_weightWithin yX0_weightWithin, Cond.code yX0_weightWithin cX0_weightWithin 6 (some .int), Cond.methodLink RX0 167 yX0_gatherCrowds, Cond.instanceMethod yX0_gatherCrowds, Cond.selects RX0 yX0_gatherCrowds yX0_gatherCrowds, Cond.code yX0_gatherCrowds cX0_gatherCrowds 4 none, Cond.methodLink RX0 173 yX0_gatherFrom, Cond.instanceMethod yX0_gatherFrom, Cond.selects RX0 yX0_gatherFrom yX0_gatherFrom, Cond.code yX0_gatherFrom cX0_gatherFrom 6 none, Cond.methodLink RX0 177 yX0_leastUnsettledCore, Cond.instanceMethod yX0_leastUnsettledCore, Cond.selects RX0 yX0_leastUnsettledCore yX0_leastUnsettledCore, Cond.code yX0_leastUnsettledCore cX0_leastUnsettledCore 2 (some .int)]
def wsL_law_r9 : List Cond := [Cond.methodLink RX0 180 yX0_gatherCoresNear, Cond.instanceMethod yX0_gatherCoresNear, Cond.selects RX0 yX0_gatherCoresNear yX0_gatherCoresNear, Cond.code yX0_gatherCoresNear cX0_gatherCoresNear 5 none, Cond.methodLink RX0 170 yX0_joinBorders, Cond.instanceMethod yX0_joinBorders, Cond.selects RX0 yX0_joinBorders yX0_joinBorders, Cond.code yX0_joinBorders cX0_joinBorders 4 none, Cond.methodLink RX0 141 yX0_leastCrowdAt, Cond.instanceMethod yX0_leastCrowdAt, Cond.selects RX0 yX0_leastCrowdAt yX0_leastCrowdAt, Cond.code yX0_leastCrowdAt cX0_leastCrowdAt 7 (some .int), Cond.methodLink RX0 98 yX0_kindOf, Cond.instanceMethod yX0_kindOf, Cond.selects RX0 yX0_kindOf yX0_kindOf, Cond.code yX0_kindOf cX0_kindOf 2 (some .int), Cond.methodLink RL 50 yX1_kind, Cond.instanceMethod yX1_kind, Cond.selects RX1 yX1_kind yX1_kind, Cond.code yX1_kind cX1_kind 2 (some .int), Cond.methodLink RX1 85 yX1_find, Cond.instanceMethod yX1_find, Cond.selects RX1 yX1_find yX1_find, Cond.code yX1_find cX1_find 6 none]
def wsL_law_r10 : List Cond := [Cond.fieldLink RX1 70 "PointCrowdsModel" "crowds" "I", Cond.methodLink RX1 73 yX1_weightWithin, Cond.instanceMethod yX1_weightWithin, Cond.selects RX1 yX1_weightWithin yX1_weightWithin, Cond.code yX1_weightWithin cX1_weightWithin 6 (some .int), Cond.methodLink RX1 77 yX1_spread, Cond.instanceMethod yX1_spread, Cond.selects RX1 yX1_spread yX1_spread, Cond.code yX1_spread cX1_spread 6 (some .boolean), Cond.methodLink RX1 81 yX1_least, Cond.instanceMethod yX1_least, Cond.selects RX1 yX1_least yX1_least, Cond.code yX1_least cX1_least 7 (some .int), Cond.methodLink RL 51 yX0_crowd, Cond.instanceMethod yX0_crowd, Cond.selects RX0 yX0_crowd yX0_crowd, Cond.code yX0_crowd cX0_crowd 2 (some .int), Cond.methodLink RL 54 yX1_crowd, Cond.instanceMethod yX1_crowd, Cond.selects RX1 yX1_crowd yX1_crowd, Cond.code yX1_crowd cX1_crowd 2 (some .int), Cond.methodLink RL 55 yX0_count, Cond.instanceMethod yX0_count, Cond.selects RX0 yX0_count yX0_count]
def wsL_law_r11 : List Cond := [Cond.code yX0_count cX0_count 2 (some .int), Cond.methodLink RX0 119 yX0_countKind, Cond.instanceMethod yX0_countKind, Cond.selects RX0 yX0_countKind yX0_countKind, Cond.code yX0_countKind cX0_countKind 4 (some .int), Cond.methodLink RX0 110 yX0_countWeights, Cond.instanceMethod yX0_countWeights, Cond.selects RX0 yX0_countWeights yX0_countWeights, Cond.code yX0_countWeights cX0_countWeights 3 (some .int), Cond.methodLink RL 58 yX1_count, Cond.instanceMethod yX1_count, Cond.selects RX1 yX1_count yX1_count, Cond.code yX1_count cX1_count 6 (some .int), Cond.methodLink RL 59 yX0_about, Cond.instanceMethod yX0_about, Cond.selects RX0 yX0_about yX0_about, Cond.code yX0_about cX0_about 3 (some .int), Cond.methodLink RX0 122 yX0_pointsOf, Cond.instanceMethod yX0_pointsOf, Cond.selects RX0 yX0_pointsOf yX0_pointsOf, Cond.code yX0_pointsOf cX0_pointsOf 4 (some .int), Cond.methodLink RX0 125 yX0_coresOf, Cond.instanceMethod yX0_coresOf, Cond.selects RX0 yX0_coresOf yX0_coresOf]
def wsL_law_r12 : List Cond := [Cond.code yX0_coresOf cX0_coresOf 4 (some .int), Cond.methodLink RX0 128 yX0_weightsOf, Cond.instanceMethod yX0_weightsOf, Cond.selects RX0 yX0_weightsOf yX0_weightsOf, Cond.code yX0_weightsOf cX0_weightsOf 4 (some .int), Cond.methodLink RX0 131 yX0_leastCoreOf, Cond.instanceMethod yX0_leastCoreOf, Cond.selects RX0 yX0_leastCoreOf yX0_leastCoreOf, Cond.code yX0_leastCoreOf cX0_leastCoreOf 3 (some .int), Cond.methodLink RX0 134 yX0_leastOf, Cond.instanceMethod yX0_leastOf, Cond.selects RX0 yX0_leastOf yX0_leastOf, Cond.code yX0_leastOf cX0_leastOf 5 (some .int), Cond.methodLink RX0 183 Lib.Math.min.name, Cond.static Lib.Math.min.name, Cond.code Lib.Math.min.name Lib.Math.min.code 2 (some .int), Cond.methodLink RX0 138 yX0_greatestOf, Cond.instanceMethod yX0_greatestOf, Cond.selects RX0 yX0_greatestOf yX0_greatestOf, Cond.code yX0_greatestOf cX0_greatestOf 5 (some .int), Cond.methodLink RX0 187 Lib.Math.max.name, Cond.static Lib.Math.max.name, Cond.code Lib.Math.max.name Lib.Math.max.code 2 (some .int), Cond.methodLink RL 63 yX1_about]
def wsL_law_r13 : List Cond := [Cond.instanceMethod yX1_about, Cond.selects RX1 yX1_about yX1_about, Cond.code yX1_about cX1_about 12 (some .int), Cond.methodLink RL 64 yX0_around, Cond.instanceMethod yX0_around, Cond.selects RX0 yX0_around yX0_around, Cond.code yX0_around cX0_around 2 (some .int), Cond.methodLink RL 67 yX1_around, Cond.instanceMethod yX1_around, Cond.selects RX1 yX1_around yX1_around, Cond.code yX1_around cX1_around 2 (some .int), Cond.methodLink RL 68 yX0_belongs, Cond.instanceMethod yX0_belongs, Cond.selects RX0 yX0_belongs yX0_belongs, Cond.code yX0_belongs cX0_belongs 3 (some .int), Cond.methodLink RL 71 yX1_belongs, Cond.instanceMethod yX1_belongs, Cond.selects RX1 yX1_belongs yX1_belongs, Cond.code yX1_belongs cX1_belongs 3 (some .int), Cond.methodLink RL 72 yX0_dense, Cond.instanceMethod yX0_dense, Cond.selects RX0 yX0_dense yX0_dense, Cond.code yX0_dense cX0_dense 2 (some .long), Cond.methodLink RX0 106 yX0_leastReachAsCore]
def wsL_law_r14 : List Cond := [Cond.instanceMethod yX0_leastReachAsCore, Cond.selects RX0 yX0_leastReachAsCore yX0_leastReachAsCore, Cond.code yX0_leastReachAsCore cX0_leastReachAsCore 7 (some .long), Cond.methodLink RX0 189 yX0_lastGap, Cond.instanceMethod yX0_lastGap, Cond.selects RX0 yX0_lastGap yX0_lastGap, Cond.code yX0_lastGap cX0_lastGap 2 (some .long), Cond.methodLink RX0 192 yX0_keepNear, Cond.instanceMethod yX0_keepNear, Cond.selects RX0 yX0_keepNear yX0_keepNear, Cond.code yX0_keepNear cX0_keepNear 6 (some .int), Cond.methodLink RL 76 yX1_dense, Cond.instanceMethod yX1_dense, Cond.selects RX1 yX1_dense yX1_dense, Cond.code yX1_dense cX1_dense 2 (some .long), Cond.methodLink RX1 89 yX1_findDense, Cond.instanceMethod yX1_findDense, Cond.selects RX1 yX1_findDense yX1_findDense, Cond.code yX1_findDense cX1_findDense 7 (some .long), Cond.methodLink RL 77 yX0_meet, Cond.instanceMethod yX0_meet, Cond.selects RX0 yX0_meet yX0_meet, Cond.code yX0_meet cX0_meet 3 (some .long), Cond.methodLink RX0 113 yX0_findCoreFrom]
def wsL_law_r15 : List Cond := [Cond.instanceMethod yX0_findCoreFrom, Cond.selects RX0 yX0_findCoreFrom yX0_findCoreFrom, Cond.code yX0_findCoreFrom cX0_findCoreFrom 2 none, Cond.methodLink RX0 116 yX0_leastReachFrom, Cond.instanceMethod yX0_leastReachFrom, Cond.selects RX0 yX0_leastReachFrom yX0_leastReachFrom, Cond.code yX0_leastReachFrom cX0_leastReachFrom 5 (some .long), Cond.constantLong RX0 198 (9223372036854775807), Cond.methodLink RX0 200 yX0_cheapestUnsettled, Cond.instanceMethod yX0_cheapestUnsettled, Cond.selects RX0 yX0_cheapestUnsettled yX0_cheapestUnsettled, Cond.code yX0_cheapestUnsettled cX0_cheapestUnsettled 3 (some .int), Cond.methodLink RX0 203 yX0_reachOnFrom, Cond.instanceMethod yX0_reachOnFrom, Cond.selects RX0 yX0_reachOnFrom yX0_reachOnFrom, Cond.code yX0_reachOnFrom cX0_reachOnFrom 5 none, Cond.methodLink RX0 207 Lib.MathLoose.min_long.x, Cond.static Lib.MathLoose.min_long.x, Cond.code Lib.MathLoose.min_long.x Lib.MathLoose.min_long.code 4 (some .long), Cond.methodLink RL 80 yX1_meet, Cond.instanceMethod yX1_meet, Cond.selects RX1 yX1_meet yX1_meet, Cond.code yX1_meet cX1_meet 8 (some .long), Cond.methodLink RX1 93 yX1_greater]
def wsL_law_r16 : List Cond := [Cond.static yX1_greater, Cond.code yX1_greater cX1_greater 4 (some .long), Cond.methodLink RL 81 yX0_crowds, Cond.instanceMethod yX0_crowds, Cond.selects RX0 yX0_crowds yX0_crowds, Cond.code yX0_crowds cX0_crowds 3 (some .int), Cond.methodLink RL 84 yX1_crowds, Cond.instanceMethod yX1_crowds, Cond.selects RX1 yX1_crowds yX1_crowds, Cond.code yX1_crowds cX1_crowds 3 (some .int), Cond.methodLink RL 85 yX0_check, Cond.instanceMethod yX0_check, Cond.selects RX0 yX0_check yX0_check, Cond.code yX0_check cX0_check 2 (some .int), Cond.methodLink RX0 145 yX0_standsRight, Cond.instanceMethod yX0_standsRight, Cond.selects RX0 yX0_standsRight yX0_standsRight, Cond.code yX0_standsRight cX0_standsRight 6 (some .boolean), Cond.methodLink RL 89 yX1_check, Cond.instanceMethod yX1_check, Cond.selects RX1 yX1_check yX1_check, Cond.code yX1_check cX1_check 1 (some .int)]
def wsL_law : List Cond := (wsL_law_r1 ++ (wsL_law_r2 ++ (wsL_law_r3 ++ (wsL_law_r4 ++ (wsL_law_r5 ++ (wsL_law_r6 ++ (wsL_law_r7 ++ (wsL_law_r8 ++ (wsL_law_r9 ++ (wsL_law_r10 ++ (wsL_law_r11 ++ (wsL_law_r12 ++ (wsL_law_r13 ++ (wsL_law_r14 ++ (wsL_law_r15 ++ wsL_law_r16))))))))))))))) ++ wsX00 ++ wsX10 ++ ([] : List Cond)
theorem inlX0 : ∀ w ∈ wsX00, w ∈ wsL_law := fun _ h => List.mem_append_left _ (List.mem_append_left _ (List.mem_append_right _ h))
theorem inlX1 : ∀ w ∈ wsX10, w ∈ wsL_law := fun _ h => List.mem_append_left _ (List.mem_append_right _ h)
abbrev vwCl : List vw_C := [(RX0, TX0, 17), (RX1, TX1, 13)]
/-- the objects of PointCrowds, kind 0: what each holds, by its address -/
theorem inr1 : ∀ w ∈ wsL_law_r1, w ∈ wsL_law := fun w h => List.mem_append_left _ (List.mem_append_left _ (List.mem_append_left _ (List.mem_append_left _ h)))
theorem inr2 : ∀ w ∈ wsL_law_r2, w ∈ wsL_law := fun w h => List.mem_append_left _ (List.mem_append_left _ (List.mem_append_left _ (List.mem_append_right _ (List.mem_append_left _ h))))
theorem inr3 : ∀ w ∈ wsL_law_r3, w ∈ wsL_law := fun w h => List.mem_append_left _ (List.mem_append_left _ (List.mem_append_left _ (List.mem_append_right _ (List.mem_append_right _ (List.mem_append_left _ h)))))
theorem inr4 : ∀ w ∈ wsL_law_r4, w ∈ wsL_law := fun w h => List.mem_append_left _ (List.mem_append_left _ (List.mem_append_left _ (List.mem_append_right _ (List.mem_append_right _ (List.mem_append_right _ (List.mem_append_left _ h))))))
theorem inr5 : ∀ w ∈ wsL_law_r5, w ∈ wsL_law := fun w h => List.mem_append_left _ (List.mem_append_left _ (List.mem_append_left _ (List.mem_append_right _ (List.mem_append_right _ (List.mem_append_right _ (List.mem_append_right _ (List.mem_append_left _ h)))))))
theorem inr6 : ∀ w ∈ wsL_law_r6, w ∈ wsL_law := fun w h => List.mem_append_left _ (List.mem_append_left _ (List.mem_append_left _ (List.mem_append_right _ (List.mem_append_right _ (List.mem_append_right _ (List.mem_append_right _ (List.mem_append_right _ (List.mem_append_left _ h))))))))
theorem inr7 : ∀ w ∈ wsL_law_r7, w ∈ wsL_law := fun w h => List.mem_append_left _ (List.mem_append_left _ (List.mem_append_left _ (List.mem_append_right _ (List.mem_append_right _ (List.mem_append_right _ (List.mem_append_right _ (List.mem_append_right _ (List.mem_append_right _ (List.mem_append_left _ h)))))))))
theorem inr8 : ∀ w ∈ wsL_law_r8, w ∈ wsL_law := fun w h => List.mem_append_left _ (List.mem_append_left _ (List.mem_append_left _ (List.mem_append_right _ (List.mem_append_right _ (List.mem_append_right _ (List.mem_append_right _ (List.mem_append_right _ (List.mem_append_right _ (List.mem_append_right _ (List.mem_append_left _ h))))))))))
theorem inr9 : ∀ w ∈ wsL_law_r9, w ∈ wsL_law := fun w h => List.mem_append_left _ (List.mem_append_left _ (List.mem_append_left _ (List.mem_append_right _ (List.mem_append_right _ (List.mem_append_right _ (List.mem_append_right _ (List.mem_append_right _ (List.mem_append_right _ (List.mem_append_right _ (List.mem_append_right _ (List.mem_append_left _ h)))))))))))
theorem inr10 : ∀ w ∈ wsL_law_r10, w ∈ wsL_law := fun w h => List.mem_append_left _ (List.mem_append_left _ (List.mem_append_left _ (List.mem_append_right _ (List.mem_append_right _ (List.mem_append_right _ (List.mem_append_right _ (List.mem_append_right _ (List.mem_append_right _ (List.mem_append_right _ (List.mem_append_right _ (List.mem_append_right _ (List.mem_append_left _ h))))))))))))
theorem inr11 : ∀ w ∈ wsL_law_r11, w ∈ wsL_law := fun w h => List.mem_append_left _ (List.mem_append_left _ (List.mem_append_left _ (List.mem_append_right _ (List.mem_append_right _ (List.mem_append_right _ (List.mem_append_right _ (List.mem_append_right _ (List.mem_append_right _ (List.mem_append_right _ (List.mem_append_right _ (List.mem_append_right _ (List.mem_append_right _ (List.mem_append_left _ h)))))))))))))
theorem inr12 : ∀ w ∈ wsL_law_r12, w ∈ wsL_law := fun w h => List.mem_append_left _ (List.mem_append_left _ (List.mem_append_left _ (List.mem_append_right _ (List.mem_append_right _ (List.mem_append_right _ (List.mem_append_right _ (List.mem_append_right _ (List.mem_append_right _ (List.mem_append_right _ (List.mem_append_right _ (List.mem_append_right _ (List.mem_append_right _ (List.mem_append_right _ (List.mem_append_left _ h))))))))))))))
theorem inr13 : ∀ w ∈ wsL_law_r13, w ∈ wsL_law := fun w h => List.mem_append_left _ (List.mem_append_left _ (List.mem_append_left _ (List.mem_append_right _ (List.mem_append_right _ (List.mem_append_right _ (List.mem_append_right _ (List.mem_append_right _ (List.mem_append_right _ (List.mem_append_right _ (List.mem_append_right _ (List.mem_append_right _ (List.mem_append_right _ (List.mem_append_right _ (List.mem_append_right _ (List.mem_append_left _ h)))))))))))))))
theorem inr14 : ∀ w ∈ wsL_law_r14, w ∈ wsL_law := fun w h => List.mem_append_left _ (List.mem_append_left _ (List.mem_append_left _ (List.mem_append_right _ (List.mem_append_right _ (List.mem_append_right _ (List.mem_append_right _ (List.mem_append_right _ (List.mem_append_right _ (List.mem_append_right _ (List.mem_append_right _ (List.mem_append_right _ (List.mem_append_right _ (List.mem_append_right _ (List.mem_append_right _ (List.mem_append_right _ (List.mem_append_left _ h))))))))))))))))
theorem inr15 : ∀ w ∈ wsL_law_r15, w ∈ wsL_law := fun w h => List.mem_append_left _ (List.mem_append_left _ (List.mem_append_left _ (List.mem_append_right _ (List.mem_append_right _ (List.mem_append_right _ (List.mem_append_right _ (List.mem_append_right _ (List.mem_append_right _ (List.mem_append_right _ (List.mem_append_right _ (List.mem_append_right _ (List.mem_append_right _ (List.mem_append_right _ (List.mem_append_right _ (List.mem_append_right _ (List.mem_append_right _ (List.mem_append_left _ h)))))))))))))))))
theorem inr16 : ∀ w ∈ wsL_law_r16, w ∈ wsL_law := fun w h => List.mem_append_left _ (List.mem_append_left _ (List.mem_append_left _ (List.mem_append_right _ (List.mem_append_right _ (List.mem_append_right _ (List.mem_append_right _ (List.mem_append_right _ (List.mem_append_right _ (List.mem_append_right _ (List.mem_append_right _ (List.mem_append_right _ (List.mem_append_right _ (List.mem_append_right _ (List.mem_append_right _ (List.mem_append_right _ (List.mem_append_right _ (List.mem_append_right _ h)))))))))))))))))
theorem allGood : ∀ w ∈ wsL_law, (w.onTables && w.keeps) = true ∨ ∃ ty, w = .arrayClass ty := fun w h => good_of_word (List.all_eq_true.mp (show wsL_law.all goodWord = true by decide +kernel) w h)
theorem mkGood {c0 : Cond} {own C : String} {i L : Nat} {y : MethodName} {b : ByteArray} {r : Option FieldType} (h1 : Cond.methodLink own i y ∈ wsL_law) (h2 : Cond.instanceMethod y ∈ wsL_law) (h3 : Cond.selects C y y ∈ wsL_law) (h4 : Cond.initialized C ∈ wsL_law) (h5 : Cond.code y b L r ∈ wsL_law) : GoodIn (c0 :: wsL_law) (wsV own i C y (Cond.code y b L r :: wsL_law)) := by
  intro w hw
  have key : w ∈ wsL_law := by
    unfold wsV at hw
    rcases List.mem_append.mp hw with hw | hw
    · simp only [List.mem_cons, List.not_mem_nil, or_false] at hw
      rcases hw with rfl | rfl | rfl | rfl
      · exact h1
      · exact h2
      · exact h3
      · exact h4
    · rcases List.mem_cons.mp hw with rfl | hw
      · exact h5
      · exact hw
  exact ⟨List.mem_cons_of_mem _ key, allGood w key⟩
theorem mkGoodS {c0 : Cond} {own : String} {i L : Nat} {y : MethodName} {b : ByteArray} {r : Option FieldType} (h1 : Cond.methodLink own i y ∈ wsL_law) (h2 : Cond.static y ∈ wsL_law) (h4 : Cond.initialized own ∈ wsL_law) (h5 : Cond.code y b L r ∈ wsL_law) : GoodIn (c0 :: wsL_law) (wsS own i y (Cond.code y b L r :: wsL_law)) := by
  intro w hw
  have key : w ∈ wsL_law := by
    unfold wsS at hw
    rcases List.mem_append.mp hw with hw | hw
    · simp only [List.mem_cons, List.not_mem_nil, or_false] at hw
      rcases hw with rfl | rfl | rfl
      · exact h1
      · exact h2
      · exact h4
    · rcases List.mem_cons.mp hw with rfl | hw
      · exact h5
      · exact hw
  exact ⟨List.mem_cons_of_mem _ key, allGood w key⟩
theorem mw1_0 : Cond.classLink RL 7 RX0 ∈ wsL_law := inr1 _ (List.mem_of_getElem? (i := 0) rfl)
theorem mw1_1 : Cond.instantiable RX0 17 ∈ wsL_law := inr1 _ (List.mem_of_getElem? (i := 1) rfl)
theorem mw1_2 : Cond.initialized RX0 ∈ wsL_law := inr1 _ (List.mem_of_getElem? (i := 2) rfl)
theorem mw1_3 : Cond.classLink RL 10 RX1 ∈ wsL_law := inr1 _ (List.mem_of_getElem? (i := 3) rfl)
theorem mw1_4 : Cond.instantiable RX1 13 ∈ wsL_law := inr1 _ (List.mem_of_getElem? (i := 4) rfl)
theorem mw1_5 : Cond.initialized RX1 ∈ wsL_law := inr1 _ (List.mem_of_getElem? (i := 5) rfl)
theorem mw1_6 : Cond.constantLong RL 31 (4294967295) ∈ wsL_law := inr1 _ (List.mem_of_getElem? (i := 6) rfl)
theorem mw1_7 : Cond.methodLink RL 9 yX0_init ∈ wsL_law := inr1 _ (List.mem_of_getElem? (i := 7) rfl)
theorem mw1_8 : Cond.instanceMethod yX0_init ∈ wsL_law := inr1 _ (List.mem_of_getElem? (i := 8) rfl)
theorem mw1_9 : Cond.code yX0_init cX0_init 1 none ∈ wsL_law := inr1 _ (List.mem_of_getElem? (i := 9) rfl)
theorem mw1_10 : Cond.methodLink RX0 3 objectInit ∈ wsL_law := inr1 _ (List.mem_of_getElem? (i := 10) rfl)
theorem mw1_11 : Cond.instanceMethod objectInit ∈ wsL_law := inr1 _ (List.mem_of_getElem? (i := 11) rfl)
theorem mw1_12 : Cond.code objectInit ⟨#[0xb1]⟩ 1 none ∈ wsL_law := inr1 _ (List.mem_of_getElem? (i := 12) rfl)
theorem mw1_13 : Cond.arrayClass .int ∈ wsL_law := inr1 _ (List.mem_of_getElem? (i := 13) rfl)
theorem mw1_14 : Cond.fieldLink RX0 9 "PointCrowds" "weights" "[I" ∈ wsL_law := inr1 _ (List.mem_of_getElem? (i := 14) rfl)
theorem mw1_15 : Cond.fieldLink RX0 13 "PointCrowds" "xs" "[I" ∈ wsL_law := inr1 _ (List.mem_of_getElem? (i := 15) rfl)
theorem mw1_16 : Cond.fieldLink RX0 16 "PointCrowds" "ys" "[I" ∈ wsL_law := inr1 _ (List.mem_of_getElem? (i := 16) rfl)
theorem mw1_17 : Cond.fieldLink RX0 19 "PointCrowds" "wayNow" "I" ∈ wsL_law := inr1 _ (List.mem_of_getElem? (i := 17) rfl)
theorem mw1_18 : Cond.fieldLink RX0 23 "PointCrowds" "reachNow" "J" ∈ wsL_law := inr1 _ (List.mem_of_getElem? (i := 18) rfl)
theorem mw1_19 : Cond.fieldLink RX0 27 "PointCrowds" "demandNow" "I" ∈ wsL_law := inr1 _ (List.mem_of_getElem? (i := 19) rfl)
theorem mw1_20 : Cond.arrayClass .boolean ∈ wsL_law := inr1 _ (List.mem_of_getElem? (i := 20) rfl)
theorem mw1_21 : Cond.fieldLink RX0 30 "PointCrowds" "core" "[Z" ∈ wsL_law := inr1 _ (List.mem_of_getElem? (i := 21) rfl)
theorem mw1_22 : Cond.fieldLink RX0 34 "PointCrowds" "crowdOf" "[I" ∈ wsL_law := inr1 _ (List.mem_of_getElem? (i := 22) rfl)
theorem mw1_23 : Cond.fieldLink RX0 37 "PointCrowds" "crowdCount" "I" ∈ wsL_law := inr1 _ (List.mem_of_getElem? (i := 23) rfl)
theorem mw2_0 : Cond.fieldLink RX0 40 "PointCrowds" "sortedReach" "J" ∈ wsL_law := inr2 _ (List.mem_of_getElem? (i := 0) rfl)
theorem mw2_1 : Cond.fieldLink RX0 43 "PointCrowds" "sorted" "Z" ∈ wsL_law := inr2 _ (List.mem_of_getElem? (i := 1) rfl)
theorem mw2_2 : Cond.arrayClass .long ∈ wsL_law := inr2 _ (List.mem_of_getElem? (i := 2) rfl)
theorem mw2_3 : Cond.fieldLink RX0 47 "PointCrowds" "coreFrom" "[J" ∈ wsL_law := inr2 _ (List.mem_of_getElem? (i := 3) rfl)
theorem mw2_4 : Cond.fieldLink RX0 51 "PointCrowds" "coreFromKnown" "Z" ∈ wsL_law := inr2 _ (List.mem_of_getElem? (i := 4) rfl)
theorem mw2_5 : Cond.fieldLink RX0 54 "PointCrowds" "nearGap" "[J" ∈ wsL_law := inr2 _ (List.mem_of_getElem? (i := 5) rfl)
theorem mw2_6 : Cond.fieldLink RX0 57 "PointCrowds" "nearWeight" "[I" ∈ wsL_law := inr2 _ (List.mem_of_getElem? (i := 6) rfl)
theorem mw2_7 : Cond.fieldLink RX0 60 "PointCrowds" "cost" "[J" ∈ wsL_law := inr2 _ (List.mem_of_getElem? (i := 7) rfl)
theorem mw2_8 : Cond.fieldLink RX0 63 "PointCrowds" "settled" "[Z" ∈ wsL_law := inr2 _ (List.mem_of_getElem? (i := 8) rfl)
theorem mw2_9 : Cond.methodLink RL 12 yX1_init ∈ wsL_law := inr2 _ (List.mem_of_getElem? (i := 9) rfl)
theorem mw2_10 : Cond.instanceMethod yX1_init ∈ wsL_law := inr2 _ (List.mem_of_getElem? (i := 10) rfl)
theorem mw2_11 : Cond.code yX1_init cX1_init 1 none ∈ wsL_law := inr2 _ (List.mem_of_getElem? (i := 11) rfl)
theorem mw2_12 : Cond.methodLink RX1 1 objectInit ∈ wsL_law := inr2 _ (List.mem_of_getElem? (i := 12) rfl)
theorem mw2_13 : Cond.fieldLink RX1 7 "PointCrowdsModel" "is" "[Z" ∈ wsL_law := inr2 _ (List.mem_of_getElem? (i := 13) rfl)
theorem mw2_14 : Cond.fieldLink RX1 13 "PointCrowdsModel" "xs" "[I" ∈ wsL_law := inr2 _ (List.mem_of_getElem? (i := 14) rfl)
theorem mw2_15 : Cond.fieldLink RX1 17 "PointCrowdsModel" "ys" "[I" ∈ wsL_law := inr2 _ (List.mem_of_getElem? (i := 15) rfl)
theorem mw2_16 : Cond.fieldLink RX1 20 "PointCrowdsModel" "weights" "[I" ∈ wsL_law := inr2 _ (List.mem_of_getElem? (i := 16) rfl)
theorem mw2_17 : Cond.fieldLink RX1 23 "PointCrowdsModel" "demand" "I" ∈ wsL_law := inr2 _ (List.mem_of_getElem? (i := 17) rfl)
theorem mw2_18 : Cond.fieldLink RX1 27 "PointCrowdsModel" "core" "[Z" ∈ wsL_law := inr2 _ (List.mem_of_getElem? (i := 18) rfl)
theorem mw2_19 : Cond.fieldLink RX1 30 "PointCrowdsModel" "crowdOf" "[I" ∈ wsL_law := inr2 _ (List.mem_of_getElem? (i := 19) rfl)
theorem mw2_20 : Cond.fieldLink RX1 33 "PointCrowdsModel" "done" "[Z" ∈ wsL_law := inr2 _ (List.mem_of_getElem? (i := 20) rfl)
theorem mw2_21 : Cond.fieldLink RX1 36 "PointCrowdsModel" "cost" "[J" ∈ wsL_law := inr2 _ (List.mem_of_getElem? (i := 21) rfl)
theorem mw2_22 : Cond.fieldLink RX1 40 "PointCrowdsModel" "denseOf" "[J" ∈ wsL_law := inr2 _ (List.mem_of_getElem? (i := 22) rfl)
theorem mw2_23 : Cond.methodLink RL 13 yX0_point ∈ wsL_law := inr2 _ (List.mem_of_getElem? (i := 23) rfl)
theorem mw3_0 : Cond.instanceMethod yX0_point ∈ wsL_law := inr3 _ (List.mem_of_getElem? (i := 0) rfl)
theorem mw3_1 : Cond.selects RX0 yX0_point yX0_point ∈ wsL_law := inr3 _ (List.mem_of_getElem? (i := 1) rfl)
theorem mw3_2 : Cond.code yX0_point cX0_point 5 (some .int) ∈ wsL_law := inr3 _ (List.mem_of_getElem? (i := 2) rfl)
theorem mw3_3 : Cond.methodLink RX0 66 yX0_isPlace ∈ wsL_law := inr3 _ (List.mem_of_getElem? (i := 3) rfl)
theorem mw3_4 : Cond.static yX0_isPlace ∈ wsL_law := inr3 _ (List.mem_of_getElem? (i := 4) rfl)
theorem mw3_5 : Cond.code yX0_isPlace cX0_isPlace 2 (some .boolean) ∈ wsL_law := inr3 _ (List.mem_of_getElem? (i := 5) rfl)
theorem mw3_6 : Cond.constant RX0 148 (-1073741823) ∈ wsL_law := inr3 _ (List.mem_of_getElem? (i := 6) rfl)
theorem mw3_7 : Cond.constant RX0 149 (1073741823) ∈ wsL_law := inr3 _ (List.mem_of_getElem? (i := 7) rfl)
theorem mw3_8 : Cond.methodLink RX0 70 yX0_leastFree ∈ wsL_law := inr3 _ (List.mem_of_getElem? (i := 8) rfl)
theorem mw3_9 : Cond.instanceMethod yX0_leastFree ∈ wsL_law := inr3 _ (List.mem_of_getElem? (i := 9) rfl)
theorem mw3_10 : Cond.selects RX0 yX0_leastFree yX0_leastFree ∈ wsL_law := inr3 _ (List.mem_of_getElem? (i := 10) rfl)
theorem mw3_11 : Cond.code yX0_leastFree cX0_leastFree 2 (some .int) ∈ wsL_law := inr3 _ (List.mem_of_getElem? (i := 11) rfl)
theorem mw3_12 : Cond.methodLink RX0 74 yX0_put ∈ wsL_law := inr3 _ (List.mem_of_getElem? (i := 12) rfl)
theorem mw3_13 : Cond.instanceMethod yX0_put ∈ wsL_law := inr3 _ (List.mem_of_getElem? (i := 13) rfl)
theorem mw3_14 : Cond.selects RX0 yX0_put yX0_put ∈ wsL_law := inr3 _ (List.mem_of_getElem? (i := 14) rfl)
theorem mw3_15 : Cond.code yX0_put cX0_put 4 none ∈ wsL_law := inr3 _ (List.mem_of_getElem? (i := 15) rfl)
theorem mw3_16 : Cond.methodLink RX0 82 yX0_forget ∈ wsL_law := inr3 _ (List.mem_of_getElem? (i := 16) rfl)
theorem mw3_17 : Cond.instanceMethod yX0_forget ∈ wsL_law := inr3 _ (List.mem_of_getElem? (i := 17) rfl)
theorem mw3_18 : Cond.selects RX0 yX0_forget yX0_forget ∈ wsL_law := inr3 _ (List.mem_of_getElem? (i := 18) rfl)
theorem mw3_19 : Cond.code yX0_forget cX0_forget 1 none ∈ wsL_law := inr3 _ (List.mem_of_getElem? (i := 19) rfl)
theorem mw3_20 : Cond.methodLink RL 17 yX1_point ∈ wsL_law := inr3 _ (List.mem_of_getElem? (i := 20) rfl)
theorem mw3_21 : Cond.instanceMethod yX1_point ∈ wsL_law := inr3 _ (List.mem_of_getElem? (i := 21) rfl)
theorem mw3_22 : Cond.selects RX1 yX1_point yX1_point ∈ wsL_law := inr3 _ (List.mem_of_getElem? (i := 22) rfl)
theorem mw3_23 : Cond.code yX1_point cX1_point 5 (some .int) ∈ wsL_law := inr3 _ (List.mem_of_getElem? (i := 23) rfl)
theorem mw4_0 : Cond.methodLink RX1 45 yX1_isPlace ∈ wsL_law := inr4 _ (List.mem_of_getElem? (i := 0) rfl)
theorem mw4_1 : Cond.static yX1_isPlace ∈ wsL_law := inr4 _ (List.mem_of_getElem? (i := 1) rfl)
theorem mw4_2 : Cond.code yX1_isPlace cX1_isPlace 2 (some .boolean) ∈ wsL_law := inr4 _ (List.mem_of_getElem? (i := 2) rfl)
theorem mw4_3 : Cond.constant RX1 43 (-1073741823) ∈ wsL_law := inr4 _ (List.mem_of_getElem? (i := 3) rfl)
theorem mw4_4 : Cond.constant RX1 44 (1073741823) ∈ wsL_law := inr4 _ (List.mem_of_getElem? (i := 4) rfl)
theorem mw4_5 : Cond.methodLink RL 18 yX0_remove ∈ wsL_law := inr4 _ (List.mem_of_getElem? (i := 5) rfl)
theorem mw4_6 : Cond.instanceMethod yX0_remove ∈ wsL_law := inr4 _ (List.mem_of_getElem? (i := 6) rfl)
theorem mw4_7 : Cond.selects RX0 yX0_remove yX0_remove ∈ wsL_law := inr4 _ (List.mem_of_getElem? (i := 7) rfl)
theorem mw4_8 : Cond.code yX0_remove cX0_remove 2 (some .int) ∈ wsL_law := inr4 _ (List.mem_of_getElem? (i := 8) rfl)
theorem mw4_9 : Cond.methodLink RX0 78 yX0_isPoint ∈ wsL_law := inr4 _ (List.mem_of_getElem? (i := 9) rfl)
theorem mw4_10 : Cond.instanceMethod yX0_isPoint ∈ wsL_law := inr4 _ (List.mem_of_getElem? (i := 10) rfl)
theorem mw4_11 : Cond.selects RX0 yX0_isPoint yX0_isPoint ∈ wsL_law := inr4 _ (List.mem_of_getElem? (i := 11) rfl)
theorem mw4_12 : Cond.code yX0_isPoint cX0_isPoint 2 (some .boolean) ∈ wsL_law := inr4 _ (List.mem_of_getElem? (i := 12) rfl)
theorem mw4_13 : Cond.methodLink RX0 85 yX0_countPoints ∈ wsL_law := inr4 _ (List.mem_of_getElem? (i := 13) rfl)
theorem mw4_14 : Cond.instanceMethod yX0_countPoints ∈ wsL_law := inr4 _ (List.mem_of_getElem? (i := 14) rfl)
theorem mw4_15 : Cond.selects RX0 yX0_countPoints yX0_countPoints ∈ wsL_law := inr4 _ (List.mem_of_getElem? (i := 15) rfl)
theorem mw4_16 : Cond.code yX0_countPoints cX0_countPoints 3 (some .int) ∈ wsL_law := inr4 _ (List.mem_of_getElem? (i := 16) rfl)
theorem mw4_17 : Cond.methodLink RL 22 yX1_remove ∈ wsL_law := inr4 _ (List.mem_of_getElem? (i := 17) rfl)
theorem mw4_18 : Cond.instanceMethod yX1_remove ∈ wsL_law := inr4 _ (List.mem_of_getElem? (i := 18) rfl)
theorem mw4_19 : Cond.selects RX1 yX1_remove yX1_remove ∈ wsL_law := inr4 _ (List.mem_of_getElem? (i := 19) rfl)
theorem mw4_20 : Cond.code yX1_remove cX1_remove 2 (some .int) ∈ wsL_law := inr4 _ (List.mem_of_getElem? (i := 20) rfl)
theorem mw4_21 : Cond.methodLink RX1 49 yX1_isPoint ∈ wsL_law := inr4 _ (List.mem_of_getElem? (i := 21) rfl)
theorem mw4_22 : Cond.instanceMethod yX1_isPoint ∈ wsL_law := inr4 _ (List.mem_of_getElem? (i := 22) rfl)
theorem mw4_23 : Cond.selects RX1 yX1_isPoint yX1_isPoint ∈ wsL_law := inr4 _ (List.mem_of_getElem? (i := 23) rfl)
theorem mw5_0 : Cond.code yX1_isPoint cX1_isPoint 2 (some .boolean) ∈ wsL_law := inr5 _ (List.mem_of_getElem? (i := 0) rfl)
theorem mw5_1 : Cond.methodLink RX1 53 yX1_points ∈ wsL_law := inr5 _ (List.mem_of_getElem? (i := 1) rfl)
theorem mw5_2 : Cond.instanceMethod yX1_points ∈ wsL_law := inr5 _ (List.mem_of_getElem? (i := 2) rfl)
theorem mw5_3 : Cond.selects RX1 yX1_points yX1_points ∈ wsL_law := inr5 _ (List.mem_of_getElem? (i := 3) rfl)
theorem mw5_4 : Cond.code yX1_points cX1_points 3 (some .int) ∈ wsL_law := inr5 _ (List.mem_of_getElem? (i := 4) rfl)
theorem mw5_5 : Cond.methodLink RL 23 yX0_move ∈ wsL_law := inr5 _ (List.mem_of_getElem? (i := 5) rfl)
theorem mw5_6 : Cond.instanceMethod yX0_move ∈ wsL_law := inr5 _ (List.mem_of_getElem? (i := 6) rfl)
theorem mw5_7 : Cond.selects RX0 yX0_move yX0_move ∈ wsL_law := inr5 _ (List.mem_of_getElem? (i := 7) rfl)
theorem mw5_8 : Cond.code yX0_move cX0_move 4 (some .int) ∈ wsL_law := inr5 _ (List.mem_of_getElem? (i := 8) rfl)
theorem mw5_9 : Cond.methodLink RL 26 yX1_move ∈ wsL_law := inr5 _ (List.mem_of_getElem? (i := 9) rfl)
theorem mw5_10 : Cond.instanceMethod yX1_move ∈ wsL_law := inr5 _ (List.mem_of_getElem? (i := 10) rfl)
theorem mw5_11 : Cond.selects RX1 yX1_move yX1_move ∈ wsL_law := inr5 _ (List.mem_of_getElem? (i := 11) rfl)
theorem mw5_12 : Cond.code yX1_move cX1_move 4 (some .int) ∈ wsL_law := inr5 _ (List.mem_of_getElem? (i := 12) rfl)
theorem mw5_13 : Cond.methodLink RL 27 yX0_way ∈ wsL_law := inr5 _ (List.mem_of_getElem? (i := 13) rfl)
theorem mw5_14 : Cond.instanceMethod yX0_way ∈ wsL_law := inr5 _ (List.mem_of_getElem? (i := 14) rfl)
theorem mw5_15 : Cond.selects RX0 yX0_way yX0_way ∈ wsL_law := inr5 _ (List.mem_of_getElem? (i := 15) rfl)
theorem mw5_16 : Cond.code yX0_way cX0_way 2 (some .int) ∈ wsL_law := inr5 _ (List.mem_of_getElem? (i := 16) rfl)
theorem mw5_17 : Cond.methodLink RL 30 yX1_way ∈ wsL_law := inr5 _ (List.mem_of_getElem? (i := 17) rfl)
theorem mw5_18 : Cond.instanceMethod yX1_way ∈ wsL_law := inr5 _ (List.mem_of_getElem? (i := 18) rfl)
theorem mw5_19 : Cond.selects RX1 yX1_way yX1_way ∈ wsL_law := inr5 _ (List.mem_of_getElem? (i := 19) rfl)
theorem mw5_20 : Cond.code yX1_way cX1_way 2 (some .int) ∈ wsL_law := inr5 _ (List.mem_of_getElem? (i := 20) rfl)
theorem mw5_21 : Cond.fieldLink RX1 57 "PointCrowdsModel" "way" "I" ∈ wsL_law := inr5 _ (List.mem_of_getElem? (i := 21) rfl)
theorem mw5_22 : Cond.methodLink RL 33 yX0_reach ∈ wsL_law := inr5 _ (List.mem_of_getElem? (i := 22) rfl)
theorem mw5_23 : Cond.instanceMethod yX0_reach ∈ wsL_law := inr5 _ (List.mem_of_getElem? (i := 23) rfl)
theorem mw6_0 : Cond.selects RX0 yX0_reach yX0_reach ∈ wsL_law := inr6 _ (List.mem_of_getElem? (i := 0) rfl)
theorem mw6_1 : Cond.code yX0_reach cX0_reach 3 (some .int) ∈ wsL_law := inr6 _ (List.mem_of_getElem? (i := 1) rfl)
theorem mw6_2 : Cond.methodLink RL 37 yX1_reach ∈ wsL_law := inr6 _ (List.mem_of_getElem? (i := 2) rfl)
theorem mw6_3 : Cond.instanceMethod yX1_reach ∈ wsL_law := inr6 _ (List.mem_of_getElem? (i := 3) rfl)
theorem mw6_4 : Cond.selects RX1 yX1_reach yX1_reach ∈ wsL_law := inr6 _ (List.mem_of_getElem? (i := 4) rfl)
theorem mw6_5 : Cond.code yX1_reach cX1_reach 3 (some .int) ∈ wsL_law := inr6 _ (List.mem_of_getElem? (i := 5) rfl)
theorem mw6_6 : Cond.fieldLink RX1 60 "PointCrowdsModel" "reach" "J" ∈ wsL_law := inr6 _ (List.mem_of_getElem? (i := 6) rfl)
theorem mw6_7 : Cond.methodLink RL 38 yX0_demand ∈ wsL_law := inr6 _ (List.mem_of_getElem? (i := 7) rfl)
theorem mw6_8 : Cond.instanceMethod yX0_demand ∈ wsL_law := inr6 _ (List.mem_of_getElem? (i := 8) rfl)
theorem mw6_9 : Cond.selects RX0 yX0_demand yX0_demand ∈ wsL_law := inr6 _ (List.mem_of_getElem? (i := 9) rfl)
theorem mw6_10 : Cond.code yX0_demand cX0_demand 2 (some .int) ∈ wsL_law := inr6 _ (List.mem_of_getElem? (i := 10) rfl)
theorem mw6_11 : Cond.methodLink RL 41 yX1_demand ∈ wsL_law := inr6 _ (List.mem_of_getElem? (i := 11) rfl)
theorem mw6_12 : Cond.instanceMethod yX1_demand ∈ wsL_law := inr6 _ (List.mem_of_getElem? (i := 12) rfl)
theorem mw6_13 : Cond.selects RX1 yX1_demand yX1_demand ∈ wsL_law := inr6 _ (List.mem_of_getElem? (i := 13) rfl)
theorem mw6_14 : Cond.code yX1_demand cX1_demand 2 (some .int) ∈ wsL_law := inr6 _ (List.mem_of_getElem? (i := 14) rfl)
theorem mw6_15 : Cond.methodLink RL 42 yX0_distance ∈ wsL_law := inr6 _ (List.mem_of_getElem? (i := 15) rfl)
theorem mw6_16 : Cond.instanceMethod yX0_distance ∈ wsL_law := inr6 _ (List.mem_of_getElem? (i := 16) rfl)
theorem mw6_17 : Cond.selects RX0 yX0_distance yX0_distance ∈ wsL_law := inr6 _ (List.mem_of_getElem? (i := 17) rfl)
theorem mw6_18 : Cond.code yX0_distance cX0_distance 3 (some .long) ∈ wsL_law := inr6 _ (List.mem_of_getElem? (i := 18) rfl)
theorem mw6_19 : Cond.constantLong RX0 88 (-1) ∈ wsL_law := inr6 _ (List.mem_of_getElem? (i := 19) rfl)
theorem mw6_20 : Cond.methodLink RX0 90 yX0_gapBetween ∈ wsL_law := inr6 _ (List.mem_of_getElem? (i := 20) rfl)
theorem mw6_21 : Cond.instanceMethod yX0_gapBetween ∈ wsL_law := inr6 _ (List.mem_of_getElem? (i := 21) rfl)
theorem mw6_22 : Cond.selects RX0 yX0_gapBetween yX0_gapBetween ∈ wsL_law := inr6 _ (List.mem_of_getElem? (i := 22) rfl)
theorem mw6_23 : Cond.code yX0_gapBetween cX0_gapBetween 3 (some .long) ∈ wsL_law := inr6 _ (List.mem_of_getElem? (i := 23) rfl)
theorem mw7_0 : Cond.methodLink RX0 150 yX0_gapTo ∈ wsL_law := inr7 _ (List.mem_of_getElem? (i := 0) rfl)
theorem mw7_1 : Cond.instanceMethod yX0_gapTo ∈ wsL_law := inr7 _ (List.mem_of_getElem? (i := 1) rfl)
theorem mw7_2 : Cond.selects RX0 yX0_gapTo yX0_gapTo ∈ wsL_law := inr7 _ (List.mem_of_getElem? (i := 2) rfl)
theorem mw7_3 : Cond.code yX0_gapTo cX0_gapTo 8 (some .long) ∈ wsL_law := inr7 _ (List.mem_of_getElem? (i := 3) rfl)
theorem mw7_4 : Cond.methodLink RX0 154 Lib.MathLoose.abs_long.x ∈ wsL_law := inr7 _ (List.mem_of_getElem? (i := 4) rfl)
theorem mw7_5 : Cond.static Lib.MathLoose.abs_long.x ∈ wsL_law := inr7 _ (List.mem_of_getElem? (i := 5) rfl)
theorem mw7_6 : Cond.initialized "java/lang/Math" ∈ wsL_law := inr7 _ (List.mem_of_getElem? (i := 6) rfl)
theorem mw7_7 : Cond.code Lib.MathLoose.abs_long.x Lib.MathLoose.abs_long.code 2 (some .long) ∈ wsL_law := inr7 _ (List.mem_of_getElem? (i := 7) rfl)
theorem mw7_8 : Cond.methodLink RX0 160 Lib.MathLoose.max_long.x ∈ wsL_law := inr7 _ (List.mem_of_getElem? (i := 8) rfl)
theorem mw7_9 : Cond.static Lib.MathLoose.max_long.x ∈ wsL_law := inr7 _ (List.mem_of_getElem? (i := 9) rfl)
theorem mw7_10 : Cond.code Lib.MathLoose.max_long.x Lib.MathLoose.max_long.code 4 (some .long) ∈ wsL_law := inr7 _ (List.mem_of_getElem? (i := 10) rfl)
theorem mw7_11 : Cond.methodLink RL 46 yX1_distance ∈ wsL_law := inr7 _ (List.mem_of_getElem? (i := 11) rfl)
theorem mw7_12 : Cond.instanceMethod yX1_distance ∈ wsL_law := inr7 _ (List.mem_of_getElem? (i := 12) rfl)
theorem mw7_13 : Cond.selects RX1 yX1_distance yX1_distance ∈ wsL_law := inr7 _ (List.mem_of_getElem? (i := 13) rfl)
theorem mw7_14 : Cond.code yX1_distance cX1_distance 3 (some .long) ∈ wsL_law := inr7 _ (List.mem_of_getElem? (i := 14) rfl)
theorem mw7_15 : Cond.constantLong RX1 68 (-1) ∈ wsL_law := inr7 _ (List.mem_of_getElem? (i := 15) rfl)
theorem mw7_16 : Cond.methodLink RX1 64 yX1_far ∈ wsL_law := inr7 _ (List.mem_of_getElem? (i := 16) rfl)
theorem mw7_17 : Cond.instanceMethod yX1_far ∈ wsL_law := inr7 _ (List.mem_of_getElem? (i := 17) rfl)
theorem mw7_18 : Cond.selects RX1 yX1_far yX1_far ∈ wsL_law := inr7 _ (List.mem_of_getElem? (i := 18) rfl)
theorem mw7_19 : Cond.code yX1_far cX1_far 10 (some .long) ∈ wsL_law := inr7 _ (List.mem_of_getElem? (i := 19) rfl)
theorem mw7_20 : Cond.methodLink RL 47 yX0_kind ∈ wsL_law := inr7 _ (List.mem_of_getElem? (i := 20) rfl)
theorem mw7_21 : Cond.instanceMethod yX0_kind ∈ wsL_law := inr7 _ (List.mem_of_getElem? (i := 21) rfl)
theorem mw7_22 : Cond.selects RX0 yX0_kind yX0_kind ∈ wsL_law := inr7 _ (List.mem_of_getElem? (i := 22) rfl)
theorem mw7_23 : Cond.code yX0_kind cX0_kind 2 (some .int) ∈ wsL_law := inr7 _ (List.mem_of_getElem? (i := 23) rfl)
theorem mw8_0 : Cond.methodLink RX0 94 yX0_sortWith ∈ wsL_law := inr8 _ (List.mem_of_getElem? (i := 0) rfl)
theorem mw8_1 : Cond.instanceMethod yX0_sortWith ∈ wsL_law := inr8 _ (List.mem_of_getElem? (i := 1) rfl)
theorem mw8_2 : Cond.selects RX0 yX0_sortWith yX0_sortWith ∈ wsL_law := inr8 _ (List.mem_of_getElem? (i := 2) rfl)
theorem mw8_3 : Cond.code yX0_sortWith cX0_sortWith 3 none ∈ wsL_law := inr8 _ (List.mem_of_getElem? (i := 3) rfl)
theorem mw8_4 : Cond.methodLink RX0 164 yX0_markCores ∈ wsL_law := inr8 _ (List.mem_of_getElem? (i := 4) rfl)
theorem mw8_5 : Cond.instanceMethod yX0_markCores ∈ wsL_law := inr8 _ (List.mem_of_getElem? (i := 5) rfl)
theorem mw8_6 : Cond.selects RX0 yX0_markCores yX0_markCores ∈ wsL_law := inr8 _ (List.mem_of_getElem? (i := 6) rfl)
theorem mw8_7 : Cond.code yX0_markCores cX0_markCores 4 none ∈ wsL_law := inr8 _ (List.mem_of_getElem? (i := 7) rfl)
theorem mw8_8 : Cond.methodLink RX0 102 yX0_weightWithin ∈ wsL_law := inr8 _ (List.mem_of_getElem? (i := 8) rfl)
theorem mw8_9 : Cond.instanceMethod yX0_weightWithin ∈ wsL_law := inr8 _ (List.mem_of_getElem? (i := 9) rfl)
theorem mw8_10 : Cond.selects RX0 yX0_weightWithin yX0_weightWithin ∈ wsL_law := inr8 _ (List.mem_of_getElem? (i := 10) rfl)
theorem mw8_11 : Cond.code yX0_weightWithin cX0_weightWithin 6 (some .int) ∈ wsL_law := inr8 _ (List.mem_of_getElem? (i := 11) rfl)
theorem mw8_12 : Cond.methodLink RX0 167 yX0_gatherCrowds ∈ wsL_law := inr8 _ (List.mem_of_getElem? (i := 12) rfl)
theorem mw8_13 : Cond.instanceMethod yX0_gatherCrowds ∈ wsL_law := inr8 _ (List.mem_of_getElem? (i := 13) rfl)
theorem mw8_14 : Cond.selects RX0 yX0_gatherCrowds yX0_gatherCrowds ∈ wsL_law := inr8 _ (List.mem_of_getElem? (i := 14) rfl)
theorem mw8_15 : Cond.code yX0_gatherCrowds cX0_gatherCrowds 4 none ∈ wsL_law := inr8 _ (List.mem_of_getElem? (i := 15) rfl)
theorem mw8_16 : Cond.methodLink RX0 173 yX0_gatherFrom ∈ wsL_law := inr8 _ (List.mem_of_getElem? (i := 16) rfl)
theorem mw8_17 : Cond.instanceMethod yX0_gatherFrom ∈ wsL_law := inr8 _ (List.mem_of_getElem? (i := 17) rfl)
theorem mw8_18 : Cond.selects RX0 yX0_gatherFrom yX0_gatherFrom ∈ wsL_law := inr8 _ (List.mem_of_getElem? (i := 18) rfl)
theorem mw8_19 : Cond.code yX0_gatherFrom cX0_gatherFrom 6 none ∈ wsL_law := inr8 _ (List.mem_of_getElem? (i := 19) rfl)
theorem mw8_20 : Cond.methodLink RX0 177 yX0_leastUnsettledCore ∈ wsL_law := inr8 _ (List.mem_of_getElem? (i := 20) rfl)
theorem mw8_21 : Cond.instanceMethod yX0_leastUnsettledCore ∈ wsL_law := inr8 _ (List.mem_of_getElem? (i := 21) rfl)
theorem mw8_22 : Cond.selects RX0 yX0_leastUnsettledCore yX0_leastUnsettledCore ∈ wsL_law := inr8 _ (List.mem_of_getElem? (i := 22) rfl)
theorem mw8_23 : Cond.code yX0_leastUnsettledCore cX0_leastUnsettledCore 2 (some .int) ∈ wsL_law := inr8 _ (List.mem_of_getElem? (i := 23) rfl)
theorem mw9_0 : Cond.methodLink RX0 180 yX0_gatherCoresNear ∈ wsL_law := inr9 _ (List.mem_of_getElem? (i := 0) rfl)
theorem mw9_1 : Cond.instanceMethod yX0_gatherCoresNear ∈ wsL_law := inr9 _ (List.mem_of_getElem? (i := 1) rfl)
theorem mw9_2 : Cond.selects RX0 yX0_gatherCoresNear yX0_gatherCoresNear ∈ wsL_law := inr9 _ (List.mem_of_getElem? (i := 2) rfl)
theorem mw9_3 : Cond.code yX0_gatherCoresNear cX0_gatherCoresNear 5 none ∈ wsL_law := inr9 _ (List.mem_of_getElem? (i := 3) rfl)
theorem mw9_4 : Cond.methodLink RX0 170 yX0_joinBorders ∈ wsL_law := inr9 _ (List.mem_of_getElem? (i := 4) rfl)
theorem mw9_5 : Cond.instanceMethod yX0_joinBorders ∈ wsL_law := inr9 _ (List.mem_of_getElem? (i := 5) rfl)
theorem mw9_6 : Cond.selects RX0 yX0_joinBorders yX0_joinBorders ∈ wsL_law := inr9 _ (List.mem_of_getElem? (i := 6) rfl)
theorem mw9_7 : Cond.code yX0_joinBorders cX0_joinBorders 4 none ∈ wsL_law := inr9 _ (List.mem_of_getElem? (i := 7) rfl)
theorem mw9_8 : Cond.methodLink RX0 141 yX0_leastCrowdAt ∈ wsL_law := inr9 _ (List.mem_of_getElem? (i := 8) rfl)
theorem mw9_9 : Cond.instanceMethod yX0_leastCrowdAt ∈ wsL_law := inr9 _ (List.mem_of_getElem? (i := 9) rfl)
theorem mw9_10 : Cond.selects RX0 yX0_leastCrowdAt yX0_leastCrowdAt ∈ wsL_law := inr9 _ (List.mem_of_getElem? (i := 10) rfl)
theorem mw9_11 : Cond.code yX0_leastCrowdAt cX0_leastCrowdAt 7 (some .int) ∈ wsL_law := inr9 _ (List.mem_of_getElem? (i := 11) rfl)
theorem mw9_12 : Cond.methodLink RX0 98 yX0_kindOf ∈ wsL_law := inr9 _ (List.mem_of_getElem? (i := 12) rfl)
theorem mw9_13 : Cond.instanceMethod yX0_kindOf ∈ wsL_law := inr9 _ (List.mem_of_getElem? (i := 13) rfl)
theorem mw9_14 : Cond.selects RX0 yX0_kindOf yX0_kindOf ∈ wsL_law := inr9 _ (List.mem_of_getElem? (i := 14) rfl)
theorem mw9_15 : Cond.code yX0_kindOf cX0_kindOf 2 (some .int) ∈ wsL_law := inr9 _ (List.mem_of_getElem? (i := 15) rfl)
theorem mw9_16 : Cond.methodLink RL 50 yX1_kind ∈ wsL_law := inr9 _ (List.mem_of_getElem? (i := 16) rfl)
theorem mw9_17 : Cond.instanceMethod yX1_kind ∈ wsL_law := inr9 _ (List.mem_of_getElem? (i := 17) rfl)
theorem mw9_18 : Cond.selects RX1 yX1_kind yX1_kind ∈ wsL_law := inr9 _ (List.mem_of_getElem? (i := 18) rfl)
theorem mw9_19 : Cond.code yX1_kind cX1_kind 2 (some .int) ∈ wsL_law := inr9 _ (List.mem_of_getElem? (i := 19) rfl)
theorem mw9_20 : Cond.methodLink RX1 85 yX1_find ∈ wsL_law := inr9 _ (List.mem_of_getElem? (i := 20) rfl)
theorem mw9_21 : Cond.instanceMethod yX1_find ∈ wsL_law := inr9 _ (List.mem_of_getElem? (i := 21) rfl)
theorem mw9_22 : Cond.selects RX1 yX1_find yX1_find ∈ wsL_law := inr9 _ (List.mem_of_getElem? (i := 22) rfl)
theorem mw9_23 : Cond.code yX1_find cX1_find 6 none ∈ wsL_law := inr9 _ (List.mem_of_getElem? (i := 23) rfl)
theorem mw10_0 : Cond.fieldLink RX1 70 "PointCrowdsModel" "crowds" "I" ∈ wsL_law := inr10 _ (List.mem_of_getElem? (i := 0) rfl)
theorem mw10_1 : Cond.methodLink RX1 73 yX1_weightWithin ∈ wsL_law := inr10 _ (List.mem_of_getElem? (i := 1) rfl)
theorem mw10_2 : Cond.instanceMethod yX1_weightWithin ∈ wsL_law := inr10 _ (List.mem_of_getElem? (i := 2) rfl)
theorem mw10_3 : Cond.selects RX1 yX1_weightWithin yX1_weightWithin ∈ wsL_law := inr10 _ (List.mem_of_getElem? (i := 3) rfl)
theorem mw10_4 : Cond.code yX1_weightWithin cX1_weightWithin 6 (some .int) ∈ wsL_law := inr10 _ (List.mem_of_getElem? (i := 4) rfl)
theorem mw10_5 : Cond.methodLink RX1 77 yX1_spread ∈ wsL_law := inr10 _ (List.mem_of_getElem? (i := 5) rfl)
theorem mw10_6 : Cond.instanceMethod yX1_spread ∈ wsL_law := inr10 _ (List.mem_of_getElem? (i := 6) rfl)
theorem mw10_7 : Cond.selects RX1 yX1_spread yX1_spread ∈ wsL_law := inr10 _ (List.mem_of_getElem? (i := 7) rfl)
theorem mw10_8 : Cond.code yX1_spread cX1_spread 6 (some .boolean) ∈ wsL_law := inr10 _ (List.mem_of_getElem? (i := 8) rfl)
theorem mw10_9 : Cond.methodLink RX1 81 yX1_least ∈ wsL_law := inr10 _ (List.mem_of_getElem? (i := 9) rfl)
theorem mw10_10 : Cond.instanceMethod yX1_least ∈ wsL_law := inr10 _ (List.mem_of_getElem? (i := 10) rfl)
theorem mw10_11 : Cond.selects RX1 yX1_least yX1_least ∈ wsL_law := inr10 _ (List.mem_of_getElem? (i := 11) rfl)
theorem mw10_12 : Cond.code yX1_least cX1_least 7 (some .int) ∈ wsL_law := inr10 _ (List.mem_of_getElem? (i := 12) rfl)
theorem mw10_13 : Cond.methodLink RL 51 yX0_crowd ∈ wsL_law := inr10 _ (List.mem_of_getElem? (i := 13) rfl)
theorem mw10_14 : Cond.instanceMethod yX0_crowd ∈ wsL_law := inr10 _ (List.mem_of_getElem? (i := 14) rfl)
theorem mw10_15 : Cond.selects RX0 yX0_crowd yX0_crowd ∈ wsL_law := inr10 _ (List.mem_of_getElem? (i := 15) rfl)
theorem mw10_16 : Cond.code yX0_crowd cX0_crowd 2 (some .int) ∈ wsL_law := inr10 _ (List.mem_of_getElem? (i := 16) rfl)
theorem mw10_17 : Cond.methodLink RL 54 yX1_crowd ∈ wsL_law := inr10 _ (List.mem_of_getElem? (i := 17) rfl)
theorem mw10_18 : Cond.instanceMethod yX1_crowd ∈ wsL_law := inr10 _ (List.mem_of_getElem? (i := 18) rfl)
theorem mw10_19 : Cond.selects RX1 yX1_crowd yX1_crowd ∈ wsL_law := inr10 _ (List.mem_of_getElem? (i := 19) rfl)
theorem mw10_20 : Cond.code yX1_crowd cX1_crowd 2 (some .int) ∈ wsL_law := inr10 _ (List.mem_of_getElem? (i := 20) rfl)
theorem mw10_21 : Cond.methodLink RL 55 yX0_count ∈ wsL_law := inr10 _ (List.mem_of_getElem? (i := 21) rfl)
theorem mw10_22 : Cond.instanceMethod yX0_count ∈ wsL_law := inr10 _ (List.mem_of_getElem? (i := 22) rfl)
theorem mw10_23 : Cond.selects RX0 yX0_count yX0_count ∈ wsL_law := inr10 _ (List.mem_of_getElem? (i := 23) rfl)
theorem mw11_0 : Cond.code yX0_count cX0_count 2 (some .int) ∈ wsL_law := inr11 _ (List.mem_of_getElem? (i := 0) rfl)
theorem mw11_1 : Cond.methodLink RX0 119 yX0_countKind ∈ wsL_law := inr11 _ (List.mem_of_getElem? (i := 1) rfl)
theorem mw11_2 : Cond.instanceMethod yX0_countKind ∈ wsL_law := inr11 _ (List.mem_of_getElem? (i := 2) rfl)
theorem mw11_3 : Cond.selects RX0 yX0_countKind yX0_countKind ∈ wsL_law := inr11 _ (List.mem_of_getElem? (i := 3) rfl)
theorem mw11_4 : Cond.code yX0_countKind cX0_countKind 4 (some .int) ∈ wsL_law := inr11 _ (List.mem_of_getElem? (i := 4) rfl)
theorem mw11_5 : Cond.methodLink RX0 110 yX0_countWeights ∈ wsL_law := inr11 _ (List.mem_of_getElem? (i := 5) rfl)
theorem mw11_6 : Cond.instanceMethod yX0_countWeights ∈ wsL_law := inr11 _ (List.mem_of_getElem? (i := 6) rfl)
theorem mw11_7 : Cond.selects RX0 yX0_countWeights yX0_countWeights ∈ wsL_law := inr11 _ (List.mem_of_getElem? (i := 7) rfl)
theorem mw11_8 : Cond.code yX0_countWeights cX0_countWeights 3 (some .int) ∈ wsL_law := inr11 _ (List.mem_of_getElem? (i := 8) rfl)
theorem mw11_9 : Cond.methodLink RL 58 yX1_count ∈ wsL_law := inr11 _ (List.mem_of_getElem? (i := 9) rfl)
theorem mw11_10 : Cond.instanceMethod yX1_count ∈ wsL_law := inr11 _ (List.mem_of_getElem? (i := 10) rfl)
theorem mw11_11 : Cond.selects RX1 yX1_count yX1_count ∈ wsL_law := inr11 _ (List.mem_of_getElem? (i := 11) rfl)
theorem mw11_12 : Cond.code yX1_count cX1_count 6 (some .int) ∈ wsL_law := inr11 _ (List.mem_of_getElem? (i := 12) rfl)
theorem mw11_13 : Cond.methodLink RL 59 yX0_about ∈ wsL_law := inr11 _ (List.mem_of_getElem? (i := 13) rfl)
theorem mw11_14 : Cond.instanceMethod yX0_about ∈ wsL_law := inr11 _ (List.mem_of_getElem? (i := 14) rfl)
theorem mw11_15 : Cond.selects RX0 yX0_about yX0_about ∈ wsL_law := inr11 _ (List.mem_of_getElem? (i := 15) rfl)
theorem mw11_16 : Cond.code yX0_about cX0_about 3 (some .int) ∈ wsL_law := inr11 _ (List.mem_of_getElem? (i := 16) rfl)
theorem mw11_17 : Cond.methodLink RX0 122 yX0_pointsOf ∈ wsL_law := inr11 _ (List.mem_of_getElem? (i := 17) rfl)
theorem mw11_18 : Cond.instanceMethod yX0_pointsOf ∈ wsL_law := inr11 _ (List.mem_of_getElem? (i := 18) rfl)
theorem mw11_19 : Cond.selects RX0 yX0_pointsOf yX0_pointsOf ∈ wsL_law := inr11 _ (List.mem_of_getElem? (i := 19) rfl)
theorem mw11_20 : Cond.code yX0_pointsOf cX0_pointsOf 4 (some .int) ∈ wsL_law := inr11 _ (List.mem_of_getElem? (i := 20) rfl)
theorem mw11_21 : Cond.methodLink RX0 125 yX0_coresOf ∈ wsL_law := inr11 _ (List.mem_of_getElem? (i := 21) rfl)
theorem mw11_22 : Cond.instanceMethod yX0_coresOf ∈ wsL_law := inr11 _ (List.mem_of_getElem? (i := 22) rfl)
theorem mw11_23 : Cond.selects RX0 yX0_coresOf yX0_coresOf ∈ wsL_law := inr11 _ (List.mem_of_getElem? (i := 23) rfl)
theorem mw12_0 : Cond.code yX0_coresOf cX0_coresOf 4 (some .int) ∈ wsL_law := inr12 _ (List.mem_of_getElem? (i := 0) rfl)
theorem mw12_1 : Cond.methodLink RX0 128 yX0_weightsOf ∈ wsL_law := inr12 _ (List.mem_of_getElem? (i := 1) rfl)
theorem mw12_2 : Cond.instanceMethod yX0_weightsOf ∈ wsL_law := inr12 _ (List.mem_of_getElem? (i := 2) rfl)
theorem mw12_3 : Cond.selects RX0 yX0_weightsOf yX0_weightsOf ∈ wsL_law := inr12 _ (List.mem_of_getElem? (i := 3) rfl)
theorem mw12_4 : Cond.code yX0_weightsOf cX0_weightsOf 4 (some .int) ∈ wsL_law := inr12 _ (List.mem_of_getElem? (i := 4) rfl)
theorem mw12_5 : Cond.methodLink RX0 131 yX0_leastCoreOf ∈ wsL_law := inr12 _ (List.mem_of_getElem? (i := 5) rfl)
theorem mw12_6 : Cond.instanceMethod yX0_leastCoreOf ∈ wsL_law := inr12 _ (List.mem_of_getElem? (i := 6) rfl)
theorem mw12_7 : Cond.selects RX0 yX0_leastCoreOf yX0_leastCoreOf ∈ wsL_law := inr12 _ (List.mem_of_getElem? (i := 7) rfl)
theorem mw12_8 : Cond.code yX0_leastCoreOf cX0_leastCoreOf 3 (some .int) ∈ wsL_law := inr12 _ (List.mem_of_getElem? (i := 8) rfl)
theorem mw12_9 : Cond.methodLink RX0 134 yX0_leastOf ∈ wsL_law := inr12 _ (List.mem_of_getElem? (i := 9) rfl)
theorem mw12_10 : Cond.instanceMethod yX0_leastOf ∈ wsL_law := inr12 _ (List.mem_of_getElem? (i := 10) rfl)
theorem mw12_11 : Cond.selects RX0 yX0_leastOf yX0_leastOf ∈ wsL_law := inr12 _ (List.mem_of_getElem? (i := 11) rfl)
theorem mw12_12 : Cond.code yX0_leastOf cX0_leastOf 5 (some .int) ∈ wsL_law := inr12 _ (List.mem_of_getElem? (i := 12) rfl)
theorem mw12_13 : Cond.methodLink RX0 183 Lib.Math.min.name ∈ wsL_law := inr12 _ (List.mem_of_getElem? (i := 13) rfl)
theorem mw12_14 : Cond.static Lib.Math.min.name ∈ wsL_law := inr12 _ (List.mem_of_getElem? (i := 14) rfl)
theorem mw12_15 : Cond.code Lib.Math.min.name Lib.Math.min.code 2 (some .int) ∈ wsL_law := inr12 _ (List.mem_of_getElem? (i := 15) rfl)
theorem mw12_16 : Cond.methodLink RX0 138 yX0_greatestOf ∈ wsL_law := inr12 _ (List.mem_of_getElem? (i := 16) rfl)
theorem mw12_17 : Cond.instanceMethod yX0_greatestOf ∈ wsL_law := inr12 _ (List.mem_of_getElem? (i := 17) rfl)
theorem mw12_18 : Cond.selects RX0 yX0_greatestOf yX0_greatestOf ∈ wsL_law := inr12 _ (List.mem_of_getElem? (i := 18) rfl)
theorem mw12_19 : Cond.code yX0_greatestOf cX0_greatestOf 5 (some .int) ∈ wsL_law := inr12 _ (List.mem_of_getElem? (i := 19) rfl)
theorem mw12_20 : Cond.methodLink RX0 187 Lib.Math.max.name ∈ wsL_law := inr12 _ (List.mem_of_getElem? (i := 20) rfl)
theorem mw12_21 : Cond.static Lib.Math.max.name ∈ wsL_law := inr12 _ (List.mem_of_getElem? (i := 21) rfl)
theorem mw12_22 : Cond.code Lib.Math.max.name Lib.Math.max.code 2 (some .int) ∈ wsL_law := inr12 _ (List.mem_of_getElem? (i := 22) rfl)
theorem mw12_23 : Cond.methodLink RL 63 yX1_about ∈ wsL_law := inr12 _ (List.mem_of_getElem? (i := 23) rfl)
theorem mw13_0 : Cond.instanceMethod yX1_about ∈ wsL_law := inr13 _ (List.mem_of_getElem? (i := 0) rfl)
theorem mw13_1 : Cond.selects RX1 yX1_about yX1_about ∈ wsL_law := inr13 _ (List.mem_of_getElem? (i := 1) rfl)
theorem mw13_2 : Cond.code yX1_about cX1_about 12 (some .int) ∈ wsL_law := inr13 _ (List.mem_of_getElem? (i := 2) rfl)
theorem mw13_3 : Cond.methodLink RL 64 yX0_around ∈ wsL_law := inr13 _ (List.mem_of_getElem? (i := 3) rfl)
theorem mw13_4 : Cond.instanceMethod yX0_around ∈ wsL_law := inr13 _ (List.mem_of_getElem? (i := 4) rfl)
theorem mw13_5 : Cond.selects RX0 yX0_around yX0_around ∈ wsL_law := inr13 _ (List.mem_of_getElem? (i := 5) rfl)
theorem mw13_6 : Cond.code yX0_around cX0_around 2 (some .int) ∈ wsL_law := inr13 _ (List.mem_of_getElem? (i := 6) rfl)
theorem mw13_7 : Cond.methodLink RL 67 yX1_around ∈ wsL_law := inr13 _ (List.mem_of_getElem? (i := 7) rfl)
theorem mw13_8 : Cond.instanceMethod yX1_around ∈ wsL_law := inr13 _ (List.mem_of_getElem? (i := 8) rfl)
theorem mw13_9 : Cond.selects RX1 yX1_around yX1_around ∈ wsL_law := inr13 _ (List.mem_of_getElem? (i := 9) rfl)
theorem mw13_10 : Cond.code yX1_around cX1_around 2 (some .int) ∈ wsL_law := inr13 _ (List.mem_of_getElem? (i := 10) rfl)
theorem mw13_11 : Cond.methodLink RL 68 yX0_belongs ∈ wsL_law := inr13 _ (List.mem_of_getElem? (i := 11) rfl)
theorem mw13_12 : Cond.instanceMethod yX0_belongs ∈ wsL_law := inr13 _ (List.mem_of_getElem? (i := 12) rfl)
theorem mw13_13 : Cond.selects RX0 yX0_belongs yX0_belongs ∈ wsL_law := inr13 _ (List.mem_of_getElem? (i := 13) rfl)
theorem mw13_14 : Cond.code yX0_belongs cX0_belongs 3 (some .int) ∈ wsL_law := inr13 _ (List.mem_of_getElem? (i := 14) rfl)
theorem mw13_15 : Cond.methodLink RL 71 yX1_belongs ∈ wsL_law := inr13 _ (List.mem_of_getElem? (i := 15) rfl)
theorem mw13_16 : Cond.instanceMethod yX1_belongs ∈ wsL_law := inr13 _ (List.mem_of_getElem? (i := 16) rfl)
theorem mw13_17 : Cond.selects RX1 yX1_belongs yX1_belongs ∈ wsL_law := inr13 _ (List.mem_of_getElem? (i := 17) rfl)
theorem mw13_18 : Cond.code yX1_belongs cX1_belongs 3 (some .int) ∈ wsL_law := inr13 _ (List.mem_of_getElem? (i := 18) rfl)
theorem mw13_19 : Cond.methodLink RL 72 yX0_dense ∈ wsL_law := inr13 _ (List.mem_of_getElem? (i := 19) rfl)
theorem mw13_20 : Cond.instanceMethod yX0_dense ∈ wsL_law := inr13 _ (List.mem_of_getElem? (i := 20) rfl)
theorem mw13_21 : Cond.selects RX0 yX0_dense yX0_dense ∈ wsL_law := inr13 _ (List.mem_of_getElem? (i := 21) rfl)
theorem mw13_22 : Cond.code yX0_dense cX0_dense 2 (some .long) ∈ wsL_law := inr13 _ (List.mem_of_getElem? (i := 22) rfl)
theorem mw13_23 : Cond.methodLink RX0 106 yX0_leastReachAsCore ∈ wsL_law := inr13 _ (List.mem_of_getElem? (i := 23) rfl)
theorem mw14_0 : Cond.instanceMethod yX0_leastReachAsCore ∈ wsL_law := inr14 _ (List.mem_of_getElem? (i := 0) rfl)
theorem mw14_1 : Cond.selects RX0 yX0_leastReachAsCore yX0_leastReachAsCore ∈ wsL_law := inr14 _ (List.mem_of_getElem? (i := 1) rfl)
theorem mw14_2 : Cond.code yX0_leastReachAsCore cX0_leastReachAsCore 7 (some .long) ∈ wsL_law := inr14 _ (List.mem_of_getElem? (i := 2) rfl)
theorem mw14_3 : Cond.methodLink RX0 189 yX0_lastGap ∈ wsL_law := inr14 _ (List.mem_of_getElem? (i := 3) rfl)
theorem mw14_4 : Cond.instanceMethod yX0_lastGap ∈ wsL_law := inr14 _ (List.mem_of_getElem? (i := 4) rfl)
theorem mw14_5 : Cond.selects RX0 yX0_lastGap yX0_lastGap ∈ wsL_law := inr14 _ (List.mem_of_getElem? (i := 5) rfl)
theorem mw14_6 : Cond.code yX0_lastGap cX0_lastGap 2 (some .long) ∈ wsL_law := inr14 _ (List.mem_of_getElem? (i := 6) rfl)
theorem mw14_7 : Cond.methodLink RX0 192 yX0_keepNear ∈ wsL_law := inr14 _ (List.mem_of_getElem? (i := 7) rfl)
theorem mw14_8 : Cond.instanceMethod yX0_keepNear ∈ wsL_law := inr14 _ (List.mem_of_getElem? (i := 8) rfl)
theorem mw14_9 : Cond.selects RX0 yX0_keepNear yX0_keepNear ∈ wsL_law := inr14 _ (List.mem_of_getElem? (i := 9) rfl)
theorem mw14_10 : Cond.code yX0_keepNear cX0_keepNear 6 (some .int) ∈ wsL_law := inr14 _ (List.mem_of_getElem? (i := 10) rfl)
theorem mw14_11 : Cond.methodLink RL 76 yX1_dense ∈ wsL_law := inr14 _ (List.mem_of_getElem? (i := 11) rfl)
theorem mw14_12 : Cond.instanceMethod yX1_dense ∈ wsL_law := inr14 _ (List.mem_of_getElem? (i := 12) rfl)
theorem mw14_13 : Cond.selects RX1 yX1_dense yX1_dense ∈ wsL_law := inr14 _ (List.mem_of_getElem? (i := 13) rfl)
theorem mw14_14 : Cond.code yX1_dense cX1_dense 2 (some .long) ∈ wsL_law := inr14 _ (List.mem_of_getElem? (i := 14) rfl)
theorem mw14_15 : Cond.methodLink RX1 89 yX1_findDense ∈ wsL_law := inr14 _ (List.mem_of_getElem? (i := 15) rfl)
theorem mw14_16 : Cond.instanceMethod yX1_findDense ∈ wsL_law := inr14 _ (List.mem_of_getElem? (i := 16) rfl)
theorem mw14_17 : Cond.selects RX1 yX1_findDense yX1_findDense ∈ wsL_law := inr14 _ (List.mem_of_getElem? (i := 17) rfl)
theorem mw14_18 : Cond.code yX1_findDense cX1_findDense 7 (some .long) ∈ wsL_law := inr14 _ (List.mem_of_getElem? (i := 18) rfl)
theorem mw14_19 : Cond.methodLink RL 77 yX0_meet ∈ wsL_law := inr14 _ (List.mem_of_getElem? (i := 19) rfl)
theorem mw14_20 : Cond.instanceMethod yX0_meet ∈ wsL_law := inr14 _ (List.mem_of_getElem? (i := 20) rfl)
theorem mw14_21 : Cond.selects RX0 yX0_meet yX0_meet ∈ wsL_law := inr14 _ (List.mem_of_getElem? (i := 21) rfl)
theorem mw14_22 : Cond.code yX0_meet cX0_meet 3 (some .long) ∈ wsL_law := inr14 _ (List.mem_of_getElem? (i := 22) rfl)
theorem mw14_23 : Cond.methodLink RX0 113 yX0_findCoreFrom ∈ wsL_law := inr14 _ (List.mem_of_getElem? (i := 23) rfl)
theorem mw15_0 : Cond.instanceMethod yX0_findCoreFrom ∈ wsL_law := inr15 _ (List.mem_of_getElem? (i := 0) rfl)
theorem mw15_1 : Cond.selects RX0 yX0_findCoreFrom yX0_findCoreFrom ∈ wsL_law := inr15 _ (List.mem_of_getElem? (i := 1) rfl)
theorem mw15_2 : Cond.code yX0_findCoreFrom cX0_findCoreFrom 2 none ∈ wsL_law := inr15 _ (List.mem_of_getElem? (i := 2) rfl)
theorem mw15_3 : Cond.methodLink RX0 116 yX0_leastReachFrom ∈ wsL_law := inr15 _ (List.mem_of_getElem? (i := 3) rfl)
theorem mw15_4 : Cond.instanceMethod yX0_leastReachFrom ∈ wsL_law := inr15 _ (List.mem_of_getElem? (i := 4) rfl)
theorem mw15_5 : Cond.selects RX0 yX0_leastReachFrom yX0_leastReachFrom ∈ wsL_law := inr15 _ (List.mem_of_getElem? (i := 5) rfl)
theorem mw15_6 : Cond.code yX0_leastReachFrom cX0_leastReachFrom 5 (some .long) ∈ wsL_law := inr15 _ (List.mem_of_getElem? (i := 6) rfl)
theorem mw15_7 : Cond.constantLong RX0 198 (9223372036854775807) ∈ wsL_law := inr15 _ (List.mem_of_getElem? (i := 7) rfl)
theorem mw15_8 : Cond.methodLink RX0 200 yX0_cheapestUnsettled ∈ wsL_law := inr15 _ (List.mem_of_getElem? (i := 8) rfl)
theorem mw15_9 : Cond.instanceMethod yX0_cheapestUnsettled ∈ wsL_law := inr15 _ (List.mem_of_getElem? (i := 9) rfl)
theorem mw15_10 : Cond.selects RX0 yX0_cheapestUnsettled yX0_cheapestUnsettled ∈ wsL_law := inr15 _ (List.mem_of_getElem? (i := 10) rfl)
theorem mw15_11 : Cond.code yX0_cheapestUnsettled cX0_cheapestUnsettled 3 (some .int) ∈ wsL_law := inr15 _ (List.mem_of_getElem? (i := 11) rfl)
theorem mw15_12 : Cond.methodLink RX0 203 yX0_reachOnFrom ∈ wsL_law := inr15 _ (List.mem_of_getElem? (i := 12) rfl)
theorem mw15_13 : Cond.instanceMethod yX0_reachOnFrom ∈ wsL_law := inr15 _ (List.mem_of_getElem? (i := 13) rfl)
theorem mw15_14 : Cond.selects RX0 yX0_reachOnFrom yX0_reachOnFrom ∈ wsL_law := inr15 _ (List.mem_of_getElem? (i := 14) rfl)
theorem mw15_15 : Cond.code yX0_reachOnFrom cX0_reachOnFrom 5 none ∈ wsL_law := inr15 _ (List.mem_of_getElem? (i := 15) rfl)
theorem mw15_16 : Cond.methodLink RX0 207 Lib.MathLoose.min_long.x ∈ wsL_law := inr15 _ (List.mem_of_getElem? (i := 16) rfl)
theorem mw15_17 : Cond.static Lib.MathLoose.min_long.x ∈ wsL_law := inr15 _ (List.mem_of_getElem? (i := 17) rfl)
theorem mw15_18 : Cond.code Lib.MathLoose.min_long.x Lib.MathLoose.min_long.code 4 (some .long) ∈ wsL_law := inr15 _ (List.mem_of_getElem? (i := 18) rfl)
theorem mw15_19 : Cond.methodLink RL 80 yX1_meet ∈ wsL_law := inr15 _ (List.mem_of_getElem? (i := 19) rfl)
theorem mw15_20 : Cond.instanceMethod yX1_meet ∈ wsL_law := inr15 _ (List.mem_of_getElem? (i := 20) rfl)
theorem mw15_21 : Cond.selects RX1 yX1_meet yX1_meet ∈ wsL_law := inr15 _ (List.mem_of_getElem? (i := 21) rfl)
theorem mw15_22 : Cond.code yX1_meet cX1_meet 8 (some .long) ∈ wsL_law := inr15 _ (List.mem_of_getElem? (i := 22) rfl)
theorem mw15_23 : Cond.methodLink RX1 93 yX1_greater ∈ wsL_law := inr15 _ (List.mem_of_getElem? (i := 23) rfl)
theorem mw16_0 : Cond.static yX1_greater ∈ wsL_law := inr16 _ (List.mem_of_getElem? (i := 0) rfl)
theorem mw16_1 : Cond.code yX1_greater cX1_greater 4 (some .long) ∈ wsL_law := inr16 _ (List.mem_of_getElem? (i := 1) rfl)
theorem mw16_2 : Cond.methodLink RL 81 yX0_crowds ∈ wsL_law := inr16 _ (List.mem_of_getElem? (i := 2) rfl)
theorem mw16_3 : Cond.instanceMethod yX0_crowds ∈ wsL_law := inr16 _ (List.mem_of_getElem? (i := 3) rfl)
theorem mw16_4 : Cond.selects RX0 yX0_crowds yX0_crowds ∈ wsL_law := inr16 _ (List.mem_of_getElem? (i := 4) rfl)
theorem mw16_5 : Cond.code yX0_crowds cX0_crowds 3 (some .int) ∈ wsL_law := inr16 _ (List.mem_of_getElem? (i := 5) rfl)
theorem mw16_6 : Cond.methodLink RL 84 yX1_crowds ∈ wsL_law := inr16 _ (List.mem_of_getElem? (i := 6) rfl)
theorem mw16_7 : Cond.instanceMethod yX1_crowds ∈ wsL_law := inr16 _ (List.mem_of_getElem? (i := 7) rfl)
theorem mw16_8 : Cond.selects RX1 yX1_crowds yX1_crowds ∈ wsL_law := inr16 _ (List.mem_of_getElem? (i := 8) rfl)
theorem mw16_9 : Cond.code yX1_crowds cX1_crowds 3 (some .int) ∈ wsL_law := inr16 _ (List.mem_of_getElem? (i := 9) rfl)
theorem mw16_10 : Cond.methodLink RL 85 yX0_check ∈ wsL_law := inr16 _ (List.mem_of_getElem? (i := 10) rfl)
theorem mw16_11 : Cond.instanceMethod yX0_check ∈ wsL_law := inr16 _ (List.mem_of_getElem? (i := 11) rfl)
theorem mw16_12 : Cond.selects RX0 yX0_check yX0_check ∈ wsL_law := inr16 _ (List.mem_of_getElem? (i := 12) rfl)
theorem mw16_13 : Cond.code yX0_check cX0_check 2 (some .int) ∈ wsL_law := inr16 _ (List.mem_of_getElem? (i := 13) rfl)
theorem mw16_14 : Cond.methodLink RX0 145 yX0_standsRight ∈ wsL_law := inr16 _ (List.mem_of_getElem? (i := 14) rfl)
theorem mw16_15 : Cond.instanceMethod yX0_standsRight ∈ wsL_law := inr16 _ (List.mem_of_getElem? (i := 15) rfl)
theorem mw16_16 : Cond.selects RX0 yX0_standsRight yX0_standsRight ∈ wsL_law := inr16 _ (List.mem_of_getElem? (i := 16) rfl)
theorem mw16_17 : Cond.code yX0_standsRight cX0_standsRight 6 (some .boolean) ∈ wsL_law := inr16 _ (List.mem_of_getElem? (i := 17) rfl)
theorem mw16_18 : Cond.methodLink RL 89 yX1_check ∈ wsL_law := inr16 _ (List.mem_of_getElem? (i := 18) rfl)
theorem mw16_19 : Cond.instanceMethod yX1_check ∈ wsL_law := inr16 _ (List.mem_of_getElem? (i := 19) rfl)
theorem mw16_20 : Cond.selects RX1 yX1_check yX1_check ∈ wsL_law := inr16 _ (List.mem_of_getElem? (i := 20) rfl)
theorem mw16_21 : Cond.code yX1_check cX1_check 1 (some .int) ∈ wsL_law := inr16 _ (List.mem_of_getElem? (i := 21) rfl)
abbrev tsX0_init : List Cond := .code yX0_init cX0_init 1 none :: wsL_law
abbrev tsX1_init : List Cond := .code yX1_init cX1_init 1 none :: wsL_law
abbrev tsX0_point : List Cond := .code yX0_point cX0_point 5 (some .int) :: wsL_law
abbrev tsX0_isPlace : List Cond := .code yX0_isPlace cX0_isPlace 2 (some .boolean) :: wsL_law
abbrev tsX0_leastFree : List Cond := .code yX0_leastFree cX0_leastFree 2 (some .int) :: wsL_law
abbrev tsX0_put : List Cond := .code yX0_put cX0_put 4 none :: wsL_law
abbrev tsX0_forget : List Cond := .code yX0_forget cX0_forget 1 none :: wsL_law
abbrev tsX1_point : List Cond := .code yX1_point cX1_point 5 (some .int) :: wsL_law
abbrev tsX1_isPlace : List Cond := .code yX1_isPlace cX1_isPlace 2 (some .boolean) :: wsL_law
abbrev tsX0_remove : List Cond := .code yX0_remove cX0_remove 2 (some .int) :: wsL_law
abbrev tsX0_isPoint : List Cond := .code yX0_isPoint cX0_isPoint 2 (some .boolean) :: wsL_law
abbrev tsX0_countPoints : List Cond := .code yX0_countPoints cX0_countPoints 3 (some .int) :: wsL_law
abbrev tsX1_remove : List Cond := .code yX1_remove cX1_remove 2 (some .int) :: wsL_law
abbrev tsX1_isPoint : List Cond := .code yX1_isPoint cX1_isPoint 2 (some .boolean) :: wsL_law
abbrev tsX1_points : List Cond := .code yX1_points cX1_points 3 (some .int) :: wsL_law
abbrev tsX0_move : List Cond := .code yX0_move cX0_move 4 (some .int) :: wsL_law
abbrev tsX1_move : List Cond := .code yX1_move cX1_move 4 (some .int) :: wsL_law
abbrev tsX0_way : List Cond := .code yX0_way cX0_way 2 (some .int) :: wsL_law
abbrev tsX1_way : List Cond := .code yX1_way cX1_way 2 (some .int) :: wsL_law
abbrev tsX0_reach : List Cond := .code yX0_reach cX0_reach 3 (some .int) :: wsL_law
abbrev tsX1_reach : List Cond := .code yX1_reach cX1_reach 3 (some .int) :: wsL_law
abbrev tsX0_demand : List Cond := .code yX0_demand cX0_demand 2 (some .int) :: wsL_law
abbrev tsX1_demand : List Cond := .code yX1_demand cX1_demand 2 (some .int) :: wsL_law
abbrev tsX0_distance : List Cond := .code yX0_distance cX0_distance 3 (some .long) :: wsL_law
abbrev tsX0_gapBetween : List Cond := .code yX0_gapBetween cX0_gapBetween 3 (some .long) :: wsL_law
abbrev tsX0_gapTo : List Cond := .code yX0_gapTo cX0_gapTo 8 (some .long) :: wsL_law
abbrev tsX1_distance : List Cond := .code yX1_distance cX1_distance 3 (some .long) :: wsL_law
abbrev tsX1_far : List Cond := .code yX1_far cX1_far 10 (some .long) :: wsL_law
abbrev tsX0_kind : List Cond := .code yX0_kind cX0_kind 2 (some .int) :: wsL_law
abbrev tsX0_sortWith : List Cond := .code yX0_sortWith cX0_sortWith 3 none :: wsL_law
abbrev tsX0_markCores : List Cond := .code yX0_markCores cX0_markCores 4 none :: wsL_law
abbrev tsX0_weightWithin : List Cond := .code yX0_weightWithin cX0_weightWithin 6 (some .int) :: wsL_law
abbrev tsX0_gatherCrowds : List Cond := .code yX0_gatherCrowds cX0_gatherCrowds 4 none :: wsL_law
abbrev tsX0_gatherFrom : List Cond := .code yX0_gatherFrom cX0_gatherFrom 6 none :: wsL_law
abbrev tsX0_leastUnsettledCore : List Cond := .code yX0_leastUnsettledCore cX0_leastUnsettledCore 2 (some .int) :: wsL_law
abbrev tsX0_gatherCoresNear : List Cond := .code yX0_gatherCoresNear cX0_gatherCoresNear 5 none :: wsL_law
abbrev tsX0_joinBorders : List Cond := .code yX0_joinBorders cX0_joinBorders 4 none :: wsL_law
abbrev tsX0_leastCrowdAt : List Cond := .code yX0_leastCrowdAt cX0_leastCrowdAt 7 (some .int) :: wsL_law
abbrev tsX0_kindOf : List Cond := .code yX0_kindOf cX0_kindOf 2 (some .int) :: wsL_law
abbrev tsX1_kind : List Cond := .code yX1_kind cX1_kind 2 (some .int) :: wsL_law
abbrev tsX1_find : List Cond := .code yX1_find cX1_find 6 none :: wsL_law
abbrev tsX1_weightWithin : List Cond := .code yX1_weightWithin cX1_weightWithin 6 (some .int) :: wsL_law
abbrev tsX1_spread : List Cond := .code yX1_spread cX1_spread 6 (some .boolean) :: wsL_law
abbrev tsX1_least : List Cond := .code yX1_least cX1_least 7 (some .int) :: wsL_law
abbrev tsX0_crowd : List Cond := .code yX0_crowd cX0_crowd 2 (some .int) :: wsL_law
abbrev tsX1_crowd : List Cond := .code yX1_crowd cX1_crowd 2 (some .int) :: wsL_law
abbrev tsX0_count : List Cond := .code yX0_count cX0_count 2 (some .int) :: wsL_law
abbrev tsX0_countKind : List Cond := .code yX0_countKind cX0_countKind 4 (some .int) :: wsL_law
abbrev tsX0_countWeights : List Cond := .code yX0_countWeights cX0_countWeights 3 (some .int) :: wsL_law
abbrev tsX1_count : List Cond := .code yX1_count cX1_count 6 (some .int) :: wsL_law
abbrev tsX0_about : List Cond := .code yX0_about cX0_about 3 (some .int) :: wsL_law
abbrev tsX0_pointsOf : List Cond := .code yX0_pointsOf cX0_pointsOf 4 (some .int) :: wsL_law
abbrev tsX0_coresOf : List Cond := .code yX0_coresOf cX0_coresOf 4 (some .int) :: wsL_law
abbrev tsX0_weightsOf : List Cond := .code yX0_weightsOf cX0_weightsOf 4 (some .int) :: wsL_law
abbrev tsX0_leastCoreOf : List Cond := .code yX0_leastCoreOf cX0_leastCoreOf 3 (some .int) :: wsL_law
abbrev tsX0_leastOf : List Cond := .code yX0_leastOf cX0_leastOf 5 (some .int) :: wsL_law
abbrev tsX0_greatestOf : List Cond := .code yX0_greatestOf cX0_greatestOf 5 (some .int) :: wsL_law
abbrev tsX1_about : List Cond := .code yX1_about cX1_about 12 (some .int) :: wsL_law
abbrev tsX0_around : List Cond := .code yX0_around cX0_around 2 (some .int) :: wsL_law
abbrev tsX1_around : List Cond := .code yX1_around cX1_around 2 (some .int) :: wsL_law
abbrev tsX0_belongs : List Cond := .code yX0_belongs cX0_belongs 3 (some .int) :: wsL_law
abbrev tsX1_belongs : List Cond := .code yX1_belongs cX1_belongs 3 (some .int) :: wsL_law
abbrev tsX0_dense : List Cond := .code yX0_dense cX0_dense 2 (some .long) :: wsL_law
abbrev tsX0_leastReachAsCore : List Cond := .code yX0_leastReachAsCore cX0_leastReachAsCore 7 (some .long) :: wsL_law
abbrev tsX0_lastGap : List Cond := .code yX0_lastGap cX0_lastGap 2 (some .long) :: wsL_law
abbrev tsX0_keepNear : List Cond := .code yX0_keepNear cX0_keepNear 6 (some .int) :: wsL_law
abbrev tsX1_dense : List Cond := .code yX1_dense cX1_dense 2 (some .long) :: wsL_law
abbrev tsX1_findDense : List Cond := .code yX1_findDense cX1_findDense 7 (some .long) :: wsL_law
abbrev tsX0_meet : List Cond := .code yX0_meet cX0_meet 3 (some .long) :: wsL_law
abbrev tsX0_findCoreFrom : List Cond := .code yX0_findCoreFrom cX0_findCoreFrom 2 none :: wsL_law
abbrev tsX0_leastReachFrom : List Cond := .code yX0_leastReachFrom cX0_leastReachFrom 5 (some .long) :: wsL_law
abbrev tsX0_cheapestUnsettled : List Cond := .code yX0_cheapestUnsettled cX0_cheapestUnsettled 3 (some .int) :: wsL_law
abbrev tsX0_reachOnFrom : List Cond := .code yX0_reachOnFrom cX0_reachOnFrom 5 none :: wsL_law
abbrev tsX1_meet : List Cond := .code yX1_meet cX1_meet 8 (some .long) :: wsL_law
abbrev tsX1_greater : List Cond := .code yX1_greater cX1_greater 4 (some .long) :: wsL_law
abbrev tsX0_crowds : List Cond := .code yX0_crowds cX0_crowds 3 (some .int) :: wsL_law
abbrev tsX1_crowds : List Cond := .code yX1_crowds cX1_crowds 3 (some .int) :: wsL_law
abbrev tsX0_check : List Cond := .code yX0_check cX0_check 2 (some .int) :: wsL_law
abbrev tsX0_standsRight : List Cond := .code yX0_standsRight cX0_standsRight 6 (some .boolean) :: wsL_law
abbrev tsX1_check : List Cond := .code yX1_check cX1_check 1 (some .int) :: wsL_law
