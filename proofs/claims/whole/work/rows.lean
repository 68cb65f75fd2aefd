section
-- ===== PART A: goes FIRST, ahead of the names: the tables' words, and 'selects' of the private methods out of them =====
/-- a private method of a class that the tables say can be made, by its rows of tables_1 -/
def lw_okq (q : MethodName × Nat) : Prop := (q.1.cls ≠ "java/lang/invoke/MethodHandle" ∧ q.1.cls ≠ "java/lang/invoke/VarHandle") ∧ Cond.instantiable q.1.cls q.2 ∈ tables_1 ∧ Cond.privateMethod q.1 ∈ tables_1 ∧ Cond.instanceMethod q.1 ∈ tables_1
theorem lw_p0 : lw_okq (⟨"MeanderFarm$River", "followCourse", "(I)V"⟩, 14) := ⟨⟨by decide +kernel, by decide +kernel⟩, List.mem_of_getElem? (i := 22) (by decide +kernel), List.mem_of_getElem? (i := 28) (by decide +kernel), List.mem_of_getElem? (i := 29) (by decide +kernel)⟩
theorem lw_p1 : lw_okq (⟨"MeanderFarm$River", "cellAt", "(I)I"⟩, 14) := ⟨⟨by decide +kernel, by decide +kernel⟩, List.mem_of_getElem? (i := 22) (by decide +kernel), List.mem_of_getElem? (i := 38) (by decide +kernel), List.mem_of_getElem? (i := 39) (by decide +kernel)⟩
theorem lw_p2 : lw_okq (⟨"MeanderFarm$River", "isInCourse", "(I)Z"⟩, 14) := ⟨⟨by decide +kernel, by decide +kernel⟩, List.mem_of_getElem? (i := 22) (by decide +kernel), List.mem_of_getElem? (i := 42) (by decide +kernel), List.mem_of_getElem? (i := 43) (by decide +kernel)⟩
theorem lw_p3 : lw_okq (⟨"MeanderFarm$River", "throwCells", "()V"⟩, 14) := ⟨⟨by decide +kernel, by decide +kernel⟩, List.mem_of_getElem? (i := 22) (by decide +kernel), List.mem_of_getElem? (i := 52) (by decide +kernel), List.mem_of_getElem? (i := 53) (by decide +kernel)⟩
theorem lw_p4 : lw_okq (⟨"MeanderFarm", "total", "(I)I"⟩, 4) := ⟨⟨by decide +kernel, by decide +kernel⟩, List.mem_of_getElem? (i := 14) (by decide +kernel), List.mem_of_getElem? (i := 164) (by decide +kernel), List.mem_of_getElem? (i := 165) (by decide +kernel)⟩
theorem lw_p5 : lw_okq (⟨"MeanderFarm$River", "lakes", "()I"⟩, 14) := ⟨⟨by decide +kernel, by decide +kernel⟩, List.mem_of_getElem? (i := 22) (by decide +kernel), List.mem_of_getElem? (i := 168) (by decide +kernel), List.mem_of_getElem? (i := 169) (by decide +kernel)⟩
theorem lw_p6 : lw_okq (⟨"MeanderFarm$River", "cellsWithStones", "()I"⟩, 14) := ⟨⟨by decide +kernel, by decide +kernel⟩, List.mem_of_getElem? (i := 22) (by decide +kernel), List.mem_of_getElem? (i := 172) (by decide +kernel), List.mem_of_getElem? (i := 173) (by decide +kernel)⟩
theorem lw_p7 : lw_okq (⟨"MeanderFarm$River", "bends", "()I"⟩, 14) := ⟨⟨by decide +kernel, by decide +kernel⟩, List.mem_of_getElem? (i := 22) (by decide +kernel), List.mem_of_getElem? (i := 176) (by decide +kernel), List.mem_of_getElem? (i := 177) (by decide +kernel)⟩
theorem lw_p8 : lw_okq (⟨"MeanderFarm$River", "isStraight", "(I)Z"⟩, 14) := ⟨⟨by decide +kernel, by decide +kernel⟩, List.mem_of_getElem? (i := 22) (by decide +kernel), List.mem_of_getElem? (i := 180) (by decide +kernel), List.mem_of_getElem? (i := 181) (by decide +kernel)⟩
theorem lw_p9 : lw_okq (⟨"MeanderFarm$River", "allWear", "()I"⟩, 14) := ⟨⟨by decide +kernel, by decide +kernel⟩, List.mem_of_getElem? (i := 22) (by decide +kernel), List.mem_of_getElem? (i := 184) (by decide +kernel), List.mem_of_getElem? (i := 185) (by decide +kernel)⟩
theorem lw_p10 : lw_okq (⟨"MeanderFarm$River", "digestFrom", "(J)J"⟩, 14) := ⟨⟨by decide +kernel, by decide +kernel⟩, List.mem_of_getElem? (i := 22) (by decide +kernel), List.mem_of_getElem? (i := 188) (by decide +kernel), List.mem_of_getElem? (i := 189) (by decide +kernel)⟩
theorem lw_p11 : lw_okq (⟨"MeanderFarm$River", "lakeYearsLeft", "(I)I"⟩, 14) := ⟨⟨by decide +kernel, by decide +kernel⟩, List.mem_of_getElem? (i := 22) (by decide +kernel), List.mem_of_getElem? (i := 193) (by decide +kernel), List.mem_of_getElem? (i := 194) (by decide +kernel)⟩
theorem lw_p12 : lw_okq (⟨"MeanderFarm$Farms", "cellsOf", "(IILMeanderFarm$River;)I"⟩, 5) := ⟨⟨by decide +kernel, by decide +kernel⟩, List.mem_of_getElem? (i := 117) (by decide +kernel), List.mem_of_getElem? (i := 197) (by decide +kernel), List.mem_of_getElem? (i := 198) (by decide +kernel)⟩
theorem lw_p13 : lw_okq (⟨"MeanderFarm$Farms", "isFarm", "(I)Z"⟩, 5) := ⟨⟨by decide +kernel, by decide +kernel⟩, List.mem_of_getElem? (i := 117) (by decide +kernel), List.mem_of_getElem? (i := 201) (by decide +kernel), List.mem_of_getElem? (i := 202) (by decide +kernel)⟩
theorem lw_p14 : lw_okq (⟨"java/lang/Throwable", "fillInStackTrace", "(I)Ljava/lang/Throwable;"⟩, 6) := ⟨⟨by decide +kernel, by decide +kernel⟩, List.mem_of_getElem? (i := 262) (by decide +kernel), List.mem_of_getElem? (i := 260) (by decide +kernel), List.mem_of_getElem? (i := 261) (by decide +kernel)⟩
theorem lw_p15 : lw_okq (⟨"MeanderFarm$Farms", "farmsAt", "(II)I"⟩, 5) := ⟨⟨by decide +kernel, by decide +kernel⟩, List.mem_of_getElem? (i := 117) (by decide +kernel), List.mem_of_getElem? (i := 335) (by decide +kernel), List.mem_of_getElem? (i := 336) (by decide +kernel)⟩
def lw_privs_1 : List (MethodName × Nat) := [(⟨"MeanderFarm$River", "followCourse", "(I)V"⟩, 14), (⟨"MeanderFarm$River", "cellAt", "(I)I"⟩, 14), (⟨"MeanderFarm$River", "isInCourse", "(I)Z"⟩, 14), (⟨"MeanderFarm$River", "throwCells", "()V"⟩, 14), (⟨"MeanderFarm", "total", "(I)I"⟩, 4), (⟨"MeanderFarm$River", "lakes", "()I"⟩, 14), (⟨"MeanderFarm$River", "cellsWithStones", "()I"⟩, 14), (⟨"MeanderFarm$River", "bends", "()I"⟩, 14), (⟨"MeanderFarm$River", "isStraight", "(I)Z"⟩, 14), (⟨"MeanderFarm$River", "allWear", "()I"⟩, 14), (⟨"MeanderFarm$River", "digestFrom", "(J)J"⟩, 14), (⟨"MeanderFarm$River", "lakeYearsLeft", "(I)I"⟩, 14), (⟨"MeanderFarm$Farms", "cellsOf", "(IILMeanderFarm$River;)I"⟩, 5), (⟨"MeanderFarm$Farms", "isFarm", "(I)Z"⟩, 5), (⟨"java/lang/Throwable", "fillInStackTrace", "(I)Ljava/lang/Throwable;"⟩, 6), (⟨"MeanderFarm$Farms", "farmsAt", "(II)I"⟩, 5)]
theorem lw_r1 : ∀ q ∈ lw_privs_1, lw_okq q := List.forall_mem_cons.mpr ⟨lw_p0, List.forall_mem_cons.mpr ⟨lw_p1, List.forall_mem_cons.mpr ⟨lw_p2, List.forall_mem_cons.mpr ⟨lw_p3, List.forall_mem_cons.mpr ⟨lw_p4, List.forall_mem_cons.mpr ⟨lw_p5, List.forall_mem_cons.mpr ⟨lw_p6, List.forall_mem_cons.mpr ⟨lw_p7, List.forall_mem_cons.mpr ⟨lw_p8, List.forall_mem_cons.mpr ⟨lw_p9, List.forall_mem_cons.mpr ⟨lw_p10, List.forall_mem_cons.mpr ⟨lw_p11, List.forall_mem_cons.mpr ⟨lw_p12, List.forall_mem_cons.mpr ⟨lw_p13, List.forall_mem_cons.mpr ⟨lw_p14, List.forall_mem_cons.mpr ⟨lw_p15, fun _ h => absurd h List.not_mem_nil⟩⟩⟩⟩⟩⟩⟩⟩⟩⟩⟩⟩⟩⟩⟩⟩
theorem lw_p16 : lw_okq (⟨"MeanderFarm$River", "canBulge", "(II)Z"⟩, 14) := ⟨⟨by decide +kernel, by decide +kernel⟩, List.mem_of_getElem? (i := 22) (by decide +kernel), List.mem_of_getElem? (i := 360) (by decide +kernel), List.mem_of_getElem? (i := 361) (by decide +kernel)⟩
theorem lw_p17 : lw_okq (⟨"MeanderFarm$River", "isOpen", "(I)Z"⟩, 14) := ⟨⟨by decide +kernel, by decide +kernel⟩, List.mem_of_getElem? (i := 22) (by decide +kernel), List.mem_of_getElem? (i := 364) (by decide +kernel), List.mem_of_getElem? (i := 365) (by decide +kernel)⟩
theorem lw_p18 : lw_okq (⟨"MeanderFarm$River", "bulge", "(II)V"⟩, 14) := ⟨⟨by decide +kernel, by decide +kernel⟩, List.mem_of_getElem? (i := 22) (by decide +kernel), List.mem_of_getElem? (i := 384) (by decide +kernel), List.mem_of_getElem? (i := 385) (by decide +kernel)⟩
theorem lw_p19 : lw_okq (⟨"MeanderFarm$River", "takeIntoCourse", "(II)V"⟩, 14) := ⟨⟨by decide +kernel, by decide +kernel⟩, List.mem_of_getElem? (i := 22) (by decide +kernel), List.mem_of_getElem? (i := 392) (by decide +kernel), List.mem_of_getElem? (i := 393) (by decide +kernel)⟩
theorem lw_p20 : lw_okq (⟨"MeanderFarm$River", "isNeck", "(II)Z"⟩, 14) := ⟨⟨by decide +kernel, by decide +kernel⟩, List.mem_of_getElem? (i := 22) (by decide +kernel), List.mem_of_getElem? (i := 403) (by decide +kernel), List.mem_of_getElem? (i := 404) (by decide +kernel)⟩
theorem lw_p21 : lw_okq (⟨"MeanderFarm$River", "breakThrough", "(II)V"⟩, 14) := ⟨⟨by decide +kernel, by decide +kernel⟩, List.mem_of_getElem? (i := 22) (by decide +kernel), List.mem_of_getElem? (i := 408) (by decide +kernel), List.mem_of_getElem? (i := 409) (by decide +kernel)⟩
theorem lw_p22 : lw_okq (⟨"MeanderFarm$River", "necks", "()I"⟩, 14) := ⟨⟨by decide +kernel, by decide +kernel⟩, List.mem_of_getElem? (i := 22) (by decide +kernel), List.mem_of_getElem? (i := 420) (by decide +kernel), List.mem_of_getElem? (i := 421) (by decide +kernel)⟩
theorem lw_p23 : lw_okq (⟨"MeanderFarm$River", "placeOf", "(I)I"⟩, 14) := ⟨⟨by decide +kernel, by decide +kernel⟩, List.mem_of_getElem? (i := 22) (by decide +kernel), List.mem_of_getElem? (i := 424) (by decide +kernel), List.mem_of_getElem? (i := 425) (by decide +kernel)⟩
theorem lw_p24 : lw_okq (⟨"MeanderFarm$River", "widestNeck", "()I"⟩, 14) := ⟨⟨by decide +kernel, by decide +kernel⟩, List.mem_of_getElem? (i := 22) (by decide +kernel), List.mem_of_getElem? (i := 428) (by decide +kernel), List.mem_of_getElem? (i := 429) (by decide +kernel)⟩
theorem lw_p25 : lw_okq (⟨"MeanderFarm$River", "farthestAcross", "(I)I"⟩, 14) := ⟨⟨by decide +kernel, by decide +kernel⟩, List.mem_of_getElem? (i := 22) (by decide +kernel), List.mem_of_getElem? (i := 432) (by decide +kernel), List.mem_of_getElem? (i := 433) (by decide +kernel)⟩
theorem lw_p26 : lw_okq (⟨"MeanderFarm$River", "copyFrom", "(LMeanderFarm$River;)V"⟩, 14) := ⟨⟨by decide +kernel, by decide +kernel⟩, List.mem_of_getElem? (i := 22) (by decide +kernel), List.mem_of_getElem? (i := 437) (by decide +kernel), List.mem_of_getElem? (i := 438) (by decide +kernel)⟩
theorem lw_p27 : lw_okq (⟨"MeanderFarm$River", "flood", "()V"⟩, 14) := ⟨⟨by decide +kernel, by decide +kernel⟩, List.mem_of_getElem? (i := 22) (by decide +kernel), List.mem_of_getElem? (i := 441) (by decide +kernel), List.mem_of_getElem? (i := 442) (by decide +kernel)⟩
theorem lw_p28 : lw_okq (⟨"MeanderFarm$Farms", "append", "(IIII)I"⟩, 5) := ⟨⟨by decide +kernel, by decide +kernel⟩, List.mem_of_getElem? (i := 117) (by decide +kernel), List.mem_of_getElem? (i := 460) (by decide +kernel), List.mem_of_getElem? (i := 461) (by decide +kernel)⟩
theorem lw_p29 : lw_okq (⟨"MeanderFarm$River", "letPass", "(I)I"⟩, 14) := ⟨⟨by decide +kernel, by decide +kernel⟩, List.mem_of_getElem? (i := 22) (by decide +kernel), List.mem_of_getElem? (i := 481) (by decide +kernel), List.mem_of_getElem? (i := 482) (by decide +kernel)⟩
theorem lw_p30 : lw_okq (⟨"MeanderFarm$River", "wearBanks", "(I)V"⟩, 14) := ⟨⟨by decide +kernel, by decide +kernel⟩, List.mem_of_getElem? (i := 22) (by decide +kernel), List.mem_of_getElem? (i := 488) (by decide +kernel), List.mem_of_getElem? (i := 489) (by decide +kernel)⟩
theorem lw_p31 : lw_okq (⟨"MeanderFarm$River", "bulgeWhereRipest", "()Z"⟩, 14) := ⟨⟨by decide +kernel, by decide +kernel⟩, List.mem_of_getElem? (i := 22) (by decide +kernel), List.mem_of_getElem? (i := 492) (by decide +kernel), List.mem_of_getElem? (i := 493) (by decide +kernel)⟩
def lw_privs_2 : List (MethodName × Nat) := [(⟨"MeanderFarm$River", "canBulge", "(II)Z"⟩, 14), (⟨"MeanderFarm$River", "isOpen", "(I)Z"⟩, 14), (⟨"MeanderFarm$River", "bulge", "(II)V"⟩, 14), (⟨"MeanderFarm$River", "takeIntoCourse", "(II)V"⟩, 14), (⟨"MeanderFarm$River", "isNeck", "(II)Z"⟩, 14), (⟨"MeanderFarm$River", "breakThrough", "(II)V"⟩, 14), (⟨"MeanderFarm$River", "necks", "()I"⟩, 14), (⟨"MeanderFarm$River", "placeOf", "(I)I"⟩, 14), (⟨"MeanderFarm$River", "widestNeck", "()I"⟩, 14), (⟨"MeanderFarm$River", "farthestAcross", "(I)I"⟩, 14), (⟨"MeanderFarm$River", "copyFrom", "(LMeanderFarm$River;)V"⟩, 14), (⟨"MeanderFarm$River", "flood", "()V"⟩, 14), (⟨"MeanderFarm$Farms", "append", "(IIII)I"⟩, 5), (⟨"MeanderFarm$River", "letPass", "(I)I"⟩, 14), (⟨"MeanderFarm$River", "wearBanks", "(I)V"⟩, 14), (⟨"MeanderFarm$River", "bulgeWhereRipest", "()Z"⟩, 14)]
theorem lw_r2 : ∀ q ∈ lw_privs_2, lw_okq q := List.forall_mem_cons.mpr ⟨lw_p16, List.forall_mem_cons.mpr ⟨lw_p17, List.forall_mem_cons.mpr ⟨lw_p18, List.forall_mem_cons.mpr ⟨lw_p19, List.forall_mem_cons.mpr ⟨lw_p20, List.forall_mem_cons.mpr ⟨lw_p21, List.forall_mem_cons.mpr ⟨lw_p22, List.forall_mem_cons.mpr ⟨lw_p23, List.forall_mem_cons.mpr ⟨lw_p24, List.forall_mem_cons.mpr ⟨lw_p25, List.forall_mem_cons.mpr ⟨lw_p26, List.forall_mem_cons.mpr ⟨lw_p27, List.forall_mem_cons.mpr ⟨lw_p28, List.forall_mem_cons.mpr ⟨lw_p29, List.forall_mem_cons.mpr ⟨lw_p30, List.forall_mem_cons.mpr ⟨lw_p31, fun _ h => absurd h List.not_mem_nil⟩⟩⟩⟩⟩⟩⟩⟩⟩⟩⟩⟩⟩⟩⟩⟩
theorem lw_p32 : lw_okq (⟨"MeanderFarm", "landAhead", "(III)I"⟩, 4) := ⟨⟨by decide +kernel, by decide +kernel⟩, List.mem_of_getElem? (i := 14) (by decide +kernel), List.mem_of_getElem? (i := 529) (by decide +kernel), List.mem_of_getElem? (i := 530) (by decide +kernel)⟩
theorem lw_p33 : lw_okq (⟨"MeanderFarmModel", "place", "()V"⟩, 11) := ⟨⟨by decide +kernel, by decide +kernel⟩, List.mem_of_getElem? (i := 534) (by decide +kernel), List.mem_of_getElem? (i := 540) (by decide +kernel), List.mem_of_getElem? (i := 541) (by decide +kernel)⟩
theorem lw_p34 : lw_okq (⟨"MeanderFarmModel", "length", "()I"⟩, 11) := ⟨⟨by decide +kernel, by decide +kernel⟩, List.mem_of_getElem? (i := 534) (by decide +kernel), List.mem_of_getElem? (i := 544) (by decide +kernel), List.mem_of_getElem? (i := 545) (by decide +kernel)⟩
theorem lw_p35 : lw_okq (⟨"MeanderFarmModel", "fail", "(I)I"⟩, 11) := ⟨⟨by decide +kernel, by decide +kernel⟩, List.mem_of_getElem? (i := 534) (by decide +kernel), List.mem_of_getElem? (i := 596) (by decide +kernel), List.mem_of_getElem? (i := 597) (by decide +kernel)⟩
theorem lw_p36 : lw_okq (⟨"MeanderFarmModel", "allStones", "()I"⟩, 11) := ⟨⟨by decide +kernel, by decide +kernel⟩, List.mem_of_getElem? (i := 534) (by decide +kernel), List.mem_of_getElem? (i := 604) (by decide +kernel), List.mem_of_getElem? (i := 605) (by decide +kernel)⟩
theorem lw_p37 : lw_okq (⟨"MeanderFarmModel", "isOf", "(II)Z"⟩, 11) := ⟨⟨by decide +kernel, by decide +kernel⟩, List.mem_of_getElem? (i := 534) (by decide +kernel), List.mem_of_getElem? (i := 616) (by decide +kernel), List.mem_of_getElem? (i := 617) (by decide +kernel)⟩
theorem lw_p38 : lw_okq (⟨"MeanderFarmModel", "isCourse", "(I)Z"⟩, 11) := ⟨⟨by decide +kernel, by decide +kernel⟩, List.mem_of_getElem? (i := 534) (by decide +kernel), List.mem_of_getElem? (i := 624) (by decide +kernel), List.mem_of_getElem? (i := 625) (by decide +kernel)⟩
theorem lw_p39 : lw_okq (⟨"MeanderFarmModel", "direction", "(I)I"⟩, 11) := ⟨⟨by decide +kernel, by decide +kernel⟩, List.mem_of_getElem? (i := 534) (by decide +kernel), List.mem_of_getElem? (i := 628) (by decide +kernel), List.mem_of_getElem? (i := 629) (by decide +kernel)⟩
theorem lw_p40 : lw_okq (⟨"MeanderFarmModel", "isStraight", "(I)Z"⟩, 11) := ⟨⟨by decide +kernel, by decide +kernel⟩, List.mem_of_getElem? (i := 534) (by decide +kernel), List.mem_of_getElem? (i := 632) (by decide +kernel), List.mem_of_getElem? (i := 633) (by decide +kernel)⟩
theorem lw_p41 : lw_okq (⟨"MeanderFarmModel", "side", "(I)I"⟩, 11) := ⟨⟨by decide +kernel, by decide +kernel⟩, List.mem_of_getElem? (i := 534) (by decide +kernel), List.mem_of_getElem? (i := 636) (by decide +kernel), List.mem_of_getElem? (i := 637) (by decide +kernel)⟩
theorem lw_p42 : lw_okq (⟨"MeanderFarmModel", "bank", "(I)I"⟩, 11) := ⟨⟨by decide +kernel, by decide +kernel⟩, List.mem_of_getElem? (i := 534) (by decide +kernel), List.mem_of_getElem? (i := 640) (by decide +kernel), List.mem_of_getElem? (i := 641) (by decide +kernel)⟩
theorem lw_p43 : lw_okq (⟨"MeanderFarmModel", "canBulge", "(II)Z"⟩, 11) := ⟨⟨by decide +kernel, by decide +kernel⟩, List.mem_of_getElem? (i := 534) (by decide +kernel), List.mem_of_getElem? (i := 651) (by decide +kernel), List.mem_of_getElem? (i := 652) (by decide +kernel)⟩
theorem lw_p44 : lw_okq (⟨"MeanderFarmModel", "bulge", "(II)V"⟩, 11) := ⟨⟨by decide +kernel, by decide +kernel⟩, List.mem_of_getElem? (i := 534) (by decide +kernel), List.mem_of_getElem? (i := 655) (by decide +kernel), List.mem_of_getElem? (i := 656) (by decide +kernel)⟩
theorem lw_p45 : lw_okq (⟨"MeanderFarmModel", "isNeck", "(II)Z"⟩, 11) := ⟨⟨by decide +kernel, by decide +kernel⟩, List.mem_of_getElem? (i := 534) (by decide +kernel), List.mem_of_getElem? (i := 663) (by decide +kernel), List.mem_of_getElem? (i := 664) (by decide +kernel)⟩
theorem lw_p46 : lw_okq (⟨"MeanderFarmModel", "breakThrough", "(II)V"⟩, 11) := ⟨⟨by decide +kernel, by decide +kernel⟩, List.mem_of_getElem? (i := 534) (by decide +kernel), List.mem_of_getElem? (i := 670) (by decide +kernel), List.mem_of_getElem? (i := 671) (by decide +kernel)⟩
theorem lw_p47 : lw_okq (⟨"MeanderFarmModel", "first", "()I"⟩, 11) := ⟨⟨by decide +kernel, by decide +kernel⟩, List.mem_of_getElem? (i := 534) (by decide +kernel), List.mem_of_getElem? (i := 678) (by decide +kernel), List.mem_of_getElem? (i := 679) (by decide +kernel)⟩
def lw_privs_3 : List (MethodName × Nat) := [(⟨"MeanderFarm", "landAhead", "(III)I"⟩, 4), (⟨"MeanderFarmModel", "place", "()V"⟩, 11), (⟨"MeanderFarmModel", "length", "()I"⟩, 11), (⟨"MeanderFarmModel", "fail", "(I)I"⟩, 11), (⟨"MeanderFarmModel", "allStones", "()I"⟩, 11), (⟨"MeanderFarmModel", "isOf", "(II)Z"⟩, 11), (⟨"MeanderFarmModel", "isCourse", "(I)Z"⟩, 11), (⟨"MeanderFarmModel", "direction", "(I)I"⟩, 11), (⟨"MeanderFarmModel", "isStraight", "(I)Z"⟩, 11), (⟨"MeanderFarmModel", "side", "(I)I"⟩, 11), (⟨"MeanderFarmModel", "bank", "(I)I"⟩, 11), (⟨"MeanderFarmModel", "canBulge", "(II)Z"⟩, 11), (⟨"MeanderFarmModel", "bulge", "(II)V"⟩, 11), (⟨"MeanderFarmModel", "isNeck", "(II)Z"⟩, 11), (⟨"MeanderFarmModel", "breakThrough", "(II)V"⟩, 11), (⟨"MeanderFarmModel", "first", "()I"⟩, 11)]
theorem lw_r3 : ∀ q ∈ lw_privs_3, lw_okq q := List.forall_mem_cons.mpr ⟨lw_p32, List.forall_mem_cons.mpr ⟨lw_p33, List.forall_mem_cons.mpr ⟨lw_p34, List.forall_mem_cons.mpr ⟨lw_p35, List.forall_mem_cons.mpr ⟨lw_p36, List.forall_mem_cons.mpr ⟨lw_p37, List.forall_mem_cons.mpr ⟨lw_p38, List.forall_mem_cons.mpr ⟨lw_p39, List.forall_mem_cons.mpr ⟨lw_p40, List.forall_mem_cons.mpr ⟨lw_p41, List.forall_mem_cons.mpr ⟨lw_p42, List.forall_mem_cons.mpr ⟨lw_p43, List.forall_mem_cons.mpr ⟨lw_p44, List.forall_mem_cons.mpr ⟨lw_p45, List.forall_mem_cons.mpr ⟨lw_p46, List.forall_mem_cons.mpr ⟨lw_p47, fun _ h => absurd h List.not_mem_nil⟩⟩⟩⟩⟩⟩⟩⟩⟩⟩⟩⟩⟩⟩⟩⟩
theorem lw_p48 : lw_okq (⟨"MeanderFarmModel", "far", "(I)I"⟩, 11) := ⟨⟨by decide +kernel, by decide +kernel⟩, List.mem_of_getElem? (i := 534) (by decide +kernel), List.mem_of_getElem? (i := 682) (by decide +kernel), List.mem_of_getElem? (i := 683) (by decide +kernel)⟩
theorem lw_p49 : lw_okq (⟨"MeanderFarmModel", "necks", "()I"⟩, 11) := ⟨⟨by decide +kernel, by decide +kernel⟩, List.mem_of_getElem? (i := 534) (by decide +kernel), List.mem_of_getElem? (i := 687) (by decide +kernel), List.mem_of_getElem? (i := 688) (by decide +kernel)⟩
theorem lw_p50 : lw_okq (⟨"MeanderFarmModel", "kept", "()[[I"⟩, 11) := ⟨⟨by decide +kernel, by decide +kernel⟩, List.mem_of_getElem? (i := 534) (by decide +kernel), List.mem_of_getElem? (i := 691) (by decide +kernel), List.mem_of_getElem? (i := 692) (by decide +kernel)⟩
theorem lw_p51 : lw_okq (⟨"MeanderFarmModel", "flood", "()V"⟩, 11) := ⟨⟨by decide +kernel, by decide +kernel⟩, List.mem_of_getElem? (i := 534) (by decide +kernel), List.mem_of_getElem? (i := 703) (by decide +kernel), List.mem_of_getElem? (i := 704) (by decide +kernel)⟩
theorem lw_p52 : lw_okq (⟨"MeanderFarmModel", "bringBack", "([[I)V"⟩, 11) := ⟨⟨by decide +kernel, by decide +kernel⟩, List.mem_of_getElem? (i := 534) (by decide +kernel), List.mem_of_getElem? (i := 707) (by decide +kernel), List.mem_of_getElem? (i := 708) (by decide +kernel)⟩
theorem lw_p53 : lw_okq (⟨"MeanderFarmModel", "isFarm", "(I)Z"⟩, 11) := ⟨⟨by decide +kernel, by decide +kernel⟩, List.mem_of_getElem? (i := 534) (by decide +kernel), List.mem_of_getElem? (i := 720) (by decide +kernel), List.mem_of_getElem? (i := 721) (by decide +kernel)⟩
theorem lw_p54 : lw_okq (⟨"MeanderFarmModel", "farmTold", "(II)I"⟩, 11) := ⟨⟨by decide +kernel, by decide +kernel⟩, List.mem_of_getElem? (i := 534) (by decide +kernel), List.mem_of_getElem? (i := 724) (by decide +kernel), List.mem_of_getElem? (i := 725) (by decide +kernel)⟩
theorem lw_p55 : lw_okq (⟨"MeanderFarmModel", "yearsOn", "(I)I"⟩, 11) := ⟨⟨by decide +kernel, by decide +kernel⟩, List.mem_of_getElem? (i := 534) (by decide +kernel), List.mem_of_getElem? (i := 732) (by decide +kernel), List.mem_of_getElem? (i := 733) (by decide +kernel)⟩
theorem lw_p56 : lw_okq (⟨"MeanderFarmModel", "yearOn", "()Z"⟩, 11) := ⟨⟨by decide +kernel, by decide +kernel⟩, List.mem_of_getElem? (i := 534) (by decide +kernel), List.mem_of_getElem? (i := 736) (by decide +kernel), List.mem_of_getElem? (i := 737) (by decide +kernel)⟩
theorem lw_p57 : lw_okq (⟨"MeanderFarmModel", "counted", "(I)I"⟩, 11) := ⟨⟨by decide +kernel, by decide +kernel⟩, List.mem_of_getElem? (i := 534) (by decide +kernel), List.mem_of_getElem? (i := 744) (by decide +kernel), List.mem_of_getElem? (i := 745) (by decide +kernel)⟩
def lw_privs_4 : List (MethodName × Nat) := [(⟨"MeanderFarmModel", "far", "(I)I"⟩, 11), (⟨"MeanderFarmModel", "necks", "()I"⟩, 11), (⟨"MeanderFarmModel", "kept", "()[[I"⟩, 11), (⟨"MeanderFarmModel", "flood", "()V"⟩, 11), (⟨"MeanderFarmModel", "bringBack", "([[I)V"⟩, 11), (⟨"MeanderFarmModel", "isFarm", "(I)Z"⟩, 11), (⟨"MeanderFarmModel", "farmTold", "(II)I"⟩, 11), (⟨"MeanderFarmModel", "yearsOn", "(I)I"⟩, 11), (⟨"MeanderFarmModel", "yearOn", "()Z"⟩, 11), (⟨"MeanderFarmModel", "counted", "(I)I"⟩, 11)]
theorem lw_r4 : ∀ q ∈ lw_privs_4, lw_okq q := List.forall_mem_cons.mpr ⟨lw_p48, List.forall_mem_cons.mpr ⟨lw_p49, List.forall_mem_cons.mpr ⟨lw_p50, List.forall_mem_cons.mpr ⟨lw_p51, List.forall_mem_cons.mpr ⟨lw_p52, List.forall_mem_cons.mpr ⟨lw_p53, List.forall_mem_cons.mpr ⟨lw_p54, List.forall_mem_cons.mpr ⟨lw_p55, List.forall_mem_cons.mpr ⟨lw_p56, List.forall_mem_cons.mpr ⟨lw_p57, fun _ h => absurd h List.not_mem_nil⟩⟩⟩⟩⟩⟩⟩⟩⟩⟩
def lw_privs : List (MethodName × Nat) := lw_privs_1 ++ (lw_privs_2 ++ (lw_privs_3 ++ (lw_privs_4)))
def lw_tbl : List Cond := k2_sels lw_privs ++ tables_1
theorem lw_privs_ok : ∀ q ∈ lw_privs, lw_okq q := by
  show ∀ q ∈ lw_privs_1 ++ (lw_privs_2 ++ (lw_privs_3 ++ (lw_privs_4))), lw_okq q
  exact List.forall_mem_append.mpr ⟨lw_r1, List.forall_mem_append.mpr ⟨lw_r2, List.forall_mem_append.mpr ⟨lw_r3, lw_r4⟩⟩⟩
/-- the streams that the claim lets the run draw from -/
abbrev lw_cs : List Choice := [Jvm.Choice.named "NaN.bits"]
theorem lw_bits : nanBits ∈ lw_cs := by first | decide | exact List.mem_cons_self | simp [lw_cs, nanBits]
-- ===== end of PART A; then your names; then what follows =====
/-! ===== BEGIN words of one list among another's, by their places ===== -/
theorem goodIn_r {big : List Cond} (ws : List Cond) (ps : List Nat) (hp : ws = ps.filterMap (fun i => big[i]?)) (h : ws.all goodWord = true) : GoodIn big ws := by
  intro w hw
  have h1 := List.all_eq_true.mp h w hw
  rw [hp] at hw
  obtain ⟨i, -, hi⟩ := List.mem_filterMap.mp hw
  have hm : w ∈ big := by first | exact List.mem_of_getElem? hi | exact List.getElem?_mem hi
  exact ⟨hm, good_of_word h1⟩
theorem goodIn_app {big a b : List Cond} (ha : GoodIn big a) (hb : GoodIn big b) : GoodIn big (a ++ b) := fun w h => (List.mem_append.mp h).elim (ha w) (hb w)
theorem goodIn_ca {big a b : List Cond} {c : Cond} (ha : GoodIn big (c :: a)) (hb : GoodIn big b) : GoodIn big (c :: (a ++ b)) := fun w h => (List.mem_cons.mp h).elim (fun e => ha w (List.mem_cons.mpr (Or.inl e))) (fun h => (List.mem_append.mp h).elim (fun h => ha w (List.mem_cons.mpr (Or.inr h))) (hb w))
theorem goodIn_sub {big ws : List Cond} (hm : ∀ w ∈ ws, w ∈ big) (h : ws.all goodWord = true) : GoodIn big ws := fun w hw => ⟨hm w hw, good_of_word (List.all_eq_true.mp h w hw)⟩
/-! ===== END ===== -/

/-! ===== BEGIN exceptions that leave a method, and their catching by the caller (launches without stack traces) ===== -/
section VXA
/-! The laws vx_back, vx_callV, vx_callS, vx_callSW, vx_throw0, vx_throwS follow proofs of the library, with one case more: JvmDerived/Free/Laws.lean (Back.of_free), Shelf42/LK1.lean (callV, callS), Shelf/KitTraced.lean (throwNew0V, throwNewS). -/
/-- where a method has thrown q: the class by its name, the cell, what was written, the world -/
def vx_T (XC : String → State → State → Prop) (st : State) (q : Addr) (t : State) (mc ms : Nat) (free : Addr → Prop) : Prop :=
  ∃ (E : String) (ce : Cell) (L : List Loc), XC E st t ∧ t.heap[q]? = some ce ∧ ce.vm = .none ∧ st.vm.findClass E = some ce.cls ∧ st.WarmedH t.vm ∧ st.sameButNew ({ t with vm := st.vm } : State) L mc ms ∧ ∀ z ∈ L, free z.base
def vx_Q (Qc : Array Value → State → Outcome → State → Prop) (XC : String → State → State → Prop) (mc ms : Nat) (free : Addr → Prop) : Array Value → State → Outcome → State → Prop := fun a st o t =>
  (Qc a st o t ∧ ∃ L, FrameEnd st o t L mc ms ∧ ∀ q ∈ L, free q.base) ∨ ∃ q, o = .threw q ∧ vx_T XC st q t mc ms free
/-- a callee that returns or throws -/
def vx_Met (l : Launch) (y : MethodName) (ws : List Cond) (rm : Room) (Pc : Array Value → State → Prop) (Qc : Array Value → State → Outcome → State → Prop) (XC : String → State → State → Prop) (mc ms : Nat) (free : Addr → Prop) : Prop :=
  MetFree l y (headSpec ws rm) Pc (fun _ _ _ _ _ => True) (vx_Q Qc XC mc ms free)
def vx_Post (XC : String → State → State → Prop) (mc ms : Nat) (free : Addr → Prop) : Pt → Array Value → Addr → Pt → Prop := fun A a q B =>
  ∃ (g : JFrame) (mk : MethodId) (t : State) (L : List Loc) (E : String) (ce : Cell), B.U.heap = t.heap ∧ B.U.vm = t.vm ∧ XC E (A.U.calling g mk a) t ∧ t.heap[q]? = some ce ∧ ce.vm = .none ∧ A.U.vm.findClass E = some ce.cls ∧ B.locs = A.locs ++ L ∧ (∀ z ∈ L, free z.base) ∧ B.cells = A.cells + mc ∧ B.slots = A.slots + ms
def vx_Back (l : Launch) (R : Room) (p : Program) (e : Env) (below : List Frame) (s : State) (sargs : Array Value) (y : MethodName) (len W9 : Nat)
    (Pre : Pt → Array Value → Prop) (Post : Pt → Array Value → Option Value → Pt → Prop) (PostX : Pt → Array Value → Addr → Pt → Prop) : Prop :=
  ∀ (m : MethodId) (meth : Method) (c : Code) (A : Pt) (g : JFrame) (ig : Instr) (mk : MethodId) (a : Array Value),
    Stand p l e R s m sargs below meth c A.U A.locs A.cells A.slots → g.method = m → g.locals.size = c.maxLocals → decode c.code g.pc = .ok (ig, len) →
    2 * g.monitorRoom + (g.stack.map fun v => v.category).sum ≤ W9 → A.U.methodNamed? y = some mk → Pre A a →
    (∃ (v : Option Value) (B : Pt), Stand p l e R s m sargs below meth c B.U B.locs B.cells B.slots ∧ Post A a v B ∧
      Steps p.tables e below (doInvoke e (A.U.setTop g) [] mk a).1 (B.U.setTop { g with pc := g.pc + len, stack := v.toList ++ g.stack })) ∨
    (∃ (q : Addr) (B : Pt), Stand p l e R s m sargs below meth c B.U B.locs B.cells B.slots ∧ PostX A a q B ∧
      Steps p.tables e below (doInvoke e (A.U.setTop g) [] mk a).1 ((B.U.setTop g).pushFrame (.throwing q)))
section Payer
variable {l : Launch} {R : Room} {p : Program} {e : Env} {below : List Frame} {s : State} {sargs : Array Value} {y : MethodName} {len W9 : Nat}
theorem vx_back {ws : List Cond} {rm : Room} {Pc : Array Value → State → Prop} {Qc : Array Value → State → Outcome → State → Prop} {XC : String → State → State → Prop} {mc ms : Nat} {free : Addr → Prop} {bytes : ByteArray} {maxL : Nat} {ret : Option FieldType}
    (hM : vx_Met l y ws rm Pc Qc XC mc ms free) (hblind : FrameBlind Pc) (hrc : rm.cells = mc) (hrs : rm.slots = ms)
    (hframes : rm.frames + 1 ≤ R.frames) (hlocals : W9 + (maxL + 11) + rm.locals ≤ R.locals)
    (hws : ∀ w ∈ ws, ∀ a' U, s.WarmedH U.vm → w.before a' U = true) (hcode : Cond.code y bytes maxL ret ∈ ws) (hinit : ∀ a' U, s.WarmedH U.vm → (Cond.initialized y.cls).before a' U = true) :
    vx_Back l R p e below s sargs y len W9 (PreOf R mc ms Pc) (PostOf Qc mc ms free) (vx_Post XC mc ms free) := by
  intro m meth c A g ig mk a X hg hsize hdg hW hn hp
  have h1 : (headSpec ws rm).pre.before a A.U = true := atoms_intro fun w hw => hws w hw _ _ X.warmed
  have h2 : (Cond.code y bytes maxL ret).before a A.U = true := hws _ hcode _ _ X.warmed
  have h3 : (Cond.initialized y.cls).before a A.U = true := hinit _ _ X.warmed
  have h4 : A.cells + (headSpec ws rm).room.cells ≤ R.cells := by rw [show (headSpec ws rm).room.cells = mc from hrc]; exact hp.1
  have h5 : A.slots + (headSpec ws rm).room.slots ≤ R.slots := by rw [show (headSpec ws rm).room.slots = ms from hrs]; exact hp.2.1
  have hPc : Pc a (A.U.calling g mk a) := hblind _ _ _ _ hp.2.2
  obtain ⟨U, Ls, c0, s0⟩ := A
  dsimp only [Pt.U, Pt.locs, Pt.cells, Pt.slots] at h1 h2 h3 h4 h5 X hn hPc ⊢
  obtain ⟨methY, cY, hmY, hcY, -, hlY, -, -, -, -⟩ := Cond.code_spec hn h2
  obtain ⟨kY, hkY, -⟩ := className_of_methodNamed hn
  have hinitY : kY.init = .initialized := Cond.initialized_spec (findClass_of_methodNamed hn) hkY h3
  have h : At U g.method c below := by rw [hg]; exact X.here
  have hlocals9 : W9 + (maxL + 11) + (headSpec ws rm).room.locals ≤ R.locals := hlocals
  have happ : (headSpec ws rm).appliesLoose y e.platform (U.calling g mk a) = true :=
    Spec.appliesLoose_calling (g := g) h hdg hn hkY hinitY
      (X.room_calling (g := g) (R' := (headSpec ws rm).room) hsize hmY hcY hframes (by rw [hlY]; omega) h4 h5) h1
  obtain ⟨mid, hmid⟩ := h.above
  have hfr : (U.setTop g).frames = (.java g :: mid) ++ below := by rw [State.frames_setTop' g h.top, hmid]; rfl
  obtain ⟨o, s₂, hsteps, -, hend, hq⟩ := Steps.callFree hM p X.admits X.cas X.clock (acts := []) hfr happ hPc trivial
  have hq' : vx_Q Qc XC mc ms free a (U.calling g mk a) o s₂ := hq
  rw [State.frames_setTop' g h.top] at hend
  obtain ⟨g₀, hg0⟩ := Option.isSome_iff_exists.mp h.top
  obtain ⟨r, hr⟩ := State.topJava?_eq_some.mp hg0
  have hr' : (({ U with heap := s₂.heap, slotsUsed := s₂.slotsUsed } : State).setVm s₂.vm).frames = .java g₀ :: r := hr
  rcases hq' with ⟨hqc, L, hfe, hL⟩ | ⟨q, rfl, E, ce, L, hx, hce, hcv, hcl, hW₂, hsm, hL⟩
  · obtain ⟨⟨v, rfl⟩, hW₂, e2, q2, q3, q4, q5, q6⟩ := id hfe
    have e3 : s₂ = ({ (U.calling g mk a).setFrames s₂.frames with heap := s₂.heap, slotsUsed := s₂.slotsUsed } : State).setVm s₂.vm := by
      have : s₂ = ({ s₂ with vm := (U.calling g mk a).vm } : State).setVm s₂.vm := rfl
      rw [e2] at this
      exact this
    obtain ⟨c₂, i₂, len₂, hc₂, hd₂, hf₂⟩ := hend
    have hW' : U.WarmedH s₂.vm := hW₂
    have hcc : c₂ = c := by
      have h1 : s₂.code? g.method = U.code? g.method := by
        rw [State.code?_eq, State.code?_eq, hW'.alike.method?]
      exact Option.some.inj (hc₂.symm.trans (h1.trans h.code))
    subst hcc
    have hlen : len₂ = len := by rw [hdg] at hd₂; cases hd₂; rfl
    subst hlen
    have hs₂ : s₂ = (({ U with heap := s₂.heap, slotsUsed := s₂.slotsUsed } : State).setVm s₂.vm).setTop { g with pc := g.pc + len₂, stack := v.toList ++ g.stack } := by
      refine e3.trans ?_
      rw [hf₂, State.calling_eq h.top, State.setFrames_setFrames, State.setTop_of_frames _ hr', hr]
      rfl
    have hsame : U.sameButNew ({ U with heap := s₂.heap, slotsUsed := s₂.slotsUsed } : State) L mc ms := by
      refine ⟨?_, q2, q3, q4, q5, q6⟩
      obtain ⟨t, ht, -⟩ := State.frames_cons hr
      show ({ U with heap := s₂.heap, slotsUsed := s₂.slotsUsed } : State) = { U.setFrames U.frames with heap := s₂.heap, slotsUsed := s₂.slotsUsed }
      rw [State.setFrames_self ht]
    subst hg
    refine Or.inl ⟨v, ⟨(({ U with heap := s₂.heap, slotsUsed := s₂.slotsUsed } : State).setVm s₂.vm), Ls ++ L, c0 + mc, s0 + ms⟩,
      ⟨X.admits, X.cas, X.clock, X.frames, X.room, X.hears, X.method, X.code, (X.here.setHeapUsed s₂.heap s₂.slotsUsed).setVm hW'.alike, X.tail, State.WarmedH.trans X.warmed hW', X.limits, X.bytes, X.same.trans (hsame.setVm s.vm)⟩,
      ⟨g, mk, s₂, L, rfl, rfl, hqc, rfl, hL, rfl, rfl⟩, ?_⟩
    show Steps p.tables e below _ ((({ U with heap := s₂.heap, slotsUsed := s₂.slotsUsed } : State).setVm s₂.vm).setTop { g with pc := g.pc + len₂, stack := v.toList ++ g.stack })
    rw [← hs₂]
    exact hsteps
  · obtain ⟨e2, q2, q3, q4, q5, q6⟩ := id hsm
    have e3 : s₂ = ({ (U.calling g mk a).setFrames s₂.frames with heap := s₂.heap, slotsUsed := s₂.slotsUsed } : State).setVm s₂.vm := by
      have : s₂ = ({ s₂ with vm := (U.calling g mk a).vm } : State).setVm s₂.vm := rfl
      rw [e2] at this
      exact this
    have hf₂ : s₂.frames = .throwing q :: .java g :: U.frames.tail := hend
    have hW' : U.WarmedH s₂.vm := hW₂
    have hs₂ : s₂ = ((({ U with heap := s₂.heap, slotsUsed := s₂.slotsUsed } : State).setVm s₂.vm).setTop g).pushFrame (.throwing q) := by
      refine e3.trans ?_
      rw [hf₂, State.calling_eq h.top, State.setFrames_setFrames, State.pushFrame, State.frames_setTop _ hr', State.setTop_of_frames _ hr', State.setFrames_setFrames, hr]
      rfl
    have hsame : U.sameButNew ({ U with heap := s₂.heap, slotsUsed := s₂.slotsUsed } : State) L mc ms := by
      refine ⟨?_, q2, q3, q4, q5, q6⟩
      obtain ⟨t, ht, -⟩ := State.frames_cons hr
      show ({ U with heap := s₂.heap, slotsUsed := s₂.slotsUsed } : State) = { U.setFrames U.frames with heap := s₂.heap, slotsUsed := s₂.slotsUsed }
      rw [State.setFrames_self ht]
    subst hg
    refine Or.inr ⟨q, ⟨(({ U with heap := s₂.heap, slotsUsed := s₂.slotsUsed } : State).setVm s₂.vm), Ls ++ L, c0 + mc, s0 + ms⟩,
      ⟨X.admits, X.cas, X.clock, X.frames, X.room, X.hears, X.method, X.code, (X.here.setHeapUsed s₂.heap s₂.slotsUsed).setVm hW'.alike, X.tail, State.WarmedH.trans X.warmed hW', X.limits, X.bytes, X.same.trans (hsame.setVm s.vm)⟩,
      ⟨g, mk, s₂, L, E, ce, rfl, rfl, hx, hce, hcv, hcl, rfl, hL, rfl, rfl⟩, ?_⟩
    show Steps p.tables e below _ (((({ U with heap := s₂.heap, slotsUsed := s₂.slotsUsed } : State).setVm s₂.vm).setTop g).pushFrame (.throwing q))
    rw [← hs₂]
    exact hsteps
end Payer
section Calls
variable {p : Program} {l : Launch} {e : Env} {R : Room} {s : State} {m : MethodId} {args : Array Value} {below : List Frame} {meth : Method} {c : Code} {T : State} {locs : List Loc} {cells slots : Nat}
theorem vx_callV (X : Stand p l e R s m args below meth c T locs cells slots) (hexec : p.tables.exec = Jvm.exec) {own C : String} {index : Nat} {y : MethodName} {bytes : ByteArray} {maxL : Nat} {ret : Option FieldType}
    (hown : s.vm.findClass own = some m.cls) (hlink : (Cond.methodLink own index y).before args s = true) (hinst : (Cond.instanceMethod y).before args s = true) (hsel : (Cond.selects C y y).before args s = true)
    (hcode : (Cond.code y bytes maxL ret).before args s = true) (hy : y.cls ≠ "java/lang/invoke/MethodHandle" ∧ y.cls ≠ "java/lang/invoke/VarHandle")
    {W9 : Nat} {Pre : Pt → Array Value → Prop} {Post : Pt → Array Value → Option Value → Pt → Prop} {PostX : Pt → Array Value → Addr → Pt → Prop} (hK : vx_Back l R p e below s args y 3 W9 Pre Post PostX)
    {b : Addr} {cellB : Cell} (hcell : T.heap[b]? = some cellB) (hobj : cellB.vm.isStatics = false) (hcls : s.vm.findClass C = some cellB.cls)
    {g : JFrame} (hg : g.method = m) (hsize : g.locals.size = c.maxLocals) {argsL rest : List Value} (hlen : ∀ sig, parseMethodDescriptor y.desc = some sig → argsL.length = sig.parameters.length)
    (hstack : g.stack = argsL.reverse ++ .ref b :: rest) (hW : 2 * g.monitorRoom + (rest.map fun v => v.category).sum ≤ W9) (hdg : decode c.code g.pc = .ok (.invokevirtual index, 3))
    (hpre : ∀ vm₁, s.WarmedH vm₁ → Pre ⟨T.setVm vm₁, locs, cells, slots⟩ (Value.ref b :: argsL).toArray) :
    (∃ (v : Option Value) (vm₁ : Vm) (B : Pt), s.WarmedH vm₁ ∧ Stand p l e R s m args below meth c B.U B.locs B.cells B.slots ∧ Post ⟨T.setVm vm₁, locs, cells, slots⟩ (Value.ref b :: argsL).toArray v B ∧
      ∀ target, Steps p.tables e below (B.U.setTop { g with pc := g.pc + 3, stack := v.toList ++ rest }) target → Steps p.tables e below (T.setTop g) target) ∨
    (∃ (q : Addr) (vm₁ : Vm) (B : Pt), s.WarmedH vm₁ ∧ Stand p l e R s m args below meth c B.U B.locs B.cells B.slots ∧ PostX ⟨T.setVm vm₁, locs, cells, slots⟩ (Value.ref b :: argsL).toArray q B ∧
      Steps p.tables e below (T.setTop g) ((B.U.setTop { g with stack := rest }).pushFrame (.throwing q))) := by
  obtain ⟨mk, methM, hnamed, hmethM, hstM, habM⟩ := Cond.instanceMethod_spec hinst
  obtain ⟨methM', cM, hmethM', -, -, -, -, -, -, hsigM⟩ := Cond.code_spec hnamed hcode
  cases hmethM.symm.trans hmethM'
  obtain ⟨c2, r2, m2, q1, q2, q3, q4, kP, hkP, hkPi⟩ := Cond.selects_spec hsel
  cases hcls.symm.trans q1
  cases (State.methodFound?_of_named hnamed hy).symm.trans q2
  cases hnamed.symm.trans q3
  have hselP : selectMethod e.platform s.vm cellB.cls mk = .method mk := by rw [Launch.admits_selectMethod X.admits]; exact q4
  obtain ⟨vm₁, X₁, hstep₁⟩ := X.invokevirtual hexec hown hlink hnamed hmethM hstM hkP hkPi hy (a := b) (cell := cellB) hcell
    (fun z h => by rw [h] at hobj; cases hobj) hselP hmethM habM hkP hkPi (g := g) hg (argsL := argsL) (rest := rest) (hlen _ hsigM) hstack hdg
  rcases hK m meth c ⟨T.setVm vm₁, locs, cells, slots⟩ { g with stack := rest } (.invokevirtual index) mk (Value.ref b :: argsL).toArray X₁ hg hsize hdg hW (X₁.named hnamed) (hpre vm₁ X₁.warmed) with ⟨v, B, X', hpost, hsteps⟩ | ⟨q, B, X', hpost, hsteps⟩
  · exact Or.inl ⟨v, vm₁, B, X₁.warmed, X', hpost, fun target h => hstep₁ _ fun acts => by rw [doInvoke_state]; exact hsteps.trans h⟩
  · exact Or.inr ⟨q, vm₁, B, X₁.warmed, X', hpost, hstep₁ _ fun acts => by rw [doInvoke_state]; exact hsteps⟩
theorem vx_callS (X : Stand p l e R s m args below meth c T locs cells slots) (hexec : p.tables.exec = Jvm.exec) {own : String} {index : Nat} {y : MethodName} {bytes : ByteArray} {maxL : Nat} {ret : Option FieldType}
    (hown : s.vm.findClass own = some m.cls) (hlink : (Cond.methodLink own index y).before args s = true) (hstat : (Cond.static y).before args s = true) (hinit : (Cond.initialized y.cls).before args s = true)
    (hcode : (Cond.code y bytes maxL ret).before args s = true) (hy : y.cls ≠ "java/lang/invoke/MethodHandle" ∧ y.cls ≠ "java/lang/invoke/VarHandle")
    {W9 : Nat} {Pre : Pt → Array Value → Prop} {Post : Pt → Array Value → Option Value → Pt → Prop} {PostX : Pt → Array Value → Addr → Pt → Prop} (hK : vx_Back l R p e below s args y 3 W9 Pre Post PostX)
    {g : JFrame} (hg : g.method = m) (hsize : g.locals.size = c.maxLocals) {argsL rest : List Value} (hlen : ∀ sig, parseMethodDescriptor y.desc = some sig → argsL.length = sig.parameters.length)
    (hstack : g.stack = argsL.reverse ++ rest) (hW : 2 * g.monitorRoom + (rest.map fun v => v.category).sum ≤ W9) (hdg : decode c.code g.pc = .ok (.invokestatic index, 3))
    (hpre : ∀ vm₁, s.WarmedH vm₁ → Pre ⟨T.setVm vm₁, locs, cells, slots⟩ argsL.toArray) :
    (∃ (v : Option Value) (vm₁ : Vm) (B : Pt), s.WarmedH vm₁ ∧ Stand p l e R s m args below meth c B.U B.locs B.cells B.slots ∧ Post ⟨T.setVm vm₁, locs, cells, slots⟩ argsL.toArray v B ∧
      ∀ target, Steps p.tables e below (B.U.setTop { g with pc := g.pc + 3, stack := v.toList ++ rest }) target → Steps p.tables e below (T.setTop g) target) ∨
    (∃ (q : Addr) (vm₁ : Vm) (B : Pt), s.WarmedH vm₁ ∧ Stand p l e R s m args below meth c B.U B.locs B.cells B.slots ∧ PostX ⟨T.setVm vm₁, locs, cells, slots⟩ argsL.toArray q B ∧
      Steps p.tables e below (T.setTop g) ((B.U.setTop { g with stack := rest }).pushFrame (.throwing q))) := by
  obtain ⟨mk, hnamed⟩ := Cond.code_named hcode
  obtain ⟨methM, cM, hmethM, -, -, -, -, -, -, hsigM⟩ := Cond.code_spec hnamed hcode
  have hstatic : methM.isStatic = true := Cond.static_spec hnamed hmethM hstat
  obtain ⟨kP, hkP, -⟩ := className_of_methodNamed hnamed
  have hinitP : kP.init = .initialized := Cond.initialized_spec (findClass_of_methodNamed hnamed) hkP hinit
  obtain ⟨vm₁, X₁, hstep₁⟩ := X.invokestatic hexec hown hlink hnamed hmethM hstatic hkP hinitP hy (g := g) hg (argsL := argsL) (rest := rest) (hlen _ hsigM) hstack hdg
  rcases hK m meth c ⟨T.setVm vm₁, locs, cells, slots⟩ { g with stack := rest } (.invokestatic index) mk argsL.toArray X₁ hg hsize hdg hW (X₁.named hnamed) (hpre vm₁ X₁.warmed) with ⟨v, B, X', hpost, hsteps⟩ | ⟨q, B, X', hpost, hsteps⟩
  · exact Or.inl ⟨v, vm₁, B, X₁.warmed, X', hpost, fun target h => hstep₁ _ fun acts => by rw [doInvoke_state]; exact hsteps.trans h⟩
  · exact Or.inr ⟨q, vm₁, B, X₁.warmed, X', hpost, hstep₁ _ fun acts => by rw [doInvoke_state]; exact hsteps⟩
end Calls
theorem vx_cls {s : State} {T : State} {vm₁ : Vm} {E : String} {k : ClassId} (hW : s.WarmedH vm₁) (h : (T.setVm vm₁).vm.findClass E = some k) : s.vm.findClass E = some k := by
  have h1 : vm₁.findClass E = some k := h
  rw [hW.alike.findClass] at h1
  exact h1
/-- the method's frame g, with q thrown over it -/
def vx_W (p : Program) (l : Launch) (e : Env) (R : Room) (s : State) (m : MethodId) (args : Array Value) (below : List Frame) (meth : Method) (c : Code) (H : Heap) (locs : List Loc) (cells slots : Nat) (Q : State → Prop) (g : JFrame) (q : Addr) : Prop :=
  ∀ T : State, T.heap = H → Stand p l e R s m args below meth c T locs cells slots → ∃ t, Steps p.tables e below ((T.setTop g).pushFrame (.throwing q)) t ∧ Q t
def vx_Run (p : Program) (l : Launch) (e : Env) (R : Room) (s : State) (m : MethodId) (args : Array Value) (below : List Frame) (meth : Method) (c : Code) (H : Heap) (locs : List Loc) (cells slots mc ms : Nat) (g : JFrame) (rest : List Value) (Qa : State → Outcome → State → Prop) (XC : String → State → State → Prop) (free : Addr → Prop) : Prop :=
  ∀ T : State, T.heap = H → Stand p l e R s m args below meth c T locs cells slots →
    (∃ (v : Option Value) (st₀ t T' : State) (L : List Loc), st₀.heap = H ∧ Stand p l e R s m args below meth c T' (locs ++ L) (cells + mc) (slots + ms) ∧ (∀ q ∈ L, free q.base) ∧ T'.heap = t.heap ∧ T'.vm = t.vm ∧ Qa st₀ (.returned v) t ∧
      Goes p e below T g T' { g with pc := g.pc + 3, stack := v.toList ++ rest }) ∨
    (∃ (q : Addr) (st₀ t T' : State) (L : List Loc) (E : String) (ce : Cell), st₀.heap = H ∧ Stand p l e R s m args below meth c T' (locs ++ L) (cells + mc) (slots + ms) ∧ (∀ z ∈ L, free z.base) ∧ T'.heap = t.heap ∧ T'.vm = t.vm ∧ XC E st₀ t ∧ t.heap[q]? = some ce ∧ ce.vm = .none ∧ s.vm.findClass E = some ce.cls ∧
      Steps p.tables e below (T.setTop g) ((T'.setTop { g with stack := rest }).pushFrame (.throwing q)))
def vx_X {S : Type} (px : S → Prop) (B : String → S → State → Prop) (A : Nat → Prop) : String → State → State → Prop := fun E st t => ∃ u : S, px u ∧ B E u t ∧ va_F A st t
section Runs
variable {p : Program} {l : Launch} {e : Env} {R : Room} {s : State} {m : MethodId} {args : Array Value} {below : List Frame} {meth : Method} {c : Code} {H : Heap} {locs : List Loc} {cells slots : Nat}
variable {y : MethodName} {bytes cc : ByteArray} {maxL nL mc ms n index : Nat} {ret : Option FieldType} {ws : List Cond} {rm : Room} {Pc : Array Value → State → Prop} {Qc : Array Value → State → Outcome → State → Prop} {XC : String → State → State → Prop} {free : Addr → Prop} {Ts : List Cond} {own C : String} {b : Addr} {As rest : List Value} {g : JFrame}
theorem vx_callBack (cb : CallB R s args own index y bytes maxL ret ws rm mc ms n) (hM : vx_Met l y ws rm Pc Qc XC mc ms free) (hbl : FrameBlind Pc) : vx_Back l R p e below s args y 3 8 (PreOf R mc ms Pc) (PostOf Qc mc ms free) (vx_Post XC mc ms free) := by
  obtain ⟨hrc, hrs, hfr, hlo, hws, hcw, -, hini, -⟩ := cb
  exact vx_back (bytes := bytes) (maxL := maxL) (ret := ret) hM hbl hrc hrs hfr hlo hws hcw (fun a' U hW => word_at hW (Or.inl (by first | rfl | simp [Cond.onTables, Cond.keeps, Cond.steady])) hini)
theorem vx_runV (S : CallFix p m c cc nL s args Ts own) (hM : vx_Met l y ws rm Pc Qc XC mc ms free) (cw : CallW R s args own C index y bytes maxL ret ws rm mc ms n) (hp : PreV s H C b Pc As)
    (hg : g.method = m) (hn : As.length = n) (hsize : g.locals.size = nL) (hstack : g.stack = As.reverse ++ .ref b :: rest) (hW : 2 * g.monitorRoom + (rest.map fun v => v.category).sum ≤ 8) (hdg : decode cc g.pc = .ok (.invokevirtual index, 3)) (hf : cells + mc ≤ R.cells ∧ slots + ms ≤ R.slots) :
    vx_Run p l e R s m args below meth c H locs cells slots mc ms g rest (Qc (Value.ref b :: As).toArray) XC free := by
  have hK : vx_Back l R p e below s args y 3 8 (PreOf R mc ms Pc) (PostOf Qc mc ms free) (vx_Post XC mc ms free) := vx_callBack cw.1 hM hp.1
  obtain ⟨⟨-, -, -, -, -, -, hcode, -, hy, hlen, hl⟩, hin, hse⟩ := cw
  obtain ⟨hx, hb, hml, ho, -⟩ := S
  obtain ⟨-, ⟨cellB, hcB, hoB, hclB⟩, hPc⟩ := hp
  intro T hT X
  rcases vx_callV X hx (C := C) (bytes := bytes) (maxL := maxL) (ret := ret) ho hl hin hse hcode hy hK (by rw [hT]; exact hcB) hoB hclB hg (hsize.trans hml.symm) (argsL := As) (rest := rest) (fun sig h => hn.trans (hlen sig h)) hstack hW (by rw [hb]; exact hdg)
    (fun vm₁ hW₁ => ⟨hf.1, hf.2, hPc (T.setVm vm₁) hT hW₁⟩) with ⟨v, vm₁, ⟨U', l2, c2, s2⟩, hW₁, X', ⟨g', mk, t, L, e1, e2, hq, h1, hL, h2, h3⟩, st⟩ | ⟨q, vm₁, ⟨U', l2, c2, s2⟩, hW₁, X', ⟨g', mk, t, L, E, ce, e1, e2, hq, hce, hcv, hcl, h1, hL, h2, h3⟩, st⟩
  · dsimp only [Pt.U, Pt.locs, Pt.cells, Pt.slots] at X' e1 e2 h1 h2 h3 st
    subst h1; subst h2; subst h3
    exact Or.inl ⟨v, (T.setVm vm₁).calling g' mk (Value.ref b :: As).toArray, t, U', L, hT, X', hL, e1, e2, hq, st⟩
  · dsimp only [Pt.U, Pt.locs, Pt.cells, Pt.slots] at X' e1 e2 h1 h2 h3 st hcl
    subst h1; subst h2; subst h3
    exact Or.inr ⟨q, (T.setVm vm₁).calling g' mk (Value.ref b :: As).toArray, t, U', L, E, ce, hT, X', hL, e1, e2, hq, hce, hcv, vx_cls hW₁ hcl, st⟩
theorem vx_runS (S : CallFix p m c cc nL s args Ts own) (hM : vx_Met l y ws rm Pc Qc XC mc ms free) (cw : CallB R s args own index y bytes maxL ret ws rm mc ms n ∧ (Cond.static y).before args s = true) (hp : PreS s H Pc As)
    (hg : g.method = m) (hn : As.length = n) (hsize : g.locals.size = nL) (hstack : g.stack = As.reverse ++ rest) (hW : 2 * g.monitorRoom + (rest.map fun v => v.category).sum ≤ 8) (hdg : decode cc g.pc = .ok (.invokestatic index, 3)) (hf : cells + mc ≤ R.cells ∧ slots + ms ≤ R.slots) :
    vx_Run p l e R s m args below meth c H locs cells slots mc ms g rest (Qc As.toArray) XC free := by
  have hK : vx_Back l R p e below s args y 3 8 (PreOf R mc ms Pc) (PostOf Qc mc ms free) (vx_Post XC mc ms free) := vx_callBack cw.1 hM hp.1
  obtain ⟨⟨-, -, -, -, -, -, hcode, hini, hy, hlen, hl⟩, hstt⟩ := cw
  obtain ⟨hx, hb, hml, ho, -⟩ := S
  intro T hT X
  rcases vx_callS X hx (bytes := bytes) (maxL := maxL) (ret := ret) ho hl hstt hini hcode hy hK hg (hsize.trans hml.symm) (argsL := As) (rest := rest) (fun sig h => hn.trans (hlen sig h)) hstack hW (by rw [hb]; exact hdg)
    (fun vm₁ hW₁ => ⟨hf.1, hf.2, hp.2 (T.setVm vm₁) hT hW₁⟩) with ⟨v, vm₁, ⟨U', l2, c2, s2⟩, hW₁, X', ⟨g', mk, t, L, e1, e2, hq, h1, hL, h2, h3⟩, st⟩ | ⟨q, vm₁, ⟨U', l2, c2, s2⟩, hW₁, X', ⟨g', mk, t, L, E, ce, e1, e2, hq, hce, hcv, hcl, h1, hL, h2, h3⟩, st⟩
  · dsimp only [Pt.U, Pt.locs, Pt.cells, Pt.slots] at X' e1 e2 h1 h2 h3 st
    subst h1; subst h2; subst h3
    exact Or.inl ⟨v, (T.setVm vm₁).calling g' mk As.toArray, t, U', L, hT, X', hL, e1, e2, hq, st⟩
  · dsimp only [Pt.U, Pt.locs, Pt.cells, Pt.slots] at X' e1 e2 h1 h2 h3 st hcl
    subst h1; subst h2; subst h3
    exact Or.inr ⟨q, (T.setVm vm₁).calling g' mk As.toArray, t, U', L, E, ce, hT, X', hL, e1, e2, hq, hce, hcv, vx_cls hW₁ hcl, st⟩
end Runs
section Rows
variable {p : Program} {l : Launch} {e : Env} {R : Room} {s : State} {m : MethodId} {args : Array Value} {below : List Frame} {meth : Method} {c : Code} {H : Heap} {locs : List Loc} {cells slots : Nat} {Q : State → Prop}
variable {mc ms : Nat} {free : Addr → Prop} {A0 A1 : Nat → Prop} {H0 : Heap} {a : Array Value} {pc : Nat} {ls : Array Slot} {st0 rest : List Value}
theorem vx_keep {st₀ t T' : State} {L : List Loc} (h0 : st₀.heap = H) (e1 : T'.heap = t.heap) (hS : va_S A0 H0 H locs) (hA : ∀ q, q < H.size → A1 q → A0 q) (hf : ∀ q, free q → A0 q) (hL : ∀ q ∈ L, free q.base) (hF : va_F A1 st₀ t) :
    H.size ≤ T'.heap.size ∧ (∀ q : Nat, q < H.size → ¬ A1 q → T'.heap[q]? = H[q]?) ∧ va_S A0 H0 T'.heap (locs ++ L) := by
  obtain ⟨hz, hk⟩ := hF
  rw [h0] at hz hk
  exact ⟨by rw [e1]; exact hz, fun q h1 h2 => by rw [e1]; exact hk q h1 h2,
    ⟨Nat.le_trans hS.1 (by rw [e1]; exact hz), fun q h1 h2 => by rw [e1, hk q (Nat.lt_of_lt_of_le h1 hS.1) (fun z => h2 (hA q (Nat.lt_of_lt_of_le h1 hS.1) z))]; exact hS.2.1 q h1 h2, fun q hq => by
      rcases List.mem_append.mp hq with h | h
      · exact hS.2.2 q h
      · exact hf _ (hL q h)⟩⟩
theorem vx_calli {S SX : Type} {post : Int32 → S → Prop} {px : SX → Prop} {B : S → State → Prop} {BX : String → SX → State → Prop} {AX : Nat → Prop} (hr : vx_Run p l e R s m args below meth c H locs cells slots mc ms (F0 m pc ls st0) rest (va_Qi post B A1 a) (vx_X px BX AX) free) (hS : va_S A0 H0 H locs) (hA : ∀ q, q < H.size → A1 q → A0 q) (hf : ∀ q, free q → A0 q) (hAX : ∀ q, q < H.size → AX q → A0 q)
    (kx : ∀ (E : String) (ce : Cell) (q9 : Addr) (u : SX) (t : State) (H1 : Heap) (locs1 : List Loc), t.heap = H1 → s.vm.Alike t.vm → px u → BX E u t → H.size ≤ H1.size → (∀ q : Nat, q < H.size → ¬ AX q → H1[q]? = H[q]?) → va_S A0 H0 H1 locs1 → H1[q9]? = some ce → ce.vm = .none → s.vm.findClass E = some ce.cls → vx_W p l e R s m args below meth c H1 locs1 (cells + mc) (slots + ms) Q (F0 m pc ls rest) q9)
    (kk : ∀ (r : Int32) (u : S) (t : State) (H1 : Heap) (locs1 : List Loc), t.heap = H1 → s.vm.Alike t.vm → post r u → B u t → H.size ≤ H1.size → (∀ q : Nat, q < H.size → ¬ A1 q → H1[q]? = H[q]?) → va_S A0 H0 H1 locs1 → W p l e R s m args below meth c H1 locs1 (cells + mc) (slots + ms) Q (F0 m (pc + 3) ls (.int r :: rest))) : W p l e R s m args below meth c H locs cells slots Q (F0 m pc ls st0) := by
  intro T hT X
  rcases hr T hT X with ⟨v, st₀, t, T', L, h0, X', hL, e1, e2, ⟨⟨r, u, hv, hp, hb⟩, hF⟩, st⟩ | ⟨q, st₀, t, T', L, E, ce, h0, X', hL, e1, e2, ⟨u, hp, hb, hF⟩, hce, hcv, hcl, st⟩
  · cases hv
    obtain ⟨k1, k2, k3⟩ := vx_keep h0 e1 hS hA hf hL hF
    obtain ⟨t2, a1, b1⟩ := kk r u t T'.heap (locs ++ L) e1.symm (by rw [← e2]; exact X'.warmed.alike) hp hb k1 k2 k3 T' rfl X'
    exact ⟨t2, st t2 a1, b1⟩
  · obtain ⟨k1, k2, k3⟩ := vx_keep h0 e1 hS hAX hf hL hF
    obtain ⟨t2, a1, b1⟩ := kx E ce q u t T'.heap (locs ++ L) e1.symm (by rw [← e2]; exact X'.warmed.alike) hp hb k1 k2 k3 (by rw [e1]; exact hce) hcv hcl T' rfl X'
    exact ⟨t2, st.trans a1, b1⟩
theorem vx_calll {S SX : Type} {post : Int64 → S → Prop} {px : SX → Prop} {B : S → State → Prop} {BX : String → SX → State → Prop} {AX : Nat → Prop} (hr : vx_Run p l e R s m args below meth c H locs cells slots mc ms (F0 m pc ls st0) rest (va_Ql post B A1 a) (vx_X px BX AX) free) (hS : va_S A0 H0 H locs) (hA : ∀ q, q < H.size → A1 q → A0 q) (hf : ∀ q, free q → A0 q) (hAX : ∀ q, q < H.size → AX q → A0 q)
    (kx : ∀ (E : String) (ce : Cell) (q9 : Addr) (u : SX) (t : State) (H1 : Heap) (locs1 : List Loc), t.heap = H1 → s.vm.Alike t.vm → px u → BX E u t → H.size ≤ H1.size → (∀ q : Nat, q < H.size → ¬ AX q → H1[q]? = H[q]?) → va_S A0 H0 H1 locs1 → H1[q9]? = some ce → ce.vm = .none → s.vm.findClass E = some ce.cls → vx_W p l e R s m args below meth c H1 locs1 (cells + mc) (slots + ms) Q (F0 m pc ls rest) q9)
    (kk : ∀ (r : Int64) (u : S) (t : State) (H1 : Heap) (locs1 : List Loc), t.heap = H1 → s.vm.Alike t.vm → post r u → B u t → H.size ≤ H1.size → (∀ q : Nat, q < H.size → ¬ A1 q → H1[q]? = H[q]?) → va_S A0 H0 H1 locs1 → W p l e R s m args below meth c H1 locs1 (cells + mc) (slots + ms) Q (F0 m (pc + 3) ls (.long r :: rest))) : W p l e R s m args below meth c H locs cells slots Q (F0 m pc ls st0) := by
  intro T hT X
  rcases hr T hT X with ⟨v, st₀, t, T', L, h0, X', hL, e1, e2, ⟨⟨r, u, hv, hp, hb⟩, hF⟩, st⟩ | ⟨q, st₀, t, T', L, E, ce, h0, X', hL, e1, e2, ⟨u, hp, hb, hF⟩, hce, hcv, hcl, st⟩
  · cases hv
    obtain ⟨k1, k2, k3⟩ := vx_keep h0 e1 hS hA hf hL hF
    obtain ⟨t2, a1, b1⟩ := kk r u t T'.heap (locs ++ L) e1.symm (by rw [← e2]; exact X'.warmed.alike) hp hb k1 k2 k3 T' rfl X'
    exact ⟨t2, st t2 a1, b1⟩
  · obtain ⟨k1, k2, k3⟩ := vx_keep h0 e1 hS hAX hf hL hF
    obtain ⟨t2, a1, b1⟩ := kx E ce q u t T'.heap (locs ++ L) e1.symm (by rw [← e2]; exact X'.warmed.alike) hp hb k1 k2 k3 (by rw [e1]; exact hce) hcv hcl T' rfl X'
    exact ⟨t2, st.trans a1, b1⟩
theorem vx_callf {S SX : Type} {post : UInt32 → S → Prop} {px : SX → Prop} {B : S → State → Prop} {BX : String → SX → State → Prop} {AX : Nat → Prop} (hr : vx_Run p l e R s m args below meth c H locs cells slots mc ms (F0 m pc ls st0) rest (va_Qf post B A1 a) (vx_X px BX AX) free) (hS : va_S A0 H0 H locs) (hA : ∀ q, q < H.size → A1 q → A0 q) (hf : ∀ q, free q → A0 q) (hAX : ∀ q, q < H.size → AX q → A0 q)
    (kx : ∀ (E : String) (ce : Cell) (q9 : Addr) (u : SX) (t : State) (H1 : Heap) (locs1 : List Loc), t.heap = H1 → s.vm.Alike t.vm → px u → BX E u t → H.size ≤ H1.size → (∀ q : Nat, q < H.size → ¬ AX q → H1[q]? = H[q]?) → va_S A0 H0 H1 locs1 → H1[q9]? = some ce → ce.vm = .none → s.vm.findClass E = some ce.cls → vx_W p l e R s m args below meth c H1 locs1 (cells + mc) (slots + ms) Q (F0 m pc ls rest) q9)
    (kk : ∀ (r : UInt32) (u : S) (t : State) (H1 : Heap) (locs1 : List Loc), t.heap = H1 → s.vm.Alike t.vm → post r u → B u t → H.size ≤ H1.size → (∀ q : Nat, q < H.size → ¬ A1 q → H1[q]? = H[q]?) → va_S A0 H0 H1 locs1 → W p l e R s m args below meth c H1 locs1 (cells + mc) (slots + ms) Q (F0 m (pc + 3) ls (.float r :: rest))) : W p l e R s m args below meth c H locs cells slots Q (F0 m pc ls st0) := by
  intro T hT X
  rcases hr T hT X with ⟨v, st₀, t, T', L, h0, X', hL, e1, e2, ⟨⟨r, u, hv, hp, hb⟩, hF⟩, st⟩ | ⟨q, st₀, t, T', L, E, ce, h0, X', hL, e1, e2, ⟨u, hp, hb, hF⟩, hce, hcv, hcl, st⟩
  · cases hv
    obtain ⟨k1, k2, k3⟩ := vx_keep h0 e1 hS hA hf hL hF
    obtain ⟨t2, a1, b1⟩ := kk r u t T'.heap (locs ++ L) e1.symm (by rw [← e2]; exact X'.warmed.alike) hp hb k1 k2 k3 T' rfl X'
    exact ⟨t2, st t2 a1, b1⟩
  · obtain ⟨k1, k2, k3⟩ := vx_keep h0 e1 hS hAX hf hL hF
    obtain ⟨t2, a1, b1⟩ := kx E ce q u t T'.heap (locs ++ L) e1.symm (by rw [← e2]; exact X'.warmed.alike) hp hb k1 k2 k3 (by rw [e1]; exact hce) hcv hcl T' rfl X'
    exact ⟨t2, st.trans a1, b1⟩
theorem vx_calld {S SX : Type} {post : UInt64 → S → Prop} {px : SX → Prop} {B : S → State → Prop} {BX : String → SX → State → Prop} {AX : Nat → Prop} (hr : vx_Run p l e R s m args below meth c H locs cells slots mc ms (F0 m pc ls st0) rest (va_Qd post B A1 a) (vx_X px BX AX) free) (hS : va_S A0 H0 H locs) (hA : ∀ q, q < H.size → A1 q → A0 q) (hf : ∀ q, free q → A0 q) (hAX : ∀ q, q < H.size → AX q → A0 q)
    (kx : ∀ (E : String) (ce : Cell) (q9 : Addr) (u : SX) (t : State) (H1 : Heap) (locs1 : List Loc), t.heap = H1 → s.vm.Alike t.vm → px u → BX E u t → H.size ≤ H1.size → (∀ q : Nat, q < H.size → ¬ AX q → H1[q]? = H[q]?) → va_S A0 H0 H1 locs1 → H1[q9]? = some ce → ce.vm = .none → s.vm.findClass E = some ce.cls → vx_W p l e R s m args below meth c H1 locs1 (cells + mc) (slots + ms) Q (F0 m pc ls rest) q9)
    (kk : ∀ (r : UInt64) (u : S) (t : State) (H1 : Heap) (locs1 : List Loc), t.heap = H1 → s.vm.Alike t.vm → post r u → B u t → H.size ≤ H1.size → (∀ q : Nat, q < H.size → ¬ A1 q → H1[q]? = H[q]?) → va_S A0 H0 H1 locs1 → W p l e R s m args below meth c H1 locs1 (cells + mc) (slots + ms) Q (F0 m (pc + 3) ls (.double r :: rest))) : W p l e R s m args below meth c H locs cells slots Q (F0 m pc ls st0) := by
  intro T hT X
  rcases hr T hT X with ⟨v, st₀, t, T', L, h0, X', hL, e1, e2, ⟨⟨r, u, hv, hp, hb⟩, hF⟩, st⟩ | ⟨q, st₀, t, T', L, E, ce, h0, X', hL, e1, e2, ⟨u, hp, hb, hF⟩, hce, hcv, hcl, st⟩
  · cases hv
    obtain ⟨k1, k2, k3⟩ := vx_keep h0 e1 hS hA hf hL hF
    obtain ⟨t2, a1, b1⟩ := kk r u t T'.heap (locs ++ L) e1.symm (by rw [← e2]; exact X'.warmed.alike) hp hb k1 k2 k3 T' rfl X'
    exact ⟨t2, st t2 a1, b1⟩
  · obtain ⟨k1, k2, k3⟩ := vx_keep h0 e1 hS hAX hf hL hF
    obtain ⟨t2, a1, b1⟩ := kx E ce q u t T'.heap (locs ++ L) e1.symm (by rw [← e2]; exact X'.warmed.alike) hp hb k1 k2 k3 (by rw [e1]; exact hce) hcv hcl T' rfl X'
    exact ⟨t2, st.trans a1, b1⟩
theorem vx_callv {S SX : Type} {post : S → Prop} {px : SX → Prop} {B : S → State → Prop} {BX : String → SX → State → Prop} {AX : Nat → Prop} (hr : vx_Run p l e R s m args below meth c H locs cells slots mc ms (F0 m pc ls st0) rest (va_Qv post B A1 a) (vx_X px BX AX) free) (hS : va_S A0 H0 H locs) (hA : ∀ q, q < H.size → A1 q → A0 q) (hf : ∀ q, free q → A0 q) (hAX : ∀ q, q < H.size → AX q → A0 q)
    (kx : ∀ (E : String) (ce : Cell) (q9 : Addr) (u : SX) (t : State) (H1 : Heap) (locs1 : List Loc), t.heap = H1 → s.vm.Alike t.vm → px u → BX E u t → H.size ≤ H1.size → (∀ q : Nat, q < H.size → ¬ AX q → H1[q]? = H[q]?) → va_S A0 H0 H1 locs1 → H1[q9]? = some ce → ce.vm = .none → s.vm.findClass E = some ce.cls → vx_W p l e R s m args below meth c H1 locs1 (cells + mc) (slots + ms) Q (F0 m pc ls rest) q9)
    (kk : ∀ (u : S) (t : State) (H1 : Heap) (locs1 : List Loc), t.heap = H1 → s.vm.Alike t.vm → post u → B u t → H.size ≤ H1.size → (∀ q : Nat, q < H.size → ¬ A1 q → H1[q]? = H[q]?) → va_S A0 H0 H1 locs1 → W p l e R s m args below meth c H1 locs1 (cells + mc) (slots + ms) Q (F0 m (pc + 3) ls (rest))) : W p l e R s m args below meth c H locs cells slots Q (F0 m pc ls st0) := by
  intro T hT X
  rcases hr T hT X with ⟨v, st₀, t, T', L, h0, X', hL, e1, e2, ⟨⟨u, hv, hp, hb⟩, hF⟩, st⟩ | ⟨q, st₀, t, T', L, E, ce, h0, X', hL, e1, e2, ⟨u, hp, hb, hF⟩, hce, hcv, hcl, st⟩
  · cases hv
    obtain ⟨k1, k2, k3⟩ := vx_keep h0 e1 hS hA hf hL hF
    obtain ⟨t2, a1, b1⟩ := kk u t T'.heap (locs ++ L) e1.symm (by rw [← e2]; exact X'.warmed.alike) hp hb k1 k2 k3 T' rfl X'
    exact ⟨t2, st t2 a1, b1⟩
  · obtain ⟨k1, k2, k3⟩ := vx_keep h0 e1 hS hAX hf hL hF
    obtain ⟨t2, a1, b1⟩ := kx E ce q u t T'.heap (locs ++ L) e1.symm (by rw [← e2]; exact X'.warmed.alike) hp hb k1 k2 k3 (by rw [e1]; exact hce) hcv hcl T' rfl X'
    exact ⟨t2, st.trans a1, b1⟩
/-- caught by the row x of this method's table; the rows ahead don't take it -/
theorem vx_catch {own name : String} {E : String} {ce : Cell} {q : Addr} (hown : s.vm.findClass own = some m.cls) (pre : List ExceptionTableEntry) (x : ExceptionTableEntry) (suf : List ExceptionTableEntry) (hsplit : c.exceptionTable.toList = pre ++ x :: suf)
    (hpass : ∀ z ∈ pre, covers z pc = false ∨ (z.catchType ≠ 0 ∧ ∃ nm : String, (Cond.classLink own z.catchType nm).before args s = true ∧ va_Nc E nm s)) (hx : covers x pc = true) (h0 : x.catchType ≠ 0)
    (hlink : (Cond.classLink own x.catchType name).before args s = true) (hcast : (Cond.castable E name).before args s = true) (hcell : H[q]? = some ce) (hv : ce.vm = .none) (hcl : s.vm.findClass E = some ce.cls)
    (kk : W p l e R s m args below meth c H locs cells slots Q (F0 m x.handlerPc ls [.ref q])) : vx_W p l e R s m args below meth c H locs cells slots Q (F0 m pc ls rest) q := by
  intro T hT X
  have hpl : e.platform.magicAccessors = ({} : Platform).magicAccessors := by rw [X.admits.platform]
  obtain ⟨c3, c4, hc3, hc4, hasg⟩ := Cond.castable_spec hcast
  cases Option.some.inj (hc3.symm.trans hcl)
  obtain ⟨c5, hc5, hcl5⟩ := Cond.classLink_spec hown hlink e.platform hpl
  cases Option.some.inj (hc4.symm.trans hc5)
  obtain ⟨vm', X', st⟩ := X.thenCaughtThrough q (g := F0 m pc ls rest) rfl (Steps.refl _) (by rw [hT]; exact hcell) (by rw [hv]; rfl) (by obtain ⟨k9, h9, -⟩ := Vm.findClass_spec hcl; exact ⟨k9, h9⟩) pre x suf hsplit
    (fun z hz => by
      rcases hpass z hz with h | ⟨hz0, nm, hl1, hn1⟩
      · exact Or.inl h
      · obtain ⟨c6, hc6, hcl6⟩ := Cond.classLink_spec hown hl1 e.platform hpl
        obtain ⟨a8, b8, h1, h2, h3⟩ := hn1
        cases Option.some.inj (h1.symm.trans hcl)
        cases Option.some.inj (h2.symm.trans hc6)
        exact Or.inr ⟨hz0, _, hcl6, h3⟩) hx (Or.inr ⟨h0, c4, hcl5, hasg⟩)
  obtain ⟨t, a1, b1⟩ := kk (T.setVm vm') hT X'
  exact ⟨t, st.trans a1, b1⟩
end Rows
section Ends
variable {p : Program} {l : Launch} {e : Env} {R : Room} {s : State} {m : MethodId} {args : Array Value} {below : List Frame} {meth : Method} {c : Code} {H : Heap} {locs : List Loc} {cells slots : Nat} {Q : State → Prop}
variable {mc ms : Nat} {free : Addr → Prop} {A0 A1 : Nat → Prop} {H0 : Heap} {a : Array Value} {ls : Array Slot} {st0 rest : List Value}
variable {Qc : Array Value → State → Outcome → State → Prop} {XC : String → State → State → Prop}
/-- what a body that may throw owes at its end -/
def vx_MQ (below : List Frame) (Qc : Array Value → State → Outcome → State → Prop) (XC : String → State → State → Prop) (a : Array Value) (s : State) (mc ms : Nat) (free : Addr → Prop) : State → Prop := fun t =>
  ∃ o, t.status = .running ∧ Ended t below o ∧ vx_Q Qc XC mc ms free a s o t
theorem vx_ret {g : JFrame} {mc ms : Nat} (k : W p l e R s m args below meth c H locs cells slots (MQ below Qc args s mc ms free) g) : W p l e R s m args below meth c H locs cells slots (vx_MQ below Qc XC args s mc ms free) g := by
  intro T hT X
  obtain ⟨t, a1, o, b1, b2, b3, b4⟩ := k T hT X
  exact ⟨t, a1, o, b1, b2, Or.inl ⟨b3, b4⟩⟩
/-- not caught here: it goes on to the caller -/
theorem vx_widen {g : JFrame} {q : Addr} {k n : Nat} (h1 : cells ≤ k) (h2 : slots ≤ n) (kk : vx_W p l e R s m args below meth c H locs k n Q g q) : vx_W p l e R s m args below meth c H locs cells slots Q g q := fun T hT X => kk T hT (stand_widen X h1 h2)
theorem vx_out {pc : Nat} {E : String} {ce : Cell} {q : Addr} {mc ms : Nat} (hout : ∀ x ∈ c.exceptionTable.toList, covers x pc = false) (hlocks : meth.locks = false) (hcell : H[q]? = some ce) (hv : ce.vm = .none) (hcl : s.vm.findClass E = some ce.cls)
    (hx : ∀ t : State, t.heap = H → s.vm.Alike t.vm → XC E s t) (hf : ∀ z ∈ locs, free z.base) (hc : cells ≤ mc) (hs : slots ≤ ms) :
    vx_W p l e R s m args below meth c H locs cells slots (vx_MQ below Qc XC args s mc ms free) (F0 m pc ls rest) q := by
  intro T hT X
  obtain ⟨st1, hrun, hend, hW, hsm⟩ := X.leaveThrown q (g := F0 m pc ls rest) rfl rfl rfl hout hlocks
  have hcell9 : (T.setFrames (.throwing q :: below)).heap[q]? = some ce := by
    show T.heap[q]? = some ce
    rw [hT]; exact hcell
  exact ⟨_, st1, .threw q, hrun, hend, Or.inr ⟨q, rfl, E, ce, locs, hx _ hT hW.alike, hcell9, hv, hcl, hW, hsm.mono hc hs, hf⟩⟩
theorem vx_frame {U : State} {k n : Nat} (h : s.sameButNew ({ U with vm := s.vm } : State) locs k n) : s.heap.size ≤ U.heap.size ∧ ∀ q : Nat, q < s.heap.size → (∀ z ∈ locs, z.base ≠ q) → U.heap[q]? = s.heap[q]? := by
  obtain ⟨-, h2, -, -, -, h6⟩ := h
  refine ⟨h2, fun q hq hz => ?_⟩
  obtain ⟨c9, e1, e2, e3, e4⟩ := h6 q _ (Array.getElem?_eq_getElem hq)
  have hs : c9.slots = (s.heap[q]).slots := Array.ext_getElem? fun i => e4 i fun hm => hz _ hm rfl
  have h9 : c9 = s.heap[q] := by
    rw [hs] at e2
    exact e2
  have e5 : U.heap[q]? = some c9 := e1
  rw [e5, h9, Array.getElem?_eq_getElem hq]
/-- the words of a throw but the four that speak of the heap -/
def vx_no (w : Cond) : Bool := decide (w ≠ .isRef (.static Bundle.tN "UNASSIGNED_STACK" Bundle.steD)) && decide (w ≠ .isRef (.static Bundle.tN "SUPPRESSED_SENTINEL" Bundle.listD)) && decide (w ≠ .laysStatic Bundle.tN "UNASSIGNED_STACK" Bundle.steD) && decide (w ≠ .laysStatic Bundle.tN "SUPPRESSED_SENTINEL" Bundle.listD)
def vx_at0 (own : String) (ic : Nat) (X : String) (names : List String) : List Cond := (Bundle.ownAtoms0 own ic X names).filter vx_no
def vx_atS (own : String) (ic : Nat) (X : String) (names : List String) : List Cond := (Bundle.ownAtoms own ic X names).filter vx_no
/-- a word that the tables alone decide, or a good one -/
def vx_ot (w : Cond) : Bool := w.onTables || goodWord w
theorem vx_ot_at {args a' : Array Value} {s U : State} {w : Cond} (hW : s.WarmedH U.vm) (hvm : s.vm = U.vm) (hg : vx_ot w = true) (h : w.before args s = true) : w.before a' U = true := by
  simp only [vx_ot, Bool.or_eq_true] at hg
  rcases hg with hg | hg
  · exact va_tabs hg hvm h
  · exact word_at hW (good_of_word hg) h
/-- a list's words: the good ones out of the method's own list, the others by premises of their own -/
theorem vx_hat {args : Array Value} {s : State} {L B : List Cond} (h1 : ∀ w ∈ L.filter goodWord, w.before args s = true) (h2 : ∀ w ∈ L.filter (fun w => !goodWord w), w ∈ B) (h3 : ∀ w ∈ B, w.before args s = true) : ∀ w ∈ L, w.before args s = true := by
  intro w hw
  by_cases g : goodWord w = true
  · exact h1 w (List.mem_filter.mpr ⟨hw, g⟩)
  · refine h3 w (h2 w (List.mem_filter.mpr ⟨hw, ?_⟩))
    show (!goodWord w) = true
    cases hgw : goodWord w
    · rfl
    · exact absurd hgw g
theorem vx_c {args : Array Value} {s : State} {w : Cond} {B : List Cond} (h : w.before args s = true) (t : ∀ w ∈ B, w.before args s = true) : ∀ w' ∈ w :: B, w'.before args s = true := fun w' h' => (List.mem_cons.mp h').elim (fun e => by rw [e]; exact h) (t w')
theorem vx_n {args : Array Value} {s : State} : ∀ w ∈ ([] : List Cond), w.before args s = true := fun _ h => nomatch h
theorem vx_own {args : Array Value} {s : State} {L : List Cond} (h1 : ∀ w ∈ L.filter vx_no, w.before args s = true)
    (hU : (Cond.isRef (.static Bundle.tN "UNASSIGNED_STACK" Bundle.steD)).before args s = true) (hN : (Cond.isRef (.static Bundle.tN "SUPPRESSED_SENTINEL" Bundle.listD)).before args s = true)
    (lU : (Cond.laysStatic Bundle.tN "UNASSIGNED_STACK" Bundle.steD).before args s = true) (lN : (Cond.laysStatic Bundle.tN "SUPPRESSED_SENTINEL" Bundle.listD).before args s = true) : ∀ w ∈ L, w.before args s = true := by
  intro w hw
  by_cases e1 : w = .isRef (.static Bundle.tN "UNASSIGNED_STACK" Bundle.steD)
  · rw [e1]; exact hU
  · by_cases e2 : w = .isRef (.static Bundle.tN "SUPPRESSED_SENTINEL" Bundle.listD)
    · rw [e2]; exact hN
    · by_cases e3 : w = .laysStatic Bundle.tN "UNASSIGNED_STACK" Bundle.steD
      · rw [e3]; exact lU
      · by_cases e4 : w = .laysStatic Bundle.tN "SUPPRESSED_SENTINEL" Bundle.listD
        · rw [e4]; exact lN
        · exact h1 w (List.mem_filter.mpr ⟨hw, by unfold vx_no; rw [decide_eq_true e1, decide_eq_true e2, decide_eq_true e3, decide_eq_true e4]; rfl⟩)
/-- where a static field lies, its class's statics cell in H -/
def vx_L (C n d : String) (A : Nat → Prop) (U : State) (H : Heap) : Prop := ∃ (c : ClassId) (k : Class) (i : Nat) (f : Field) (a : Nat) (cell : Cell), U.vm.findClass C = some c ∧ U.fieldFound? C n d = some (c, k, i, f) ∧ f.isStatic = true ∧ k.statics = some a ∧ H[a]? = some cell ∧ cell.vm.isStatics = true ∧ cell.cls = c ∧ f.slot < cell.slots.size ∧ k.staticTypes[f.slot]? = some f.type ∧ ¬ A a
theorem vx_L.moved {C n d : String} {A : Nat → Prop} {u U : State} {H : Heap} (hvm : u.vm.Alike U.vm) (h : vx_L C n d A u H) : vx_L C n d A U H := by
  obtain ⟨c, k, i, f, a, cell, h1, h2, h3, h4, h5, h6, h7, h8, h9, h10⟩ := h
  obtain ⟨k', hi', he⟩ := State.fieldFound?_setVm hvm h2
  exact ⟨c, k', i, f, a, cell, by rw [hvm.findClass]; exact h1, hi', h3, by rw [he]; exact h4, h5, h6, h7, h8, by rw [he]; exact h9, h10⟩
theorem vx_L.kept {C n d : String} {A : Nat → Prop} {U : State} {H H1 : Heap} (h : vx_L C n d A U H) (hq : ∀ a : Nat, a < H.size → ¬ A a → H1[a]? = H[a]?) : vx_L C n d A U H1 := by
  obtain ⟨c, k, i, f, a, cell, h1, h2, h3, h4, h5, h6, h7, h8, h9, h10⟩ := h
  exact ⟨c, k, i, f, a, cell, h1, h2, h3, h4, by rw [hq a (Array.getElem?_eq_some_iff.mp h5).1 h10]; exact h5, h6, h7, h8, h9, h10⟩
theorem vx_L.narrow {C n d : String} {A B : Nat → Prop} {U : State} {H : Heap} (h : vx_L C n d A U H) (hAB : ∀ q, B q → A q) : vx_L C n d B U H := by
  obtain ⟨c, k, i, f, a, cell, h1, h2, h3, h4, h5, h6, h7, h8, h9, h10⟩ := h
  exact ⟨c, k, i, f, a, cell, h1, h2, h3, h4, h5, h6, h7, h8, h9, fun z => h10 (hAB _ z)⟩
theorem vx_L.word {C n d : String} {A : Nat → Prop} {s : State} {args : Array Value} (h : vx_L C n d A s s.heap) : (Cond.laysStatic C n d).before args s = true := by
  obtain ⟨c, k, i, f, a, cell, h1, h2, h3, h4, h5, h6, h7, h8, h9, -⟩ := h
  show (Cond.laysStatic C n d).holds args s none s [] = true
  exact Cond.laysStatic_of h1 h2 h3 h4 h5 h6 h7 h8 h9
/-- .. and what it holds: null or some reference -/
def vx_Zq (C n d : String) (A : Nat → Prop) (U : State) (H : Heap) : Prop := va_Zq C n d A U H ∧ vx_L C n d A U H
theorem vx_Zq.moved {C n d : String} {A : Nat → Prop} {u U : State} {H : Heap} (hvm : u.vm.Alike U.vm) (h : vx_Zq C n d A u H) : vx_Zq C n d A U H := ⟨va_Zq.moved hvm h.1, vx_L.moved hvm h.2⟩
theorem vx_Zq.kept {C n d : String} {A : Nat → Prop} {U : State} {H H1 : Heap} (h : vx_Zq C n d A U H) (hq : ∀ a : Nat, a < H.size → ¬ A a → H1[a]? = H[a]?) : vx_Zq C n d A U H1 := ⟨va_Zq.kept h.1 hq, vx_L.kept h.2 hq⟩
theorem vx_Zq.narrow {C n d : String} {A B : Nat → Prop} {U : State} {H : Heap} (h : vx_Zq C n d A U H) (hAB : ∀ q, B q → A q) : vx_Zq C n d B U H := ⟨va_Zq.narrow h.1 hAB, vx_L.narrow h.2 hAB⟩
theorem vx_Zqof {args : Array Value} {s : State} {C n d : String} {A : Nat → Prop} (hl : (Cond.laysStatic C n d).before args s = true) (hini : (Cond.initialized C).before args s = true) (h : (Cond.isRef (.static C n d)).before args s = true) (hA : ∀ a : Nat, a < s.heap.size → ¬ A a) : vx_Zq C n d A s s.heap := by
  refine ⟨va_Zqof hl hini h hA, ?_⟩
  obtain ⟨c, k, i, f, a, cell, h1, h2, h3, h4, h5, h6, h7, h8, h9⟩ := Cond.laysStatic_spec hl
  exact ⟨c, k, i, f, a, cell, h1, h2, h3, h4, h5, h6, h7, h8, h9, hA a (Array.getElem?_eq_some_iff.mp h5).1⟩
theorem vx_isRef {C n d : String} {v : Value} {A : Nat → Prop} {s : State} {args : Array Value} (h : va_Z C n d v A s s.heap) (hv : v.isRef = true) : (Cond.isRef (.static C n d)).before args s = true := by
  obtain ⟨cf, kf, fi, f, a, cell, h1, h2, h3, h4, h5, h6, h7, -⟩ := h
  have he : (Term.static C n d).eval args s none [] s = some v := by
    simp [Term.eval, State.fieldNamed?, h1, h2, h4, h5, h6, h7]
  simp only [Cond.before, Cond.holds, Cond.value, he]
  cases v <;> simp_all [Value.isRef]
theorem vx_isRefq {C n d : String} {A : Nat → Prop} {s : State} {args : Array Value} (h : va_Zq C n d A s s.heap) : (Cond.isRef (.static C n d)).before args s = true := by
  rcases h with h | ⟨t, h⟩
  · exact vx_isRef h rfl
  · exact vx_isRef h rfl
/-- the same frame, seen from here: as if the method were called anew in this heap -/
theorem vx_rebase {T : State} (X : Stand p l e R s m args below meth c T locs cells slots) {R' : Room} (hf : R'.frames ≤ R.frames) (hl : R'.locals ≤ R.locals) (hc : cells + R'.cells ≤ R.cells) (hs : slots + R'.slots ≤ R.slots) :
    Stand p l e R' ((T.setVm s.vm).setFrames (.invoking m args :: below)) m args below meth c T [] 0 0 := by
  have htop : (T.setVm s.vm).topJava?.isSome := X.here.top
  have hF : ((T.setVm s.vm).setFrames (.invoking m args :: below)).frames = .invoking m args :: below := State.frames_setFrames _ (State.cur_lt_of_top htop)
  obtain ⟨g₀, hg0⟩ := Option.isSome_iff_exists.mp htop
  obtain ⟨r, hr⟩ := State.topJava?_eq_some.mp hg0
  have hl9 : e.platform.stackLimits (T.setVm s.vm).me = e.platform.stackLimits s.me := X.limits
  have hb9 : (T.setVm s.vm).me.stackBytes = s.me.stackBytes := X.bytes
  refine ⟨X.admits, X.cas, X.clock, hF, ?_, X.hears, X.method, X.code, X.here, X.tail, X.warmed, ?_, ?_, ?_⟩
  · have h := X.room
    have hU : ((T.setVm s.vm).setFrames (.invoking m args :: below)).localsInUse = s.localsInUse := by
      rw [State.localsInUse_invoking hF (meth := meth) (c := c) X.method X.code, State.localsInUse_invoking X.frames X.method X.code]
    simp only [State.hasRoom, Bool.and_eq_true, decide_eq_true_eq] at h ⊢
    obtain ⟨⟨⟨⟨h1, h2, h3, h4, h5, h6⟩, h7⟩, h8⟩, h9⟩ := h
    rw [X.frames, List.length_cons] at h2 h3
    have q1 := X.heapSize
    have q2 := X.used
    simp only [hF, hU, List.length_cons, State.stackLimits_setFrames, State.stackBytes_setFrames, hl9, hb9]
    refine ⟨⟨⟨⟨by omega, by omega, by omega, by omega, by omega, h6⟩, ?_⟩, ?_⟩, X.book⟩
    · show T.heap.size + R'.cells ≤ e.platform.maxCells
      omega
    · show T.slotsUsed + R'.slots ≤ e.platform.maxSlots
      omega
  · rw [State.stackLimits_setFrames]; rfl
  · rw [State.stackBytes_setFrames]; rfl
  · refine ⟨?_, Nat.le_refl _, Nat.le_refl _, ?_, ?_, fun a c9 h9 => ⟨c9, h9, rfl, rfl, fun _ _ => rfl⟩⟩
    · obtain ⟨t, ht, -⟩ := State.frames_cons hr
      show T.setVm s.vm = { ((T.setVm s.vm).setFrames (.invoking m args :: below)).setFrames (T.setVm s.vm).frames with heap := T.heap, slotsUsed := T.slotsUsed }
      rw [State.setFrames_setFrames, State.setFrames_self ht]
      rfl
    · show T.slotsUsed = T.slotsUsed + ((T.heap.toList.drop T.heap.size).map (·.slots.size)).sum
      rw [List.drop_eq_nil_of_le (Nat.le_of_eq Array.length_toList)]
      rfl
    · show ((T.heap.toList.drop T.heap.size).map (·.slots.size)).sum ≤ 0
      rw [List.drop_eq_nil_of_le (Nat.le_of_eq Array.length_toList)]
      exact Nat.le_refl _
/-- 'throw new E()': new; dup; invokespecial; athrow -/
theorem vx_throw0 {cc : ByteArray} {pc : Nat} (hexec : p.tables.exec = Jvm.exec) (hb : c.code = cc) (hl : l.stackTraces = false) {own cls : String} {names : List String} {ik ic mc ms : Nat} {A : Nat → Prop}
    (hown : s.vm.findClass own = some m.cls) (hcls : Bundle.fit cls = true) (hnames : ∀ n ∈ names, Bundle.fit n = true)
    (hk : (Cond.classLink own ik cls).before args s = true) (hini : (Cond.initialized cls).before args s = true) (hat : ∀ w ∈ vx_at0 own ic cls names, w.before args s = true)
    (hgood : ∀ w ∈ Cond.classLink own ik cls :: Cond.initialized cls :: vx_at0 own ic cls names, vx_ot w = true)
    (hU : vx_Zq Bundle.tN "UNASSIGNED_STACK" Bundle.steD A s s.heap) (hN : vx_Zq Bundle.tN "SUPPRESSED_SENTINEL" Bundle.listD A s s.heap) (hS : va_S A s.heap H locs) (hsize : ls.size = c.maxLocals)
    (d0 : decode cc pc = .ok (.new ik, 3)) (d3 : decode cc (pc + 3) = .ok (.dup, 1)) (d4 : decode cc (pc + 4) = .ok (.invokespecial ic, 3)) (d7 : decode cc (pc + 7) = .ok (.athrow, 1))
    (hout : ∀ x ∈ c.exceptionTable.toList, covers x (pc + 7) = false)
    (hRframes : names.length + 3 < R.frames) (hRlocals : (rest.map fun v => v.category).sum + (13 * (names.length + 1) + 42) ≤ R.locals) (hRcells : cells + 1 ≤ R.cells) (hRslots : slots + 6 ≤ R.slots) (hlocks : meth.locks = false)
    (hx : ∀ t : State, s.vm.Alike t.vm → H.size ≤ t.heap.size → (∀ q : Nat, q < H.size → t.heap[q]? = H[q]?) → XC cls s t)
    (hf : ∀ z ∈ locs, free z.base) (hc : cells + 1 ≤ mc) (hs : slots + 6 ≤ ms) :
    W p l e R s m args below meth c H locs cells slots (vx_MQ below Qc XC args s mc ms free) (F0 m pc ls rest) := by
  intro T hT X
  have htr : e.platform.stackTraces = false := (show e.platform.stackTraces = l.stackTraces by rw [X.admits.platform]).trans hl
  have Y := vx_rebase X (R' := { frames := R.frames, locals := R.locals, cells := 1, slots := 6 }) (Nat.le_refl _) (Nat.le_refl _) hRcells hRslots
  obtain ⟨s', hA⟩ : ∃ z, z = (T.setVm s.vm).setFrames (.invoking m args :: below) := ⟨_, rfl⟩
  rw [← hA] at Y
  have hvm : s'.vm = s.vm := by rw [hA]; rfl
  have hhp : s'.heap = H := by rw [hA]; exact hT
  have hW0 : s.WarmedH s'.vm := by rw [hvm]; exact State.WarmedH.refl s
  have hat' : ∀ w ∈ vx_at0 own ic cls names, w.before args s' = true := fun w hw => vx_ot_at hW0 hvm.symm (hgood w (List.mem_cons_of_mem _ (List.mem_cons_of_mem _ hw))) (hat w hw)
  have hk' : (Cond.classLink own ik cls).before args s' = true := vx_ot_at hW0 hvm.symm (hgood _ List.mem_cons_self) hk
  have hini' : (Cond.initialized cls).before args s' = true := vx_ot_at hW0 hvm.symm (hgood _ (List.mem_cons_of_mem _ List.mem_cons_self)) hini
  have hU' : vx_Zq Bundle.tN "UNASSIGNED_STACK" Bundle.steD A s' s'.heap := by rw [hhp]; exact vx_Zq.moved hW0.alike (hU.kept hS.2.1)
  have hN' : vx_Zq Bundle.tN "SUPPRESSED_SENTINEL" Bundle.listD A s' s'.heap := by rw [hhp]; exact vx_Zq.moved hW0.alike (hN.kept hS.2.1)
  have h : ∀ w ∈ Bundle.ownAtoms0 own ic cls names, w.before args s' = true := vx_own hat' (vx_isRefq hU'.1) (vx_isRefq hN'.1) hU'.2.word hN'.2.word
  have hown' : s'.vm.findClass own = some m.cls := by rw [hvm]; exact hown
  have hins : (Cond.instantiable cls 6).before args s' = true := h _ (by simp [Bundle.ownAtoms0])
  obtain ⟨vm₁, cX, kX, hfX, hkX, -, -, X₁, st1⟩ := Y.newCold hexec (own := own) (C := cls) (index := ik) (n := 6) hown' hk' hins hini'
    (g := F0 m pc ls rest) rfl (by rw [hb]; exact d0) (Nat.le_refl _) (Nat.le_refl _)
  generalize hT1 : (T.setVm vm₁).pushCell { cls := cX, slots := kX.instanceTypes.map defaultValue, vm := .none } = T1 at X₁ st1
  have hcat : (Value.ref T.heap.size).category = 1 := rfl
  have hcellA : T1.heap[T.heap.size]? = some (freshCell cX kX) := by rw [← hT1]; exact State.heap_pushCell_size _ _
  have d3' : decode c.code (pc + 3) = .ok (.dup, 1) := by rw [hb]; exact d3
  obtain ⟨U, hsteps, hrun, hend, hW, hsame, ce, hce, hO⟩ := X₁.ctorThrow0 hexec htr (own := own) (cls := cls) (names := names) (ic := ic) hown' hcls hnames h (fun x hx => nomatch hx) hfX hkX hcellA (by rw [hhp, hT]; exact Nat.le_refl _)
    (g := { method := m, pc := pc + 4, locals := ls, stack := .ref T.heap.size :: .ref T.heap.size :: rest, locked := none }) rfl hsize rfl rfl (rest := rest) rfl
    (by rw [hb]; exact d4) (by rw [hb]; exact d7) hout hRframes (by simp only [List.map_cons, List.sum_cons, hcat]; omega) hlocks
  obtain ⟨f1, f2⟩ := vx_frame hsame
  rw [hhp] at f1 f2
  have hWs : s.WarmedH U.vm := State.WarmedH.trans hW0 hW
  have hcl : s.vm.findClass cls = some ce.cls := by
    have h9 := hO.cls
    rw [hvm] at h9
    exact h9
  have hall : s.sameButNew ({ U with vm := s.vm } : State) locs mc ms := by
    subst hA
    obtain ⟨e1, e2⟩ := hsame
    rw [State.setFrames_setFrames] at e1
    have h2 : (T.setVm s.vm).sameButNew ({ U with vm := s.vm } : State) [] (0 + 1) (0 + 6) := ⟨e1, e2⟩
    have h3 := X.same.trans h2
    rw [List.append_nil] at h3
    exact h3.mono hc hs
  refine ⟨U, ?_, .threw T.heap.size, hrun, hend, Or.inr ⟨T.heap.size, rfl, cls, ce, locs, hx U hWs.alike f1 (fun q hq => f2 q hq (fun z hz => nomatch hz)), hce, hO.vm, hcl, hWs, hall, hf⟩⟩
  refine st1 _ ?_
  show Steps p.tables e below (T1.setTop { method := m, pc := pc + 3, locals := ls, stack := .ref T.heap.size :: rest, locked := none }) _
  jvm_step X₁.here [X₁.here.top, hexec, d3', Value.category]
  exact hsteps
/-- 'throw new E("text")': new; dup; ldc; invokespecial; athrow -/
theorem vx_throwS {cc : ByteArray} {pc : Nat} (hexec : p.tables.exec = Jvm.exec) (hb : c.code = cc) (hl : l.stackTraces = false) {own cls text : String} {names : List String} {ik is ic mc ms sa : Nat} {A : Nat → Prop}
    (hown : s.vm.findClass own = some m.cls) (hcls : Bundle.fit cls = true) (hnames : ∀ n ∈ names, Bundle.fit n = true)
    (hk : (Cond.classLink own ik cls).before args s = true) (hini : (Cond.initialized cls).before args s = true) (hstr : vk_R own is text sa s) (hat : ∀ w ∈ vx_atS own ic cls names, w.before args s = true)
    (hgood : ∀ w ∈ Cond.classLink own ik cls :: Cond.initialized cls :: vx_atS own ic cls names, vx_ot w = true)
    (hU : vx_Zq Bundle.tN "UNASSIGNED_STACK" Bundle.steD A s s.heap) (hN : vx_Zq Bundle.tN "SUPPRESSED_SENTINEL" Bundle.listD A s s.heap) (hS : va_S A s.heap H locs) (hsize : ls.size = c.maxLocals)
    (d0 : decode cc pc = .ok (.new ik, 3)) (d3 : decode cc (pc + 3) = .ok (.dup, 1)) (d4 : decode cc (pc + 4) = .ok (.ldc is, 2)) (d6 : decode cc (pc + 6) = .ok (.invokespecial ic, 3)) (d9 : decode cc (pc + 9) = .ok (.athrow, 1))
    (hout : ∀ x ∈ c.exceptionTable.toList, covers x (pc + 9) = false)
    (hRframes : names.length + 3 < R.frames) (hRlocals : (rest.map fun v => v.category).sum + (13 * (names.length + 1) + 43) ≤ R.locals) (hRcells : cells + 1 ≤ R.cells) (hRslots : slots + 6 ≤ R.slots) (hlocks : meth.locks = false)
    (hx : ∀ t : State, s.vm.Alike t.vm → H.size ≤ t.heap.size → (∀ q : Nat, q < H.size → t.heap[q]? = H[q]?) → XC cls s t)
    (hf : ∀ z ∈ locs, free z.base) (hc : cells + 1 ≤ mc) (hs : slots + 6 ≤ ms) :
    W p l e R s m args below meth c H locs cells slots (vx_MQ below Qc XC args s mc ms free) (F0 m pc ls rest) := by
  intro T hT X
  have htr : e.platform.stackTraces = false := (show e.platform.stackTraces = l.stackTraces by rw [X.admits.platform]).trans hl
  have Y := vx_rebase X (R' := { frames := R.frames, locals := R.locals, cells := 1, slots := 6 }) (Nat.le_refl _) (Nat.le_refl _) hRcells hRslots
  obtain ⟨s', hA⟩ : ∃ z, z = (T.setVm s.vm).setFrames (.invoking m args :: below) := ⟨_, rfl⟩
  rw [← hA] at Y
  have hvm : s'.vm = s.vm := by rw [hA]; rfl
  have hhp : s'.heap = H := by rw [hA]; exact hT
  have hW0 : s.WarmedH s'.vm := by rw [hvm]; exact State.WarmedH.refl s
  have hat' : ∀ w ∈ vx_atS own ic cls names, w.before args s' = true := fun w hw => vx_ot_at hW0 hvm.symm (hgood w (List.mem_cons_of_mem _ (List.mem_cons_of_mem _ hw))) (hat w hw)
  have hk' : (Cond.classLink own ik cls).before args s' = true := vx_ot_at hW0 hvm.symm (hgood _ List.mem_cons_self) hk
  have hini' : (Cond.initialized cls).before args s' = true := vx_ot_at hW0 hvm.symm (hgood _ (List.mem_cons_of_mem _ List.mem_cons_self)) hini
  have hU' : vx_Zq Bundle.tN "UNASSIGNED_STACK" Bundle.steD A s' s'.heap := by rw [hhp]; exact vx_Zq.moved hW0.alike (hU.kept hS.2.1)
  have hN' : vx_Zq Bundle.tN "SUPPRESSED_SENTINEL" Bundle.listD A s' s'.heap := by rw [hhp]; exact vx_Zq.moved hW0.alike (hN.kept hS.2.1)
  have h : ∀ w ∈ Bundle.ownAtoms own ic cls names, w.before args s' = true := vx_own hat' (vx_isRefq hU'.1) (vx_isRefq hN'.1) hU'.2.word hN'.2.word
  have hown' : s'.vm.findClass own = some m.cls := by rw [hvm]; exact hown
  have hins : (Cond.instantiable cls 6).before args s' = true := h _ (by simp [Bundle.ownAtoms])
  obtain ⟨vm₁, cX, kX, hfX, hkX, -, -, X₁, st1⟩ := Y.newCold hexec (own := own) (C := cls) (index := ik) (n := 6) hown' hk' hins hini'
    (g := F0 m pc ls rest) rfl (by rw [hb]; exact d0) (Nat.le_refl _) (Nat.le_refl _)
  generalize hT1 : (T.setVm vm₁).pushCell { cls := cX, slots := kX.instanceTypes.map defaultValue, vm := .none } = T1 at X₁ st1
  have hcat : (Value.ref T.heap.size).category = 1 := rfl
  have hcellA : T1.heap[T.heap.size]? = some (freshCell cX kX) := by rw [← hT1]; exact State.heap_pushCell_size _ _
  have d3' : decode c.code (pc + 3) = .ok (.dup, 1) := by rw [hb]; exact d3
  have d4' : decode c.code (pc + 4) = .ok (.ldc is, 2) := by rw [hb]; exact d4
  have hstr' : vk_R own is text sa s' := vk_R.warm hW0 hstr
  obtain ⟨U, hsteps, hrun, hend, hW, hsame, ce, hce, hO⟩ := X₁.ctorThrowS hexec htr (own := own) (cls := cls) (names := names) (ic := ic) hown' hcls hnames h (fun x hx => nomatch hx) hfX hkX hcellA (by rw [hhp, hT]; exact Nat.le_refl _) (msg := .ref sa) rfl
    (g := { method := m, pc := pc + 6, locals := ls, stack := .ref sa :: .ref T.heap.size :: .ref T.heap.size :: rest, locked := none }) rfl hsize rfl rfl (rest := rest) rfl
    (by rw [hb]; exact d6) (by rw [hb]; exact d9) hout hRframes (by simp only [List.map_cons, List.sum_cons, hcat]; omega) hlocks
  obtain ⟨f1, f2⟩ := vx_frame hsame
  rw [hhp] at f1 f2
  have hWs : s.WarmedH U.vm := State.WarmedH.trans hW0 hW
  have hcl : s.vm.findClass cls = some ce.cls := by
    have h9 := hO.cls
    rw [hvm] at h9
    exact h9
  have hall : s.sameButNew ({ U with vm := s.vm } : State) locs mc ms := by
    subst hA
    obtain ⟨e1, e2⟩ := hsame
    rw [State.setFrames_setFrames] at e1
    have h2 : (T.setVm s.vm).sameButNew ({ U with vm := s.vm } : State) [] (0 + 1) (0 + 6) := ⟨e1, e2⟩
    have h3 := X.same.trans h2
    rw [List.append_nil] at h3
    exact h3.mono hc hs
  refine ⟨U, ?_, .threw T.heap.size, hrun, hend, Or.inr ⟨T.heap.size, rfl, cls, ce, locs, hx U hWs.alike f1 (fun q hq => f2 q hq (fun z hz => nomatch hz)), hce, hO.vm, hcl, hWs, hall, hf⟩⟩
  refine st1 _ ?_
  show Steps p.tables e below (T1.setTop { method := m, pc := pc + 3, locals := ls, stack := .ref T.heap.size :: rest, locked := none }) _
  jvm_step X₁.here [X₁.here.top, hexec, d3', Value.category]
  exact X₁.ldcString hexec (own := own) (text := text) (index := is) (a := sa) hown' hstr'.1 hstr'.2
    (g := { method := m, pc := pc + 4, locals := ls, stack := .ref T.heap.size :: .ref T.heap.size :: rest, locked := none }) rfl d4' _ hsteps
/-- 'throw new E("text")', the text by a wide index -/
theorem vx_throwSW {cc : ByteArray} {pc : Nat} (hexec : p.tables.exec = Jvm.exec) (hb : c.code = cc) (hl : l.stackTraces = false) {own cls text : String} {names : List String} {ik is ic mc ms sa : Nat} {A : Nat → Prop}
    (hown : s.vm.findClass own = some m.cls) (hcls : Bundle.fit cls = true) (hnames : ∀ n ∈ names, Bundle.fit n = true)
    (hk : (Cond.classLink own ik cls).before args s = true) (hini : (Cond.initialized cls).before args s = true) (hstr : vk_R own is text sa s) (hat : ∀ w ∈ vx_atS own ic cls names, w.before args s = true)
    (hgood : ∀ w ∈ Cond.classLink own ik cls :: Cond.initialized cls :: vx_atS own ic cls names, vx_ot w = true)
    (hU : vx_Zq Bundle.tN "UNASSIGNED_STACK" Bundle.steD A s s.heap) (hN : vx_Zq Bundle.tN "SUPPRESSED_SENTINEL" Bundle.listD A s s.heap) (hS : va_S A s.heap H locs) (hsize : ls.size = c.maxLocals)
    (d0 : decode cc pc = .ok (.new ik, 3)) (d3 : decode cc (pc + 3) = .ok (.dup, 1)) (d4 : decode cc (pc + 4) = .ok (.ldc_w is, 3)) (d7 : decode cc (pc + 7) = .ok (.invokespecial ic, 3)) (d10 : decode cc (pc + 10) = .ok (.athrow, 1))
    (hout : ∀ x ∈ c.exceptionTable.toList, covers x (pc + 10) = false)
    (hRframes : names.length + 3 < R.frames) (hRlocals : (rest.map fun v => v.category).sum + (13 * (names.length + 1) + 43) ≤ R.locals) (hRcells : cells + 1 ≤ R.cells) (hRslots : slots + 6 ≤ R.slots) (hlocks : meth.locks = false)
    (hx : ∀ t : State, s.vm.Alike t.vm → H.size ≤ t.heap.size → (∀ q : Nat, q < H.size → t.heap[q]? = H[q]?) → XC cls s t)
    (hf : ∀ z ∈ locs, free z.base) (hc : cells + 1 ≤ mc) (hs : slots + 6 ≤ ms) :
    W p l e R s m args below meth c H locs cells slots (vx_MQ below Qc XC args s mc ms free) (F0 m pc ls rest) := by
  intro T hT X
  have htr : e.platform.stackTraces = false := (show e.platform.stackTraces = l.stackTraces by rw [X.admits.platform]).trans hl
  have Y := vx_rebase X (R' := { frames := R.frames, locals := R.locals, cells := 1, slots := 6 }) (Nat.le_refl _) (Nat.le_refl _) hRcells hRslots
  obtain ⟨s', hA⟩ : ∃ z, z = (T.setVm s.vm).setFrames (.invoking m args :: below) := ⟨_, rfl⟩
  rw [← hA] at Y
  have hvm : s'.vm = s.vm := by rw [hA]; rfl
  have hhp : s'.heap = H := by rw [hA]; exact hT
  have hW0 : s.WarmedH s'.vm := by rw [hvm]; exact State.WarmedH.refl s
  have hat' : ∀ w ∈ vx_atS own ic cls names, w.before args s' = true := fun w hw => vx_ot_at hW0 hvm.symm (hgood w (List.mem_cons_of_mem _ (List.mem_cons_of_mem _ hw))) (hat w hw)
  have hk' : (Cond.classLink own ik cls).before args s' = true := vx_ot_at hW0 hvm.symm (hgood _ List.mem_cons_self) hk
  have hini' : (Cond.initialized cls).before args s' = true := vx_ot_at hW0 hvm.symm (hgood _ (List.mem_cons_of_mem _ List.mem_cons_self)) hini
  have hU' : vx_Zq Bundle.tN "UNASSIGNED_STACK" Bundle.steD A s' s'.heap := by rw [hhp]; exact vx_Zq.moved hW0.alike (hU.kept hS.2.1)
  have hN' : vx_Zq Bundle.tN "SUPPRESSED_SENTINEL" Bundle.listD A s' s'.heap := by rw [hhp]; exact vx_Zq.moved hW0.alike (hN.kept hS.2.1)
  have h : ∀ w ∈ Bundle.ownAtoms own ic cls names, w.before args s' = true := vx_own hat' (vx_isRefq hU'.1) (vx_isRefq hN'.1) hU'.2.word hN'.2.word
  have hown' : s'.vm.findClass own = some m.cls := by rw [hvm]; exact hown
  have hins : (Cond.instantiable cls 6).before args s' = true := h _ (by simp [Bundle.ownAtoms])
  obtain ⟨vm₁, cX, kX, hfX, hkX, -, -, X₁, st1⟩ := Y.newCold hexec (own := own) (C := cls) (index := ik) (n := 6) hown' hk' hins hini'
    (g := F0 m pc ls rest) rfl (by rw [hb]; exact d0) (Nat.le_refl _) (Nat.le_refl _)
  generalize hT1 : (T.setVm vm₁).pushCell { cls := cX, slots := kX.instanceTypes.map defaultValue, vm := .none } = T1 at X₁ st1
  have hcat : (Value.ref T.heap.size).category = 1 := rfl
  have hcellA : T1.heap[T.heap.size]? = some (freshCell cX kX) := by rw [← hT1]; exact State.heap_pushCell_size _ _
  have d3' : decode c.code (pc + 3) = .ok (.dup, 1) := by rw [hb]; exact d3
  have d4' : decode c.code (pc + 4) = .ok (.ldc_w is, 3) := by rw [hb]; exact d4
  have hstr' : vk_R own is text sa s' := vk_R.warm hW0 hstr
  obtain ⟨U, hsteps, hrun, hend, hW, hsame, ce, hce, hO⟩ := X₁.ctorThrowS hexec htr (own := own) (cls := cls) (names := names) (ic := ic) hown' hcls hnames h (fun x hx => nomatch hx) hfX hkX hcellA (by rw [hhp, hT]; exact Nat.le_refl _) (msg := .ref sa) rfl
    (g := { method := m, pc := pc + 7, locals := ls, stack := .ref sa :: .ref T.heap.size :: .ref T.heap.size :: rest, locked := none }) rfl hsize rfl rfl (rest := rest) rfl
    (by rw [hb]; exact d7) (by rw [hb]; exact d10) hout hRframes (by simp only [List.map_cons, List.sum_cons, hcat]; omega) hlocks
  obtain ⟨f1, f2⟩ := vx_frame hsame
  rw [hhp] at f1 f2
  have hWs : s.WarmedH U.vm := State.WarmedH.trans hW0 hW
  have hcl : s.vm.findClass cls = some ce.cls := by
    have h9 := hO.cls
    rw [hvm] at h9
    exact h9
  have hall : s.sameButNew ({ U with vm := s.vm } : State) locs mc ms := by
    subst hA
    obtain ⟨e1, e2⟩ := hsame
    rw [State.setFrames_setFrames] at e1
    have h2 : (T.setVm s.vm).sameButNew ({ U with vm := s.vm } : State) [] (0 + 1) (0 + 6) := ⟨e1, e2⟩
    have h3 := X.same.trans h2
    rw [List.append_nil] at h3
    exact h3.mono hc hs
  refine ⟨U, ?_, .threw T.heap.size, hrun, hend, Or.inr ⟨T.heap.size, rfl, cls, ce, locs, hx U hWs.alike f1 (fun q hq => f2 q hq (fun z hz => nomatch hz)), hce, hO.vm, hcl, hWs, hall, hf⟩⟩
  refine st1 _ ?_
  show Steps p.tables e below (T1.setTop { method := m, pc := pc + 3, locals := ls, stack := .ref T.heap.size :: rest, locked := none }) _
  jvm_step X₁.here [X₁.here.top, hexec, d3', Value.category]
  exact X₁.ldcStringW hexec (own := own) (text := text) (index := is) (a := sa) hown' hstr'.1 hstr'.2
    (g := { method := m, pc := pc + 4, locals := ls, stack := .ref T.heap.size :: .ref T.heap.size :: rest, locked := none }) rfl d4' _ hsteps
end Ends
section Bodies
variable {l : Launch}
theorem vx_ofW {y : MethodName} {ws ws' : List Cond} {rm : Room} {Pc : Array Value → State → Prop} {Qc : Array Value → State → Outcome → State → Prop} {XC : String → State → State → Prop} {mc ms : Nat} {free : Addr → Prop} {cc : ByteArray} {maxL : Nat} {ret : Option FieldType}
    (hy : plainName y.cls = true) (hw : ws = Cond.code y cc maxL ret :: ws')
    (body : ∀ p e s m args below meth c s₁, BodyLoose p l y (headSpec ws rm) cc maxL ret e s m args below meth c s₁ → c.maxLocals = maxL → (∀ x ∈ c.exceptionTable.toList, False) → Pc args s →
      W p l e (headSpec ws rm).room s m args below meth c s.heap [] 0 0 (vx_MQ below Qc XC args s mc ms free) (entryFrame m args maxL)) : vx_Met l y ws rm Pc Qc XC mc ms free := by
  refine MetFree.of_bodyS (code := cc) (maxLocals := maxL) (ret := ret) hy ?_ ?_
  · intro args s m h hn
    obtain ⟨meth, c, h1, h2, h3, h4, h5, h6, -, -⟩ := Cond.code_spec hn (atoms_spec (ws := ws) h _ (by rw [hw]; exact List.mem_cons_self))
    exact ⟨meth, c, h1, h2, h3, h4, h5, h6⟩
  · intro p e s m args below meth c s₁ B hml hP _
    have hh0 : s₁.heap = s.heap := by rw [B.state]; rfl
    have ht : ∀ x ∈ c.exceptionTable.toList, False := by
      obtain ⟨meth9, c9, h1, h2, -, -, -, -, h7, -⟩ := Cond.code_spec B.named (atoms_spec (ws := ws) B.pre _ (by rw [hw]; exact List.mem_cons_self))
      cases Option.some.inj (h1.symm.trans B.method)
      cases Option.some.inj (h2.symm.trans (Stand.of_body B).code)
      intro x hx
      rw [Array.isEmpty_iff.mp h7] at hx
      cases hx
    obtain ⟨t, a1, o, b1, b2, b3⟩ := body p e s m args below meth c s₁ B hml ht hP s₁ hh0 (Stand.of_body B)
    exact ⟨t, o, a1, b1, b2, b3⟩
/-- the table of a body with handlers -/
theorem vx_table {p : Program} {x y : MethodName} {S : Spec} {cc bytes : ByteArray} {maxL maxL' : Nat} {ret ret' : Option FieldType} {e : Env} {s s₁ : State} {m : MethodId} {args : Array Value} {below : List Frame} {meth : Method} {c : Code} {hh : List (Nat × Nat × Nat × Nat)}
    (B : BodyLoose p l y S cc maxL ret e s m args below meth c s₁) (h : (Cond.codeWith y bytes maxL' ret' hh).before args s = true) : c.exceptionTable.toList = tableOf hh := by
  obtain ⟨m9, meth9, c9, hn9, h1, h2, -, -, h6, -⟩ := Cond.codeWith_spec h
  cases Option.some.inj (hn9.symm.trans B.named)
  cases Option.some.inj (h1.symm.trans B.method)
  cases Option.some.inj (h2.symm.trans (Stand.of_body B).code)
  rw [← h6, table_eq]
end Bodies
end VXA
/-! ===== END ===== -/
/-! ===== BEGIN a static call of a method with an exception table ===== -/
section VXS
variable {p : Program} {l : Launch} {e : Env} {R : Room} {s : State} {m : MethodId} {args : Array Value} {below : List Frame} {meth : Method} {c : Code} {T : State} {H : Heap} {locs : List Loc} {cells slots : Nat}
abbrev vx_CSW (R : Room) (s : State) (args : Array Value) (own : String) (index : Nat) (y : MethodName) (bytes : ByteArray) (maxL : Nat) (ret : Option FieldType) (hh : List (Nat × Nat × Nat × Nat)) (ws : List Cond) (rm : Room) (mc ms n : Nat) : Prop :=
  (rm.cells = mc ∧ rm.slots = ms ∧ rm.frames + 1 ≤ R.frames ∧ 8 + (maxL + 11) + rm.locals ≤ R.locals ∧ (∀ w ∈ ws, ∀ (a' : Array Value) (U : State), s.WarmedH U.vm → w.before a' U = true) ∧ Cond.codeWith y bytes maxL ret hh ∈ ws) ∧
  (Cond.codeWith y bytes maxL ret hh).before args s = true ∧ (Cond.initialized y.cls).before args s = true ∧ (y.cls ≠ "java/lang/invoke/MethodHandle" ∧ y.cls ≠ "java/lang/invoke/VarHandle") ∧
  (∀ sig, parseMethodDescriptor y.desc = some sig → n = sig.parameters.length) ∧ (Cond.methodLink own index y).before args s = true ∧ (Cond.static y).before args s = true
theorem vx_cwSW {own : String} {index maxL mc ms : Nat} {y : MethodName} {bytes : ByteArray} {ret : Option FieldType} {hh : List (Nat × Nat × Nat × Nat)} {Ts ws ws' : List Cond} {rm : Room} (n : Nat) (ht : ∀ w ∈ Ts, w.before args s = true) (hT : GoodIn Ts (va_wsS own index y ws)) (hw : ws = Cond.codeWith y bytes maxL ret hh :: ws') (hrc : rm.cells = mc) (hrs : rm.slots = ms)
    (hd : y.cls ≠ "java/lang/invoke/MethodHandle" ∧ y.cls ≠ "java/lang/invoke/VarHandle" ∧ (parseMethodDescriptor y.desc).map (fun d => d.parameters.length) = some n) (hR : rm.frames + 1 ≤ R.frames ∧ 8 + (maxL + 11) + rm.locals ≤ R.locals) :
    vx_CSW R s args own index y bytes maxL ret hh ws rm mc ms n := by
  have ok : ∀ w ∈ va_wsS own index y ws, w.before args s = true := fun w h => ht w (hT w h).1
  have hG : GoodIn Ts ws := fun w h => hT w (by unfold va_wsS; exact List.mem_append_right _ h)
  have hc : Cond.codeWith y bytes maxL ret hh ∈ ws := by rw [hw]; exact List.mem_cons_self
  refine ⟨⟨hrc, hrs, hR.1, hR.2, pay_in ht hG, hc⟩, ht _ (hG _ hc).1, ok _ (by simp [va_wsS]), ⟨hd.1, hd.2.1⟩, fun sig h => ?_, ok _ (by simp [va_wsS]), ok _ (by simp [va_wsS])⟩
  have h2 := hd.2.2
  rw [h] at h2
  exact (Option.some.inj h2).symm
theorem vx_callSW (X : Stand p l e R s m args below meth c T locs cells slots) (hexec : p.tables.exec = Jvm.exec) {own : String} {index : Nat} {y : MethodName} {bytes : ByteArray} {maxL : Nat} {ret : Option FieldType} {hh : List (Nat × Nat × Nat × Nat)}
    (hown : s.vm.findClass own = some m.cls) (hlink : (Cond.methodLink own index y).before args s = true) (hstat : (Cond.static y).before args s = true) (hinit : (Cond.initialized y.cls).before args s = true)
    (hcode : (Cond.codeWith y bytes maxL ret hh).before args s = true) (hy : y.cls ≠ "java/lang/invoke/MethodHandle" ∧ y.cls ≠ "java/lang/invoke/VarHandle")
    {W9 : Nat} {Pre : Pt → Array Value → Prop} {Post : Pt → Array Value → Option Value → Pt → Prop} (hK : Back l R p e below s args y 3 W9 Pre Post)
    {g : JFrame} (hg : g.method = m) (hsize : g.locals.size = c.maxLocals) {argsL rest : List Value} (hlen : ∀ sig, parseMethodDescriptor y.desc = some sig → argsL.length = sig.parameters.length)
    (hstack : g.stack = argsL.reverse ++ rest) (hW : 2 * g.monitorRoom + (rest.map fun v => v.category).sum ≤ W9) (hdg : decode c.code g.pc = .ok (.invokestatic index, 3))
    (hpre : ∀ vm₁, s.WarmedH vm₁ → Pre ⟨T.setVm vm₁, locs, cells, slots⟩ argsL.toArray) :
    ∃ (v : Option Value) (vm₁ : Vm) (B : Pt), s.WarmedH vm₁ ∧ Stand p l e R s m args below meth c B.U B.locs B.cells B.slots ∧ Post ⟨T.setVm vm₁, locs, cells, slots⟩ argsL.toArray v B ∧
      ∀ target, Steps p.tables e below (B.U.setTop { g with pc := g.pc + 3, stack := v.toList ++ rest }) target → Steps p.tables e below (T.setTop g) target := by
  obtain ⟨mk, methM, cM, hnamed, hmethM, -, -, -, -, -, -, hsigM⟩ := Cond.codeWith_spec hcode
  have hstatic : methM.isStatic = true := Cond.static_spec hnamed hmethM hstat
  obtain ⟨kP, hkP, -⟩ := className_of_methodNamed hnamed
  have hinitP : kP.init = .initialized := Cond.initialized_spec (findClass_of_methodNamed hnamed) hkP hinit
  obtain ⟨vm₁, X₁, hstep₁⟩ := X.invokestatic hexec hown hlink hnamed hmethM hstatic hkP hinitP hy (g := g) hg (argsL := argsL) (rest := rest) (hlen _ hsigM) hstack hdg
  obtain ⟨v, B, X', hpost, hsteps⟩ := hK m meth c ⟨T.setVm vm₁, locs, cells, slots⟩ { g with stack := rest } (.invokestatic index) mk argsL.toArray X₁ hg hsize hdg hW (X₁.named hnamed) (hpre vm₁ X₁.warmed)
  exact ⟨v, vm₁, B, X₁.warmed, X', hpost, fun target h => hstep₁ _ fun acts => by rw [doInvoke_state]; exact hsteps.trans h⟩
theorem vx_runSW {y : MethodName} {bytes cc : ByteArray} {maxL nL mc ms n index : Nat} {ret : Option FieldType} {hh : List (Nat × Nat × Nat × Nat)} {ws : List Cond} {rm : Room} {Pc : Array Value → State → Prop} {Qc : Array Value → State → Outcome → State → Prop} {free : Addr → Prop} {Ts : List Cond} {own : String} {As rest : List Value} {g : JFrame}
    (S : CallFix p m c cc nL s args Ts own) (hM : Met l y ws rm Pc Qc mc ms free) (cw : vx_CSW R s args own index y bytes maxL ret hh ws rm mc ms n) (hp : PreS s H Pc As)
    (hg : g.method = m) (hn : As.length = n) (hsize : g.locals.size = nL) (hstack : g.stack = As.reverse ++ rest) (hW : 2 * g.monitorRoom + (rest.map fun v => v.category).sum ≤ 8) (hdg : decode cc g.pc = .ok (.invokestatic index, 3)) (hf : cells + mc ≤ R.cells ∧ slots + ms ≤ R.slots) :
    va_Run p l e R s m args below meth c H locs cells slots mc ms g rest (Qc As.toArray) (free) := by
  obtain ⟨⟨hrc, hrs, hfr, hlo, hws, hcw⟩, hcode, hini, hy, hlen, hl, hstt⟩ := cw
  have hK : Back l R p e below s args y 3 8 (PreOf R mc ms Pc) (PostOf Qc mc ms free) := va_backW (hh := hh) (bytes := bytes) (maxL := maxL) (ret := ret) hM hp.1 hrc hrs hfr hlo hws hcw (fun a' U hW => word_at hW (Or.inl (by first | rfl | simp [Cond.onTables, Cond.keeps, Cond.steady])) hini)
  obtain ⟨hx, hb, hml, ho, -⟩ := S
  intro T hT X
  obtain ⟨v, vm₁, ⟨U', l2, c2, s2⟩, hW₁, X', ⟨g', mk, t, L, e1, e2, hq, h1, hL, h2, h3⟩, st⟩ := vx_callSW X hx (hh := hh) (bytes := bytes) (maxL := maxL) (ret := ret) ho hl hstt hini hcode hy hK hg (hsize.trans hml.symm) (argsL := As) (rest := rest) (fun sig h => hn.trans (hlen sig h)) hstack hW (by rw [hb]; exact hdg)
    (fun vm₁ hW₁ => ⟨hf.1, hf.2, hp.2 (T.setVm vm₁) hT hW₁⟩)
  dsimp only [Pt.U, Pt.locs, Pt.cells, Pt.slots] at X' e1 e2 h1 h2 h3 st
  subst h1; subst h2; subst h3
  exact ⟨v, (T.setVm vm₁).calling g' mk As.toArray, t, U', L, hT, X', hL, e1, e2, hq, st⟩
/-- not caught here, past rows that name other classes: it goes on to the caller -/
theorem vx_outP {p : Program} {l : Launch} {e : Env} {R : Room} {s : State} {m : MethodId} {args : Array Value} {below : List Frame} {meth : Method} {c : Code} {H : Heap} {locs : List Loc} {cells slots : Nat} {free : Addr → Prop} {ls : Array Slot} {rest : List Value} {Qc : Array Value → State → Outcome → State → Prop} {XC : String → State → State → Prop}
    {pc : Nat} {own E : String} {ce : Cell} {q : Addr} {mc ms : Nat} (hown : s.vm.findClass own = some m.cls) (hlocks : meth.locks = false)
    (hpass : ∀ z ∈ c.exceptionTable.toList, covers z pc = false ∨ (z.catchType ≠ 0 ∧ ∃ nm : String, (Cond.classLink own z.catchType nm).before args s = true ∧ va_Nc E nm s)) (hcell : H[q]? = some ce) (hv : ce.vm = .none) (hcl : s.vm.findClass E = some ce.cls)
    (hx : ∀ t : State, t.heap = H → s.vm.Alike t.vm → XC E s t) (hf : ∀ z ∈ locs, free z.base) (hc : cells ≤ mc) (hs : slots ≤ ms) :
    vx_W p l e R s m args below meth c H locs cells slots (vx_MQ below Qc XC args s mc ms free) (F0 m pc ls rest) q := by
  intro T hT X
  have hpl : e.platform.magicAccessors = ({} : Platform).magicAccessors := by rw [X.admits.platform]
  obtain ⟨vm', hW', X', st⟩ := X.outThrough hlocks q (g := F0 m pc ls rest) rfl rfl rfl (cell := ce) (by rw [hT]; exact hcell) (by rw [hv]; rfl)
    (by obtain ⟨k9, h9, -⟩ := Vm.findClass_spec hcl; exact ⟨k9, h9⟩) (fun z hz => by
      rcases hpass z hz with h | ⟨hz0, nm, hl1, hn1⟩
      · exact Or.inl h
      · obtain ⟨c6, hc6, hcl6⟩ := Cond.classLink_spec hown hl1 e.platform hpl
        obtain ⟨a8, b8, h1, h2, h3⟩ := hn1
        cases Option.some.inj (h1.symm.trans hcl)
        cases Option.some.inj (h2.symm.trans hc6)
        exact Or.inr ⟨hz0, _, hcl6, h3⟩)
  obtain ⟨g₀, hfr⟩ := X'.frames_eq
  have hcell9 : ((T.setVm vm').setFrames (.throwing q :: below)).heap[q]? = some ce := by
    show T.heap[q]? = some ce
    rw [hT]; exact hcell
  have hend : Ended ((T.setVm vm').setFrames (.throwing q :: below)) below (.threw q) := State.frames_setFrames _ (State.cur_lt_of_frames hfr)
  refine ⟨(T.setVm vm').setFrames (.throwing q :: below), ?_, .threw q, X'.here.running, hend, Or.inr ⟨q, rfl, E, ce, locs, hx _ hT (X'.ends _).1.alike, hcell9, hv, hcl, (X'.ends _).1, (X'.ends _).2.mono hc hs, hf⟩⟩
  rw [X.pushThrowing_eq]
  exact st
/-- a thing of a world lies in the heap -/
theorem vx_lt {D : va_G} {cl : List vw_C} {ws : va_W} {H1 : Heap} (h : va_P D cl ws H1) {k : Nat} {q : Nat × va_E} (hk : ws[k]? = some q) : q.1 < H1.size := (h k q hk).lt
end VXS
/-! ===== END ===== -/
/-! ===== BEGIN methods with a table of their own: called by a name, returning or throwing ===== -/
section VXH
/-! vx_backW, vx_callVX, vx_callSX, vx_callVW, vx_runVW, vx_runVX, vx_runSX, vx_ofWH follow the same proofs as their sisters above (Free/Laws.lean, Shelf42/LK1.lean); vx_outP calls Shelf42/NT130.lean (outThrough). -/
section
variable {l : Launch} {R : Room} {p : Program} {e : Env} {below : List Frame} {s : State} {sargs : Array Value} {y : MethodName} {len W9 : Nat}
theorem vx_backW {ws : List Cond} {rm : Room} {Pc : Array Value → State → Prop} {Qc : Array Value → State → Outcome → State → Prop} {XC : String → State → State → Prop} {mc ms : Nat} {free : Addr → Prop} {bytes : ByteArray} {maxL : Nat} {ret : Option FieldType} {hh : List (Nat × Nat × Nat × Nat)}
    (hM : vx_Met l y ws rm Pc Qc XC mc ms free) (hblind : FrameBlind Pc) (hrc : rm.cells = mc) (hrs : rm.slots = ms)
    (hframes : rm.frames + 1 ≤ R.frames) (hlocals : W9 + (maxL + 11) + rm.locals ≤ R.locals)
    (hws : ∀ w ∈ ws, ∀ a' U, s.WarmedH U.vm → w.before a' U = true) (hcode : Cond.codeWith y bytes maxL ret hh ∈ ws) (hinit : ∀ a' U, s.WarmedH U.vm → (Cond.initialized y.cls).before a' U = true) :
    vx_Back l R p e below s sargs y len W9 (PreOf R mc ms Pc) (PostOf Qc mc ms free) (vx_Post XC mc ms free) := by
  intro m meth c A g ig mk a X hg hsize hdg hW hn hp
  have h1 : (headSpec ws rm).pre.before a A.U = true := atoms_intro fun w hw => hws w hw _ _ X.warmed
  have h2 : (Cond.codeWith y bytes maxL ret hh).before a A.U = true := hws _ hcode _ _ X.warmed
  have h3 : (Cond.initialized y.cls).before a A.U = true := hinit _ _ X.warmed
  have h4 : A.cells + (headSpec ws rm).room.cells ≤ R.cells := by rw [show (headSpec ws rm).room.cells = mc from hrc]; exact hp.1
  have h5 : A.slots + (headSpec ws rm).room.slots ≤ R.slots := by rw [show (headSpec ws rm).room.slots = ms from hrs]; exact hp.2.1
  have hPc : Pc a (A.U.calling g mk a) := hblind _ _ _ _ hp.2.2
  obtain ⟨U, Ls, c0, s0⟩ := A
  dsimp only [Pt.U, Pt.locs, Pt.cells, Pt.slots] at h1 h2 h3 h4 h5 X hn hPc ⊢
  obtain ⟨m9, methY, cY, hn9, hmY, hcY, -, hlY, -⟩ := Cond.codeWith_spec h2
  cases Option.some.inj (hn9.symm.trans hn)
  obtain ⟨kY, hkY, -⟩ := className_of_methodNamed hn
  have hinitY : kY.init = .initialized := Cond.initialized_spec (findClass_of_methodNamed hn) hkY h3
  have h : At U g.method c below := by rw [hg]; exact X.here
  have hlocals9 : W9 + (maxL + 11) + (headSpec ws rm).room.locals ≤ R.locals := hlocals
  have happ : (headSpec ws rm).appliesLoose y e.platform (U.calling g mk a) = true :=
    Spec.appliesLoose_calling (g := g) h hdg hn hkY hinitY
      (X.room_calling (g := g) (R' := (headSpec ws rm).room) hsize hmY hcY hframes (by rw [hlY]; omega) h4 h5) h1
  obtain ⟨mid, hmid⟩ := h.above
  have hfr : (U.setTop g).frames = (.java g :: mid) ++ below := by rw [State.frames_setTop' g h.top, hmid]; rfl
  obtain ⟨o, s₂, hsteps, -, hend, hq⟩ := Steps.callFree hM p X.admits X.cas X.clock (acts := []) hfr happ hPc trivial
  have hq' : vx_Q Qc XC mc ms free a (U.calling g mk a) o s₂ := hq
  rw [State.frames_setTop' g h.top] at hend
  obtain ⟨g₀, hg0⟩ := Option.isSome_iff_exists.mp h.top
  obtain ⟨r, hr⟩ := State.topJava?_eq_some.mp hg0
  have hr' : (({ U with heap := s₂.heap, slotsUsed := s₂.slotsUsed } : State).setVm s₂.vm).frames = .java g₀ :: r := hr
  rcases hq' with ⟨hqc, L, hfe, hL⟩ | ⟨q, rfl, E, ce, L, hx, hce, hcv, hcl, hW₂, hsm, hL⟩
  · obtain ⟨⟨v, rfl⟩, hW₂, e2, q2, q3, q4, q5, q6⟩ := id hfe
    have e3 : s₂ = ({ (U.calling g mk a).setFrames s₂.frames with heap := s₂.heap, slotsUsed := s₂.slotsUsed } : State).setVm s₂.vm := by
      have : s₂ = ({ s₂ with vm := (U.calling g mk a).vm } : State).setVm s₂.vm := rfl
      rw [e2] at this
      exact this
    obtain ⟨c₂, i₂, len₂, hc₂, hd₂, hf₂⟩ := hend
    have hW' : U.WarmedH s₂.vm := hW₂
    have hcc : c₂ = c := by
      have h1 : s₂.code? g.method = U.code? g.method := by
        rw [State.code?_eq, State.code?_eq, hW'.alike.method?]
      exact Option.some.inj (hc₂.symm.trans (h1.trans h.code))
    subst hcc
    have hlen : len₂ = len := by rw [hdg] at hd₂; cases hd₂; rfl
    subst hlen
    have hs₂ : s₂ = (({ U with heap := s₂.heap, slotsUsed := s₂.slotsUsed } : State).setVm s₂.vm).setTop { g with pc := g.pc + len₂, stack := v.toList ++ g.stack } := by
      refine e3.trans ?_
      rw [hf₂, State.calling_eq h.top, State.setFrames_setFrames, State.setTop_of_frames _ hr', hr]
      rfl
    have hsame : U.sameButNew ({ U with heap := s₂.heap, slotsUsed := s₂.slotsUsed } : State) L mc ms := by
      refine ⟨?_, q2, q3, q4, q5, q6⟩
      obtain ⟨t, ht, -⟩ := State.frames_cons hr
      show ({ U with heap := s₂.heap, slotsUsed := s₂.slotsUsed } : State) = { U.setFrames U.frames with heap := s₂.heap, slotsUsed := s₂.slotsUsed }
      rw [State.setFrames_self ht]
    subst hg
    refine Or.inl ⟨v, ⟨(({ U with heap := s₂.heap, slotsUsed := s₂.slotsUsed } : State).setVm s₂.vm), Ls ++ L, c0 + mc, s0 + ms⟩,
      ⟨X.admits, X.cas, X.clock, X.frames, X.room, X.hears, X.method, X.code, (X.here.setHeapUsed s₂.heap s₂.slotsUsed).setVm hW'.alike, X.tail, State.WarmedH.trans X.warmed hW', X.limits, X.bytes, X.same.trans (hsame.setVm s.vm)⟩,
      ⟨g, mk, s₂, L, rfl, rfl, hqc, rfl, hL, rfl, rfl⟩, ?_⟩
    show Steps p.tables e below _ ((({ U with heap := s₂.heap, slotsUsed := s₂.slotsUsed } : State).setVm s₂.vm).setTop { g with pc := g.pc + len₂, stack := v.toList ++ g.stack })
    rw [← hs₂]
    exact hsteps
  · obtain ⟨e2, q2, q3, q4, q5, q6⟩ := id hsm
    have e3 : s₂ = ({ (U.calling g mk a).setFrames s₂.frames with heap := s₂.heap, slotsUsed := s₂.slotsUsed } : State).setVm s₂.vm := by
      have : s₂ = ({ s₂ with vm := (U.calling g mk a).vm } : State).setVm s₂.vm := rfl
      rw [e2] at this
      exact this
    have hf₂ : s₂.frames = .throwing q :: .java g :: U.frames.tail := hend
    have hW' : U.WarmedH s₂.vm := hW₂
    have hs₂ : s₂ = ((({ U with heap := s₂.heap, slotsUsed := s₂.slotsUsed } : State).setVm s₂.vm).setTop g).pushFrame (.throwing q) := by
      refine e3.trans ?_
      rw [hf₂, State.calling_eq h.top, State.setFrames_setFrames, State.pushFrame, State.frames_setTop _ hr', State.setTop_of_frames _ hr', State.setFrames_setFrames, hr]
      rfl
    have hsame : U.sameButNew ({ U with heap := s₂.heap, slotsUsed := s₂.slotsUsed } : State) L mc ms := by
      refine ⟨?_, q2, q3, q4, q5, q6⟩
      obtain ⟨t, ht, -⟩ := State.frames_cons hr
      show ({ U with heap := s₂.heap, slotsUsed := s₂.slotsUsed } : State) = { U.setFrames U.frames with heap := s₂.heap, slotsUsed := s₂.slotsUsed }
      rw [State.setFrames_self ht]
    subst hg
    refine Or.inr ⟨q, ⟨(({ U with heap := s₂.heap, slotsUsed := s₂.slotsUsed } : State).setVm s₂.vm), Ls ++ L, c0 + mc, s0 + ms⟩,
      ⟨X.admits, X.cas, X.clock, X.frames, X.room, X.hears, X.method, X.code, (X.here.setHeapUsed s₂.heap s₂.slotsUsed).setVm hW'.alike, X.tail, State.WarmedH.trans X.warmed hW', X.limits, X.bytes, X.same.trans (hsame.setVm s.vm)⟩,
      ⟨g, mk, s₂, L, E, ce, rfl, rfl, hx, hce, hcv, hcl, rfl, hL, rfl, rfl⟩, ?_⟩
    show Steps p.tables e below _ (((({ U with heap := s₂.heap, slotsUsed := s₂.slotsUsed } : State).setVm s₂.vm).setTop g).pushFrame (.throwing q))
    rw [← hs₂]
    exact hsteps
end
variable {p : Program} {l : Launch} {e : Env} {R : Room} {s : State} {m : MethodId} {args : Array Value} {below : List Frame} {meth : Method} {c : Code} {T : State} {H : Heap} {locs : List Loc} {cells slots : Nat}
theorem vx_callVX (X : Stand p l e R s m args below meth c T locs cells slots) (hexec : p.tables.exec = Jvm.exec) {own C : String} {index : Nat} {y : MethodName} {bytes : ByteArray} {maxL : Nat} {ret : Option FieldType} {hh : List (Nat × Nat × Nat × Nat)}
    (hown : s.vm.findClass own = some m.cls) (hlink : (Cond.methodLink own index y).before args s = true) (hinst : (Cond.instanceMethod y).before args s = true) (hsel : (Cond.selects C y y).before args s = true)
    (hcode : (Cond.codeWith y bytes maxL ret hh).before args s = true) (hy : y.cls ≠ "java/lang/invoke/MethodHandle" ∧ y.cls ≠ "java/lang/invoke/VarHandle")
    {W9 : Nat} {Pre : Pt → Array Value → Prop} {Post : Pt → Array Value → Option Value → Pt → Prop} {PostX : Pt → Array Value → Addr → Pt → Prop} (hK : vx_Back l R p e below s args y 3 W9 Pre Post PostX)
    {b : Addr} {cellB : Cell} (hcell : T.heap[b]? = some cellB) (hobj : cellB.vm.isStatics = false) (hcls : s.vm.findClass C = some cellB.cls)
    {g : JFrame} (hg : g.method = m) (hsize : g.locals.size = c.maxLocals) {argsL rest : List Value} (hlen : ∀ sig, parseMethodDescriptor y.desc = some sig → argsL.length = sig.parameters.length)
    (hstack : g.stack = argsL.reverse ++ .ref b :: rest) (hW : 2 * g.monitorRoom + (rest.map fun v => v.category).sum ≤ W9) (hdg : decode c.code g.pc = .ok (.invokevirtual index, 3))
    (hpre : ∀ vm₁, s.WarmedH vm₁ → Pre ⟨T.setVm vm₁, locs, cells, slots⟩ (Value.ref b :: argsL).toArray) :
    (∃ (v : Option Value) (vm₁ : Vm) (B : Pt), s.WarmedH vm₁ ∧ Stand p l e R s m args below meth c B.U B.locs B.cells B.slots ∧ Post ⟨T.setVm vm₁, locs, cells, slots⟩ (Value.ref b :: argsL).toArray v B ∧
      ∀ target, Steps p.tables e below (B.U.setTop { g with pc := g.pc + 3, stack := v.toList ++ rest }) target → Steps p.tables e below (T.setTop g) target) ∨
    (∃ (q : Addr) (vm₁ : Vm) (B : Pt), s.WarmedH vm₁ ∧ Stand p l e R s m args below meth c B.U B.locs B.cells B.slots ∧ PostX ⟨T.setVm vm₁, locs, cells, slots⟩ (Value.ref b :: argsL).toArray q B ∧
      Steps p.tables e below (T.setTop g) ((B.U.setTop { g with stack := rest }).pushFrame (.throwing q))) := by
  obtain ⟨mk, methM, hnamed, hmethM, hstM, habM⟩ := Cond.instanceMethod_spec hinst
  obtain ⟨m8, methM', cM, hn8, hmethM', -, -, -, -, -, -, hsigM⟩ := Cond.codeWith_spec hcode
  cases Option.some.inj (hn8.symm.trans hnamed)
  cases hmethM.symm.trans hmethM'
  obtain ⟨c2, r2, m2, q1, q2, q3, q4, kP, hkP, hkPi⟩ := Cond.selects_spec hsel
  cases hcls.symm.trans q1
  cases (State.methodFound?_of_named hnamed hy).symm.trans q2
  cases hnamed.symm.trans q3
  have hselP : selectMethod e.platform s.vm cellB.cls mk = .method mk := by rw [Launch.admits_selectMethod X.admits]; exact q4
  obtain ⟨vm₁, X₁, hstep₁⟩ := X.invokevirtual hexec hown hlink hnamed hmethM hstM hkP hkPi hy (a := b) (cell := cellB) hcell
    (fun z h => by rw [h] at hobj; cases hobj) hselP hmethM habM hkP hkPi (g := g) hg (argsL := argsL) (rest := rest) (hlen _ hsigM) hstack hdg
  rcases hK m meth c ⟨T.setVm vm₁, locs, cells, slots⟩ { g with stack := rest } (.invokevirtual index) mk (Value.ref b :: argsL).toArray X₁ hg hsize hdg hW (X₁.named hnamed) (hpre vm₁ X₁.warmed) with ⟨v, B, X', hpost, hsteps⟩ | ⟨q, B, X', hpost, hsteps⟩
  · exact Or.inl ⟨v, vm₁, B, X₁.warmed, X', hpost, fun target h => hstep₁ _ fun acts => by rw [doInvoke_state]; exact hsteps.trans h⟩
  · exact Or.inr ⟨q, vm₁, B, X₁.warmed, X', hpost, hstep₁ _ fun acts => by rw [doInvoke_state]; exact hsteps⟩
theorem vx_callSX (X : Stand p l e R s m args below meth c T locs cells slots) (hexec : p.tables.exec = Jvm.exec) {own : String} {index : Nat} {y : MethodName} {bytes : ByteArray} {maxL : Nat} {ret : Option FieldType} {hh : List (Nat × Nat × Nat × Nat)}
    (hown : s.vm.findClass own = some m.cls) (hlink : (Cond.methodLink own index y).before args s = true) (hstat : (Cond.static y).before args s = true) (hinit : (Cond.initialized y.cls).before args s = true)
    (hcode : (Cond.codeWith y bytes maxL ret hh).before args s = true) (hy : y.cls ≠ "java/lang/invoke/MethodHandle" ∧ y.cls ≠ "java/lang/invoke/VarHandle")
    {W9 : Nat} {Pre : Pt → Array Value → Prop} {Post : Pt → Array Value → Option Value → Pt → Prop} {PostX : Pt → Array Value → Addr → Pt → Prop} (hK : vx_Back l R p e below s args y 3 W9 Pre Post PostX)
    {g : JFrame} (hg : g.method = m) (hsize : g.locals.size = c.maxLocals) {argsL rest : List Value} (hlen : ∀ sig, parseMethodDescriptor y.desc = some sig → argsL.length = sig.parameters.length)
    (hstack : g.stack = argsL.reverse ++ rest) (hW : 2 * g.monitorRoom + (rest.map fun v => v.category).sum ≤ W9) (hdg : decode c.code g.pc = .ok (.invokestatic index, 3))
    (hpre : ∀ vm₁, s.WarmedH vm₁ → Pre ⟨T.setVm vm₁, locs, cells, slots⟩ argsL.toArray) :
    (∃ (v : Option Value) (vm₁ : Vm) (B : Pt), s.WarmedH vm₁ ∧ Stand p l e R s m args below meth c B.U B.locs B.cells B.slots ∧ Post ⟨T.setVm vm₁, locs, cells, slots⟩ argsL.toArray v B ∧
      ∀ target, Steps p.tables e below (B.U.setTop { g with pc := g.pc + 3, stack := v.toList ++ rest }) target → Steps p.tables e below (T.setTop g) target) ∨
    (∃ (q : Addr) (vm₁ : Vm) (B : Pt), s.WarmedH vm₁ ∧ Stand p l e R s m args below meth c B.U B.locs B.cells B.slots ∧ PostX ⟨T.setVm vm₁, locs, cells, slots⟩ argsL.toArray q B ∧
      Steps p.tables e below (T.setTop g) ((B.U.setTop { g with stack := rest }).pushFrame (.throwing q))) := by
  obtain ⟨mk, methM, cM, hnamed, hmethM, -, -, -, -, -, -, hsigM⟩ := Cond.codeWith_spec hcode
  have hstatic : methM.isStatic = true := Cond.static_spec hnamed hmethM hstat
  obtain ⟨kP, hkP, -⟩ := className_of_methodNamed hnamed
  have hinitP : kP.init = .initialized := Cond.initialized_spec (findClass_of_methodNamed hnamed) hkP hinit
  obtain ⟨vm₁, X₁, hstep₁⟩ := X.invokestatic hexec hown hlink hnamed hmethM hstatic hkP hinitP hy (g := g) hg (argsL := argsL) (rest := rest) (hlen _ hsigM) hstack hdg
  rcases hK m meth c ⟨T.setVm vm₁, locs, cells, slots⟩ { g with stack := rest } (.invokestatic index) mk argsL.toArray X₁ hg hsize hdg hW (X₁.named hnamed) (hpre vm₁ X₁.warmed) with ⟨v, B, X', hpost, hsteps⟩ | ⟨q, B, X', hpost, hsteps⟩
  · exact Or.inl ⟨v, vm₁, B, X₁.warmed, X', hpost, fun target h => hstep₁ _ fun acts => by rw [doInvoke_state]; exact hsteps.trans h⟩
  · exact Or.inr ⟨q, vm₁, B, X₁.warmed, X', hpost, hstep₁ _ fun acts => by rw [doInvoke_state]; exact hsteps⟩
theorem vx_callVW (X : Stand p l e R s m args below meth c T locs cells slots) (hexec : p.tables.exec = Jvm.exec) {own C : String} {index : Nat} {y : MethodName} {bytes : ByteArray} {maxL : Nat} {ret : Option FieldType} {hh : List (Nat × Nat × Nat × Nat)}
    (hown : s.vm.findClass own = some m.cls) (hlink : (Cond.methodLink own index y).before args s = true) (hinst : (Cond.instanceMethod y).before args s = true) (hsel : (Cond.selects C y y).before args s = true)
    (hcode : (Cond.codeWith y bytes maxL ret hh).before args s = true) (hy : y.cls ≠ "java/lang/invoke/MethodHandle" ∧ y.cls ≠ "java/lang/invoke/VarHandle")
    {W9 : Nat} {Pre : Pt → Array Value → Prop} {Post : Pt → Array Value → Option Value → Pt → Prop} (hK : Back l R p e below s args y 3 W9 Pre Post)
    {b : Addr} {cellB : Cell} (hcell : T.heap[b]? = some cellB) (hobj : cellB.vm.isStatics = false) (hcls : s.vm.findClass C = some cellB.cls)
    {g : JFrame} (hg : g.method = m) (hsize : g.locals.size = c.maxLocals) {argsL rest : List Value} (hlen : ∀ sig, parseMethodDescriptor y.desc = some sig → argsL.length = sig.parameters.length)
    (hstack : g.stack = argsL.reverse ++ .ref b :: rest) (hW : 2 * g.monitorRoom + (rest.map fun v => v.category).sum ≤ W9) (hdg : decode c.code g.pc = .ok (.invokevirtual index, 3))
    (hpre : ∀ vm₁, s.WarmedH vm₁ → Pre ⟨T.setVm vm₁, locs, cells, slots⟩ (Value.ref b :: argsL).toArray) :
    ∃ (v : Option Value) (vm₁ : Vm) (B : Pt), s.WarmedH vm₁ ∧ Stand p l e R s m args below meth c B.U B.locs B.cells B.slots ∧ Post ⟨T.setVm vm₁, locs, cells, slots⟩ (Value.ref b :: argsL).toArray v B ∧
      ∀ target, Steps p.tables e below (B.U.setTop { g with pc := g.pc + 3, stack := v.toList ++ rest }) target → Steps p.tables e below (T.setTop g) target := by
  obtain ⟨mk, methM, hnamed, hmethM, hstM, habM⟩ := Cond.instanceMethod_spec hinst
  obtain ⟨m8, methM', cM, hn8, hmethM', -, -, -, -, -, -, hsigM⟩ := Cond.codeWith_spec hcode
  cases Option.some.inj (hn8.symm.trans hnamed)
  cases hmethM.symm.trans hmethM'
  obtain ⟨c2, r2, m2, q1, q2, q3, q4, kP, hkP, hkPi⟩ := Cond.selects_spec hsel
  cases hcls.symm.trans q1
  cases (State.methodFound?_of_named hnamed hy).symm.trans q2
  cases hnamed.symm.trans q3
  have hselP : selectMethod e.platform s.vm cellB.cls mk = .method mk := by rw [Launch.admits_selectMethod X.admits]; exact q4
  obtain ⟨vm₁, X₁, hstep₁⟩ := X.invokevirtual hexec hown hlink hnamed hmethM hstM hkP hkPi hy (a := b) (cell := cellB) hcell
    (fun z h => by rw [h] at hobj; cases hobj) hselP hmethM habM hkP hkPi (g := g) hg (argsL := argsL) (rest := rest) (hlen _ hsigM) hstack hdg
  obtain ⟨v, B, X', hpost, hsteps⟩ := hK m meth c ⟨T.setVm vm₁, locs, cells, slots⟩ { g with stack := rest } (.invokevirtual index) mk (Value.ref b :: argsL).toArray X₁ hg hsize hdg hW (X₁.named hnamed) (hpre vm₁ X₁.warmed)
  exact ⟨v, vm₁, B, X₁.warmed, X', hpost, fun target h => hstep₁ _ fun acts => by rw [doInvoke_state]; exact hsteps.trans h⟩
abbrev vx_CVW (R : Room) (s : State) (args : Array Value) (own C : String) (index : Nat) (y : MethodName) (bytes : ByteArray) (maxL : Nat) (ret : Option FieldType) (hh : List (Nat × Nat × Nat × Nat)) (ws : List Cond) (rm : Room) (mc ms n : Nat) : Prop :=
  (rm.cells = mc ∧ rm.slots = ms ∧ rm.frames + 1 ≤ R.frames ∧ 8 + (maxL + 11) + rm.locals ≤ R.locals ∧ (∀ w ∈ ws, ∀ (a' : Array Value) (U : State), s.WarmedH U.vm → w.before a' U = true) ∧ Cond.codeWith y bytes maxL ret hh ∈ ws) ∧
  (Cond.codeWith y bytes maxL ret hh).before args s = true ∧ (Cond.initialized y.cls).before args s = true ∧ (y.cls ≠ "java/lang/invoke/MethodHandle" ∧ y.cls ≠ "java/lang/invoke/VarHandle") ∧
  (∀ sig, parseMethodDescriptor y.desc = some sig → n = sig.parameters.length) ∧ (Cond.methodLink own index y).before args s = true ∧ (Cond.instanceMethod y).before args s = true ∧ (Cond.selects C y y).before args s = true
theorem vx_cwVW {own C : String} {index maxL mc ms : Nat} {y : MethodName} {bytes : ByteArray} {ret : Option FieldType} {hh : List (Nat × Nat × Nat × Nat)} {Ts ws ws' : List Cond} {rm : Room} (n : Nat) (ht : ∀ w ∈ Ts, w.before args s = true) (hT : GoodIn Ts (wsV own index C y ws)) (hw : ws = Cond.codeWith y bytes maxL ret hh :: ws') (hrc : rm.cells = mc) (hrs : rm.slots = ms)
    (hd : y.cls = C ∧ y.cls ≠ "java/lang/invoke/MethodHandle" ∧ y.cls ≠ "java/lang/invoke/VarHandle" ∧ (parseMethodDescriptor y.desc).map (fun d => d.parameters.length) = some n) (hR : rm.frames + 1 ≤ R.frames ∧ 8 + (maxL + 11) + rm.locals ≤ R.locals) :
    vx_CVW R s args own C index y bytes maxL ret hh ws rm mc ms n := by
  obtain ⟨hC, hd⟩ := hd
  subst hC
  have ok : ∀ w ∈ wsV own index y.cls y ws, w.before args s = true := fun w h => ht w (hT w h).1
  have hG : GoodIn Ts ws := fun w h => hT w (by unfold wsV; exact List.mem_append_right _ h)
  have hc : Cond.codeWith y bytes maxL ret hh ∈ ws := by rw [hw]; exact List.mem_cons_self
  refine ⟨⟨hrc, hrs, hR.1, hR.2, pay_in ht hG, hc⟩, ht _ (hG _ hc).1, ok _ (by simp [wsV]), ⟨hd.1, hd.2.1⟩, fun sig h => ?_, ok _ (by simp [wsV]), ok _ (by simp [wsV]), ok _ (by simp [wsV])⟩
  have h2 := hd.2.2
  rw [h] at h2
  exact (Option.some.inj h2).symm
theorem vx_runVW {y : MethodName} {bytes cc : ByteArray} {maxL nL mc ms n index : Nat} {ret : Option FieldType} {hh : List (Nat × Nat × Nat × Nat)} {ws : List Cond} {rm : Room} {Pc : Array Value → State → Prop} {Qc : Array Value → State → Outcome → State → Prop} {free : Addr → Prop} {Ts : List Cond} {own C : String} {b : Addr} {As rest : List Value} {g : JFrame}
    (S : CallFix p m c cc nL s args Ts own) (hM : Met l y ws rm Pc Qc mc ms free) (cw : vx_CVW R s args own C index y bytes maxL ret hh ws rm mc ms n) (hp : PreV s H C b Pc As)
    (hg : g.method = m) (hn : As.length = n) (hsize : g.locals.size = nL) (hstack : g.stack = As.reverse ++ .ref b :: rest) (hW : 2 * g.monitorRoom + (rest.map fun v => v.category).sum ≤ 8) (hdg : decode cc g.pc = .ok (.invokevirtual index, 3)) (hf : cells + mc ≤ R.cells ∧ slots + ms ≤ R.slots) :
    va_Run p l e R s m args below meth c H locs cells slots mc ms g rest (Qc (Value.ref b :: As).toArray) free := by
  obtain ⟨⟨hrc, hrs, hfr, hlo, hws, hcw⟩, hcode, hini, hy, hlen, hl, hin, hse⟩ := cw
  have hK : Back l R p e below s args y 3 8 (PreOf R mc ms Pc) (PostOf Qc mc ms free) := va_backW (hh := hh) (bytes := bytes) (maxL := maxL) (ret := ret) hM hp.1 hrc hrs hfr hlo hws hcw (fun a' U hW => word_at hW (Or.inl (by first | rfl | simp [Cond.onTables, Cond.keeps, Cond.steady])) hini)
  obtain ⟨hx, hb, hml, ho, -⟩ := S
  obtain ⟨-, ⟨cellB, hcB, hoB, hclB⟩, hPc⟩ := hp
  intro T hT X
  obtain ⟨v, vm₁, ⟨U', l2, c2, s2⟩, hW₁, X', ⟨g', mk, t, L, e1, e2, hq, h1, hL, h2, h3⟩, st⟩ := vx_callVW X hx (C := C) (hh := hh) (bytes := bytes) (maxL := maxL) (ret := ret) ho hl hin hse hcode hy hK (by rw [hT]; exact hcB) hoB hclB hg (hsize.trans hml.symm) (argsL := As) (rest := rest) (fun sig h => hn.trans (hlen sig h)) hstack hW (by rw [hb]; exact hdg)
    (fun vm₁ hW₁ => ⟨hf.1, hf.2, hPc (T.setVm vm₁) hT hW₁⟩)
  dsimp only [Pt.U, Pt.locs, Pt.cells, Pt.slots] at X' e1 e2 h1 h2 h3 st
  subst h1; subst h2; subst h3
  exact ⟨v, (T.setVm vm₁).calling g' mk (Value.ref b :: As).toArray, t, U', L, hT, X', hL, e1, e2, hq, st⟩
section
variable {y : MethodName} {bytes cc : ByteArray} {maxL nL mc ms n index : Nat} {ret : Option FieldType} {ws : List Cond} {rm : Room} {Pc : Array Value → State → Prop} {Qc : Array Value → State → Outcome → State → Prop} {XC : String → State → State → Prop} {free : Addr → Prop} {Ts : List Cond} {own C : String} {b : Addr} {As rest : List Value} {g : JFrame}
theorem vx_runVX {hh : List (Nat × Nat × Nat × Nat)} (S : CallFix p m c cc nL s args Ts own) (hM : vx_Met l y ws rm Pc Qc XC mc ms free) (cw : vx_CVW R s args own C index y bytes maxL ret hh ws rm mc ms n) (hp : PreV s H C b Pc As)
    (hg : g.method = m) (hn : As.length = n) (hsize : g.locals.size = nL) (hstack : g.stack = As.reverse ++ .ref b :: rest) (hW : 2 * g.monitorRoom + (rest.map fun v => v.category).sum ≤ 8) (hdg : decode cc g.pc = .ok (.invokevirtual index, 3)) (hf : cells + mc ≤ R.cells ∧ slots + ms ≤ R.slots) :
    vx_Run p l e R s m args below meth c H locs cells slots mc ms g rest (Qc (Value.ref b :: As).toArray) XC free := by
  obtain ⟨⟨hrc, hrs, hfr, hlo, hws, hcw⟩, hcode, hini, hy, hlen, hl, hin, hse⟩ := cw
  have hK : vx_Back l R p e below s args y 3 8 (PreOf R mc ms Pc) (PostOf Qc mc ms free) (vx_Post XC mc ms free) := vx_backW (hh := hh) (bytes := bytes) (maxL := maxL) (ret := ret) hM hp.1 hrc hrs hfr hlo hws hcw (fun a' U hW => word_at hW (Or.inl (by first | rfl | simp [Cond.onTables, Cond.keeps, Cond.steady])) hini)
  obtain ⟨hx, hb, hml, ho, -⟩ := S
  obtain ⟨-, ⟨cellB, hcB, hoB, hclB⟩, hPc⟩ := hp
  intro T hT X
  rcases vx_callVX X hx (C := C) (hh := hh) (bytes := bytes) (maxL := maxL) (ret := ret) ho hl hin hse hcode hy hK (by rw [hT]; exact hcB) hoB hclB hg (hsize.trans hml.symm) (argsL := As) (rest := rest) (fun sig h => hn.trans (hlen sig h)) hstack hW (by rw [hb]; exact hdg)
    (fun vm₁ hW₁ => ⟨hf.1, hf.2, hPc (T.setVm vm₁) hT hW₁⟩) with ⟨v, vm₁, ⟨U', l2, c2, s2⟩, hW₁, X', ⟨g', mk, t, L, e1, e2, hq, h1, hL, h2, h3⟩, st⟩ | ⟨q, vm₁, ⟨U', l2, c2, s2⟩, hW₁, X', ⟨g', mk, t, L, E, ce, e1, e2, hq, hce, hcv, hcl, h1, hL, h2, h3⟩, st⟩
  · dsimp only [Pt.U, Pt.locs, Pt.cells, Pt.slots] at X' e1 e2 h1 h2 h3 st
    subst h1; subst h2; subst h3
    exact Or.inl ⟨v, (T.setVm vm₁).calling g' mk (Value.ref b :: As).toArray, t, U', L, hT, X', hL, e1, e2, hq, st⟩
  · dsimp only [Pt.U, Pt.locs, Pt.cells, Pt.slots] at X' e1 e2 h1 h2 h3 st hcl
    subst h1; subst h2; subst h3
    exact Or.inr ⟨q, (T.setVm vm₁).calling g' mk (Value.ref b :: As).toArray, t, U', L, E, ce, hT, X', hL, e1, e2, hq, hce, hcv, vx_cls hW₁ hcl, st⟩
theorem vx_runSX {hh : List (Nat × Nat × Nat × Nat)} (S : CallFix p m c cc nL s args Ts own) (hM : vx_Met l y ws rm Pc Qc XC mc ms free) (cw : vx_CSW R s args own index y bytes maxL ret hh ws rm mc ms n) (hp : PreS s H Pc As)
    (hg : g.method = m) (hn : As.length = n) (hsize : g.locals.size = nL) (hstack : g.stack = As.reverse ++ rest) (hW : 2 * g.monitorRoom + (rest.map fun v => v.category).sum ≤ 8) (hdg : decode cc g.pc = .ok (.invokestatic index, 3)) (hf : cells + mc ≤ R.cells ∧ slots + ms ≤ R.slots) :
    vx_Run p l e R s m args below meth c H locs cells slots mc ms g rest (Qc As.toArray) XC free := by
  obtain ⟨⟨hrc, hrs, hfr, hlo, hws, hcw⟩, hcode, hini, hy, hlen, hl, hstt⟩ := cw
  have hK : vx_Back l R p e below s args y 3 8 (PreOf R mc ms Pc) (PostOf Qc mc ms free) (vx_Post XC mc ms free) := vx_backW (hh := hh) (bytes := bytes) (maxL := maxL) (ret := ret) hM hp.1 hrc hrs hfr hlo hws hcw (fun a' U hW => word_at hW (Or.inl (by first | rfl | simp [Cond.onTables, Cond.keeps, Cond.steady])) hini)
  obtain ⟨hx, hb, hml, ho, -⟩ := S
  intro T hT X
  rcases vx_callSX X hx (hh := hh) (bytes := bytes) (maxL := maxL) (ret := ret) ho hl hstt hini hcode hy hK hg (hsize.trans hml.symm) (argsL := As) (rest := rest) (fun sig h => hn.trans (hlen sig h)) hstack hW (by rw [hb]; exact hdg)
    (fun vm₁ hW₁ => ⟨hf.1, hf.2, hp.2 (T.setVm vm₁) hT hW₁⟩) with ⟨v, vm₁, ⟨U', l2, c2, s2⟩, hW₁, X', ⟨g', mk, t, L, e1, e2, hq, h1, hL, h2, h3⟩, st⟩ | ⟨q, vm₁, ⟨U', l2, c2, s2⟩, hW₁, X', ⟨g', mk, t, L, E, ce, e1, e2, hq, hce, hcv, hcl, h1, hL, h2, h3⟩, st⟩
  · dsimp only [Pt.U, Pt.locs, Pt.cells, Pt.slots] at X' e1 e2 h1 h2 h3 st
    subst h1; subst h2; subst h3
    exact Or.inl ⟨v, (T.setVm vm₁).calling g' mk As.toArray, t, U', L, hT, X', hL, e1, e2, hq, st⟩
  · dsimp only [Pt.U, Pt.locs, Pt.cells, Pt.slots] at X' e1 e2 h1 h2 h3 st hcl
    subst h1; subst h2; subst h3
    exact Or.inr ⟨q, (T.setVm vm₁).calling g' mk As.toArray, t, U', L, E, ce, hT, X', hL, e1, e2, hq, hce, hcv, vx_cls hW₁ hcl, st⟩
end
end VXH
theorem vx_ofWH {l : Launch} {y : MethodName} {ws ws' : List Cond} {rm : Room} {Pc : Array Value → State → Prop} {Qc : Array Value → State → Outcome → State → Prop} {XC : String → State → State → Prop} {mc ms : Nat} {free : Addr → Prop} {cc : ByteArray} {maxL : Nat} {ret : Option FieldType} {hh : List (Nat × Nat × Nat × Nat)}
    (hy : plainName y.cls = true) (hw : ws = Cond.codeWith y cc maxL ret hh :: ws')
    (body : ∀ p e s m args below meth c s₁, BodyLoose p l y (headSpec ws rm) cc maxL ret e s m args below meth c s₁ → c.maxLocals = maxL → Pc args s →
      W p l e (headSpec ws rm).room s m args below meth c s.heap [] 0 0 (vx_MQ below Qc XC args s mc ms free) (entryFrame m args maxL)) : vx_Met l y ws rm Pc Qc XC mc ms free := by
  refine MetFree.of_bodyS (code := cc) (maxLocals := maxL) (ret := ret) hy ?_ ?_
  · intro args s m h hn
    obtain ⟨m9, meth, c, hn9, h1, h2, h3, h4, -, h5, h6, -⟩ := Cond.codeWith_spec (atoms_spec (ws := ws) h _ (by rw [hw]; exact List.mem_cons_self))
    cases hn.symm.trans hn9
    exact ⟨meth, c, h1, h2, h3, h4, h5, h6⟩
  · intro p e s m args below meth c s₁ B hml hP _
    have hh0 : s₁.heap = s.heap := by rw [B.state]; rfl
    obtain ⟨t, a1, o, b1, b2, b3⟩ := body p e s m args below meth c s₁ B hml hP s₁ hh0 (Stand.of_body B)
    exact ⟨t, o, a1, b1, b2, b3⟩
/-! ===== END ===== -/
end
section
/-! ===== BEGIN printed: names, fields, word lists, decode rows ===== -/
def RX0 : String := "MeanderFarm$Farms"
def TX0 : u_T := fun k => match k with
  | 0 => ("MeanderFarm$Farms", "column", "[I", true)
  | 1 => ("MeanderFarm$Farms", "row", "[I", true)
  | 2 => ("MeanderFarm$Farms", "wide", "[I", true)
  | 3 => ("MeanderFarm$Farms", "deep", "[I", true)
  | _ => ("MeanderFarm$Farms", "size", "I", false)
def tyX0 : Nat → FieldType := fun k => match k with
  | 0 => .array .int
  | 1 => .array .int
  | 2 => .array .int
  | 3 => .array .int
  | _ => .int
abbrev wsX00 : List Cond := u_ws RX0 TX0 5
theorem nmX0 : ∀ a, a < 5 → ∀ b, b < 5 → a ≠ b → (TX0 a).2.1 ≠ (TX0 b).2.1 := by decide +kernel
theorem tyX0_ok : ∀ k, k < 5 → parseFieldDescriptor (TX0 k).2.2.1 = some (tyX0 k) := by decide +kernel
abbrev cX0_init : ByteArray := prog_2_method_1_code
def yX0_init : MethodName := ⟨RX0, "<init>", "()V"⟩
abbrev cX0_isFarm : ByteArray := prog_2_method_2_code
def yX0_isFarm : MethodName := ⟨RX0, "isFarm", "(I)Z"⟩
abbrev cX0_append : ByteArray := prog_2_method_3_code
def yX0_append : MethodName := ⟨RX0, "append", "(IIII)I"⟩
abbrev cX0_farmsAt : ByteArray := prog_2_method_4_code
def yX0_farmsAt : MethodName := ⟨RX0, "farmsAt", "(II)I"⟩
abbrev cX0_cellsOf : ByteArray := prog_2_method_5_code
def yX0_cellsOf : MethodName := ⟨RX0, "cellsOf", "(IILMeanderFarm$River;)I"⟩
abbrev cX0_isCounted : ByteArray := prog_2_method_6_code
def yX0_isCounted : MethodName := ⟨RX0, "isCounted", "(IILMeanderFarm$River;)Z"⟩
def RX1 : String := "MeanderFarm$River"
def TX1 : u_T := fun k => match k with
  | 0 => ("MeanderFarm$River", "hardness", "[I", true)
  | 1 => ("MeanderFarm$River", "wear", "[I", true)
  | 2 => ("MeanderFarm$River", "stones", "[Z", true)
  | 3 => ("MeanderFarm$River", "lakeEnd", "[I", true)
  | 4 => ("MeanderFarm$River", "bulgedInto", "[Z", true)
  | 5 => ("MeanderFarm$River", "flow", "[I", true)
  | 6 => ("MeanderFarm$River", "course", "[I", true)
  | 7 => ("MeanderFarm$River", "length", "I", false)
  | 8 => ("MeanderFarm$River", "year", "I", false)
  | 9 => ("MeanderFarm$River", "breaks", "I", false)
  | 10 => ("MeanderFarm$River", "place", "[I", true)
  | 11 => ("MeanderFarm$River", "direction", "[I", true)
  | 12 => ("MeanderFarm$River", "thrown", "[I", true)
  | _ => ("MeanderFarm$River", "bank", "[I", true)
def tyX1 : Nat → FieldType := fun k => match k with
  | 0 => .array .int
  | 1 => .array .int
  | 2 => .array .boolean
  | 3 => .array .int
  | 4 => .array .boolean
  | 5 => .array .int
  | 6 => .array .int
  | 7 => .int
  | 8 => .int
  | 9 => .int
  | 10 => .array .int
  | 11 => .array .int
  | 12 => .array .int
  | _ => .array .int
abbrev wsX10 : List Cond := u_ws RX1 TX1 14
theorem nmX1 : ∀ a, a < 14 → ∀ b, b < 14 → a ≠ b → (TX1 a).2.1 ≠ (TX1 b).2.1 := by decide +kernel
theorem tyX1_ok : ∀ k, k < 14 → parseFieldDescriptor (TX1 k).2.2.1 = some (tyX1 k) := by decide +kernel
abbrev cX1_init : ByteArray := prog_3_method_1_code
def yX1_init : MethodName := ⟨RX1, "<init>", "()V"⟩
abbrev cX1_copyFrom : ByteArray := prog_3_method_2_code
def yX1_copyFrom : MethodName := ⟨RX1, "copyFrom", "(LMeanderFarm$River;)V"⟩
abbrev cX1_isInCourse : ByteArray := prog_3_method_3_code
def yX1_isInCourse : MethodName := ⟨RX1, "isInCourse", "(I)Z"⟩
abbrev cX1_cellAt : ByteArray := prog_3_method_4_code
def yX1_cellAt : MethodName := ⟨RX1, "cellAt", "(I)I"⟩
abbrev cX1_placeOf : ByteArray := prog_3_method_5_code
def yX1_placeOf : MethodName := ⟨RX1, "placeOf", "(I)I"⟩
abbrev cX1_isStraight : ByteArray := prog_3_method_6_code
def yX1_isStraight : MethodName := ⟨RX1, "isStraight", "(I)Z"⟩
abbrev cX1_followCourse : ByteArray := prog_3_method_7_code
def yX1_followCourse : MethodName := ⟨RX1, "followCourse", "(I)V"⟩
abbrev cX1_throwCells : ByteArray := prog_3_method_8_code
def yX1_throwCells : MethodName := ⟨RX1, "throwCells", "()V"⟩
abbrev cX1_canBulge : ByteArray := prog_3_method_9_code
def yX1_canBulge : MethodName := ⟨RX1, "canBulge", "(II)Z"⟩
abbrev cX1_isOpen : ByteArray := prog_3_method_10_code
def yX1_isOpen : MethodName := ⟨RX1, "isOpen", "(I)Z"⟩
abbrev cX1_bulge : ByteArray := prog_3_method_11_code
def yX1_bulge : MethodName := ⟨RX1, "bulge", "(II)V"⟩
abbrev cX1_takeIntoCourse : ByteArray := prog_3_method_12_code
def yX1_takeIntoCourse : MethodName := ⟨RX1, "takeIntoCourse", "(II)V"⟩
abbrev cX1_isNeck : ByteArray := prog_3_method_13_code
def yX1_isNeck : MethodName := ⟨RX1, "isNeck", "(II)Z"⟩
abbrev cX1_necks : ByteArray := prog_3_method_14_code
def yX1_necks : MethodName := ⟨RX1, "necks", "()I"⟩
abbrev cX1_farthestAcross : ByteArray := prog_3_method_15_code
def yX1_farthestAcross : MethodName := ⟨RX1, "farthestAcross", "(I)I"⟩
abbrev cX1_widestNeck : ByteArray := prog_3_method_16_code
def yX1_widestNeck : MethodName := ⟨RX1, "widestNeck", "()I"⟩
abbrev cX1_breakThrough : ByteArray := prog_3_method_17_code
def yX1_breakThrough : MethodName := ⟨RX1, "breakThrough", "(II)V"⟩
abbrev cX1_letPass : ByteArray := prog_3_method_18_code
def yX1_letPass : MethodName := ⟨RX1, "letPass", "(I)I"⟩
abbrev cX1_wearBanks : ByteArray := prog_3_method_19_code
def yX1_wearBanks : MethodName := ⟨RX1, "wearBanks", "(I)V"⟩
abbrev cX1_bulgeWhereRipest : ByteArray := prog_3_method_20_code
def yX1_bulgeWhereRipest : MethodName := ⟨RX1, "bulgeWhereRipest", "()Z"⟩
abbrev cX1_flood : ByteArray := prog_3_method_21_code
def yX1_flood : MethodName := ⟨RX1, "flood", "()V"⟩
abbrev cX1_lakeYearsLeft : ByteArray := prog_3_method_22_code
def yX1_lakeYearsLeft : MethodName := ⟨RX1, "lakeYearsLeft", "(I)I"⟩
abbrev cX1_lakes : ByteArray := prog_3_method_23_code
def yX1_lakes : MethodName := ⟨RX1, "lakes", "()I"⟩
abbrev cX1_cellsWithStones : ByteArray := prog_3_method_24_code
def yX1_cellsWithStones : MethodName := ⟨RX1, "cellsWithStones", "()I"⟩
abbrev cX1_bends : ByteArray := prog_3_method_25_code
def yX1_bends : MethodName := ⟨RX1, "bends", "()I"⟩
abbrev cX1_allWear : ByteArray := prog_3_method_26_code
def yX1_allWear : MethodName := ⟨RX1, "allWear", "()I"⟩
abbrev cX1_digestFrom : ByteArray := prog_3_method_27_code
def yX1_digestFrom : MethodName := ⟨RX1, "digestFrom", "(J)J"⟩
def RX2 : String := "MeanderFarm"
def TX2 : u_T := fun k => match k with
  | 0 => ("MeanderFarm", "now", "LMeanderFarm$River;", true)
  | 1 => ("MeanderFarm", "ahead", "LMeanderFarm$River;", true)
  | 2 => ("MeanderFarm", "farms", "LMeanderFarm$Farms;", true)
  | _ => ("MeanderFarm", "endangered", "[Z", true)
def tyX2 : Nat → FieldType := fun k => match k with
  | 0 => .object "MeanderFarm$River"
  | 1 => .object "MeanderFarm$River"
  | 2 => .object "MeanderFarm$Farms"
  | _ => .array .boolean
abbrev wsX20 : List Cond := u_ws RX2 TX2 4
theorem nmX2 : ∀ a, a < 4 → ∀ b, b < 4 → a ≠ b → (TX2 a).2.1 ≠ (TX2 b).2.1 := by decide +kernel
theorem tyX2_ok : ∀ k, k < 4 → parseFieldDescriptor (TX2 k).2.2.1 = some (tyX2 k) := by decide +kernel
abbrev cX2_init : ByteArray := prog_1_method_1_code
def yX2_init : MethodName := ⟨RX2, "<init>", "()V"⟩
abbrev cX2_setHardness : ByteArray := prog_1_method_2_code
def yX2_setHardness : MethodName := ⟨RX2, "setHardness", "(III)I"⟩
abbrev cX2_setStones : ByteArray := prog_1_method_3_code
def yX2_setStones : MethodName := ⟨RX2, "setStones", "(IIZ)I"⟩
abbrev cX2_setFlow : ByteArray := prog_1_method_4_code
def yX2_setFlow : MethodName := ⟨RX2, "setFlow", "(II)I"⟩
abbrev cX2_cell : ByteArray := prog_1_method_5_code
def yX2_cell : MethodName := ⟨RX2, "cell", "(III)I"⟩
abbrev cX2_course : ByteArray := prog_1_method_6_code
def yX2_course : MethodName := ⟨RX2, "course", "(II)I"⟩
abbrev cX2_slip : ByteArray := prog_1_method_7_code
def yX2_slip : MethodName := ⟨RX2, "slip", "(II)I"⟩
abbrev cX2_dig : ByteArray := prog_1_method_8_code
def yX2_dig : MethodName := ⟨RX2, "dig", "(II)I"⟩
abbrev cX2_neck : ByteArray := prog_1_method_9_code
def yX2_neck : MethodName := ⟨RX2, "neck", "(I)I"⟩
abbrev cX2_addFarm : ByteArray := prog_1_method_10_code
def yX2_addFarm : MethodName := ⟨RX2, "addFarm", "(IIII)I"⟩
abbrev cX2_farm : ByteArray := prog_1_method_11_code
def yX2_farm : MethodName := ⟨RX2, "farm", "(II)I"⟩
abbrev cX2_pass : ByteArray := prog_1_method_12_code
def yX2_pass : MethodName := ⟨RX2, "pass", "(I)I"⟩
abbrev cX2_count : ByteArray := prog_1_method_13_code
def yX2_count : MethodName := ⟨RX2, "count", "(I)I"⟩
abbrev cX2_foresee : ByteArray := prog_1_method_14_code
def yX2_foresee : MethodName := ⟨RX2, "foresee", "(II)I"⟩
abbrev cX2_loses : ByteArray := prog_1_method_15_code
def yX2_loses : MethodName := ⟨RX2, "loses", "(I)I"⟩
abbrev cX2_advise : ByteArray := prog_1_method_16_code
def yX2_advise : MethodName := ⟨RX2, "advise", "(II)I"⟩
abbrev cX2_winding : ByteArray := prog_1_method_17_code
def yX2_winding : MethodName := ⟨RX2, "winding", "()D"⟩
abbrev cX2_digest : ByteArray := prog_1_method_18_code
def yX2_digest : MethodName := ⟨RX2, "digest", "()J"⟩
abbrev cX2_total : ByteArray := prog_1_method_19_code
def yX2_total : MethodName := ⟨RX2, "total", "(I)I"⟩
abbrev cX2_landAhead : ByteArray := prog_1_method_20_code
def yX2_landAhead : MethodName := ⟨RX2, "landAhead", "(III)I"⟩
abbrev cX2_isGrade : ByteArray := prog_1_method_21_code
def yX2_isGrade : MethodName := ⟨RX2, "isGrade", "(I)Z"⟩
abbrev cX2_isSpan : ByteArray := prog_1_method_22_code
def yX2_isSpan : MethodName := ⟨RX2, "isSpan", "(III)Z"⟩
abbrev cX2_isCell : ByteArray := prog_1_method_23_code
def yX2_isCell : MethodName := ⟨RX2, "isCell", "(I)Z"⟩
abbrev cX2_cellNumber : ByteArray := prog_1_method_24_code
def yX2_cellNumber : MethodName := ⟨RX2, "cellNumber", "(II)I"⟩
abbrev cX2_neighbour : ByteArray := prog_1_method_25_code
def yX2_neighbour : MethodName := ⟨RX2, "neighbour", "(II)I"⟩
abbrev cX2_directionTo : ByteArray := prog_1_method_26_code
def yX2_directionTo : MethodName := ⟨RX2, "directionTo", "(II)I"⟩
def RX3 : String := "MeanderFarmModel"
def TX3 : u_T := fun k => match k with
  | 0 => ("MeanderFarmModel", "thrown", "I", false)
  | 1 => ("MeanderFarmModel", "hardness", "[I", true)
  | 2 => ("MeanderFarmModel", "stones", "[Z", true)
  | 3 => ("MeanderFarmModel", "flow", "[I", true)
  | 4 => ("MeanderFarmModel", "farms", "I", false)
  | 5 => ("MeanderFarmModel", "farmTable", "[I", true)
  | 6 => ("MeanderFarmModel", "course", "[I", true)
  | 7 => ("MeanderFarmModel", "where", "[I", true)
  | 8 => ("MeanderFarmModel", "wear", "[I", true)
  | 9 => ("MeanderFarmModel", "lake", "[I", true)
  | _ => ("MeanderFarmModel", "numbers", "[I", true)
def tyX3 : Nat → FieldType := fun k => match k with
  | 0 => .int
  | 1 => .array .int
  | 2 => .array .boolean
  | 3 => .array .int
  | 4 => .int
  | 5 => .array .int
  | 6 => .array .int
  | 7 => .array .int
  | 8 => .array .int
  | 9 => .array .int
  | _ => .array .int
abbrev wsX30 : List Cond := u_ws RX3 TX3 11
theorem nmX3 : ∀ a, a < 11 → ∀ b, b < 11 → a ≠ b → (TX3 a).2.1 ≠ (TX3 b).2.1 := by decide +kernel
theorem tyX3_ok : ∀ k, k < 11 → parseFieldDescriptor (TX3 k).2.2.1 = some (tyX3 k) := by decide +kernel
abbrev cX3_init : ByteArray := prog_5_method_1_code
def yX3_init : MethodName := ⟨RX3, "<init>", "()V"⟩
abbrev cX3_thrown : ByteArray := prog_5_method_2_code
def yX3_thrown : MethodName := ⟨RX3, "thrown", "()I"⟩
abbrev cX3_fail : ByteArray := prog_5_method_3_code
def yX3_fail : MethodName := ⟨RX3, "fail", "(I)I"⟩
abbrev cX3_isIn : ByteArray := prog_5_method_4_code
def yX3_isIn : MethodName := ⟨RX3, "isIn", "(III)Z"⟩
abbrev cX3_isCell : ByteArray := prog_5_method_5_code
def yX3_isCell : MethodName := ⟨RX3, "isCell", "(II)Z"⟩
abbrev cX3_length : ByteArray := prog_5_method_6_code
def yX3_length : MethodName := ⟨RX3, "length", "()I"⟩
abbrev cX3_isCourse : ByteArray := prog_5_method_7_code
def yX3_isCourse : MethodName := ⟨RX3, "isCourse", "(I)Z"⟩
abbrev cX3_place : ByteArray := prog_5_method_8_code
def yX3_place : MethodName := ⟨RX3, "place", "()V"⟩
abbrev cX3_beside : ByteArray := prog_5_method_9_code
def yX3_beside : MethodName := ⟨RX3, "beside", "(II)I"⟩
abbrev cX3_setHardness : ByteArray := prog_5_method_10_code
def yX3_setHardness : MethodName := ⟨RX3, "setHardness", "(III)I"⟩
abbrev cX3_allStones : ByteArray := prog_5_method_11_code
def yX3_allStones : MethodName := ⟨RX3, "allStones", "()I"⟩
abbrev cX3_setStones : ByteArray := prog_5_method_12_code
def yX3_setStones : MethodName := ⟨RX3, "setStones", "(IIZ)I"⟩
abbrev cX3_setFlow : ByteArray := prog_5_method_13_code
def yX3_setFlow : MethodName := ⟨RX3, "setFlow", "(II)I"⟩
abbrev cX3_isOf : ByteArray := prog_5_method_14_code
def yX3_isOf : MethodName := ⟨RX3, "isOf", "(II)Z"⟩
abbrev cX3_cell : ByteArray := prog_5_method_15_code
def yX3_cell : MethodName := ⟨RX3, "cell", "(III)I"⟩
abbrev cX3_direction : ByteArray := prog_5_method_16_code
def yX3_direction : MethodName := ⟨RX3, "direction", "(I)I"⟩
abbrev cX3_isStraight : ByteArray := prog_5_method_17_code
def yX3_isStraight : MethodName := ⟨RX3, "isStraight", "(I)Z"⟩
abbrev cX3_side : ByteArray := prog_5_method_18_code
def yX3_side : MethodName := ⟨RX3, "side", "(I)I"⟩
abbrev cX3_bank : ByteArray := prog_5_method_19_code
def yX3_bank : MethodName := ⟨RX3, "bank", "(I)I"⟩
abbrev cX3_course : ByteArray := prog_5_method_20_code
def yX3_course : MethodName := ⟨RX3, "course", "(II)I"⟩
abbrev cX3_canBulge : ByteArray := prog_5_method_21_code
def yX3_canBulge : MethodName := ⟨RX3, "canBulge", "(II)Z"⟩
abbrev cX3_bulge : ByteArray := prog_5_method_22_code
def yX3_bulge : MethodName := ⟨RX3, "bulge", "(II)V"⟩
abbrev cX3_slip : ByteArray := prog_5_method_23_code
def yX3_slip : MethodName := ⟨RX3, "slip", "(II)I"⟩
abbrev cX3_isNeck : ByteArray := prog_5_method_24_code
def yX3_isNeck : MethodName := ⟨RX3, "isNeck", "(II)Z"⟩
abbrev cX3_breakThrough : ByteArray := prog_5_method_25_code
def yX3_breakThrough : MethodName := ⟨RX3, "breakThrough", "(II)V"⟩
abbrev cX3_dig : ByteArray := prog_5_method_26_code
def yX3_dig : MethodName := ⟨RX3, "dig", "(II)I"⟩
abbrev cX3_far : ByteArray := prog_5_method_27_code
def yX3_far : MethodName := ⟨RX3, "far", "(I)I"⟩
abbrev cX3_first : ByteArray := prog_5_method_28_code
def yX3_first : MethodName := ⟨RX3, "first", "()I"⟩
abbrev cX3_flood : ByteArray := prog_5_method_29_code
def yX3_flood : MethodName := ⟨RX3, "flood", "()V"⟩
abbrev cX3_necks : ByteArray := prog_5_method_30_code
def yX3_necks : MethodName := ⟨RX3, "necks", "()I"⟩
abbrev cX3_neck : ByteArray := prog_5_method_31_code
def yX3_neck : MethodName := ⟨RX3, "neck", "(I)I"⟩
abbrev cX3_addFarm : ByteArray := prog_5_method_32_code
def yX3_addFarm : MethodName := ⟨RX3, "addFarm", "(IIII)I"⟩
abbrev cX3_farmTold : ByteArray := prog_5_method_33_code
def yX3_farmTold : MethodName := ⟨RX3, "farmTold", "(II)I"⟩
abbrev cX3_isFarm : ByteArray := prog_5_method_34_code
def yX3_isFarm : MethodName := ⟨RX3, "isFarm", "(I)Z"⟩
abbrev cX3_farm : ByteArray := prog_5_method_35_code
def yX3_farm : MethodName := ⟨RX3, "farm", "(II)I"⟩
abbrev cX3_yearOn : ByteArray := prog_5_method_36_code
def yX3_yearOn : MethodName := ⟨RX3, "yearOn", "()Z"⟩
abbrev cX3_yearsOn : ByteArray := prog_5_method_37_code
def yX3_yearsOn : MethodName := ⟨RX3, "yearsOn", "(I)I"⟩
abbrev cX3_pass : ByteArray := prog_5_method_38_code
def yX3_pass : MethodName := ⟨RX3, "pass", "(I)I"⟩
abbrev cX3_counted : ByteArray := prog_5_method_39_code
def yX3_counted : MethodName := ⟨RX3, "counted", "(I)I"⟩
abbrev cX3_count : ByteArray := prog_5_method_40_code
def yX3_count : MethodName := ⟨RX3, "count", "(I)I"⟩
abbrev cX3_kept : ByteArray := prog_5_method_41_code
def yX3_kept : MethodName := ⟨RX3, "kept", "()[[I"⟩
abbrev cX3_bringBack : ByteArray := prog_5_method_42_code
def yX3_bringBack : MethodName := ⟨RX3, "bringBack", "([[I)V"⟩
abbrev cX3_foresee : ByteArray := prog_5_method_43_code
def yX3_foresee : MethodName := ⟨RX3, "foresee", "(II)I"⟩
abbrev cX3_loses : ByteArray := prog_5_method_44_code
def yX3_loses : MethodName := ⟨RX3, "loses", "(I)I"⟩
abbrev cX3_advise : ByteArray := prog_5_method_45_code
def yX3_advise : MethodName := ⟨RX3, "advise", "(II)I"⟩
abbrev cX3_winding : ByteArray := prog_5_method_46_code
def yX3_winding : MethodName := ⟨RX3, "winding", "()D"⟩
abbrev cX3_digest : ByteArray := prog_5_method_47_code
def yX3_digest : MethodName := ⟨RX3, "digest", "()J"⟩
def RJx8e188 : String := "java/lang/Cloneable"
def TJx8e188 : u_T := fun k => match k with
  | _ => ("", "", "", false)
def tyJx8e188 : Nat → FieldType := fun k => match k with
  | _ => .int
abbrev wsJx8e1880 : List Cond := u_ws RJx8e188 TJx8e188 0
theorem nmJx8e188 : ∀ a, a < 0 → ∀ b, b < 0 → a ≠ b → (TJx8e188 a).2.1 ≠ (TJx8e188 b).2.1 := by decide +kernel
theorem tyJx8e188_ok : ∀ k, k < 0 → parseFieldDescriptor (TJx8e188 k).2.2.1 = some (tyJx8e188 k) := by decide +kernel
def RJ9 : String := "java/lang/Math"
def TJ9 : u_T := fun k => match k with
  | _ => ("", "", "", false)
def tyJ9 : Nat → FieldType := fun k => match k with
  | _ => .int
abbrev wsJ90 : List Cond := u_ws RJ9 TJ9 0
theorem nmJ9 : ∀ a, a < 0 → ∀ b, b < 0 → a ≠ b → (TJ9 a).2.1 ≠ (TJ9 b).2.1 := by decide +kernel
theorem tyJ9_ok : ∀ k, k < 0 → parseFieldDescriptor (TJ9 k).2.2.1 = some (tyJ9 k) := by decide +kernel
abbrev cJ9_floorMod_7cf53 : ByteArray := prog_11_method_50_code
def yJ9_floorMod_7cf53 : MethodName := ⟨RJ9, "floorMod", "(II)I"⟩
abbrev cJ9_abs_0f7a4 : ByteArray := prog_11_method_59_code
def yJ9_abs_0f7a4 : MethodName := ⟨RJ9, "abs", "(I)I"⟩
abbrev cJ9_max_7cf53 : ByteArray := prog_11_method_65_code
def yJ9_max_7cf53 : MethodName := ⟨RJ9, "max", "(II)I"⟩
def RJ0 : String := "java/lang/String"
def TJ0 : u_T := fun k => match k with
  | _ => ("", "", "", false)
def tyJ0 : Nat → FieldType := fun k => match k with
  | _ => .int
abbrev wsJ00 : List Cond := u_ws RJ0 TJ0 0
theorem nmJ0 : ∀ a, a < 0 → ∀ b, b < 0 → a ≠ b → (TJ0 a).2.1 ≠ (TJ0 b).2.1 := by decide +kernel
theorem tyJ0_ok : ∀ k, k < 0 → parseFieldDescriptor (TJ0 k).2.2.1 = some (tyJ0 k) := by decide +kernel
def RJ10 : String := "java/lang/System"
def TJ10 : u_T := fun k => match k with
  | _ => ("", "", "", false)
def tyJ10 : Nat → FieldType := fun k => match k with
  | _ => .int
abbrev wsJ100 : List Cond := u_ws RJ10 TJ10 0
theorem nmJ10 : ∀ a, a < 0 → ∀ b, b < 0 → a ≠ b → (TJ10 a).2.1 ≠ (TJ10 b).2.1 := by decide +kernel
theorem tyJ10_ok : ∀ k, k < 0 → parseFieldDescriptor (TJ10 k).2.2.1 = some (tyJ10 k) := by decide +kernel
def RL : String := "MeanderFarmLaw"
abbrev cL_setHardness : ByteArray := method_3_code
def yL_setHardness : MethodName := ⟨RL, "setHardness", "(LMeanderFarm;III[J)I"⟩
abbrev cL_setStones : ByteArray := method_4_code
def yL_setStones : MethodName := ⟨RL, "setStones", "(LMeanderFarm;IIZ[J)I"⟩
abbrev cL_setFlow : ByteArray := method_5_code
def yL_setFlow : MethodName := ⟨RL, "setFlow", "(LMeanderFarm;II[J)I"⟩
abbrev cL_cell : ByteArray := method_6_code
def yL_cell : MethodName := ⟨RL, "cell", "(LMeanderFarm;III[J)I"⟩
abbrev cL_course : ByteArray := method_7_code
def yL_course : MethodName := ⟨RL, "course", "(LMeanderFarm;II[J)I"⟩
abbrev cL_slip : ByteArray := method_8_code
def yL_slip : MethodName := ⟨RL, "slip", "(LMeanderFarm;II[J)I"⟩
abbrev cL_dig : ByteArray := method_9_code
def yL_dig : MethodName := ⟨RL, "dig", "(LMeanderFarm;II[J)I"⟩
abbrev cL_neck : ByteArray := method_10_code
def yL_neck : MethodName := ⟨RL, "neck", "(LMeanderFarm;I[J)I"⟩
abbrev cL_addFarm : ByteArray := method_11_code
def yL_addFarm : MethodName := ⟨RL, "addFarm", "(LMeanderFarm;IIII[J)I"⟩
abbrev cL_farm : ByteArray := method_12_code
def yL_farm : MethodName := ⟨RL, "farm", "(LMeanderFarm;II[J)I"⟩
abbrev cL_pass : ByteArray := method_13_code
def yL_pass : MethodName := ⟨RL, "pass", "(LMeanderFarm;I[J)I"⟩
abbrev cL_count : ByteArray := method_14_code
def yL_count : MethodName := ⟨RL, "count", "(LMeanderFarm;I[J)I"⟩
abbrev cL_foresee : ByteArray := method_15_code
def yL_foresee : MethodName := ⟨RL, "foresee", "(LMeanderFarm;II[J)I"⟩
abbrev cL_loses : ByteArray := method_16_code
def yL_loses : MethodName := ⟨RL, "loses", "(LMeanderFarm;I[J)I"⟩
abbrev cL_advise : ByteArray := method_17_code
def yL_advise : MethodName := ⟨RL, "advise", "(LMeanderFarm;II[J)I"⟩
abbrev cL_law : ByteArray := code
def yL_law : MethodName := ⟨RL, "law", "([I)Z"⟩
def wsX0_init : List Cond := .code yX0_init cX0_init 1 none :: ([.methodLink RX0 3 objectInit, .instanceMethod objectInit, .code objectInit ⟨#[0xb1]⟩ 1 none, .arrayClass .int, .fieldLink RX0 9 "MeanderFarm$Farms" "column" "[I", .fieldLink RX0 15 "MeanderFarm$Farms" "row" "[I", .fieldLink RX0 18 "MeanderFarm$Farms" "wide" "[I", .fieldLink RX0 21 "MeanderFarm$Farms" "deep" "[I"] ++ wsX00)
def wsX0_isFarm : List Cond := .code yX0_isFarm cX0_isFarm 2 (some .boolean) :: ([.fieldLink RX0 24 "MeanderFarm$Farms" "size" "I"] ++ wsX00)
def wsX0_append : List Cond := .code yX0_append cX0_append 6 (some .int) :: ([.fieldLink RX0 24 "MeanderFarm$Farms" "size" "I", .fieldLink RX0 9 "MeanderFarm$Farms" "column" "[I", .fieldLink RX0 15 "MeanderFarm$Farms" "row" "[I", .fieldLink RX0 18 "MeanderFarm$Farms" "wide" "[I", .fieldLink RX0 21 "MeanderFarm$Farms" "deep" "[I"] ++ wsX00)
def wsX0_farmsAt : List Cond := .code yX0_farmsAt cX0_farmsAt 5 (some .int) :: ([.fieldLink RX0 24 "MeanderFarm$Farms" "size" "I", .fieldLink RX0 9 "MeanderFarm$Farms" "column" "[I", .fieldLink RX0 18 "MeanderFarm$Farms" "wide" "[I", .fieldLink RX0 15 "MeanderFarm$Farms" "row" "[I", .fieldLink RX0 21 "MeanderFarm$Farms" "deep" "[I"] ++ wsX00)
def wsX2_cellNumber : List Cond := .code yX2_cellNumber cX2_cellNumber 2 (some .int) :: ([])
def wsX2_isCell : List Cond := .code yX2_isCell cX2_isCell 1 (some .boolean) :: ([])
def wsX1_lakeYearsLeft : List Cond := .code yX1_lakeYearsLeft cX1_lakeYearsLeft 2 (some .int) :: ([.fieldLink RX1 22 "MeanderFarm$River" "lakeEnd" "[I", .fieldLink RX1 60 "MeanderFarm$River" "year" "I", .methodLink RX1 73 Lib.Math.max.name, .static Lib.Math.max.name, .initialized "java/lang/Math", .code Lib.Math.max.name Lib.Math.max.code 2 (some .int), .static yX2_isCell, .initialized RX2, .code yX2_isCell cX2_isCell 1 (some .boolean)] ++ wsX10)
def wsX0_isCounted : List Cond := .code yX0_isCounted cX0_isCounted 5 (some .boolean) :: ([.static yX2_isCell, .initialized RX2, .code yX2_isCell cX2_isCell 1 (some .boolean), .instanceMethod yX1_lakeYearsLeft, .initialized RX1, .selects RX1 yX1_lakeYearsLeft yX1_lakeYearsLeft, .code yX1_lakeYearsLeft cX1_lakeYearsLeft 2 (some .int), .fieldLink RX1 22 "MeanderFarm$River" "lakeEnd" "[I", .fieldLink RX1 60 "MeanderFarm$River" "year" "I", .methodLink RX1 73 Lib.Math.max.name, .static Lib.Math.max.name, .initialized "java/lang/Math", .code Lib.Math.max.name Lib.Math.max.code 2 (some .int)] ++ wsX10)
def wsX0_cellsOf_r1 : List Cond := [Cond.fieldLink RX0 15 "MeanderFarm$Farms" "row" "[I", Cond.fieldLink RX0 21 "MeanderFarm$Farms" "deep" "[I", Cond.fieldLink RX0 9 "MeanderFarm$Farms" "column" "[I", Cond.fieldLink RX0 18 "MeanderFarm$Farms" "wide" "[I", Cond.methodLink RX0 28 yX0_isFarm, Cond.instanceMethod yX0_isFarm, Cond.selects RX0 yX0_isFarm yX0_isFarm, Cond.initialized RX0, Cond.code yX0_isFarm cX0_isFarm 2 (some .boolean), Cond.fieldLink RX0 24 "MeanderFarm$Farms" "size" "I", Cond.static yX2_cellNumber, Cond.initialized RX2, Cond.code yX2_cellNumber cX2_cellNumber 2 (some .int), Cond.methodLink RX0 36 yX0_isCounted, Cond.static yX0_isCounted, Cond.code yX0_isCounted cX0_isCounted 5 (some .boolean), Cond.static yX2_isCell, Cond.code yX2_isCell cX2_isCell 1 (some .boolean), Cond.instanceMethod yX1_lakeYearsLeft, Cond.initialized RX1, Cond.selects RX1 yX1_lakeYearsLeft yX1_lakeYearsLeft, Cond.code yX1_lakeYearsLeft cX1_lakeYearsLeft 2 (some .int), Cond.fieldLink RX1 22 "MeanderFarm$River" "lakeEnd" "[I", Cond.fieldLink RX1 60 "MeanderFarm$River" "year" "I"]
def wsX0_cellsOf_r2 : List Cond := [Cond.methodLink RX1 73 Lib.Math.max.name, Cond.static Lib.Math.max.name, Cond.initialized "java/lang/Math", Cond.code Lib.Math.max.name Lib.Math.max.code 2 (some .int)]
def wsX0_cellsOf : List Cond := .code yX0_cellsOf cX0_cellsOf 7 (some .int) :: ((wsX0_cellsOf_r1 ++ wsX0_cellsOf_r2) ++ wsX00 ++ wsX10)
def wsX1_isInCourse : List Cond := .code yX1_isInCourse cX1_isInCourse 2 (some .boolean) :: ([.fieldLink RX1 46 "MeanderFarm$River" "length" "I"] ++ wsX10)
def wsX1_cellAt : List Cond := .code yX1_cellAt cX1_cellAt 2 (some .int) :: ([.fieldLink RX1 31 "MeanderFarm$River" "course" "[I", .methodLink RX1 66 yX1_isInCourse, .instanceMethod yX1_isInCourse, .selects RX1 yX1_isInCourse yX1_isInCourse, .initialized RX1, .code yX1_isInCourse cX1_isInCourse 2 (some .boolean), .fieldLink RX1 46 "MeanderFarm$River" "length" "I"] ++ wsX10)
def wsX2_neighbour : List Cond := .code yX2_neighbour cX2_neighbour 3 (some .int) :: ([])
def wsX2_directionTo : List Cond := .code yX2_directionTo cX2_directionTo 4 (some .int) :: ([.methodLink RX2 229 yX2_neighbour, .static yX2_neighbour, .initialized RX2, .code yX2_neighbour cX2_neighbour 3 (some .int)])
def wsX1_throwCells : List Cond := .code yX1_throwCells cX1_throwCells 3 none :: ([.fieldLink RX1 46 "MeanderFarm$River" "length" "I", .fieldLink RX1 40 "MeanderFarm$River" "thrown" "[I", .fieldLink RX1 37 "MeanderFarm$River" "direction" "[I", .fieldLink RX1 43 "MeanderFarm$River" "bank" "[I", .fieldLink RX1 31 "MeanderFarm$River" "course" "[I", .static yX2_neighbour, .initialized RX2, .code yX2_neighbour cX2_neighbour 3 (some .int)] ++ wsX10)
def wsX1_followCourse_r1 : List Cond := [Cond.methodLink RX1 73 Lib.Math.max.name, Cond.static Lib.Math.max.name, Cond.initialized "java/lang/Math", Cond.code Lib.Math.max.name Lib.Math.max.code 2 (some .int), Cond.fieldLink RX1 46 "MeanderFarm$River" "length" "I", Cond.fieldLink RX1 31 "MeanderFarm$River" "course" "[I", Cond.fieldLink RX1 34 "MeanderFarm$River" "place" "[I", Cond.fieldLink RX1 37 "MeanderFarm$River" "direction" "[I", Cond.static yX2_isCell, Cond.initialized RX2, Cond.code yX2_isCell cX2_isCell 1 (some .boolean), Cond.methodLink RX1 79 yX1_cellAt, Cond.instanceMethod yX1_cellAt, Cond.selects RX1 yX1_cellAt yX1_cellAt, Cond.initialized RX1, Cond.code yX1_cellAt cX1_cellAt 2 (some .int), Cond.methodLink RX1 66 yX1_isInCourse, Cond.instanceMethod yX1_isInCourse, Cond.selects RX1 yX1_isInCourse yX1_isInCourse, Cond.code yX1_isInCourse cX1_isInCourse 2 (some .boolean), Cond.static yX2_directionTo, Cond.code yX2_directionTo cX2_directionTo 4 (some .int), Cond.methodLink RX2 229 yX2_neighbour, Cond.static yX2_neighbour]
def wsX1_followCourse_r2 : List Cond := [Cond.code yX2_neighbour cX2_neighbour 3 (some .int), Cond.methodLink RX1 86 yX1_throwCells, Cond.instanceMethod yX1_throwCells, Cond.selects RX1 yX1_throwCells yX1_throwCells, Cond.code yX1_throwCells cX1_throwCells 3 none, Cond.fieldLink RX1 40 "MeanderFarm$River" "thrown" "[I", Cond.fieldLink RX1 43 "MeanderFarm$River" "bank" "[I"]
def wsX1_followCourse : List Cond := .code yX1_followCourse cX1_followCourse 4 none :: ((wsX1_followCourse_r1 ++ wsX1_followCourse_r2) ++ wsX10)
def wsX1_init_r1 : List Cond := [Cond.methodLink RX1 3 objectInit, Cond.instanceMethod objectInit, Cond.code objectInit ⟨#[0xb1]⟩ 1 none, Cond.arrayClass .int, Cond.fieldLink RX1 9 "MeanderFarm$River" "hardness" "[I", Cond.fieldLink RX1 15 "MeanderFarm$River" "wear" "[I", Cond.arrayClass .boolean, Cond.fieldLink RX1 18 "MeanderFarm$River" "stones" "[Z", Cond.fieldLink RX1 22 "MeanderFarm$River" "lakeEnd" "[I", Cond.fieldLink RX1 25 "MeanderFarm$River" "bulgedInto" "[Z", Cond.fieldLink RX1 28 "MeanderFarm$River" "flow" "[I", Cond.fieldLink RX1 31 "MeanderFarm$River" "course" "[I", Cond.fieldLink RX1 34 "MeanderFarm$River" "place" "[I", Cond.fieldLink RX1 37 "MeanderFarm$River" "direction" "[I", Cond.fieldLink RX1 40 "MeanderFarm$River" "thrown" "[I", Cond.fieldLink RX1 43 "MeanderFarm$River" "bank" "[I", Cond.fieldLink RX1 46 "MeanderFarm$River" "length" "I", Cond.methodLink RX1 50 yX1_followCourse, Cond.instanceMethod yX1_followCourse, Cond.selects RX1 yX1_followCourse yX1_followCourse, Cond.initialized RX1, Cond.code yX1_followCourse cX1_followCourse 4 none, Cond.methodLink RX1 73 Lib.Math.max.name, Cond.static Lib.Math.max.name]
def wsX1_init_r2 : List Cond := [Cond.initialized "java/lang/Math", Cond.code Lib.Math.max.name Lib.Math.max.code 2 (some .int), Cond.static yX2_isCell, Cond.initialized RX2, Cond.code yX2_isCell cX2_isCell 1 (some .boolean), Cond.methodLink RX1 79 yX1_cellAt, Cond.instanceMethod yX1_cellAt, Cond.selects RX1 yX1_cellAt yX1_cellAt, Cond.code yX1_cellAt cX1_cellAt 2 (some .int), Cond.methodLink RX1 66 yX1_isInCourse, Cond.instanceMethod yX1_isInCourse, Cond.selects RX1 yX1_isInCourse yX1_isInCourse, Cond.code yX1_isInCourse cX1_isInCourse 2 (some .boolean), Cond.static yX2_directionTo, Cond.code yX2_directionTo cX2_directionTo 4 (some .int), Cond.methodLink RX2 229 yX2_neighbour, Cond.static yX2_neighbour, Cond.code yX2_neighbour cX2_neighbour 3 (some .int), Cond.methodLink RX1 86 yX1_throwCells, Cond.instanceMethod yX1_throwCells, Cond.selects RX1 yX1_throwCells yX1_throwCells, Cond.code yX1_throwCells cX1_throwCells 3 none]
def wsX1_init : List Cond := .code yX1_init cX1_init 2 none :: ((wsX1_init_r1 ++ wsX1_init_r2) ++ wsX10)
def wsX1_copyFrom : List Cond := .code yX1_copyFrom cX1_copyFrom 3 none :: ([.fieldLink RX1 9 "MeanderFarm$River" "hardness" "[I", .methodLink RX1 54 arraycopyName, .native arraycopyName, .static arraycopyName, .initialized "java/lang/System", .fieldLink RX1 15 "MeanderFarm$River" "wear" "[I", .fieldLink RX1 18 "MeanderFarm$River" "stones" "[Z", .fieldLink RX1 22 "MeanderFarm$River" "lakeEnd" "[I", .fieldLink RX1 28 "MeanderFarm$River" "flow" "[I", .fieldLink RX1 31 "MeanderFarm$River" "course" "[I", .fieldLink RX1 34 "MeanderFarm$River" "place" "[I", .fieldLink RX1 37 "MeanderFarm$River" "direction" "[I", .fieldLink RX1 40 "MeanderFarm$River" "thrown" "[I", .fieldLink RX1 43 "MeanderFarm$River" "bank" "[I", .fieldLink RX1 46 "MeanderFarm$River" "length" "I", .fieldLink RX1 60 "MeanderFarm$River" "year" "I", .fieldLink RX1 63 "MeanderFarm$River" "breaks" "I", .fieldLink RX1 25 "MeanderFarm$River" "bulgedInto" "[Z"] ++ wsX10)
def wsX1_placeOf : List Cond := .code yX1_placeOf cX1_placeOf 2 (some .int) :: ([.fieldLink RX1 34 "MeanderFarm$River" "place" "[I", .static yX2_isCell, .initialized RX2, .code yX2_isCell cX2_isCell 1 (some .boolean)] ++ wsX10)
def wsX1_isStraight : List Cond := .code yX1_isStraight cX1_isStraight 2 (some .boolean) :: ([.fieldLink RX1 46 "MeanderFarm$River" "length" "I", .fieldLink RX1 37 "MeanderFarm$River" "direction" "[I", .methodLink RX1 66 yX1_isInCourse, .instanceMethod yX1_isInCourse, .selects RX1 yX1_isInCourse yX1_isInCourse, .initialized RX1, .code yX1_isInCourse cX1_isInCourse 2 (some .boolean)] ++ wsX10)
def wsX1_isOpen : List Cond := .code yX1_isOpen cX1_isOpen 2 (some .boolean) :: ([.fieldLink RX1 34 "MeanderFarm$River" "place" "[I", .fieldLink RX1 18 "MeanderFarm$River" "stones" "[Z", .static yX2_isCell, .initialized RX2, .code yX2_isCell cX2_isCell 1 (some .boolean)] ++ wsX10)
def wsX1_canBulge_r1 : List Cond := [Cond.fieldLink RX1 46 "MeanderFarm$River" "length" "I", Cond.fieldLink RX1 37 "MeanderFarm$River" "direction" "[I", Cond.methodLink RX1 92 yX1_isStraight, Cond.instanceMethod yX1_isStraight, Cond.selects RX1 yX1_isStraight yX1_isStraight, Cond.initialized RX1, Cond.code yX1_isStraight cX1_isStraight 2 (some .boolean), Cond.methodLink RX1 66 yX1_isInCourse, Cond.instanceMethod yX1_isInCourse, Cond.selects RX1 yX1_isInCourse yX1_isInCourse, Cond.code yX1_isInCourse cX1_isInCourse 2 (some .boolean), Cond.methodLink RX1 79 yX1_cellAt, Cond.instanceMethod yX1_cellAt, Cond.selects RX1 yX1_cellAt yX1_cellAt, Cond.code yX1_cellAt cX1_cellAt 2 (some .int), Cond.fieldLink RX1 31 "MeanderFarm$River" "course" "[I", Cond.static yX2_neighbour, Cond.initialized RX2, Cond.code yX2_neighbour cX2_neighbour 3 (some .int), Cond.methodLink RX1 95 yX1_isOpen, Cond.instanceMethod yX1_isOpen, Cond.selects RX1 yX1_isOpen yX1_isOpen, Cond.code yX1_isOpen cX1_isOpen 2 (some .boolean), Cond.fieldLink RX1 34 "MeanderFarm$River" "place" "[I"]
def wsX1_canBulge_r2 : List Cond := [Cond.fieldLink RX1 18 "MeanderFarm$River" "stones" "[Z", Cond.static yX2_isCell, Cond.code yX2_isCell cX2_isCell 1 (some .boolean)]
def wsX1_canBulge : List Cond := .code yX1_canBulge cX1_canBulge 4 (some .boolean) :: ((wsX1_canBulge_r1 ++ wsX1_canBulge_r2) ++ wsX10)
def wsX1_takeIntoCourse : List Cond := .code yX1_takeIntoCourse cX1_takeIntoCourse 3 none :: ([.fieldLink RX1 31 "MeanderFarm$River" "course" "[I", .fieldLink RX1 15 "MeanderFarm$River" "wear" "[I", .fieldLink RX1 22 "MeanderFarm$River" "lakeEnd" "[I", .fieldLink RX1 25 "MeanderFarm$River" "bulgedInto" "[Z", .methodLink RX1 66 yX1_isInCourse, .instanceMethod yX1_isInCourse, .selects RX1 yX1_isInCourse yX1_isInCourse, .initialized RX1, .code yX1_isInCourse cX1_isInCourse 2 (some .boolean), .fieldLink RX1 46 "MeanderFarm$River" "length" "I", .static yX2_isCell, .initialized RX2, .code yX2_isCell cX2_isCell 1 (some .boolean)] ++ wsX10)
def wsX1_bulge_r1 : List Cond := [Cond.fieldLink RX1 34 "MeanderFarm$River" "place" "[I", Cond.fieldLink RX1 31 "MeanderFarm$River" "course" "[I", Cond.fieldLink RX1 46 "MeanderFarm$River" "length" "I", Cond.methodLink RX1 54 arraycopyName, Cond.native arraycopyName, Cond.static arraycopyName, Cond.initialized "java/lang/System", Cond.methodLink RX1 98 yX1_canBulge, Cond.instanceMethod yX1_canBulge, Cond.selects RX1 yX1_canBulge yX1_canBulge, Cond.initialized RX1, Cond.code yX1_canBulge cX1_canBulge 4 (some .boolean), Cond.fieldLink RX1 37 "MeanderFarm$River" "direction" "[I", Cond.methodLink RX1 92 yX1_isStraight, Cond.instanceMethod yX1_isStraight, Cond.selects RX1 yX1_isStraight yX1_isStraight, Cond.code yX1_isStraight cX1_isStraight 2 (some .boolean), Cond.methodLink RX1 66 yX1_isInCourse, Cond.instanceMethod yX1_isInCourse, Cond.selects RX1 yX1_isInCourse yX1_isInCourse, Cond.code yX1_isInCourse cX1_isInCourse 2 (some .boolean), Cond.methodLink RX1 79 yX1_cellAt, Cond.instanceMethod yX1_cellAt, Cond.selects RX1 yX1_cellAt yX1_cellAt]
def wsX1_bulge_r2 : List Cond := [Cond.code yX1_cellAt cX1_cellAt 2 (some .int), Cond.static yX2_neighbour, Cond.initialized RX2, Cond.code yX2_neighbour cX2_neighbour 3 (some .int), Cond.methodLink RX1 95 yX1_isOpen, Cond.instanceMethod yX1_isOpen, Cond.selects RX1 yX1_isOpen yX1_isOpen, Cond.code yX1_isOpen cX1_isOpen 2 (some .boolean), Cond.fieldLink RX1 18 "MeanderFarm$River" "stones" "[Z", Cond.static yX2_isCell, Cond.code yX2_isCell cX2_isCell 1 (some .boolean), Cond.methodLink RX1 102 yX1_takeIntoCourse, Cond.instanceMethod yX1_takeIntoCourse, Cond.selects RX1 yX1_takeIntoCourse yX1_takeIntoCourse, Cond.code yX1_takeIntoCourse cX1_takeIntoCourse 3 none, Cond.fieldLink RX1 15 "MeanderFarm$River" "wear" "[I", Cond.fieldLink RX1 22 "MeanderFarm$River" "lakeEnd" "[I", Cond.fieldLink RX1 25 "MeanderFarm$River" "bulgedInto" "[Z", Cond.methodLink RX1 50 yX1_followCourse, Cond.instanceMethod yX1_followCourse, Cond.selects RX1 yX1_followCourse yX1_followCourse, Cond.code yX1_followCourse cX1_followCourse 4 none, Cond.methodLink RX1 73 Lib.Math.max.name, Cond.static Lib.Math.max.name]
def wsX1_bulge_r3 : List Cond := [Cond.initialized "java/lang/Math", Cond.code Lib.Math.max.name Lib.Math.max.code 2 (some .int), Cond.static yX2_directionTo, Cond.code yX2_directionTo cX2_directionTo 4 (some .int), Cond.methodLink RX2 229 yX2_neighbour, Cond.methodLink RX1 86 yX1_throwCells, Cond.instanceMethod yX1_throwCells, Cond.selects RX1 yX1_throwCells yX1_throwCells, Cond.code yX1_throwCells cX1_throwCells 3 none, Cond.fieldLink RX1 40 "MeanderFarm$River" "thrown" "[I", Cond.fieldLink RX1 43 "MeanderFarm$River" "bank" "[I"]
def wsX1_bulge : List Cond := .code yX1_bulge cX1_bulge 7 none :: ((wsX1_bulge_r1 ++ (wsX1_bulge_r2 ++ wsX1_bulge_r3)) ++ wsX10)
def wsX1_isNeck : List Cond := .code yX1_isNeck cX1_isNeck 3 (some .boolean) :: ([.fieldLink RX1 31 "MeanderFarm$River" "course" "[I", .methodLink RX1 66 yX1_isInCourse, .instanceMethod yX1_isInCourse, .selects RX1 yX1_isInCourse yX1_isInCourse, .initialized RX1, .code yX1_isInCourse cX1_isInCourse 2 (some .boolean), .fieldLink RX1 46 "MeanderFarm$River" "length" "I", .static yX2_directionTo, .initialized RX2, .code yX2_directionTo cX2_directionTo 4 (some .int), .methodLink RX2 229 yX2_neighbour, .static yX2_neighbour, .code yX2_neighbour cX2_neighbour 3 (some .int)] ++ wsX10)
def wsX1_necks : List Cond := .code yX1_necks cX1_necks 4 (some .int) :: ([.fieldLink RX1 46 "MeanderFarm$River" "length" "I", .fieldLink RX1 31 "MeanderFarm$River" "course" "[I", .static yX2_neighbour, .initialized RX2, .code yX2_neighbour cX2_neighbour 3 (some .int), .methodLink RX1 106 yX1_placeOf, .instanceMethod yX1_placeOf, .selects RX1 yX1_placeOf yX1_placeOf, .initialized RX1, .code yX1_placeOf cX1_placeOf 2 (some .int), .fieldLink RX1 34 "MeanderFarm$River" "place" "[I", .static yX2_isCell, .code yX2_isCell cX2_isCell 1 (some .boolean)] ++ wsX10)
def wsX1_farthestAcross : List Cond := .code yX1_farthestAcross cX1_farthestAcross 5 (some .int) :: ([.methodLink RX1 79 yX1_cellAt, .instanceMethod yX1_cellAt, .selects RX1 yX1_cellAt yX1_cellAt, .initialized RX1, .code yX1_cellAt cX1_cellAt 2 (some .int), .fieldLink RX1 31 "MeanderFarm$River" "course" "[I", .methodLink RX1 66 yX1_isInCourse, .instanceMethod yX1_isInCourse, .selects RX1 yX1_isInCourse yX1_isInCourse, .code yX1_isInCourse cX1_isInCourse 2 (some .boolean), .fieldLink RX1 46 "MeanderFarm$River" "length" "I", .static yX2_neighbour, .initialized RX2, .code yX2_neighbour cX2_neighbour 3 (some .int), .methodLink RX1 106 yX1_placeOf, .instanceMethod yX1_placeOf, .selects RX1 yX1_placeOf yX1_placeOf, .code yX1_placeOf cX1_placeOf 2 (some .int), .fieldLink RX1 34 "MeanderFarm$River" "place" "[I", .static yX2_isCell, .code yX2_isCell cX2_isCell 1 (some .boolean)] ++ wsX10)
def wsX1_widestNeck_r1 : List Cond := [Cond.fieldLink RX1 46 "MeanderFarm$River" "length" "I", Cond.methodLink RX1 109 yX1_farthestAcross, Cond.instanceMethod yX1_farthestAcross, Cond.selects RX1 yX1_farthestAcross yX1_farthestAcross, Cond.initialized RX1, Cond.code yX1_farthestAcross cX1_farthestAcross 5 (some .int), Cond.methodLink RX1 79 yX1_cellAt, Cond.instanceMethod yX1_cellAt, Cond.selects RX1 yX1_cellAt yX1_cellAt, Cond.code yX1_cellAt cX1_cellAt 2 (some .int), Cond.fieldLink RX1 31 "MeanderFarm$River" "course" "[I", Cond.methodLink RX1 66 yX1_isInCourse, Cond.instanceMethod yX1_isInCourse, Cond.selects RX1 yX1_isInCourse yX1_isInCourse, Cond.code yX1_isInCourse cX1_isInCourse 2 (some .boolean), Cond.static yX2_neighbour, Cond.initialized RX2, Cond.code yX2_neighbour cX2_neighbour 3 (some .int), Cond.methodLink RX1 106 yX1_placeOf, Cond.instanceMethod yX1_placeOf, Cond.selects RX1 yX1_placeOf yX1_placeOf, Cond.code yX1_placeOf cX1_placeOf 2 (some .int), Cond.fieldLink RX1 34 "MeanderFarm$River" "place" "[I", Cond.static yX2_isCell]
def wsX1_widestNeck_r2 : List Cond := [Cond.code yX2_isCell cX2_isCell 1 (some .boolean)]
def wsX1_widestNeck : List Cond := .code yX1_widestNeck cX1_widestNeck 5 (some .int) :: ((wsX1_widestNeck_r1 ++ wsX1_widestNeck_r2) ++ wsX10)
def wsX1_breakThrough_r1 : List Cond := [Cond.fieldLink RX1 34 "MeanderFarm$River" "place" "[I", Cond.fieldLink RX1 22 "MeanderFarm$River" "lakeEnd" "[I", Cond.fieldLink RX1 60 "MeanderFarm$River" "year" "I", Cond.fieldLink RX1 31 "MeanderFarm$River" "course" "[I", Cond.fieldLink RX1 46 "MeanderFarm$River" "length" "I", Cond.methodLink RX1 54 arraycopyName, Cond.native arraycopyName, Cond.static arraycopyName, Cond.initialized "java/lang/System", Cond.fieldLink RX1 63 "MeanderFarm$River" "breaks" "I", Cond.methodLink RX1 112 yX1_isNeck, Cond.instanceMethod yX1_isNeck, Cond.selects RX1 yX1_isNeck yX1_isNeck, Cond.initialized RX1, Cond.code yX1_isNeck cX1_isNeck 3 (some .boolean), Cond.methodLink RX1 66 yX1_isInCourse, Cond.instanceMethod yX1_isInCourse, Cond.selects RX1 yX1_isInCourse yX1_isInCourse, Cond.code yX1_isInCourse cX1_isInCourse 2 (some .boolean), Cond.static yX2_directionTo, Cond.initialized RX2, Cond.code yX2_directionTo cX2_directionTo 4 (some .int), Cond.methodLink RX2 229 yX2_neighbour, Cond.static yX2_neighbour]
def wsX1_breakThrough_r2 : List Cond := [Cond.code yX2_neighbour cX2_neighbour 3 (some .int), Cond.methodLink RX1 79 yX1_cellAt, Cond.instanceMethod yX1_cellAt, Cond.selects RX1 yX1_cellAt yX1_cellAt, Cond.code yX1_cellAt cX1_cellAt 2 (some .int), Cond.static yX2_isCell, Cond.code yX2_isCell cX2_isCell 1 (some .boolean), Cond.methodLink RX1 50 yX1_followCourse, Cond.instanceMethod yX1_followCourse, Cond.selects RX1 yX1_followCourse yX1_followCourse, Cond.code yX1_followCourse cX1_followCourse 4 none, Cond.methodLink RX1 73 Lib.Math.max.name, Cond.static Lib.Math.max.name, Cond.initialized "java/lang/Math", Cond.code Lib.Math.max.name Lib.Math.max.code 2 (some .int), Cond.fieldLink RX1 37 "MeanderFarm$River" "direction" "[I", Cond.methodLink RX1 86 yX1_throwCells, Cond.instanceMethod yX1_throwCells, Cond.selects RX1 yX1_throwCells yX1_throwCells, Cond.code yX1_throwCells cX1_throwCells 3 none, Cond.fieldLink RX1 40 "MeanderFarm$River" "thrown" "[I", Cond.fieldLink RX1 43 "MeanderFarm$River" "bank" "[I"]
def wsX1_breakThrough : List Cond := .code yX1_breakThrough cX1_breakThrough 5 none :: ((wsX1_breakThrough_r1 ++ wsX1_breakThrough_r2) ++ wsX10)
def wsJ9_floorMod_7cf53 : List Cond := .code yJ9_floorMod_7cf53 cJ9_floorMod_7cf53 3 (some .int) :: ([])
def wsX1_wearBanks : List Cond := .code yX1_wearBanks cX1_wearBanks 4 none :: ([.fieldLink RX1 46 "MeanderFarm$River" "length" "I", .fieldLink RX1 43 "MeanderFarm$River" "bank" "[I", .fieldLink RX1 15 "MeanderFarm$River" "wear" "[I", .methodLink RX1 95 yX1_isOpen, .instanceMethod yX1_isOpen, .selects RX1 yX1_isOpen yX1_isOpen, .initialized RX1, .code yX1_isOpen cX1_isOpen 2 (some .boolean), .fieldLink RX1 34 "MeanderFarm$River" "place" "[I", .fieldLink RX1 18 "MeanderFarm$River" "stones" "[Z", .static yX2_isCell, .initialized RX2, .code yX2_isCell cX2_isCell 1 (some .boolean)] ++ wsX10)
def wsX1_bulgeWhereRipest_r1 : List Cond := [Cond.fieldLink RX1 46 "MeanderFarm$River" "length" "I", Cond.fieldLink RX1 43 "MeanderFarm$River" "bank" "[I", Cond.fieldLink RX1 15 "MeanderFarm$River" "wear" "[I", Cond.fieldLink RX1 9 "MeanderFarm$River" "hardness" "[I", Cond.fieldLink RX1 40 "MeanderFarm$River" "thrown" "[I", Cond.static yX2_isCell, Cond.initialized RX2, Cond.code yX2_isCell cX2_isCell 1 (some .boolean), Cond.methodLink RX1 98 yX1_canBulge, Cond.instanceMethod yX1_canBulge, Cond.selects RX1 yX1_canBulge yX1_canBulge, Cond.initialized RX1, Cond.code yX1_canBulge cX1_canBulge 4 (some .boolean), Cond.fieldLink RX1 37 "MeanderFarm$River" "direction" "[I", Cond.methodLink RX1 92 yX1_isStraight, Cond.instanceMethod yX1_isStraight, Cond.selects RX1 yX1_isStraight yX1_isStraight, Cond.code yX1_isStraight cX1_isStraight 2 (some .boolean), Cond.methodLink RX1 66 yX1_isInCourse, Cond.instanceMethod yX1_isInCourse, Cond.selects RX1 yX1_isInCourse yX1_isInCourse, Cond.code yX1_isInCourse cX1_isInCourse 2 (some .boolean), Cond.methodLink RX1 79 yX1_cellAt, Cond.instanceMethod yX1_cellAt]
def wsX1_bulgeWhereRipest_r2 : List Cond := [Cond.selects RX1 yX1_cellAt yX1_cellAt, Cond.code yX1_cellAt cX1_cellAt 2 (some .int), Cond.fieldLink RX1 31 "MeanderFarm$River" "course" "[I", Cond.static yX2_neighbour, Cond.code yX2_neighbour cX2_neighbour 3 (some .int), Cond.methodLink RX1 95 yX1_isOpen, Cond.instanceMethod yX1_isOpen, Cond.selects RX1 yX1_isOpen yX1_isOpen, Cond.code yX1_isOpen cX1_isOpen 2 (some .boolean), Cond.fieldLink RX1 34 "MeanderFarm$River" "place" "[I", Cond.fieldLink RX1 18 "MeanderFarm$River" "stones" "[Z", Cond.methodLink RX1 128 yX1_bulge, Cond.instanceMethod yX1_bulge, Cond.selects RX1 yX1_bulge yX1_bulge, Cond.code yX1_bulge cX1_bulge 7 none, Cond.methodLink RX1 54 arraycopyName, Cond.native arraycopyName, Cond.static arraycopyName, Cond.initialized "java/lang/System", Cond.methodLink RX1 102 yX1_takeIntoCourse, Cond.instanceMethod yX1_takeIntoCourse, Cond.selects RX1 yX1_takeIntoCourse yX1_takeIntoCourse, Cond.code yX1_takeIntoCourse cX1_takeIntoCourse 3 none, Cond.fieldLink RX1 22 "MeanderFarm$River" "lakeEnd" "[I"]
def wsX1_bulgeWhereRipest_r3 : List Cond := [Cond.fieldLink RX1 25 "MeanderFarm$River" "bulgedInto" "[Z", Cond.methodLink RX1 50 yX1_followCourse, Cond.instanceMethod yX1_followCourse, Cond.selects RX1 yX1_followCourse yX1_followCourse, Cond.code yX1_followCourse cX1_followCourse 4 none, Cond.methodLink RX1 73 Lib.Math.max.name, Cond.static Lib.Math.max.name, Cond.initialized "java/lang/Math", Cond.code Lib.Math.max.name Lib.Math.max.code 2 (some .int), Cond.static yX2_directionTo, Cond.code yX2_directionTo cX2_directionTo 4 (some .int), Cond.methodLink RX2 229 yX2_neighbour, Cond.methodLink RX1 86 yX1_throwCells, Cond.instanceMethod yX1_throwCells, Cond.selects RX1 yX1_throwCells yX1_throwCells, Cond.code yX1_throwCells cX1_throwCells 3 none]
def wsX1_bulgeWhereRipest : List Cond := .code yX1_bulgeWhereRipest cX1_bulgeWhereRipest 6 (some .boolean) :: ((wsX1_bulgeWhereRipest_r1 ++ (wsX1_bulgeWhereRipest_r2 ++ wsX1_bulgeWhereRipest_r3)) ++ wsX10)
def wsX1_flood_r1 : List Cond := [Cond.methodLink RX1 131 yX1_widestNeck, Cond.instanceMethod yX1_widestNeck, Cond.selects RX1 yX1_widestNeck yX1_widestNeck, Cond.initialized RX1, Cond.code yX1_widestNeck cX1_widestNeck 5 (some .int), Cond.fieldLink RX1 46 "MeanderFarm$River" "length" "I", Cond.methodLink RX1 109 yX1_farthestAcross, Cond.instanceMethod yX1_farthestAcross, Cond.selects RX1 yX1_farthestAcross yX1_farthestAcross, Cond.code yX1_farthestAcross cX1_farthestAcross 5 (some .int), Cond.methodLink RX1 79 yX1_cellAt, Cond.instanceMethod yX1_cellAt, Cond.selects RX1 yX1_cellAt yX1_cellAt, Cond.code yX1_cellAt cX1_cellAt 2 (some .int), Cond.fieldLink RX1 31 "MeanderFarm$River" "course" "[I", Cond.methodLink RX1 66 yX1_isInCourse, Cond.instanceMethod yX1_isInCourse, Cond.selects RX1 yX1_isInCourse yX1_isInCourse, Cond.code yX1_isInCourse cX1_isInCourse 2 (some .boolean), Cond.static yX2_neighbour, Cond.initialized RX2, Cond.code yX2_neighbour cX2_neighbour 3 (some .int), Cond.methodLink RX1 106 yX1_placeOf, Cond.instanceMethod yX1_placeOf]
def wsX1_flood_r2 : List Cond := [Cond.selects RX1 yX1_placeOf yX1_placeOf, Cond.code yX1_placeOf cX1_placeOf 2 (some .int), Cond.fieldLink RX1 34 "MeanderFarm$River" "place" "[I", Cond.static yX2_isCell, Cond.code yX2_isCell cX2_isCell 1 (some .boolean), Cond.methodLink RX1 135 yX1_breakThrough, Cond.instanceMethod yX1_breakThrough, Cond.selects RX1 yX1_breakThrough yX1_breakThrough, Cond.code yX1_breakThrough cX1_breakThrough 5 none, Cond.fieldLink RX1 22 "MeanderFarm$River" "lakeEnd" "[I", Cond.fieldLink RX1 60 "MeanderFarm$River" "year" "I", Cond.methodLink RX1 54 arraycopyName, Cond.native arraycopyName, Cond.static arraycopyName, Cond.initialized "java/lang/System", Cond.fieldLink RX1 63 "MeanderFarm$River" "breaks" "I", Cond.methodLink RX1 112 yX1_isNeck, Cond.instanceMethod yX1_isNeck, Cond.selects RX1 yX1_isNeck yX1_isNeck, Cond.code yX1_isNeck cX1_isNeck 3 (some .boolean), Cond.static yX2_directionTo, Cond.code yX2_directionTo cX2_directionTo 4 (some .int), Cond.methodLink RX2 229 yX2_neighbour, Cond.methodLink RX1 50 yX1_followCourse]
def wsX1_flood_r3 : List Cond := [Cond.instanceMethod yX1_followCourse, Cond.selects RX1 yX1_followCourse yX1_followCourse, Cond.code yX1_followCourse cX1_followCourse 4 none, Cond.methodLink RX1 73 Lib.Math.max.name, Cond.static Lib.Math.max.name, Cond.initialized "java/lang/Math", Cond.code Lib.Math.max.name Lib.Math.max.code 2 (some .int), Cond.fieldLink RX1 37 "MeanderFarm$River" "direction" "[I", Cond.methodLink RX1 86 yX1_throwCells, Cond.instanceMethod yX1_throwCells, Cond.selects RX1 yX1_throwCells yX1_throwCells, Cond.code yX1_throwCells cX1_throwCells 3 none, Cond.fieldLink RX1 40 "MeanderFarm$River" "thrown" "[I", Cond.fieldLink RX1 43 "MeanderFarm$River" "bank" "[I"]
def wsX1_flood : List Cond := .code yX1_flood cX1_flood 3 none :: ((wsX1_flood_r1 ++ (wsX1_flood_r2 ++ wsX1_flood_r3)) ++ wsX10)
def wsX1_letPass_r1 : List Cond := [Cond.fieldLink RX1 28 "MeanderFarm$River" "flow" "[I", Cond.fieldLink RX1 60 "MeanderFarm$River" "year" "I", Cond.methodLink RX1 115 yJ9_floorMod_7cf53, Cond.static yJ9_floorMod_7cf53, Cond.initialized RJ9, Cond.code yJ9_floorMod_7cf53 cJ9_floorMod_7cf53 3 (some .int), Cond.methodLink RX1 118 yX1_wearBanks, Cond.instanceMethod yX1_wearBanks, Cond.selects RX1 yX1_wearBanks yX1_wearBanks, Cond.initialized RX1, Cond.code yX1_wearBanks cX1_wearBanks 4 none, Cond.fieldLink RX1 46 "MeanderFarm$River" "length" "I", Cond.fieldLink RX1 43 "MeanderFarm$River" "bank" "[I", Cond.fieldLink RX1 15 "MeanderFarm$River" "wear" "[I", Cond.methodLink RX1 95 yX1_isOpen, Cond.instanceMethod yX1_isOpen, Cond.selects RX1 yX1_isOpen yX1_isOpen, Cond.code yX1_isOpen cX1_isOpen 2 (some .boolean), Cond.fieldLink RX1 34 "MeanderFarm$River" "place" "[I", Cond.fieldLink RX1 18 "MeanderFarm$River" "stones" "[Z", Cond.static yX2_isCell, Cond.initialized RX2, Cond.code yX2_isCell cX2_isCell 1 (some .boolean), Cond.methodLink RX1 121 yX1_bulgeWhereRipest]
def wsX1_letPass_r2 : List Cond := [Cond.instanceMethod yX1_bulgeWhereRipest, Cond.selects RX1 yX1_bulgeWhereRipest yX1_bulgeWhereRipest, Cond.code yX1_bulgeWhereRipest cX1_bulgeWhereRipest 6 (some .boolean), Cond.fieldLink RX1 9 "MeanderFarm$River" "hardness" "[I", Cond.fieldLink RX1 40 "MeanderFarm$River" "thrown" "[I", Cond.methodLink RX1 98 yX1_canBulge, Cond.instanceMethod yX1_canBulge, Cond.selects RX1 yX1_canBulge yX1_canBulge, Cond.code yX1_canBulge cX1_canBulge 4 (some .boolean), Cond.fieldLink RX1 37 "MeanderFarm$River" "direction" "[I", Cond.methodLink RX1 92 yX1_isStraight, Cond.instanceMethod yX1_isStraight, Cond.selects RX1 yX1_isStraight yX1_isStraight, Cond.code yX1_isStraight cX1_isStraight 2 (some .boolean), Cond.methodLink RX1 66 yX1_isInCourse, Cond.instanceMethod yX1_isInCourse, Cond.selects RX1 yX1_isInCourse yX1_isInCourse, Cond.code yX1_isInCourse cX1_isInCourse 2 (some .boolean), Cond.methodLink RX1 79 yX1_cellAt, Cond.instanceMethod yX1_cellAt, Cond.selects RX1 yX1_cellAt yX1_cellAt, Cond.code yX1_cellAt cX1_cellAt 2 (some .int), Cond.fieldLink RX1 31 "MeanderFarm$River" "course" "[I", Cond.static yX2_neighbour]
def wsX1_letPass_r3 : List Cond := [Cond.code yX2_neighbour cX2_neighbour 3 (some .int), Cond.methodLink RX1 128 yX1_bulge, Cond.instanceMethod yX1_bulge, Cond.selects RX1 yX1_bulge yX1_bulge, Cond.code yX1_bulge cX1_bulge 7 none, Cond.methodLink RX1 54 arraycopyName, Cond.native arraycopyName, Cond.static arraycopyName, Cond.initialized "java/lang/System", Cond.methodLink RX1 102 yX1_takeIntoCourse, Cond.instanceMethod yX1_takeIntoCourse, Cond.selects RX1 yX1_takeIntoCourse yX1_takeIntoCourse, Cond.code yX1_takeIntoCourse cX1_takeIntoCourse 3 none, Cond.fieldLink RX1 22 "MeanderFarm$River" "lakeEnd" "[I", Cond.fieldLink RX1 25 "MeanderFarm$River" "bulgedInto" "[Z", Cond.methodLink RX1 50 yX1_followCourse, Cond.instanceMethod yX1_followCourse, Cond.selects RX1 yX1_followCourse yX1_followCourse, Cond.code yX1_followCourse cX1_followCourse 4 none, Cond.methodLink RX1 73 Lib.Math.max.name, Cond.static Lib.Math.max.name, Cond.initialized "java/lang/Math", Cond.code Lib.Math.max.name Lib.Math.max.code 2 (some .int), Cond.static yX2_directionTo]
def wsX1_letPass_r4 : List Cond := [Cond.code yX2_directionTo cX2_directionTo 4 (some .int), Cond.methodLink RX2 229 yX2_neighbour, Cond.methodLink RX1 86 yX1_throwCells, Cond.instanceMethod yX1_throwCells, Cond.selects RX1 yX1_throwCells yX1_throwCells, Cond.code yX1_throwCells cX1_throwCells 3 none, Cond.methodLink RX1 125 yX1_flood, Cond.instanceMethod yX1_flood, Cond.selects RX1 yX1_flood yX1_flood, Cond.code yX1_flood cX1_flood 3 none, Cond.methodLink RX1 131 yX1_widestNeck, Cond.instanceMethod yX1_widestNeck, Cond.selects RX1 yX1_widestNeck yX1_widestNeck, Cond.code yX1_widestNeck cX1_widestNeck 5 (some .int), Cond.methodLink RX1 109 yX1_farthestAcross, Cond.instanceMethod yX1_farthestAcross, Cond.selects RX1 yX1_farthestAcross yX1_farthestAcross, Cond.code yX1_farthestAcross cX1_farthestAcross 5 (some .int), Cond.methodLink RX1 106 yX1_placeOf, Cond.instanceMethod yX1_placeOf, Cond.selects RX1 yX1_placeOf yX1_placeOf, Cond.code yX1_placeOf cX1_placeOf 2 (some .int), Cond.methodLink RX1 135 yX1_breakThrough, Cond.instanceMethod yX1_breakThrough]
def wsX1_letPass_r5 : List Cond := [Cond.selects RX1 yX1_breakThrough yX1_breakThrough, Cond.code yX1_breakThrough cX1_breakThrough 5 none, Cond.fieldLink RX1 63 "MeanderFarm$River" "breaks" "I", Cond.methodLink RX1 112 yX1_isNeck, Cond.instanceMethod yX1_isNeck, Cond.selects RX1 yX1_isNeck yX1_isNeck, Cond.code yX1_isNeck cX1_isNeck 3 (some .boolean)]
def wsX1_letPass : List Cond := .code yX1_letPass cX1_letPass 5 (some .int) :: ((wsX1_letPass_r1 ++ (wsX1_letPass_r2 ++ (wsX1_letPass_r3 ++ (wsX1_letPass_r4 ++ wsX1_letPass_r5)))) ++ wsX10)
def wsX1_lakes : List Cond := .code yX1_lakes cX1_lakes 3 (some .int) :: ([.fieldLink RX1 22 "MeanderFarm$River" "lakeEnd" "[I", .fieldLink RX1 60 "MeanderFarm$River" "year" "I"] ++ wsX10)
def wsX1_cellsWithStones : List Cond := .code yX1_cellsWithStones cX1_cellsWithStones 3 (some .int) :: ([.fieldLink RX1 18 "MeanderFarm$River" "stones" "[Z"] ++ wsX10)
def wsX1_bends : List Cond := .code yX1_bends cX1_bends 3 (some .int) :: ([.fieldLink RX1 46 "MeanderFarm$River" "length" "I", .methodLink RX1 92 yX1_isStraight, .instanceMethod yX1_isStraight, .selects RX1 yX1_isStraight yX1_isStraight, .initialized RX1, .code yX1_isStraight cX1_isStraight 2 (some .boolean), .fieldLink RX1 37 "MeanderFarm$River" "direction" "[I", .methodLink RX1 66 yX1_isInCourse, .instanceMethod yX1_isInCourse, .selects RX1 yX1_isInCourse yX1_isInCourse, .code yX1_isInCourse cX1_isInCourse 2 (some .boolean)] ++ wsX10)
def wsX1_allWear : List Cond := .code yX1_allWear cX1_allWear 3 (some .int) :: ([.fieldLink RX1 15 "MeanderFarm$River" "wear" "[I"] ++ wsX10)
def wsX1_digestFrom : List Cond := .code yX1_digestFrom cX1_digestFrom 6 (some .long) :: ([.constantLong RX1 138 (31), .fieldLink RX1 28 "MeanderFarm$River" "flow" "[I", .fieldLink RX1 46 "MeanderFarm$River" "length" "I", .fieldLink RX1 31 "MeanderFarm$River" "course" "[I", .fieldLink RX1 9 "MeanderFarm$River" "hardness" "[I", .fieldLink RX1 15 "MeanderFarm$River" "wear" "[I", .fieldLink RX1 18 "MeanderFarm$River" "stones" "[Z", .methodLink RX1 140 yX1_lakeYearsLeft, .instanceMethod yX1_lakeYearsLeft, .selects RX1 yX1_lakeYearsLeft yX1_lakeYearsLeft, .initialized RX1, .code yX1_lakeYearsLeft cX1_lakeYearsLeft 2 (some .int), .fieldLink RX1 22 "MeanderFarm$River" "lakeEnd" "[I", .fieldLink RX1 60 "MeanderFarm$River" "year" "I", .methodLink RX1 73 Lib.Math.max.name, .static Lib.Math.max.name, .initialized "java/lang/Math", .code Lib.Math.max.name Lib.Math.max.code 2 (some .int), .static yX2_isCell, .initialized RX2, .code yX2_isCell cX2_isCell 1 (some .boolean)] ++ wsX10)
def wsX2_init_r1 : List Cond := [Cond.methodLink RX2 3 objectInit, Cond.instanceMethod objectInit, Cond.code objectInit ⟨#[0xb1]⟩ 1 none, Cond.arrayClass .boolean, Cond.fieldLink RX2 9 "MeanderFarm" "endangered" "[Z", Cond.classLink RX2 13 RX1, Cond.instantiable RX1 14, Cond.initialized RX1, Cond.fieldLink RX2 16 "MeanderFarm" "now" "LMeanderFarm$River;", Cond.fieldLink RX2 20 "MeanderFarm" "ahead" "LMeanderFarm$River;", Cond.classLink RX2 23 RX0, Cond.instantiable RX0 5, Cond.initialized RX0, Cond.fieldLink RX2 26 "MeanderFarm" "farms" "LMeanderFarm$Farms;", Cond.instanceMethod yX1_init, Cond.code yX1_init cX1_init 2 none, Cond.methodLink RX1 3 objectInit, Cond.arrayClass .int, Cond.fieldLink RX1 9 "MeanderFarm$River" "hardness" "[I", Cond.fieldLink RX1 15 "MeanderFarm$River" "wear" "[I", Cond.fieldLink RX1 18 "MeanderFarm$River" "stones" "[Z", Cond.fieldLink RX1 22 "MeanderFarm$River" "lakeEnd" "[I", Cond.fieldLink RX1 25 "MeanderFarm$River" "bulgedInto" "[Z", Cond.fieldLink RX1 28 "MeanderFarm$River" "flow" "[I"]
def wsX2_init_r2 : List Cond := [Cond.fieldLink RX1 31 "MeanderFarm$River" "course" "[I", Cond.fieldLink RX1 34 "MeanderFarm$River" "place" "[I", Cond.fieldLink RX1 37 "MeanderFarm$River" "direction" "[I", Cond.fieldLink RX1 40 "MeanderFarm$River" "thrown" "[I", Cond.fieldLink RX1 43 "MeanderFarm$River" "bank" "[I", Cond.fieldLink RX1 46 "MeanderFarm$River" "length" "I", Cond.methodLink RX1 50 yX1_followCourse, Cond.instanceMethod yX1_followCourse, Cond.selects RX1 yX1_followCourse yX1_followCourse, Cond.code yX1_followCourse cX1_followCourse 4 none, Cond.methodLink RX1 73 Lib.Math.max.name, Cond.static Lib.Math.max.name, Cond.initialized "java/lang/Math", Cond.code Lib.Math.max.name Lib.Math.max.code 2 (some .int), Cond.static yX2_isCell, Cond.initialized RX2, Cond.code yX2_isCell cX2_isCell 1 (some .boolean), Cond.methodLink RX1 79 yX1_cellAt, Cond.instanceMethod yX1_cellAt, Cond.selects RX1 yX1_cellAt yX1_cellAt, Cond.code yX1_cellAt cX1_cellAt 2 (some .int), Cond.methodLink RX1 66 yX1_isInCourse, Cond.instanceMethod yX1_isInCourse, Cond.selects RX1 yX1_isInCourse yX1_isInCourse]
def wsX2_init_r3 : List Cond := [Cond.code yX1_isInCourse cX1_isInCourse 2 (some .boolean), Cond.static yX2_directionTo, Cond.code yX2_directionTo cX2_directionTo 4 (some .int), Cond.methodLink RX2 229 yX2_neighbour, Cond.static yX2_neighbour, Cond.code yX2_neighbour cX2_neighbour 3 (some .int), Cond.methodLink RX1 86 yX1_throwCells, Cond.instanceMethod yX1_throwCells, Cond.selects RX1 yX1_throwCells yX1_throwCells, Cond.code yX1_throwCells cX1_throwCells 3 none, Cond.instanceMethod yX0_init, Cond.code yX0_init cX0_init 1 none, Cond.methodLink RX0 3 objectInit, Cond.fieldLink RX0 9 "MeanderFarm$Farms" "column" "[I", Cond.fieldLink RX0 15 "MeanderFarm$Farms" "row" "[I", Cond.fieldLink RX0 18 "MeanderFarm$Farms" "wide" "[I", Cond.fieldLink RX0 21 "MeanderFarm$Farms" "deep" "[I"]
def wsX2_init : List Cond := .code yX2_init cX2_init 1 none :: ((wsX2_init_r1 ++ (wsX2_init_r2 ++ wsX2_init_r3)) ++ wsX20 ++ wsX10 ++ wsX00)
def wsX2_isGrade : List Cond := .code yX2_isGrade cX2_isGrade 1 (some .boolean) :: ([])
def wsX2_setHardness : List Cond := .code yX2_setHardness cX2_setHardness 6 (some .int) :: ([.classLink RX2 38 "java/lang/IndexOutOfBoundsException", .initialized "java/lang/IndexOutOfBoundsException", .classLink RX2 48 "java/lang/IllegalArgumentException", .initialized "java/lang/IllegalArgumentException", .fieldLink RX2 16 "MeanderFarm" "now" "LMeanderFarm$River;", .methodLink RX2 30 yX2_cellNumber, .static yX2_cellNumber, .initialized RX2, .code yX2_cellNumber cX2_cellNumber 2 (some .int), .methodLink RX2 34 yX2_isCell, .static yX2_isCell, .code yX2_isCell cX2_isCell 1 (some .boolean), .methodLink RX2 45 yX2_isGrade, .static yX2_isGrade, .code yX2_isGrade cX2_isGrade 1 (some .boolean)] ++ wsX20 ++ wsX10 ++ (vx_atS RX2 42 "java/lang/IndexOutOfBoundsException" ["java/lang/RuntimeException", "java/lang/Exception"]).filter goodWord ++ (vx_atS RX2 52 "java/lang/IllegalArgumentException" ["java/lang/RuntimeException", "java/lang/Exception"]).filter goodWord)
def wsX2_setStones : List Cond := .code yX2_setStones cX2_setStones 5 (some .int) :: ([.classLink RX2 38 "java/lang/IndexOutOfBoundsException", .initialized "java/lang/IndexOutOfBoundsException", .fieldLink RX2 16 "MeanderFarm" "now" "LMeanderFarm$River;", .methodLink RX2 30 yX2_cellNumber, .static yX2_cellNumber, .initialized RX2, .code yX2_cellNumber cX2_cellNumber 2 (some .int), .methodLink RX2 34 yX2_isCell, .static yX2_isCell, .code yX2_isCell cX2_isCell 1 (some .boolean), .instanceMethod yX1_cellsWithStones, .initialized RX1, .selects RX1 yX1_cellsWithStones yX1_cellsWithStones, .code yX1_cellsWithStones cX1_cellsWithStones 3 (some .int), .fieldLink RX1 18 "MeanderFarm$River" "stones" "[Z"] ++ wsX20 ++ wsX10 ++ (vx_atS RX2 42 "java/lang/IndexOutOfBoundsException" ["java/lang/RuntimeException", "java/lang/Exception"]).filter goodWord)
def wsX2_setFlow : List Cond := .code yX2_setFlow cX2_setFlow 4 (some .int) :: ([.classLink RX2 38 "java/lang/IndexOutOfBoundsException", .initialized "java/lang/IndexOutOfBoundsException", .classLink RX2 48 "java/lang/IllegalArgumentException", .initialized "java/lang/IllegalArgumentException", .fieldLink RX2 16 "MeanderFarm" "now" "LMeanderFarm$River;", .methodLink RX2 45 yX2_isGrade, .static yX2_isGrade, .initialized RX2, .code yX2_isGrade cX2_isGrade 1 (some .boolean)] ++ wsX20 ++ wsX10 ++ (vx_atS RX2 42 "java/lang/IndexOutOfBoundsException" ["java/lang/RuntimeException", "java/lang/Exception"]).filter goodWord ++ (vx_atS RX2 52 "java/lang/IllegalArgumentException" ["java/lang/RuntimeException", "java/lang/Exception"]).filter goodWord)
def wsX2_cell_r1 : List Cond := [Cond.classLink RX2 38 "java/lang/IndexOutOfBoundsException", Cond.initialized "java/lang/IndexOutOfBoundsException", Cond.fieldLink RX2 16 "MeanderFarm" "now" "LMeanderFarm$River;", Cond.fieldLink RX2 26 "MeanderFarm" "farms" "LMeanderFarm$Farms;", Cond.methodLink RX2 30 yX2_cellNumber, Cond.static yX2_cellNumber, Cond.initialized RX2, Cond.code yX2_cellNumber cX2_cellNumber 2 (some .int), Cond.methodLink RX2 34 yX2_isCell, Cond.static yX2_isCell, Cond.code yX2_isCell cX2_isCell 1 (some .boolean), Cond.instanceMethod yX1_lakeYearsLeft, Cond.initialized RX1, Cond.selects RX1 yX1_lakeYearsLeft yX1_lakeYearsLeft, Cond.code yX1_lakeYearsLeft cX1_lakeYearsLeft 2 (some .int), Cond.fieldLink RX1 22 "MeanderFarm$River" "lakeEnd" "[I", Cond.fieldLink RX1 60 "MeanderFarm$River" "year" "I", Cond.methodLink RX1 73 Lib.Math.max.name, Cond.static Lib.Math.max.name, Cond.initialized "java/lang/Math", Cond.code Lib.Math.max.name Lib.Math.max.code 2 (some .int), Cond.instanceMethod yX0_farmsAt, Cond.initialized RX0, Cond.selects RX0 yX0_farmsAt yX0_farmsAt]
def wsX2_cell_r2 : List Cond := [Cond.code yX0_farmsAt cX0_farmsAt 5 (some .int), Cond.fieldLink RX0 24 "MeanderFarm$Farms" "size" "I", Cond.fieldLink RX0 9 "MeanderFarm$Farms" "column" "[I", Cond.fieldLink RX0 18 "MeanderFarm$Farms" "wide" "[I", Cond.fieldLink RX0 15 "MeanderFarm$Farms" "row" "[I", Cond.fieldLink RX0 21 "MeanderFarm$Farms" "deep" "[I"]
def wsX2_cell : List Cond := .code yX2_cell cX2_cell 5 (some .int) :: ((wsX2_cell_r1 ++ wsX2_cell_r2) ++ wsX20 ++ wsX10 ++ wsX00 ++ (vx_atS RX2 42 "java/lang/IndexOutOfBoundsException" ["java/lang/RuntimeException", "java/lang/Exception"]).filter goodWord)
def wsX2_course : List Cond := .code yX2_course cX2_course 3 (some .int) :: ([.classLink RX2 38 "java/lang/IndexOutOfBoundsException", .initialized "java/lang/IndexOutOfBoundsException", .fieldLink RX2 16 "MeanderFarm" "now" "LMeanderFarm$River;", .instanceMethod yX1_isInCourse, .initialized RX1, .selects RX1 yX1_isInCourse yX1_isInCourse, .code yX1_isInCourse cX1_isInCourse 2 (some .boolean), .fieldLink RX1 46 "MeanderFarm$River" "length" "I", .instanceMethod yX1_isStraight, .selects RX1 yX1_isStraight yX1_isStraight, .code yX1_isStraight cX1_isStraight 2 (some .boolean), .fieldLink RX1 37 "MeanderFarm$River" "direction" "[I", .methodLink RX1 66 yX1_isInCourse] ++ wsX20 ++ wsX10 ++ (vx_atS RX2 42 "java/lang/IndexOutOfBoundsException" ["java/lang/RuntimeException", "java/lang/Exception"]).filter goodWord)
def wsX2_slip_r1 : List Cond := [Cond.classLink RX2 38 "java/lang/IndexOutOfBoundsException", Cond.initialized "java/lang/IndexOutOfBoundsException", Cond.classLink RX2 48 "java/lang/IllegalArgumentException", Cond.initialized "java/lang/IllegalArgumentException", Cond.classLink RX2 114 "java/lang/IllegalStateException", Cond.initialized "java/lang/IllegalStateException", Cond.fieldLink RX2 16 "MeanderFarm" "now" "LMeanderFarm$River;", Cond.instanceMethod yX1_isInCourse, Cond.initialized RX1, Cond.selects RX1 yX1_isInCourse yX1_isInCourse, Cond.code yX1_isInCourse cX1_isInCourse 2 (some .boolean), Cond.fieldLink RX1 46 "MeanderFarm$River" "length" "I", Cond.instanceMethod yX1_canBulge, Cond.selects RX1 yX1_canBulge yX1_canBulge, Cond.code yX1_canBulge cX1_canBulge 4 (some .boolean), Cond.fieldLink RX1 37 "MeanderFarm$River" "direction" "[I", Cond.methodLink RX1 92 yX1_isStraight, Cond.instanceMethod yX1_isStraight, Cond.selects RX1 yX1_isStraight yX1_isStraight, Cond.code yX1_isStraight cX1_isStraight 2 (some .boolean), Cond.methodLink RX1 66 yX1_isInCourse, Cond.methodLink RX1 79 yX1_cellAt, Cond.instanceMethod yX1_cellAt, Cond.selects RX1 yX1_cellAt yX1_cellAt]
def wsX2_slip_r2 : List Cond := [Cond.code yX1_cellAt cX1_cellAt 2 (some .int), Cond.fieldLink RX1 31 "MeanderFarm$River" "course" "[I", Cond.static yX2_neighbour, Cond.initialized RX2, Cond.code yX2_neighbour cX2_neighbour 3 (some .int), Cond.methodLink RX1 95 yX1_isOpen, Cond.instanceMethod yX1_isOpen, Cond.selects RX1 yX1_isOpen yX1_isOpen, Cond.code yX1_isOpen cX1_isOpen 2 (some .boolean), Cond.fieldLink RX1 34 "MeanderFarm$River" "place" "[I", Cond.fieldLink RX1 18 "MeanderFarm$River" "stones" "[Z", Cond.static yX2_isCell, Cond.code yX2_isCell cX2_isCell 1 (some .boolean), Cond.instanceMethod yX1_bulge, Cond.selects RX1 yX1_bulge yX1_bulge, Cond.code yX1_bulge cX1_bulge 7 none, Cond.methodLink RX1 54 arraycopyName, Cond.native arraycopyName, Cond.static arraycopyName, Cond.initialized "java/lang/System", Cond.methodLink RX1 98 yX1_canBulge, Cond.methodLink RX1 102 yX1_takeIntoCourse, Cond.instanceMethod yX1_takeIntoCourse, Cond.selects RX1 yX1_takeIntoCourse yX1_takeIntoCourse]
def wsX2_slip_r3 : List Cond := [Cond.code yX1_takeIntoCourse cX1_takeIntoCourse 3 none, Cond.fieldLink RX1 15 "MeanderFarm$River" "wear" "[I", Cond.fieldLink RX1 22 "MeanderFarm$River" "lakeEnd" "[I", Cond.fieldLink RX1 25 "MeanderFarm$River" "bulgedInto" "[Z", Cond.methodLink RX1 50 yX1_followCourse, Cond.instanceMethod yX1_followCourse, Cond.selects RX1 yX1_followCourse yX1_followCourse, Cond.code yX1_followCourse cX1_followCourse 4 none, Cond.methodLink RX1 73 Lib.Math.max.name, Cond.static Lib.Math.max.name, Cond.initialized "java/lang/Math", Cond.code Lib.Math.max.name Lib.Math.max.code 2 (some .int), Cond.static yX2_directionTo, Cond.code yX2_directionTo cX2_directionTo 4 (some .int), Cond.methodLink RX2 229 yX2_neighbour, Cond.methodLink RX1 86 yX1_throwCells, Cond.instanceMethod yX1_throwCells, Cond.selects RX1 yX1_throwCells yX1_throwCells, Cond.code yX1_throwCells cX1_throwCells 3 none, Cond.fieldLink RX1 40 "MeanderFarm$River" "thrown" "[I", Cond.fieldLink RX1 43 "MeanderFarm$River" "bank" "[I"]
def wsX2_slip : List Cond := .code yX2_slip cX2_slip 3 (some .int) :: ((wsX2_slip_r1 ++ (wsX2_slip_r2 ++ wsX2_slip_r3)) ++ wsX20 ++ wsX10 ++ (vx_atS RX2 42 "java/lang/IndexOutOfBoundsException" ["java/lang/RuntimeException", "java/lang/Exception"]).filter goodWord ++ (vx_atS RX2 52 "java/lang/IllegalArgumentException" ["java/lang/RuntimeException", "java/lang/Exception"]).filter goodWord ++ (vx_atS RX2 118 "java/lang/IllegalStateException" ["java/lang/RuntimeException", "java/lang/Exception"]).filter goodWord)
def wsX2_dig_r1 : List Cond := [Cond.classLink RX2 38 "java/lang/IndexOutOfBoundsException", Cond.initialized "java/lang/IndexOutOfBoundsException", Cond.classLink RX2 114 "java/lang/IllegalStateException", Cond.initialized "java/lang/IllegalStateException", Cond.fieldLink RX2 16 "MeanderFarm" "now" "LMeanderFarm$River;", Cond.instanceMethod yX1_isInCourse, Cond.initialized RX1, Cond.selects RX1 yX1_isInCourse yX1_isInCourse, Cond.code yX1_isInCourse cX1_isInCourse 2 (some .boolean), Cond.fieldLink RX1 46 "MeanderFarm$River" "length" "I", Cond.instanceMethod yX1_isNeck, Cond.selects RX1 yX1_isNeck yX1_isNeck, Cond.code yX1_isNeck cX1_isNeck 3 (some .boolean), Cond.fieldLink RX1 31 "MeanderFarm$River" "course" "[I", Cond.methodLink RX1 66 yX1_isInCourse, Cond.static yX2_directionTo, Cond.initialized RX2, Cond.code yX2_directionTo cX2_directionTo 4 (some .int), Cond.methodLink RX2 229 yX2_neighbour, Cond.static yX2_neighbour, Cond.code yX2_neighbour cX2_neighbour 3 (some .int), Cond.instanceMethod yX1_breakThrough, Cond.selects RX1 yX1_breakThrough yX1_breakThrough, Cond.code yX1_breakThrough cX1_breakThrough 5 none]
def wsX2_dig_r2 : List Cond := [Cond.fieldLink RX1 34 "MeanderFarm$River" "place" "[I", Cond.fieldLink RX1 22 "MeanderFarm$River" "lakeEnd" "[I", Cond.fieldLink RX1 60 "MeanderFarm$River" "year" "I", Cond.methodLink RX1 54 arraycopyName, Cond.native arraycopyName, Cond.static arraycopyName, Cond.initialized "java/lang/System", Cond.fieldLink RX1 63 "MeanderFarm$River" "breaks" "I", Cond.methodLink RX1 112 yX1_isNeck, Cond.methodLink RX1 79 yX1_cellAt, Cond.instanceMethod yX1_cellAt, Cond.selects RX1 yX1_cellAt yX1_cellAt, Cond.code yX1_cellAt cX1_cellAt 2 (some .int), Cond.static yX2_isCell, Cond.code yX2_isCell cX2_isCell 1 (some .boolean), Cond.methodLink RX1 50 yX1_followCourse, Cond.instanceMethod yX1_followCourse, Cond.selects RX1 yX1_followCourse yX1_followCourse, Cond.code yX1_followCourse cX1_followCourse 4 none, Cond.methodLink RX1 73 Lib.Math.max.name, Cond.static Lib.Math.max.name, Cond.initialized "java/lang/Math", Cond.code Lib.Math.max.name Lib.Math.max.code 2 (some .int), Cond.fieldLink RX1 37 "MeanderFarm$River" "direction" "[I"]
def wsX2_dig_r3 : List Cond := [Cond.methodLink RX1 86 yX1_throwCells, Cond.instanceMethod yX1_throwCells, Cond.selects RX1 yX1_throwCells yX1_throwCells, Cond.code yX1_throwCells cX1_throwCells 3 none, Cond.fieldLink RX1 40 "MeanderFarm$River" "thrown" "[I", Cond.fieldLink RX1 43 "MeanderFarm$River" "bank" "[I"]
def wsX2_dig : List Cond := .code yX2_dig cX2_dig 3 (some .int) :: ((wsX2_dig_r1 ++ (wsX2_dig_r2 ++ wsX2_dig_r3)) ++ wsX20 ++ wsX10 ++ (vx_atS RX2 42 "java/lang/IndexOutOfBoundsException" ["java/lang/RuntimeException", "java/lang/Exception"]).filter goodWord ++ (vx_atS RX2 118 "java/lang/IllegalStateException" ["java/lang/RuntimeException", "java/lang/Exception"]).filter goodWord)
def wsX2_neck_r1 : List Cond := [Cond.classLink RX2 38 "java/lang/IndexOutOfBoundsException", Cond.initialized "java/lang/IndexOutOfBoundsException", Cond.fieldLink RX2 16 "MeanderFarm" "now" "LMeanderFarm$River;", Cond.fieldLink RX2 20 "MeanderFarm" "ahead" "LMeanderFarm$River;", Cond.instanceMethod yX1_necks, Cond.initialized RX1, Cond.selects RX1 yX1_necks yX1_necks, Cond.code yX1_necks cX1_necks 4 (some .int), Cond.fieldLink RX1 46 "MeanderFarm$River" "length" "I", Cond.fieldLink RX1 31 "MeanderFarm$River" "course" "[I", Cond.static yX2_neighbour, Cond.initialized RX2, Cond.code yX2_neighbour cX2_neighbour 3 (some .int), Cond.methodLink RX1 106 yX1_placeOf, Cond.instanceMethod yX1_placeOf, Cond.selects RX1 yX1_placeOf yX1_placeOf, Cond.code yX1_placeOf cX1_placeOf 2 (some .int), Cond.fieldLink RX1 34 "MeanderFarm$River" "place" "[I", Cond.static yX2_isCell, Cond.code yX2_isCell cX2_isCell 1 (some .boolean), Cond.instanceMethod yX1_widestNeck, Cond.selects RX1 yX1_widestNeck yX1_widestNeck, Cond.code yX1_widestNeck cX1_widestNeck 5 (some .int), Cond.methodLink RX1 109 yX1_farthestAcross]
def wsX2_neck_r2 : List Cond := [Cond.instanceMethod yX1_farthestAcross, Cond.selects RX1 yX1_farthestAcross yX1_farthestAcross, Cond.code yX1_farthestAcross cX1_farthestAcross 5 (some .int), Cond.methodLink RX1 79 yX1_cellAt, Cond.instanceMethod yX1_cellAt, Cond.selects RX1 yX1_cellAt yX1_cellAt, Cond.code yX1_cellAt cX1_cellAt 2 (some .int), Cond.methodLink RX1 66 yX1_isInCourse, Cond.instanceMethod yX1_isInCourse, Cond.selects RX1 yX1_isInCourse yX1_isInCourse, Cond.code yX1_isInCourse cX1_isInCourse 2 (some .boolean), Cond.instanceMethod yX1_copyFrom, Cond.selects RX1 yX1_copyFrom yX1_copyFrom, Cond.code yX1_copyFrom cX1_copyFrom 3 none, Cond.fieldLink RX1 9 "MeanderFarm$River" "hardness" "[I", Cond.methodLink RX1 54 arraycopyName, Cond.native arraycopyName, Cond.static arraycopyName, Cond.initialized "java/lang/System", Cond.fieldLink RX1 15 "MeanderFarm$River" "wear" "[I", Cond.fieldLink RX1 18 "MeanderFarm$River" "stones" "[Z", Cond.fieldLink RX1 22 "MeanderFarm$River" "lakeEnd" "[I", Cond.fieldLink RX1 28 "MeanderFarm$River" "flow" "[I", Cond.fieldLink RX1 37 "MeanderFarm$River" "direction" "[I"]
def wsX2_neck_r3 : List Cond := [Cond.fieldLink RX1 40 "MeanderFarm$River" "thrown" "[I", Cond.fieldLink RX1 43 "MeanderFarm$River" "bank" "[I", Cond.fieldLink RX1 60 "MeanderFarm$River" "year" "I", Cond.fieldLink RX1 63 "MeanderFarm$River" "breaks" "I", Cond.fieldLink RX1 25 "MeanderFarm$River" "bulgedInto" "[Z", Cond.instanceMethod yX1_flood, Cond.selects RX1 yX1_flood yX1_flood, Cond.code yX1_flood cX1_flood 3 none, Cond.methodLink RX1 131 yX1_widestNeck, Cond.methodLink RX1 135 yX1_breakThrough, Cond.instanceMethod yX1_breakThrough, Cond.selects RX1 yX1_breakThrough yX1_breakThrough, Cond.code yX1_breakThrough cX1_breakThrough 5 none, Cond.methodLink RX1 112 yX1_isNeck, Cond.instanceMethod yX1_isNeck, Cond.selects RX1 yX1_isNeck yX1_isNeck, Cond.code yX1_isNeck cX1_isNeck 3 (some .boolean), Cond.static yX2_directionTo, Cond.code yX2_directionTo cX2_directionTo 4 (some .int), Cond.methodLink RX2 229 yX2_neighbour, Cond.methodLink RX1 50 yX1_followCourse, Cond.instanceMethod yX1_followCourse, Cond.selects RX1 yX1_followCourse yX1_followCourse, Cond.code yX1_followCourse cX1_followCourse 4 none]
def wsX2_neck_r4 : List Cond := [Cond.methodLink RX1 73 Lib.Math.max.name, Cond.static Lib.Math.max.name, Cond.initialized "java/lang/Math", Cond.code Lib.Math.max.name Lib.Math.max.code 2 (some .int), Cond.methodLink RX1 86 yX1_throwCells, Cond.instanceMethod yX1_throwCells, Cond.selects RX1 yX1_throwCells yX1_throwCells, Cond.code yX1_throwCells cX1_throwCells 3 none]
def wsX2_neck : List Cond := .code yX2_neck cX2_neck 2 (some .int) :: ((wsX2_neck_r1 ++ (wsX2_neck_r2 ++ (wsX2_neck_r3 ++ wsX2_neck_r4))) ++ wsX20 ++ wsX10 ++ (vx_atS RX2 42 "java/lang/IndexOutOfBoundsException" ["java/lang/RuntimeException", "java/lang/Exception"]).filter goodWord)
def wsX2_isSpan : List Cond := .code yX2_isSpan cX2_isSpan 3 (some .boolean) :: ([])
def wsX2_addFarm : List Cond := .code yX2_addFarm cX2_addFarm 5 (some .int) :: ([.classLink RX2 48 "java/lang/IllegalArgumentException", .initialized "java/lang/IllegalArgumentException", .classLink RX2 114 "java/lang/IllegalStateException", .initialized "java/lang/IllegalStateException", .fieldLink RX2 26 "MeanderFarm" "farms" "LMeanderFarm$Farms;", .methodLink RX2 153 yX2_isSpan, .static yX2_isSpan, .initialized RX2, .code yX2_isSpan cX2_isSpan 3 (some .boolean), .instanceMethod yX0_append, .initialized RX0, .selects RX0 yX0_append yX0_append, .code yX0_append cX0_append 6 (some .int), .fieldLink RX0 24 "MeanderFarm$Farms" "size" "I", .fieldLink RX0 9 "MeanderFarm$Farms" "column" "[I", .fieldLink RX0 15 "MeanderFarm$Farms" "row" "[I", .fieldLink RX0 18 "MeanderFarm$Farms" "wide" "[I", .fieldLink RX0 21 "MeanderFarm$Farms" "deep" "[I"] ++ wsX20 ++ wsX00 ++ (vx_atS RX2 52 "java/lang/IllegalArgumentException" ["java/lang/RuntimeException", "java/lang/Exception"]).filter goodWord ++ (vx_atS RX2 118 "java/lang/IllegalStateException" ["java/lang/RuntimeException", "java/lang/Exception"]).filter goodWord)
def wsX2_farm_r1 : List Cond := [Cond.classLink RX2 38 "java/lang/IndexOutOfBoundsException", Cond.initialized "java/lang/IndexOutOfBoundsException", Cond.fieldLink RX2 26 "MeanderFarm" "farms" "LMeanderFarm$Farms;", Cond.fieldLink RX2 16 "MeanderFarm" "now" "LMeanderFarm$River;", Cond.instanceMethod yX0_isFarm, Cond.initialized RX0, Cond.selects RX0 yX0_isFarm yX0_isFarm, Cond.code yX0_isFarm cX0_isFarm 2 (some .boolean), Cond.fieldLink RX0 24 "MeanderFarm$Farms" "size" "I", Cond.instanceMethod yX0_cellsOf, Cond.selects RX0 yX0_cellsOf yX0_cellsOf, Cond.code yX0_cellsOf cX0_cellsOf 7 (some .int), Cond.fieldLink RX0 15 "MeanderFarm$Farms" "row" "[I", Cond.fieldLink RX0 21 "MeanderFarm$Farms" "deep" "[I", Cond.fieldLink RX0 9 "MeanderFarm$Farms" "column" "[I", Cond.fieldLink RX0 18 "MeanderFarm$Farms" "wide" "[I", Cond.methodLink RX0 28 yX0_isFarm, Cond.static yX2_cellNumber, Cond.initialized RX2, Cond.code yX2_cellNumber cX2_cellNumber 2 (some .int), Cond.methodLink RX0 36 yX0_isCounted, Cond.static yX0_isCounted, Cond.code yX0_isCounted cX0_isCounted 5 (some .boolean), Cond.static yX2_isCell]
def wsX2_farm_r2 : List Cond := [Cond.code yX2_isCell cX2_isCell 1 (some .boolean), Cond.instanceMethod yX1_lakeYearsLeft, Cond.initialized RX1, Cond.selects RX1 yX1_lakeYearsLeft yX1_lakeYearsLeft, Cond.code yX1_lakeYearsLeft cX1_lakeYearsLeft 2 (some .int), Cond.fieldLink RX1 22 "MeanderFarm$River" "lakeEnd" "[I", Cond.fieldLink RX1 60 "MeanderFarm$River" "year" "I", Cond.methodLink RX1 73 Lib.Math.max.name, Cond.static Lib.Math.max.name, Cond.initialized "java/lang/Math", Cond.code Lib.Math.max.name Lib.Math.max.code 2 (some .int)]
def wsX2_farm : List Cond := .code yX2_farm cX2_farm 3 (some .int) :: ((wsX2_farm_r1 ++ wsX2_farm_r2) ++ wsX20 ++ wsX00 ++ wsX10 ++ (vx_atS RX2 42 "java/lang/IndexOutOfBoundsException" ["java/lang/RuntimeException", "java/lang/Exception"]).filter goodWord)
def wsX2_pass_r1 : List Cond := [Cond.classLink RX2 48 "java/lang/IllegalArgumentException", Cond.initialized "java/lang/IllegalArgumentException", Cond.fieldLink RX2 16 "MeanderFarm" "now" "LMeanderFarm$River;", Cond.instanceMethod yX1_letPass, Cond.initialized RX1, Cond.selects RX1 yX1_letPass yX1_letPass, Cond.code yX1_letPass cX1_letPass 5 (some .int), Cond.fieldLink RX1 28 "MeanderFarm$River" "flow" "[I", Cond.fieldLink RX1 60 "MeanderFarm$River" "year" "I", Cond.methodLink RX1 115 yJ9_floorMod_7cf53, Cond.static yJ9_floorMod_7cf53, Cond.initialized RJ9, Cond.code yJ9_floorMod_7cf53 cJ9_floorMod_7cf53 3 (some .int), Cond.methodLink RX1 118 yX1_wearBanks, Cond.instanceMethod yX1_wearBanks, Cond.selects RX1 yX1_wearBanks yX1_wearBanks, Cond.code yX1_wearBanks cX1_wearBanks 4 none, Cond.fieldLink RX1 46 "MeanderFarm$River" "length" "I", Cond.fieldLink RX1 43 "MeanderFarm$River" "bank" "[I", Cond.fieldLink RX1 15 "MeanderFarm$River" "wear" "[I", Cond.methodLink RX1 95 yX1_isOpen, Cond.instanceMethod yX1_isOpen, Cond.selects RX1 yX1_isOpen yX1_isOpen, Cond.code yX1_isOpen cX1_isOpen 2 (some .boolean)]
def wsX2_pass_r2 : List Cond := [Cond.fieldLink RX1 34 "MeanderFarm$River" "place" "[I", Cond.fieldLink RX1 18 "MeanderFarm$River" "stones" "[Z", Cond.static yX2_isCell, Cond.initialized RX2, Cond.code yX2_isCell cX2_isCell 1 (some .boolean), Cond.methodLink RX1 121 yX1_bulgeWhereRipest, Cond.instanceMethod yX1_bulgeWhereRipest, Cond.selects RX1 yX1_bulgeWhereRipest yX1_bulgeWhereRipest, Cond.code yX1_bulgeWhereRipest cX1_bulgeWhereRipest 6 (some .boolean), Cond.fieldLink RX1 9 "MeanderFarm$River" "hardness" "[I", Cond.fieldLink RX1 40 "MeanderFarm$River" "thrown" "[I", Cond.methodLink RX1 98 yX1_canBulge, Cond.instanceMethod yX1_canBulge, Cond.selects RX1 yX1_canBulge yX1_canBulge, Cond.code yX1_canBulge cX1_canBulge 4 (some .boolean), Cond.fieldLink RX1 37 "MeanderFarm$River" "direction" "[I", Cond.methodLink RX1 92 yX1_isStraight, Cond.instanceMethod yX1_isStraight, Cond.selects RX1 yX1_isStraight yX1_isStraight, Cond.code yX1_isStraight cX1_isStraight 2 (some .boolean), Cond.methodLink RX1 66 yX1_isInCourse, Cond.instanceMethod yX1_isInCourse, Cond.selects RX1 yX1_isInCourse yX1_isInCourse, Cond.code yX1_isInCourse cX1_isInCourse 2 (some .boolean)]
def wsX2_pass_r3 : List Cond := [Cond.methodLink RX1 79 yX1_cellAt, Cond.instanceMethod yX1_cellAt, Cond.selects RX1 yX1_cellAt yX1_cellAt, Cond.code yX1_cellAt cX1_cellAt 2 (some .int), Cond.fieldLink RX1 31 "MeanderFarm$River" "course" "[I", Cond.static yX2_neighbour, Cond.code yX2_neighbour cX2_neighbour 3 (some .int), Cond.methodLink RX1 128 yX1_bulge, Cond.instanceMethod yX1_bulge, Cond.selects RX1 yX1_bulge yX1_bulge, Cond.code yX1_bulge cX1_bulge 7 none, Cond.methodLink RX1 54 arraycopyName, Cond.native arraycopyName, Cond.static arraycopyName, Cond.initialized "java/lang/System", Cond.methodLink RX1 102 yX1_takeIntoCourse, Cond.instanceMethod yX1_takeIntoCourse, Cond.selects RX1 yX1_takeIntoCourse yX1_takeIntoCourse, Cond.code yX1_takeIntoCourse cX1_takeIntoCourse 3 none, Cond.fieldLink RX1 22 "MeanderFarm$River" "lakeEnd" "[I", Cond.fieldLink RX1 25 "MeanderFarm$River" "bulgedInto" "[Z", Cond.methodLink RX1 50 yX1_followCourse, Cond.instanceMethod yX1_followCourse, Cond.selects RX1 yX1_followCourse yX1_followCourse]
def wsX2_pass_r4 : List Cond := [Cond.code yX1_followCourse cX1_followCourse 4 none, Cond.methodLink RX1 73 Lib.Math.max.name, Cond.static Lib.Math.max.name, Cond.initialized "java/lang/Math", Cond.code Lib.Math.max.name Lib.Math.max.code 2 (some .int), Cond.static yX2_directionTo, Cond.code yX2_directionTo cX2_directionTo 4 (some .int), Cond.methodLink RX2 229 yX2_neighbour, Cond.methodLink RX1 86 yX1_throwCells, Cond.instanceMethod yX1_throwCells, Cond.selects RX1 yX1_throwCells yX1_throwCells, Cond.code yX1_throwCells cX1_throwCells 3 none, Cond.methodLink RX1 125 yX1_flood, Cond.instanceMethod yX1_flood, Cond.selects RX1 yX1_flood yX1_flood, Cond.code yX1_flood cX1_flood 3 none, Cond.methodLink RX1 131 yX1_widestNeck, Cond.instanceMethod yX1_widestNeck, Cond.selects RX1 yX1_widestNeck yX1_widestNeck, Cond.code yX1_widestNeck cX1_widestNeck 5 (some .int), Cond.methodLink RX1 109 yX1_farthestAcross, Cond.instanceMethod yX1_farthestAcross, Cond.selects RX1 yX1_farthestAcross yX1_farthestAcross, Cond.code yX1_farthestAcross cX1_farthestAcross 5 (some .int)]
def wsX2_pass_r5 : List Cond := [Cond.methodLink RX1 106 yX1_placeOf, Cond.instanceMethod yX1_placeOf, Cond.selects RX1 yX1_placeOf yX1_placeOf, Cond.code yX1_placeOf cX1_placeOf 2 (some .int), Cond.methodLink RX1 135 yX1_breakThrough, Cond.instanceMethod yX1_breakThrough, Cond.selects RX1 yX1_breakThrough yX1_breakThrough, Cond.code yX1_breakThrough cX1_breakThrough 5 none, Cond.fieldLink RX1 63 "MeanderFarm$River" "breaks" "I", Cond.methodLink RX1 112 yX1_isNeck, Cond.instanceMethod yX1_isNeck, Cond.selects RX1 yX1_isNeck yX1_isNeck, Cond.code yX1_isNeck cX1_isNeck 3 (some .boolean)]
def wsX2_pass : List Cond := .code yX2_pass cX2_pass 2 (some .int) :: ((wsX2_pass_r1 ++ (wsX2_pass_r2 ++ (wsX2_pass_r3 ++ (wsX2_pass_r4 ++ wsX2_pass_r5)))) ++ wsX20 ++ wsX10 ++ (vx_atS RX2 52 "java/lang/IllegalArgumentException" ["java/lang/RuntimeException", "java/lang/Exception"]).filter goodWord)
def wsX2_total_r1 : List Cond := [Cond.fieldLink RX2 16 "MeanderFarm" "now" "LMeanderFarm$River;", Cond.fieldLink RX2 26 "MeanderFarm" "farms" "LMeanderFarm$Farms;", Cond.instanceMethod yX1_lakes, Cond.initialized RX1, Cond.selects RX1 yX1_lakes yX1_lakes, Cond.code yX1_lakes cX1_lakes 3 (some .int), Cond.fieldLink RX1 22 "MeanderFarm$River" "lakeEnd" "[I", Cond.fieldLink RX1 60 "MeanderFarm$River" "year" "I", Cond.instanceMethod yX1_cellsWithStones, Cond.selects RX1 yX1_cellsWithStones yX1_cellsWithStones, Cond.code yX1_cellsWithStones cX1_cellsWithStones 3 (some .int), Cond.fieldLink RX1 18 "MeanderFarm$River" "stones" "[Z", Cond.instanceMethod yX1_bends, Cond.selects RX1 yX1_bends yX1_bends, Cond.code yX1_bends cX1_bends 3 (some .int), Cond.fieldLink RX1 46 "MeanderFarm$River" "length" "I", Cond.methodLink RX1 92 yX1_isStraight, Cond.instanceMethod yX1_isStraight, Cond.selects RX1 yX1_isStraight yX1_isStraight, Cond.code yX1_isStraight cX1_isStraight 2 (some .boolean), Cond.fieldLink RX1 37 "MeanderFarm$River" "direction" "[I", Cond.methodLink RX1 66 yX1_isInCourse, Cond.instanceMethod yX1_isInCourse, Cond.selects RX1 yX1_isInCourse yX1_isInCourse]
def wsX2_total_r2 : List Cond := [Cond.code yX1_isInCourse cX1_isInCourse 2 (some .boolean), Cond.instanceMethod yX1_allWear, Cond.selects RX1 yX1_allWear yX1_allWear, Cond.code yX1_allWear cX1_allWear 3 (some .int), Cond.fieldLink RX1 15 "MeanderFarm$River" "wear" "[I"]
def wsX2_total : List Cond := .code yX2_total cX2_total 2 (some .int) :: ((wsX2_total_r1 ++ wsX2_total_r2) ++ wsX20 ++ wsX10 ++ wsX00)
def wsX2_count_r1 : List Cond := [Cond.classLink RX2 38 "java/lang/IndexOutOfBoundsException", Cond.initialized "java/lang/IndexOutOfBoundsException", Cond.methodLink RX2 184 yX2_total, Cond.instanceMethod yX2_total, Cond.selects RX2 yX2_total yX2_total, Cond.initialized RX2, Cond.code yX2_total cX2_total 2 (some .int), Cond.fieldLink RX2 16 "MeanderFarm" "now" "LMeanderFarm$River;", Cond.fieldLink RX2 26 "MeanderFarm" "farms" "LMeanderFarm$Farms;", Cond.instanceMethod yX1_lakes, Cond.initialized RX1, Cond.selects RX1 yX1_lakes yX1_lakes, Cond.code yX1_lakes cX1_lakes 3 (some .int), Cond.fieldLink RX1 22 "MeanderFarm$River" "lakeEnd" "[I", Cond.fieldLink RX1 60 "MeanderFarm$River" "year" "I", Cond.instanceMethod yX1_cellsWithStones, Cond.selects RX1 yX1_cellsWithStones yX1_cellsWithStones, Cond.code yX1_cellsWithStones cX1_cellsWithStones 3 (some .int), Cond.fieldLink RX1 18 "MeanderFarm$River" "stones" "[Z", Cond.instanceMethod yX1_bends, Cond.selects RX1 yX1_bends yX1_bends, Cond.code yX1_bends cX1_bends 3 (some .int), Cond.fieldLink RX1 46 "MeanderFarm$River" "length" "I", Cond.methodLink RX1 92 yX1_isStraight]
def wsX2_count_r2 : List Cond := [Cond.instanceMethod yX1_isStraight, Cond.selects RX1 yX1_isStraight yX1_isStraight, Cond.code yX1_isStraight cX1_isStraight 2 (some .boolean), Cond.fieldLink RX1 37 "MeanderFarm$River" "direction" "[I", Cond.methodLink RX1 66 yX1_isInCourse, Cond.instanceMethod yX1_isInCourse, Cond.selects RX1 yX1_isInCourse yX1_isInCourse, Cond.code yX1_isInCourse cX1_isInCourse 2 (some .boolean), Cond.instanceMethod yX1_allWear, Cond.selects RX1 yX1_allWear yX1_allWear, Cond.code yX1_allWear cX1_allWear 3 (some .int), Cond.fieldLink RX1 15 "MeanderFarm$River" "wear" "[I"]
def wsX2_count : List Cond := .code yX2_count cX2_count 2 (some .int) :: ((wsX2_count_r1 ++ wsX2_count_r2) ++ wsX20 ++ wsX10 ++ wsX00 ++ (vx_atS RX2 42 "java/lang/IndexOutOfBoundsException" ["java/lang/RuntimeException", "java/lang/Exception"]).filter goodWord)
def wsX2_foresee_r1 : List Cond := [Cond.classLink RX2 48 "java/lang/IllegalArgumentException", Cond.initialized "java/lang/IllegalArgumentException", Cond.classLink RX2 38 "java/lang/IndexOutOfBoundsException", Cond.initialized "java/lang/IndexOutOfBoundsException", Cond.fieldLink RX2 20 "MeanderFarm" "ahead" "LMeanderFarm$River;", Cond.fieldLink RX2 16 "MeanderFarm" "now" "LMeanderFarm$River;", Cond.instanceMethod yX1_copyFrom, Cond.initialized RX1, Cond.selects RX1 yX1_copyFrom yX1_copyFrom, Cond.code yX1_copyFrom cX1_copyFrom 3 none, Cond.fieldLink RX1 9 "MeanderFarm$River" "hardness" "[I", Cond.methodLink RX1 54 arraycopyName, Cond.native arraycopyName, Cond.static arraycopyName, Cond.initialized "java/lang/System", Cond.fieldLink RX1 15 "MeanderFarm$River" "wear" "[I", Cond.fieldLink RX1 18 "MeanderFarm$River" "stones" "[Z", Cond.fieldLink RX1 22 "MeanderFarm$River" "lakeEnd" "[I", Cond.fieldLink RX1 28 "MeanderFarm$River" "flow" "[I", Cond.fieldLink RX1 31 "MeanderFarm$River" "course" "[I", Cond.fieldLink RX1 34 "MeanderFarm$River" "place" "[I", Cond.fieldLink RX1 37 "MeanderFarm$River" "direction" "[I", Cond.fieldLink RX1 40 "MeanderFarm$River" "thrown" "[I", Cond.fieldLink RX1 43 "MeanderFarm$River" "bank" "[I"]
def wsX2_foresee_r2 : List Cond := [Cond.fieldLink RX1 46 "MeanderFarm$River" "length" "I", Cond.fieldLink RX1 60 "MeanderFarm$River" "year" "I", Cond.fieldLink RX1 63 "MeanderFarm$River" "breaks" "I", Cond.fieldLink RX1 25 "MeanderFarm$River" "bulgedInto" "[Z", Cond.instanceMethod yX1_letPass, Cond.selects RX1 yX1_letPass yX1_letPass, Cond.code yX1_letPass cX1_letPass 5 (some .int), Cond.methodLink RX1 115 yJ9_floorMod_7cf53, Cond.static yJ9_floorMod_7cf53, Cond.initialized RJ9, Cond.code yJ9_floorMod_7cf53 cJ9_floorMod_7cf53 3 (some .int), Cond.methodLink RX1 118 yX1_wearBanks, Cond.instanceMethod yX1_wearBanks, Cond.selects RX1 yX1_wearBanks yX1_wearBanks, Cond.code yX1_wearBanks cX1_wearBanks 4 none, Cond.methodLink RX1 95 yX1_isOpen, Cond.instanceMethod yX1_isOpen, Cond.selects RX1 yX1_isOpen yX1_isOpen, Cond.code yX1_isOpen cX1_isOpen 2 (some .boolean), Cond.static yX2_isCell, Cond.initialized RX2, Cond.code yX2_isCell cX2_isCell 1 (some .boolean), Cond.methodLink RX1 121 yX1_bulgeWhereRipest, Cond.instanceMethod yX1_bulgeWhereRipest]
def wsX2_foresee_r3 : List Cond := [Cond.selects RX1 yX1_bulgeWhereRipest yX1_bulgeWhereRipest, Cond.code yX1_bulgeWhereRipest cX1_bulgeWhereRipest 6 (some .boolean), Cond.methodLink RX1 98 yX1_canBulge, Cond.instanceMethod yX1_canBulge, Cond.selects RX1 yX1_canBulge yX1_canBulge, Cond.code yX1_canBulge cX1_canBulge 4 (some .boolean), Cond.methodLink RX1 92 yX1_isStraight, Cond.instanceMethod yX1_isStraight, Cond.selects RX1 yX1_isStraight yX1_isStraight, Cond.code yX1_isStraight cX1_isStraight 2 (some .boolean), Cond.methodLink RX1 66 yX1_isInCourse, Cond.instanceMethod yX1_isInCourse, Cond.selects RX1 yX1_isInCourse yX1_isInCourse, Cond.code yX1_isInCourse cX1_isInCourse 2 (some .boolean), Cond.methodLink RX1 79 yX1_cellAt, Cond.instanceMethod yX1_cellAt, Cond.selects RX1 yX1_cellAt yX1_cellAt, Cond.code yX1_cellAt cX1_cellAt 2 (some .int), Cond.static yX2_neighbour, Cond.code yX2_neighbour cX2_neighbour 3 (some .int), Cond.methodLink RX1 128 yX1_bulge, Cond.instanceMethod yX1_bulge, Cond.selects RX1 yX1_bulge yX1_bulge, Cond.code yX1_bulge cX1_bulge 7 none]
def wsX2_foresee_r4 : List Cond := [Cond.methodLink RX1 102 yX1_takeIntoCourse, Cond.instanceMethod yX1_takeIntoCourse, Cond.selects RX1 yX1_takeIntoCourse yX1_takeIntoCourse, Cond.code yX1_takeIntoCourse cX1_takeIntoCourse 3 none, Cond.methodLink RX1 50 yX1_followCourse, Cond.instanceMethod yX1_followCourse, Cond.selects RX1 yX1_followCourse yX1_followCourse, Cond.code yX1_followCourse cX1_followCourse 4 none, Cond.methodLink RX1 73 Lib.Math.max.name, Cond.static Lib.Math.max.name, Cond.initialized "java/lang/Math", Cond.code Lib.Math.max.name Lib.Math.max.code 2 (some .int), Cond.static yX2_directionTo, Cond.code yX2_directionTo cX2_directionTo 4 (some .int), Cond.methodLink RX2 229 yX2_neighbour, Cond.methodLink RX1 86 yX1_throwCells, Cond.instanceMethod yX1_throwCells, Cond.selects RX1 yX1_throwCells yX1_throwCells, Cond.code yX1_throwCells cX1_throwCells 3 none, Cond.methodLink RX1 125 yX1_flood, Cond.instanceMethod yX1_flood, Cond.selects RX1 yX1_flood yX1_flood, Cond.code yX1_flood cX1_flood 3 none, Cond.methodLink RX1 131 yX1_widestNeck]
def wsX2_foresee_r5 : List Cond := [Cond.instanceMethod yX1_widestNeck, Cond.selects RX1 yX1_widestNeck yX1_widestNeck, Cond.code yX1_widestNeck cX1_widestNeck 5 (some .int), Cond.methodLink RX1 109 yX1_farthestAcross, Cond.instanceMethod yX1_farthestAcross, Cond.selects RX1 yX1_farthestAcross yX1_farthestAcross, Cond.code yX1_farthestAcross cX1_farthestAcross 5 (some .int), Cond.methodLink RX1 106 yX1_placeOf, Cond.instanceMethod yX1_placeOf, Cond.selects RX1 yX1_placeOf yX1_placeOf, Cond.code yX1_placeOf cX1_placeOf 2 (some .int), Cond.methodLink RX1 135 yX1_breakThrough, Cond.instanceMethod yX1_breakThrough, Cond.selects RX1 yX1_breakThrough yX1_breakThrough, Cond.code yX1_breakThrough cX1_breakThrough 5 none, Cond.methodLink RX1 112 yX1_isNeck, Cond.instanceMethod yX1_isNeck, Cond.selects RX1 yX1_isNeck yX1_isNeck, Cond.code yX1_isNeck cX1_isNeck 3 (some .boolean)]
def wsX2_foresee : List Cond := .code yX2_foresee cX2_foresee 4 (some .int) :: ((wsX2_foresee_r1 ++ (wsX2_foresee_r2 ++ (wsX2_foresee_r3 ++ (wsX2_foresee_r4 ++ wsX2_foresee_r5)))) ++ wsX20 ++ wsX10 ++ (vx_atS RX2 52 "java/lang/IllegalArgumentException" ["java/lang/RuntimeException", "java/lang/Exception"]).filter goodWord ++ (vx_atS RX2 42 "java/lang/IndexOutOfBoundsException" ["java/lang/RuntimeException", "java/lang/Exception"]).filter goodWord)
def wsX2_loses_r1 : List Cond := [Cond.classLink RX2 38 "java/lang/IndexOutOfBoundsException", Cond.initialized "java/lang/IndexOutOfBoundsException", Cond.fieldLink RX2 26 "MeanderFarm" "farms" "LMeanderFarm$Farms;", Cond.fieldLink RX2 16 "MeanderFarm" "now" "LMeanderFarm$River;", Cond.fieldLink RX2 20 "MeanderFarm" "ahead" "LMeanderFarm$River;", Cond.instanceMethod yX0_isFarm, Cond.initialized RX0, Cond.selects RX0 yX0_isFarm yX0_isFarm, Cond.code yX0_isFarm cX0_isFarm 2 (some .boolean), Cond.fieldLink RX0 24 "MeanderFarm$Farms" "size" "I", Cond.instanceMethod yX0_cellsOf, Cond.selects RX0 yX0_cellsOf yX0_cellsOf, Cond.code yX0_cellsOf cX0_cellsOf 7 (some .int), Cond.fieldLink RX0 15 "MeanderFarm$Farms" "row" "[I", Cond.fieldLink RX0 21 "MeanderFarm$Farms" "deep" "[I", Cond.fieldLink RX0 9 "MeanderFarm$Farms" "column" "[I", Cond.fieldLink RX0 18 "MeanderFarm$Farms" "wide" "[I", Cond.methodLink RX0 28 yX0_isFarm, Cond.static yX2_cellNumber, Cond.initialized RX2, Cond.code yX2_cellNumber cX2_cellNumber 2 (some .int), Cond.methodLink RX0 36 yX0_isCounted, Cond.static yX0_isCounted, Cond.code yX0_isCounted cX0_isCounted 5 (some .boolean)]
def wsX2_loses_r2 : List Cond := [Cond.static yX2_isCell, Cond.code yX2_isCell cX2_isCell 1 (some .boolean), Cond.instanceMethod yX1_lakeYearsLeft, Cond.initialized RX1, Cond.selects RX1 yX1_lakeYearsLeft yX1_lakeYearsLeft, Cond.code yX1_lakeYearsLeft cX1_lakeYearsLeft 2 (some .int), Cond.fieldLink RX1 22 "MeanderFarm$River" "lakeEnd" "[I", Cond.fieldLink RX1 60 "MeanderFarm$River" "year" "I", Cond.methodLink RX1 73 Lib.Math.max.name, Cond.static Lib.Math.max.name, Cond.initialized "java/lang/Math", Cond.code Lib.Math.max.name Lib.Math.max.code 2 (some .int), Cond.instanceMethod yX1_copyFrom, Cond.selects RX1 yX1_copyFrom yX1_copyFrom, Cond.code yX1_copyFrom cX1_copyFrom 3 none, Cond.fieldLink RX1 9 "MeanderFarm$River" "hardness" "[I", Cond.methodLink RX1 54 arraycopyName, Cond.native arraycopyName, Cond.static arraycopyName, Cond.initialized "java/lang/System", Cond.fieldLink RX1 15 "MeanderFarm$River" "wear" "[I", Cond.fieldLink RX1 18 "MeanderFarm$River" "stones" "[Z", Cond.fieldLink RX1 28 "MeanderFarm$River" "flow" "[I", Cond.fieldLink RX1 31 "MeanderFarm$River" "course" "[I"]
def wsX2_loses_r3 : List Cond := [Cond.fieldLink RX1 34 "MeanderFarm$River" "place" "[I", Cond.fieldLink RX1 37 "MeanderFarm$River" "direction" "[I", Cond.fieldLink RX1 40 "MeanderFarm$River" "thrown" "[I", Cond.fieldLink RX1 43 "MeanderFarm$River" "bank" "[I", Cond.fieldLink RX1 46 "MeanderFarm$River" "length" "I", Cond.fieldLink RX1 63 "MeanderFarm$River" "breaks" "I", Cond.fieldLink RX1 25 "MeanderFarm$River" "bulgedInto" "[Z", Cond.instanceMethod yX1_letPass, Cond.selects RX1 yX1_letPass yX1_letPass, Cond.code yX1_letPass cX1_letPass 5 (some .int), Cond.methodLink RX1 115 yJ9_floorMod_7cf53, Cond.static yJ9_floorMod_7cf53, Cond.initialized RJ9, Cond.code yJ9_floorMod_7cf53 cJ9_floorMod_7cf53 3 (some .int), Cond.methodLink RX1 118 yX1_wearBanks, Cond.instanceMethod yX1_wearBanks, Cond.selects RX1 yX1_wearBanks yX1_wearBanks, Cond.code yX1_wearBanks cX1_wearBanks 4 none, Cond.methodLink RX1 95 yX1_isOpen, Cond.instanceMethod yX1_isOpen, Cond.selects RX1 yX1_isOpen yX1_isOpen, Cond.code yX1_isOpen cX1_isOpen 2 (some .boolean), Cond.methodLink RX1 121 yX1_bulgeWhereRipest, Cond.instanceMethod yX1_bulgeWhereRipest]
def wsX2_loses_r4 : List Cond := [Cond.selects RX1 yX1_bulgeWhereRipest yX1_bulgeWhereRipest, Cond.code yX1_bulgeWhereRipest cX1_bulgeWhereRipest 6 (some .boolean), Cond.methodLink RX1 98 yX1_canBulge, Cond.instanceMethod yX1_canBulge, Cond.selects RX1 yX1_canBulge yX1_canBulge, Cond.code yX1_canBulge cX1_canBulge 4 (some .boolean), Cond.methodLink RX1 92 yX1_isStraight, Cond.instanceMethod yX1_isStraight, Cond.selects RX1 yX1_isStraight yX1_isStraight, Cond.code yX1_isStraight cX1_isStraight 2 (some .boolean), Cond.methodLink RX1 66 yX1_isInCourse, Cond.instanceMethod yX1_isInCourse, Cond.selects RX1 yX1_isInCourse yX1_isInCourse, Cond.code yX1_isInCourse cX1_isInCourse 2 (some .boolean), Cond.methodLink RX1 79 yX1_cellAt, Cond.instanceMethod yX1_cellAt, Cond.selects RX1 yX1_cellAt yX1_cellAt, Cond.code yX1_cellAt cX1_cellAt 2 (some .int), Cond.static yX2_neighbour, Cond.code yX2_neighbour cX2_neighbour 3 (some .int), Cond.methodLink RX1 128 yX1_bulge, Cond.instanceMethod yX1_bulge, Cond.selects RX1 yX1_bulge yX1_bulge, Cond.code yX1_bulge cX1_bulge 7 none]
def wsX2_loses_r5 : List Cond := [Cond.methodLink RX1 102 yX1_takeIntoCourse, Cond.instanceMethod yX1_takeIntoCourse, Cond.selects RX1 yX1_takeIntoCourse yX1_takeIntoCourse, Cond.code yX1_takeIntoCourse cX1_takeIntoCourse 3 none, Cond.methodLink RX1 50 yX1_followCourse, Cond.instanceMethod yX1_followCourse, Cond.selects RX1 yX1_followCourse yX1_followCourse, Cond.code yX1_followCourse cX1_followCourse 4 none, Cond.static yX2_directionTo, Cond.code yX2_directionTo cX2_directionTo 4 (some .int), Cond.methodLink RX2 229 yX2_neighbour, Cond.methodLink RX1 86 yX1_throwCells, Cond.instanceMethod yX1_throwCells, Cond.selects RX1 yX1_throwCells yX1_throwCells, Cond.code yX1_throwCells cX1_throwCells 3 none, Cond.methodLink RX1 125 yX1_flood, Cond.instanceMethod yX1_flood, Cond.selects RX1 yX1_flood yX1_flood, Cond.code yX1_flood cX1_flood 3 none, Cond.methodLink RX1 131 yX1_widestNeck, Cond.instanceMethod yX1_widestNeck, Cond.selects RX1 yX1_widestNeck yX1_widestNeck, Cond.code yX1_widestNeck cX1_widestNeck 5 (some .int), Cond.methodLink RX1 109 yX1_farthestAcross]
def wsX2_loses_r6 : List Cond := [Cond.instanceMethod yX1_farthestAcross, Cond.selects RX1 yX1_farthestAcross yX1_farthestAcross, Cond.code yX1_farthestAcross cX1_farthestAcross 5 (some .int), Cond.methodLink RX1 106 yX1_placeOf, Cond.instanceMethod yX1_placeOf, Cond.selects RX1 yX1_placeOf yX1_placeOf, Cond.code yX1_placeOf cX1_placeOf 2 (some .int), Cond.methodLink RX1 135 yX1_breakThrough, Cond.instanceMethod yX1_breakThrough, Cond.selects RX1 yX1_breakThrough yX1_breakThrough, Cond.code yX1_breakThrough cX1_breakThrough 5 none, Cond.methodLink RX1 112 yX1_isNeck, Cond.instanceMethod yX1_isNeck, Cond.selects RX1 yX1_isNeck yX1_isNeck, Cond.code yX1_isNeck cX1_isNeck 3 (some .boolean)]
def wsX2_loses : List Cond := .code yX2_loses cX2_loses 4 (some .int) :: ((wsX2_loses_r1 ++ (wsX2_loses_r2 ++ (wsX2_loses_r3 ++ (wsX2_loses_r4 ++ (wsX2_loses_r5 ++ wsX2_loses_r6))))) ++ wsX20 ++ wsX00 ++ wsX10 ++ (vx_atS RX2 42 "java/lang/IndexOutOfBoundsException" ["java/lang/RuntimeException", "java/lang/Exception"]).filter goodWord)
def wsX2_landAhead_r1 : List Cond := [Cond.fieldLink RX2 20 "MeanderFarm" "ahead" "LMeanderFarm$River;", Cond.fieldLink RX2 16 "MeanderFarm" "now" "LMeanderFarm$River;", Cond.fieldLink RX2 26 "MeanderFarm" "farms" "LMeanderFarm$Farms;", Cond.instanceMethod yX1_copyFrom, Cond.initialized RX1, Cond.selects RX1 yX1_copyFrom yX1_copyFrom, Cond.code yX1_copyFrom cX1_copyFrom 3 none, Cond.fieldLink RX1 9 "MeanderFarm$River" "hardness" "[I", Cond.methodLink RX1 54 arraycopyName, Cond.native arraycopyName, Cond.static arraycopyName, Cond.initialized "java/lang/System", Cond.fieldLink RX1 15 "MeanderFarm$River" "wear" "[I", Cond.fieldLink RX1 18 "MeanderFarm$River" "stones" "[Z", Cond.fieldLink RX1 22 "MeanderFarm$River" "lakeEnd" "[I", Cond.fieldLink RX1 28 "MeanderFarm$River" "flow" "[I", Cond.fieldLink RX1 31 "MeanderFarm$River" "course" "[I", Cond.fieldLink RX1 34 "MeanderFarm$River" "place" "[I", Cond.fieldLink RX1 37 "MeanderFarm$River" "direction" "[I", Cond.fieldLink RX1 40 "MeanderFarm$River" "thrown" "[I", Cond.fieldLink RX1 43 "MeanderFarm$River" "bank" "[I", Cond.fieldLink RX1 46 "MeanderFarm$River" "length" "I", Cond.fieldLink RX1 60 "MeanderFarm$River" "year" "I", Cond.fieldLink RX1 63 "MeanderFarm$River" "breaks" "I"]
def wsX2_landAhead_r2 : List Cond := [Cond.fieldLink RX1 25 "MeanderFarm$River" "bulgedInto" "[Z", Cond.methodLink RX2 34 yX2_isCell, Cond.static yX2_isCell, Cond.initialized RX2, Cond.code yX2_isCell cX2_isCell 1 (some .boolean), Cond.instanceMethod yX1_letPass, Cond.selects RX1 yX1_letPass yX1_letPass, Cond.code yX1_letPass cX1_letPass 5 (some .int), Cond.methodLink RX1 115 yJ9_floorMod_7cf53, Cond.static yJ9_floorMod_7cf53, Cond.initialized RJ9, Cond.code yJ9_floorMod_7cf53 cJ9_floorMod_7cf53 3 (some .int), Cond.methodLink RX1 118 yX1_wearBanks, Cond.instanceMethod yX1_wearBanks, Cond.selects RX1 yX1_wearBanks yX1_wearBanks, Cond.code yX1_wearBanks cX1_wearBanks 4 none, Cond.methodLink RX1 95 yX1_isOpen, Cond.instanceMethod yX1_isOpen, Cond.selects RX1 yX1_isOpen yX1_isOpen, Cond.code yX1_isOpen cX1_isOpen 2 (some .boolean), Cond.methodLink RX1 121 yX1_bulgeWhereRipest, Cond.instanceMethod yX1_bulgeWhereRipest, Cond.selects RX1 yX1_bulgeWhereRipest yX1_bulgeWhereRipest, Cond.code yX1_bulgeWhereRipest cX1_bulgeWhereRipest 6 (some .boolean)]
def wsX2_landAhead_r3 : List Cond := [Cond.methodLink RX1 98 yX1_canBulge, Cond.instanceMethod yX1_canBulge, Cond.selects RX1 yX1_canBulge yX1_canBulge, Cond.code yX1_canBulge cX1_canBulge 4 (some .boolean), Cond.methodLink RX1 92 yX1_isStraight, Cond.instanceMethod yX1_isStraight, Cond.selects RX1 yX1_isStraight yX1_isStraight, Cond.code yX1_isStraight cX1_isStraight 2 (some .boolean), Cond.methodLink RX1 66 yX1_isInCourse, Cond.instanceMethod yX1_isInCourse, Cond.selects RX1 yX1_isInCourse yX1_isInCourse, Cond.code yX1_isInCourse cX1_isInCourse 2 (some .boolean), Cond.methodLink RX1 79 yX1_cellAt, Cond.instanceMethod yX1_cellAt, Cond.selects RX1 yX1_cellAt yX1_cellAt, Cond.code yX1_cellAt cX1_cellAt 2 (some .int), Cond.static yX2_neighbour, Cond.code yX2_neighbour cX2_neighbour 3 (some .int), Cond.methodLink RX1 128 yX1_bulge, Cond.instanceMethod yX1_bulge, Cond.selects RX1 yX1_bulge yX1_bulge, Cond.code yX1_bulge cX1_bulge 7 none, Cond.methodLink RX1 102 yX1_takeIntoCourse, Cond.instanceMethod yX1_takeIntoCourse]
def wsX2_landAhead_r4 : List Cond := [Cond.selects RX1 yX1_takeIntoCourse yX1_takeIntoCourse, Cond.code yX1_takeIntoCourse cX1_takeIntoCourse 3 none, Cond.methodLink RX1 50 yX1_followCourse, Cond.instanceMethod yX1_followCourse, Cond.selects RX1 yX1_followCourse yX1_followCourse, Cond.code yX1_followCourse cX1_followCourse 4 none, Cond.methodLink RX1 73 Lib.Math.max.name, Cond.static Lib.Math.max.name, Cond.initialized "java/lang/Math", Cond.code Lib.Math.max.name Lib.Math.max.code 2 (some .int), Cond.static yX2_directionTo, Cond.code yX2_directionTo cX2_directionTo 4 (some .int), Cond.methodLink RX2 229 yX2_neighbour, Cond.methodLink RX1 86 yX1_throwCells, Cond.instanceMethod yX1_throwCells, Cond.selects RX1 yX1_throwCells yX1_throwCells, Cond.code yX1_throwCells cX1_throwCells 3 none, Cond.methodLink RX1 125 yX1_flood, Cond.instanceMethod yX1_flood, Cond.selects RX1 yX1_flood yX1_flood, Cond.code yX1_flood cX1_flood 3 none, Cond.methodLink RX1 131 yX1_widestNeck, Cond.instanceMethod yX1_widestNeck, Cond.selects RX1 yX1_widestNeck yX1_widestNeck]
def wsX2_landAhead_r5 : List Cond := [Cond.code yX1_widestNeck cX1_widestNeck 5 (some .int), Cond.methodLink RX1 109 yX1_farthestAcross, Cond.instanceMethod yX1_farthestAcross, Cond.selects RX1 yX1_farthestAcross yX1_farthestAcross, Cond.code yX1_farthestAcross cX1_farthestAcross 5 (some .int), Cond.methodLink RX1 106 yX1_placeOf, Cond.instanceMethod yX1_placeOf, Cond.selects RX1 yX1_placeOf yX1_placeOf, Cond.code yX1_placeOf cX1_placeOf 2 (some .int), Cond.methodLink RX1 135 yX1_breakThrough, Cond.instanceMethod yX1_breakThrough, Cond.selects RX1 yX1_breakThrough yX1_breakThrough, Cond.code yX1_breakThrough cX1_breakThrough 5 none, Cond.methodLink RX1 112 yX1_isNeck, Cond.instanceMethod yX1_isNeck, Cond.selects RX1 yX1_isNeck yX1_isNeck, Cond.code yX1_isNeck cX1_isNeck 3 (some .boolean), Cond.instanceMethod yX0_cellsOf, Cond.initialized RX0, Cond.selects RX0 yX0_cellsOf yX0_cellsOf, Cond.code yX0_cellsOf cX0_cellsOf 7 (some .int), Cond.fieldLink RX0 15 "MeanderFarm$Farms" "row" "[I", Cond.fieldLink RX0 21 "MeanderFarm$Farms" "deep" "[I", Cond.fieldLink RX0 9 "MeanderFarm$Farms" "column" "[I"]
def wsX2_landAhead_r6 : List Cond := [Cond.fieldLink RX0 18 "MeanderFarm$Farms" "wide" "[I", Cond.methodLink RX0 28 yX0_isFarm, Cond.instanceMethod yX0_isFarm, Cond.selects RX0 yX0_isFarm yX0_isFarm, Cond.code yX0_isFarm cX0_isFarm 2 (some .boolean), Cond.fieldLink RX0 24 "MeanderFarm$Farms" "size" "I", Cond.static yX2_cellNumber, Cond.code yX2_cellNumber cX2_cellNumber 2 (some .int), Cond.methodLink RX0 36 yX0_isCounted, Cond.static yX0_isCounted, Cond.code yX0_isCounted cX0_isCounted 5 (some .boolean), Cond.instanceMethod yX1_lakeYearsLeft, Cond.selects RX1 yX1_lakeYearsLeft yX1_lakeYearsLeft, Cond.code yX1_lakeYearsLeft cX1_lakeYearsLeft 2 (some .int)]
def wsX2_landAhead : List Cond := .code yX2_landAhead cX2_landAhead 4 (some .int) :: ((wsX2_landAhead_r1 ++ (wsX2_landAhead_r2 ++ (wsX2_landAhead_r3 ++ (wsX2_landAhead_r4 ++ (wsX2_landAhead_r5 ++ wsX2_landAhead_r6))))) ++ wsX20 ++ wsX10 ++ wsX00)
def wsX2_advise_r1 : List Cond := [Cond.classLink RX2 38 "java/lang/IndexOutOfBoundsException", Cond.initialized "java/lang/IndexOutOfBoundsException", Cond.classLink RX2 48 "java/lang/IllegalArgumentException", Cond.initialized "java/lang/IllegalArgumentException", Cond.fieldLink RX2 26 "MeanderFarm" "farms" "LMeanderFarm$Farms;", Cond.fieldLink RX2 20 "MeanderFarm" "ahead" "LMeanderFarm$River;", Cond.fieldLink RX2 9 "MeanderFarm" "endangered" "[Z", Cond.methodLink RX2 201 arraycopyName, Cond.native arraycopyName, Cond.static arraycopyName, Cond.initialized "java/lang/System", Cond.fieldLink RX2 16 "MeanderFarm" "now" "LMeanderFarm$River;", Cond.instanceMethod yX0_isFarm, Cond.initialized RX0, Cond.selects RX0 yX0_isFarm yX0_isFarm, Cond.code yX0_isFarm cX0_isFarm 2 (some .boolean), Cond.fieldLink RX0 24 "MeanderFarm$Farms" "size" "I", Cond.methodLink RX2 194 yX2_landAhead, Cond.instanceMethod yX2_landAhead, Cond.selects RX2 yX2_landAhead yX2_landAhead, Cond.initialized RX2, Cond.code yX2_landAhead cX2_landAhead 4 (some .int), Cond.instanceMethod yX1_copyFrom, Cond.initialized RX1]
def wsX2_advise_r2 : List Cond := [Cond.selects RX1 yX1_copyFrom yX1_copyFrom, Cond.code yX1_copyFrom cX1_copyFrom 3 none, Cond.fieldLink RX1 9 "MeanderFarm$River" "hardness" "[I", Cond.methodLink RX1 54 arraycopyName, Cond.fieldLink RX1 15 "MeanderFarm$River" "wear" "[I", Cond.fieldLink RX1 18 "MeanderFarm$River" "stones" "[Z", Cond.fieldLink RX1 22 "MeanderFarm$River" "lakeEnd" "[I", Cond.fieldLink RX1 28 "MeanderFarm$River" "flow" "[I", Cond.fieldLink RX1 31 "MeanderFarm$River" "course" "[I", Cond.fieldLink RX1 34 "MeanderFarm$River" "place" "[I", Cond.fieldLink RX1 37 "MeanderFarm$River" "direction" "[I", Cond.fieldLink RX1 40 "MeanderFarm$River" "thrown" "[I", Cond.fieldLink RX1 43 "MeanderFarm$River" "bank" "[I", Cond.fieldLink RX1 46 "MeanderFarm$River" "length" "I", Cond.fieldLink RX1 60 "MeanderFarm$River" "year" "I", Cond.fieldLink RX1 63 "MeanderFarm$River" "breaks" "I", Cond.fieldLink RX1 25 "MeanderFarm$River" "bulgedInto" "[Z", Cond.methodLink RX2 34 yX2_isCell, Cond.static yX2_isCell, Cond.code yX2_isCell cX2_isCell 1 (some .boolean), Cond.instanceMethod yX1_letPass, Cond.selects RX1 yX1_letPass yX1_letPass, Cond.code yX1_letPass cX1_letPass 5 (some .int), Cond.methodLink RX1 115 yJ9_floorMod_7cf53]
def wsX2_advise_r3 : List Cond := [Cond.static yJ9_floorMod_7cf53, Cond.initialized RJ9, Cond.code yJ9_floorMod_7cf53 cJ9_floorMod_7cf53 3 (some .int), Cond.methodLink RX1 118 yX1_wearBanks, Cond.instanceMethod yX1_wearBanks, Cond.selects RX1 yX1_wearBanks yX1_wearBanks, Cond.code yX1_wearBanks cX1_wearBanks 4 none, Cond.methodLink RX1 95 yX1_isOpen, Cond.instanceMethod yX1_isOpen, Cond.selects RX1 yX1_isOpen yX1_isOpen, Cond.code yX1_isOpen cX1_isOpen 2 (some .boolean), Cond.methodLink RX1 121 yX1_bulgeWhereRipest, Cond.instanceMethod yX1_bulgeWhereRipest, Cond.selects RX1 yX1_bulgeWhereRipest yX1_bulgeWhereRipest, Cond.code yX1_bulgeWhereRipest cX1_bulgeWhereRipest 6 (some .boolean), Cond.methodLink RX1 98 yX1_canBulge, Cond.instanceMethod yX1_canBulge, Cond.selects RX1 yX1_canBulge yX1_canBulge, Cond.code yX1_canBulge cX1_canBulge 4 (some .boolean), Cond.methodLink RX1 92 yX1_isStraight, Cond.instanceMethod yX1_isStraight, Cond.selects RX1 yX1_isStraight yX1_isStraight, Cond.code yX1_isStraight cX1_isStraight 2 (some .boolean), Cond.methodLink RX1 66 yX1_isInCourse]
def wsX2_advise_r4 : List Cond := [Cond.instanceMethod yX1_isInCourse, Cond.selects RX1 yX1_isInCourse yX1_isInCourse, Cond.code yX1_isInCourse cX1_isInCourse 2 (some .boolean), Cond.methodLink RX1 79 yX1_cellAt, Cond.instanceMethod yX1_cellAt, Cond.selects RX1 yX1_cellAt yX1_cellAt, Cond.code yX1_cellAt cX1_cellAt 2 (some .int), Cond.static yX2_neighbour, Cond.code yX2_neighbour cX2_neighbour 3 (some .int), Cond.methodLink RX1 128 yX1_bulge, Cond.instanceMethod yX1_bulge, Cond.selects RX1 yX1_bulge yX1_bulge, Cond.code yX1_bulge cX1_bulge 7 none, Cond.methodLink RX1 102 yX1_takeIntoCourse, Cond.instanceMethod yX1_takeIntoCourse, Cond.selects RX1 yX1_takeIntoCourse yX1_takeIntoCourse, Cond.code yX1_takeIntoCourse cX1_takeIntoCourse 3 none, Cond.methodLink RX1 50 yX1_followCourse, Cond.instanceMethod yX1_followCourse, Cond.selects RX1 yX1_followCourse yX1_followCourse, Cond.code yX1_followCourse cX1_followCourse 4 none, Cond.methodLink RX1 73 Lib.Math.max.name, Cond.static Lib.Math.max.name, Cond.initialized "java/lang/Math"]
def wsX2_advise_r5 : List Cond := [Cond.code Lib.Math.max.name Lib.Math.max.code 2 (some .int), Cond.static yX2_directionTo, Cond.code yX2_directionTo cX2_directionTo 4 (some .int), Cond.methodLink RX2 229 yX2_neighbour, Cond.methodLink RX1 86 yX1_throwCells, Cond.instanceMethod yX1_throwCells, Cond.selects RX1 yX1_throwCells yX1_throwCells, Cond.code yX1_throwCells cX1_throwCells 3 none, Cond.methodLink RX1 125 yX1_flood, Cond.instanceMethod yX1_flood, Cond.selects RX1 yX1_flood yX1_flood, Cond.code yX1_flood cX1_flood 3 none, Cond.methodLink RX1 131 yX1_widestNeck, Cond.instanceMethod yX1_widestNeck, Cond.selects RX1 yX1_widestNeck yX1_widestNeck, Cond.code yX1_widestNeck cX1_widestNeck 5 (some .int), Cond.methodLink RX1 109 yX1_farthestAcross, Cond.instanceMethod yX1_farthestAcross, Cond.selects RX1 yX1_farthestAcross yX1_farthestAcross, Cond.code yX1_farthestAcross cX1_farthestAcross 5 (some .int), Cond.methodLink RX1 106 yX1_placeOf, Cond.instanceMethod yX1_placeOf, Cond.selects RX1 yX1_placeOf yX1_placeOf, Cond.code yX1_placeOf cX1_placeOf 2 (some .int)]
def wsX2_advise_r6 : List Cond := [Cond.methodLink RX1 135 yX1_breakThrough, Cond.instanceMethod yX1_breakThrough, Cond.selects RX1 yX1_breakThrough yX1_breakThrough, Cond.code yX1_breakThrough cX1_breakThrough 5 none, Cond.methodLink RX1 112 yX1_isNeck, Cond.instanceMethod yX1_isNeck, Cond.selects RX1 yX1_isNeck yX1_isNeck, Cond.code yX1_isNeck cX1_isNeck 3 (some .boolean), Cond.instanceMethod yX0_cellsOf, Cond.selects RX0 yX0_cellsOf yX0_cellsOf, Cond.code yX0_cellsOf cX0_cellsOf 7 (some .int), Cond.fieldLink RX0 15 "MeanderFarm$Farms" "row" "[I", Cond.fieldLink RX0 21 "MeanderFarm$Farms" "deep" "[I", Cond.fieldLink RX0 9 "MeanderFarm$Farms" "column" "[I", Cond.fieldLink RX0 18 "MeanderFarm$Farms" "wide" "[I", Cond.methodLink RX0 28 yX0_isFarm, Cond.static yX2_cellNumber, Cond.code yX2_cellNumber cX2_cellNumber 2 (some .int), Cond.methodLink RX0 36 yX0_isCounted, Cond.static yX0_isCounted, Cond.code yX0_isCounted cX0_isCounted 5 (some .boolean), Cond.instanceMethod yX1_lakeYearsLeft, Cond.selects RX1 yX1_lakeYearsLeft yX1_lakeYearsLeft, Cond.code yX1_lakeYearsLeft cX1_lakeYearsLeft 2 (some .int)]
def wsX2_advise : List Cond := .code yX2_advise cX2_advise 7 (some .int) :: ((wsX2_advise_r1 ++ (wsX2_advise_r2 ++ (wsX2_advise_r3 ++ (wsX2_advise_r4 ++ (wsX2_advise_r5 ++ wsX2_advise_r6))))) ++ wsX20 ++ wsX10 ++ wsX00 ++ (vx_atS RX2 42 "java/lang/IndexOutOfBoundsException" ["java/lang/RuntimeException", "java/lang/Exception"]).filter goodWord ++ (vx_atS RX2 52 "java/lang/IllegalArgumentException" ["java/lang/RuntimeException", "java/lang/Exception"]).filter goodWord)
def wsX2_winding : List Cond := .code yX2_winding cX2_winding 1 (some .double) :: ([.fieldLink RX2 16 "MeanderFarm" "now" "LMeanderFarm$River;", .constantDouble RX2 207 (4627448617123184640)] ++ wsX20 ++ wsX10)
def wsX2_digest_r1 : List Cond := [Cond.constantLong RX2 209 (599), Cond.constantLong RX2 211 (31), Cond.fieldLink RX2 16 "MeanderFarm" "now" "LMeanderFarm$River;", Cond.fieldLink RX2 26 "MeanderFarm" "farms" "LMeanderFarm$Farms;", Cond.methodLink RX2 184 yX2_total, Cond.instanceMethod yX2_total, Cond.selects RX2 yX2_total yX2_total, Cond.initialized RX2, Cond.code yX2_total cX2_total 2 (some .int), Cond.instanceMethod yX1_lakes, Cond.initialized RX1, Cond.selects RX1 yX1_lakes yX1_lakes, Cond.code yX1_lakes cX1_lakes 3 (some .int), Cond.fieldLink RX1 22 "MeanderFarm$River" "lakeEnd" "[I", Cond.fieldLink RX1 60 "MeanderFarm$River" "year" "I", Cond.instanceMethod yX1_cellsWithStones, Cond.selects RX1 yX1_cellsWithStones yX1_cellsWithStones, Cond.code yX1_cellsWithStones cX1_cellsWithStones 3 (some .int), Cond.fieldLink RX1 18 "MeanderFarm$River" "stones" "[Z", Cond.instanceMethod yX1_bends, Cond.selects RX1 yX1_bends yX1_bends, Cond.code yX1_bends cX1_bends 3 (some .int), Cond.fieldLink RX1 46 "MeanderFarm$River" "length" "I", Cond.methodLink RX1 92 yX1_isStraight]
def wsX2_digest_r2 : List Cond := [Cond.instanceMethod yX1_isStraight, Cond.selects RX1 yX1_isStraight yX1_isStraight, Cond.code yX1_isStraight cX1_isStraight 2 (some .boolean), Cond.fieldLink RX1 37 "MeanderFarm$River" "direction" "[I", Cond.methodLink RX1 66 yX1_isInCourse, Cond.instanceMethod yX1_isInCourse, Cond.selects RX1 yX1_isInCourse yX1_isInCourse, Cond.code yX1_isInCourse cX1_isInCourse 2 (some .boolean), Cond.instanceMethod yX1_allWear, Cond.selects RX1 yX1_allWear yX1_allWear, Cond.code yX1_allWear cX1_allWear 3 (some .int), Cond.fieldLink RX1 15 "MeanderFarm$River" "wear" "[I", Cond.instanceMethod yX1_digestFrom, Cond.selects RX1 yX1_digestFrom yX1_digestFrom, Cond.code yX1_digestFrom cX1_digestFrom 6 (some .long), Cond.constantLong RX1 138 (31), Cond.fieldLink RX1 28 "MeanderFarm$River" "flow" "[I", Cond.fieldLink RX1 31 "MeanderFarm$River" "course" "[I", Cond.fieldLink RX1 9 "MeanderFarm$River" "hardness" "[I", Cond.methodLink RX1 140 yX1_lakeYearsLeft, Cond.instanceMethod yX1_lakeYearsLeft, Cond.selects RX1 yX1_lakeYearsLeft yX1_lakeYearsLeft, Cond.code yX1_lakeYearsLeft cX1_lakeYearsLeft 2 (some .int), Cond.methodLink RX1 73 Lib.Math.max.name]
def wsX2_digest_r3 : List Cond := [Cond.static Lib.Math.max.name, Cond.initialized "java/lang/Math", Cond.code Lib.Math.max.name Lib.Math.max.code 2 (some .int), Cond.static yX2_isCell, Cond.code yX2_isCell cX2_isCell 1 (some .boolean), Cond.instanceMethod yX0_cellsOf, Cond.initialized RX0, Cond.selects RX0 yX0_cellsOf yX0_cellsOf, Cond.code yX0_cellsOf cX0_cellsOf 7 (some .int), Cond.fieldLink RX0 15 "MeanderFarm$Farms" "row" "[I", Cond.fieldLink RX0 21 "MeanderFarm$Farms" "deep" "[I", Cond.fieldLink RX0 9 "MeanderFarm$Farms" "column" "[I", Cond.fieldLink RX0 18 "MeanderFarm$Farms" "wide" "[I", Cond.methodLink RX0 28 yX0_isFarm, Cond.instanceMethod yX0_isFarm, Cond.selects RX0 yX0_isFarm yX0_isFarm, Cond.code yX0_isFarm cX0_isFarm 2 (some .boolean), Cond.fieldLink RX0 24 "MeanderFarm$Farms" "size" "I", Cond.static yX2_cellNumber, Cond.code yX2_cellNumber cX2_cellNumber 2 (some .int), Cond.methodLink RX0 36 yX0_isCounted, Cond.static yX0_isCounted, Cond.code yX0_isCounted cX0_isCounted 5 (some .boolean)]
def wsX2_digest : List Cond := .code yX2_digest cX2_digest 5 (some .long) :: ((wsX2_digest_r1 ++ (wsX2_digest_r2 ++ wsX2_digest_r3)) ++ wsX20 ++ wsX00 ++ wsX10)
def wsX3_length : List Cond := .code yX3_length cX3_length 1 (some .int) :: ([.fieldLink RX3 35 "MeanderFarmModel" "numbers" "[I"] ++ wsX30)
def wsX3_place : List Cond := .code yX3_place cX3_place 2 none :: ([.fieldLink RX3 26 "MeanderFarmModel" "where" "[I", .fieldLink RX3 23 "MeanderFarmModel" "course" "[I", .methodLink RX3 49 yX3_length, .instanceMethod yX3_length, .selects RX3 yX3_length yX3_length, .initialized RX3, .code yX3_length cX3_length 1 (some .int), .fieldLink RX3 35 "MeanderFarmModel" "numbers" "[I"] ++ wsX30)
def wsX3_init : List Cond := .code yX3_init cX3_init 2 none :: ([.methodLink RX3 1 objectInit, .instanceMethod objectInit, .code objectInit ⟨#[0xb1]⟩ 1 none, .arrayClass .int, .fieldLink RX3 9 "MeanderFarmModel" "hardness" "[I", .arrayClass .boolean, .fieldLink RX3 13 "MeanderFarmModel" "stones" "[Z", .fieldLink RX3 17 "MeanderFarmModel" "flow" "[I", .fieldLink RX3 20 "MeanderFarmModel" "farmTable" "[I", .fieldLink RX3 23 "MeanderFarmModel" "course" "[I", .fieldLink RX3 26 "MeanderFarmModel" "where" "[I", .fieldLink RX3 29 "MeanderFarmModel" "wear" "[I", .fieldLink RX3 32 "MeanderFarmModel" "lake" "[I", .fieldLink RX3 35 "MeanderFarmModel" "numbers" "[I", .methodLink RX3 38 yX3_place, .instanceMethod yX3_place, .selects RX3 yX3_place yX3_place, .initialized RX3, .code yX3_place cX3_place 2 none, .methodLink RX3 49 yX3_length, .instanceMethod yX3_length, .selects RX3 yX3_length yX3_length, .code yX3_length cX3_length 1 (some .int)] ++ wsX30)
def wsX3_thrown : List Cond := .code yX3_thrown cX3_thrown 1 (some .int) :: ([.fieldLink RX3 41 "MeanderFarmModel" "thrown" "I"] ++ wsX30)
def wsX3_fail : List Cond := .code yX3_fail cX3_fail 2 (some .int) :: ([.fieldLink RX3 41 "MeanderFarmModel" "thrown" "I"] ++ wsX30)
def wsX3_isIn : List Cond := .code yX3_isIn cX3_isIn 3 (some .boolean) :: ([])
def wsX3_isCell : List Cond := .code yX3_isCell cX3_isCell 2 (some .boolean) :: ([.methodLink RX3 45 yX3_isIn, .static yX3_isIn, .initialized RX3, .code yX3_isIn cX3_isIn 3 (some .boolean)])
def wsX3_isCourse : List Cond := .code yX3_isCourse cX3_isCourse 2 (some .boolean) :: ([.methodLink RX3 49 yX3_length, .instanceMethod yX3_length, .selects RX3 yX3_length yX3_length, .initialized RX3, .code yX3_length cX3_length 1 (some .int), .fieldLink RX3 35 "MeanderFarmModel" "numbers" "[I", .methodLink RX3 45 yX3_isIn, .static yX3_isIn, .code yX3_isIn cX3_isIn 3 (some .boolean)] ++ wsX30)
def wsX3_beside : List Cond := .code yX3_beside cX3_beside 4 (some .int) :: ([.methodLink RX3 53 yX3_isCell, .static yX3_isCell, .initialized RX3, .code yX3_isCell cX3_isCell 2 (some .boolean), .methodLink RX3 45 yX3_isIn, .static yX3_isIn, .code yX3_isIn cX3_isIn 3 (some .boolean)])
def wsX3_setHardness : List Cond := .code yX3_setHardness cX3_setHardness 5 (some .int) :: ([.fieldLink RX3 41 "MeanderFarmModel" "thrown" "I", .fieldLink RX3 9 "MeanderFarmModel" "hardness" "[I", .methodLink RX3 53 yX3_isCell, .static yX3_isCell, .initialized RX3, .code yX3_isCell cX3_isCell 2 (some .boolean), .methodLink RX3 45 yX3_isIn, .static yX3_isIn, .code yX3_isIn cX3_isIn 3 (some .boolean), .methodLink RX3 57 yX3_fail, .instanceMethod yX3_fail, .selects RX3 yX3_fail yX3_fail, .code yX3_fail cX3_fail 2 (some .int)] ++ wsX30)
def wsX3_allStones : List Cond := .code yX3_allStones cX3_allStones 6 (some .int) :: ([.fieldLink RX3 13 "MeanderFarmModel" "stones" "[Z"] ++ wsX30)
def wsX3_setStones : List Cond := .code yX3_setStones cX3_setStones 4 (some .int) :: ([.fieldLink RX3 41 "MeanderFarmModel" "thrown" "I", .fieldLink RX3 13 "MeanderFarmModel" "stones" "[Z", .methodLink RX3 53 yX3_isCell, .static yX3_isCell, .initialized RX3, .code yX3_isCell cX3_isCell 2 (some .boolean), .methodLink RX3 45 yX3_isIn, .static yX3_isIn, .code yX3_isIn cX3_isIn 3 (some .boolean), .methodLink RX3 57 yX3_fail, .instanceMethod yX3_fail, .selects RX3 yX3_fail yX3_fail, .code yX3_fail cX3_fail 2 (some .int), .methodLink RX3 61 yX3_allStones, .instanceMethod yX3_allStones, .selects RX3 yX3_allStones yX3_allStones, .code yX3_allStones cX3_allStones 6 (some .int)] ++ wsX30)
def wsX3_setFlow : List Cond := .code yX3_setFlow cX3_setFlow 4 (some .int) :: ([.fieldLink RX3 41 "MeanderFarmModel" "thrown" "I", .fieldLink RX3 17 "MeanderFarmModel" "flow" "[I", .methodLink RX3 45 yX3_isIn, .static yX3_isIn, .initialized RX3, .code yX3_isIn cX3_isIn 3 (some .boolean), .methodLink RX3 57 yX3_fail, .instanceMethod yX3_fail, .selects RX3 yX3_fail yX3_fail, .code yX3_fail cX3_fail 2 (some .int)] ++ wsX30)
def wsX3_isOf : List Cond := .code yX3_isOf cX3_isOf 4 (some .boolean) :: ([.fieldLink RX3 20 "MeanderFarmModel" "farmTable" "[I", .methodLink RX3 45 yX3_isIn, .static yX3_isIn, .initialized RX3, .code yX3_isIn cX3_isIn 3 (some .boolean)] ++ wsX30)
def wsX3_cell : List Cond := .code yX3_cell cX3_cell 7 (some .int) :: ([.fieldLink RX3 41 "MeanderFarmModel" "thrown" "I", .fieldLink RX3 64 "MeanderFarmModel" "farms" "I", .arrayClass .int, .fieldLink RX3 9 "MeanderFarmModel" "hardness" "[I", .fieldLink RX3 29 "MeanderFarmModel" "wear" "[I", .fieldLink RX3 13 "MeanderFarmModel" "stones" "[Z", .fieldLink RX3 26 "MeanderFarmModel" "where" "[I", .fieldLink RX3 32 "MeanderFarmModel" "lake" "[I", .methodLink RX3 53 yX3_isCell, .static yX3_isCell, .initialized RX3, .code yX3_isCell cX3_isCell 2 (some .boolean), .methodLink RX3 45 yX3_isIn, .static yX3_isIn, .code yX3_isIn cX3_isIn 3 (some .boolean), .methodLink RX3 57 yX3_fail, .instanceMethod yX3_fail, .selects RX3 yX3_fail yX3_fail, .code yX3_fail cX3_fail 2 (some .int), .methodLink RX3 67 yX3_isOf, .instanceMethod yX3_isOf, .selects RX3 yX3_isOf yX3_isOf, .code yX3_isOf cX3_isOf 4 (some .boolean), .fieldLink RX3 20 "MeanderFarmModel" "farmTable" "[I"] ++ wsX30)
def wsX3_direction : List Cond := .code yX3_direction cX3_direction 3 (some .int) :: ([.fieldLink RX3 23 "MeanderFarmModel" "course" "[I"] ++ wsX30)
def wsX3_isStraight : List Cond := .code yX3_isStraight cX3_isStraight 2 (some .boolean) :: ([.methodLink RX3 49 yX3_length, .instanceMethod yX3_length, .selects RX3 yX3_length yX3_length, .initialized RX3, .code yX3_length cX3_length 1 (some .int), .fieldLink RX3 35 "MeanderFarmModel" "numbers" "[I", .methodLink RX3 70 yX3_direction, .instanceMethod yX3_direction, .selects RX3 yX3_direction yX3_direction, .code yX3_direction cX3_direction 3 (some .int), .fieldLink RX3 23 "MeanderFarmModel" "course" "[I"] ++ wsX30)
def wsX3_side : List Cond := .code yX3_side cX3_side 3 (some .int) :: ([.methodLink RX3 73 yX3_isStraight, .instanceMethod yX3_isStraight, .selects RX3 yX3_isStraight yX3_isStraight, .initialized RX3, .code yX3_isStraight cX3_isStraight 2 (some .boolean), .methodLink RX3 49 yX3_length, .instanceMethod yX3_length, .selects RX3 yX3_length yX3_length, .code yX3_length cX3_length 1 (some .int), .fieldLink RX3 35 "MeanderFarmModel" "numbers" "[I", .methodLink RX3 70 yX3_direction, .instanceMethod yX3_direction, .selects RX3 yX3_direction yX3_direction, .code yX3_direction cX3_direction 3 (some .int), .fieldLink RX3 23 "MeanderFarmModel" "course" "[I"] ++ wsX30)
def wsX3_bank_r1 : List Cond := [Cond.fieldLink RX3 23 "MeanderFarmModel" "course" "[I", Cond.methodLink RX3 77 yX3_side, Cond.instanceMethod yX3_side, Cond.selects RX3 yX3_side yX3_side, Cond.initialized RX3, Cond.code yX3_side cX3_side 3 (some .int), Cond.methodLink RX3 73 yX3_isStraight, Cond.instanceMethod yX3_isStraight, Cond.selects RX3 yX3_isStraight yX3_isStraight, Cond.code yX3_isStraight cX3_isStraight 2 (some .boolean), Cond.methodLink RX3 49 yX3_length, Cond.instanceMethod yX3_length, Cond.selects RX3 yX3_length yX3_length, Cond.code yX3_length cX3_length 1 (some .int), Cond.fieldLink RX3 35 "MeanderFarmModel" "numbers" "[I", Cond.methodLink RX3 70 yX3_direction, Cond.instanceMethod yX3_direction, Cond.selects RX3 yX3_direction yX3_direction, Cond.code yX3_direction cX3_direction 3 (some .int), Cond.methodLink RX3 80 yX3_beside, Cond.static yX3_beside, Cond.code yX3_beside cX3_beside 4 (some .int), Cond.methodLink RX3 53 yX3_isCell, Cond.static yX3_isCell]
def wsX3_bank_r2 : List Cond := [Cond.code yX3_isCell cX3_isCell 2 (some .boolean), Cond.methodLink RX3 45 yX3_isIn, Cond.static yX3_isIn, Cond.code yX3_isIn cX3_isIn 3 (some .boolean)]
def wsX3_bank : List Cond := .code yX3_bank cX3_bank 2 (some .int) :: ((wsX3_bank_r1 ++ wsX3_bank_r2) ++ wsX30)
def wsX3_course_r1 : List Cond := [Cond.fieldLink RX3 41 "MeanderFarmModel" "thrown" "I", Cond.fieldLink RX3 23 "MeanderFarmModel" "course" "[I", Cond.methodLink RX3 84 yX3_isCourse, Cond.instanceMethod yX3_isCourse, Cond.selects RX3 yX3_isCourse yX3_isCourse, Cond.initialized RX3, Cond.code yX3_isCourse cX3_isCourse 2 (some .boolean), Cond.methodLink RX3 49 yX3_length, Cond.instanceMethod yX3_length, Cond.selects RX3 yX3_length yX3_length, Cond.code yX3_length cX3_length 1 (some .int), Cond.fieldLink RX3 35 "MeanderFarmModel" "numbers" "[I", Cond.methodLink RX3 45 yX3_isIn, Cond.static yX3_isIn, Cond.code yX3_isIn cX3_isIn 3 (some .boolean), Cond.methodLink RX3 57 yX3_fail, Cond.instanceMethod yX3_fail, Cond.selects RX3 yX3_fail yX3_fail, Cond.code yX3_fail cX3_fail 2 (some .int), Cond.methodLink RX3 70 yX3_direction, Cond.instanceMethod yX3_direction, Cond.selects RX3 yX3_direction yX3_direction, Cond.code yX3_direction cX3_direction 3 (some .int), Cond.methodLink RX3 73 yX3_isStraight]
def wsX3_course_r2 : List Cond := [Cond.instanceMethod yX3_isStraight, Cond.selects RX3 yX3_isStraight yX3_isStraight, Cond.code yX3_isStraight cX3_isStraight 2 (some .boolean), Cond.methodLink RX3 77 yX3_side, Cond.instanceMethod yX3_side, Cond.selects RX3 yX3_side yX3_side, Cond.code yX3_side cX3_side 3 (some .int), Cond.methodLink RX3 87 yX3_bank, Cond.instanceMethod yX3_bank, Cond.selects RX3 yX3_bank yX3_bank, Cond.code yX3_bank cX3_bank 2 (some .int), Cond.methodLink RX3 80 yX3_beside, Cond.static yX3_beside, Cond.code yX3_beside cX3_beside 4 (some .int), Cond.methodLink RX3 53 yX3_isCell, Cond.static yX3_isCell, Cond.code yX3_isCell cX3_isCell 2 (some .boolean)]
def wsX3_course : List Cond := .code yX3_course cX3_course 3 (some .int) :: ((wsX3_course_r1 ++ wsX3_course_r2) ++ wsX30)
def wsX3_canBulge_r1 : List Cond := [Cond.fieldLink RX3 23 "MeanderFarmModel" "course" "[I", Cond.fieldLink RX3 26 "MeanderFarmModel" "where" "[I", Cond.fieldLink RX3 13 "MeanderFarmModel" "stones" "[Z", Cond.methodLink RX3 73 yX3_isStraight, Cond.instanceMethod yX3_isStraight, Cond.selects RX3 yX3_isStraight yX3_isStraight, Cond.initialized RX3, Cond.code yX3_isStraight cX3_isStraight 2 (some .boolean), Cond.methodLink RX3 49 yX3_length, Cond.instanceMethod yX3_length, Cond.selects RX3 yX3_length yX3_length, Cond.code yX3_length cX3_length 1 (some .int), Cond.fieldLink RX3 35 "MeanderFarmModel" "numbers" "[I", Cond.methodLink RX3 70 yX3_direction, Cond.instanceMethod yX3_direction, Cond.selects RX3 yX3_direction yX3_direction, Cond.code yX3_direction cX3_direction 3 (some .int), Cond.methodLink RX3 80 yX3_beside, Cond.static yX3_beside, Cond.code yX3_beside cX3_beside 4 (some .int), Cond.methodLink RX3 53 yX3_isCell, Cond.static yX3_isCell, Cond.code yX3_isCell cX3_isCell 2 (some .boolean), Cond.methodLink RX3 45 yX3_isIn]
def wsX3_canBulge_r2 : List Cond := [Cond.static yX3_isIn, Cond.code yX3_isIn cX3_isIn 3 (some .boolean)]
def wsX3_canBulge : List Cond := .code yX3_canBulge cX3_canBulge 5 (some .boolean) :: ((wsX3_canBulge_r1 ++ wsX3_canBulge_r2) ++ wsX30)
def wsX3_bulge : List Cond := .code yX3_bulge cX3_bulge 7 none :: ([.fieldLink RX3 23 "MeanderFarmModel" "course" "[I", .fieldLink RX3 29 "MeanderFarmModel" "wear" "[I", .fieldLink RX3 32 "MeanderFarmModel" "lake" "[I", .fieldLink RX3 35 "MeanderFarmModel" "numbers" "[I", .methodLink RX3 80 yX3_beside, .static yX3_beside, .initialized RX3, .code yX3_beside cX3_beside 4 (some .int), .methodLink RX3 53 yX3_isCell, .static yX3_isCell, .code yX3_isCell cX3_isCell 2 (some .boolean), .methodLink RX3 45 yX3_isIn, .static yX3_isIn, .code yX3_isIn cX3_isIn 3 (some .boolean), .methodLink RX3 49 yX3_length, .instanceMethod yX3_length, .selects RX3 yX3_length yX3_length, .code yX3_length cX3_length 1 (some .int), .methodLink RX3 38 yX3_place, .instanceMethod yX3_place, .selects RX3 yX3_place yX3_place, .code yX3_place cX3_place 2 none, .fieldLink RX3 26 "MeanderFarmModel" "where" "[I"] ++ wsX30)
def wsX3_slip_r1 : List Cond := [Cond.fieldLink RX3 41 "MeanderFarmModel" "thrown" "I", Cond.methodLink RX3 84 yX3_isCourse, Cond.instanceMethod yX3_isCourse, Cond.selects RX3 yX3_isCourse yX3_isCourse, Cond.initialized RX3, Cond.code yX3_isCourse cX3_isCourse 2 (some .boolean), Cond.methodLink RX3 49 yX3_length, Cond.instanceMethod yX3_length, Cond.selects RX3 yX3_length yX3_length, Cond.code yX3_length cX3_length 1 (some .int), Cond.fieldLink RX3 35 "MeanderFarmModel" "numbers" "[I", Cond.methodLink RX3 45 yX3_isIn, Cond.static yX3_isIn, Cond.code yX3_isIn cX3_isIn 3 (some .boolean), Cond.methodLink RX3 57 yX3_fail, Cond.instanceMethod yX3_fail, Cond.selects RX3 yX3_fail yX3_fail, Cond.code yX3_fail cX3_fail 2 (some .int), Cond.methodLink RX3 90 yX3_canBulge, Cond.instanceMethod yX3_canBulge, Cond.selects RX3 yX3_canBulge yX3_canBulge, Cond.code yX3_canBulge cX3_canBulge 5 (some .boolean), Cond.fieldLink RX3 23 "MeanderFarmModel" "course" "[I", Cond.fieldLink RX3 26 "MeanderFarmModel" "where" "[I"]
def wsX3_slip_r2 : List Cond := [Cond.fieldLink RX3 13 "MeanderFarmModel" "stones" "[Z", Cond.methodLink RX3 73 yX3_isStraight, Cond.instanceMethod yX3_isStraight, Cond.selects RX3 yX3_isStraight yX3_isStraight, Cond.code yX3_isStraight cX3_isStraight 2 (some .boolean), Cond.methodLink RX3 70 yX3_direction, Cond.instanceMethod yX3_direction, Cond.selects RX3 yX3_direction yX3_direction, Cond.code yX3_direction cX3_direction 3 (some .int), Cond.methodLink RX3 80 yX3_beside, Cond.static yX3_beside, Cond.code yX3_beside cX3_beside 4 (some .int), Cond.methodLink RX3 53 yX3_isCell, Cond.static yX3_isCell, Cond.code yX3_isCell cX3_isCell 2 (some .boolean), Cond.methodLink RX3 93 yX3_bulge, Cond.instanceMethod yX3_bulge, Cond.selects RX3 yX3_bulge yX3_bulge, Cond.code yX3_bulge cX3_bulge 7 none, Cond.fieldLink RX3 29 "MeanderFarmModel" "wear" "[I", Cond.fieldLink RX3 32 "MeanderFarmModel" "lake" "[I", Cond.methodLink RX3 38 yX3_place, Cond.instanceMethod yX3_place, Cond.selects RX3 yX3_place yX3_place]
def wsX3_slip_r3 : List Cond := [Cond.code yX3_place cX3_place 2 none]
def wsX3_slip : List Cond := .code yX3_slip cX3_slip 3 (some .int) :: ((wsX3_slip_r1 ++ (wsX3_slip_r2 ++ wsX3_slip_r3)) ++ wsX30)
def wsX3_isNeck : List Cond := .code yX3_isNeck cX3_isNeck 5 (some .boolean) :: ([.fieldLink RX3 23 "MeanderFarmModel" "course" "[I", .methodLink RX3 97 Lib.Math.abs.name, .static Lib.Math.abs.name, .initialized "java/lang/Math", .code Lib.Math.abs.name Lib.Math.abs.code 1 (some .int)] ++ wsX30)
def wsX3_breakThrough : List Cond := .code yX3_breakThrough cX3_breakThrough 4 none :: ([.fieldLink RX3 32 "MeanderFarmModel" "lake" "[I", .fieldLink RX3 23 "MeanderFarmModel" "course" "[I", .fieldLink RX3 35 "MeanderFarmModel" "numbers" "[I", .methodLink RX3 49 yX3_length, .instanceMethod yX3_length, .selects RX3 yX3_length yX3_length, .initialized RX3, .code yX3_length cX3_length 1 (some .int), .methodLink RX3 38 yX3_place, .instanceMethod yX3_place, .selects RX3 yX3_place yX3_place, .code yX3_place cX3_place 2 none, .fieldLink RX3 26 "MeanderFarmModel" "where" "[I"] ++ wsX30)
def wsX3_dig_r1 : List Cond := [Cond.fieldLink RX3 41 "MeanderFarmModel" "thrown" "I", Cond.methodLink RX3 84 yX3_isCourse, Cond.instanceMethod yX3_isCourse, Cond.selects RX3 yX3_isCourse yX3_isCourse, Cond.initialized RX3, Cond.code yX3_isCourse cX3_isCourse 2 (some .boolean), Cond.methodLink RX3 49 yX3_length, Cond.instanceMethod yX3_length, Cond.selects RX3 yX3_length yX3_length, Cond.code yX3_length cX3_length 1 (some .int), Cond.fieldLink RX3 35 "MeanderFarmModel" "numbers" "[I", Cond.methodLink RX3 45 yX3_isIn, Cond.static yX3_isIn, Cond.code yX3_isIn cX3_isIn 3 (some .boolean), Cond.methodLink RX3 57 yX3_fail, Cond.instanceMethod yX3_fail, Cond.selects RX3 yX3_fail yX3_fail, Cond.code yX3_fail cX3_fail 2 (some .int), Cond.methodLink RX3 102 yX3_isNeck, Cond.instanceMethod yX3_isNeck, Cond.selects RX3 yX3_isNeck yX3_isNeck, Cond.code yX3_isNeck cX3_isNeck 5 (some .boolean), Cond.fieldLink RX3 23 "MeanderFarmModel" "course" "[I", Cond.methodLink RX3 97 Lib.Math.abs.name]
def wsX3_dig_r2 : List Cond := [Cond.static Lib.Math.abs.name, Cond.initialized "java/lang/Math", Cond.code Lib.Math.abs.name Lib.Math.abs.code 1 (some .int), Cond.methodLink RX3 105 yX3_breakThrough, Cond.instanceMethod yX3_breakThrough, Cond.selects RX3 yX3_breakThrough yX3_breakThrough, Cond.code yX3_breakThrough cX3_breakThrough 4 none, Cond.fieldLink RX3 32 "MeanderFarmModel" "lake" "[I", Cond.methodLink RX3 38 yX3_place, Cond.instanceMethod yX3_place, Cond.selects RX3 yX3_place yX3_place, Cond.code yX3_place cX3_place 2 none, Cond.fieldLink RX3 26 "MeanderFarmModel" "where" "[I"]
def wsX3_dig : List Cond := .code yX3_dig cX3_dig 3 (some .int) :: ((wsX3_dig_r1 ++ wsX3_dig_r2) ++ wsX30)
def wsX3_far : List Cond := .code yX3_far cX3_far 5 (some .int) :: ([.fieldLink RX3 23 "MeanderFarmModel" "course" "[I", .fieldLink RX3 26 "MeanderFarmModel" "where" "[I", .methodLink RX3 108 Lib.Math.max.name, .static Lib.Math.max.name, .initialized "java/lang/Math", .code Lib.Math.max.name Lib.Math.max.code 2 (some .int), .methodLink RX3 80 yX3_beside, .static yX3_beside, .initialized RX3, .code yX3_beside cX3_beside 4 (some .int), .methodLink RX3 53 yX3_isCell, .static yX3_isCell, .code yX3_isCell cX3_isCell 2 (some .boolean), .methodLink RX3 45 yX3_isIn, .static yX3_isIn, .code yX3_isIn cX3_isIn 3 (some .boolean)] ++ wsX30)
def wsX3_first_r1 : List Cond := [Cond.methodLink RX3 49 yX3_length, Cond.instanceMethod yX3_length, Cond.selects RX3 yX3_length yX3_length, Cond.initialized RX3, Cond.code yX3_length cX3_length 1 (some .int), Cond.fieldLink RX3 35 "MeanderFarmModel" "numbers" "[I", Cond.methodLink RX3 111 yX3_far, Cond.instanceMethod yX3_far, Cond.selects RX3 yX3_far yX3_far, Cond.code yX3_far cX3_far 5 (some .int), Cond.fieldLink RX3 23 "MeanderFarmModel" "course" "[I", Cond.fieldLink RX3 26 "MeanderFarmModel" "where" "[I", Cond.methodLink RX3 108 Lib.Math.max.name, Cond.static Lib.Math.max.name, Cond.initialized "java/lang/Math", Cond.code Lib.Math.max.name Lib.Math.max.code 2 (some .int), Cond.methodLink RX3 80 yX3_beside, Cond.static yX3_beside, Cond.code yX3_beside cX3_beside 4 (some .int), Cond.methodLink RX3 53 yX3_isCell, Cond.static yX3_isCell, Cond.code yX3_isCell cX3_isCell 2 (some .boolean), Cond.methodLink RX3 45 yX3_isIn, Cond.static yX3_isIn]
def wsX3_first_r2 : List Cond := [Cond.code yX3_isIn cX3_isIn 3 (some .boolean)]
def wsX3_first : List Cond := .code yX3_first cX3_first 3 (some .int) :: ((wsX3_first_r1 ++ wsX3_first_r2) ++ wsX30)
def wsX3_flood_r1 : List Cond := [Cond.methodLink RX3 114 yX3_first, Cond.instanceMethod yX3_first, Cond.selects RX3 yX3_first yX3_first, Cond.initialized RX3, Cond.code yX3_first cX3_first 3 (some .int), Cond.methodLink RX3 49 yX3_length, Cond.instanceMethod yX3_length, Cond.selects RX3 yX3_length yX3_length, Cond.code yX3_length cX3_length 1 (some .int), Cond.fieldLink RX3 35 "MeanderFarmModel" "numbers" "[I", Cond.methodLink RX3 111 yX3_far, Cond.instanceMethod yX3_far, Cond.selects RX3 yX3_far yX3_far, Cond.code yX3_far cX3_far 5 (some .int), Cond.fieldLink RX3 23 "MeanderFarmModel" "course" "[I", Cond.fieldLink RX3 26 "MeanderFarmModel" "where" "[I", Cond.methodLink RX3 108 Lib.Math.max.name, Cond.static Lib.Math.max.name, Cond.initialized "java/lang/Math", Cond.code Lib.Math.max.name Lib.Math.max.code 2 (some .int), Cond.methodLink RX3 80 yX3_beside, Cond.static yX3_beside, Cond.code yX3_beside cX3_beside 4 (some .int), Cond.methodLink RX3 53 yX3_isCell]
def wsX3_flood_r2 : List Cond := [Cond.static yX3_isCell, Cond.code yX3_isCell cX3_isCell 2 (some .boolean), Cond.methodLink RX3 45 yX3_isIn, Cond.static yX3_isIn, Cond.code yX3_isIn cX3_isIn 3 (some .boolean), Cond.methodLink RX3 105 yX3_breakThrough, Cond.instanceMethod yX3_breakThrough, Cond.selects RX3 yX3_breakThrough yX3_breakThrough, Cond.code yX3_breakThrough cX3_breakThrough 4 none, Cond.fieldLink RX3 32 "MeanderFarmModel" "lake" "[I", Cond.methodLink RX3 38 yX3_place, Cond.instanceMethod yX3_place, Cond.selects RX3 yX3_place yX3_place, Cond.code yX3_place cX3_place 2 none]
def wsX3_flood : List Cond := .code yX3_flood cX3_flood 2 none :: ((wsX3_flood_r1 ++ wsX3_flood_r2) ++ wsX30)
def wsX3_necks : List Cond := .code yX3_necks cX3_necks 4 (some .int) :: ([.methodLink RX3 49 yX3_length, .instanceMethod yX3_length, .selects RX3 yX3_length yX3_length, .initialized RX3, .code yX3_length cX3_length 1 (some .int), .fieldLink RX3 35 "MeanderFarmModel" "numbers" "[I", .methodLink RX3 102 yX3_isNeck, .instanceMethod yX3_isNeck, .selects RX3 yX3_isNeck yX3_isNeck, .code yX3_isNeck cX3_isNeck 5 (some .boolean), .fieldLink RX3 23 "MeanderFarmModel" "course" "[I", .methodLink RX3 97 Lib.Math.abs.name, .static Lib.Math.abs.name, .initialized "java/lang/Math", .code Lib.Math.abs.name Lib.Math.abs.code 1 (some .int)] ++ wsX30)
def wsX3_kept : List Cond := .code yX3_kept cX3_kept 1 (some (.array (.array .int))) :: ([.classLink RX3 153 "[I", .fieldLink RX3 23 "MeanderFarmModel" "course" "[I", .methodLink RX3 154 ⟨"[I", "clone", "()Ljava/lang/Object;"⟩, .sameMethod "[I" "java/lang/Object" "clone" "()Ljava/lang/Object;", .native ⟨"java/lang/Object", "clone", "()Ljava/lang/Object;"⟩, .instanceMethod ⟨"java/lang/Object", "clone", "()Ljava/lang/Object;"⟩, .selects "[I" ⟨"[I", "clone", "()Ljava/lang/Object;"⟩ ⟨"java/lang/Object", "clone", "()Ljava/lang/Object;"⟩, .fieldLink RX3 29 "MeanderFarmModel" "wear" "[I", .fieldLink RX3 32 "MeanderFarmModel" "lake" "[I", .fieldLink RX3 35 "MeanderFarmModel" "numbers" "[I"] ++ wsX30)
def wsX3_bringBack : List Cond := .code yX3_bringBack cX3_bringBack 2 none :: ([.fieldLink RX3 23 "MeanderFarmModel" "course" "[I", .methodLink RX3 131 arraycopyName, .native arraycopyName, .static arraycopyName, .initialized "java/lang/System", .fieldLink RX3 29 "MeanderFarmModel" "wear" "[I", .fieldLink RX3 32 "MeanderFarmModel" "lake" "[I", .fieldLink RX3 35 "MeanderFarmModel" "numbers" "[I", .methodLink RX3 38 yX3_place, .instanceMethod yX3_place, .selects RX3 yX3_place yX3_place, .initialized RX3, .code yX3_place cX3_place 2 none, .fieldLink RX3 26 "MeanderFarmModel" "where" "[I", .methodLink RX3 49 yX3_length, .instanceMethod yX3_length, .selects RX3 yX3_length yX3_length, .code yX3_length cX3_length 1 (some .int)] ++ wsX30)
def wsX3_neck_r1 : List Cond := [Cond.fieldLink RX3 41 "MeanderFarmModel" "thrown" "I", Cond.methodLink RX3 45 yX3_isIn, Cond.static yX3_isIn, Cond.initialized RX3, Cond.code yX3_isIn cX3_isIn 3 (some .boolean), Cond.methodLink RX3 57 yX3_fail, Cond.instanceMethod yX3_fail, Cond.selects RX3 yX3_fail yX3_fail, Cond.code yX3_fail cX3_fail 2 (some .int), Cond.methodLink RX3 114 yX3_first, Cond.instanceMethod yX3_first, Cond.selects RX3 yX3_first yX3_first, Cond.code yX3_first cX3_first 3 (some .int), Cond.methodLink RX3 49 yX3_length, Cond.instanceMethod yX3_length, Cond.selects RX3 yX3_length yX3_length, Cond.code yX3_length cX3_length 1 (some .int), Cond.fieldLink RX3 35 "MeanderFarmModel" "numbers" "[I", Cond.methodLink RX3 111 yX3_far, Cond.instanceMethod yX3_far, Cond.selects RX3 yX3_far yX3_far, Cond.code yX3_far cX3_far 5 (some .int), Cond.fieldLink RX3 23 "MeanderFarmModel" "course" "[I", Cond.fieldLink RX3 26 "MeanderFarmModel" "where" "[I"]
def wsX3_neck_r2 : List Cond := [Cond.methodLink RX3 108 Lib.Math.max.name, Cond.static Lib.Math.max.name, Cond.initialized "java/lang/Math", Cond.code Lib.Math.max.name Lib.Math.max.code 2 (some .int), Cond.methodLink RX3 80 yX3_beside, Cond.static yX3_beside, Cond.code yX3_beside cX3_beside 4 (some .int), Cond.methodLink RX3 53 yX3_isCell, Cond.static yX3_isCell, Cond.code yX3_isCell cX3_isCell 2 (some .boolean), Cond.methodLink RX3 117 yX3_necks, Cond.instanceMethod yX3_necks, Cond.selects RX3 yX3_necks yX3_necks, Cond.code yX3_necks cX3_necks 4 (some .int), Cond.methodLink RX3 102 yX3_isNeck, Cond.instanceMethod yX3_isNeck, Cond.selects RX3 yX3_isNeck yX3_isNeck, Cond.code yX3_isNeck cX3_isNeck 5 (some .boolean), Cond.methodLink RX3 97 Lib.Math.abs.name, Cond.static Lib.Math.abs.name, Cond.code Lib.Math.abs.name Lib.Math.abs.code 1 (some .int), Cond.methodLink RX3 120 yX3_kept, Cond.instanceMethod yX3_kept, Cond.selects RX3 yX3_kept yX3_kept]
def wsX3_neck_r3 : List Cond := [Cond.code yX3_kept cX3_kept 1 (some (.array (.array .int))), Cond.classLink RX3 153 "[I", Cond.methodLink RX3 154 ⟨"[I", "clone", "()Ljava/lang/Object;"⟩, Cond.sameMethod "[I" "java/lang/Object" "clone" "()Ljava/lang/Object;", Cond.native ⟨"java/lang/Object", "clone", "()Ljava/lang/Object;"⟩, Cond.instanceMethod ⟨"java/lang/Object", "clone", "()Ljava/lang/Object;"⟩, Cond.selects "[I" ⟨"[I", "clone", "()Ljava/lang/Object;"⟩ ⟨"java/lang/Object", "clone", "()Ljava/lang/Object;"⟩, Cond.fieldLink RX3 29 "MeanderFarmModel" "wear" "[I", Cond.fieldLink RX3 32 "MeanderFarmModel" "lake" "[I", Cond.methodLink RX3 124 yX3_flood, Cond.instanceMethod yX3_flood, Cond.selects RX3 yX3_flood yX3_flood, Cond.code yX3_flood cX3_flood 2 none, Cond.methodLink RX3 105 yX3_breakThrough, Cond.instanceMethod yX3_breakThrough, Cond.selects RX3 yX3_breakThrough yX3_breakThrough, Cond.code yX3_breakThrough cX3_breakThrough 4 none, Cond.methodLink RX3 38 yX3_place, Cond.instanceMethod yX3_place, Cond.selects RX3 yX3_place yX3_place, Cond.code yX3_place cX3_place 2 none, Cond.methodLink RX3 127 yX3_bringBack, Cond.instanceMethod yX3_bringBack, Cond.selects RX3 yX3_bringBack yX3_bringBack]
def wsX3_neck_r4 : List Cond := [Cond.code yX3_bringBack cX3_bringBack 2 none, Cond.methodLink RX3 131 arraycopyName, Cond.native arraycopyName, Cond.static arraycopyName, Cond.initialized "java/lang/System"]
def wsX3_neck : List Cond := .code yX3_neck cX3_neck 6 (some .int) :: ((wsX3_neck_r1 ++ (wsX3_neck_r2 ++ (wsX3_neck_r3 ++ wsX3_neck_r4))) ++ wsX30)
def wsX3_addFarm : List Cond := .code yX3_addFarm cX3_addFarm 6 (some .int) :: ([.fieldLink RX3 41 "MeanderFarmModel" "thrown" "I", .fieldLink RX3 64 "MeanderFarmModel" "farms" "I", .arrayClass .int, .fieldLink RX3 20 "MeanderFarmModel" "farmTable" "[I", .methodLink RX3 131 arraycopyName, .native arraycopyName, .static arraycopyName, .initialized "java/lang/System", .methodLink RX3 53 yX3_isCell, .static yX3_isCell, .initialized RX3, .code yX3_isCell cX3_isCell 2 (some .boolean), .methodLink RX3 45 yX3_isIn, .static yX3_isIn, .code yX3_isIn cX3_isIn 3 (some .boolean), .methodLink RX3 57 yX3_fail, .instanceMethod yX3_fail, .selects RX3 yX3_fail yX3_fail, .code yX3_fail cX3_fail 2 (some .int)] ++ wsX30)
def wsX3_farmTold : List Cond := .code yX3_farmTold cX3_farmTold 8 (some .int) :: ([.fieldLink RX3 26 "MeanderFarmModel" "where" "[I", .fieldLink RX3 32 "MeanderFarmModel" "lake" "[I", .fieldLink RX3 13 "MeanderFarmModel" "stones" "[Z", .methodLink RX3 67 yX3_isOf, .instanceMethod yX3_isOf, .selects RX3 yX3_isOf yX3_isOf, .initialized RX3, .code yX3_isOf cX3_isOf 4 (some .boolean), .fieldLink RX3 20 "MeanderFarmModel" "farmTable" "[I", .methodLink RX3 45 yX3_isIn, .static yX3_isIn, .code yX3_isIn cX3_isIn 3 (some .boolean)] ++ wsX30)
def wsX3_isFarm : List Cond := .code yX3_isFarm cX3_isFarm 2 (some .boolean) :: ([.fieldLink RX3 64 "MeanderFarmModel" "farms" "I", .methodLink RX3 45 yX3_isIn, .static yX3_isIn, .initialized RX3, .code yX3_isIn cX3_isIn 3 (some .boolean)] ++ wsX30)
def wsX3_farm_r1 : List Cond := [Cond.fieldLink RX3 41 "MeanderFarmModel" "thrown" "I", Cond.methodLink RX3 137 yX3_isFarm, Cond.instanceMethod yX3_isFarm, Cond.selects RX3 yX3_isFarm yX3_isFarm, Cond.initialized RX3, Cond.code yX3_isFarm cX3_isFarm 2 (some .boolean), Cond.fieldLink RX3 64 "MeanderFarmModel" "farms" "I", Cond.methodLink RX3 45 yX3_isIn, Cond.static yX3_isIn, Cond.code yX3_isIn cX3_isIn 3 (some .boolean), Cond.methodLink RX3 140 yX3_farmTold, Cond.instanceMethod yX3_farmTold, Cond.selects RX3 yX3_farmTold yX3_farmTold, Cond.code yX3_farmTold cX3_farmTold 8 (some .int), Cond.fieldLink RX3 26 "MeanderFarmModel" "where" "[I", Cond.fieldLink RX3 32 "MeanderFarmModel" "lake" "[I", Cond.fieldLink RX3 13 "MeanderFarmModel" "stones" "[Z", Cond.methodLink RX3 67 yX3_isOf, Cond.instanceMethod yX3_isOf, Cond.selects RX3 yX3_isOf yX3_isOf, Cond.code yX3_isOf cX3_isOf 4 (some .boolean), Cond.fieldLink RX3 20 "MeanderFarmModel" "farmTable" "[I", Cond.methodLink RX3 57 yX3_fail, Cond.instanceMethod yX3_fail]
def wsX3_farm_r2 : List Cond := [Cond.selects RX3 yX3_fail yX3_fail, Cond.code yX3_fail cX3_fail 2 (some .int)]
def wsX3_farm : List Cond := .code yX3_farm cX3_farm 3 (some .int) :: ((wsX3_farm_r1 ++ wsX3_farm_r2) ++ wsX30)
def wsX3_yearOn_r1 : List Cond := [Cond.fieldLink RX3 17 "MeanderFarmModel" "flow" "[I", Cond.fieldLink RX3 35 "MeanderFarmModel" "numbers" "[I", Cond.fieldLink RX3 26 "MeanderFarmModel" "where" "[I", Cond.fieldLink RX3 13 "MeanderFarmModel" "stones" "[Z", Cond.fieldLink RX3 29 "MeanderFarmModel" "wear" "[I", Cond.fieldLink RX3 9 "MeanderFarmModel" "hardness" "[I", Cond.fieldLink RX3 32 "MeanderFarmModel" "lake" "[I", Cond.methodLink RX3 108 Lib.Math.max.name, Cond.static Lib.Math.max.name, Cond.initialized "java/lang/Math", Cond.code Lib.Math.max.name Lib.Math.max.code 2 (some .int), Cond.methodLink RX3 49 yX3_length, Cond.instanceMethod yX3_length, Cond.selects RX3 yX3_length yX3_length, Cond.initialized RX3, Cond.code yX3_length cX3_length 1 (some .int), Cond.methodLink RX3 87 yX3_bank, Cond.instanceMethod yX3_bank, Cond.selects RX3 yX3_bank yX3_bank, Cond.code yX3_bank cX3_bank 2 (some .int), Cond.fieldLink RX3 23 "MeanderFarmModel" "course" "[I", Cond.methodLink RX3 77 yX3_side, Cond.instanceMethod yX3_side, Cond.selects RX3 yX3_side yX3_side]
def wsX3_yearOn_r2 : List Cond := [Cond.code yX3_side cX3_side 3 (some .int), Cond.methodLink RX3 73 yX3_isStraight, Cond.instanceMethod yX3_isStraight, Cond.selects RX3 yX3_isStraight yX3_isStraight, Cond.code yX3_isStraight cX3_isStraight 2 (some .boolean), Cond.methodLink RX3 70 yX3_direction, Cond.instanceMethod yX3_direction, Cond.selects RX3 yX3_direction yX3_direction, Cond.code yX3_direction cX3_direction 3 (some .int), Cond.methodLink RX3 80 yX3_beside, Cond.static yX3_beside, Cond.code yX3_beside cX3_beside 4 (some .int), Cond.methodLink RX3 53 yX3_isCell, Cond.static yX3_isCell, Cond.code yX3_isCell cX3_isCell 2 (some .boolean), Cond.methodLink RX3 45 yX3_isIn, Cond.static yX3_isIn, Cond.code yX3_isIn cX3_isIn 3 (some .boolean), Cond.methodLink RX3 90 yX3_canBulge, Cond.instanceMethod yX3_canBulge, Cond.selects RX3 yX3_canBulge yX3_canBulge, Cond.code yX3_canBulge cX3_canBulge 5 (some .boolean), Cond.methodLink RX3 93 yX3_bulge, Cond.instanceMethod yX3_bulge]
def wsX3_yearOn_r3 : List Cond := [Cond.selects RX3 yX3_bulge yX3_bulge, Cond.code yX3_bulge cX3_bulge 7 none, Cond.methodLink RX3 38 yX3_place, Cond.instanceMethod yX3_place, Cond.selects RX3 yX3_place yX3_place, Cond.code yX3_place cX3_place 2 none, Cond.methodLink RX3 124 yX3_flood, Cond.instanceMethod yX3_flood, Cond.selects RX3 yX3_flood yX3_flood, Cond.code yX3_flood cX3_flood 2 none, Cond.methodLink RX3 114 yX3_first, Cond.instanceMethod yX3_first, Cond.selects RX3 yX3_first yX3_first, Cond.code yX3_first cX3_first 3 (some .int), Cond.methodLink RX3 111 yX3_far, Cond.instanceMethod yX3_far, Cond.selects RX3 yX3_far yX3_far, Cond.code yX3_far cX3_far 5 (some .int), Cond.methodLink RX3 105 yX3_breakThrough, Cond.instanceMethod yX3_breakThrough, Cond.selects RX3 yX3_breakThrough yX3_breakThrough, Cond.code yX3_breakThrough cX3_breakThrough 4 none]
def wsX3_yearOn : List Cond := .code yX3_yearOn cX3_yearOn 6 (some .boolean) :: ((wsX3_yearOn_r1 ++ (wsX3_yearOn_r2 ++ wsX3_yearOn_r3)) ++ wsX30)
def wsX3_yearsOn_r1 : List Cond := [Cond.methodLink RX3 143 yX3_yearOn, Cond.instanceMethod yX3_yearOn, Cond.selects RX3 yX3_yearOn yX3_yearOn, Cond.initialized RX3, Cond.code yX3_yearOn cX3_yearOn 6 (some .boolean), Cond.fieldLink RX3 17 "MeanderFarmModel" "flow" "[I", Cond.fieldLink RX3 35 "MeanderFarmModel" "numbers" "[I", Cond.fieldLink RX3 26 "MeanderFarmModel" "where" "[I", Cond.fieldLink RX3 13 "MeanderFarmModel" "stones" "[Z", Cond.fieldLink RX3 29 "MeanderFarmModel" "wear" "[I", Cond.fieldLink RX3 9 "MeanderFarmModel" "hardness" "[I", Cond.fieldLink RX3 32 "MeanderFarmModel" "lake" "[I", Cond.methodLink RX3 108 Lib.Math.max.name, Cond.static Lib.Math.max.name, Cond.initialized "java/lang/Math", Cond.code Lib.Math.max.name Lib.Math.max.code 2 (some .int), Cond.methodLink RX3 49 yX3_length, Cond.instanceMethod yX3_length, Cond.selects RX3 yX3_length yX3_length, Cond.code yX3_length cX3_length 1 (some .int), Cond.methodLink RX3 87 yX3_bank, Cond.instanceMethod yX3_bank, Cond.selects RX3 yX3_bank yX3_bank, Cond.code yX3_bank cX3_bank 2 (some .int)]
def wsX3_yearsOn_r2 : List Cond := [Cond.fieldLink RX3 23 "MeanderFarmModel" "course" "[I", Cond.methodLink RX3 77 yX3_side, Cond.instanceMethod yX3_side, Cond.selects RX3 yX3_side yX3_side, Cond.code yX3_side cX3_side 3 (some .int), Cond.methodLink RX3 73 yX3_isStraight, Cond.instanceMethod yX3_isStraight, Cond.selects RX3 yX3_isStraight yX3_isStraight, Cond.code yX3_isStraight cX3_isStraight 2 (some .boolean), Cond.methodLink RX3 70 yX3_direction, Cond.instanceMethod yX3_direction, Cond.selects RX3 yX3_direction yX3_direction, Cond.code yX3_direction cX3_direction 3 (some .int), Cond.methodLink RX3 80 yX3_beside, Cond.static yX3_beside, Cond.code yX3_beside cX3_beside 4 (some .int), Cond.methodLink RX3 53 yX3_isCell, Cond.static yX3_isCell, Cond.code yX3_isCell cX3_isCell 2 (some .boolean), Cond.methodLink RX3 45 yX3_isIn, Cond.static yX3_isIn, Cond.code yX3_isIn cX3_isIn 3 (some .boolean), Cond.methodLink RX3 90 yX3_canBulge, Cond.instanceMethod yX3_canBulge]
def wsX3_yearsOn_r3 : List Cond := [Cond.selects RX3 yX3_canBulge yX3_canBulge, Cond.code yX3_canBulge cX3_canBulge 5 (some .boolean), Cond.methodLink RX3 93 yX3_bulge, Cond.instanceMethod yX3_bulge, Cond.selects RX3 yX3_bulge yX3_bulge, Cond.code yX3_bulge cX3_bulge 7 none, Cond.methodLink RX3 38 yX3_place, Cond.instanceMethod yX3_place, Cond.selects RX3 yX3_place yX3_place, Cond.code yX3_place cX3_place 2 none, Cond.methodLink RX3 124 yX3_flood, Cond.instanceMethod yX3_flood, Cond.selects RX3 yX3_flood yX3_flood, Cond.code yX3_flood cX3_flood 2 none, Cond.methodLink RX3 114 yX3_first, Cond.instanceMethod yX3_first, Cond.selects RX3 yX3_first yX3_first, Cond.code yX3_first cX3_first 3 (some .int), Cond.methodLink RX3 111 yX3_far, Cond.instanceMethod yX3_far, Cond.selects RX3 yX3_far yX3_far, Cond.code yX3_far cX3_far 5 (some .int), Cond.methodLink RX3 105 yX3_breakThrough, Cond.instanceMethod yX3_breakThrough]
def wsX3_yearsOn_r4 : List Cond := [Cond.selects RX3 yX3_breakThrough yX3_breakThrough, Cond.code yX3_breakThrough cX3_breakThrough 4 none]
def wsX3_yearsOn : List Cond := .code yX3_yearsOn cX3_yearsOn 4 (some .int) :: ((wsX3_yearsOn_r1 ++ (wsX3_yearsOn_r2 ++ (wsX3_yearsOn_r3 ++ wsX3_yearsOn_r4))) ++ wsX30)
def wsX3_pass_r1 : List Cond := [Cond.fieldLink RX3 41 "MeanderFarmModel" "thrown" "I", Cond.methodLink RX3 45 yX3_isIn, Cond.static yX3_isIn, Cond.initialized RX3, Cond.code yX3_isIn cX3_isIn 3 (some .boolean), Cond.methodLink RX3 147 yX3_yearsOn, Cond.instanceMethod yX3_yearsOn, Cond.selects RX3 yX3_yearsOn yX3_yearsOn, Cond.code yX3_yearsOn cX3_yearsOn 4 (some .int), Cond.methodLink RX3 143 yX3_yearOn, Cond.instanceMethod yX3_yearOn, Cond.selects RX3 yX3_yearOn yX3_yearOn, Cond.code yX3_yearOn cX3_yearOn 6 (some .boolean), Cond.fieldLink RX3 17 "MeanderFarmModel" "flow" "[I", Cond.fieldLink RX3 35 "MeanderFarmModel" "numbers" "[I", Cond.fieldLink RX3 26 "MeanderFarmModel" "where" "[I", Cond.fieldLink RX3 13 "MeanderFarmModel" "stones" "[Z", Cond.fieldLink RX3 29 "MeanderFarmModel" "wear" "[I", Cond.fieldLink RX3 9 "MeanderFarmModel" "hardness" "[I", Cond.fieldLink RX3 32 "MeanderFarmModel" "lake" "[I", Cond.methodLink RX3 108 Lib.Math.max.name, Cond.static Lib.Math.max.name, Cond.initialized "java/lang/Math", Cond.code Lib.Math.max.name Lib.Math.max.code 2 (some .int)]
def wsX3_pass_r2 : List Cond := [Cond.methodLink RX3 49 yX3_length, Cond.instanceMethod yX3_length, Cond.selects RX3 yX3_length yX3_length, Cond.code yX3_length cX3_length 1 (some .int), Cond.methodLink RX3 87 yX3_bank, Cond.instanceMethod yX3_bank, Cond.selects RX3 yX3_bank yX3_bank, Cond.code yX3_bank cX3_bank 2 (some .int), Cond.fieldLink RX3 23 "MeanderFarmModel" "course" "[I", Cond.methodLink RX3 77 yX3_side, Cond.instanceMethod yX3_side, Cond.selects RX3 yX3_side yX3_side, Cond.code yX3_side cX3_side 3 (some .int), Cond.methodLink RX3 73 yX3_isStraight, Cond.instanceMethod yX3_isStraight, Cond.selects RX3 yX3_isStraight yX3_isStraight, Cond.code yX3_isStraight cX3_isStraight 2 (some .boolean), Cond.methodLink RX3 70 yX3_direction, Cond.instanceMethod yX3_direction, Cond.selects RX3 yX3_direction yX3_direction, Cond.code yX3_direction cX3_direction 3 (some .int), Cond.methodLink RX3 80 yX3_beside, Cond.static yX3_beside, Cond.code yX3_beside cX3_beside 4 (some .int)]
def wsX3_pass_r3 : List Cond := [Cond.methodLink RX3 53 yX3_isCell, Cond.static yX3_isCell, Cond.code yX3_isCell cX3_isCell 2 (some .boolean), Cond.methodLink RX3 90 yX3_canBulge, Cond.instanceMethod yX3_canBulge, Cond.selects RX3 yX3_canBulge yX3_canBulge, Cond.code yX3_canBulge cX3_canBulge 5 (some .boolean), Cond.methodLink RX3 93 yX3_bulge, Cond.instanceMethod yX3_bulge, Cond.selects RX3 yX3_bulge yX3_bulge, Cond.code yX3_bulge cX3_bulge 7 none, Cond.methodLink RX3 38 yX3_place, Cond.instanceMethod yX3_place, Cond.selects RX3 yX3_place yX3_place, Cond.code yX3_place cX3_place 2 none, Cond.methodLink RX3 124 yX3_flood, Cond.instanceMethod yX3_flood, Cond.selects RX3 yX3_flood yX3_flood, Cond.code yX3_flood cX3_flood 2 none, Cond.methodLink RX3 114 yX3_first, Cond.instanceMethod yX3_first, Cond.selects RX3 yX3_first yX3_first, Cond.code yX3_first cX3_first 3 (some .int), Cond.methodLink RX3 111 yX3_far]
def wsX3_pass_r4 : List Cond := [Cond.instanceMethod yX3_far, Cond.selects RX3 yX3_far yX3_far, Cond.code yX3_far cX3_far 5 (some .int), Cond.methodLink RX3 105 yX3_breakThrough, Cond.instanceMethod yX3_breakThrough, Cond.selects RX3 yX3_breakThrough yX3_breakThrough, Cond.code yX3_breakThrough cX3_breakThrough 4 none, Cond.methodLink RX3 57 yX3_fail, Cond.instanceMethod yX3_fail, Cond.selects RX3 yX3_fail yX3_fail, Cond.code yX3_fail cX3_fail 2 (some .int)]
def wsX3_pass : List Cond := .code yX3_pass cX3_pass 2 (some .int) :: ((wsX3_pass_r1 ++ (wsX3_pass_r2 ++ (wsX3_pass_r3 ++ wsX3_pass_r4))) ++ wsX30)
def wsX3_counted : List Cond := .code yX3_counted cX3_counted 4 (some .int) :: ([.fieldLink RX3 35 "MeanderFarmModel" "numbers" "[I", .fieldLink RX3 64 "MeanderFarmModel" "farms" "I", .fieldLink RX3 29 "MeanderFarmModel" "wear" "[I", .fieldLink RX3 32 "MeanderFarmModel" "lake" "[I", .methodLink RX3 49 yX3_length, .instanceMethod yX3_length, .selects RX3 yX3_length yX3_length, .initialized RX3, .code yX3_length cX3_length 1 (some .int), .methodLink RX3 61 yX3_allStones, .instanceMethod yX3_allStones, .selects RX3 yX3_allStones yX3_allStones, .code yX3_allStones cX3_allStones 6 (some .int), .fieldLink RX3 13 "MeanderFarmModel" "stones" "[Z", .methodLink RX3 73 yX3_isStraight, .instanceMethod yX3_isStraight, .selects RX3 yX3_isStraight yX3_isStraight, .code yX3_isStraight cX3_isStraight 2 (some .boolean), .methodLink RX3 70 yX3_direction, .instanceMethod yX3_direction, .selects RX3 yX3_direction yX3_direction, .code yX3_direction cX3_direction 3 (some .int), .fieldLink RX3 23 "MeanderFarmModel" "course" "[I"] ++ wsX30)
def wsX3_count_r1 : List Cond := [Cond.fieldLink RX3 41 "MeanderFarmModel" "thrown" "I", Cond.methodLink RX3 45 yX3_isIn, Cond.static yX3_isIn, Cond.initialized RX3, Cond.code yX3_isIn cX3_isIn 3 (some .boolean), Cond.methodLink RX3 150 yX3_counted, Cond.instanceMethod yX3_counted, Cond.selects RX3 yX3_counted yX3_counted, Cond.code yX3_counted cX3_counted 4 (some .int), Cond.fieldLink RX3 35 "MeanderFarmModel" "numbers" "[I", Cond.fieldLink RX3 64 "MeanderFarmModel" "farms" "I", Cond.fieldLink RX3 29 "MeanderFarmModel" "wear" "[I", Cond.fieldLink RX3 32 "MeanderFarmModel" "lake" "[I", Cond.methodLink RX3 49 yX3_length, Cond.instanceMethod yX3_length, Cond.selects RX3 yX3_length yX3_length, Cond.code yX3_length cX3_length 1 (some .int), Cond.methodLink RX3 61 yX3_allStones, Cond.instanceMethod yX3_allStones, Cond.selects RX3 yX3_allStones yX3_allStones, Cond.code yX3_allStones cX3_allStones 6 (some .int), Cond.fieldLink RX3 13 "MeanderFarmModel" "stones" "[Z", Cond.methodLink RX3 73 yX3_isStraight, Cond.instanceMethod yX3_isStraight]
def wsX3_count_r2 : List Cond := [Cond.selects RX3 yX3_isStraight yX3_isStraight, Cond.code yX3_isStraight cX3_isStraight 2 (some .boolean), Cond.methodLink RX3 70 yX3_direction, Cond.instanceMethod yX3_direction, Cond.selects RX3 yX3_direction yX3_direction, Cond.code yX3_direction cX3_direction 3 (some .int), Cond.fieldLink RX3 23 "MeanderFarmModel" "course" "[I", Cond.methodLink RX3 57 yX3_fail, Cond.instanceMethod yX3_fail, Cond.selects RX3 yX3_fail yX3_fail, Cond.code yX3_fail cX3_fail 2 (some .int)]
def wsX3_count : List Cond := .code yX3_count cX3_count 2 (some .int) :: ((wsX3_count_r1 ++ wsX3_count_r2) ++ wsX30)
def wsX3_foresee_r1 : List Cond := [Cond.fieldLink RX3 41 "MeanderFarmModel" "thrown" "I", Cond.fieldLink RX3 35 "MeanderFarmModel" "numbers" "[I", Cond.methodLink RX3 45 yX3_isIn, Cond.static yX3_isIn, Cond.initialized RX3, Cond.code yX3_isIn cX3_isIn 3 (some .boolean), Cond.methodLink RX3 57 yX3_fail, Cond.instanceMethod yX3_fail, Cond.selects RX3 yX3_fail yX3_fail, Cond.code yX3_fail cX3_fail 2 (some .int), Cond.methodLink RX3 120 yX3_kept, Cond.instanceMethod yX3_kept, Cond.selects RX3 yX3_kept yX3_kept, Cond.code yX3_kept cX3_kept 1 (some (.array (.array .int))), Cond.classLink RX3 153 "[I", Cond.fieldLink RX3 23 "MeanderFarmModel" "course" "[I", Cond.methodLink RX3 154 ⟨"[I", "clone", "()Ljava/lang/Object;"⟩, Cond.sameMethod "[I" "java/lang/Object" "clone" "()Ljava/lang/Object;", Cond.native ⟨"java/lang/Object", "clone", "()Ljava/lang/Object;"⟩, Cond.instanceMethod ⟨"java/lang/Object", "clone", "()Ljava/lang/Object;"⟩, Cond.selects "[I" ⟨"[I", "clone", "()Ljava/lang/Object;"⟩ ⟨"java/lang/Object", "clone", "()Ljava/lang/Object;"⟩, Cond.fieldLink RX3 29 "MeanderFarmModel" "wear" "[I", Cond.fieldLink RX3 32 "MeanderFarmModel" "lake" "[I", Cond.methodLink RX3 147 yX3_yearsOn]
def wsX3_foresee_r2 : List Cond := [Cond.instanceMethod yX3_yearsOn, Cond.selects RX3 yX3_yearsOn yX3_yearsOn, Cond.code yX3_yearsOn cX3_yearsOn 4 (some .int), Cond.methodLink RX3 143 yX3_yearOn, Cond.instanceMethod yX3_yearOn, Cond.selects RX3 yX3_yearOn yX3_yearOn, Cond.code yX3_yearOn cX3_yearOn 6 (some .boolean), Cond.fieldLink RX3 17 "MeanderFarmModel" "flow" "[I", Cond.fieldLink RX3 26 "MeanderFarmModel" "where" "[I", Cond.fieldLink RX3 13 "MeanderFarmModel" "stones" "[Z", Cond.fieldLink RX3 9 "MeanderFarmModel" "hardness" "[I", Cond.methodLink RX3 108 Lib.Math.max.name, Cond.static Lib.Math.max.name, Cond.initialized "java/lang/Math", Cond.code Lib.Math.max.name Lib.Math.max.code 2 (some .int), Cond.methodLink RX3 49 yX3_length, Cond.instanceMethod yX3_length, Cond.selects RX3 yX3_length yX3_length, Cond.code yX3_length cX3_length 1 (some .int), Cond.methodLink RX3 87 yX3_bank, Cond.instanceMethod yX3_bank, Cond.selects RX3 yX3_bank yX3_bank, Cond.code yX3_bank cX3_bank 2 (some .int), Cond.methodLink RX3 77 yX3_side]
def wsX3_foresee_r3 : List Cond := [Cond.instanceMethod yX3_side, Cond.selects RX3 yX3_side yX3_side, Cond.code yX3_side cX3_side 3 (some .int), Cond.methodLink RX3 73 yX3_isStraight, Cond.instanceMethod yX3_isStraight, Cond.selects RX3 yX3_isStraight yX3_isStraight, Cond.code yX3_isStraight cX3_isStraight 2 (some .boolean), Cond.methodLink RX3 70 yX3_direction, Cond.instanceMethod yX3_direction, Cond.selects RX3 yX3_direction yX3_direction, Cond.code yX3_direction cX3_direction 3 (some .int), Cond.methodLink RX3 80 yX3_beside, Cond.static yX3_beside, Cond.code yX3_beside cX3_beside 4 (some .int), Cond.methodLink RX3 53 yX3_isCell, Cond.static yX3_isCell, Cond.code yX3_isCell cX3_isCell 2 (some .boolean), Cond.methodLink RX3 90 yX3_canBulge, Cond.instanceMethod yX3_canBulge, Cond.selects RX3 yX3_canBulge yX3_canBulge, Cond.code yX3_canBulge cX3_canBulge 5 (some .boolean), Cond.methodLink RX3 93 yX3_bulge, Cond.instanceMethod yX3_bulge, Cond.selects RX3 yX3_bulge yX3_bulge]
def wsX3_foresee_r4 : List Cond := [Cond.code yX3_bulge cX3_bulge 7 none, Cond.methodLink RX3 38 yX3_place, Cond.instanceMethod yX3_place, Cond.selects RX3 yX3_place yX3_place, Cond.code yX3_place cX3_place 2 none, Cond.methodLink RX3 124 yX3_flood, Cond.instanceMethod yX3_flood, Cond.selects RX3 yX3_flood yX3_flood, Cond.code yX3_flood cX3_flood 2 none, Cond.methodLink RX3 114 yX3_first, Cond.instanceMethod yX3_first, Cond.selects RX3 yX3_first yX3_first, Cond.code yX3_first cX3_first 3 (some .int), Cond.methodLink RX3 111 yX3_far, Cond.instanceMethod yX3_far, Cond.selects RX3 yX3_far yX3_far, Cond.code yX3_far cX3_far 5 (some .int), Cond.methodLink RX3 105 yX3_breakThrough, Cond.instanceMethod yX3_breakThrough, Cond.selects RX3 yX3_breakThrough yX3_breakThrough, Cond.code yX3_breakThrough cX3_breakThrough 4 none, Cond.methodLink RX3 127 yX3_bringBack, Cond.instanceMethod yX3_bringBack, Cond.selects RX3 yX3_bringBack yX3_bringBack]
def wsX3_foresee_r5 : List Cond := [Cond.code yX3_bringBack cX3_bringBack 2 none, Cond.methodLink RX3 131 arraycopyName, Cond.native arraycopyName, Cond.static arraycopyName, Cond.initialized "java/lang/System"]
def wsX3_foresee : List Cond := .code yX3_foresee cX3_foresee 6 (some .int) :: ((wsX3_foresee_r1 ++ (wsX3_foresee_r2 ++ (wsX3_foresee_r3 ++ (wsX3_foresee_r4 ++ wsX3_foresee_r5)))) ++ wsX30)
def wsX3_loses_r1 : List Cond := [Cond.fieldLink RX3 41 "MeanderFarmModel" "thrown" "I", Cond.methodLink RX3 137 yX3_isFarm, Cond.instanceMethod yX3_isFarm, Cond.selects RX3 yX3_isFarm yX3_isFarm, Cond.initialized RX3, Cond.code yX3_isFarm cX3_isFarm 2 (some .boolean), Cond.fieldLink RX3 64 "MeanderFarmModel" "farms" "I", Cond.methodLink RX3 45 yX3_isIn, Cond.static yX3_isIn, Cond.code yX3_isIn cX3_isIn 3 (some .boolean), Cond.methodLink RX3 57 yX3_fail, Cond.instanceMethod yX3_fail, Cond.selects RX3 yX3_fail yX3_fail, Cond.code yX3_fail cX3_fail 2 (some .int), Cond.methodLink RX3 120 yX3_kept, Cond.instanceMethod yX3_kept, Cond.selects RX3 yX3_kept yX3_kept, Cond.code yX3_kept cX3_kept 1 (some (.array (.array .int))), Cond.classLink RX3 153 "[I", Cond.fieldLink RX3 23 "MeanderFarmModel" "course" "[I", Cond.methodLink RX3 154 ⟨"[I", "clone", "()Ljava/lang/Object;"⟩, Cond.sameMethod "[I" "java/lang/Object" "clone" "()Ljava/lang/Object;", Cond.native ⟨"java/lang/Object", "clone", "()Ljava/lang/Object;"⟩, Cond.instanceMethod ⟨"java/lang/Object", "clone", "()Ljava/lang/Object;"⟩]
def wsX3_loses_r2 : List Cond := [Cond.selects "[I" ⟨"[I", "clone", "()Ljava/lang/Object;"⟩ ⟨"java/lang/Object", "clone", "()Ljava/lang/Object;"⟩, Cond.fieldLink RX3 29 "MeanderFarmModel" "wear" "[I", Cond.fieldLink RX3 32 "MeanderFarmModel" "lake" "[I", Cond.fieldLink RX3 35 "MeanderFarmModel" "numbers" "[I", Cond.methodLink RX3 140 yX3_farmTold, Cond.instanceMethod yX3_farmTold, Cond.selects RX3 yX3_farmTold yX3_farmTold, Cond.code yX3_farmTold cX3_farmTold 8 (some .int), Cond.fieldLink RX3 26 "MeanderFarmModel" "where" "[I", Cond.fieldLink RX3 13 "MeanderFarmModel" "stones" "[Z", Cond.methodLink RX3 67 yX3_isOf, Cond.instanceMethod yX3_isOf, Cond.selects RX3 yX3_isOf yX3_isOf, Cond.code yX3_isOf cX3_isOf 4 (some .boolean), Cond.fieldLink RX3 20 "MeanderFarmModel" "farmTable" "[I", Cond.methodLink RX3 143 yX3_yearOn, Cond.instanceMethod yX3_yearOn, Cond.selects RX3 yX3_yearOn yX3_yearOn, Cond.code yX3_yearOn cX3_yearOn 6 (some .boolean), Cond.fieldLink RX3 17 "MeanderFarmModel" "flow" "[I", Cond.fieldLink RX3 9 "MeanderFarmModel" "hardness" "[I", Cond.methodLink RX3 108 Lib.Math.max.name, Cond.static Lib.Math.max.name, Cond.initialized "java/lang/Math"]
def wsX3_loses_r3 : List Cond := [Cond.code Lib.Math.max.name Lib.Math.max.code 2 (some .int), Cond.methodLink RX3 49 yX3_length, Cond.instanceMethod yX3_length, Cond.selects RX3 yX3_length yX3_length, Cond.code yX3_length cX3_length 1 (some .int), Cond.methodLink RX3 87 yX3_bank, Cond.instanceMethod yX3_bank, Cond.selects RX3 yX3_bank yX3_bank, Cond.code yX3_bank cX3_bank 2 (some .int), Cond.methodLink RX3 77 yX3_side, Cond.instanceMethod yX3_side, Cond.selects RX3 yX3_side yX3_side, Cond.code yX3_side cX3_side 3 (some .int), Cond.methodLink RX3 73 yX3_isStraight, Cond.instanceMethod yX3_isStraight, Cond.selects RX3 yX3_isStraight yX3_isStraight, Cond.code yX3_isStraight cX3_isStraight 2 (some .boolean), Cond.methodLink RX3 70 yX3_direction, Cond.instanceMethod yX3_direction, Cond.selects RX3 yX3_direction yX3_direction, Cond.code yX3_direction cX3_direction 3 (some .int), Cond.methodLink RX3 80 yX3_beside, Cond.static yX3_beside, Cond.code yX3_beside cX3_beside 4 (some .int)]
def wsX3_loses_r4 : List Cond := [Cond.methodLink RX3 53 yX3_isCell, Cond.static yX3_isCell, Cond.code yX3_isCell cX3_isCell 2 (some .boolean), Cond.methodLink RX3 90 yX3_canBulge, Cond.instanceMethod yX3_canBulge, Cond.selects RX3 yX3_canBulge yX3_canBulge, Cond.code yX3_canBulge cX3_canBulge 5 (some .boolean), Cond.methodLink RX3 93 yX3_bulge, Cond.instanceMethod yX3_bulge, Cond.selects RX3 yX3_bulge yX3_bulge, Cond.code yX3_bulge cX3_bulge 7 none, Cond.methodLink RX3 38 yX3_place, Cond.instanceMethod yX3_place, Cond.selects RX3 yX3_place yX3_place, Cond.code yX3_place cX3_place 2 none, Cond.methodLink RX3 124 yX3_flood, Cond.instanceMethod yX3_flood, Cond.selects RX3 yX3_flood yX3_flood, Cond.code yX3_flood cX3_flood 2 none, Cond.methodLink RX3 114 yX3_first, Cond.instanceMethod yX3_first, Cond.selects RX3 yX3_first yX3_first, Cond.code yX3_first cX3_first 3 (some .int), Cond.methodLink RX3 111 yX3_far]
def wsX3_loses_r5 : List Cond := [Cond.instanceMethod yX3_far, Cond.selects RX3 yX3_far yX3_far, Cond.code yX3_far cX3_far 5 (some .int), Cond.methodLink RX3 105 yX3_breakThrough, Cond.instanceMethod yX3_breakThrough, Cond.selects RX3 yX3_breakThrough yX3_breakThrough, Cond.code yX3_breakThrough cX3_breakThrough 4 none, Cond.methodLink RX3 127 yX3_bringBack, Cond.instanceMethod yX3_bringBack, Cond.selects RX3 yX3_bringBack yX3_bringBack, Cond.code yX3_bringBack cX3_bringBack 2 none, Cond.methodLink RX3 131 arraycopyName, Cond.native arraycopyName, Cond.static arraycopyName, Cond.initialized "java/lang/System"]
def wsX3_loses : List Cond := .code yX3_loses cX3_loses 6 (some .int) :: ((wsX3_loses_r1 ++ (wsX3_loses_r2 ++ (wsX3_loses_r3 ++ (wsX3_loses_r4 ++ wsX3_loses_r5)))) ++ wsX30)
def wsX3_advise_r1 : List Cond := [Cond.fieldLink RX3 41 "MeanderFarmModel" "thrown" "I", Cond.fieldLink RX3 29 "MeanderFarmModel" "wear" "[I", Cond.fieldLink RX3 13 "MeanderFarmModel" "stones" "[Z", Cond.methodLink RX3 137 yX3_isFarm, Cond.instanceMethod yX3_isFarm, Cond.selects RX3 yX3_isFarm yX3_isFarm, Cond.initialized RX3, Cond.code yX3_isFarm cX3_isFarm 2 (some .boolean), Cond.fieldLink RX3 64 "MeanderFarmModel" "farms" "I", Cond.methodLink RX3 45 yX3_isIn, Cond.static yX3_isIn, Cond.code yX3_isIn cX3_isIn 3 (some .boolean), Cond.methodLink RX3 57 yX3_fail, Cond.instanceMethod yX3_fail, Cond.selects RX3 yX3_fail yX3_fail, Cond.code yX3_fail cX3_fail 2 (some .int), Cond.methodLink RX3 120 yX3_kept, Cond.instanceMethod yX3_kept, Cond.selects RX3 yX3_kept yX3_kept, Cond.code yX3_kept cX3_kept 1 (some (.array (.array .int))), Cond.classLink RX3 153 "[I", Cond.fieldLink RX3 23 "MeanderFarmModel" "course" "[I", Cond.methodLink RX3 154 ⟨"[I", "clone", "()Ljava/lang/Object;"⟩, Cond.sameMethod "[I" "java/lang/Object" "clone" "()Ljava/lang/Object;"]
def wsX3_advise_r2 : List Cond := [Cond.native ⟨"java/lang/Object", "clone", "()Ljava/lang/Object;"⟩, Cond.instanceMethod ⟨"java/lang/Object", "clone", "()Ljava/lang/Object;"⟩, Cond.selects "[I" ⟨"[I", "clone", "()Ljava/lang/Object;"⟩ ⟨"java/lang/Object", "clone", "()Ljava/lang/Object;"⟩, Cond.fieldLink RX3 32 "MeanderFarmModel" "lake" "[I", Cond.fieldLink RX3 35 "MeanderFarmModel" "numbers" "[I", Cond.methodLink RX3 147 yX3_yearsOn, Cond.instanceMethod yX3_yearsOn, Cond.selects RX3 yX3_yearsOn yX3_yearsOn, Cond.code yX3_yearsOn cX3_yearsOn 4 (some .int), Cond.methodLink RX3 143 yX3_yearOn, Cond.instanceMethod yX3_yearOn, Cond.selects RX3 yX3_yearOn yX3_yearOn, Cond.code yX3_yearOn cX3_yearOn 6 (some .boolean), Cond.fieldLink RX3 17 "MeanderFarmModel" "flow" "[I", Cond.fieldLink RX3 26 "MeanderFarmModel" "where" "[I", Cond.fieldLink RX3 9 "MeanderFarmModel" "hardness" "[I", Cond.methodLink RX3 108 Lib.Math.max.name, Cond.static Lib.Math.max.name, Cond.initialized "java/lang/Math", Cond.code Lib.Math.max.name Lib.Math.max.code 2 (some .int), Cond.methodLink RX3 49 yX3_length, Cond.instanceMethod yX3_length, Cond.selects RX3 yX3_length yX3_length, Cond.code yX3_length cX3_length 1 (some .int)]
def wsX3_advise_r3 : List Cond := [Cond.methodLink RX3 87 yX3_bank, Cond.instanceMethod yX3_bank, Cond.selects RX3 yX3_bank yX3_bank, Cond.code yX3_bank cX3_bank 2 (some .int), Cond.methodLink RX3 77 yX3_side, Cond.instanceMethod yX3_side, Cond.selects RX3 yX3_side yX3_side, Cond.code yX3_side cX3_side 3 (some .int), Cond.methodLink RX3 73 yX3_isStraight, Cond.instanceMethod yX3_isStraight, Cond.selects RX3 yX3_isStraight yX3_isStraight, Cond.code yX3_isStraight cX3_isStraight 2 (some .boolean), Cond.methodLink RX3 70 yX3_direction, Cond.instanceMethod yX3_direction, Cond.selects RX3 yX3_direction yX3_direction, Cond.code yX3_direction cX3_direction 3 (some .int), Cond.methodLink RX3 80 yX3_beside, Cond.static yX3_beside, Cond.code yX3_beside cX3_beside 4 (some .int), Cond.methodLink RX3 53 yX3_isCell, Cond.static yX3_isCell, Cond.code yX3_isCell cX3_isCell 2 (some .boolean), Cond.methodLink RX3 90 yX3_canBulge, Cond.instanceMethod yX3_canBulge]
def wsX3_advise_r4 : List Cond := [Cond.selects RX3 yX3_canBulge yX3_canBulge, Cond.code yX3_canBulge cX3_canBulge 5 (some .boolean), Cond.methodLink RX3 93 yX3_bulge, Cond.instanceMethod yX3_bulge, Cond.selects RX3 yX3_bulge yX3_bulge, Cond.code yX3_bulge cX3_bulge 7 none, Cond.methodLink RX3 38 yX3_place, Cond.instanceMethod yX3_place, Cond.selects RX3 yX3_place yX3_place, Cond.code yX3_place cX3_place 2 none, Cond.methodLink RX3 124 yX3_flood, Cond.instanceMethod yX3_flood, Cond.selects RX3 yX3_flood yX3_flood, Cond.code yX3_flood cX3_flood 2 none, Cond.methodLink RX3 114 yX3_first, Cond.instanceMethod yX3_first, Cond.selects RX3 yX3_first yX3_first, Cond.code yX3_first cX3_first 3 (some .int), Cond.methodLink RX3 111 yX3_far, Cond.instanceMethod yX3_far, Cond.selects RX3 yX3_far yX3_far, Cond.code yX3_far cX3_far 5 (some .int), Cond.methodLink RX3 105 yX3_breakThrough, Cond.instanceMethod yX3_breakThrough]
def wsX3_advise_r5 : List Cond := [Cond.selects RX3 yX3_breakThrough yX3_breakThrough, Cond.code yX3_breakThrough cX3_breakThrough 4 none, Cond.methodLink RX3 140 yX3_farmTold, Cond.instanceMethod yX3_farmTold, Cond.selects RX3 yX3_farmTold yX3_farmTold, Cond.code yX3_farmTold cX3_farmTold 8 (some .int), Cond.methodLink RX3 67 yX3_isOf, Cond.instanceMethod yX3_isOf, Cond.selects RX3 yX3_isOf yX3_isOf, Cond.code yX3_isOf cX3_isOf 4 (some .boolean), Cond.fieldLink RX3 20 "MeanderFarmModel" "farmTable" "[I", Cond.methodLink RX3 127 yX3_bringBack, Cond.instanceMethod yX3_bringBack, Cond.selects RX3 yX3_bringBack yX3_bringBack, Cond.code yX3_bringBack cX3_bringBack 2 none, Cond.methodLink RX3 131 arraycopyName, Cond.native arraycopyName, Cond.static arraycopyName, Cond.initialized "java/lang/System"]
def wsX3_advise : List Cond := .code yX3_advise cX3_advise 8 (some .int) :: ((wsX3_advise_r1 ++ (wsX3_advise_r2 ++ (wsX3_advise_r3 ++ (wsX3_advise_r4 ++ wsX3_advise_r5)))) ++ wsX30)
def wsX3_winding : List Cond := .code yX3_winding cX3_winding 1 (some .double) :: ([.fieldLink RX3 41 "MeanderFarmModel" "thrown" "I", .constantDouble RX3 158 (4627448617123184640), .methodLink RX3 49 yX3_length, .instanceMethod yX3_length, .selects RX3 yX3_length yX3_length, .initialized RX3, .code yX3_length cX3_length 1 (some .int), .fieldLink RX3 35 "MeanderFarmModel" "numbers" "[I"] ++ wsX30)
def wsX3_digest_r1 : List Cond := [Cond.fieldLink RX3 41 "MeanderFarmModel" "thrown" "I", Cond.constantLong RX3 160 (599), Cond.constantLong RX3 162 (31), Cond.fieldLink RX3 17 "MeanderFarmModel" "flow" "[I", Cond.fieldLink RX3 23 "MeanderFarmModel" "course" "[I", Cond.fieldLink RX3 9 "MeanderFarmModel" "hardness" "[I", Cond.fieldLink RX3 29 "MeanderFarmModel" "wear" "[I", Cond.fieldLink RX3 13 "MeanderFarmModel" "stones" "[Z", Cond.fieldLink RX3 32 "MeanderFarmModel" "lake" "[I", Cond.fieldLink RX3 64 "MeanderFarmModel" "farms" "I", Cond.methodLink RX3 150 yX3_counted, Cond.instanceMethod yX3_counted, Cond.selects RX3 yX3_counted yX3_counted, Cond.initialized RX3, Cond.code yX3_counted cX3_counted 4 (some .int), Cond.fieldLink RX3 35 "MeanderFarmModel" "numbers" "[I", Cond.methodLink RX3 49 yX3_length, Cond.instanceMethod yX3_length, Cond.selects RX3 yX3_length yX3_length, Cond.code yX3_length cX3_length 1 (some .int), Cond.methodLink RX3 61 yX3_allStones, Cond.instanceMethod yX3_allStones, Cond.selects RX3 yX3_allStones yX3_allStones, Cond.code yX3_allStones cX3_allStones 6 (some .int)]
def wsX3_digest_r2 : List Cond := [Cond.methodLink RX3 73 yX3_isStraight, Cond.instanceMethod yX3_isStraight, Cond.selects RX3 yX3_isStraight yX3_isStraight, Cond.code yX3_isStraight cX3_isStraight 2 (some .boolean), Cond.methodLink RX3 70 yX3_direction, Cond.instanceMethod yX3_direction, Cond.selects RX3 yX3_direction yX3_direction, Cond.code yX3_direction cX3_direction 3 (some .int), Cond.methodLink RX3 140 yX3_farmTold, Cond.instanceMethod yX3_farmTold, Cond.selects RX3 yX3_farmTold yX3_farmTold, Cond.code yX3_farmTold cX3_farmTold 8 (some .int), Cond.fieldLink RX3 26 "MeanderFarmModel" "where" "[I", Cond.methodLink RX3 67 yX3_isOf, Cond.instanceMethod yX3_isOf, Cond.selects RX3 yX3_isOf yX3_isOf, Cond.code yX3_isOf cX3_isOf 4 (some .boolean), Cond.fieldLink RX3 20 "MeanderFarmModel" "farmTable" "[I", Cond.methodLink RX3 45 yX3_isIn, Cond.static yX3_isIn, Cond.code yX3_isIn cX3_isIn 3 (some .boolean)]
def wsX3_digest : List Cond := .code yX3_digest cX3_digest 7 (some .long) :: ((wsX3_digest_r1 ++ wsX3_digest_r2) ++ wsX30)
def wsJ9_abs_0f7a4 : List Cond := .code yJ9_abs_0f7a4 cJ9_abs_0f7a4 1 (some .int) :: ([])
def wsJ9_max_7cf53 : List Cond := .code yJ9_max_7cf53 cJ9_max_7cf53 2 (some .int) :: ([])
def wsL_setHardness : List Cond := .codeWith yL_setHardness cL_setHardness 6 (some .int) [(0, 12, 15, 13), (0, 12, 19, 15)] :: ([.classLink RL 13 "java/lang/IndexOutOfBoundsException", .classLink RL 15 "java/lang/IllegalArgumentException", .methodLink RL 7 yX2_setHardness, .instanceMethod yX2_setHardness, .selects RX2 yX2_setHardness yX2_setHardness, .initialized RX2, .code yX2_setHardness cX2_setHardness 6 (some .int), .classLink RX2 38 "java/lang/IndexOutOfBoundsException", .initialized "java/lang/IndexOutOfBoundsException", .classLink RX2 48 "java/lang/IllegalArgumentException", .initialized "java/lang/IllegalArgumentException", .fieldLink RX2 16 "MeanderFarm" "now" "LMeanderFarm$River;", .methodLink RX2 30 yX2_cellNumber, .static yX2_cellNumber, .code yX2_cellNumber cX2_cellNumber 2 (some .int), .methodLink RX2 34 yX2_isCell, .static yX2_isCell, .code yX2_isCell cX2_isCell 1 (some .boolean), .methodLink RX2 45 yX2_isGrade, .static yX2_isGrade, .code yX2_isGrade cX2_isGrade 1 (some .boolean)] ++ wsX20 ++ wsX10 ++ (vx_atS RX2 42 "java/lang/IndexOutOfBoundsException" ["java/lang/RuntimeException", "java/lang/Exception"]).filter goodWord ++ (vx_atS RX2 52 "java/lang/IllegalArgumentException" ["java/lang/RuntimeException", "java/lang/Exception"]).filter goodWord)
def wsL_setStones : List Cond := .codeWith yL_setStones cL_setStones 6 (some .int) [(0, 12, 15, 13)] :: ([.classLink RL 13 "java/lang/IndexOutOfBoundsException", .methodLink RL 17 yX2_setStones, .instanceMethod yX2_setStones, .selects RX2 yX2_setStones yX2_setStones, .initialized RX2, .code yX2_setStones cX2_setStones 5 (some .int), .classLink RX2 38 "java/lang/IndexOutOfBoundsException", .initialized "java/lang/IndexOutOfBoundsException", .fieldLink RX2 16 "MeanderFarm" "now" "LMeanderFarm$River;", .methodLink RX2 30 yX2_cellNumber, .static yX2_cellNumber, .code yX2_cellNumber cX2_cellNumber 2 (some .int), .methodLink RX2 34 yX2_isCell, .static yX2_isCell, .code yX2_isCell cX2_isCell 1 (some .boolean), .instanceMethod yX1_cellsWithStones, .initialized RX1, .selects RX1 yX1_cellsWithStones yX1_cellsWithStones, .code yX1_cellsWithStones cX1_cellsWithStones 3 (some .int), .fieldLink RX1 18 "MeanderFarm$River" "stones" "[Z"] ++ wsX20 ++ wsX10 ++ (vx_atS RX2 42 "java/lang/IndexOutOfBoundsException" ["java/lang/RuntimeException", "java/lang/Exception"]).filter goodWord)
def wsL_setFlow : List Cond := .codeWith yL_setFlow cL_setFlow 5 (some .int) [(0, 10, 13, 13), (0, 10, 17, 15)] :: ([.classLink RL 13 "java/lang/IndexOutOfBoundsException", .classLink RL 15 "java/lang/IllegalArgumentException", .methodLink RL 21 yX2_setFlow, .instanceMethod yX2_setFlow, .selects RX2 yX2_setFlow yX2_setFlow, .initialized RX2, .code yX2_setFlow cX2_setFlow 4 (some .int), .classLink RX2 38 "java/lang/IndexOutOfBoundsException", .initialized "java/lang/IndexOutOfBoundsException", .classLink RX2 48 "java/lang/IllegalArgumentException", .initialized "java/lang/IllegalArgumentException", .fieldLink RX2 16 "MeanderFarm" "now" "LMeanderFarm$River;", .methodLink RX2 45 yX2_isGrade, .static yX2_isGrade, .code yX2_isGrade cX2_isGrade 1 (some .boolean)] ++ wsX20 ++ wsX10 ++ (vx_atS RX2 42 "java/lang/IndexOutOfBoundsException" ["java/lang/RuntimeException", "java/lang/Exception"]).filter goodWord ++ (vx_atS RX2 52 "java/lang/IllegalArgumentException" ["java/lang/RuntimeException", "java/lang/Exception"]).filter goodWord)
def wsL_cell_r1 : List Cond := [Cond.classLink RL 13 "java/lang/IndexOutOfBoundsException", Cond.methodLink RL 25 yX2_cell, Cond.instanceMethod yX2_cell, Cond.selects RX2 yX2_cell yX2_cell, Cond.initialized RX2, Cond.code yX2_cell cX2_cell 5 (some .int), Cond.classLink RX2 38 "java/lang/IndexOutOfBoundsException", Cond.initialized "java/lang/IndexOutOfBoundsException", Cond.fieldLink RX2 16 "MeanderFarm" "now" "LMeanderFarm$River;", Cond.fieldLink RX2 26 "MeanderFarm" "farms" "LMeanderFarm$Farms;", Cond.methodLink RX2 30 yX2_cellNumber, Cond.static yX2_cellNumber, Cond.code yX2_cellNumber cX2_cellNumber 2 (some .int), Cond.methodLink RX2 34 yX2_isCell, Cond.static yX2_isCell, Cond.code yX2_isCell cX2_isCell 1 (some .boolean), Cond.instanceMethod yX1_lakeYearsLeft, Cond.initialized RX1, Cond.selects RX1 yX1_lakeYearsLeft yX1_lakeYearsLeft, Cond.code yX1_lakeYearsLeft cX1_lakeYearsLeft 2 (some .int), Cond.fieldLink RX1 22 "MeanderFarm$River" "lakeEnd" "[I", Cond.fieldLink RX1 60 "MeanderFarm$River" "year" "I", Cond.methodLink RX1 73 Lib.Math.max.name, Cond.static Lib.Math.max.name]
def wsL_cell_r2 : List Cond := [Cond.initialized "java/lang/Math", Cond.code Lib.Math.max.name Lib.Math.max.code 2 (some .int), Cond.instanceMethod yX0_farmsAt, Cond.initialized RX0, Cond.selects RX0 yX0_farmsAt yX0_farmsAt, Cond.code yX0_farmsAt cX0_farmsAt 5 (some .int), Cond.fieldLink RX0 24 "MeanderFarm$Farms" "size" "I", Cond.fieldLink RX0 9 "MeanderFarm$Farms" "column" "[I", Cond.fieldLink RX0 18 "MeanderFarm$Farms" "wide" "[I", Cond.fieldLink RX0 15 "MeanderFarm$Farms" "row" "[I", Cond.fieldLink RX0 21 "MeanderFarm$Farms" "deep" "[I"]
def wsL_cell : List Cond := .codeWith yL_cell cL_cell 6 (some .int) [(0, 12, 15, 13)] :: ((wsL_cell_r1 ++ wsL_cell_r2) ++ wsX20 ++ wsX10 ++ wsX00 ++ (vx_atS RX2 42 "java/lang/IndexOutOfBoundsException" ["java/lang/RuntimeException", "java/lang/Exception"]).filter goodWord)
def wsL_course : List Cond := .codeWith yL_course cL_course 5 (some .int) [(0, 10, 13, 13)] :: ([.classLink RL 13 "java/lang/IndexOutOfBoundsException", .methodLink RL 28 yX2_course, .instanceMethod yX2_course, .selects RX2 yX2_course yX2_course, .initialized RX2, .code yX2_course cX2_course 3 (some .int), .classLink RX2 38 "java/lang/IndexOutOfBoundsException", .initialized "java/lang/IndexOutOfBoundsException", .fieldLink RX2 16 "MeanderFarm" "now" "LMeanderFarm$River;", .instanceMethod yX1_isInCourse, .initialized RX1, .selects RX1 yX1_isInCourse yX1_isInCourse, .code yX1_isInCourse cX1_isInCourse 2 (some .boolean), .fieldLink RX1 46 "MeanderFarm$River" "length" "I", .instanceMethod yX1_isStraight, .selects RX1 yX1_isStraight yX1_isStraight, .code yX1_isStraight cX1_isStraight 2 (some .boolean), .fieldLink RX1 37 "MeanderFarm$River" "direction" "[I", .methodLink RX1 66 yX1_isInCourse] ++ wsX20 ++ wsX10 ++ (vx_atS RX2 42 "java/lang/IndexOutOfBoundsException" ["java/lang/RuntimeException", "java/lang/Exception"]).filter goodWord)
def wsL_slip_r1 : List Cond := [Cond.classLink RL 13 "java/lang/IndexOutOfBoundsException", Cond.classLink RL 15 "java/lang/IllegalArgumentException", Cond.classLink RL 34 "java/lang/IllegalStateException", Cond.methodLink RL 31 yX2_slip, Cond.instanceMethod yX2_slip, Cond.selects RX2 yX2_slip yX2_slip, Cond.initialized RX2, Cond.code yX2_slip cX2_slip 3 (some .int), Cond.classLink RX2 38 "java/lang/IndexOutOfBoundsException", Cond.initialized "java/lang/IndexOutOfBoundsException", Cond.classLink RX2 48 "java/lang/IllegalArgumentException", Cond.initialized "java/lang/IllegalArgumentException", Cond.classLink RX2 114 "java/lang/IllegalStateException", Cond.initialized "java/lang/IllegalStateException", Cond.fieldLink RX2 16 "MeanderFarm" "now" "LMeanderFarm$River;", Cond.instanceMethod yX1_isInCourse, Cond.initialized RX1, Cond.selects RX1 yX1_isInCourse yX1_isInCourse, Cond.code yX1_isInCourse cX1_isInCourse 2 (some .boolean), Cond.fieldLink RX1 46 "MeanderFarm$River" "length" "I", Cond.instanceMethod yX1_canBulge, Cond.selects RX1 yX1_canBulge yX1_canBulge, Cond.code yX1_canBulge cX1_canBulge 4 (some .boolean), Cond.fieldLink RX1 37 "MeanderFarm$River" "direction" "[I"]
def wsL_slip_r2 : List Cond := [Cond.methodLink RX1 92 yX1_isStraight, Cond.instanceMethod yX1_isStraight, Cond.selects RX1 yX1_isStraight yX1_isStraight, Cond.code yX1_isStraight cX1_isStraight 2 (some .boolean), Cond.methodLink RX1 66 yX1_isInCourse, Cond.methodLink RX1 79 yX1_cellAt, Cond.instanceMethod yX1_cellAt, Cond.selects RX1 yX1_cellAt yX1_cellAt, Cond.code yX1_cellAt cX1_cellAt 2 (some .int), Cond.fieldLink RX1 31 "MeanderFarm$River" "course" "[I", Cond.static yX2_neighbour, Cond.code yX2_neighbour cX2_neighbour 3 (some .int), Cond.methodLink RX1 95 yX1_isOpen, Cond.instanceMethod yX1_isOpen, Cond.selects RX1 yX1_isOpen yX1_isOpen, Cond.code yX1_isOpen cX1_isOpen 2 (some .boolean), Cond.fieldLink RX1 34 "MeanderFarm$River" "place" "[I", Cond.fieldLink RX1 18 "MeanderFarm$River" "stones" "[Z", Cond.static yX2_isCell, Cond.code yX2_isCell cX2_isCell 1 (some .boolean), Cond.instanceMethod yX1_bulge, Cond.selects RX1 yX1_bulge yX1_bulge, Cond.code yX1_bulge cX1_bulge 7 none, Cond.methodLink RX1 54 arraycopyName]
def wsL_slip_r3 : List Cond := [Cond.native arraycopyName, Cond.static arraycopyName, Cond.initialized "java/lang/System", Cond.methodLink RX1 98 yX1_canBulge, Cond.methodLink RX1 102 yX1_takeIntoCourse, Cond.instanceMethod yX1_takeIntoCourse, Cond.selects RX1 yX1_takeIntoCourse yX1_takeIntoCourse, Cond.code yX1_takeIntoCourse cX1_takeIntoCourse 3 none, Cond.fieldLink RX1 15 "MeanderFarm$River" "wear" "[I", Cond.fieldLink RX1 22 "MeanderFarm$River" "lakeEnd" "[I", Cond.fieldLink RX1 25 "MeanderFarm$River" "bulgedInto" "[Z", Cond.methodLink RX1 50 yX1_followCourse, Cond.instanceMethod yX1_followCourse, Cond.selects RX1 yX1_followCourse yX1_followCourse, Cond.code yX1_followCourse cX1_followCourse 4 none, Cond.methodLink RX1 73 Lib.Math.max.name, Cond.static Lib.Math.max.name, Cond.initialized "java/lang/Math", Cond.code Lib.Math.max.name Lib.Math.max.code 2 (some .int), Cond.static yX2_directionTo, Cond.code yX2_directionTo cX2_directionTo 4 (some .int), Cond.methodLink RX2 229 yX2_neighbour, Cond.methodLink RX1 86 yX1_throwCells, Cond.instanceMethod yX1_throwCells]
def wsL_slip_r4 : List Cond := [Cond.selects RX1 yX1_throwCells yX1_throwCells, Cond.code yX1_throwCells cX1_throwCells 3 none, Cond.fieldLink RX1 40 "MeanderFarm$River" "thrown" "[I", Cond.fieldLink RX1 43 "MeanderFarm$River" "bank" "[I"]
def wsL_slip : List Cond := .codeWith yL_slip cL_slip 5 (some .int) [(0, 10, 13, 13), (0, 10, 17, 15), (0, 10, 21, 34)] :: ((wsL_slip_r1 ++ (wsL_slip_r2 ++ (wsL_slip_r3 ++ wsL_slip_r4))) ++ wsX20 ++ wsX10 ++ (vx_atS RX2 42 "java/lang/IndexOutOfBoundsException" ["java/lang/RuntimeException", "java/lang/Exception"]).filter goodWord ++ (vx_atS RX2 52 "java/lang/IllegalArgumentException" ["java/lang/RuntimeException", "java/lang/Exception"]).filter goodWord ++ (vx_atS RX2 118 "java/lang/IllegalStateException" ["java/lang/RuntimeException", "java/lang/Exception"]).filter goodWord)
def wsL_dig_r1 : List Cond := [Cond.classLink RL 13 "java/lang/IndexOutOfBoundsException", Cond.classLink RL 34 "java/lang/IllegalStateException", Cond.methodLink RL 36 yX2_dig, Cond.instanceMethod yX2_dig, Cond.selects RX2 yX2_dig yX2_dig, Cond.initialized RX2, Cond.code yX2_dig cX2_dig 3 (some .int), Cond.classLink RX2 38 "java/lang/IndexOutOfBoundsException", Cond.initialized "java/lang/IndexOutOfBoundsException", Cond.classLink RX2 114 "java/lang/IllegalStateException", Cond.initialized "java/lang/IllegalStateException", Cond.fieldLink RX2 16 "MeanderFarm" "now" "LMeanderFarm$River;", Cond.instanceMethod yX1_isInCourse, Cond.initialized RX1, Cond.selects RX1 yX1_isInCourse yX1_isInCourse, Cond.code yX1_isInCourse cX1_isInCourse 2 (some .boolean), Cond.fieldLink RX1 46 "MeanderFarm$River" "length" "I", Cond.instanceMethod yX1_isNeck, Cond.selects RX1 yX1_isNeck yX1_isNeck, Cond.code yX1_isNeck cX1_isNeck 3 (some .boolean), Cond.fieldLink RX1 31 "MeanderFarm$River" "course" "[I", Cond.methodLink RX1 66 yX1_isInCourse, Cond.static yX2_directionTo, Cond.code yX2_directionTo cX2_directionTo 4 (some .int)]
def wsL_dig_r2 : List Cond := [Cond.methodLink RX2 229 yX2_neighbour, Cond.static yX2_neighbour, Cond.code yX2_neighbour cX2_neighbour 3 (some .int), Cond.instanceMethod yX1_breakThrough, Cond.selects RX1 yX1_breakThrough yX1_breakThrough, Cond.code yX1_breakThrough cX1_breakThrough 5 none, Cond.fieldLink RX1 34 "MeanderFarm$River" "place" "[I", Cond.fieldLink RX1 22 "MeanderFarm$River" "lakeEnd" "[I", Cond.fieldLink RX1 60 "MeanderFarm$River" "year" "I", Cond.methodLink RX1 54 arraycopyName, Cond.native arraycopyName, Cond.static arraycopyName, Cond.initialized "java/lang/System", Cond.fieldLink RX1 63 "MeanderFarm$River" "breaks" "I", Cond.methodLink RX1 112 yX1_isNeck, Cond.methodLink RX1 79 yX1_cellAt, Cond.instanceMethod yX1_cellAt, Cond.selects RX1 yX1_cellAt yX1_cellAt, Cond.code yX1_cellAt cX1_cellAt 2 (some .int), Cond.static yX2_isCell, Cond.code yX2_isCell cX2_isCell 1 (some .boolean), Cond.methodLink RX1 50 yX1_followCourse, Cond.instanceMethod yX1_followCourse, Cond.selects RX1 yX1_followCourse yX1_followCourse]
def wsL_dig_r3 : List Cond := [Cond.code yX1_followCourse cX1_followCourse 4 none, Cond.methodLink RX1 73 Lib.Math.max.name, Cond.static Lib.Math.max.name, Cond.initialized "java/lang/Math", Cond.code Lib.Math.max.name Lib.Math.max.code 2 (some .int), Cond.fieldLink RX1 37 "MeanderFarm$River" "direction" "[I", Cond.methodLink RX1 86 yX1_throwCells, Cond.instanceMethod yX1_throwCells, Cond.selects RX1 yX1_throwCells yX1_throwCells, Cond.code yX1_throwCells cX1_throwCells 3 none, Cond.fieldLink RX1 40 "MeanderFarm$River" "thrown" "[I", Cond.fieldLink RX1 43 "MeanderFarm$River" "bank" "[I"]
def wsL_dig : List Cond := .codeWith yL_dig cL_dig 5 (some .int) [(0, 10, 13, 13), (0, 10, 17, 34)] :: ((wsL_dig_r1 ++ (wsL_dig_r2 ++ wsL_dig_r3)) ++ wsX20 ++ wsX10 ++ (vx_atS RX2 42 "java/lang/IndexOutOfBoundsException" ["java/lang/RuntimeException", "java/lang/Exception"]).filter goodWord ++ (vx_atS RX2 118 "java/lang/IllegalStateException" ["java/lang/RuntimeException", "java/lang/Exception"]).filter goodWord)
def wsL_neck_r1 : List Cond := [Cond.classLink RL 13 "java/lang/IndexOutOfBoundsException", Cond.methodLink RL 39 yX2_neck, Cond.instanceMethod yX2_neck, Cond.selects RX2 yX2_neck yX2_neck, Cond.initialized RX2, Cond.code yX2_neck cX2_neck 2 (some .int), Cond.classLink RX2 38 "java/lang/IndexOutOfBoundsException", Cond.initialized "java/lang/IndexOutOfBoundsException", Cond.fieldLink RX2 16 "MeanderFarm" "now" "LMeanderFarm$River;", Cond.fieldLink RX2 20 "MeanderFarm" "ahead" "LMeanderFarm$River;", Cond.instanceMethod yX1_necks, Cond.initialized RX1, Cond.selects RX1 yX1_necks yX1_necks, Cond.code yX1_necks cX1_necks 4 (some .int), Cond.fieldLink RX1 46 "MeanderFarm$River" "length" "I", Cond.fieldLink RX1 31 "MeanderFarm$River" "course" "[I", Cond.static yX2_neighbour, Cond.code yX2_neighbour cX2_neighbour 3 (some .int), Cond.methodLink RX1 106 yX1_placeOf, Cond.instanceMethod yX1_placeOf, Cond.selects RX1 yX1_placeOf yX1_placeOf, Cond.code yX1_placeOf cX1_placeOf 2 (some .int), Cond.fieldLink RX1 34 "MeanderFarm$River" "place" "[I", Cond.static yX2_isCell]
def wsL_neck_r2 : List Cond := [Cond.code yX2_isCell cX2_isCell 1 (some .boolean), Cond.instanceMethod yX1_widestNeck, Cond.selects RX1 yX1_widestNeck yX1_widestNeck, Cond.code yX1_widestNeck cX1_widestNeck 5 (some .int), Cond.methodLink RX1 109 yX1_farthestAcross, Cond.instanceMethod yX1_farthestAcross, Cond.selects RX1 yX1_farthestAcross yX1_farthestAcross, Cond.code yX1_farthestAcross cX1_farthestAcross 5 (some .int), Cond.methodLink RX1 79 yX1_cellAt, Cond.instanceMethod yX1_cellAt, Cond.selects RX1 yX1_cellAt yX1_cellAt, Cond.code yX1_cellAt cX1_cellAt 2 (some .int), Cond.methodLink RX1 66 yX1_isInCourse, Cond.instanceMethod yX1_isInCourse, Cond.selects RX1 yX1_isInCourse yX1_isInCourse, Cond.code yX1_isInCourse cX1_isInCourse 2 (some .boolean), Cond.instanceMethod yX1_copyFrom, Cond.selects RX1 yX1_copyFrom yX1_copyFrom, Cond.code yX1_copyFrom cX1_copyFrom 3 none, Cond.fieldLink RX1 9 "MeanderFarm$River" "hardness" "[I", Cond.methodLink RX1 54 arraycopyName, Cond.native arraycopyName, Cond.static arraycopyName, Cond.initialized "java/lang/System"]
def wsL_neck_r3 : List Cond := [Cond.fieldLink RX1 15 "MeanderFarm$River" "wear" "[I", Cond.fieldLink RX1 18 "MeanderFarm$River" "stones" "[Z", Cond.fieldLink RX1 22 "MeanderFarm$River" "lakeEnd" "[I", Cond.fieldLink RX1 28 "MeanderFarm$River" "flow" "[I", Cond.fieldLink RX1 37 "MeanderFarm$River" "direction" "[I", Cond.fieldLink RX1 40 "MeanderFarm$River" "thrown" "[I", Cond.fieldLink RX1 43 "MeanderFarm$River" "bank" "[I", Cond.fieldLink RX1 60 "MeanderFarm$River" "year" "I", Cond.fieldLink RX1 63 "MeanderFarm$River" "breaks" "I", Cond.fieldLink RX1 25 "MeanderFarm$River" "bulgedInto" "[Z", Cond.instanceMethod yX1_flood, Cond.selects RX1 yX1_flood yX1_flood, Cond.code yX1_flood cX1_flood 3 none, Cond.methodLink RX1 131 yX1_widestNeck, Cond.methodLink RX1 135 yX1_breakThrough, Cond.instanceMethod yX1_breakThrough, Cond.selects RX1 yX1_breakThrough yX1_breakThrough, Cond.code yX1_breakThrough cX1_breakThrough 5 none, Cond.methodLink RX1 112 yX1_isNeck, Cond.instanceMethod yX1_isNeck, Cond.selects RX1 yX1_isNeck yX1_isNeck, Cond.code yX1_isNeck cX1_isNeck 3 (some .boolean), Cond.static yX2_directionTo, Cond.code yX2_directionTo cX2_directionTo 4 (some .int)]
def wsL_neck_r4 : List Cond := [Cond.methodLink RX2 229 yX2_neighbour, Cond.methodLink RX1 50 yX1_followCourse, Cond.instanceMethod yX1_followCourse, Cond.selects RX1 yX1_followCourse yX1_followCourse, Cond.code yX1_followCourse cX1_followCourse 4 none, Cond.methodLink RX1 73 Lib.Math.max.name, Cond.static Lib.Math.max.name, Cond.initialized "java/lang/Math", Cond.code Lib.Math.max.name Lib.Math.max.code 2 (some .int), Cond.methodLink RX1 86 yX1_throwCells, Cond.instanceMethod yX1_throwCells, Cond.selects RX1 yX1_throwCells yX1_throwCells, Cond.code yX1_throwCells cX1_throwCells 3 none]
def wsL_neck : List Cond := .codeWith yL_neck cL_neck 4 (some .int) [(0, 9, 12, 13)] :: ((wsL_neck_r1 ++ (wsL_neck_r2 ++ (wsL_neck_r3 ++ wsL_neck_r4))) ++ wsX20 ++ wsX10 ++ (vx_atS RX2 42 "java/lang/IndexOutOfBoundsException" ["java/lang/RuntimeException", "java/lang/Exception"]).filter goodWord)
def wsL_addFarm : List Cond := .codeWith yL_addFarm cL_addFarm 7 (some .int) [(0, 14, 17, 15), (0, 14, 21, 34)] :: ([.classLink RL 15 "java/lang/IllegalArgumentException", .classLink RL 34 "java/lang/IllegalStateException", .methodLink RL 43 yX2_addFarm, .instanceMethod yX2_addFarm, .selects RX2 yX2_addFarm yX2_addFarm, .initialized RX2, .code yX2_addFarm cX2_addFarm 5 (some .int), .classLink RX2 48 "java/lang/IllegalArgumentException", .initialized "java/lang/IllegalArgumentException", .classLink RX2 114 "java/lang/IllegalStateException", .initialized "java/lang/IllegalStateException", .fieldLink RX2 26 "MeanderFarm" "farms" "LMeanderFarm$Farms;", .methodLink RX2 153 yX2_isSpan, .static yX2_isSpan, .code yX2_isSpan cX2_isSpan 3 (some .boolean), .instanceMethod yX0_append, .initialized RX0, .selects RX0 yX0_append yX0_append, .code yX0_append cX0_append 6 (some .int), .fieldLink RX0 24 "MeanderFarm$Farms" "size" "I", .fieldLink RX0 9 "MeanderFarm$Farms" "column" "[I", .fieldLink RX0 15 "MeanderFarm$Farms" "row" "[I", .fieldLink RX0 18 "MeanderFarm$Farms" "wide" "[I", .fieldLink RX0 21 "MeanderFarm$Farms" "deep" "[I"] ++ wsX20 ++ wsX00 ++ (vx_atS RX2 52 "java/lang/IllegalArgumentException" ["java/lang/RuntimeException", "java/lang/Exception"]).filter goodWord ++ (vx_atS RX2 118 "java/lang/IllegalStateException" ["java/lang/RuntimeException", "java/lang/Exception"]).filter goodWord)
def wsL_farm_r1 : List Cond := [Cond.classLink RL 13 "java/lang/IndexOutOfBoundsException", Cond.methodLink RL 47 yX2_farm, Cond.instanceMethod yX2_farm, Cond.selects RX2 yX2_farm yX2_farm, Cond.initialized RX2, Cond.code yX2_farm cX2_farm 3 (some .int), Cond.classLink RX2 38 "java/lang/IndexOutOfBoundsException", Cond.initialized "java/lang/IndexOutOfBoundsException", Cond.fieldLink RX2 26 "MeanderFarm" "farms" "LMeanderFarm$Farms;", Cond.fieldLink RX2 16 "MeanderFarm" "now" "LMeanderFarm$River;", Cond.instanceMethod yX0_isFarm, Cond.initialized RX0, Cond.selects RX0 yX0_isFarm yX0_isFarm, Cond.code yX0_isFarm cX0_isFarm 2 (some .boolean), Cond.fieldLink RX0 24 "MeanderFarm$Farms" "size" "I", Cond.instanceMethod yX0_cellsOf, Cond.selects RX0 yX0_cellsOf yX0_cellsOf, Cond.code yX0_cellsOf cX0_cellsOf 7 (some .int), Cond.fieldLink RX0 15 "MeanderFarm$Farms" "row" "[I", Cond.fieldLink RX0 21 "MeanderFarm$Farms" "deep" "[I", Cond.fieldLink RX0 9 "MeanderFarm$Farms" "column" "[I", Cond.fieldLink RX0 18 "MeanderFarm$Farms" "wide" "[I", Cond.methodLink RX0 28 yX0_isFarm, Cond.static yX2_cellNumber]
def wsL_farm_r2 : List Cond := [Cond.code yX2_cellNumber cX2_cellNumber 2 (some .int), Cond.methodLink RX0 36 yX0_isCounted, Cond.static yX0_isCounted, Cond.code yX0_isCounted cX0_isCounted 5 (some .boolean), Cond.static yX2_isCell, Cond.code yX2_isCell cX2_isCell 1 (some .boolean), Cond.instanceMethod yX1_lakeYearsLeft, Cond.initialized RX1, Cond.selects RX1 yX1_lakeYearsLeft yX1_lakeYearsLeft, Cond.code yX1_lakeYearsLeft cX1_lakeYearsLeft 2 (some .int), Cond.fieldLink RX1 22 "MeanderFarm$River" "lakeEnd" "[I", Cond.fieldLink RX1 60 "MeanderFarm$River" "year" "I", Cond.methodLink RX1 73 Lib.Math.max.name, Cond.static Lib.Math.max.name, Cond.initialized "java/lang/Math", Cond.code Lib.Math.max.name Lib.Math.max.code 2 (some .int)]
def wsL_farm : List Cond := .codeWith yL_farm cL_farm 5 (some .int) [(0, 10, 13, 13)] :: ((wsL_farm_r1 ++ wsL_farm_r2) ++ wsX20 ++ wsX00 ++ wsX10 ++ (vx_atS RX2 42 "java/lang/IndexOutOfBoundsException" ["java/lang/RuntimeException", "java/lang/Exception"]).filter goodWord)
def wsL_pass_r1 : List Cond := [Cond.classLink RL 15 "java/lang/IllegalArgumentException", Cond.methodLink RL 50 yX2_pass, Cond.instanceMethod yX2_pass, Cond.selects RX2 yX2_pass yX2_pass, Cond.initialized RX2, Cond.code yX2_pass cX2_pass 2 (some .int), Cond.classLink RX2 48 "java/lang/IllegalArgumentException", Cond.initialized "java/lang/IllegalArgumentException", Cond.fieldLink RX2 16 "MeanderFarm" "now" "LMeanderFarm$River;", Cond.instanceMethod yX1_letPass, Cond.initialized RX1, Cond.selects RX1 yX1_letPass yX1_letPass, Cond.code yX1_letPass cX1_letPass 5 (some .int), Cond.fieldLink RX1 28 "MeanderFarm$River" "flow" "[I", Cond.fieldLink RX1 60 "MeanderFarm$River" "year" "I", Cond.methodLink RX1 115 yJ9_floorMod_7cf53, Cond.static yJ9_floorMod_7cf53, Cond.initialized RJ9, Cond.code yJ9_floorMod_7cf53 cJ9_floorMod_7cf53 3 (some .int), Cond.methodLink RX1 118 yX1_wearBanks, Cond.instanceMethod yX1_wearBanks, Cond.selects RX1 yX1_wearBanks yX1_wearBanks, Cond.code yX1_wearBanks cX1_wearBanks 4 none, Cond.fieldLink RX1 46 "MeanderFarm$River" "length" "I"]
def wsL_pass_r2 : List Cond := [Cond.fieldLink RX1 43 "MeanderFarm$River" "bank" "[I", Cond.fieldLink RX1 15 "MeanderFarm$River" "wear" "[I", Cond.methodLink RX1 95 yX1_isOpen, Cond.instanceMethod yX1_isOpen, Cond.selects RX1 yX1_isOpen yX1_isOpen, Cond.code yX1_isOpen cX1_isOpen 2 (some .boolean), Cond.fieldLink RX1 34 "MeanderFarm$River" "place" "[I", Cond.fieldLink RX1 18 "MeanderFarm$River" "stones" "[Z", Cond.static yX2_isCell, Cond.code yX2_isCell cX2_isCell 1 (some .boolean), Cond.methodLink RX1 121 yX1_bulgeWhereRipest, Cond.instanceMethod yX1_bulgeWhereRipest, Cond.selects RX1 yX1_bulgeWhereRipest yX1_bulgeWhereRipest, Cond.code yX1_bulgeWhereRipest cX1_bulgeWhereRipest 6 (some .boolean), Cond.fieldLink RX1 9 "MeanderFarm$River" "hardness" "[I", Cond.fieldLink RX1 40 "MeanderFarm$River" "thrown" "[I", Cond.methodLink RX1 98 yX1_canBulge, Cond.instanceMethod yX1_canBulge, Cond.selects RX1 yX1_canBulge yX1_canBulge, Cond.code yX1_canBulge cX1_canBulge 4 (some .boolean), Cond.fieldLink RX1 37 "MeanderFarm$River" "direction" "[I", Cond.methodLink RX1 92 yX1_isStraight, Cond.instanceMethod yX1_isStraight, Cond.selects RX1 yX1_isStraight yX1_isStraight]
def wsL_pass_r3 : List Cond := [Cond.code yX1_isStraight cX1_isStraight 2 (some .boolean), Cond.methodLink RX1 66 yX1_isInCourse, Cond.instanceMethod yX1_isInCourse, Cond.selects RX1 yX1_isInCourse yX1_isInCourse, Cond.code yX1_isInCourse cX1_isInCourse 2 (some .boolean), Cond.methodLink RX1 79 yX1_cellAt, Cond.instanceMethod yX1_cellAt, Cond.selects RX1 yX1_cellAt yX1_cellAt, Cond.code yX1_cellAt cX1_cellAt 2 (some .int), Cond.fieldLink RX1 31 "MeanderFarm$River" "course" "[I", Cond.static yX2_neighbour, Cond.code yX2_neighbour cX2_neighbour 3 (some .int), Cond.methodLink RX1 128 yX1_bulge, Cond.instanceMethod yX1_bulge, Cond.selects RX1 yX1_bulge yX1_bulge, Cond.code yX1_bulge cX1_bulge 7 none, Cond.methodLink RX1 54 arraycopyName, Cond.native arraycopyName, Cond.static arraycopyName, Cond.initialized "java/lang/System", Cond.methodLink RX1 102 yX1_takeIntoCourse, Cond.instanceMethod yX1_takeIntoCourse, Cond.selects RX1 yX1_takeIntoCourse yX1_takeIntoCourse, Cond.code yX1_takeIntoCourse cX1_takeIntoCourse 3 none]
def wsL_pass_r4 : List Cond := [Cond.fieldLink RX1 22 "MeanderFarm$River" "lakeEnd" "[I", Cond.fieldLink RX1 25 "MeanderFarm$River" "bulgedInto" "[Z", Cond.methodLink RX1 50 yX1_followCourse, Cond.instanceMethod yX1_followCourse, Cond.selects RX1 yX1_followCourse yX1_followCourse, Cond.code yX1_followCourse cX1_followCourse 4 none, Cond.methodLink RX1 73 Lib.Math.max.name, Cond.static Lib.Math.max.name, Cond.initialized "java/lang/Math", Cond.code Lib.Math.max.name Lib.Math.max.code 2 (some .int), Cond.static yX2_directionTo, Cond.code yX2_directionTo cX2_directionTo 4 (some .int), Cond.methodLink RX2 229 yX2_neighbour, Cond.methodLink RX1 86 yX1_throwCells, Cond.instanceMethod yX1_throwCells, Cond.selects RX1 yX1_throwCells yX1_throwCells, Cond.code yX1_throwCells cX1_throwCells 3 none, Cond.methodLink RX1 125 yX1_flood, Cond.instanceMethod yX1_flood, Cond.selects RX1 yX1_flood yX1_flood, Cond.code yX1_flood cX1_flood 3 none, Cond.methodLink RX1 131 yX1_widestNeck, Cond.instanceMethod yX1_widestNeck, Cond.selects RX1 yX1_widestNeck yX1_widestNeck]
def wsL_pass_r5 : List Cond := [Cond.code yX1_widestNeck cX1_widestNeck 5 (some .int), Cond.methodLink RX1 109 yX1_farthestAcross, Cond.instanceMethod yX1_farthestAcross, Cond.selects RX1 yX1_farthestAcross yX1_farthestAcross, Cond.code yX1_farthestAcross cX1_farthestAcross 5 (some .int), Cond.methodLink RX1 106 yX1_placeOf, Cond.instanceMethod yX1_placeOf, Cond.selects RX1 yX1_placeOf yX1_placeOf, Cond.code yX1_placeOf cX1_placeOf 2 (some .int), Cond.methodLink RX1 135 yX1_breakThrough, Cond.instanceMethod yX1_breakThrough, Cond.selects RX1 yX1_breakThrough yX1_breakThrough, Cond.code yX1_breakThrough cX1_breakThrough 5 none, Cond.fieldLink RX1 63 "MeanderFarm$River" "breaks" "I", Cond.methodLink RX1 112 yX1_isNeck, Cond.instanceMethod yX1_isNeck, Cond.selects RX1 yX1_isNeck yX1_isNeck, Cond.code yX1_isNeck cX1_isNeck 3 (some .boolean)]
def wsL_pass : List Cond := .codeWith yL_pass cL_pass 4 (some .int) [(0, 9, 12, 15)] :: ((wsL_pass_r1 ++ (wsL_pass_r2 ++ (wsL_pass_r3 ++ (wsL_pass_r4 ++ wsL_pass_r5)))) ++ wsX20 ++ wsX10 ++ (vx_atS RX2 52 "java/lang/IllegalArgumentException" ["java/lang/RuntimeException", "java/lang/Exception"]).filter goodWord)
def wsL_count_r1 : List Cond := [Cond.classLink RL 13 "java/lang/IndexOutOfBoundsException", Cond.methodLink RL 53 yX2_count, Cond.instanceMethod yX2_count, Cond.selects RX2 yX2_count yX2_count, Cond.initialized RX2, Cond.code yX2_count cX2_count 2 (some .int), Cond.classLink RX2 38 "java/lang/IndexOutOfBoundsException", Cond.initialized "java/lang/IndexOutOfBoundsException", Cond.methodLink RX2 184 yX2_total, Cond.instanceMethod yX2_total, Cond.selects RX2 yX2_total yX2_total, Cond.code yX2_total cX2_total 2 (some .int), Cond.fieldLink RX2 16 "MeanderFarm" "now" "LMeanderFarm$River;", Cond.fieldLink RX2 26 "MeanderFarm" "farms" "LMeanderFarm$Farms;", Cond.instanceMethod yX1_lakes, Cond.initialized RX1, Cond.selects RX1 yX1_lakes yX1_lakes, Cond.code yX1_lakes cX1_lakes 3 (some .int), Cond.fieldLink RX1 22 "MeanderFarm$River" "lakeEnd" "[I", Cond.fieldLink RX1 60 "MeanderFarm$River" "year" "I", Cond.instanceMethod yX1_cellsWithStones, Cond.selects RX1 yX1_cellsWithStones yX1_cellsWithStones, Cond.code yX1_cellsWithStones cX1_cellsWithStones 3 (some .int), Cond.fieldLink RX1 18 "MeanderFarm$River" "stones" "[Z"]
def wsL_count_r2 : List Cond := [Cond.instanceMethod yX1_bends, Cond.selects RX1 yX1_bends yX1_bends, Cond.code yX1_bends cX1_bends 3 (some .int), Cond.fieldLink RX1 46 "MeanderFarm$River" "length" "I", Cond.methodLink RX1 92 yX1_isStraight, Cond.instanceMethod yX1_isStraight, Cond.selects RX1 yX1_isStraight yX1_isStraight, Cond.code yX1_isStraight cX1_isStraight 2 (some .boolean), Cond.fieldLink RX1 37 "MeanderFarm$River" "direction" "[I", Cond.methodLink RX1 66 yX1_isInCourse, Cond.instanceMethod yX1_isInCourse, Cond.selects RX1 yX1_isInCourse yX1_isInCourse, Cond.code yX1_isInCourse cX1_isInCourse 2 (some .boolean), Cond.instanceMethod yX1_allWear, Cond.selects RX1 yX1_allWear yX1_allWear, Cond.code yX1_allWear cX1_allWear 3 (some .int), Cond.fieldLink RX1 15 "MeanderFarm$River" "wear" "[I"]
def wsL_count : List Cond := .codeWith yL_count cL_count 4 (some .int) [(0, 9, 12, 13)] :: ((wsL_count_r1 ++ wsL_count_r2) ++ wsX20 ++ wsX10 ++ wsX00 ++ (vx_atS RX2 42 "java/lang/IndexOutOfBoundsException" ["java/lang/RuntimeException", "java/lang/Exception"]).filter goodWord)
def wsL_foresee_r1 : List Cond := [Cond.classLink RL 15 "java/lang/IllegalArgumentException", Cond.classLink RL 13 "java/lang/IndexOutOfBoundsException", Cond.methodLink RL 56 yX2_foresee, Cond.instanceMethod yX2_foresee, Cond.selects RX2 yX2_foresee yX2_foresee, Cond.initialized RX2, Cond.code yX2_foresee cX2_foresee 4 (some .int), Cond.classLink RX2 48 "java/lang/IllegalArgumentException", Cond.initialized "java/lang/IllegalArgumentException", Cond.classLink RX2 38 "java/lang/IndexOutOfBoundsException", Cond.initialized "java/lang/IndexOutOfBoundsException", Cond.fieldLink RX2 20 "MeanderFarm" "ahead" "LMeanderFarm$River;", Cond.fieldLink RX2 16 "MeanderFarm" "now" "LMeanderFarm$River;", Cond.instanceMethod yX1_copyFrom, Cond.initialized RX1, Cond.selects RX1 yX1_copyFrom yX1_copyFrom, Cond.code yX1_copyFrom cX1_copyFrom 3 none, Cond.fieldLink RX1 9 "MeanderFarm$River" "hardness" "[I", Cond.methodLink RX1 54 arraycopyName, Cond.native arraycopyName, Cond.static arraycopyName, Cond.initialized "java/lang/System", Cond.fieldLink RX1 15 "MeanderFarm$River" "wear" "[I", Cond.fieldLink RX1 18 "MeanderFarm$River" "stones" "[Z"]
def wsL_foresee_r2 : List Cond := [Cond.fieldLink RX1 22 "MeanderFarm$River" "lakeEnd" "[I", Cond.fieldLink RX1 28 "MeanderFarm$River" "flow" "[I", Cond.fieldLink RX1 31 "MeanderFarm$River" "course" "[I", Cond.fieldLink RX1 34 "MeanderFarm$River" "place" "[I", Cond.fieldLink RX1 37 "MeanderFarm$River" "direction" "[I", Cond.fieldLink RX1 40 "MeanderFarm$River" "thrown" "[I", Cond.fieldLink RX1 43 "MeanderFarm$River" "bank" "[I", Cond.fieldLink RX1 46 "MeanderFarm$River" "length" "I", Cond.fieldLink RX1 60 "MeanderFarm$River" "year" "I", Cond.fieldLink RX1 63 "MeanderFarm$River" "breaks" "I", Cond.fieldLink RX1 25 "MeanderFarm$River" "bulgedInto" "[Z", Cond.instanceMethod yX1_letPass, Cond.selects RX1 yX1_letPass yX1_letPass, Cond.code yX1_letPass cX1_letPass 5 (some .int), Cond.methodLink RX1 115 yJ9_floorMod_7cf53, Cond.static yJ9_floorMod_7cf53, Cond.initialized RJ9, Cond.code yJ9_floorMod_7cf53 cJ9_floorMod_7cf53 3 (some .int), Cond.methodLink RX1 118 yX1_wearBanks, Cond.instanceMethod yX1_wearBanks, Cond.selects RX1 yX1_wearBanks yX1_wearBanks, Cond.code yX1_wearBanks cX1_wearBanks 4 none, Cond.methodLink RX1 95 yX1_isOpen, Cond.instanceMethod yX1_isOpen]
def wsL_foresee_r3 : List Cond := [Cond.selects RX1 yX1_isOpen yX1_isOpen, Cond.code yX1_isOpen cX1_isOpen 2 (some .boolean), Cond.static yX2_isCell, Cond.code yX2_isCell cX2_isCell 1 (some .boolean), Cond.methodLink RX1 121 yX1_bulgeWhereRipest, Cond.instanceMethod yX1_bulgeWhereRipest, Cond.selects RX1 yX1_bulgeWhereRipest yX1_bulgeWhereRipest, Cond.code yX1_bulgeWhereRipest cX1_bulgeWhereRipest 6 (some .boolean), Cond.methodLink RX1 98 yX1_canBulge, Cond.instanceMethod yX1_canBulge, Cond.selects RX1 yX1_canBulge yX1_canBulge, Cond.code yX1_canBulge cX1_canBulge 4 (some .boolean), Cond.methodLink RX1 92 yX1_isStraight, Cond.instanceMethod yX1_isStraight, Cond.selects RX1 yX1_isStraight yX1_isStraight, Cond.code yX1_isStraight cX1_isStraight 2 (some .boolean), Cond.methodLink RX1 66 yX1_isInCourse, Cond.instanceMethod yX1_isInCourse, Cond.selects RX1 yX1_isInCourse yX1_isInCourse, Cond.code yX1_isInCourse cX1_isInCourse 2 (some .boolean), Cond.methodLink RX1 79 yX1_cellAt, Cond.instanceMethod yX1_cellAt, Cond.selects RX1 yX1_cellAt yX1_cellAt, Cond.code yX1_cellAt cX1_cellAt 2 (some .int)]
def wsL_foresee_r4 : List Cond := [Cond.static yX2_neighbour, Cond.code yX2_neighbour cX2_neighbour 3 (some .int), Cond.methodLink RX1 128 yX1_bulge, Cond.instanceMethod yX1_bulge, Cond.selects RX1 yX1_bulge yX1_bulge, Cond.code yX1_bulge cX1_bulge 7 none, Cond.methodLink RX1 102 yX1_takeIntoCourse, Cond.instanceMethod yX1_takeIntoCourse, Cond.selects RX1 yX1_takeIntoCourse yX1_takeIntoCourse, Cond.code yX1_takeIntoCourse cX1_takeIntoCourse 3 none, Cond.methodLink RX1 50 yX1_followCourse, Cond.instanceMethod yX1_followCourse, Cond.selects RX1 yX1_followCourse yX1_followCourse, Cond.code yX1_followCourse cX1_followCourse 4 none, Cond.methodLink RX1 73 Lib.Math.max.name, Cond.static Lib.Math.max.name, Cond.initialized "java/lang/Math", Cond.code Lib.Math.max.name Lib.Math.max.code 2 (some .int), Cond.static yX2_directionTo, Cond.code yX2_directionTo cX2_directionTo 4 (some .int), Cond.methodLink RX2 229 yX2_neighbour, Cond.methodLink RX1 86 yX1_throwCells, Cond.instanceMethod yX1_throwCells, Cond.selects RX1 yX1_throwCells yX1_throwCells]
def wsL_foresee_r5 : List Cond := [Cond.code yX1_throwCells cX1_throwCells 3 none, Cond.methodLink RX1 125 yX1_flood, Cond.instanceMethod yX1_flood, Cond.selects RX1 yX1_flood yX1_flood, Cond.code yX1_flood cX1_flood 3 none, Cond.methodLink RX1 131 yX1_widestNeck, Cond.instanceMethod yX1_widestNeck, Cond.selects RX1 yX1_widestNeck yX1_widestNeck, Cond.code yX1_widestNeck cX1_widestNeck 5 (some .int), Cond.methodLink RX1 109 yX1_farthestAcross, Cond.instanceMethod yX1_farthestAcross, Cond.selects RX1 yX1_farthestAcross yX1_farthestAcross, Cond.code yX1_farthestAcross cX1_farthestAcross 5 (some .int), Cond.methodLink RX1 106 yX1_placeOf, Cond.instanceMethod yX1_placeOf, Cond.selects RX1 yX1_placeOf yX1_placeOf, Cond.code yX1_placeOf cX1_placeOf 2 (some .int), Cond.methodLink RX1 135 yX1_breakThrough, Cond.instanceMethod yX1_breakThrough, Cond.selects RX1 yX1_breakThrough yX1_breakThrough, Cond.code yX1_breakThrough cX1_breakThrough 5 none, Cond.methodLink RX1 112 yX1_isNeck, Cond.instanceMethod yX1_isNeck, Cond.selects RX1 yX1_isNeck yX1_isNeck]
def wsL_foresee_r6 : List Cond := [Cond.code yX1_isNeck cX1_isNeck 3 (some .boolean)]
def wsL_foresee : List Cond := .codeWith yL_foresee cL_foresee 5 (some .int) [(0, 10, 13, 15), (0, 10, 17, 13)] :: ((wsL_foresee_r1 ++ (wsL_foresee_r2 ++ (wsL_foresee_r3 ++ (wsL_foresee_r4 ++ (wsL_foresee_r5 ++ wsL_foresee_r6))))) ++ wsX20 ++ wsX10 ++ (vx_atS RX2 52 "java/lang/IllegalArgumentException" ["java/lang/RuntimeException", "java/lang/Exception"]).filter goodWord ++ (vx_atS RX2 42 "java/lang/IndexOutOfBoundsException" ["java/lang/RuntimeException", "java/lang/Exception"]).filter goodWord)
def wsL_loses_r1 : List Cond := [Cond.classLink RL 13 "java/lang/IndexOutOfBoundsException", Cond.methodLink RL 59 yX2_loses, Cond.instanceMethod yX2_loses, Cond.selects RX2 yX2_loses yX2_loses, Cond.initialized RX2, Cond.code yX2_loses cX2_loses 4 (some .int), Cond.classLink RX2 38 "java/lang/IndexOutOfBoundsException", Cond.initialized "java/lang/IndexOutOfBoundsException", Cond.fieldLink RX2 26 "MeanderFarm" "farms" "LMeanderFarm$Farms;", Cond.fieldLink RX2 16 "MeanderFarm" "now" "LMeanderFarm$River;", Cond.fieldLink RX2 20 "MeanderFarm" "ahead" "LMeanderFarm$River;", Cond.instanceMethod yX0_isFarm, Cond.initialized RX0, Cond.selects RX0 yX0_isFarm yX0_isFarm, Cond.code yX0_isFarm cX0_isFarm 2 (some .boolean), Cond.fieldLink RX0 24 "MeanderFarm$Farms" "size" "I", Cond.instanceMethod yX0_cellsOf, Cond.selects RX0 yX0_cellsOf yX0_cellsOf, Cond.code yX0_cellsOf cX0_cellsOf 7 (some .int), Cond.fieldLink RX0 15 "MeanderFarm$Farms" "row" "[I", Cond.fieldLink RX0 21 "MeanderFarm$Farms" "deep" "[I", Cond.fieldLink RX0 9 "MeanderFarm$Farms" "column" "[I", Cond.fieldLink RX0 18 "MeanderFarm$Farms" "wide" "[I", Cond.methodLink RX0 28 yX0_isFarm]
def wsL_loses_r2 : List Cond := [Cond.static yX2_cellNumber, Cond.code yX2_cellNumber cX2_cellNumber 2 (some .int), Cond.methodLink RX0 36 yX0_isCounted, Cond.static yX0_isCounted, Cond.code yX0_isCounted cX0_isCounted 5 (some .boolean), Cond.static yX2_isCell, Cond.code yX2_isCell cX2_isCell 1 (some .boolean), Cond.instanceMethod yX1_lakeYearsLeft, Cond.initialized RX1, Cond.selects RX1 yX1_lakeYearsLeft yX1_lakeYearsLeft, Cond.code yX1_lakeYearsLeft cX1_lakeYearsLeft 2 (some .int), Cond.fieldLink RX1 22 "MeanderFarm$River" "lakeEnd" "[I", Cond.fieldLink RX1 60 "MeanderFarm$River" "year" "I", Cond.methodLink RX1 73 Lib.Math.max.name, Cond.static Lib.Math.max.name, Cond.initialized "java/lang/Math", Cond.code Lib.Math.max.name Lib.Math.max.code 2 (some .int), Cond.instanceMethod yX1_copyFrom, Cond.selects RX1 yX1_copyFrom yX1_copyFrom, Cond.code yX1_copyFrom cX1_copyFrom 3 none, Cond.fieldLink RX1 9 "MeanderFarm$River" "hardness" "[I", Cond.methodLink RX1 54 arraycopyName, Cond.native arraycopyName, Cond.static arraycopyName]
def wsL_loses_r3 : List Cond := [Cond.initialized "java/lang/System", Cond.fieldLink RX1 15 "MeanderFarm$River" "wear" "[I", Cond.fieldLink RX1 18 "MeanderFarm$River" "stones" "[Z", Cond.fieldLink RX1 28 "MeanderFarm$River" "flow" "[I", Cond.fieldLink RX1 31 "MeanderFarm$River" "course" "[I", Cond.fieldLink RX1 34 "MeanderFarm$River" "place" "[I", Cond.fieldLink RX1 37 "MeanderFarm$River" "direction" "[I", Cond.fieldLink RX1 40 "MeanderFarm$River" "thrown" "[I", Cond.fieldLink RX1 43 "MeanderFarm$River" "bank" "[I", Cond.fieldLink RX1 46 "MeanderFarm$River" "length" "I", Cond.fieldLink RX1 63 "MeanderFarm$River" "breaks" "I", Cond.fieldLink RX1 25 "MeanderFarm$River" "bulgedInto" "[Z", Cond.instanceMethod yX1_letPass, Cond.selects RX1 yX1_letPass yX1_letPass, Cond.code yX1_letPass cX1_letPass 5 (some .int), Cond.methodLink RX1 115 yJ9_floorMod_7cf53, Cond.static yJ9_floorMod_7cf53, Cond.initialized RJ9, Cond.code yJ9_floorMod_7cf53 cJ9_floorMod_7cf53 3 (some .int), Cond.methodLink RX1 118 yX1_wearBanks, Cond.instanceMethod yX1_wearBanks, Cond.selects RX1 yX1_wearBanks yX1_wearBanks, Cond.code yX1_wearBanks cX1_wearBanks 4 none, Cond.methodLink RX1 95 yX1_isOpen]
def wsL_loses_r4 : List Cond := [Cond.instanceMethod yX1_isOpen, Cond.selects RX1 yX1_isOpen yX1_isOpen, Cond.code yX1_isOpen cX1_isOpen 2 (some .boolean), Cond.methodLink RX1 121 yX1_bulgeWhereRipest, Cond.instanceMethod yX1_bulgeWhereRipest, Cond.selects RX1 yX1_bulgeWhereRipest yX1_bulgeWhereRipest, Cond.code yX1_bulgeWhereRipest cX1_bulgeWhereRipest 6 (some .boolean), Cond.methodLink RX1 98 yX1_canBulge, Cond.instanceMethod yX1_canBulge, Cond.selects RX1 yX1_canBulge yX1_canBulge, Cond.code yX1_canBulge cX1_canBulge 4 (some .boolean), Cond.methodLink RX1 92 yX1_isStraight, Cond.instanceMethod yX1_isStraight, Cond.selects RX1 yX1_isStraight yX1_isStraight, Cond.code yX1_isStraight cX1_isStraight 2 (some .boolean), Cond.methodLink RX1 66 yX1_isInCourse, Cond.instanceMethod yX1_isInCourse, Cond.selects RX1 yX1_isInCourse yX1_isInCourse, Cond.code yX1_isInCourse cX1_isInCourse 2 (some .boolean), Cond.methodLink RX1 79 yX1_cellAt, Cond.instanceMethod yX1_cellAt, Cond.selects RX1 yX1_cellAt yX1_cellAt, Cond.code yX1_cellAt cX1_cellAt 2 (some .int), Cond.static yX2_neighbour]
def wsL_loses_r5 : List Cond := [Cond.code yX2_neighbour cX2_neighbour 3 (some .int), Cond.methodLink RX1 128 yX1_bulge, Cond.instanceMethod yX1_bulge, Cond.selects RX1 yX1_bulge yX1_bulge, Cond.code yX1_bulge cX1_bulge 7 none, Cond.methodLink RX1 102 yX1_takeIntoCourse, Cond.instanceMethod yX1_takeIntoCourse, Cond.selects RX1 yX1_takeIntoCourse yX1_takeIntoCourse, Cond.code yX1_takeIntoCourse cX1_takeIntoCourse 3 none, Cond.methodLink RX1 50 yX1_followCourse, Cond.instanceMethod yX1_followCourse, Cond.selects RX1 yX1_followCourse yX1_followCourse, Cond.code yX1_followCourse cX1_followCourse 4 none, Cond.static yX2_directionTo, Cond.code yX2_directionTo cX2_directionTo 4 (some .int), Cond.methodLink RX2 229 yX2_neighbour, Cond.methodLink RX1 86 yX1_throwCells, Cond.instanceMethod yX1_throwCells, Cond.selects RX1 yX1_throwCells yX1_throwCells, Cond.code yX1_throwCells cX1_throwCells 3 none, Cond.methodLink RX1 125 yX1_flood, Cond.instanceMethod yX1_flood, Cond.selects RX1 yX1_flood yX1_flood, Cond.code yX1_flood cX1_flood 3 none]
def wsL_loses_r6 : List Cond := [Cond.methodLink RX1 131 yX1_widestNeck, Cond.instanceMethod yX1_widestNeck, Cond.selects RX1 yX1_widestNeck yX1_widestNeck, Cond.code yX1_widestNeck cX1_widestNeck 5 (some .int), Cond.methodLink RX1 109 yX1_farthestAcross, Cond.instanceMethod yX1_farthestAcross, Cond.selects RX1 yX1_farthestAcross yX1_farthestAcross, Cond.code yX1_farthestAcross cX1_farthestAcross 5 (some .int), Cond.methodLink RX1 106 yX1_placeOf, Cond.instanceMethod yX1_placeOf, Cond.selects RX1 yX1_placeOf yX1_placeOf, Cond.code yX1_placeOf cX1_placeOf 2 (some .int), Cond.methodLink RX1 135 yX1_breakThrough, Cond.instanceMethod yX1_breakThrough, Cond.selects RX1 yX1_breakThrough yX1_breakThrough, Cond.code yX1_breakThrough cX1_breakThrough 5 none, Cond.methodLink RX1 112 yX1_isNeck, Cond.instanceMethod yX1_isNeck, Cond.selects RX1 yX1_isNeck yX1_isNeck, Cond.code yX1_isNeck cX1_isNeck 3 (some .boolean)]
def wsL_loses : List Cond := .codeWith yL_loses cL_loses 4 (some .int) [(0, 9, 12, 13)] :: ((wsL_loses_r1 ++ (wsL_loses_r2 ++ (wsL_loses_r3 ++ (wsL_loses_r4 ++ (wsL_loses_r5 ++ wsL_loses_r6))))) ++ wsX20 ++ wsX00 ++ wsX10 ++ (vx_atS RX2 42 "java/lang/IndexOutOfBoundsException" ["java/lang/RuntimeException", "java/lang/Exception"]).filter goodWord)
def wsL_advise_r1 : List Cond := [Cond.classLink RL 13 "java/lang/IndexOutOfBoundsException", Cond.classLink RL 15 "java/lang/IllegalArgumentException", Cond.methodLink RL 62 yX2_advise, Cond.instanceMethod yX2_advise, Cond.selects RX2 yX2_advise yX2_advise, Cond.initialized RX2, Cond.code yX2_advise cX2_advise 7 (some .int), Cond.classLink RX2 38 "java/lang/IndexOutOfBoundsException", Cond.initialized "java/lang/IndexOutOfBoundsException", Cond.classLink RX2 48 "java/lang/IllegalArgumentException", Cond.initialized "java/lang/IllegalArgumentException", Cond.fieldLink RX2 26 "MeanderFarm" "farms" "LMeanderFarm$Farms;", Cond.fieldLink RX2 20 "MeanderFarm" "ahead" "LMeanderFarm$River;", Cond.fieldLink RX2 9 "MeanderFarm" "endangered" "[Z", Cond.methodLink RX2 201 arraycopyName, Cond.native arraycopyName, Cond.static arraycopyName, Cond.initialized "java/lang/System", Cond.fieldLink RX2 16 "MeanderFarm" "now" "LMeanderFarm$River;", Cond.instanceMethod yX0_isFarm, Cond.initialized RX0, Cond.selects RX0 yX0_isFarm yX0_isFarm, Cond.code yX0_isFarm cX0_isFarm 2 (some .boolean), Cond.fieldLink RX0 24 "MeanderFarm$Farms" "size" "I"]
def wsL_advise_r2 : List Cond := [Cond.methodLink RX2 194 yX2_landAhead, Cond.instanceMethod yX2_landAhead, Cond.selects RX2 yX2_landAhead yX2_landAhead, Cond.code yX2_landAhead cX2_landAhead 4 (some .int), Cond.instanceMethod yX1_copyFrom, Cond.initialized RX1, Cond.selects RX1 yX1_copyFrom yX1_copyFrom, Cond.code yX1_copyFrom cX1_copyFrom 3 none, Cond.fieldLink RX1 9 "MeanderFarm$River" "hardness" "[I", Cond.methodLink RX1 54 arraycopyName, Cond.fieldLink RX1 15 "MeanderFarm$River" "wear" "[I", Cond.fieldLink RX1 18 "MeanderFarm$River" "stones" "[Z", Cond.fieldLink RX1 22 "MeanderFarm$River" "lakeEnd" "[I", Cond.fieldLink RX1 28 "MeanderFarm$River" "flow" "[I", Cond.fieldLink RX1 31 "MeanderFarm$River" "course" "[I", Cond.fieldLink RX1 34 "MeanderFarm$River" "place" "[I", Cond.fieldLink RX1 37 "MeanderFarm$River" "direction" "[I", Cond.fieldLink RX1 40 "MeanderFarm$River" "thrown" "[I", Cond.fieldLink RX1 43 "MeanderFarm$River" "bank" "[I", Cond.fieldLink RX1 46 "MeanderFarm$River" "length" "I", Cond.fieldLink RX1 60 "MeanderFarm$River" "year" "I", Cond.fieldLink RX1 63 "MeanderFarm$River" "breaks" "I", Cond.fieldLink RX1 25 "MeanderFarm$River" "bulgedInto" "[Z", Cond.methodLink RX2 34 yX2_isCell]
def wsL_advise_r3 : List Cond := [Cond.static yX2_isCell, Cond.code yX2_isCell cX2_isCell 1 (some .boolean), Cond.instanceMethod yX1_letPass, Cond.selects RX1 yX1_letPass yX1_letPass, Cond.code yX1_letPass cX1_letPass 5 (some .int), Cond.methodLink RX1 115 yJ9_floorMod_7cf53, Cond.static yJ9_floorMod_7cf53, Cond.initialized RJ9, Cond.code yJ9_floorMod_7cf53 cJ9_floorMod_7cf53 3 (some .int), Cond.methodLink RX1 118 yX1_wearBanks, Cond.instanceMethod yX1_wearBanks, Cond.selects RX1 yX1_wearBanks yX1_wearBanks, Cond.code yX1_wearBanks cX1_wearBanks 4 none, Cond.methodLink RX1 95 yX1_isOpen, Cond.instanceMethod yX1_isOpen, Cond.selects RX1 yX1_isOpen yX1_isOpen, Cond.code yX1_isOpen cX1_isOpen 2 (some .boolean), Cond.methodLink RX1 121 yX1_bulgeWhereRipest, Cond.instanceMethod yX1_bulgeWhereRipest, Cond.selects RX1 yX1_bulgeWhereRipest yX1_bulgeWhereRipest, Cond.code yX1_bulgeWhereRipest cX1_bulgeWhereRipest 6 (some .boolean), Cond.methodLink RX1 98 yX1_canBulge, Cond.instanceMethod yX1_canBulge, Cond.selects RX1 yX1_canBulge yX1_canBulge]
def wsL_advise_r4 : List Cond := [Cond.code yX1_canBulge cX1_canBulge 4 (some .boolean), Cond.methodLink RX1 92 yX1_isStraight, Cond.instanceMethod yX1_isStraight, Cond.selects RX1 yX1_isStraight yX1_isStraight, Cond.code yX1_isStraight cX1_isStraight 2 (some .boolean), Cond.methodLink RX1 66 yX1_isInCourse, Cond.instanceMethod yX1_isInCourse, Cond.selects RX1 yX1_isInCourse yX1_isInCourse, Cond.code yX1_isInCourse cX1_isInCourse 2 (some .boolean), Cond.methodLink RX1 79 yX1_cellAt, Cond.instanceMethod yX1_cellAt, Cond.selects RX1 yX1_cellAt yX1_cellAt, Cond.code yX1_cellAt cX1_cellAt 2 (some .int), Cond.static yX2_neighbour, Cond.code yX2_neighbour cX2_neighbour 3 (some .int), Cond.methodLink RX1 128 yX1_bulge, Cond.instanceMethod yX1_bulge, Cond.selects RX1 yX1_bulge yX1_bulge, Cond.code yX1_bulge cX1_bulge 7 none, Cond.methodLink RX1 102 yX1_takeIntoCourse, Cond.instanceMethod yX1_takeIntoCourse, Cond.selects RX1 yX1_takeIntoCourse yX1_takeIntoCourse, Cond.code yX1_takeIntoCourse cX1_takeIntoCourse 3 none, Cond.methodLink RX1 50 yX1_followCourse]
def wsL_advise_r5 : List Cond := [Cond.instanceMethod yX1_followCourse, Cond.selects RX1 yX1_followCourse yX1_followCourse, Cond.code yX1_followCourse cX1_followCourse 4 none, Cond.methodLink RX1 73 Lib.Math.max.name, Cond.static Lib.Math.max.name, Cond.initialized "java/lang/Math", Cond.code Lib.Math.max.name Lib.Math.max.code 2 (some .int), Cond.static yX2_directionTo, Cond.code yX2_directionTo cX2_directionTo 4 (some .int), Cond.methodLink RX2 229 yX2_neighbour, Cond.methodLink RX1 86 yX1_throwCells, Cond.instanceMethod yX1_throwCells, Cond.selects RX1 yX1_throwCells yX1_throwCells, Cond.code yX1_throwCells cX1_throwCells 3 none, Cond.methodLink RX1 125 yX1_flood, Cond.instanceMethod yX1_flood, Cond.selects RX1 yX1_flood yX1_flood, Cond.code yX1_flood cX1_flood 3 none, Cond.methodLink RX1 131 yX1_widestNeck, Cond.instanceMethod yX1_widestNeck, Cond.selects RX1 yX1_widestNeck yX1_widestNeck, Cond.code yX1_widestNeck cX1_widestNeck 5 (some .int), Cond.methodLink RX1 109 yX1_farthestAcross, Cond.instanceMethod yX1_farthestAcross]
def wsL_advise_r6 : List Cond := [Cond.selects RX1 yX1_farthestAcross yX1_farthestAcross, Cond.code yX1_farthestAcross cX1_farthestAcross 5 (some .int), Cond.methodLink RX1 106 yX1_placeOf, Cond.instanceMethod yX1_placeOf, Cond.selects RX1 yX1_placeOf yX1_placeOf, Cond.code yX1_placeOf cX1_placeOf 2 (some .int), Cond.methodLink RX1 135 yX1_breakThrough, Cond.instanceMethod yX1_breakThrough, Cond.selects RX1 yX1_breakThrough yX1_breakThrough, Cond.code yX1_breakThrough cX1_breakThrough 5 none, Cond.methodLink RX1 112 yX1_isNeck, Cond.instanceMethod yX1_isNeck, Cond.selects RX1 yX1_isNeck yX1_isNeck, Cond.code yX1_isNeck cX1_isNeck 3 (some .boolean), Cond.instanceMethod yX0_cellsOf, Cond.selects RX0 yX0_cellsOf yX0_cellsOf, Cond.code yX0_cellsOf cX0_cellsOf 7 (some .int), Cond.fieldLink RX0 15 "MeanderFarm$Farms" "row" "[I", Cond.fieldLink RX0 21 "MeanderFarm$Farms" "deep" "[I", Cond.fieldLink RX0 9 "MeanderFarm$Farms" "column" "[I", Cond.fieldLink RX0 18 "MeanderFarm$Farms" "wide" "[I", Cond.methodLink RX0 28 yX0_isFarm, Cond.static yX2_cellNumber, Cond.code yX2_cellNumber cX2_cellNumber 2 (some .int)]
def wsL_advise_r7 : List Cond := [Cond.methodLink RX0 36 yX0_isCounted, Cond.static yX0_isCounted, Cond.code yX0_isCounted cX0_isCounted 5 (some .boolean), Cond.instanceMethod yX1_lakeYearsLeft, Cond.selects RX1 yX1_lakeYearsLeft yX1_lakeYearsLeft, Cond.code yX1_lakeYearsLeft cX1_lakeYearsLeft 2 (some .int)]
def wsL_advise : List Cond := .codeWith yL_advise cL_advise 5 (some .int) [(0, 10, 13, 13), (0, 10, 17, 15)] :: ((wsL_advise_r1 ++ (wsL_advise_r2 ++ (wsL_advise_r3 ++ (wsL_advise_r4 ++ (wsL_advise_r5 ++ (wsL_advise_r6 ++ wsL_advise_r7)))))) ++ wsX20 ++ wsX10 ++ wsX00 ++ (vx_atS RX2 42 "java/lang/IndexOutOfBoundsException" ["java/lang/RuntimeException", "java/lang/Exception"]).filter goodWord ++ (vx_atS RX2 52 "java/lang/IllegalArgumentException" ["java/lang/RuntimeException", "java/lang/Exception"]).filter goodWord)
def wsL_law0_r1 : List Cond := [Cond.classLink RL 8 RX2, Cond.instantiable RX2 4, Cond.initialized RX2, Cond.classLink RL 66 RX3, Cond.instantiable RX3 11, Cond.initialized RX3, Cond.arrayClass .long, Cond.methodLink RL 65 yX2_init, Cond.instanceMethod yX2_init, Cond.code yX2_init cX2_init 1 none, Cond.methodLink RX2 3 objectInit, Cond.instanceMethod objectInit, Cond.code objectInit ⟨#[0xb1]⟩ 1 none, Cond.arrayClass .boolean, Cond.fieldLink RX2 9 "MeanderFarm" "endangered" "[Z", Cond.classLink RX2 13 RX1, Cond.instantiable RX1 14, Cond.initialized RX1, Cond.fieldLink RX2 16 "MeanderFarm" "now" "LMeanderFarm$River;", Cond.fieldLink RX2 20 "MeanderFarm" "ahead" "LMeanderFarm$River;", Cond.classLink RX2 23 RX0, Cond.instantiable RX0 5, Cond.initialized RX0, Cond.fieldLink RX2 26 "MeanderFarm" "farms" "LMeanderFarm$Farms;"]
def wsL_law0_r2 : List Cond := [Cond.instanceMethod yX1_init, Cond.code yX1_init cX1_init 2 none, Cond.methodLink RX1 3 objectInit, Cond.arrayClass .int, Cond.fieldLink RX1 9 "MeanderFarm$River" "hardness" "[I", Cond.fieldLink RX1 15 "MeanderFarm$River" "wear" "[I", Cond.fieldLink RX1 18 "MeanderFarm$River" "stones" "[Z", Cond.fieldLink RX1 22 "MeanderFarm$River" "lakeEnd" "[I", Cond.fieldLink RX1 25 "MeanderFarm$River" "bulgedInto" "[Z", Cond.fieldLink RX1 28 "MeanderFarm$River" "flow" "[I", Cond.fieldLink RX1 31 "MeanderFarm$River" "course" "[I", Cond.fieldLink RX1 34 "MeanderFarm$River" "place" "[I", Cond.fieldLink RX1 37 "MeanderFarm$River" "direction" "[I", Cond.fieldLink RX1 40 "MeanderFarm$River" "thrown" "[I", Cond.fieldLink RX1 43 "MeanderFarm$River" "bank" "[I", Cond.fieldLink RX1 46 "MeanderFarm$River" "length" "I", Cond.methodLink RX1 50 yX1_followCourse, Cond.instanceMethod yX1_followCourse, Cond.selects RX1 yX1_followCourse yX1_followCourse, Cond.code yX1_followCourse cX1_followCourse 4 none, Cond.methodLink RX1 73 Lib.Math.max.name, Cond.static Lib.Math.max.name, Cond.initialized "java/lang/Math", Cond.code Lib.Math.max.name Lib.Math.max.code 2 (some .int)]
def wsL_law0_r3 : List Cond := [Cond.static yX2_isCell, Cond.code yX2_isCell cX2_isCell 1 (some .boolean), Cond.methodLink RX1 79 yX1_cellAt, Cond.instanceMethod yX1_cellAt, Cond.selects RX1 yX1_cellAt yX1_cellAt, Cond.code yX1_cellAt cX1_cellAt 2 (some .int), Cond.methodLink RX1 66 yX1_isInCourse, Cond.instanceMethod yX1_isInCourse, Cond.selects RX1 yX1_isInCourse yX1_isInCourse, Cond.code yX1_isInCourse cX1_isInCourse 2 (some .boolean), Cond.static yX2_directionTo, Cond.code yX2_directionTo cX2_directionTo 4 (some .int), Cond.methodLink RX2 229 yX2_neighbour, Cond.static yX2_neighbour, Cond.code yX2_neighbour cX2_neighbour 3 (some .int), Cond.methodLink RX1 86 yX1_throwCells, Cond.instanceMethod yX1_throwCells, Cond.selects RX1 yX1_throwCells yX1_throwCells, Cond.code yX1_throwCells cX1_throwCells 3 none, Cond.instanceMethod yX0_init, Cond.code yX0_init cX0_init 1 none, Cond.methodLink RX0 3 objectInit, Cond.fieldLink RX0 9 "MeanderFarm$Farms" "column" "[I", Cond.fieldLink RX0 15 "MeanderFarm$Farms" "row" "[I"]
def wsL_law0_r4 : List Cond := [Cond.fieldLink RX0 18 "MeanderFarm$Farms" "wide" "[I", Cond.fieldLink RX0 21 "MeanderFarm$Farms" "deep" "[I", Cond.methodLink RL 68 yX3_init, Cond.instanceMethod yX3_init, Cond.code yX3_init cX3_init 2 none, Cond.methodLink RX3 1 objectInit, Cond.fieldLink RX3 9 "MeanderFarmModel" "hardness" "[I", Cond.fieldLink RX3 13 "MeanderFarmModel" "stones" "[Z", Cond.fieldLink RX3 17 "MeanderFarmModel" "flow" "[I", Cond.fieldLink RX3 20 "MeanderFarmModel" "farmTable" "[I", Cond.fieldLink RX3 23 "MeanderFarmModel" "course" "[I", Cond.fieldLink RX3 26 "MeanderFarmModel" "where" "[I", Cond.fieldLink RX3 29 "MeanderFarmModel" "wear" "[I", Cond.fieldLink RX3 32 "MeanderFarmModel" "lake" "[I", Cond.fieldLink RX3 35 "MeanderFarmModel" "numbers" "[I", Cond.methodLink RX3 38 yX3_place, Cond.instanceMethod yX3_place, Cond.selects RX3 yX3_place yX3_place, Cond.code yX3_place cX3_place 2 none, Cond.methodLink RX3 49 yX3_length, Cond.instanceMethod yX3_length, Cond.selects RX3 yX3_length yX3_length, Cond.code yX3_length cX3_length 1 (some .int), Cond.methodLink RL 69 yL_setHardness]
def wsL_law0_r5 : List Cond := [Cond.static yL_setHardness, Cond.initialized RL, Cond.codeWith yL_setHardness cL_setHardness 6 (some .int) [(0, 12, 15, 13), (0, 12, 19, 15)], Cond.classLink RL 13 "java/lang/IndexOutOfBoundsException", Cond.classLink RL 15 "java/lang/IllegalArgumentException", Cond.methodLink RL 7 yX2_setHardness, Cond.instanceMethod yX2_setHardness, Cond.selects RX2 yX2_setHardness yX2_setHardness, Cond.code yX2_setHardness cX2_setHardness 6 (some .int), Cond.classLink RX2 38 "java/lang/IndexOutOfBoundsException", Cond.initialized "java/lang/IndexOutOfBoundsException", Cond.classLink RX2 48 "java/lang/IllegalArgumentException", Cond.initialized "java/lang/IllegalArgumentException", Cond.methodLink RX2 30 yX2_cellNumber, Cond.static yX2_cellNumber, Cond.code yX2_cellNumber cX2_cellNumber 2 (some .int), Cond.methodLink RX2 34 yX2_isCell, Cond.methodLink RX2 45 yX2_isGrade, Cond.static yX2_isGrade, Cond.code yX2_isGrade cX2_isGrade 1 (some .boolean), Cond.methodLink RL 74 yX3_setHardness, Cond.instanceMethod yX3_setHardness, Cond.selects RX3 yX3_setHardness yX3_setHardness, Cond.code yX3_setHardness cX3_setHardness 5 (some .int)]
def wsL_law0_r6 : List Cond := [Cond.fieldLink RX3 41 "MeanderFarmModel" "thrown" "I", Cond.methodLink RX3 53 yX3_isCell, Cond.static yX3_isCell, Cond.code yX3_isCell cX3_isCell 2 (some .boolean), Cond.methodLink RX3 45 yX3_isIn, Cond.static yX3_isIn, Cond.code yX3_isIn cX3_isIn 3 (some .boolean), Cond.methodLink RX3 57 yX3_fail, Cond.instanceMethod yX3_fail, Cond.selects RX3 yX3_fail yX3_fail, Cond.code yX3_fail cX3_fail 2 (some .int), Cond.methodLink RL 75 yX3_thrown, Cond.instanceMethod yX3_thrown, Cond.selects RX3 yX3_thrown yX3_thrown, Cond.code yX3_thrown cX3_thrown 1 (some .int), Cond.methodLink RL 79 yL_setStones, Cond.static yL_setStones, Cond.codeWith yL_setStones cL_setStones 6 (some .int) [(0, 12, 15, 13)], Cond.methodLink RL 17 yX2_setStones, Cond.instanceMethod yX2_setStones, Cond.selects RX2 yX2_setStones yX2_setStones, Cond.code yX2_setStones cX2_setStones 5 (some .int), Cond.instanceMethod yX1_cellsWithStones, Cond.selects RX1 yX1_cellsWithStones yX1_cellsWithStones]
def wsL_law0_r7 : List Cond := [Cond.code yX1_cellsWithStones cX1_cellsWithStones 3 (some .int), Cond.methodLink RL 82 yX3_setStones, Cond.instanceMethod yX3_setStones, Cond.selects RX3 yX3_setStones yX3_setStones, Cond.code yX3_setStones cX3_setStones 4 (some .int), Cond.methodLink RX3 61 yX3_allStones, Cond.instanceMethod yX3_allStones, Cond.selects RX3 yX3_allStones yX3_allStones, Cond.code yX3_allStones cX3_allStones 6 (some .int), Cond.methodLink RL 83 yL_setFlow, Cond.static yL_setFlow, Cond.codeWith yL_setFlow cL_setFlow 5 (some .int) [(0, 10, 13, 13), (0, 10, 17, 15)], Cond.methodLink RL 21 yX2_setFlow, Cond.instanceMethod yX2_setFlow, Cond.selects RX2 yX2_setFlow yX2_setFlow, Cond.code yX2_setFlow cX2_setFlow 4 (some .int), Cond.methodLink RL 86 yX3_setFlow, Cond.instanceMethod yX3_setFlow, Cond.selects RX3 yX3_setFlow yX3_setFlow, Cond.code yX3_setFlow cX3_setFlow 4 (some .int), Cond.methodLink RL 87 yL_cell, Cond.static yL_cell, Cond.codeWith yL_cell cL_cell 6 (some .int) [(0, 12, 15, 13)], Cond.methodLink RL 25 yX2_cell]
def wsL_law0_r8 : List Cond := [Cond.instanceMethod yX2_cell, Cond.selects RX2 yX2_cell yX2_cell, Cond.code yX2_cell cX2_cell 5 (some .int), Cond.instanceMethod yX1_lakeYearsLeft, Cond.selects RX1 yX1_lakeYearsLeft yX1_lakeYearsLeft, Cond.code yX1_lakeYearsLeft cX1_lakeYearsLeft 2 (some .int), Cond.fieldLink RX1 60 "MeanderFarm$River" "year" "I", Cond.instanceMethod yX0_farmsAt, Cond.selects RX0 yX0_farmsAt yX0_farmsAt, Cond.code yX0_farmsAt cX0_farmsAt 5 (some .int), Cond.fieldLink RX0 24 "MeanderFarm$Farms" "size" "I", Cond.methodLink RL 89 yX3_cell, Cond.instanceMethod yX3_cell, Cond.selects RX3 yX3_cell yX3_cell, Cond.code yX3_cell cX3_cell 7 (some .int), Cond.fieldLink RX3 64 "MeanderFarmModel" "farms" "I", Cond.methodLink RX3 67 yX3_isOf, Cond.instanceMethod yX3_isOf, Cond.selects RX3 yX3_isOf yX3_isOf, Cond.code yX3_isOf cX3_isOf 4 (some .boolean), Cond.methodLink RL 90 yL_course, Cond.static yL_course, Cond.codeWith yL_course cL_course 5 (some .int) [(0, 10, 13, 13)], Cond.methodLink RL 28 yX2_course]
def wsL_law0_r9 : List Cond := [Cond.instanceMethod yX2_course, Cond.selects RX2 yX2_course yX2_course, Cond.code yX2_course cX2_course 3 (some .int), Cond.instanceMethod yX1_isStraight, Cond.selects RX1 yX1_isStraight yX1_isStraight, Cond.code yX1_isStraight cX1_isStraight 2 (some .boolean), Cond.methodLink RL 92 yX3_course, Cond.instanceMethod yX3_course, Cond.selects RX3 yX3_course yX3_course, Cond.code yX3_course cX3_course 3 (some .int), Cond.methodLink RX3 84 yX3_isCourse, Cond.instanceMethod yX3_isCourse, Cond.selects RX3 yX3_isCourse yX3_isCourse, Cond.code yX3_isCourse cX3_isCourse 2 (some .boolean), Cond.methodLink RX3 70 yX3_direction, Cond.instanceMethod yX3_direction, Cond.selects RX3 yX3_direction yX3_direction, Cond.code yX3_direction cX3_direction 3 (some .int), Cond.methodLink RX3 73 yX3_isStraight, Cond.instanceMethod yX3_isStraight, Cond.selects RX3 yX3_isStraight yX3_isStraight, Cond.code yX3_isStraight cX3_isStraight 2 (some .boolean), Cond.methodLink RX3 77 yX3_side, Cond.instanceMethod yX3_side]
def wsL_law0_r10 : List Cond := [Cond.selects RX3 yX3_side yX3_side, Cond.code yX3_side cX3_side 3 (some .int), Cond.methodLink RX3 87 yX3_bank, Cond.instanceMethod yX3_bank, Cond.selects RX3 yX3_bank yX3_bank, Cond.code yX3_bank cX3_bank 2 (some .int), Cond.methodLink RX3 80 yX3_beside, Cond.static yX3_beside, Cond.code yX3_beside cX3_beside 4 (some .int), Cond.methodLink RL 93 yL_slip, Cond.static yL_slip, Cond.codeWith yL_slip cL_slip 5 (some .int) [(0, 10, 13, 13), (0, 10, 17, 15), (0, 10, 21, 34)], Cond.classLink RL 34 "java/lang/IllegalStateException", Cond.methodLink RL 31 yX2_slip, Cond.instanceMethod yX2_slip, Cond.selects RX2 yX2_slip yX2_slip, Cond.code yX2_slip cX2_slip 3 (some .int), Cond.classLink RX2 114 "java/lang/IllegalStateException", Cond.initialized "java/lang/IllegalStateException", Cond.instanceMethod yX1_canBulge, Cond.selects RX1 yX1_canBulge yX1_canBulge, Cond.code yX1_canBulge cX1_canBulge 4 (some .boolean), Cond.methodLink RX1 92 yX1_isStraight, Cond.methodLink RX1 95 yX1_isOpen]
def wsL_law0_r11 : List Cond := [Cond.instanceMethod yX1_isOpen, Cond.selects RX1 yX1_isOpen yX1_isOpen, Cond.code yX1_isOpen cX1_isOpen 2 (some .boolean), Cond.instanceMethod yX1_bulge, Cond.selects RX1 yX1_bulge yX1_bulge, Cond.code yX1_bulge cX1_bulge 7 none, Cond.methodLink RX1 54 arraycopyName, Cond.native arraycopyName, Cond.static arraycopyName, Cond.initialized "java/lang/System", Cond.methodLink RX1 98 yX1_canBulge, Cond.methodLink RX1 102 yX1_takeIntoCourse, Cond.instanceMethod yX1_takeIntoCourse, Cond.selects RX1 yX1_takeIntoCourse yX1_takeIntoCourse, Cond.code yX1_takeIntoCourse cX1_takeIntoCourse 3 none, Cond.methodLink RL 95 yX3_slip, Cond.instanceMethod yX3_slip, Cond.selects RX3 yX3_slip yX3_slip, Cond.code yX3_slip cX3_slip 3 (some .int), Cond.methodLink RX3 90 yX3_canBulge, Cond.instanceMethod yX3_canBulge, Cond.selects RX3 yX3_canBulge yX3_canBulge, Cond.code yX3_canBulge cX3_canBulge 5 (some .boolean), Cond.methodLink RX3 93 yX3_bulge]
def wsL_law0_r12 : List Cond := [Cond.instanceMethod yX3_bulge, Cond.selects RX3 yX3_bulge yX3_bulge, Cond.code yX3_bulge cX3_bulge 7 none, Cond.methodLink RL 96 yL_dig, Cond.static yL_dig, Cond.codeWith yL_dig cL_dig 5 (some .int) [(0, 10, 13, 13), (0, 10, 17, 34)], Cond.methodLink RL 36 yX2_dig, Cond.instanceMethod yX2_dig, Cond.selects RX2 yX2_dig yX2_dig, Cond.code yX2_dig cX2_dig 3 (some .int), Cond.instanceMethod yX1_isNeck, Cond.selects RX1 yX1_isNeck yX1_isNeck, Cond.code yX1_isNeck cX1_isNeck 3 (some .boolean), Cond.instanceMethod yX1_breakThrough, Cond.selects RX1 yX1_breakThrough yX1_breakThrough, Cond.code yX1_breakThrough cX1_breakThrough 5 none, Cond.fieldLink RX1 63 "MeanderFarm$River" "breaks" "I", Cond.methodLink RX1 112 yX1_isNeck, Cond.methodLink RL 98 yX3_dig, Cond.instanceMethod yX3_dig, Cond.selects RX3 yX3_dig yX3_dig, Cond.code yX3_dig cX3_dig 3 (some .int), Cond.methodLink RX3 102 yX3_isNeck, Cond.instanceMethod yX3_isNeck]
def wsL_law0_r13 : List Cond := [Cond.selects RX3 yX3_isNeck yX3_isNeck, Cond.code yX3_isNeck cX3_isNeck 5 (some .boolean), Cond.methodLink RX3 97 Lib.Math.abs.name, Cond.static Lib.Math.abs.name, Cond.code Lib.Math.abs.name Lib.Math.abs.code 1 (some .int), Cond.methodLink RX3 105 yX3_breakThrough, Cond.instanceMethod yX3_breakThrough, Cond.selects RX3 yX3_breakThrough yX3_breakThrough, Cond.code yX3_breakThrough cX3_breakThrough 4 none, Cond.methodLink RL 99 yL_neck, Cond.static yL_neck, Cond.codeWith yL_neck cL_neck 4 (some .int) [(0, 9, 12, 13)], Cond.methodLink RL 39 yX2_neck, Cond.instanceMethod yX2_neck, Cond.selects RX2 yX2_neck yX2_neck, Cond.code yX2_neck cX2_neck 2 (some .int), Cond.instanceMethod yX1_necks, Cond.selects RX1 yX1_necks yX1_necks, Cond.code yX1_necks cX1_necks 4 (some .int), Cond.methodLink RX1 106 yX1_placeOf, Cond.instanceMethod yX1_placeOf, Cond.selects RX1 yX1_placeOf yX1_placeOf, Cond.code yX1_placeOf cX1_placeOf 2 (some .int), Cond.instanceMethod yX1_widestNeck]
def wsL_law0_r14 : List Cond := [Cond.selects RX1 yX1_widestNeck yX1_widestNeck, Cond.code yX1_widestNeck cX1_widestNeck 5 (some .int), Cond.methodLink RX1 109 yX1_farthestAcross, Cond.instanceMethod yX1_farthestAcross, Cond.selects RX1 yX1_farthestAcross yX1_farthestAcross, Cond.code yX1_farthestAcross cX1_farthestAcross 5 (some .int), Cond.instanceMethod yX1_copyFrom, Cond.selects RX1 yX1_copyFrom yX1_copyFrom, Cond.code yX1_copyFrom cX1_copyFrom 3 none, Cond.instanceMethod yX1_flood, Cond.selects RX1 yX1_flood yX1_flood, Cond.code yX1_flood cX1_flood 3 none, Cond.methodLink RX1 131 yX1_widestNeck, Cond.methodLink RX1 135 yX1_breakThrough, Cond.methodLink RL 102 yX3_neck, Cond.instanceMethod yX3_neck, Cond.selects RX3 yX3_neck yX3_neck, Cond.code yX3_neck cX3_neck 6 (some .int), Cond.methodLink RX3 114 yX3_first, Cond.instanceMethod yX3_first, Cond.selects RX3 yX3_first yX3_first, Cond.code yX3_first cX3_first 3 (some .int), Cond.methodLink RX3 111 yX3_far, Cond.instanceMethod yX3_far]
def wsL_law0_r15 : List Cond := [Cond.selects RX3 yX3_far yX3_far, Cond.code yX3_far cX3_far 5 (some .int), Cond.methodLink RX3 108 Lib.Math.max.name, Cond.methodLink RX3 117 yX3_necks, Cond.instanceMethod yX3_necks, Cond.selects RX3 yX3_necks yX3_necks, Cond.code yX3_necks cX3_necks 4 (some .int), Cond.methodLink RX3 120 yX3_kept, Cond.instanceMethod yX3_kept, Cond.selects RX3 yX3_kept yX3_kept, Cond.code yX3_kept cX3_kept 1 (some (.array (.array .int))), Cond.classLink RX3 153 "[I", Cond.methodLink RX3 154 ⟨"[I", "clone", "()Ljava/lang/Object;"⟩, Cond.sameMethod "[I" "java/lang/Object" "clone" "()Ljava/lang/Object;", Cond.native ⟨"java/lang/Object", "clone", "()Ljava/lang/Object;"⟩, Cond.instanceMethod ⟨"java/lang/Object", "clone", "()Ljava/lang/Object;"⟩, Cond.selects "[I" ⟨"[I", "clone", "()Ljava/lang/Object;"⟩ ⟨"java/lang/Object", "clone", "()Ljava/lang/Object;"⟩, Cond.methodLink RX3 124 yX3_flood, Cond.instanceMethod yX3_flood, Cond.selects RX3 yX3_flood yX3_flood, Cond.code yX3_flood cX3_flood 2 none, Cond.methodLink RX3 127 yX3_bringBack, Cond.instanceMethod yX3_bringBack, Cond.selects RX3 yX3_bringBack yX3_bringBack]
def wsL_law0_r16 : List Cond := [Cond.code yX3_bringBack cX3_bringBack 2 none, Cond.methodLink RX3 131 arraycopyName, Cond.methodLink RL 103 yL_addFarm, Cond.static yL_addFarm, Cond.codeWith yL_addFarm cL_addFarm 7 (some .int) [(0, 14, 17, 15), (0, 14, 21, 34)], Cond.methodLink RL 43 yX2_addFarm, Cond.instanceMethod yX2_addFarm, Cond.selects RX2 yX2_addFarm yX2_addFarm, Cond.code yX2_addFarm cX2_addFarm 5 (some .int), Cond.methodLink RX2 153 yX2_isSpan, Cond.static yX2_isSpan, Cond.code yX2_isSpan cX2_isSpan 3 (some .boolean), Cond.instanceMethod yX0_append, Cond.selects RX0 yX0_append yX0_append, Cond.code yX0_append cX0_append 6 (some .int), Cond.methodLink RL 106 yX3_addFarm, Cond.instanceMethod yX3_addFarm, Cond.selects RX3 yX3_addFarm yX3_addFarm, Cond.code yX3_addFarm cX3_addFarm 6 (some .int), Cond.methodLink RL 107 yL_farm, Cond.static yL_farm, Cond.codeWith yL_farm cL_farm 5 (some .int) [(0, 10, 13, 13)], Cond.methodLink RL 47 yX2_farm, Cond.instanceMethod yX2_farm]
def wsL_law0_r17 : List Cond := [Cond.selects RX2 yX2_farm yX2_farm, Cond.code yX2_farm cX2_farm 3 (some .int), Cond.instanceMethod yX0_isFarm, Cond.selects RX0 yX0_isFarm yX0_isFarm, Cond.code yX0_isFarm cX0_isFarm 2 (some .boolean), Cond.instanceMethod yX0_cellsOf, Cond.selects RX0 yX0_cellsOf yX0_cellsOf, Cond.code yX0_cellsOf cX0_cellsOf 7 (some .int), Cond.methodLink RX0 28 yX0_isFarm, Cond.methodLink RX0 36 yX0_isCounted, Cond.static yX0_isCounted, Cond.code yX0_isCounted cX0_isCounted 5 (some .boolean), Cond.methodLink RL 109 yX3_farm, Cond.instanceMethod yX3_farm, Cond.selects RX3 yX3_farm yX3_farm, Cond.code yX3_farm cX3_farm 3 (some .int), Cond.methodLink RX3 137 yX3_isFarm, Cond.instanceMethod yX3_isFarm, Cond.selects RX3 yX3_isFarm yX3_isFarm, Cond.code yX3_isFarm cX3_isFarm 2 (some .boolean), Cond.methodLink RX3 140 yX3_farmTold, Cond.instanceMethod yX3_farmTold, Cond.selects RX3 yX3_farmTold yX3_farmTold, Cond.code yX3_farmTold cX3_farmTold 8 (some .int)]
def wsL_law0_r18 : List Cond := [Cond.methodLink RL 110 yL_pass, Cond.static yL_pass, Cond.codeWith yL_pass cL_pass 4 (some .int) [(0, 9, 12, 15)], Cond.methodLink RL 50 yX2_pass, Cond.instanceMethod yX2_pass, Cond.selects RX2 yX2_pass yX2_pass, Cond.code yX2_pass cX2_pass 2 (some .int), Cond.instanceMethod yX1_letPass, Cond.selects RX1 yX1_letPass yX1_letPass, Cond.code yX1_letPass cX1_letPass 5 (some .int), Cond.methodLink RX1 115 yJ9_floorMod_7cf53, Cond.static yJ9_floorMod_7cf53, Cond.initialized RJ9, Cond.code yJ9_floorMod_7cf53 cJ9_floorMod_7cf53 3 (some .int), Cond.methodLink RX1 118 yX1_wearBanks, Cond.instanceMethod yX1_wearBanks, Cond.selects RX1 yX1_wearBanks yX1_wearBanks, Cond.code yX1_wearBanks cX1_wearBanks 4 none, Cond.methodLink RX1 121 yX1_bulgeWhereRipest, Cond.instanceMethod yX1_bulgeWhereRipest, Cond.selects RX1 yX1_bulgeWhereRipest yX1_bulgeWhereRipest, Cond.code yX1_bulgeWhereRipest cX1_bulgeWhereRipest 6 (some .boolean), Cond.methodLink RX1 128 yX1_bulge, Cond.methodLink RX1 125 yX1_flood]
def wsL_law0_r19 : List Cond := [Cond.methodLink RL 112 yX3_pass, Cond.instanceMethod yX3_pass, Cond.selects RX3 yX3_pass yX3_pass, Cond.code yX3_pass cX3_pass 2 (some .int), Cond.methodLink RX3 147 yX3_yearsOn, Cond.instanceMethod yX3_yearsOn, Cond.selects RX3 yX3_yearsOn yX3_yearsOn, Cond.code yX3_yearsOn cX3_yearsOn 4 (some .int), Cond.methodLink RX3 143 yX3_yearOn, Cond.instanceMethod yX3_yearOn, Cond.selects RX3 yX3_yearOn yX3_yearOn, Cond.code yX3_yearOn cX3_yearOn 6 (some .boolean), Cond.methodLink RL 113 yL_count, Cond.static yL_count, Cond.codeWith yL_count cL_count 4 (some .int) [(0, 9, 12, 13)], Cond.methodLink RL 53 yX2_count, Cond.instanceMethod yX2_count, Cond.selects RX2 yX2_count yX2_count, Cond.code yX2_count cX2_count 2 (some .int), Cond.methodLink RX2 184 yX2_total, Cond.instanceMethod yX2_total, Cond.selects RX2 yX2_total yX2_total, Cond.code yX2_total cX2_total 2 (some .int), Cond.instanceMethod yX1_lakes]
def wsL_law0_r20 : List Cond := [Cond.selects RX1 yX1_lakes yX1_lakes, Cond.code yX1_lakes cX1_lakes 3 (some .int), Cond.instanceMethod yX1_bends, Cond.selects RX1 yX1_bends yX1_bends, Cond.code yX1_bends cX1_bends 3 (some .int), Cond.instanceMethod yX1_allWear, Cond.selects RX1 yX1_allWear yX1_allWear, Cond.code yX1_allWear cX1_allWear 3 (some .int), Cond.methodLink RL 115 yX3_count, Cond.instanceMethod yX3_count, Cond.selects RX3 yX3_count yX3_count, Cond.code yX3_count cX3_count 2 (some .int), Cond.methodLink RX3 150 yX3_counted, Cond.instanceMethod yX3_counted, Cond.selects RX3 yX3_counted yX3_counted, Cond.code yX3_counted cX3_counted 4 (some .int), Cond.methodLink RL 116 yL_foresee, Cond.static yL_foresee, Cond.codeWith yL_foresee cL_foresee 5 (some .int) [(0, 10, 13, 15), (0, 10, 17, 13)], Cond.methodLink RL 56 yX2_foresee, Cond.instanceMethod yX2_foresee, Cond.selects RX2 yX2_foresee yX2_foresee, Cond.code yX2_foresee cX2_foresee 4 (some .int), Cond.methodLink RL 118 yX3_foresee]
def wsL_law0_r21 : List Cond := [Cond.instanceMethod yX3_foresee, Cond.selects RX3 yX3_foresee yX3_foresee, Cond.code yX3_foresee cX3_foresee 6 (some .int), Cond.methodLink RL 119 yL_loses, Cond.static yL_loses, Cond.codeWith yL_loses cL_loses 4 (some .int) [(0, 9, 12, 13)], Cond.methodLink RL 59 yX2_loses, Cond.instanceMethod yX2_loses, Cond.selects RX2 yX2_loses yX2_loses, Cond.code yX2_loses cX2_loses 4 (some .int), Cond.methodLink RL 121 yX3_loses, Cond.instanceMethod yX3_loses, Cond.selects RX3 yX3_loses yX3_loses, Cond.code yX3_loses cX3_loses 6 (some .int), Cond.methodLink RL 122 yL_advise, Cond.static yL_advise, Cond.codeWith yL_advise cL_advise 5 (some .int) [(0, 10, 13, 13), (0, 10, 17, 15)], Cond.methodLink RL 62 yX2_advise, Cond.instanceMethod yX2_advise, Cond.selects RX2 yX2_advise yX2_advise, Cond.code yX2_advise cX2_advise 7 (some .int), Cond.methodLink RX2 201 arraycopyName, Cond.methodLink RX2 194 yX2_landAhead, Cond.instanceMethod yX2_landAhead]
def wsL_law0_r22 : List Cond := [Cond.selects RX2 yX2_landAhead yX2_landAhead, Cond.code yX2_landAhead cX2_landAhead 4 (some .int), Cond.methodLink RL 124 yX3_advise, Cond.instanceMethod yX3_advise, Cond.selects RX3 yX3_advise yX3_advise, Cond.code yX3_advise cX3_advise 8 (some .int), Cond.methodLink RL 125 yX2_winding, Cond.instanceMethod yX2_winding, Cond.selects RX2 yX2_winding yX2_winding, Cond.code yX2_winding cX2_winding 1 (some .double), Cond.constantDouble RX2 207 (4627448617123184640), Cond.methodLink RL 129 yX3_winding, Cond.instanceMethod yX3_winding, Cond.selects RX3 yX3_winding yX3_winding, Cond.code yX3_winding cX3_winding 1 (some .double), Cond.constantDouble RX3 158 (4627448617123184640), Cond.methodLink RL 130 yX2_digest, Cond.instanceMethod yX2_digest, Cond.selects RX2 yX2_digest yX2_digest, Cond.code yX2_digest cX2_digest 5 (some .long), Cond.constantLong RX2 209 (599), Cond.constantLong RX2 211 (31), Cond.instanceMethod yX1_digestFrom, Cond.selects RX1 yX1_digestFrom yX1_digestFrom]
def wsL_law0_r23 : List Cond := [Cond.code yX1_digestFrom cX1_digestFrom 6 (some .long), Cond.constantLong RX1 138 (31), Cond.methodLink RX1 140 yX1_lakeYearsLeft, Cond.methodLink RL 134 yX3_digest, Cond.instanceMethod yX3_digest, Cond.selects RX3 yX3_digest yX3_digest, Cond.code yX3_digest cX3_digest 7 (some .long), Cond.constantLong RX3 160 (599), Cond.constantLong RX3 162 (31)]
def wsL_law0 : List Cond := (wsL_law0_r1 ++ (wsL_law0_r2 ++ (wsL_law0_r3 ++ (wsL_law0_r4 ++ (wsL_law0_r5 ++ (wsL_law0_r6 ++ (wsL_law0_r7 ++ (wsL_law0_r8 ++ (wsL_law0_r9 ++ (wsL_law0_r10 ++ (wsL_law0_r11 ++ (wsL_law0_r12 ++ (wsL_law0_r13 ++ (wsL_law0_r14 ++ (wsL_law0_r15 ++ (wsL_law0_r16 ++ (wsL_law0_r17 ++ (wsL_law0_r18 ++ (wsL_law0_r19 ++ (wsL_law0_r20 ++ (wsL_law0_r21 ++ (wsL_law0_r22 ++ wsL_law0_r23)))))))))))))))))))))) ++ wsX20 ++ wsX30 ++ wsX10 ++ wsX00 ++ ([] : List Cond)
def wsL_law : List Cond := wsL_law0 ++ (vx_atS RX2 42 "java/lang/IndexOutOfBoundsException" ["java/lang/RuntimeException", "java/lang/Exception"]).filter goodWord ++ (vx_atS RX2 52 "java/lang/IllegalArgumentException" ["java/lang/RuntimeException", "java/lang/Exception"]).filter goodWord ++ (vx_atS RX2 118 "java/lang/IllegalStateException" ["java/lang/RuntimeException", "java/lang/Exception"]).filter goodWord
end
section
theorem dX0_init_0 : decode cX0_init 0 = .ok (.aload_n 0, 1) := by decide +kernel
theorem dX0_init_1 : decode cX0_init 1 = .ok (.invokespecial 3, 3) := by decide +kernel
theorem dX0_init_4 : decode cX0_init 4 = .ok (.aload_n 0, 1) := by decide +kernel
theorem dX0_init_5 : decode cX0_init 5 = .ok (.bipush 6, 2) := by decide +kernel
theorem dX0_init_7 : decode cX0_init 7 = .ok (.newarray .int, 2) := by decide +kernel
theorem dX0_init_9 : decode cX0_init 9 = .ok (.putfield 9, 3) := by decide +kernel
theorem dX0_init_12 : decode cX0_init 12 = .ok (.aload_n 0, 1) := by decide +kernel
theorem dX0_init_13 : decode cX0_init 13 = .ok (.bipush 6, 2) := by decide +kernel
theorem dX0_init_15 : decode cX0_init 15 = .ok (.newarray .int, 2) := by decide +kernel
theorem dX0_init_17 : decode cX0_init 17 = .ok (.putfield 15, 3) := by decide +kernel
theorem dX0_init_20 : decode cX0_init 20 = .ok (.aload_n 0, 1) := by decide +kernel
theorem dX0_init_21 : decode cX0_init 21 = .ok (.bipush 6, 2) := by decide +kernel
theorem dX0_init_23 : decode cX0_init 23 = .ok (.newarray .int, 2) := by decide +kernel
theorem dX0_init_25 : decode cX0_init 25 = .ok (.putfield 18, 3) := by decide +kernel
theorem dX0_init_28 : decode cX0_init 28 = .ok (.aload_n 0, 1) := by decide +kernel
theorem dX0_init_29 : decode cX0_init 29 = .ok (.bipush 6, 2) := by decide +kernel
theorem dX0_init_31 : decode cX0_init 31 = .ok (.newarray .int, 2) := by decide +kernel
theorem dX0_init_33 : decode cX0_init 33 = .ok (.putfield 21, 3) := by decide +kernel
theorem dX0_init_36 : decode cX0_init 36 = .ok (.return_, 1) := by decide +kernel
theorem dX0_isFarm_0 : decode cX0_isFarm 0 = .ok (.iload_n 1, 1) := by decide +kernel
theorem dX0_isFarm_1 : decode cX0_isFarm 1 = .ok (.ifCond .lt 21, 3) := by decide +kernel
theorem dX0_isFarm_4 : decode cX0_isFarm 4 = .ok (.iload_n 1, 1) := by decide +kernel
theorem dX0_isFarm_5 : decode cX0_isFarm 5 = .ok (.aload_n 0, 1) := by decide +kernel
theorem dX0_isFarm_6 : decode cX0_isFarm 6 = .ok (.getfield 24, 3) := by decide +kernel
theorem dX0_isFarm_9 : decode cX0_isFarm 9 = .ok (.if_icmp .ge 13, 3) := by decide +kernel
theorem dX0_isFarm_12 : decode cX0_isFarm 12 = .ok (.iload_n 1, 1) := by decide +kernel
theorem dX0_isFarm_13 : decode cX0_isFarm 13 = .ok (.bipush 6, 2) := by decide +kernel
theorem dX0_isFarm_15 : decode cX0_isFarm 15 = .ok (.if_icmp .ge 7, 3) := by decide +kernel
theorem dX0_isFarm_18 : decode cX0_isFarm 18 = .ok (.iconst 1, 1) := by decide +kernel
theorem dX0_isFarm_19 : decode cX0_isFarm 19 = .ok (.goto 4, 3) := by decide +kernel
theorem dX0_isFarm_22 : decode cX0_isFarm 22 = .ok (.iconst 0, 1) := by decide +kernel
theorem dX0_isFarm_23 : decode cX0_isFarm 23 = .ok (.ireturn, 1) := by decide +kernel
theorem dX0_append_0 : decode cX0_append 0 = .ok (.aload_n 0, 1) := by decide +kernel
theorem dX0_append_1 : decode cX0_append 1 = .ok (.getfield 24, 3) := by decide +kernel
theorem dX0_append_4 : decode cX0_append 4 = .ok (.istore 5, 2) := by decide +kernel
theorem dX0_append_6 : decode cX0_append 6 = .ok (.iload 5, 2) := by decide +kernel
theorem dX0_append_8 : decode cX0_append 8 = .ok (.ifCond .lt 10, 3) := by decide +kernel
theorem dX0_append_11 : decode cX0_append 11 = .ok (.iload 5, 2) := by decide +kernel
theorem dX0_append_13 : decode cX0_append 13 = .ok (.bipush 6, 2) := by decide +kernel
theorem dX0_append_15 : decode cX0_append 15 = .ok (.if_icmp .lt 5, 3) := by decide +kernel
theorem dX0_append_18 : decode cX0_append 18 = .ok (.iconst (-1), 1) := by decide +kernel
theorem dX0_append_19 : decode cX0_append 19 = .ok (.ireturn, 1) := by decide +kernel
theorem dX0_append_20 : decode cX0_append 20 = .ok (.aload_n 0, 1) := by decide +kernel
theorem dX0_append_21 : decode cX0_append 21 = .ok (.getfield 9, 3) := by decide +kernel
theorem dX0_append_24 : decode cX0_append 24 = .ok (.iload 5, 2) := by decide +kernel
theorem dX0_append_26 : decode cX0_append 26 = .ok (.iload_n 1, 1) := by decide +kernel
theorem dX0_append_27 : decode cX0_append 27 = .ok (.iastore, 1) := by decide +kernel
theorem dX0_append_28 : decode cX0_append 28 = .ok (.aload_n 0, 1) := by decide +kernel
theorem dX0_append_29 : decode cX0_append 29 = .ok (.getfield 15, 3) := by decide +kernel
theorem dX0_append_32 : decode cX0_append 32 = .ok (.iload 5, 2) := by decide +kernel
theorem dX0_append_34 : decode cX0_append 34 = .ok (.iload_n 2, 1) := by decide +kernel
theorem dX0_append_35 : decode cX0_append 35 = .ok (.iastore, 1) := by decide +kernel
theorem dX0_append_36 : decode cX0_append 36 = .ok (.aload_n 0, 1) := by decide +kernel
theorem dX0_append_37 : decode cX0_append 37 = .ok (.getfield 18, 3) := by decide +kernel
theorem dX0_append_40 : decode cX0_append 40 = .ok (.iload 5, 2) := by decide +kernel
theorem dX0_append_42 : decode cX0_append 42 = .ok (.iload_n 3, 1) := by decide +kernel
theorem dX0_append_43 : decode cX0_append 43 = .ok (.iastore, 1) := by decide +kernel
theorem dX0_append_44 : decode cX0_append 44 = .ok (.aload_n 0, 1) := by decide +kernel
theorem dX0_append_45 : decode cX0_append 45 = .ok (.getfield 21, 3) := by decide +kernel
theorem dX0_append_48 : decode cX0_append 48 = .ok (.iload 5, 2) := by decide +kernel
theorem dX0_append_50 : decode cX0_append 50 = .ok (.iload 4, 2) := by decide +kernel
theorem dX0_append_52 : decode cX0_append 52 = .ok (.iastore, 1) := by decide +kernel
theorem dX0_append_53 : decode cX0_append 53 = .ok (.aload_n 0, 1) := by decide +kernel
theorem dX0_append_54 : decode cX0_append 54 = .ok (.dup, 1) := by decide +kernel
theorem dX0_append_55 : decode cX0_append 55 = .ok (.getfield 24, 3) := by decide +kernel
theorem dX0_append_58 : decode cX0_append 58 = .ok (.iconst 1, 1) := by decide +kernel
theorem dX0_append_59 : decode cX0_append 59 = .ok (.iadd, 1) := by decide +kernel
theorem dX0_append_60 : decode cX0_append 60 = .ok (.putfield 24, 3) := by decide +kernel
theorem dX0_append_63 : decode cX0_append 63 = .ok (.iload 5, 2) := by decide +kernel
theorem dX0_append_65 : decode cX0_append 65 = .ok (.ireturn, 1) := by decide +kernel
theorem dX0_farmsAt_0 : decode cX0_farmsAt 0 = .ok (.iconst 0, 1) := by decide +kernel
theorem dX0_farmsAt_1 : decode cX0_farmsAt 1 = .ok (.istore_n 3, 1) := by decide +kernel
theorem dX0_farmsAt_2 : decode cX0_farmsAt 2 = .ok (.iconst 0, 1) := by decide +kernel
theorem dX0_farmsAt_3 : decode cX0_farmsAt 3 = .ok (.istore 4, 2) := by decide +kernel
theorem dX0_farmsAt_5 : decode cX0_farmsAt 5 = .ok (.iload 4, 2) := by decide +kernel
theorem dX0_farmsAt_7 : decode cX0_farmsAt 7 = .ok (.aload_n 0, 1) := by decide +kernel
theorem dX0_farmsAt_8 : decode cX0_farmsAt 8 = .ok (.getfield 24, 3) := by decide +kernel
theorem dX0_farmsAt_11 : decode cX0_farmsAt 11 = .ok (.if_icmp .ge 76, 3) := by decide +kernel
theorem dX0_farmsAt_14 : decode cX0_farmsAt 14 = .ok (.iload_n 1, 1) := by decide +kernel
theorem dX0_farmsAt_15 : decode cX0_farmsAt 15 = .ok (.aload_n 0, 1) := by decide +kernel
theorem dX0_farmsAt_16 : decode cX0_farmsAt 16 = .ok (.getfield 9, 3) := by decide +kernel
theorem dX0_farmsAt_19 : decode cX0_farmsAt 19 = .ok (.iload 4, 2) := by decide +kernel
theorem dX0_farmsAt_21 : decode cX0_farmsAt 21 = .ok (.iaload, 1) := by decide +kernel
theorem dX0_farmsAt_22 : decode cX0_farmsAt 22 = .ok (.if_icmp .lt 59, 3) := by decide +kernel
theorem dX0_farmsAt_25 : decode cX0_farmsAt 25 = .ok (.iload_n 1, 1) := by decide +kernel
theorem dX0_farmsAt_26 : decode cX0_farmsAt 26 = .ok (.aload_n 0, 1) := by decide +kernel
theorem dX0_farmsAt_27 : decode cX0_farmsAt 27 = .ok (.getfield 9, 3) := by decide +kernel
theorem dX0_farmsAt_30 : decode cX0_farmsAt 30 = .ok (.iload 4, 2) := by decide +kernel
theorem dX0_farmsAt_32 : decode cX0_farmsAt 32 = .ok (.iaload, 1) := by decide +kernel
theorem dX0_farmsAt_33 : decode cX0_farmsAt 33 = .ok (.aload_n 0, 1) := by decide +kernel
theorem dX0_farmsAt_34 : decode cX0_farmsAt 34 = .ok (.getfield 18, 3) := by decide +kernel
theorem dX0_farmsAt_37 : decode cX0_farmsAt 37 = .ok (.iload 4, 2) := by decide +kernel
theorem dX0_farmsAt_39 : decode cX0_farmsAt 39 = .ok (.iaload, 1) := by decide +kernel
theorem dX0_farmsAt_40 : decode cX0_farmsAt 40 = .ok (.iadd, 1) := by decide +kernel
theorem dX0_farmsAt_41 : decode cX0_farmsAt 41 = .ok (.if_icmp .ge 40, 3) := by decide +kernel
theorem dX0_farmsAt_44 : decode cX0_farmsAt 44 = .ok (.iload_n 2, 1) := by decide +kernel
theorem dX0_farmsAt_45 : decode cX0_farmsAt 45 = .ok (.aload_n 0, 1) := by decide +kernel
theorem dX0_farmsAt_46 : decode cX0_farmsAt 46 = .ok (.getfield 15, 3) := by decide +kernel
theorem dX0_farmsAt_49 : decode cX0_farmsAt 49 = .ok (.iload 4, 2) := by decide +kernel
theorem dX0_farmsAt_51 : decode cX0_farmsAt 51 = .ok (.iaload, 1) := by decide +kernel
theorem dX0_farmsAt_52 : decode cX0_farmsAt 52 = .ok (.if_icmp .lt 29, 3) := by decide +kernel
theorem dX0_farmsAt_55 : decode cX0_farmsAt 55 = .ok (.iload_n 2, 1) := by decide +kernel
theorem dX0_farmsAt_56 : decode cX0_farmsAt 56 = .ok (.aload_n 0, 1) := by decide +kernel
theorem dX0_farmsAt_57 : decode cX0_farmsAt 57 = .ok (.getfield 15, 3) := by decide +kernel
theorem dX0_farmsAt_60 : decode cX0_farmsAt 60 = .ok (.iload 4, 2) := by decide +kernel
theorem dX0_farmsAt_62 : decode cX0_farmsAt 62 = .ok (.iaload, 1) := by decide +kernel
theorem dX0_farmsAt_63 : decode cX0_farmsAt 63 = .ok (.aload_n 0, 1) := by decide +kernel
theorem dX0_farmsAt_64 : decode cX0_farmsAt 64 = .ok (.getfield 21, 3) := by decide +kernel
theorem dX0_farmsAt_67 : decode cX0_farmsAt 67 = .ok (.iload 4, 2) := by decide +kernel
theorem dX0_farmsAt_69 : decode cX0_farmsAt 69 = .ok (.iaload, 1) := by decide +kernel
theorem dX0_farmsAt_70 : decode cX0_farmsAt 70 = .ok (.iadd, 1) := by decide +kernel
theorem dX0_farmsAt_71 : decode cX0_farmsAt 71 = .ok (.if_icmp .ge 10, 3) := by decide +kernel
theorem dX0_farmsAt_74 : decode cX0_farmsAt 74 = .ok (.iload_n 3, 1) := by decide +kernel
theorem dX0_farmsAt_75 : decode cX0_farmsAt 75 = .ok (.iconst 1, 1) := by decide +kernel
theorem dX0_farmsAt_76 : decode cX0_farmsAt 76 = .ok (.iload 4, 2) := by decide +kernel
theorem dX0_farmsAt_78 : decode cX0_farmsAt 78 = .ok (.ishl, 1) := by decide +kernel
theorem dX0_farmsAt_79 : decode cX0_farmsAt 79 = .ok (.ior, 1) := by decide +kernel
theorem dX0_farmsAt_80 : decode cX0_farmsAt 80 = .ok (.istore_n 3, 1) := by decide +kernel
theorem dX0_farmsAt_81 : decode cX0_farmsAt 81 = .ok (.iinc 4 1, 3) := by decide +kernel
theorem dX0_farmsAt_84 : decode cX0_farmsAt 84 = .ok (.goto (-79), 3) := by decide +kernel
theorem dX0_farmsAt_87 : decode cX0_farmsAt 87 = .ok (.iload_n 3, 1) := by decide +kernel
theorem dX0_farmsAt_88 : decode cX0_farmsAt 88 = .ok (.ireturn, 1) := by decide +kernel
set_option maxRecDepth 20000 in
theorem ggX0_cellsOf_X0_isFarm : GoodIn wsX0_cellsOf wsX0_isFarm := goodIn_r _ [9, 10, 29, 30, 31, 32, 33] (by decide +kernel) (by decide +kernel)
set_option maxRecDepth 20000 in
theorem gX0_cellsOf_X0_isFarm : GoodIn wsX0_cellsOf (wsV RX0 28 RX0 yX0_isFarm wsX0_isFarm) := goodIn_app (goodIn_of _ (by decide +kernel)) ggX0_cellsOf_X0_isFarm
set_option maxRecDepth 20000 in
theorem ggX0_cellsOf_X2_cellNumber : GoodIn wsX0_cellsOf wsX2_cellNumber := goodIn_r _ [13] (by decide +kernel) (by decide +kernel)
set_option maxRecDepth 20000 in
theorem gX0_cellsOf_X2_cellNumber_n32 : GoodIn wsX0_cellsOf (wsX2_cellNumber) := ggX0_cellsOf_X2_cellNumber
set_option maxRecDepth 20000 in
theorem ggX0_cellsOf_X0_isCounted : GoodIn wsX0_cellsOf wsX0_isCounted := goodIn_r _ [16, 17, 12, 18, 19, 20, 21, 22, 23, 24, 25, 26, 27, 28, 34, 35, 36, 37, 38, 39, 40, 41, 42, 43, 44, 45, 46, 47] (by decide +kernel) (by decide +kernel)
set_option maxRecDepth 20000 in
theorem gX0_cellsOf_X0_isCounted : GoodIn wsX0_cellsOf (va_wsS RX0 36 yX0_isCounted wsX0_isCounted) := goodIn_app (goodIn_of _ (by decide +kernel)) ggX0_cellsOf_X0_isCounted
theorem dX0_cellsOf_0 : decode cX0_cellsOf 0 = .ok (.aload_n 0, 1) := by decide +kernel
theorem dX0_cellsOf_1 : decode cX0_cellsOf 1 = .ok (.iload_n 1, 1) := by decide +kernel
theorem dX0_cellsOf_2 : decode cX0_cellsOf 2 = .ok (.invokevirtual 28, 3) := by decide +kernel
theorem dX0_cellsOf_5 : decode cX0_cellsOf 5 = .ok (.ifCond .ne 5, 3) := by decide +kernel
theorem dX0_cellsOf_8 : decode cX0_cellsOf 8 = .ok (.iconst 0, 1) := by decide +kernel
theorem dX0_cellsOf_9 : decode cX0_cellsOf 9 = .ok (.ireturn, 1) := by decide +kernel
theorem dX0_cellsOf_10 : decode cX0_cellsOf 10 = .ok (.iconst 0, 1) := by decide +kernel
theorem dX0_cellsOf_11 : decode cX0_cellsOf 11 = .ok (.istore 4, 2) := by decide +kernel
theorem dX0_cellsOf_13 : decode cX0_cellsOf 13 = .ok (.aload_n 0, 1) := by decide +kernel
theorem dX0_cellsOf_14 : decode cX0_cellsOf 14 = .ok (.getfield 15, 3) := by decide +kernel
theorem dX0_cellsOf_17 : decode cX0_cellsOf 17 = .ok (.iload_n 1, 1) := by decide +kernel
theorem dX0_cellsOf_18 : decode cX0_cellsOf 18 = .ok (.iaload, 1) := by decide +kernel
theorem dX0_cellsOf_19 : decode cX0_cellsOf 19 = .ok (.istore 5, 2) := by decide +kernel
theorem dX0_cellsOf_21 : decode cX0_cellsOf 21 = .ok (.iload 5, 2) := by decide +kernel
theorem dX0_cellsOf_23 : decode cX0_cellsOf 23 = .ok (.aload_n 0, 1) := by decide +kernel
theorem dX0_cellsOf_24 : decode cX0_cellsOf 24 = .ok (.getfield 15, 3) := by decide +kernel
theorem dX0_cellsOf_27 : decode cX0_cellsOf 27 = .ok (.iload_n 1, 1) := by decide +kernel
theorem dX0_cellsOf_28 : decode cX0_cellsOf 28 = .ok (.iaload, 1) := by decide +kernel
theorem dX0_cellsOf_29 : decode cX0_cellsOf 29 = .ok (.aload_n 0, 1) := by decide +kernel
theorem dX0_cellsOf_30 : decode cX0_cellsOf 30 = .ok (.getfield 21, 3) := by decide +kernel
theorem dX0_cellsOf_33 : decode cX0_cellsOf 33 = .ok (.iload_n 1, 1) := by decide +kernel
theorem dX0_cellsOf_34 : decode cX0_cellsOf 34 = .ok (.iaload, 1) := by decide +kernel
theorem dX0_cellsOf_35 : decode cX0_cellsOf 35 = .ok (.iadd, 1) := by decide +kernel
theorem dX0_cellsOf_36 : decode cX0_cellsOf 36 = .ok (.if_icmp .ge 59, 3) := by decide +kernel
theorem dX0_cellsOf_39 : decode cX0_cellsOf 39 = .ok (.aload_n 0, 1) := by decide +kernel
theorem dX0_cellsOf_40 : decode cX0_cellsOf 40 = .ok (.getfield 9, 3) := by decide +kernel
theorem dX0_cellsOf_43 : decode cX0_cellsOf 43 = .ok (.iload_n 1, 1) := by decide +kernel
theorem dX0_cellsOf_44 : decode cX0_cellsOf 44 = .ok (.iaload, 1) := by decide +kernel
theorem dX0_cellsOf_45 : decode cX0_cellsOf 45 = .ok (.istore 6, 2) := by decide +kernel
theorem dX0_cellsOf_47 : decode cX0_cellsOf 47 = .ok (.iload 6, 2) := by decide +kernel
theorem dX0_cellsOf_49 : decode cX0_cellsOf 49 = .ok (.aload_n 0, 1) := by decide +kernel
theorem dX0_cellsOf_50 : decode cX0_cellsOf 50 = .ok (.getfield 9, 3) := by decide +kernel
theorem dX0_cellsOf_53 : decode cX0_cellsOf 53 = .ok (.iload_n 1, 1) := by decide +kernel
theorem dX0_cellsOf_54 : decode cX0_cellsOf 54 = .ok (.iaload, 1) := by decide +kernel
theorem dX0_cellsOf_55 : decode cX0_cellsOf 55 = .ok (.aload_n 0, 1) := by decide +kernel
theorem dX0_cellsOf_56 : decode cX0_cellsOf 56 = .ok (.getfield 18, 3) := by decide +kernel
theorem dX0_cellsOf_59 : decode cX0_cellsOf 59 = .ok (.iload_n 1, 1) := by decide +kernel
theorem dX0_cellsOf_60 : decode cX0_cellsOf 60 = .ok (.iaload, 1) := by decide +kernel
theorem dX0_cellsOf_61 : decode cX0_cellsOf 61 = .ok (.iadd, 1) := by decide +kernel
theorem dX0_cellsOf_62 : decode cX0_cellsOf 62 = .ok (.if_icmp .ge 27, 3) := by decide +kernel
theorem dX0_cellsOf_65 : decode cX0_cellsOf 65 = .ok (.iload 6, 2) := by decide +kernel
theorem dX0_cellsOf_67 : decode cX0_cellsOf 67 = .ok (.iload 5, 2) := by decide +kernel
theorem dX0_cellsOf_69 : decode cX0_cellsOf 69 = .ok (.invokestatic 32, 3) := by decide +kernel
theorem dX0_cellsOf_72 : decode cX0_cellsOf 72 = .ok (.iload_n 2, 1) := by decide +kernel
theorem dX0_cellsOf_73 : decode cX0_cellsOf 73 = .ok (.aload_n 3, 1) := by decide +kernel
theorem dX0_cellsOf_74 : decode cX0_cellsOf 74 = .ok (.invokestatic 36, 3) := by decide +kernel
theorem dX0_cellsOf_77 : decode cX0_cellsOf 77 = .ok (.ifCond .eq 6, 3) := by decide +kernel
theorem dX0_cellsOf_80 : decode cX0_cellsOf 80 = .ok (.iinc 4 1, 3) := by decide +kernel
theorem dX0_cellsOf_83 : decode cX0_cellsOf 83 = .ok (.iinc 6 1, 3) := by decide +kernel
theorem dX0_cellsOf_86 : decode cX0_cellsOf 86 = .ok (.goto (-39), 3) := by decide +kernel
theorem dX0_cellsOf_89 : decode cX0_cellsOf 89 = .ok (.iinc 5 1, 3) := by decide +kernel
theorem dX0_cellsOf_92 : decode cX0_cellsOf 92 = .ok (.goto (-71), 3) := by decide +kernel
theorem dX0_cellsOf_95 : decode cX0_cellsOf 95 = .ok (.iload 4, 2) := by decide +kernel
theorem dX0_cellsOf_97 : decode cX0_cellsOf 97 = .ok (.ireturn, 1) := by decide +kernel
set_option maxRecDepth 20000 in
theorem ggX0_isCounted_X2_isCell : GoodIn wsX0_isCounted wsX2_isCell := goodIn_r _ [3] (by decide +kernel) (by decide +kernel)
set_option maxRecDepth 20000 in
theorem gX0_isCounted_X2_isCell_n40 : GoodIn wsX0_isCounted (wsX2_isCell) := ggX0_isCounted_X2_isCell
set_option maxRecDepth 20000 in
theorem ggX0_isCounted_X1_lakeYearsLeft : GoodIn wsX0_isCounted wsX1_lakeYearsLeft := goodIn_r _ [7, 8, 9, 10, 11, 12, 13, 1, 2, 3, 14, 15, 16, 17, 18, 19, 20, 21, 22, 23, 24, 25, 26, 27] (by decide +kernel) (by decide +kernel)
set_option maxRecDepth 20000 in
theorem gX0_isCounted_X1_lakeYearsLeft_n48 : GoodIn wsX0_isCounted (wsX1_lakeYearsLeft) := ggX0_isCounted_X1_lakeYearsLeft
theorem dX0_isCounted_0 : decode cX0_isCounted 0 = .ok (.iload_n 0, 1) := by decide +kernel
theorem dX0_isCounted_1 : decode cX0_isCounted 1 = .ok (.invokestatic 40, 3) := by decide +kernel
theorem dX0_isCounted_4 : decode cX0_isCounted 4 = .ok (.ifCond .eq 7, 3) := by decide +kernel
theorem dX0_isCounted_7 : decode cX0_isCounted 7 = .ok (.aload_n 2, 1) := by decide +kernel
theorem dX0_isCounted_8 : decode cX0_isCounted 8 = .ok (.ifnonnull 5, 3) := by decide +kernel
theorem dX0_isCounted_11 : decode cX0_isCounted 11 = .ok (.iconst 0, 1) := by decide +kernel
theorem dX0_isCounted_12 : decode cX0_isCounted 12 = .ok (.ireturn, 1) := by decide +kernel
theorem dX0_isCounted_13 : decode cX0_isCounted 13 = .ok (.aload_n 2, 1) := by decide +kernel
theorem dX0_isCounted_14 : decode cX0_isCounted 14 = .ok (.getfield 43, 3) := by decide +kernel
theorem dX0_isCounted_17 : decode cX0_isCounted 17 = .ok (.iload_n 0, 1) := by decide +kernel
theorem dX0_isCounted_18 : decode cX0_isCounted 18 = .ok (.iaload, 1) := by decide +kernel
theorem dX0_isCounted_19 : decode cX0_isCounted 19 = .ok (.iconst (-1), 1) := by decide +kernel
theorem dX0_isCounted_20 : decode cX0_isCounted 20 = .ok (.if_icmp .eq 7, 3) := by decide +kernel
theorem dX0_isCounted_23 : decode cX0_isCounted 23 = .ok (.iconst 1, 1) := by decide +kernel
theorem dX0_isCounted_24 : decode cX0_isCounted 24 = .ok (.goto 4, 3) := by decide +kernel
theorem dX0_isCounted_27 : decode cX0_isCounted 27 = .ok (.iconst 0, 1) := by decide +kernel
theorem dX0_isCounted_28 : decode cX0_isCounted 28 = .ok (.istore_n 3, 1) := by decide +kernel
theorem dX0_isCounted_29 : decode cX0_isCounted 29 = .ok (.aload_n 2, 1) := by decide +kernel
theorem dX0_isCounted_30 : decode cX0_isCounted 30 = .ok (.iload_n 0, 1) := by decide +kernel
theorem dX0_isCounted_31 : decode cX0_isCounted 31 = .ok (.invokevirtual 48, 3) := by decide +kernel
theorem dX0_isCounted_34 : decode cX0_isCounted 34 = .ok (.ifCond .le 7, 3) := by decide +kernel
theorem dX0_isCounted_37 : decode cX0_isCounted 37 = .ok (.iconst 1, 1) := by decide +kernel
theorem dX0_isCounted_38 : decode cX0_isCounted 38 = .ok (.goto 4, 3) := by decide +kernel
theorem dX0_isCounted_41 : decode cX0_isCounted 41 = .ok (.iconst 0, 1) := by decide +kernel
theorem dX0_isCounted_42 : decode cX0_isCounted 42 = .ok (.istore 4, 2) := by decide +kernel
theorem dX0_isCounted_44 : decode cX0_isCounted 44 = .ok (.iload_n 1, 1) := by decide +kernel
theorem dX0_isCounted_45 : decode cX0_isCounted 45 = .ok (.tableswitch 53 0 3 #[31, 33, 48, 50], 31) := by decide +kernel
theorem dX0_isCounted_76 : decode cX0_isCounted 76 = .ok (.iconst 1, 1) := by decide +kernel
theorem dX0_isCounted_77 : decode cX0_isCounted 77 = .ok (.ireturn, 1) := by decide +kernel
theorem dX0_isCounted_78 : decode cX0_isCounted 78 = .ok (.iload_n 3, 1) := by decide +kernel
theorem dX0_isCounted_79 : decode cX0_isCounted 79 = .ok (.ifCond .ne 12, 3) := by decide +kernel
theorem dX0_isCounted_82 : decode cX0_isCounted 82 = .ok (.iload 4, 2) := by decide +kernel
theorem dX0_isCounted_84 : decode cX0_isCounted 84 = .ok (.ifCond .ne 7, 3) := by decide +kernel
theorem dX0_isCounted_87 : decode cX0_isCounted 87 = .ok (.iconst 1, 1) := by decide +kernel
theorem dX0_isCounted_88 : decode cX0_isCounted 88 = .ok (.goto 4, 3) := by decide +kernel
theorem dX0_isCounted_91 : decode cX0_isCounted 91 = .ok (.iconst 0, 1) := by decide +kernel
theorem dX0_isCounted_92 : decode cX0_isCounted 92 = .ok (.ireturn, 1) := by decide +kernel
theorem dX0_isCounted_93 : decode cX0_isCounted 93 = .ok (.iload_n 3, 1) := by decide +kernel
theorem dX0_isCounted_94 : decode cX0_isCounted 94 = .ok (.ireturn, 1) := by decide +kernel
theorem dX0_isCounted_95 : decode cX0_isCounted 95 = .ok (.iload 4, 2) := by decide +kernel
theorem dX0_isCounted_97 : decode cX0_isCounted 97 = .ok (.ireturn, 1) := by decide +kernel
theorem dX0_isCounted_98 : decode cX0_isCounted 98 = .ok (.aload_n 2, 1) := by decide +kernel
theorem dX0_isCounted_99 : decode cX0_isCounted 99 = .ok (.getfield 52, 3) := by decide +kernel
theorem dX0_isCounted_102 : decode cX0_isCounted 102 = .ok (.iload_n 0, 1) := by decide +kernel
theorem dX0_isCounted_103 : decode cX0_isCounted 103 = .ok (.baload, 1) := by decide +kernel
theorem dX0_isCounted_104 : decode cX0_isCounted 104 = .ok (.ireturn, 1) := by decide +kernel
set_option maxRecDepth 20000 in
theorem ggX1_init_X1_followCourse : GoodIn wsX1_init wsX1_followCourse := goodIn_r _ [22, 23, 24, 25, 26, 17, 12, 13, 14, 27, 28, 29, 30, 31, 32, 21, 33, 34, 35, 36, 37, 38, 39, 40, 41, 42, 43, 44, 45, 46, 15, 16, 47, 48, 49, 50, 51, 52, 53, 54, 55, 56, 57, 58, 59, 60] (by decide +kernel) (by decide +kernel)
set_option maxRecDepth 20000 in
theorem gX1_init_X1_followCourse : GoodIn wsX1_init (wsV RX1 50 RX1 yX1_followCourse wsX1_followCourse) := goodIn_app (goodIn_of _ (by decide +kernel)) ggX1_init_X1_followCourse
theorem dX1_init_0 : decode cX1_init 0 = .ok (.aload_n 0, 1) := by decide +kernel
theorem dX1_init_1 : decode cX1_init 1 = .ok (.invokespecial 3, 3) := by decide +kernel
theorem dX1_init_4 : decode cX1_init 4 = .ok (.aload_n 0, 1) := by decide +kernel
theorem dX1_init_5 : decode cX1_init 5 = .ok (.sipush 384, 3) := by decide +kernel
theorem dX1_init_8 : decode cX1_init 8 = .ok (.newarray .int, 2) := by decide +kernel
theorem dX1_init_10 : decode cX1_init 10 = .ok (.putfield 9, 3) := by decide +kernel
theorem dX1_init_13 : decode cX1_init 13 = .ok (.aload_n 0, 1) := by decide +kernel
theorem dX1_init_14 : decode cX1_init 14 = .ok (.sipush 384, 3) := by decide +kernel
theorem dX1_init_17 : decode cX1_init 17 = .ok (.newarray .int, 2) := by decide +kernel
theorem dX1_init_19 : decode cX1_init 19 = .ok (.putfield 15, 3) := by decide +kernel
theorem dX1_init_22 : decode cX1_init 22 = .ok (.aload_n 0, 1) := by decide +kernel
theorem dX1_init_23 : decode cX1_init 23 = .ok (.sipush 384, 3) := by decide +kernel
theorem dX1_init_26 : decode cX1_init 26 = .ok (.newarray .boolean, 2) := by decide +kernel
theorem dX1_init_28 : decode cX1_init 28 = .ok (.putfield 18, 3) := by decide +kernel
theorem dX1_init_31 : decode cX1_init 31 = .ok (.aload_n 0, 1) := by decide +kernel
theorem dX1_init_32 : decode cX1_init 32 = .ok (.sipush 384, 3) := by decide +kernel
theorem dX1_init_35 : decode cX1_init 35 = .ok (.newarray .int, 2) := by decide +kernel
theorem dX1_init_37 : decode cX1_init 37 = .ok (.putfield 22, 3) := by decide +kernel
theorem dX1_init_40 : decode cX1_init 40 = .ok (.aload_n 0, 1) := by decide +kernel
theorem dX1_init_41 : decode cX1_init 41 = .ok (.sipush 384, 3) := by decide +kernel
theorem dX1_init_44 : decode cX1_init 44 = .ok (.newarray .boolean, 2) := by decide +kernel
theorem dX1_init_46 : decode cX1_init 46 = .ok (.putfield 25, 3) := by decide +kernel
theorem dX1_init_49 : decode cX1_init 49 = .ok (.aload_n 0, 1) := by decide +kernel
theorem dX1_init_50 : decode cX1_init 50 = .ok (.bipush 12, 2) := by decide +kernel
theorem dX1_init_52 : decode cX1_init 52 = .ok (.newarray .int, 2) := by decide +kernel
theorem dX1_init_54 : decode cX1_init 54 = .ok (.putfield 28, 3) := by decide +kernel
theorem dX1_init_57 : decode cX1_init 57 = .ok (.aload_n 0, 1) := by decide +kernel
theorem dX1_init_58 : decode cX1_init 58 = .ok (.sipush 150, 3) := by decide +kernel
theorem dX1_init_61 : decode cX1_init 61 = .ok (.newarray .int, 2) := by decide +kernel
theorem dX1_init_63 : decode cX1_init 63 = .ok (.putfield 31, 3) := by decide +kernel
theorem dX1_init_66 : decode cX1_init 66 = .ok (.aload_n 0, 1) := by decide +kernel
theorem dX1_init_67 : decode cX1_init 67 = .ok (.sipush 384, 3) := by decide +kernel
theorem dX1_init_70 : decode cX1_init 70 = .ok (.newarray .int, 2) := by decide +kernel
theorem dX1_init_72 : decode cX1_init 72 = .ok (.putfield 34, 3) := by decide +kernel
theorem dX1_init_75 : decode cX1_init 75 = .ok (.aload_n 0, 1) := by decide +kernel
theorem dX1_init_76 : decode cX1_init 76 = .ok (.sipush 150, 3) := by decide +kernel
theorem dX1_init_79 : decode cX1_init 79 = .ok (.newarray .int, 2) := by decide +kernel
theorem dX1_init_81 : decode cX1_init 81 = .ok (.putfield 37, 3) := by decide +kernel
theorem dX1_init_84 : decode cX1_init 84 = .ok (.aload_n 0, 1) := by decide +kernel
theorem dX1_init_85 : decode cX1_init 85 = .ok (.sipush 150, 3) := by decide +kernel
theorem dX1_init_88 : decode cX1_init 88 = .ok (.newarray .int, 2) := by decide +kernel
theorem dX1_init_90 : decode cX1_init 90 = .ok (.putfield 40, 3) := by decide +kernel
theorem dX1_init_93 : decode cX1_init 93 = .ok (.aload_n 0, 1) := by decide +kernel
theorem dX1_init_94 : decode cX1_init 94 = .ok (.sipush 150, 3) := by decide +kernel
theorem dX1_init_97 : decode cX1_init 97 = .ok (.newarray .int, 2) := by decide +kernel
theorem dX1_init_99 : decode cX1_init 99 = .ok (.putfield 43, 3) := by decide +kernel
theorem dX1_init_102 : decode cX1_init 102 = .ok (.iconst 0, 1) := by decide +kernel
theorem dX1_init_103 : decode cX1_init 103 = .ok (.istore_n 1, 1) := by decide +kernel
theorem dX1_init_104 : decode cX1_init 104 = .ok (.iload_n 1, 1) := by decide +kernel
theorem dX1_init_105 : decode cX1_init 105 = .ok (.sipush 384, 3) := by decide +kernel
theorem dX1_init_108 : decode cX1_init 108 = .ok (.if_icmp .ge 23, 3) := by decide +kernel
theorem dX1_init_111 : decode cX1_init 111 = .ok (.aload_n 0, 1) := by decide +kernel
theorem dX1_init_112 : decode cX1_init 112 = .ok (.getfield 9, 3) := by decide +kernel
theorem dX1_init_115 : decode cX1_init 115 = .ok (.iload_n 1, 1) := by decide +kernel
theorem dX1_init_116 : decode cX1_init 116 = .ok (.iconst 3, 1) := by decide +kernel
theorem dX1_init_117 : decode cX1_init 117 = .ok (.iastore, 1) := by decide +kernel
theorem dX1_init_118 : decode cX1_init 118 = .ok (.aload_n 0, 1) := by decide +kernel
theorem dX1_init_119 : decode cX1_init 119 = .ok (.getfield 34, 3) := by decide +kernel
theorem dX1_init_122 : decode cX1_init 122 = .ok (.iload_n 1, 1) := by decide +kernel
theorem dX1_init_123 : decode cX1_init 123 = .ok (.iconst (-1), 1) := by decide +kernel
theorem dX1_init_124 : decode cX1_init 124 = .ok (.iastore, 1) := by decide +kernel
theorem dX1_init_125 : decode cX1_init 125 = .ok (.iinc 1 1, 3) := by decide +kernel
theorem dX1_init_128 : decode cX1_init 128 = .ok (.goto (-24), 3) := by decide +kernel
theorem dX1_init_131 : decode cX1_init 131 = .ok (.iconst 0, 1) := by decide +kernel
theorem dX1_init_132 : decode cX1_init 132 = .ok (.istore_n 1, 1) := by decide +kernel
theorem dX1_init_133 : decode cX1_init 133 = .ok (.iload_n 1, 1) := by decide +kernel
theorem dX1_init_134 : decode cX1_init 134 = .ok (.bipush 12, 2) := by decide +kernel
theorem dX1_init_136 : decode cX1_init 136 = .ok (.if_icmp .ge 16, 3) := by decide +kernel
theorem dX1_init_139 : decode cX1_init 139 = .ok (.aload_n 0, 1) := by decide +kernel
theorem dX1_init_140 : decode cX1_init 140 = .ok (.getfield 28, 3) := by decide +kernel
theorem dX1_init_143 : decode cX1_init 143 = .ok (.iload_n 1, 1) := by decide +kernel
theorem dX1_init_144 : decode cX1_init 144 = .ok (.iconst 3, 1) := by decide +kernel
theorem dX1_init_145 : decode cX1_init 145 = .ok (.iastore, 1) := by decide +kernel
theorem dX1_init_146 : decode cX1_init 146 = .ok (.iinc 1 1, 3) := by decide +kernel
theorem dX1_init_149 : decode cX1_init 149 = .ok (.goto (-16), 3) := by decide +kernel
theorem dX1_init_152 : decode cX1_init 152 = .ok (.iconst 0, 1) := by decide +kernel
theorem dX1_init_153 : decode cX1_init 153 = .ok (.istore_n 1, 1) := by decide +kernel
theorem dX1_init_154 : decode cX1_init 154 = .ok (.iload_n 1, 1) := by decide +kernel
theorem dX1_init_155 : decode cX1_init 155 = .ok (.bipush 24, 2) := by decide +kernel
theorem dX1_init_157 : decode cX1_init 157 = .ok (.if_icmp .ge 20, 3) := by decide +kernel
theorem dX1_init_160 : decode cX1_init 160 = .ok (.aload_n 0, 1) := by decide +kernel
theorem dX1_init_161 : decode cX1_init 161 = .ok (.getfield 31, 3) := by decide +kernel
theorem dX1_init_164 : decode cX1_init 164 = .ok (.iload_n 1, 1) := by decide +kernel
theorem dX1_init_165 : decode cX1_init 165 = .ok (.iload_n 1, 1) := by decide +kernel
theorem dX1_init_166 : decode cX1_init 166 = .ok (.sipush 192, 3) := by decide +kernel
theorem dX1_init_169 : decode cX1_init 169 = .ok (.iadd, 1) := by decide +kernel
theorem dX1_init_170 : decode cX1_init 170 = .ok (.iastore, 1) := by decide +kernel
theorem dX1_init_171 : decode cX1_init 171 = .ok (.iinc 1 1, 3) := by decide +kernel
theorem dX1_init_174 : decode cX1_init 174 = .ok (.goto (-20), 3) := by decide +kernel
theorem dX1_init_177 : decode cX1_init 177 = .ok (.aload_n 0, 1) := by decide +kernel
theorem dX1_init_178 : decode cX1_init 178 = .ok (.bipush 24, 2) := by decide +kernel
theorem dX1_init_180 : decode cX1_init 180 = .ok (.putfield 46, 3) := by decide +kernel
theorem dX1_init_183 : decode cX1_init 183 = .ok (.aload_n 0, 1) := by decide +kernel
theorem dX1_init_184 : decode cX1_init 184 = .ok (.iconst 0, 1) := by decide +kernel
theorem dX1_init_185 : decode cX1_init 185 = .ok (.invokevirtual 50, 3) := by decide +kernel
theorem dX1_init_188 : decode cX1_init 188 = .ok (.return_, 1) := by decide +kernel
theorem dX1_copyFrom_0 : decode cX1_copyFrom 0 = .ok (.aload_n 1, 1) := by decide +kernel
theorem dX1_copyFrom_1 : decode cX1_copyFrom 1 = .ok (.getfield 9, 3) := by decide +kernel
theorem dX1_copyFrom_4 : decode cX1_copyFrom 4 = .ok (.iconst 0, 1) := by decide +kernel
theorem dX1_copyFrom_5 : decode cX1_copyFrom 5 = .ok (.aload_n 0, 1) := by decide +kernel
theorem dX1_copyFrom_6 : decode cX1_copyFrom 6 = .ok (.getfield 9, 3) := by decide +kernel
theorem dX1_copyFrom_9 : decode cX1_copyFrom 9 = .ok (.iconst 0, 1) := by decide +kernel
theorem dX1_copyFrom_10 : decode cX1_copyFrom 10 = .ok (.sipush 384, 3) := by decide +kernel
theorem dX1_copyFrom_13 : decode cX1_copyFrom 13 = .ok (.invokestatic 54, 3) := by decide +kernel
theorem dX1_copyFrom_16 : decode cX1_copyFrom 16 = .ok (.aload_n 1, 1) := by decide +kernel
theorem dX1_copyFrom_17 : decode cX1_copyFrom 17 = .ok (.getfield 15, 3) := by decide +kernel
theorem dX1_copyFrom_20 : decode cX1_copyFrom 20 = .ok (.iconst 0, 1) := by decide +kernel
theorem dX1_copyFrom_21 : decode cX1_copyFrom 21 = .ok (.aload_n 0, 1) := by decide +kernel
theorem dX1_copyFrom_22 : decode cX1_copyFrom 22 = .ok (.getfield 15, 3) := by decide +kernel
theorem dX1_copyFrom_25 : decode cX1_copyFrom 25 = .ok (.iconst 0, 1) := by decide +kernel
theorem dX1_copyFrom_26 : decode cX1_copyFrom 26 = .ok (.sipush 384, 3) := by decide +kernel
theorem dX1_copyFrom_29 : decode cX1_copyFrom 29 = .ok (.invokestatic 54, 3) := by decide +kernel
theorem dX1_copyFrom_32 : decode cX1_copyFrom 32 = .ok (.aload_n 1, 1) := by decide +kernel
theorem dX1_copyFrom_33 : decode cX1_copyFrom 33 = .ok (.getfield 18, 3) := by decide +kernel
theorem dX1_copyFrom_36 : decode cX1_copyFrom 36 = .ok (.iconst 0, 1) := by decide +kernel
theorem dX1_copyFrom_37 : decode cX1_copyFrom 37 = .ok (.aload_n 0, 1) := by decide +kernel
theorem dX1_copyFrom_38 : decode cX1_copyFrom 38 = .ok (.getfield 18, 3) := by decide +kernel
theorem dX1_copyFrom_41 : decode cX1_copyFrom 41 = .ok (.iconst 0, 1) := by decide +kernel
theorem dX1_copyFrom_42 : decode cX1_copyFrom 42 = .ok (.sipush 384, 3) := by decide +kernel
theorem dX1_copyFrom_45 : decode cX1_copyFrom 45 = .ok (.invokestatic 54, 3) := by decide +kernel
theorem dX1_copyFrom_48 : decode cX1_copyFrom 48 = .ok (.aload_n 1, 1) := by decide +kernel
theorem dX1_copyFrom_49 : decode cX1_copyFrom 49 = .ok (.getfield 22, 3) := by decide +kernel
theorem dX1_copyFrom_52 : decode cX1_copyFrom 52 = .ok (.iconst 0, 1) := by decide +kernel
theorem dX1_copyFrom_53 : decode cX1_copyFrom 53 = .ok (.aload_n 0, 1) := by decide +kernel
theorem dX1_copyFrom_54 : decode cX1_copyFrom 54 = .ok (.getfield 22, 3) := by decide +kernel
theorem dX1_copyFrom_57 : decode cX1_copyFrom 57 = .ok (.iconst 0, 1) := by decide +kernel
theorem dX1_copyFrom_58 : decode cX1_copyFrom 58 = .ok (.sipush 384, 3) := by decide +kernel
theorem dX1_copyFrom_61 : decode cX1_copyFrom 61 = .ok (.invokestatic 54, 3) := by decide +kernel
theorem dX1_copyFrom_64 : decode cX1_copyFrom 64 = .ok (.aload_n 1, 1) := by decide +kernel
theorem dX1_copyFrom_65 : decode cX1_copyFrom 65 = .ok (.getfield 28, 3) := by decide +kernel
theorem dX1_copyFrom_68 : decode cX1_copyFrom 68 = .ok (.iconst 0, 1) := by decide +kernel
theorem dX1_copyFrom_69 : decode cX1_copyFrom 69 = .ok (.aload_n 0, 1) := by decide +kernel
theorem dX1_copyFrom_70 : decode cX1_copyFrom 70 = .ok (.getfield 28, 3) := by decide +kernel
theorem dX1_copyFrom_73 : decode cX1_copyFrom 73 = .ok (.iconst 0, 1) := by decide +kernel
theorem dX1_copyFrom_74 : decode cX1_copyFrom 74 = .ok (.bipush 12, 2) := by decide +kernel
theorem dX1_copyFrom_76 : decode cX1_copyFrom 76 = .ok (.invokestatic 54, 3) := by decide +kernel
theorem dX1_copyFrom_79 : decode cX1_copyFrom 79 = .ok (.aload_n 1, 1) := by decide +kernel
theorem dX1_copyFrom_80 : decode cX1_copyFrom 80 = .ok (.getfield 31, 3) := by decide +kernel
theorem dX1_copyFrom_83 : decode cX1_copyFrom 83 = .ok (.iconst 0, 1) := by decide +kernel
theorem dX1_copyFrom_84 : decode cX1_copyFrom 84 = .ok (.aload_n 0, 1) := by decide +kernel
theorem dX1_copyFrom_85 : decode cX1_copyFrom 85 = .ok (.getfield 31, 3) := by decide +kernel
theorem dX1_copyFrom_88 : decode cX1_copyFrom 88 = .ok (.iconst 0, 1) := by decide +kernel
theorem dX1_copyFrom_89 : decode cX1_copyFrom 89 = .ok (.sipush 150, 3) := by decide +kernel
theorem dX1_copyFrom_92 : decode cX1_copyFrom 92 = .ok (.invokestatic 54, 3) := by decide +kernel
theorem dX1_copyFrom_95 : decode cX1_copyFrom 95 = .ok (.aload_n 1, 1) := by decide +kernel
theorem dX1_copyFrom_96 : decode cX1_copyFrom 96 = .ok (.getfield 34, 3) := by decide +kernel
theorem dX1_copyFrom_99 : decode cX1_copyFrom 99 = .ok (.iconst 0, 1) := by decide +kernel
theorem dX1_copyFrom_100 : decode cX1_copyFrom 100 = .ok (.aload_n 0, 1) := by decide +kernel
theorem dX1_copyFrom_101 : decode cX1_copyFrom 101 = .ok (.getfield 34, 3) := by decide +kernel
theorem dX1_copyFrom_104 : decode cX1_copyFrom 104 = .ok (.iconst 0, 1) := by decide +kernel
theorem dX1_copyFrom_105 : decode cX1_copyFrom 105 = .ok (.sipush 384, 3) := by decide +kernel
theorem dX1_copyFrom_108 : decode cX1_copyFrom 108 = .ok (.invokestatic 54, 3) := by decide +kernel
theorem dX1_copyFrom_111 : decode cX1_copyFrom 111 = .ok (.aload_n 1, 1) := by decide +kernel
theorem dX1_copyFrom_112 : decode cX1_copyFrom 112 = .ok (.getfield 37, 3) := by decide +kernel
theorem dX1_copyFrom_115 : decode cX1_copyFrom 115 = .ok (.iconst 0, 1) := by decide +kernel
theorem dX1_copyFrom_116 : decode cX1_copyFrom 116 = .ok (.aload_n 0, 1) := by decide +kernel
theorem dX1_copyFrom_117 : decode cX1_copyFrom 117 = .ok (.getfield 37, 3) := by decide +kernel
theorem dX1_copyFrom_120 : decode cX1_copyFrom 120 = .ok (.iconst 0, 1) := by decide +kernel
theorem dX1_copyFrom_121 : decode cX1_copyFrom 121 = .ok (.sipush 150, 3) := by decide +kernel
theorem dX1_copyFrom_124 : decode cX1_copyFrom 124 = .ok (.invokestatic 54, 3) := by decide +kernel
theorem dX1_copyFrom_127 : decode cX1_copyFrom 127 = .ok (.aload_n 1, 1) := by decide +kernel
theorem dX1_copyFrom_128 : decode cX1_copyFrom 128 = .ok (.getfield 40, 3) := by decide +kernel
theorem dX1_copyFrom_131 : decode cX1_copyFrom 131 = .ok (.iconst 0, 1) := by decide +kernel
theorem dX1_copyFrom_132 : decode cX1_copyFrom 132 = .ok (.aload_n 0, 1) := by decide +kernel
theorem dX1_copyFrom_133 : decode cX1_copyFrom 133 = .ok (.getfield 40, 3) := by decide +kernel
theorem dX1_copyFrom_136 : decode cX1_copyFrom 136 = .ok (.iconst 0, 1) := by decide +kernel
theorem dX1_copyFrom_137 : decode cX1_copyFrom 137 = .ok (.sipush 150, 3) := by decide +kernel
theorem dX1_copyFrom_140 : decode cX1_copyFrom 140 = .ok (.invokestatic 54, 3) := by decide +kernel
theorem dX1_copyFrom_143 : decode cX1_copyFrom 143 = .ok (.aload_n 1, 1) := by decide +kernel
theorem dX1_copyFrom_144 : decode cX1_copyFrom 144 = .ok (.getfield 43, 3) := by decide +kernel
theorem dX1_copyFrom_147 : decode cX1_copyFrom 147 = .ok (.iconst 0, 1) := by decide +kernel
theorem dX1_copyFrom_148 : decode cX1_copyFrom 148 = .ok (.aload_n 0, 1) := by decide +kernel
theorem dX1_copyFrom_149 : decode cX1_copyFrom 149 = .ok (.getfield 43, 3) := by decide +kernel
theorem dX1_copyFrom_152 : decode cX1_copyFrom 152 = .ok (.iconst 0, 1) := by decide +kernel
theorem dX1_copyFrom_153 : decode cX1_copyFrom 153 = .ok (.sipush 150, 3) := by decide +kernel
theorem dX1_copyFrom_156 : decode cX1_copyFrom 156 = .ok (.invokestatic 54, 3) := by decide +kernel
theorem dX1_copyFrom_159 : decode cX1_copyFrom 159 = .ok (.aload_n 0, 1) := by decide +kernel
theorem dX1_copyFrom_160 : decode cX1_copyFrom 160 = .ok (.aload_n 1, 1) := by decide +kernel
theorem dX1_copyFrom_161 : decode cX1_copyFrom 161 = .ok (.getfield 46, 3) := by decide +kernel
theorem dX1_copyFrom_164 : decode cX1_copyFrom 164 = .ok (.putfield 46, 3) := by decide +kernel
theorem dX1_copyFrom_167 : decode cX1_copyFrom 167 = .ok (.aload_n 0, 1) := by decide +kernel
theorem dX1_copyFrom_168 : decode cX1_copyFrom 168 = .ok (.aload_n 1, 1) := by decide +kernel
theorem dX1_copyFrom_169 : decode cX1_copyFrom 169 = .ok (.getfield 60, 3) := by decide +kernel
theorem dX1_copyFrom_172 : decode cX1_copyFrom 172 = .ok (.putfield 60, 3) := by decide +kernel
theorem dX1_copyFrom_175 : decode cX1_copyFrom 175 = .ok (.aload_n 0, 1) := by decide +kernel
theorem dX1_copyFrom_176 : decode cX1_copyFrom 176 = .ok (.aload_n 1, 1) := by decide +kernel
theorem dX1_copyFrom_177 : decode cX1_copyFrom 177 = .ok (.getfield 63, 3) := by decide +kernel
theorem dX1_copyFrom_180 : decode cX1_copyFrom 180 = .ok (.putfield 63, 3) := by decide +kernel
theorem dX1_copyFrom_183 : decode cX1_copyFrom 183 = .ok (.iconst 0, 1) := by decide +kernel
theorem dX1_copyFrom_184 : decode cX1_copyFrom 184 = .ok (.istore_n 2, 1) := by decide +kernel
theorem dX1_copyFrom_185 : decode cX1_copyFrom 185 = .ok (.iload_n 2, 1) := by decide +kernel
theorem dX1_copyFrom_186 : decode cX1_copyFrom 186 = .ok (.sipush 384, 3) := by decide +kernel
theorem dX1_copyFrom_189 : decode cX1_copyFrom 189 = .ok (.if_icmp .ge 16, 3) := by decide +kernel
theorem dX1_copyFrom_192 : decode cX1_copyFrom 192 = .ok (.aload_n 0, 1) := by decide +kernel
theorem dX1_copyFrom_193 : decode cX1_copyFrom 193 = .ok (.getfield 25, 3) := by decide +kernel
theorem dX1_copyFrom_196 : decode cX1_copyFrom 196 = .ok (.iload_n 2, 1) := by decide +kernel
theorem dX1_copyFrom_197 : decode cX1_copyFrom 197 = .ok (.iconst 0, 1) := by decide +kernel
theorem dX1_copyFrom_198 : decode cX1_copyFrom 198 = .ok (.bastore, 1) := by decide +kernel
theorem dX1_copyFrom_199 : decode cX1_copyFrom 199 = .ok (.iinc 2 1, 3) := by decide +kernel
theorem dX1_copyFrom_202 : decode cX1_copyFrom 202 = .ok (.goto (-17), 3) := by decide +kernel
theorem dX1_copyFrom_205 : decode cX1_copyFrom 205 = .ok (.return_, 1) := by decide +kernel
theorem dX1_isInCourse_0 : decode cX1_isInCourse 0 = .ok (.iload_n 1, 1) := by decide +kernel
theorem dX1_isInCourse_1 : decode cX1_isInCourse 1 = .ok (.ifCond .lt 22, 3) := by decide +kernel
theorem dX1_isInCourse_4 : decode cX1_isInCourse 4 = .ok (.iload_n 1, 1) := by decide +kernel
theorem dX1_isInCourse_5 : decode cX1_isInCourse 5 = .ok (.aload_n 0, 1) := by decide +kernel
theorem dX1_isInCourse_6 : decode cX1_isInCourse 6 = .ok (.getfield 46, 3) := by decide +kernel
theorem dX1_isInCourse_9 : decode cX1_isInCourse 9 = .ok (.if_icmp .ge 14, 3) := by decide +kernel
theorem dX1_isInCourse_12 : decode cX1_isInCourse 12 = .ok (.iload_n 1, 1) := by decide +kernel
theorem dX1_isInCourse_13 : decode cX1_isInCourse 13 = .ok (.sipush 150, 3) := by decide +kernel
theorem dX1_isInCourse_16 : decode cX1_isInCourse 16 = .ok (.if_icmp .ge 7, 3) := by decide +kernel
theorem dX1_isInCourse_19 : decode cX1_isInCourse 19 = .ok (.iconst 1, 1) := by decide +kernel
theorem dX1_isInCourse_20 : decode cX1_isInCourse 20 = .ok (.goto 4, 3) := by decide +kernel
theorem dX1_isInCourse_23 : decode cX1_isInCourse 23 = .ok (.iconst 0, 1) := by decide +kernel
theorem dX1_isInCourse_24 : decode cX1_isInCourse 24 = .ok (.ireturn, 1) := by decide +kernel
set_option maxRecDepth 20000 in
theorem ggX1_cellAt_X1_isInCourse : GoodIn wsX1_cellAt wsX1_isInCourse := goodIn_r _ [6, 7, 8, 9, 10, 11, 12, 13, 14, 15, 16, 17, 18, 19, 20, 21] (by decide +kernel) (by decide +kernel)
set_option maxRecDepth 20000 in
theorem gX1_cellAt_X1_isInCourse : GoodIn wsX1_cellAt (wsV RX1 66 RX1 yX1_isInCourse wsX1_isInCourse) := goodIn_app (goodIn_of _ (by decide +kernel)) ggX1_cellAt_X1_isInCourse
theorem dX1_cellAt_0 : decode cX1_cellAt 0 = .ok (.aload_n 0, 1) := by decide +kernel
theorem dX1_cellAt_1 : decode cX1_cellAt 1 = .ok (.iload_n 1, 1) := by decide +kernel
theorem dX1_cellAt_2 : decode cX1_cellAt 2 = .ok (.invokevirtual 66, 3) := by decide +kernel
theorem dX1_cellAt_5 : decode cX1_cellAt 5 = .ok (.ifCond .eq 12, 3) := by decide +kernel
theorem dX1_cellAt_8 : decode cX1_cellAt 8 = .ok (.aload_n 0, 1) := by decide +kernel
theorem dX1_cellAt_9 : decode cX1_cellAt 9 = .ok (.getfield 31, 3) := by decide +kernel
theorem dX1_cellAt_12 : decode cX1_cellAt 12 = .ok (.iload_n 1, 1) := by decide +kernel
theorem dX1_cellAt_13 : decode cX1_cellAt 13 = .ok (.iaload, 1) := by decide +kernel
theorem dX1_cellAt_14 : decode cX1_cellAt 14 = .ok (.goto 4, 3) := by decide +kernel
theorem dX1_cellAt_17 : decode cX1_cellAt 17 = .ok (.iconst (-1), 1) := by decide +kernel
theorem dX1_cellAt_18 : decode cX1_cellAt 18 = .ok (.ireturn, 1) := by decide +kernel
set_option maxRecDepth 20000 in
theorem ggX1_placeOf_X2_isCell : GoodIn wsX1_placeOf wsX2_isCell := goodIn_r _ [4] (by decide +kernel) (by decide +kernel)
set_option maxRecDepth 20000 in
theorem gX1_placeOf_X2_isCell_n70 : GoodIn wsX1_placeOf (wsX2_isCell) := ggX1_placeOf_X2_isCell
theorem dX1_placeOf_0 : decode cX1_placeOf 0 = .ok (.iload_n 1, 1) := by decide +kernel
theorem dX1_placeOf_1 : decode cX1_placeOf 1 = .ok (.invokestatic 70, 3) := by decide +kernel
theorem dX1_placeOf_4 : decode cX1_placeOf 4 = .ok (.ifCond .eq 12, 3) := by decide +kernel
theorem dX1_placeOf_7 : decode cX1_placeOf 7 = .ok (.aload_n 0, 1) := by decide +kernel
theorem dX1_placeOf_8 : decode cX1_placeOf 8 = .ok (.getfield 34, 3) := by decide +kernel
theorem dX1_placeOf_11 : decode cX1_placeOf 11 = .ok (.iload_n 1, 1) := by decide +kernel
theorem dX1_placeOf_12 : decode cX1_placeOf 12 = .ok (.iaload, 1) := by decide +kernel
theorem dX1_placeOf_13 : decode cX1_placeOf 13 = .ok (.goto 4, 3) := by decide +kernel
theorem dX1_placeOf_16 : decode cX1_placeOf 16 = .ok (.iconst (-1), 1) := by decide +kernel
theorem dX1_placeOf_17 : decode cX1_placeOf 17 = .ok (.ireturn, 1) := by decide +kernel
set_option maxRecDepth 20000 in
theorem ggX1_isStraight_X1_isInCourse : GoodIn wsX1_isStraight wsX1_isInCourse := goodIn_r _ [7, 1, 8, 9, 10, 11, 12, 13, 14, 15, 16, 17, 18, 19, 20, 21] (by decide +kernel) (by decide +kernel)
set_option maxRecDepth 20000 in
theorem gX1_isStraight_X1_isInCourse : GoodIn wsX1_isStraight (wsV RX1 66 RX1 yX1_isInCourse wsX1_isInCourse) := goodIn_app (goodIn_of _ (by decide +kernel)) ggX1_isStraight_X1_isInCourse
theorem dX1_isStraight_0 : decode cX1_isStraight 0 = .ok (.iload_n 1, 1) := by decide +kernel
theorem dX1_isStraight_1 : decode cX1_isStraight 1 = .ok (.ifCond .le 42, 3) := by decide +kernel
theorem dX1_isStraight_4 : decode cX1_isStraight 4 = .ok (.iload_n 1, 1) := by decide +kernel
theorem dX1_isStraight_5 : decode cX1_isStraight 5 = .ok (.aload_n 0, 1) := by decide +kernel
theorem dX1_isStraight_6 : decode cX1_isStraight 6 = .ok (.getfield 46, 3) := by decide +kernel
theorem dX1_isStraight_9 : decode cX1_isStraight 9 = .ok (.iconst 1, 1) := by decide +kernel
theorem dX1_isStraight_10 : decode cX1_isStraight 10 = .ok (.isub, 1) := by decide +kernel
theorem dX1_isStraight_11 : decode cX1_isStraight 11 = .ok (.if_icmp .ge 32, 3) := by decide +kernel
theorem dX1_isStraight_14 : decode cX1_isStraight 14 = .ok (.aload_n 0, 1) := by decide +kernel
theorem dX1_isStraight_15 : decode cX1_isStraight 15 = .ok (.iload_n 1, 1) := by decide +kernel
theorem dX1_isStraight_16 : decode cX1_isStraight 16 = .ok (.invokevirtual 66, 3) := by decide +kernel
theorem dX1_isStraight_19 : decode cX1_isStraight 19 = .ok (.ifCond .eq 24, 3) := by decide +kernel
theorem dX1_isStraight_22 : decode cX1_isStraight 22 = .ok (.aload_n 0, 1) := by decide +kernel
theorem dX1_isStraight_23 : decode cX1_isStraight 23 = .ok (.getfield 37, 3) := by decide +kernel
theorem dX1_isStraight_26 : decode cX1_isStraight 26 = .ok (.iload_n 1, 1) := by decide +kernel
theorem dX1_isStraight_27 : decode cX1_isStraight 27 = .ok (.iconst 1, 1) := by decide +kernel
theorem dX1_isStraight_28 : decode cX1_isStraight 28 = .ok (.isub, 1) := by decide +kernel
theorem dX1_isStraight_29 : decode cX1_isStraight 29 = .ok (.iaload, 1) := by decide +kernel
theorem dX1_isStraight_30 : decode cX1_isStraight 30 = .ok (.aload_n 0, 1) := by decide +kernel
theorem dX1_isStraight_31 : decode cX1_isStraight 31 = .ok (.getfield 37, 3) := by decide +kernel
theorem dX1_isStraight_34 : decode cX1_isStraight 34 = .ok (.iload_n 1, 1) := by decide +kernel
theorem dX1_isStraight_35 : decode cX1_isStraight 35 = .ok (.iaload, 1) := by decide +kernel
theorem dX1_isStraight_36 : decode cX1_isStraight 36 = .ok (.if_icmp .ne 7, 3) := by decide +kernel
theorem dX1_isStraight_39 : decode cX1_isStraight 39 = .ok (.iconst 1, 1) := by decide +kernel
theorem dX1_isStraight_40 : decode cX1_isStraight 40 = .ok (.goto 4, 3) := by decide +kernel
theorem dX1_isStraight_43 : decode cX1_isStraight 43 = .ok (.iconst 0, 1) := by decide +kernel
theorem dX1_isStraight_44 : decode cX1_isStraight 44 = .ok (.ireturn, 1) := by decide +kernel
set_option maxRecDepth 20000 in
theorem ggX1_followCourse_X2_isCell : GoodIn wsX1_followCourse wsX2_isCell := goodIn_r _ [11] (by decide +kernel) (by decide +kernel)
set_option maxRecDepth 20000 in
theorem gX1_followCourse_X2_isCell_n70 : GoodIn wsX1_followCourse (wsX2_isCell) := ggX1_followCourse_X2_isCell
set_option maxRecDepth 20000 in
theorem ggX1_followCourse_X1_cellAt : GoodIn wsX1_followCourse wsX1_cellAt := goodIn_r _ [16, 6, 17, 18, 19, 15, 20, 5, 32, 33, 34, 35, 36, 37, 38, 39, 40, 41, 42, 43, 44, 45] (by decide +kernel) (by decide +kernel)
set_option maxRecDepth 20000 in
theorem gX1_followCourse_X1_cellAt : GoodIn wsX1_followCourse (wsV RX1 79 RX1 yX1_cellAt wsX1_cellAt) := goodIn_app (goodIn_of _ (by decide +kernel)) ggX1_followCourse_X1_cellAt
set_option maxRecDepth 20000 in
theorem ggX1_followCourse_X2_directionTo : GoodIn wsX1_followCourse wsX2_directionTo := goodIn_r _ [22, 23, 24, 10, 25] (by decide +kernel) (by decide +kernel)
set_option maxRecDepth 20000 in
theorem gX1_followCourse_X2_directionTo_n83 : GoodIn wsX1_followCourse (wsX2_directionTo) := ggX1_followCourse_X2_directionTo
set_option maxRecDepth 20000 in
theorem ggX1_followCourse_X1_throwCells : GoodIn wsX1_followCourse wsX1_throwCells := goodIn_r _ [29, 5, 30, 8, 31, 6, 24, 10, 25, 32, 33, 34, 35, 36, 37, 38, 39, 40, 41, 42, 43, 44, 45] (by decide +kernel) (by decide +kernel)
set_option maxRecDepth 20000 in
theorem gX1_followCourse_X1_throwCells : GoodIn wsX1_followCourse (wsV RX1 86 RX1 yX1_throwCells wsX1_throwCells) := goodIn_app (goodIn_of _ (by decide +kernel)) ggX1_followCourse_X1_throwCells
theorem dX1_followCourse_0 : decode cX1_followCourse 0 = .ok (.iconst 0, 1) := by decide +kernel
theorem dX1_followCourse_1 : decode cX1_followCourse 1 = .ok (.iload_n 1, 1) := by decide +kernel
theorem dX1_followCourse_2 : decode cX1_followCourse 2 = .ok (.invokestatic 73, 3) := by decide +kernel
theorem dX1_followCourse_5 : decode cX1_followCourse 5 = .ok (.istore_n 2, 1) := by decide +kernel
theorem dX1_followCourse_6 : decode cX1_followCourse 6 = .ok (.iload_n 2, 1) := by decide +kernel
theorem dX1_followCourse_7 : decode cX1_followCourse 7 = .ok (.aload_n 0, 1) := by decide +kernel
theorem dX1_followCourse_8 : decode cX1_followCourse 8 = .ok (.getfield 46, 3) := by decide +kernel
theorem dX1_followCourse_11 : decode cX1_followCourse 11 = .ok (.if_icmp .ge 30, 3) := by decide +kernel
theorem dX1_followCourse_14 : decode cX1_followCourse 14 = .ok (.aload_n 0, 1) := by decide +kernel
theorem dX1_followCourse_15 : decode cX1_followCourse 15 = .ok (.getfield 31, 3) := by decide +kernel
theorem dX1_followCourse_18 : decode cX1_followCourse 18 = .ok (.iload_n 2, 1) := by decide +kernel
theorem dX1_followCourse_19 : decode cX1_followCourse 19 = .ok (.iaload, 1) := by decide +kernel
theorem dX1_followCourse_20 : decode cX1_followCourse 20 = .ok (.istore_n 3, 1) := by decide +kernel
theorem dX1_followCourse_21 : decode cX1_followCourse 21 = .ok (.iload_n 3, 1) := by decide +kernel
theorem dX1_followCourse_22 : decode cX1_followCourse 22 = .ok (.invokestatic 70, 3) := by decide +kernel
theorem dX1_followCourse_25 : decode cX1_followCourse 25 = .ok (.ifCond .eq 10, 3) := by decide +kernel
theorem dX1_followCourse_28 : decode cX1_followCourse 28 = .ok (.aload_n 0, 1) := by decide +kernel
theorem dX1_followCourse_29 : decode cX1_followCourse 29 = .ok (.getfield 34, 3) := by decide +kernel
theorem dX1_followCourse_32 : decode cX1_followCourse 32 = .ok (.iload_n 3, 1) := by decide +kernel
theorem dX1_followCourse_33 : decode cX1_followCourse 33 = .ok (.iload_n 2, 1) := by decide +kernel
theorem dX1_followCourse_34 : decode cX1_followCourse 34 = .ok (.iastore, 1) := by decide +kernel
theorem dX1_followCourse_35 : decode cX1_followCourse 35 = .ok (.iinc 2 1, 3) := by decide +kernel
theorem dX1_followCourse_38 : decode cX1_followCourse 38 = .ok (.goto (-32), 3) := by decide +kernel
theorem dX1_followCourse_41 : decode cX1_followCourse 41 = .ok (.iconst 0, 1) := by decide +kernel
theorem dX1_followCourse_42 : decode cX1_followCourse 42 = .ok (.iload_n 1, 1) := by decide +kernel
theorem dX1_followCourse_43 : decode cX1_followCourse 43 = .ok (.iconst 1, 1) := by decide +kernel
theorem dX1_followCourse_44 : decode cX1_followCourse 44 = .ok (.isub, 1) := by decide +kernel
theorem dX1_followCourse_45 : decode cX1_followCourse 45 = .ok (.invokestatic 73, 3) := by decide +kernel
theorem dX1_followCourse_48 : decode cX1_followCourse 48 = .ok (.istore_n 2, 1) := by decide +kernel
theorem dX1_followCourse_49 : decode cX1_followCourse 49 = .ok (.iload_n 2, 1) := by decide +kernel
theorem dX1_followCourse_50 : decode cX1_followCourse 50 = .ok (.aload_n 0, 1) := by decide +kernel
theorem dX1_followCourse_51 : decode cX1_followCourse 51 = .ok (.getfield 46, 3) := by decide +kernel
theorem dX1_followCourse_54 : decode cX1_followCourse 54 = .ok (.if_icmp .ge 31, 3) := by decide +kernel
theorem dX1_followCourse_57 : decode cX1_followCourse 57 = .ok (.aload_n 0, 1) := by decide +kernel
theorem dX1_followCourse_58 : decode cX1_followCourse 58 = .ok (.getfield 37, 3) := by decide +kernel
theorem dX1_followCourse_61 : decode cX1_followCourse 61 = .ok (.iload_n 2, 1) := by decide +kernel
theorem dX1_followCourse_62 : decode cX1_followCourse 62 = .ok (.aload_n 0, 1) := by decide +kernel
theorem dX1_followCourse_63 : decode cX1_followCourse 63 = .ok (.getfield 31, 3) := by decide +kernel
theorem dX1_followCourse_66 : decode cX1_followCourse 66 = .ok (.iload_n 2, 1) := by decide +kernel
theorem dX1_followCourse_67 : decode cX1_followCourse 67 = .ok (.iaload, 1) := by decide +kernel
theorem dX1_followCourse_68 : decode cX1_followCourse 68 = .ok (.aload_n 0, 1) := by decide +kernel
theorem dX1_followCourse_69 : decode cX1_followCourse 69 = .ok (.iload_n 2, 1) := by decide +kernel
theorem dX1_followCourse_70 : decode cX1_followCourse 70 = .ok (.iconst 1, 1) := by decide +kernel
theorem dX1_followCourse_71 : decode cX1_followCourse 71 = .ok (.iadd, 1) := by decide +kernel
theorem dX1_followCourse_72 : decode cX1_followCourse 72 = .ok (.invokevirtual 79, 3) := by decide +kernel
theorem dX1_followCourse_75 : decode cX1_followCourse 75 = .ok (.invokestatic 83, 3) := by decide +kernel
theorem dX1_followCourse_78 : decode cX1_followCourse 78 = .ok (.iastore, 1) := by decide +kernel
theorem dX1_followCourse_79 : decode cX1_followCourse 79 = .ok (.iinc 2 1, 3) := by decide +kernel
theorem dX1_followCourse_82 : decode cX1_followCourse 82 = .ok (.goto (-33), 3) := by decide +kernel
theorem dX1_followCourse_85 : decode cX1_followCourse 85 = .ok (.aload_n 0, 1) := by decide +kernel
theorem dX1_followCourse_86 : decode cX1_followCourse 86 = .ok (.invokevirtual 86, 3) := by decide +kernel
theorem dX1_followCourse_89 : decode cX1_followCourse 89 = .ok (.return_, 1) := by decide +kernel
set_option maxRecDepth 20000 in
theorem ggX1_throwCells_X2_neighbour : GoodIn wsX1_throwCells wsX2_neighbour := goodIn_r _ [8] (by decide +kernel) (by decide +kernel)
set_option maxRecDepth 20000 in
theorem gX1_throwCells_X2_neighbour_n89 : GoodIn wsX1_throwCells (wsX2_neighbour) := ggX1_throwCells_X2_neighbour
theorem dX1_throwCells_0 : decode cX1_throwCells 0 = .ok (.iconst (-1), 1) := by decide +kernel
theorem dX1_throwCells_1 : decode cX1_throwCells 1 = .ok (.istore_n 1, 1) := by decide +kernel
theorem dX1_throwCells_2 : decode cX1_throwCells 2 = .ok (.iconst 0, 1) := by decide +kernel
theorem dX1_throwCells_3 : decode cX1_throwCells 3 = .ok (.istore_n 2, 1) := by decide +kernel
theorem dX1_throwCells_4 : decode cX1_throwCells 4 = .ok (.iload_n 2, 1) := by decide +kernel
theorem dX1_throwCells_5 : decode cX1_throwCells 5 = .ok (.aload_n 0, 1) := by decide +kernel
theorem dX1_throwCells_6 : decode cX1_throwCells 6 = .ok (.getfield 46, 3) := by decide +kernel
theorem dX1_throwCells_9 : decode cX1_throwCells 9 = .ok (.if_icmp .ge 88, 3) := by decide +kernel
theorem dX1_throwCells_12 : decode cX1_throwCells 12 = .ok (.aload_n 0, 1) := by decide +kernel
theorem dX1_throwCells_13 : decode cX1_throwCells 13 = .ok (.getfield 40, 3) := by decide +kernel
theorem dX1_throwCells_16 : decode cX1_throwCells 16 = .ok (.iload_n 2, 1) := by decide +kernel
theorem dX1_throwCells_17 : decode cX1_throwCells 17 = .ok (.iconst (-1), 1) := by decide +kernel
theorem dX1_throwCells_18 : decode cX1_throwCells 18 = .ok (.iastore, 1) := by decide +kernel
theorem dX1_throwCells_19 : decode cX1_throwCells 19 = .ok (.iload_n 2, 1) := by decide +kernel
theorem dX1_throwCells_20 : decode cX1_throwCells 20 = .ok (.ifCond .le 25, 3) := by decide +kernel
theorem dX1_throwCells_23 : decode cX1_throwCells 23 = .ok (.aload_n 0, 1) := by decide +kernel
theorem dX1_throwCells_24 : decode cX1_throwCells 24 = .ok (.getfield 37, 3) := by decide +kernel
theorem dX1_throwCells_27 : decode cX1_throwCells 27 = .ok (.iload_n 2, 1) := by decide +kernel
theorem dX1_throwCells_28 : decode cX1_throwCells 28 = .ok (.iaload, 1) := by decide +kernel
theorem dX1_throwCells_29 : decode cX1_throwCells 29 = .ok (.aload_n 0, 1) := by decide +kernel
theorem dX1_throwCells_30 : decode cX1_throwCells 30 = .ok (.getfield 37, 3) := by decide +kernel
theorem dX1_throwCells_33 : decode cX1_throwCells 33 = .ok (.iload_n 2, 1) := by decide +kernel
theorem dX1_throwCells_34 : decode cX1_throwCells 34 = .ok (.iconst 1, 1) := by decide +kernel
theorem dX1_throwCells_35 : decode cX1_throwCells 35 = .ok (.isub, 1) := by decide +kernel
theorem dX1_throwCells_36 : decode cX1_throwCells 36 = .ok (.iaload, 1) := by decide +kernel
theorem dX1_throwCells_37 : decode cX1_throwCells 37 = .ok (.if_icmp .eq 8, 3) := by decide +kernel
theorem dX1_throwCells_40 : decode cX1_throwCells 40 = .ok (.iload_n 2, 1) := by decide +kernel
theorem dX1_throwCells_41 : decode cX1_throwCells 41 = .ok (.istore_n 1, 1) := by decide +kernel
theorem dX1_throwCells_42 : decode cX1_throwCells 42 = .ok (.goto 28, 3) := by decide +kernel
theorem dX1_throwCells_45 : decode cX1_throwCells 45 = .ok (.iload_n 1, 1) := by decide +kernel
theorem dX1_throwCells_46 : decode cX1_throwCells 46 = .ok (.ifCond .le 24, 3) := by decide +kernel
theorem dX1_throwCells_49 : decode cX1_throwCells 49 = .ok (.iload_n 2, 1) := by decide +kernel
theorem dX1_throwCells_50 : decode cX1_throwCells 50 = .ok (.iload_n 1, 1) := by decide +kernel
theorem dX1_throwCells_51 : decode cX1_throwCells 51 = .ok (.isub, 1) := by decide +kernel
theorem dX1_throwCells_52 : decode cX1_throwCells 52 = .ok (.iconst 4, 1) := by decide +kernel
theorem dX1_throwCells_53 : decode cX1_throwCells 53 = .ok (.if_icmp .gt 17, 3) := by decide +kernel
theorem dX1_throwCells_56 : decode cX1_throwCells 56 = .ok (.aload_n 0, 1) := by decide +kernel
theorem dX1_throwCells_57 : decode cX1_throwCells 57 = .ok (.getfield 40, 3) := by decide +kernel
theorem dX1_throwCells_60 : decode cX1_throwCells 60 = .ok (.iload_n 2, 1) := by decide +kernel
theorem dX1_throwCells_61 : decode cX1_throwCells 61 = .ok (.aload_n 0, 1) := by decide +kernel
theorem dX1_throwCells_62 : decode cX1_throwCells 62 = .ok (.getfield 37, 3) := by decide +kernel
theorem dX1_throwCells_65 : decode cX1_throwCells 65 = .ok (.iload_n 1, 1) := by decide +kernel
theorem dX1_throwCells_66 : decode cX1_throwCells 66 = .ok (.iconst 1, 1) := by decide +kernel
theorem dX1_throwCells_67 : decode cX1_throwCells 67 = .ok (.isub, 1) := by decide +kernel
theorem dX1_throwCells_68 : decode cX1_throwCells 68 = .ok (.iaload, 1) := by decide +kernel
theorem dX1_throwCells_69 : decode cX1_throwCells 69 = .ok (.iastore, 1) := by decide +kernel
theorem dX1_throwCells_70 : decode cX1_throwCells 70 = .ok (.aload_n 0, 1) := by decide +kernel
theorem dX1_throwCells_71 : decode cX1_throwCells 71 = .ok (.getfield 43, 3) := by decide +kernel
theorem dX1_throwCells_74 : decode cX1_throwCells 74 = .ok (.iload_n 2, 1) := by decide +kernel
theorem dX1_throwCells_75 : decode cX1_throwCells 75 = .ok (.aload_n 0, 1) := by decide +kernel
theorem dX1_throwCells_76 : decode cX1_throwCells 76 = .ok (.getfield 31, 3) := by decide +kernel
theorem dX1_throwCells_79 : decode cX1_throwCells 79 = .ok (.iload_n 2, 1) := by decide +kernel
theorem dX1_throwCells_80 : decode cX1_throwCells 80 = .ok (.iaload, 1) := by decide +kernel
theorem dX1_throwCells_81 : decode cX1_throwCells 81 = .ok (.aload_n 0, 1) := by decide +kernel
theorem dX1_throwCells_82 : decode cX1_throwCells 82 = .ok (.getfield 40, 3) := by decide +kernel
theorem dX1_throwCells_85 : decode cX1_throwCells 85 = .ok (.iload_n 2, 1) := by decide +kernel
theorem dX1_throwCells_86 : decode cX1_throwCells 86 = .ok (.iaload, 1) := by decide +kernel
theorem dX1_throwCells_87 : decode cX1_throwCells 87 = .ok (.invokestatic 89, 3) := by decide +kernel
theorem dX1_throwCells_90 : decode cX1_throwCells 90 = .ok (.iastore, 1) := by decide +kernel
theorem dX1_throwCells_91 : decode cX1_throwCells 91 = .ok (.iinc 2 1, 3) := by decide +kernel
theorem dX1_throwCells_94 : decode cX1_throwCells 94 = .ok (.goto (-90), 3) := by decide +kernel
theorem dX1_throwCells_97 : decode cX1_throwCells 97 = .ok (.return_, 1) := by decide +kernel
set_option maxRecDepth 20000 in
theorem ggX1_canBulge_X1_isStraight : GoodIn wsX1_canBulge wsX1_isStraight := goodIn_r _ [7, 1, 2, 8, 9, 10, 6, 11, 28, 29, 30, 31, 32, 33, 34, 35, 36, 37, 38, 39, 40, 41] (by decide +kernel) (by decide +kernel)
set_option maxRecDepth 20000 in
theorem gX1_canBulge_X1_isStraight : GoodIn wsX1_canBulge (wsV RX1 92 RX1 yX1_isStraight wsX1_isStraight) := goodIn_app (goodIn_of _ (by decide +kernel)) ggX1_canBulge_X1_isStraight
set_option maxRecDepth 20000 in
theorem ggX1_canBulge_X1_cellAt : GoodIn wsX1_canBulge wsX1_cellAt := goodIn_r _ [15, 16, 8, 9, 10, 6, 11, 1, 28, 29, 30, 31, 32, 33, 34, 35, 36, 37, 38, 39, 40, 41] (by decide +kernel) (by decide +kernel)
set_option maxRecDepth 20000 in
theorem gX1_canBulge_X1_cellAt : GoodIn wsX1_canBulge (wsV RX1 79 RX1 yX1_cellAt wsX1_cellAt) := goodIn_app (goodIn_of _ (by decide +kernel)) ggX1_canBulge_X1_cellAt
set_option maxRecDepth 20000 in
theorem ggX1_canBulge_X2_neighbour : GoodIn wsX1_canBulge wsX2_neighbour := goodIn_r _ [19] (by decide +kernel) (by decide +kernel)
set_option maxRecDepth 20000 in
theorem gX1_canBulge_X2_neighbour_n89 : GoodIn wsX1_canBulge (wsX2_neighbour) := ggX1_canBulge_X2_neighbour
set_option maxRecDepth 20000 in
theorem ggX1_canBulge_X1_isOpen : GoodIn wsX1_canBulge wsX1_isOpen := goodIn_r _ [23, 24, 25, 26, 18, 27, 28, 29, 30, 31, 32, 33, 34, 35, 36, 37, 38, 39, 40, 41] (by decide +kernel) (by decide +kernel)
set_option maxRecDepth 20000 in
theorem gX1_canBulge_X1_isOpen : GoodIn wsX1_canBulge (wsV RX1 95 RX1 yX1_isOpen wsX1_isOpen) := goodIn_app (goodIn_of _ (by decide +kernel)) ggX1_canBulge_X1_isOpen
theorem dX1_canBulge_0 : decode cX1_canBulge 0 = .ok (.aload_n 0, 1) := by decide +kernel
theorem dX1_canBulge_1 : decode cX1_canBulge 1 = .ok (.iload_n 1, 1) := by decide +kernel
theorem dX1_canBulge_2 : decode cX1_canBulge 2 = .ok (.invokevirtual 92, 3) := by decide +kernel
theorem dX1_canBulge_5 : decode cX1_canBulge 5 = .ok (.ifCond .eq 24, 3) := by decide +kernel
theorem dX1_canBulge_8 : decode cX1_canBulge 8 = .ok (.aload_n 0, 1) := by decide +kernel
theorem dX1_canBulge_9 : decode cX1_canBulge 9 = .ok (.getfield 46, 3) := by decide +kernel
theorem dX1_canBulge_12 : decode cX1_canBulge 12 = .ok (.iconst 2, 1) := by decide +kernel
theorem dX1_canBulge_13 : decode cX1_canBulge 13 = .ok (.iadd, 1) := by decide +kernel
theorem dX1_canBulge_14 : decode cX1_canBulge 14 = .ok (.sipush 150, 3) := by decide +kernel
theorem dX1_canBulge_17 : decode cX1_canBulge 17 = .ok (.if_icmp .gt 12, 3) := by decide +kernel
theorem dX1_canBulge_20 : decode cX1_canBulge 20 = .ok (.iload_n 2, 1) := by decide +kernel
theorem dX1_canBulge_21 : decode cX1_canBulge 21 = .ok (.ifCond .lt 8, 3) := by decide +kernel
theorem dX1_canBulge_24 : decode cX1_canBulge 24 = .ok (.iload_n 2, 1) := by decide +kernel
theorem dX1_canBulge_25 : decode cX1_canBulge 25 = .ok (.iconst 4, 1) := by decide +kernel
theorem dX1_canBulge_26 : decode cX1_canBulge 26 = .ok (.if_icmp .lt 5, 3) := by decide +kernel
theorem dX1_canBulge_29 : decode cX1_canBulge 29 = .ok (.iconst 0, 1) := by decide +kernel
theorem dX1_canBulge_30 : decode cX1_canBulge 30 = .ok (.ireturn, 1) := by decide +kernel
theorem dX1_canBulge_31 : decode cX1_canBulge 31 = .ok (.iload_n 2, 1) := by decide +kernel
theorem dX1_canBulge_32 : decode cX1_canBulge 32 = .ok (.iconst 2, 1) := by decide +kernel
theorem dX1_canBulge_33 : decode cX1_canBulge 33 = .ok (.irem, 1) := by decide +kernel
theorem dX1_canBulge_34 : decode cX1_canBulge 34 = .ok (.aload_n 0, 1) := by decide +kernel
theorem dX1_canBulge_35 : decode cX1_canBulge 35 = .ok (.getfield 37, 3) := by decide +kernel
theorem dX1_canBulge_38 : decode cX1_canBulge 38 = .ok (.iload_n 1, 1) := by decide +kernel
theorem dX1_canBulge_39 : decode cX1_canBulge 39 = .ok (.iaload, 1) := by decide +kernel
theorem dX1_canBulge_40 : decode cX1_canBulge 40 = .ok (.iconst 2, 1) := by decide +kernel
theorem dX1_canBulge_41 : decode cX1_canBulge 41 = .ok (.irem, 1) := by decide +kernel
theorem dX1_canBulge_42 : decode cX1_canBulge 42 = .ok (.if_icmp .eq 7, 3) := by decide +kernel
theorem dX1_canBulge_45 : decode cX1_canBulge 45 = .ok (.iconst 1, 1) := by decide +kernel
theorem dX1_canBulge_46 : decode cX1_canBulge 46 = .ok (.goto 4, 3) := by decide +kernel
theorem dX1_canBulge_49 : decode cX1_canBulge 49 = .ok (.iconst 0, 1) := by decide +kernel
theorem dX1_canBulge_50 : decode cX1_canBulge 50 = .ok (.istore_n 3, 1) := by decide +kernel
theorem dX1_canBulge_51 : decode cX1_canBulge 51 = .ok (.iload_n 3, 1) := by decide +kernel
theorem dX1_canBulge_52 : decode cX1_canBulge 52 = .ok (.ifCond .eq 59, 3) := by decide +kernel
theorem dX1_canBulge_55 : decode cX1_canBulge 55 = .ok (.aload_n 0, 1) := by decide +kernel
theorem dX1_canBulge_56 : decode cX1_canBulge 56 = .ok (.aload_n 0, 1) := by decide +kernel
theorem dX1_canBulge_57 : decode cX1_canBulge 57 = .ok (.iload_n 1, 1) := by decide +kernel
theorem dX1_canBulge_58 : decode cX1_canBulge 58 = .ok (.iconst 1, 1) := by decide +kernel
theorem dX1_canBulge_59 : decode cX1_canBulge 59 = .ok (.isub, 1) := by decide +kernel
theorem dX1_canBulge_60 : decode cX1_canBulge 60 = .ok (.invokevirtual 79, 3) := by decide +kernel
theorem dX1_canBulge_63 : decode cX1_canBulge 63 = .ok (.iload_n 2, 1) := by decide +kernel
theorem dX1_canBulge_64 : decode cX1_canBulge 64 = .ok (.invokestatic 89, 3) := by decide +kernel
theorem dX1_canBulge_67 : decode cX1_canBulge 67 = .ok (.invokevirtual 95, 3) := by decide +kernel
theorem dX1_canBulge_70 : decode cX1_canBulge 70 = .ok (.ifCond .eq 41, 3) := by decide +kernel
theorem dX1_canBulge_73 : decode cX1_canBulge 73 = .ok (.aload_n 0, 1) := by decide +kernel
theorem dX1_canBulge_74 : decode cX1_canBulge 74 = .ok (.aload_n 0, 1) := by decide +kernel
theorem dX1_canBulge_75 : decode cX1_canBulge 75 = .ok (.iload_n 1, 1) := by decide +kernel
theorem dX1_canBulge_76 : decode cX1_canBulge 76 = .ok (.invokevirtual 79, 3) := by decide +kernel
theorem dX1_canBulge_79 : decode cX1_canBulge 79 = .ok (.iload_n 2, 1) := by decide +kernel
theorem dX1_canBulge_80 : decode cX1_canBulge 80 = .ok (.invokestatic 89, 3) := by decide +kernel
theorem dX1_canBulge_83 : decode cX1_canBulge 83 = .ok (.invokevirtual 95, 3) := by decide +kernel
theorem dX1_canBulge_86 : decode cX1_canBulge 86 = .ok (.ifCond .eq 25, 3) := by decide +kernel
theorem dX1_canBulge_89 : decode cX1_canBulge 89 = .ok (.aload_n 0, 1) := by decide +kernel
theorem dX1_canBulge_90 : decode cX1_canBulge 90 = .ok (.aload_n 0, 1) := by decide +kernel
theorem dX1_canBulge_91 : decode cX1_canBulge 91 = .ok (.iload_n 1, 1) := by decide +kernel
theorem dX1_canBulge_92 : decode cX1_canBulge 92 = .ok (.iconst 1, 1) := by decide +kernel
theorem dX1_canBulge_93 : decode cX1_canBulge 93 = .ok (.iadd, 1) := by decide +kernel
theorem dX1_canBulge_94 : decode cX1_canBulge 94 = .ok (.invokevirtual 79, 3) := by decide +kernel
theorem dX1_canBulge_97 : decode cX1_canBulge 97 = .ok (.iload_n 2, 1) := by decide +kernel
theorem dX1_canBulge_98 : decode cX1_canBulge 98 = .ok (.invokestatic 89, 3) := by decide +kernel
theorem dX1_canBulge_101 : decode cX1_canBulge 101 = .ok (.invokevirtual 95, 3) := by decide +kernel
theorem dX1_canBulge_104 : decode cX1_canBulge 104 = .ok (.ifCond .eq 7, 3) := by decide +kernel
theorem dX1_canBulge_107 : decode cX1_canBulge 107 = .ok (.iconst 1, 1) := by decide +kernel
theorem dX1_canBulge_108 : decode cX1_canBulge 108 = .ok (.goto 4, 3) := by decide +kernel
theorem dX1_canBulge_111 : decode cX1_canBulge 111 = .ok (.iconst 0, 1) := by decide +kernel
theorem dX1_canBulge_112 : decode cX1_canBulge 112 = .ok (.ireturn, 1) := by decide +kernel
set_option maxRecDepth 20000 in
theorem ggX1_isOpen_X2_isCell : GoodIn wsX1_isOpen wsX2_isCell := goodIn_r _ [5] (by decide +kernel) (by decide +kernel)
set_option maxRecDepth 20000 in
theorem gX1_isOpen_X2_isCell_n70 : GoodIn wsX1_isOpen (wsX2_isCell) := ggX1_isOpen_X2_isCell
theorem dX1_isOpen_0 : decode cX1_isOpen 0 = .ok (.iload_n 1, 1) := by decide +kernel
theorem dX1_isOpen_1 : decode cX1_isOpen 1 = .ok (.invokestatic 70, 3) := by decide +kernel
theorem dX1_isOpen_4 : decode cX1_isOpen 4 = .ok (.ifCond .eq 26, 3) := by decide +kernel
theorem dX1_isOpen_7 : decode cX1_isOpen 7 = .ok (.aload_n 0, 1) := by decide +kernel
theorem dX1_isOpen_8 : decode cX1_isOpen 8 = .ok (.getfield 34, 3) := by decide +kernel
theorem dX1_isOpen_11 : decode cX1_isOpen 11 = .ok (.iload_n 1, 1) := by decide +kernel
theorem dX1_isOpen_12 : decode cX1_isOpen 12 = .ok (.iaload, 1) := by decide +kernel
theorem dX1_isOpen_13 : decode cX1_isOpen 13 = .ok (.iconst (-1), 1) := by decide +kernel
theorem dX1_isOpen_14 : decode cX1_isOpen 14 = .ok (.if_icmp .ne 16, 3) := by decide +kernel
theorem dX1_isOpen_17 : decode cX1_isOpen 17 = .ok (.aload_n 0, 1) := by decide +kernel
theorem dX1_isOpen_18 : decode cX1_isOpen 18 = .ok (.getfield 18, 3) := by decide +kernel
theorem dX1_isOpen_21 : decode cX1_isOpen 21 = .ok (.iload_n 1, 1) := by decide +kernel
theorem dX1_isOpen_22 : decode cX1_isOpen 22 = .ok (.baload, 1) := by decide +kernel
theorem dX1_isOpen_23 : decode cX1_isOpen 23 = .ok (.ifCond .ne 7, 3) := by decide +kernel
theorem dX1_isOpen_26 : decode cX1_isOpen 26 = .ok (.iconst 1, 1) := by decide +kernel
theorem dX1_isOpen_27 : decode cX1_isOpen 27 = .ok (.goto 4, 3) := by decide +kernel
theorem dX1_isOpen_30 : decode cX1_isOpen 30 = .ok (.iconst 0, 1) := by decide +kernel
theorem dX1_isOpen_31 : decode cX1_isOpen 31 = .ok (.ireturn, 1) := by decide +kernel
set_option maxRecDepth 20000 in
theorem ggX1_bulge_X1_canBulge : GoodIn wsX1_bulge wsX1_canBulge := goodIn_r _ [12, 3, 13, 14, 15, 16, 11, 17, 18, 19, 20, 21, 22, 23, 24, 25, 2, 26, 27, 28, 29, 30, 31, 32, 1, 33, 34, 35, 60, 61, 62, 63, 64, 65, 66, 67, 68, 69, 70, 71, 72, 73] (by decide +kernel) (by decide +kernel)
set_option maxRecDepth 20000 in
theorem gX1_bulge_X1_canBulge : GoodIn wsX1_bulge (wsV RX1 98 RX1 yX1_canBulge wsX1_canBulge) := goodIn_app (goodIn_of _ (by decide +kernel)) ggX1_bulge_X1_canBulge
set_option maxRecDepth 20000 in
theorem ggX1_bulge_X1_cellAt : GoodIn wsX1_bulge wsX1_cellAt := goodIn_r _ [25, 2, 18, 19, 20, 11, 21, 3, 60, 61, 62, 63, 64, 65, 66, 67, 68, 69, 70, 71, 72, 73] (by decide +kernel) (by decide +kernel)
set_option maxRecDepth 20000 in
theorem gX1_bulge_X1_cellAt : GoodIn wsX1_bulge (wsV RX1 79 RX1 yX1_cellAt wsX1_cellAt) := goodIn_app (goodIn_of _ (by decide +kernel)) ggX1_bulge_X1_cellAt
set_option maxRecDepth 20000 in
theorem ggX1_bulge_X2_isCell : GoodIn wsX1_bulge wsX2_isCell := goodIn_r _ [35] (by decide +kernel) (by decide +kernel)
set_option maxRecDepth 20000 in
theorem gX1_bulge_X2_isCell_n70 : GoodIn wsX1_bulge (wsX2_isCell) := ggX1_bulge_X2_isCell
set_option maxRecDepth 20000 in
theorem ggX1_bulge_X2_neighbour : GoodIn wsX1_bulge wsX2_neighbour := goodIn_r _ [28] (by decide +kernel) (by decide +kernel)
set_option maxRecDepth 20000 in
theorem gX1_bulge_X2_neighbour_n89 : GoodIn wsX1_bulge (wsX2_neighbour) := ggX1_bulge_X2_neighbour
set_option maxRecDepth 20000 in
theorem ggX1_bulge_X1_takeIntoCourse : GoodIn wsX1_bulge wsX1_takeIntoCourse := goodIn_r _ [39, 2, 40, 41, 42, 18, 19, 20, 11, 21, 3, 34, 27, 35, 60, 61, 62, 63, 64, 65, 66, 67, 68, 69, 70, 71, 72, 73] (by decide +kernel) (by decide +kernel)
set_option maxRecDepth 20000 in
theorem gX1_bulge_X1_takeIntoCourse : GoodIn wsX1_bulge (wsV RX1 102 RX1 yX1_takeIntoCourse wsX1_takeIntoCourse) := goodIn_app (goodIn_of _ (by decide +kernel)) ggX1_bulge_X1_takeIntoCourse
set_option maxRecDepth 20000 in
theorem ggX1_bulge_X1_followCourse : GoodIn wsX1_bulge wsX1_followCourse := goodIn_r _ [46, 47, 48, 49, 50, 3, 2, 1, 13, 34, 27, 35, 22, 23, 24, 11, 25, 18, 19, 20, 21, 51, 52, 53, 26, 28, 54, 55, 56, 57, 58, 59, 60, 61, 62, 63, 64, 65, 66, 67, 68, 69, 70, 71, 72, 73] (by decide +kernel) (by decide +kernel)
set_option maxRecDepth 20000 in
theorem gX1_bulge_X1_followCourse : GoodIn wsX1_bulge (wsV RX1 50 RX1 yX1_followCourse wsX1_followCourse) := goodIn_app (goodIn_of _ (by decide +kernel)) ggX1_bulge_X1_followCourse
theorem dX1_bulge_0 : decode cX1_bulge 0 = .ok (.aload_n 0, 1) := by decide +kernel
theorem dX1_bulge_1 : decode cX1_bulge 1 = .ok (.iload_n 1, 1) := by decide +kernel
theorem dX1_bulge_2 : decode cX1_bulge 2 = .ok (.iload_n 2, 1) := by decide +kernel
theorem dX1_bulge_3 : decode cX1_bulge 3 = .ok (.invokevirtual 98, 3) := by decide +kernel
theorem dX1_bulge_6 : decode cX1_bulge 6 = .ok (.ifCond .ne 4, 3) := by decide +kernel
theorem dX1_bulge_9 : decode cX1_bulge 9 = .ok (.return_, 1) := by decide +kernel
theorem dX1_bulge_10 : decode cX1_bulge 10 = .ok (.aload_n 0, 1) := by decide +kernel
theorem dX1_bulge_11 : decode cX1_bulge 11 = .ok (.iload_n 1, 1) := by decide +kernel
theorem dX1_bulge_12 : decode cX1_bulge 12 = .ok (.invokevirtual 79, 3) := by decide +kernel
theorem dX1_bulge_15 : decode cX1_bulge 15 = .ok (.istore_n 3, 1) := by decide +kernel
theorem dX1_bulge_16 : decode cX1_bulge 16 = .ok (.iload_n 3, 1) := by decide +kernel
theorem dX1_bulge_17 : decode cX1_bulge 17 = .ok (.invokestatic 70, 3) := by decide +kernel
theorem dX1_bulge_20 : decode cX1_bulge 20 = .ok (.ifCond .eq 10, 3) := by decide +kernel
theorem dX1_bulge_23 : decode cX1_bulge 23 = .ok (.aload_n 0, 1) := by decide +kernel
theorem dX1_bulge_24 : decode cX1_bulge 24 = .ok (.getfield 34, 3) := by decide +kernel
theorem dX1_bulge_27 : decode cX1_bulge 27 = .ok (.iload_n 3, 1) := by decide +kernel
theorem dX1_bulge_28 : decode cX1_bulge 28 = .ok (.iconst (-1), 1) := by decide +kernel
theorem dX1_bulge_29 : decode cX1_bulge 29 = .ok (.iastore, 1) := by decide +kernel
theorem dX1_bulge_30 : decode cX1_bulge 30 = .ok (.aload_n 0, 1) := by decide +kernel
theorem dX1_bulge_31 : decode cX1_bulge 31 = .ok (.iload_n 1, 1) := by decide +kernel
theorem dX1_bulge_32 : decode cX1_bulge 32 = .ok (.iconst 1, 1) := by decide +kernel
theorem dX1_bulge_33 : decode cX1_bulge 33 = .ok (.isub, 1) := by decide +kernel
theorem dX1_bulge_34 : decode cX1_bulge 34 = .ok (.invokevirtual 79, 3) := by decide +kernel
theorem dX1_bulge_37 : decode cX1_bulge 37 = .ok (.iload_n 2, 1) := by decide +kernel
theorem dX1_bulge_38 : decode cX1_bulge 38 = .ok (.invokestatic 89, 3) := by decide +kernel
theorem dX1_bulge_41 : decode cX1_bulge 41 = .ok (.istore 4, 2) := by decide +kernel
theorem dX1_bulge_43 : decode cX1_bulge 43 = .ok (.iload_n 3, 1) := by decide +kernel
theorem dX1_bulge_44 : decode cX1_bulge 44 = .ok (.iload_n 2, 1) := by decide +kernel
theorem dX1_bulge_45 : decode cX1_bulge 45 = .ok (.invokestatic 89, 3) := by decide +kernel
theorem dX1_bulge_48 : decode cX1_bulge 48 = .ok (.istore 5, 2) := by decide +kernel
theorem dX1_bulge_50 : decode cX1_bulge 50 = .ok (.aload_n 0, 1) := by decide +kernel
theorem dX1_bulge_51 : decode cX1_bulge 51 = .ok (.iload_n 1, 1) := by decide +kernel
theorem dX1_bulge_52 : decode cX1_bulge 52 = .ok (.iconst 1, 1) := by decide +kernel
theorem dX1_bulge_53 : decode cX1_bulge 53 = .ok (.iadd, 1) := by decide +kernel
theorem dX1_bulge_54 : decode cX1_bulge 54 = .ok (.invokevirtual 79, 3) := by decide +kernel
theorem dX1_bulge_57 : decode cX1_bulge 57 = .ok (.iload_n 2, 1) := by decide +kernel
theorem dX1_bulge_58 : decode cX1_bulge 58 = .ok (.invokestatic 89, 3) := by decide +kernel
theorem dX1_bulge_61 : decode cX1_bulge 61 = .ok (.istore 6, 2) := by decide +kernel
theorem dX1_bulge_63 : decode cX1_bulge 63 = .ok (.aload_n 0, 1) := by decide +kernel
theorem dX1_bulge_64 : decode cX1_bulge 64 = .ok (.getfield 31, 3) := by decide +kernel
theorem dX1_bulge_67 : decode cX1_bulge 67 = .ok (.iload_n 1, 1) := by decide +kernel
theorem dX1_bulge_68 : decode cX1_bulge 68 = .ok (.iconst 1, 1) := by decide +kernel
theorem dX1_bulge_69 : decode cX1_bulge 69 = .ok (.iadd, 1) := by decide +kernel
theorem dX1_bulge_70 : decode cX1_bulge 70 = .ok (.aload_n 0, 1) := by decide +kernel
theorem dX1_bulge_71 : decode cX1_bulge 71 = .ok (.getfield 31, 3) := by decide +kernel
theorem dX1_bulge_74 : decode cX1_bulge 74 = .ok (.iload_n 1, 1) := by decide +kernel
theorem dX1_bulge_75 : decode cX1_bulge 75 = .ok (.iconst 3, 1) := by decide +kernel
theorem dX1_bulge_76 : decode cX1_bulge 76 = .ok (.iadd, 1) := by decide +kernel
theorem dX1_bulge_77 : decode cX1_bulge 77 = .ok (.aload_n 0, 1) := by decide +kernel
theorem dX1_bulge_78 : decode cX1_bulge 78 = .ok (.getfield 46, 3) := by decide +kernel
theorem dX1_bulge_81 : decode cX1_bulge 81 = .ok (.iload_n 1, 1) := by decide +kernel
theorem dX1_bulge_82 : decode cX1_bulge 82 = .ok (.isub, 1) := by decide +kernel
theorem dX1_bulge_83 : decode cX1_bulge 83 = .ok (.iconst 1, 1) := by decide +kernel
theorem dX1_bulge_84 : decode cX1_bulge 84 = .ok (.isub, 1) := by decide +kernel
theorem dX1_bulge_85 : decode cX1_bulge 85 = .ok (.invokestatic 54, 3) := by decide +kernel
theorem dX1_bulge_88 : decode cX1_bulge 88 = .ok (.aload_n 0, 1) := by decide +kernel
theorem dX1_bulge_89 : decode cX1_bulge 89 = .ok (.dup, 1) := by decide +kernel
theorem dX1_bulge_90 : decode cX1_bulge 90 = .ok (.getfield 46, 3) := by decide +kernel
theorem dX1_bulge_93 : decode cX1_bulge 93 = .ok (.iconst 2, 1) := by decide +kernel
theorem dX1_bulge_94 : decode cX1_bulge 94 = .ok (.iadd, 1) := by decide +kernel
theorem dX1_bulge_95 : decode cX1_bulge 95 = .ok (.putfield 46, 3) := by decide +kernel
theorem dX1_bulge_98 : decode cX1_bulge 98 = .ok (.aload_n 0, 1) := by decide +kernel
theorem dX1_bulge_99 : decode cX1_bulge 99 = .ok (.iload_n 1, 1) := by decide +kernel
theorem dX1_bulge_100 : decode cX1_bulge 100 = .ok (.iload 4, 2) := by decide +kernel
theorem dX1_bulge_102 : decode cX1_bulge 102 = .ok (.invokevirtual 102, 3) := by decide +kernel
theorem dX1_bulge_105 : decode cX1_bulge 105 = .ok (.aload_n 0, 1) := by decide +kernel
theorem dX1_bulge_106 : decode cX1_bulge 106 = .ok (.iload_n 1, 1) := by decide +kernel
theorem dX1_bulge_107 : decode cX1_bulge 107 = .ok (.iconst 1, 1) := by decide +kernel
theorem dX1_bulge_108 : decode cX1_bulge 108 = .ok (.iadd, 1) := by decide +kernel
theorem dX1_bulge_109 : decode cX1_bulge 109 = .ok (.iload 5, 2) := by decide +kernel
theorem dX1_bulge_111 : decode cX1_bulge 111 = .ok (.invokevirtual 102, 3) := by decide +kernel
theorem dX1_bulge_114 : decode cX1_bulge 114 = .ok (.aload_n 0, 1) := by decide +kernel
theorem dX1_bulge_115 : decode cX1_bulge 115 = .ok (.iload_n 1, 1) := by decide +kernel
theorem dX1_bulge_116 : decode cX1_bulge 116 = .ok (.iconst 2, 1) := by decide +kernel
theorem dX1_bulge_117 : decode cX1_bulge 117 = .ok (.iadd, 1) := by decide +kernel
theorem dX1_bulge_118 : decode cX1_bulge 118 = .ok (.iload 6, 2) := by decide +kernel
theorem dX1_bulge_120 : decode cX1_bulge 120 = .ok (.invokevirtual 102, 3) := by decide +kernel
theorem dX1_bulge_123 : decode cX1_bulge 123 = .ok (.aload_n 0, 1) := by decide +kernel
theorem dX1_bulge_124 : decode cX1_bulge 124 = .ok (.iload_n 1, 1) := by decide +kernel
theorem dX1_bulge_125 : decode cX1_bulge 125 = .ok (.invokevirtual 50, 3) := by decide +kernel
theorem dX1_bulge_128 : decode cX1_bulge 128 = .ok (.return_, 1) := by decide +kernel
set_option maxRecDepth 20000 in
theorem ggX1_takeIntoCourse_X1_isInCourse : GoodIn wsX1_takeIntoCourse wsX1_isInCourse := goodIn_r _ [9, 10, 14, 15, 16, 17, 18, 19, 20, 21, 22, 23, 24, 25, 26, 27] (by decide +kernel) (by decide +kernel)
set_option maxRecDepth 20000 in
theorem gX1_takeIntoCourse_X1_isInCourse : GoodIn wsX1_takeIntoCourse (wsV RX1 66 RX1 yX1_isInCourse wsX1_isInCourse) := goodIn_app (goodIn_of _ (by decide +kernel)) ggX1_takeIntoCourse_X1_isInCourse
set_option maxRecDepth 20000 in
theorem ggX1_takeIntoCourse_X2_isCell : GoodIn wsX1_takeIntoCourse wsX2_isCell := goodIn_r _ [13] (by decide +kernel) (by decide +kernel)
set_option maxRecDepth 20000 in
theorem gX1_takeIntoCourse_X2_isCell_n70 : GoodIn wsX1_takeIntoCourse (wsX2_isCell) := ggX1_takeIntoCourse_X2_isCell
theorem dX1_takeIntoCourse_0 : decode cX1_takeIntoCourse 0 = .ok (.aload_n 0, 1) := by decide +kernel
theorem dX1_takeIntoCourse_1 : decode cX1_takeIntoCourse 1 = .ok (.iload_n 1, 1) := by decide +kernel
theorem dX1_takeIntoCourse_2 : decode cX1_takeIntoCourse 2 = .ok (.invokevirtual 66, 3) := by decide +kernel
theorem dX1_takeIntoCourse_5 : decode cX1_takeIntoCourse 5 = .ok (.ifCond .eq 38, 3) := by decide +kernel
theorem dX1_takeIntoCourse_8 : decode cX1_takeIntoCourse 8 = .ok (.iload_n 2, 1) := by decide +kernel
theorem dX1_takeIntoCourse_9 : decode cX1_takeIntoCourse 9 = .ok (.invokestatic 70, 3) := by decide +kernel
theorem dX1_takeIntoCourse_12 : decode cX1_takeIntoCourse 12 = .ok (.ifCond .eq 31, 3) := by decide +kernel
theorem dX1_takeIntoCourse_15 : decode cX1_takeIntoCourse 15 = .ok (.aload_n 0, 1) := by decide +kernel
theorem dX1_takeIntoCourse_16 : decode cX1_takeIntoCourse 16 = .ok (.getfield 31, 3) := by decide +kernel
theorem dX1_takeIntoCourse_19 : decode cX1_takeIntoCourse 19 = .ok (.iload_n 1, 1) := by decide +kernel
theorem dX1_takeIntoCourse_20 : decode cX1_takeIntoCourse 20 = .ok (.iload_n 2, 1) := by decide +kernel
theorem dX1_takeIntoCourse_21 : decode cX1_takeIntoCourse 21 = .ok (.iastore, 1) := by decide +kernel
theorem dX1_takeIntoCourse_22 : decode cX1_takeIntoCourse 22 = .ok (.aload_n 0, 1) := by decide +kernel
theorem dX1_takeIntoCourse_23 : decode cX1_takeIntoCourse 23 = .ok (.getfield 15, 3) := by decide +kernel
theorem dX1_takeIntoCourse_26 : decode cX1_takeIntoCourse 26 = .ok (.iload_n 2, 1) := by decide +kernel
theorem dX1_takeIntoCourse_27 : decode cX1_takeIntoCourse 27 = .ok (.iconst 0, 1) := by decide +kernel
theorem dX1_takeIntoCourse_28 : decode cX1_takeIntoCourse 28 = .ok (.iastore, 1) := by decide +kernel
theorem dX1_takeIntoCourse_29 : decode cX1_takeIntoCourse 29 = .ok (.aload_n 0, 1) := by decide +kernel
theorem dX1_takeIntoCourse_30 : decode cX1_takeIntoCourse 30 = .ok (.getfield 22, 3) := by decide +kernel
theorem dX1_takeIntoCourse_33 : decode cX1_takeIntoCourse 33 = .ok (.iload_n 2, 1) := by decide +kernel
theorem dX1_takeIntoCourse_34 : decode cX1_takeIntoCourse 34 = .ok (.iconst 0, 1) := by decide +kernel
theorem dX1_takeIntoCourse_35 : decode cX1_takeIntoCourse 35 = .ok (.iastore, 1) := by decide +kernel
theorem dX1_takeIntoCourse_36 : decode cX1_takeIntoCourse 36 = .ok (.aload_n 0, 1) := by decide +kernel
theorem dX1_takeIntoCourse_37 : decode cX1_takeIntoCourse 37 = .ok (.getfield 25, 3) := by decide +kernel
theorem dX1_takeIntoCourse_40 : decode cX1_takeIntoCourse 40 = .ok (.iload_n 2, 1) := by decide +kernel
theorem dX1_takeIntoCourse_41 : decode cX1_takeIntoCourse 41 = .ok (.iconst 1, 1) := by decide +kernel
theorem dX1_takeIntoCourse_42 : decode cX1_takeIntoCourse 42 = .ok (.bastore, 1) := by decide +kernel
theorem dX1_takeIntoCourse_43 : decode cX1_takeIntoCourse 43 = .ok (.return_, 1) := by decide +kernel
set_option maxRecDepth 20000 in
theorem ggX1_isNeck_X1_isInCourse : GoodIn wsX1_isNeck wsX1_isInCourse := goodIn_r _ [6, 7, 14, 15, 16, 17, 18, 19, 20, 21, 22, 23, 24, 25, 26, 27] (by decide +kernel) (by decide +kernel)
set_option maxRecDepth 20000 in
theorem gX1_isNeck_X1_isInCourse : GoodIn wsX1_isNeck (wsV RX1 66 RX1 yX1_isInCourse wsX1_isInCourse) := goodIn_app (goodIn_of _ (by decide +kernel)) ggX1_isNeck_X1_isInCourse
set_option maxRecDepth 20000 in
theorem ggX1_isNeck_X2_directionTo : GoodIn wsX1_isNeck wsX2_directionTo := goodIn_r _ [10, 11, 12, 9, 13] (by decide +kernel) (by decide +kernel)
set_option maxRecDepth 20000 in
theorem gX1_isNeck_X2_directionTo_n83 : GoodIn wsX1_isNeck (wsX2_directionTo) := ggX1_isNeck_X2_directionTo
theorem dX1_isNeck_0 : decode cX1_isNeck 0 = .ok (.aload_n 0, 1) := by decide +kernel
theorem dX1_isNeck_1 : decode cX1_isNeck 1 = .ok (.iload_n 1, 1) := by decide +kernel
theorem dX1_isNeck_2 : decode cX1_isNeck 2 = .ok (.invokevirtual 66, 3) := by decide +kernel
theorem dX1_isNeck_5 : decode cX1_isNeck 5 = .ok (.ifCond .eq 41, 3) := by decide +kernel
theorem dX1_isNeck_8 : decode cX1_isNeck 8 = .ok (.aload_n 0, 1) := by decide +kernel
theorem dX1_isNeck_9 : decode cX1_isNeck 9 = .ok (.iload_n 2, 1) := by decide +kernel
theorem dX1_isNeck_10 : decode cX1_isNeck 10 = .ok (.invokevirtual 66, 3) := by decide +kernel
theorem dX1_isNeck_13 : decode cX1_isNeck 13 = .ok (.ifCond .eq 33, 3) := by decide +kernel
theorem dX1_isNeck_16 : decode cX1_isNeck 16 = .ok (.iload_n 2, 1) := by decide +kernel
theorem dX1_isNeck_17 : decode cX1_isNeck 17 = .ok (.iload_n 1, 1) := by decide +kernel
theorem dX1_isNeck_18 : decode cX1_isNeck 18 = .ok (.isub, 1) := by decide +kernel
theorem dX1_isNeck_19 : decode cX1_isNeck 19 = .ok (.iconst 3, 1) := by decide +kernel
theorem dX1_isNeck_20 : decode cX1_isNeck 20 = .ok (.if_icmp .lt 26, 3) := by decide +kernel
theorem dX1_isNeck_23 : decode cX1_isNeck 23 = .ok (.aload_n 0, 1) := by decide +kernel
theorem dX1_isNeck_24 : decode cX1_isNeck 24 = .ok (.getfield 31, 3) := by decide +kernel
theorem dX1_isNeck_27 : decode cX1_isNeck 27 = .ok (.iload_n 1, 1) := by decide +kernel
theorem dX1_isNeck_28 : decode cX1_isNeck 28 = .ok (.iaload, 1) := by decide +kernel
theorem dX1_isNeck_29 : decode cX1_isNeck 29 = .ok (.aload_n 0, 1) := by decide +kernel
theorem dX1_isNeck_30 : decode cX1_isNeck 30 = .ok (.getfield 31, 3) := by decide +kernel
theorem dX1_isNeck_33 : decode cX1_isNeck 33 = .ok (.iload_n 2, 1) := by decide +kernel
theorem dX1_isNeck_34 : decode cX1_isNeck 34 = .ok (.iaload, 1) := by decide +kernel
theorem dX1_isNeck_35 : decode cX1_isNeck 35 = .ok (.invokestatic 83, 3) := by decide +kernel
theorem dX1_isNeck_38 : decode cX1_isNeck 38 = .ok (.iconst (-1), 1) := by decide +kernel
theorem dX1_isNeck_39 : decode cX1_isNeck 39 = .ok (.if_icmp .eq 7, 3) := by decide +kernel
theorem dX1_isNeck_42 : decode cX1_isNeck 42 = .ok (.iconst 1, 1) := by decide +kernel
theorem dX1_isNeck_43 : decode cX1_isNeck 43 = .ok (.goto 4, 3) := by decide +kernel
theorem dX1_isNeck_46 : decode cX1_isNeck 46 = .ok (.iconst 0, 1) := by decide +kernel
theorem dX1_isNeck_47 : decode cX1_isNeck 47 = .ok (.ireturn, 1) := by decide +kernel
set_option maxRecDepth 20000 in
theorem ggX1_necks_X2_neighbour : GoodIn wsX1_necks wsX2_neighbour := goodIn_r _ [5] (by decide +kernel) (by decide +kernel)
set_option maxRecDepth 20000 in
theorem gX1_necks_X2_neighbour_n89 : GoodIn wsX1_necks (wsX2_neighbour) := ggX1_necks_X2_neighbour
set_option maxRecDepth 20000 in
theorem ggX1_necks_X1_placeOf : GoodIn wsX1_necks wsX1_placeOf := goodIn_r _ [10, 11, 12, 4, 13, 14, 15, 16, 17, 18, 19, 20, 21, 22, 23, 24, 25, 26, 27] (by decide +kernel) (by decide +kernel)
set_option maxRecDepth 20000 in
theorem gX1_necks_X1_placeOf : GoodIn wsX1_necks (wsV RX1 106 RX1 yX1_placeOf wsX1_placeOf) := goodIn_app (goodIn_of _ (by decide +kernel)) ggX1_necks_X1_placeOf
theorem dX1_necks_0 : decode cX1_necks 0 = .ok (.iconst 0, 1) := by decide +kernel
theorem dX1_necks_1 : decode cX1_necks 1 = .ok (.istore_n 1, 1) := by decide +kernel
theorem dX1_necks_2 : decode cX1_necks 2 = .ok (.iconst 0, 1) := by decide +kernel
theorem dX1_necks_3 : decode cX1_necks 3 = .ok (.istore_n 2, 1) := by decide +kernel
theorem dX1_necks_4 : decode cX1_necks 4 = .ok (.iload_n 2, 1) := by decide +kernel
theorem dX1_necks_5 : decode cX1_necks 5 = .ok (.aload_n 0, 1) := by decide +kernel
theorem dX1_necks_6 : decode cX1_necks 6 = .ok (.getfield 46, 3) := by decide +kernel
theorem dX1_necks_9 : decode cX1_necks 9 = .ok (.if_icmp .ge 45, 3) := by decide +kernel
theorem dX1_necks_12 : decode cX1_necks 12 = .ok (.iconst 0, 1) := by decide +kernel
theorem dX1_necks_13 : decode cX1_necks 13 = .ok (.istore_n 3, 1) := by decide +kernel
theorem dX1_necks_14 : decode cX1_necks 14 = .ok (.iload_n 3, 1) := by decide +kernel
theorem dX1_necks_15 : decode cX1_necks 15 = .ok (.iconst 4, 1) := by decide +kernel
theorem dX1_necks_16 : decode cX1_necks 16 = .ok (.if_icmp .ge 32, 3) := by decide +kernel
theorem dX1_necks_19 : decode cX1_necks 19 = .ok (.aload_n 0, 1) := by decide +kernel
theorem dX1_necks_20 : decode cX1_necks 20 = .ok (.aload_n 0, 1) := by decide +kernel
theorem dX1_necks_21 : decode cX1_necks 21 = .ok (.getfield 31, 3) := by decide +kernel
theorem dX1_necks_24 : decode cX1_necks 24 = .ok (.iload_n 2, 1) := by decide +kernel
theorem dX1_necks_25 : decode cX1_necks 25 = .ok (.iaload, 1) := by decide +kernel
theorem dX1_necks_26 : decode cX1_necks 26 = .ok (.iload_n 3, 1) := by decide +kernel
theorem dX1_necks_27 : decode cX1_necks 27 = .ok (.invokestatic 89, 3) := by decide +kernel
theorem dX1_necks_30 : decode cX1_necks 30 = .ok (.invokevirtual 106, 3) := by decide +kernel
theorem dX1_necks_33 : decode cX1_necks 33 = .ok (.iload_n 2, 1) := by decide +kernel
theorem dX1_necks_34 : decode cX1_necks 34 = .ok (.isub, 1) := by decide +kernel
theorem dX1_necks_35 : decode cX1_necks 35 = .ok (.iconst 3, 1) := by decide +kernel
theorem dX1_necks_36 : decode cX1_necks 36 = .ok (.if_icmp .lt 6, 3) := by decide +kernel
theorem dX1_necks_39 : decode cX1_necks 39 = .ok (.iinc 1 1, 3) := by decide +kernel
theorem dX1_necks_42 : decode cX1_necks 42 = .ok (.iinc 3 1, 3) := by decide +kernel
theorem dX1_necks_45 : decode cX1_necks 45 = .ok (.goto (-31), 3) := by decide +kernel
theorem dX1_necks_48 : decode cX1_necks 48 = .ok (.iinc 2 1, 3) := by decide +kernel
theorem dX1_necks_51 : decode cX1_necks 51 = .ok (.goto (-47), 3) := by decide +kernel
theorem dX1_necks_54 : decode cX1_necks 54 = .ok (.iload_n 1, 1) := by decide +kernel
theorem dX1_necks_55 : decode cX1_necks 55 = .ok (.ireturn, 1) := by decide +kernel
set_option maxRecDepth 20000 in
theorem ggX1_farthestAcross_X1_cellAt : GoodIn wsX1_farthestAcross wsX1_cellAt := goodIn_r _ [5, 6, 7, 8, 9, 4, 10, 11, 22, 23, 24, 25, 26, 27, 28, 29, 30, 31, 32, 33, 34, 35] (by decide +kernel) (by decide +kernel)
set_option maxRecDepth 20000 in
theorem gX1_farthestAcross_X1_cellAt : GoodIn wsX1_farthestAcross (wsV RX1 79 RX1 yX1_cellAt wsX1_cellAt) := goodIn_app (goodIn_of _ (by decide +kernel)) ggX1_farthestAcross_X1_cellAt
set_option maxRecDepth 20000 in
theorem ggX1_farthestAcross_X2_neighbour : GoodIn wsX1_farthestAcross wsX2_neighbour := goodIn_r _ [14] (by decide +kernel) (by decide +kernel)
set_option maxRecDepth 20000 in
theorem gX1_farthestAcross_X2_neighbour_n89 : GoodIn wsX1_farthestAcross (wsX2_neighbour) := ggX1_farthestAcross_X2_neighbour
set_option maxRecDepth 20000 in
theorem ggX1_farthestAcross_X1_placeOf : GoodIn wsX1_farthestAcross wsX1_placeOf := goodIn_r _ [18, 19, 20, 13, 21, 22, 23, 24, 25, 26, 27, 28, 29, 30, 31, 32, 33, 34, 35] (by decide +kernel) (by decide +kernel)
set_option maxRecDepth 20000 in
theorem gX1_farthestAcross_X1_placeOf : GoodIn wsX1_farthestAcross (wsV RX1 106 RX1 yX1_placeOf wsX1_placeOf) := goodIn_app (goodIn_of _ (by decide +kernel)) ggX1_farthestAcross_X1_placeOf
theorem dX1_farthestAcross_0 : decode cX1_farthestAcross 0 = .ok (.iconst (-1), 1) := by decide +kernel
theorem dX1_farthestAcross_1 : decode cX1_farthestAcross 1 = .ok (.istore_n 2, 1) := by decide +kernel
theorem dX1_farthestAcross_2 : decode cX1_farthestAcross 2 = .ok (.iconst 0, 1) := by decide +kernel
theorem dX1_farthestAcross_3 : decode cX1_farthestAcross 3 = .ok (.istore_n 3, 1) := by decide +kernel
theorem dX1_farthestAcross_4 : decode cX1_farthestAcross 4 = .ok (.iload_n 3, 1) := by decide +kernel
theorem dX1_farthestAcross_5 : decode cX1_farthestAcross 5 = .ok (.iconst 4, 1) := by decide +kernel
theorem dX1_farthestAcross_6 : decode cX1_farthestAcross 6 = .ok (.if_icmp .ge 41, 3) := by decide +kernel
theorem dX1_farthestAcross_9 : decode cX1_farthestAcross 9 = .ok (.aload_n 0, 1) := by decide +kernel
theorem dX1_farthestAcross_10 : decode cX1_farthestAcross 10 = .ok (.aload_n 0, 1) := by decide +kernel
theorem dX1_farthestAcross_11 : decode cX1_farthestAcross 11 = .ok (.iload_n 1, 1) := by decide +kernel
theorem dX1_farthestAcross_12 : decode cX1_farthestAcross 12 = .ok (.invokevirtual 79, 3) := by decide +kernel
theorem dX1_farthestAcross_15 : decode cX1_farthestAcross 15 = .ok (.iload_n 3, 1) := by decide +kernel
theorem dX1_farthestAcross_16 : decode cX1_farthestAcross 16 = .ok (.invokestatic 89, 3) := by decide +kernel
theorem dX1_farthestAcross_19 : decode cX1_farthestAcross 19 = .ok (.invokevirtual 106, 3) := by decide +kernel
theorem dX1_farthestAcross_22 : decode cX1_farthestAcross 22 = .ok (.istore 4, 2) := by decide +kernel
theorem dX1_farthestAcross_24 : decode cX1_farthestAcross 24 = .ok (.iload 4, 2) := by decide +kernel
theorem dX1_farthestAcross_26 : decode cX1_farthestAcross 26 = .ok (.iload_n 1, 1) := by decide +kernel
theorem dX1_farthestAcross_27 : decode cX1_farthestAcross 27 = .ok (.isub, 1) := by decide +kernel
theorem dX1_farthestAcross_28 : decode cX1_farthestAcross 28 = .ok (.iconst 3, 1) := by decide +kernel
theorem dX1_farthestAcross_29 : decode cX1_farthestAcross 29 = .ok (.if_icmp .lt 12, 3) := by decide +kernel
theorem dX1_farthestAcross_32 : decode cX1_farthestAcross 32 = .ok (.iload 4, 2) := by decide +kernel
theorem dX1_farthestAcross_34 : decode cX1_farthestAcross 34 = .ok (.iload_n 2, 1) := by decide +kernel
theorem dX1_farthestAcross_35 : decode cX1_farthestAcross 35 = .ok (.if_icmp .le 6, 3) := by decide +kernel
theorem dX1_farthestAcross_38 : decode cX1_farthestAcross 38 = .ok (.iload 4, 2) := by decide +kernel
theorem dX1_farthestAcross_40 : decode cX1_farthestAcross 40 = .ok (.istore_n 2, 1) := by decide +kernel
theorem dX1_farthestAcross_41 : decode cX1_farthestAcross 41 = .ok (.iinc 3 1, 3) := by decide +kernel
theorem dX1_farthestAcross_44 : decode cX1_farthestAcross 44 = .ok (.goto (-40), 3) := by decide +kernel
theorem dX1_farthestAcross_47 : decode cX1_farthestAcross 47 = .ok (.iload_n 2, 1) := by decide +kernel
theorem dX1_farthestAcross_48 : decode cX1_farthestAcross 48 = .ok (.ireturn, 1) := by decide +kernel
set_option maxRecDepth 20000 in
theorem ggX1_widestNeck_X1_farthestAcross : GoodIn wsX1_widestNeck wsX1_farthestAcross := goodIn_r _ [6, 7, 8, 9, 5, 10, 11, 12, 13, 14, 15, 1, 16, 17, 18, 19, 20, 21, 22, 23, 24, 25, 26, 27, 28, 29, 30, 31, 32, 33, 34, 35, 36, 37, 38, 39] (by decide +kernel) (by decide +kernel)
set_option maxRecDepth 20000 in
theorem gX1_widestNeck_X1_farthestAcross : GoodIn wsX1_widestNeck (wsV RX1 109 RX1 yX1_farthestAcross wsX1_farthestAcross) := goodIn_app (goodIn_of _ (by decide +kernel)) ggX1_widestNeck_X1_farthestAcross
theorem dX1_widestNeck_0 : decode cX1_widestNeck 0 = .ok (.iconst (-1), 1) := by decide +kernel
theorem dX1_widestNeck_1 : decode cX1_widestNeck 1 = .ok (.istore_n 1, 1) := by decide +kernel
theorem dX1_widestNeck_2 : decode cX1_widestNeck 2 = .ok (.iconst 0, 1) := by decide +kernel
theorem dX1_widestNeck_3 : decode cX1_widestNeck 3 = .ok (.istore_n 2, 1) := by decide +kernel
theorem dX1_widestNeck_4 : decode cX1_widestNeck 4 = .ok (.iconst 0, 1) := by decide +kernel
theorem dX1_widestNeck_5 : decode cX1_widestNeck 5 = .ok (.istore_n 3, 1) := by decide +kernel
theorem dX1_widestNeck_6 : decode cX1_widestNeck 6 = .ok (.iload_n 3, 1) := by decide +kernel
theorem dX1_widestNeck_7 : decode cX1_widestNeck 7 = .ok (.aload_n 0, 1) := by decide +kernel
theorem dX1_widestNeck_8 : decode cX1_widestNeck 8 = .ok (.getfield 46, 3) := by decide +kernel
theorem dX1_widestNeck_11 : decode cX1_widestNeck 11 = .ok (.if_icmp .ge 29, 3) := by decide +kernel
theorem dX1_widestNeck_14 : decode cX1_widestNeck 14 = .ok (.aload_n 0, 1) := by decide +kernel
theorem dX1_widestNeck_15 : decode cX1_widestNeck 15 = .ok (.iload_n 3, 1) := by decide +kernel
theorem dX1_widestNeck_16 : decode cX1_widestNeck 16 = .ok (.invokevirtual 109, 3) := by decide +kernel
theorem dX1_widestNeck_19 : decode cX1_widestNeck 19 = .ok (.iload_n 3, 1) := by decide +kernel
theorem dX1_widestNeck_20 : decode cX1_widestNeck 20 = .ok (.isub, 1) := by decide +kernel
theorem dX1_widestNeck_21 : decode cX1_widestNeck 21 = .ok (.istore 4, 2) := by decide +kernel
theorem dX1_widestNeck_23 : decode cX1_widestNeck 23 = .ok (.iload 4, 2) := by decide +kernel
theorem dX1_widestNeck_25 : decode cX1_widestNeck 25 = .ok (.iload_n 2, 1) := by decide +kernel
theorem dX1_widestNeck_26 : decode cX1_widestNeck 26 = .ok (.if_icmp .le 8, 3) := by decide +kernel
theorem dX1_widestNeck_29 : decode cX1_widestNeck 29 = .ok (.iload 4, 2) := by decide +kernel
theorem dX1_widestNeck_31 : decode cX1_widestNeck 31 = .ok (.istore_n 2, 1) := by decide +kernel
theorem dX1_widestNeck_32 : decode cX1_widestNeck 32 = .ok (.iload_n 3, 1) := by decide +kernel
theorem dX1_widestNeck_33 : decode cX1_widestNeck 33 = .ok (.istore_n 1, 1) := by decide +kernel
theorem dX1_widestNeck_34 : decode cX1_widestNeck 34 = .ok (.iinc 3 1, 3) := by decide +kernel
theorem dX1_widestNeck_37 : decode cX1_widestNeck 37 = .ok (.goto (-31), 3) := by decide +kernel
theorem dX1_widestNeck_40 : decode cX1_widestNeck 40 = .ok (.iload_n 1, 1) := by decide +kernel
theorem dX1_widestNeck_41 : decode cX1_widestNeck 41 = .ok (.ireturn, 1) := by decide +kernel
set_option maxRecDepth 20000 in
theorem ggX1_breakThrough_X1_isNeck : GoodIn wsX1_breakThrough wsX1_isNeck := goodIn_r _ [15, 4, 16, 17, 18, 14, 19, 5, 20, 21, 22, 23, 24, 25, 47, 48, 49, 50, 51, 52, 53, 54, 55, 56, 57, 58, 59, 60] (by decide +kernel) (by decide +kernel)
set_option maxRecDepth 20000 in
theorem gX1_breakThrough_X1_isNeck : GoodIn wsX1_breakThrough (wsV RX1 112 RX1 yX1_isNeck wsX1_isNeck) := goodIn_app (goodIn_of _ (by decide +kernel)) ggX1_breakThrough_X1_isNeck
set_option maxRecDepth 20000 in
theorem ggX1_breakThrough_X1_cellAt : GoodIn wsX1_breakThrough wsX1_cellAt := goodIn_r _ [29, 4, 16, 17, 18, 14, 19, 5, 47, 48, 49, 50, 51, 52, 53, 54, 55, 56, 57, 58, 59, 60] (by decide +kernel) (by decide +kernel)
set_option maxRecDepth 20000 in
theorem gX1_breakThrough_X1_cellAt : GoodIn wsX1_breakThrough (wsV RX1 79 RX1 yX1_cellAt wsX1_cellAt) := goodIn_app (goodIn_of _ (by decide +kernel)) ggX1_breakThrough_X1_cellAt
set_option maxRecDepth 20000 in
theorem ggX1_breakThrough_X2_isCell : GoodIn wsX1_breakThrough wsX2_isCell := goodIn_r _ [31] (by decide +kernel) (by decide +kernel)
set_option maxRecDepth 20000 in
theorem gX1_breakThrough_X2_isCell_n70 : GoodIn wsX1_breakThrough (wsX2_isCell) := ggX1_breakThrough_X2_isCell
set_option maxRecDepth 20000 in
theorem ggX1_breakThrough_X1_followCourse : GoodIn wsX1_breakThrough wsX1_followCourse := goodIn_r _ [35, 36, 37, 38, 39, 5, 4, 1, 40, 30, 21, 31, 26, 27, 28, 14, 29, 16, 17, 18, 19, 20, 22, 23, 24, 25, 41, 42, 43, 44, 45, 46, 47, 48, 49, 50, 51, 52, 53, 54, 55, 56, 57, 58, 59, 60] (by decide +kernel) (by decide +kernel)
set_option maxRecDepth 20000 in
theorem gX1_breakThrough_X1_followCourse : GoodIn wsX1_breakThrough (wsV RX1 50 RX1 yX1_followCourse wsX1_followCourse) := goodIn_app (goodIn_of _ (by decide +kernel)) ggX1_breakThrough_X1_followCourse
theorem dX1_breakThrough_0 : decode cX1_breakThrough 0 = .ok (.aload_n 0, 1) := by decide +kernel
theorem dX1_breakThrough_1 : decode cX1_breakThrough 1 = .ok (.iload_n 1, 1) := by decide +kernel
theorem dX1_breakThrough_2 : decode cX1_breakThrough 2 = .ok (.iload_n 2, 1) := by decide +kernel
theorem dX1_breakThrough_3 : decode cX1_breakThrough 3 = .ok (.invokevirtual 112, 3) := by decide +kernel
theorem dX1_breakThrough_6 : decode cX1_breakThrough 6 = .ok (.ifCond .ne 4, 3) := by decide +kernel
theorem dX1_breakThrough_9 : decode cX1_breakThrough 9 = .ok (.return_, 1) := by decide +kernel
theorem dX1_breakThrough_10 : decode cX1_breakThrough 10 = .ok (.iload_n 1, 1) := by decide +kernel
theorem dX1_breakThrough_11 : decode cX1_breakThrough 11 = .ok (.iconst 1, 1) := by decide +kernel
theorem dX1_breakThrough_12 : decode cX1_breakThrough 12 = .ok (.iadd, 1) := by decide +kernel
theorem dX1_breakThrough_13 : decode cX1_breakThrough 13 = .ok (.istore_n 3, 1) := by decide +kernel
theorem dX1_breakThrough_14 : decode cX1_breakThrough 14 = .ok (.iload_n 3, 1) := by decide +kernel
theorem dX1_breakThrough_15 : decode cX1_breakThrough 15 = .ok (.iload_n 2, 1) := by decide +kernel
theorem dX1_breakThrough_16 : decode cX1_breakThrough 16 = .ok (.if_icmp .ge 46, 3) := by decide +kernel
theorem dX1_breakThrough_19 : decode cX1_breakThrough 19 = .ok (.aload_n 0, 1) := by decide +kernel
theorem dX1_breakThrough_20 : decode cX1_breakThrough 20 = .ok (.iload_n 3, 1) := by decide +kernel
theorem dX1_breakThrough_21 : decode cX1_breakThrough 21 = .ok (.invokevirtual 79, 3) := by decide +kernel
theorem dX1_breakThrough_24 : decode cX1_breakThrough 24 = .ok (.istore 4, 2) := by decide +kernel
theorem dX1_breakThrough_26 : decode cX1_breakThrough 26 = .ok (.iload 4, 2) := by decide +kernel
theorem dX1_breakThrough_28 : decode cX1_breakThrough 28 = .ok (.invokestatic 70, 3) := by decide +kernel
theorem dX1_breakThrough_31 : decode cX1_breakThrough 31 = .ok (.ifCond .eq 25, 3) := by decide +kernel
theorem dX1_breakThrough_34 : decode cX1_breakThrough 34 = .ok (.aload_n 0, 1) := by decide +kernel
theorem dX1_breakThrough_35 : decode cX1_breakThrough 35 = .ok (.getfield 34, 3) := by decide +kernel
theorem dX1_breakThrough_38 : decode cX1_breakThrough 38 = .ok (.iload 4, 2) := by decide +kernel
theorem dX1_breakThrough_40 : decode cX1_breakThrough 40 = .ok (.iconst (-1), 1) := by decide +kernel
theorem dX1_breakThrough_41 : decode cX1_breakThrough 41 = .ok (.iastore, 1) := by decide +kernel
theorem dX1_breakThrough_42 : decode cX1_breakThrough 42 = .ok (.aload_n 0, 1) := by decide +kernel
theorem dX1_breakThrough_43 : decode cX1_breakThrough 43 = .ok (.getfield 22, 3) := by decide +kernel
theorem dX1_breakThrough_46 : decode cX1_breakThrough 46 = .ok (.iload 4, 2) := by decide +kernel
theorem dX1_breakThrough_48 : decode cX1_breakThrough 48 = .ok (.aload_n 0, 1) := by decide +kernel
theorem dX1_breakThrough_49 : decode cX1_breakThrough 49 = .ok (.getfield 60, 3) := by decide +kernel
theorem dX1_breakThrough_52 : decode cX1_breakThrough 52 = .ok (.bipush 10, 2) := by decide +kernel
theorem dX1_breakThrough_54 : decode cX1_breakThrough 54 = .ok (.iadd, 1) := by decide +kernel
theorem dX1_breakThrough_55 : decode cX1_breakThrough 55 = .ok (.iastore, 1) := by decide +kernel
theorem dX1_breakThrough_56 : decode cX1_breakThrough 56 = .ok (.iinc 3 1, 3) := by decide +kernel
theorem dX1_breakThrough_59 : decode cX1_breakThrough 59 = .ok (.goto (-45), 3) := by decide +kernel
theorem dX1_breakThrough_62 : decode cX1_breakThrough 62 = .ok (.aload_n 0, 1) := by decide +kernel
theorem dX1_breakThrough_63 : decode cX1_breakThrough 63 = .ok (.getfield 31, 3) := by decide +kernel
theorem dX1_breakThrough_66 : decode cX1_breakThrough 66 = .ok (.iload_n 2, 1) := by decide +kernel
theorem dX1_breakThrough_67 : decode cX1_breakThrough 67 = .ok (.aload_n 0, 1) := by decide +kernel
theorem dX1_breakThrough_68 : decode cX1_breakThrough 68 = .ok (.getfield 31, 3) := by decide +kernel
theorem dX1_breakThrough_71 : decode cX1_breakThrough 71 = .ok (.iload_n 1, 1) := by decide +kernel
theorem dX1_breakThrough_72 : decode cX1_breakThrough 72 = .ok (.iconst 1, 1) := by decide +kernel
theorem dX1_breakThrough_73 : decode cX1_breakThrough 73 = .ok (.iadd, 1) := by decide +kernel
theorem dX1_breakThrough_74 : decode cX1_breakThrough 74 = .ok (.aload_n 0, 1) := by decide +kernel
theorem dX1_breakThrough_75 : decode cX1_breakThrough 75 = .ok (.getfield 46, 3) := by decide +kernel
theorem dX1_breakThrough_78 : decode cX1_breakThrough 78 = .ok (.iload_n 2, 1) := by decide +kernel
theorem dX1_breakThrough_79 : decode cX1_breakThrough 79 = .ok (.isub, 1) := by decide +kernel
theorem dX1_breakThrough_80 : decode cX1_breakThrough 80 = .ok (.invokestatic 54, 3) := by decide +kernel
theorem dX1_breakThrough_83 : decode cX1_breakThrough 83 = .ok (.aload_n 0, 1) := by decide +kernel
theorem dX1_breakThrough_84 : decode cX1_breakThrough 84 = .ok (.dup, 1) := by decide +kernel
theorem dX1_breakThrough_85 : decode cX1_breakThrough 85 = .ok (.getfield 46, 3) := by decide +kernel
theorem dX1_breakThrough_88 : decode cX1_breakThrough 88 = .ok (.iload_n 2, 1) := by decide +kernel
theorem dX1_breakThrough_89 : decode cX1_breakThrough 89 = .ok (.iload_n 1, 1) := by decide +kernel
theorem dX1_breakThrough_90 : decode cX1_breakThrough 90 = .ok (.isub, 1) := by decide +kernel
theorem dX1_breakThrough_91 : decode cX1_breakThrough 91 = .ok (.iconst 1, 1) := by decide +kernel
theorem dX1_breakThrough_92 : decode cX1_breakThrough 92 = .ok (.isub, 1) := by decide +kernel
theorem dX1_breakThrough_93 : decode cX1_breakThrough 93 = .ok (.isub, 1) := by decide +kernel
theorem dX1_breakThrough_94 : decode cX1_breakThrough 94 = .ok (.putfield 46, 3) := by decide +kernel
theorem dX1_breakThrough_97 : decode cX1_breakThrough 97 = .ok (.aload_n 0, 1) := by decide +kernel
theorem dX1_breakThrough_98 : decode cX1_breakThrough 98 = .ok (.dup, 1) := by decide +kernel
theorem dX1_breakThrough_99 : decode cX1_breakThrough 99 = .ok (.getfield 63, 3) := by decide +kernel
theorem dX1_breakThrough_102 : decode cX1_breakThrough 102 = .ok (.iconst 1, 1) := by decide +kernel
theorem dX1_breakThrough_103 : decode cX1_breakThrough 103 = .ok (.iadd, 1) := by decide +kernel
theorem dX1_breakThrough_104 : decode cX1_breakThrough 104 = .ok (.putfield 63, 3) := by decide +kernel
theorem dX1_breakThrough_107 : decode cX1_breakThrough 107 = .ok (.aload_n 0, 1) := by decide +kernel
theorem dX1_breakThrough_108 : decode cX1_breakThrough 108 = .ok (.iload_n 1, 1) := by decide +kernel
theorem dX1_breakThrough_109 : decode cX1_breakThrough 109 = .ok (.iconst 1, 1) := by decide +kernel
theorem dX1_breakThrough_110 : decode cX1_breakThrough 110 = .ok (.iadd, 1) := by decide +kernel
theorem dX1_breakThrough_111 : decode cX1_breakThrough 111 = .ok (.invokevirtual 50, 3) := by decide +kernel
theorem dX1_breakThrough_114 : decode cX1_breakThrough 114 = .ok (.return_, 1) := by decide +kernel
set_option maxRecDepth 20000 in
theorem ggX1_letPass_J9_floorMod_7cf53 : GoodIn wsX1_letPass wsJ9_floorMod_7cf53 := goodIn_r _ [6] (by decide +kernel) (by decide +kernel)
set_option maxRecDepth 20000 in
theorem gX1_letPass_J9_floorMod_7cf53 : GoodIn wsX1_letPass (va_wsS RX1 115 yJ9_floorMod_7cf53 wsJ9_floorMod_7cf53) := goodIn_app (goodIn_of _ (by decide +kernel)) ggX1_letPass_J9_floorMod_7cf53
set_option maxRecDepth 20000 in
theorem ggX1_letPass_X1_wearBanks : GoodIn wsX1_letPass wsX1_wearBanks := goodIn_r _ [11, 12, 13, 14, 15, 16, 17, 10, 18, 19, 20, 21, 22, 23, 104, 105, 106, 107, 108, 109, 110, 111, 112, 113, 114, 115, 116, 117] (by decide +kernel) (by decide +kernel)
set_option maxRecDepth 20000 in
theorem gX1_letPass_X1_wearBanks : GoodIn wsX1_letPass (wsV RX1 118 RX1 yX1_wearBanks wsX1_wearBanks) := goodIn_app (goodIn_of _ (by decide +kernel)) ggX1_letPass_X1_wearBanks
set_option maxRecDepth 20000 in
theorem ggX1_letPass_X1_bulgeWhereRipest : GoodIn wsX1_letPass wsX1_bulgeWhereRipest := goodIn_r _ [27, 12, 13, 14, 28, 29, 21, 22, 23, 30, 31, 32, 10, 33, 34, 35, 36, 37, 38, 39, 40, 41, 42, 43, 44, 45, 46, 47, 48, 49, 15, 16, 17, 18, 19, 20, 50, 51, 52, 53, 54, 55, 56, 57, 58, 59, 60, 61, 62, 63, 64, 65, 66, 67, 68, 69, 70, 71, 72, 73, 74, 75, 76, 77, 78, 104, 105, 106, 107, 108, 109, 110, 111, 112, 113, 114, 115, 116, 117] (by decide +kernel) (by decide +kernel)
set_option maxRecDepth 20000 in
theorem gX1_letPass_X1_bulgeWhereRipest : GoodIn wsX1_letPass (wsV RX1 121 RX1 yX1_bulgeWhereRipest wsX1_bulgeWhereRipest) := goodIn_app (goodIn_of _ (by decide +kernel)) ggX1_letPass_X1_bulgeWhereRipest
set_option maxRecDepth 20000 in
theorem ggX1_letPass_X1_flood : GoodIn wsX1_letPass wsX1_flood := goodIn_r _ [82, 83, 84, 85, 10, 86, 12, 87, 88, 89, 90, 43, 44, 45, 46, 47, 39, 40, 41, 42, 48, 22, 49, 91, 92, 93, 94, 19, 21, 23, 95, 96, 97, 98, 62, 2, 54, 55, 56, 57, 99, 100, 101, 102, 103, 72, 73, 74, 64, 65, 66, 67, 68, 69, 70, 71, 34, 75, 76, 77, 78, 29, 13, 104, 105, 106, 107, 108, 109, 110, 111, 112, 113, 114, 115, 116, 117] (by decide +kernel) (by decide +kernel)
set_option maxRecDepth 20000 in
theorem gX1_letPass_X1_flood : GoodIn wsX1_letPass (wsV RX1 125 RX1 yX1_flood wsX1_flood) := goodIn_app (goodIn_of _ (by decide +kernel)) ggX1_letPass_X1_flood
theorem dX1_letPass_0 : decode cX1_letPass 0 = .ok (.iconst 0, 1) := by decide +kernel
theorem dX1_letPass_1 : decode cX1_letPass 1 = .ok (.istore_n 2, 1) := by decide +kernel
theorem dX1_letPass_2 : decode cX1_letPass 2 = .ok (.iconst 0, 1) := by decide +kernel
theorem dX1_letPass_3 : decode cX1_letPass 3 = .ok (.istore_n 3, 1) := by decide +kernel
theorem dX1_letPass_4 : decode cX1_letPass 4 = .ok (.iload_n 3, 1) := by decide +kernel
theorem dX1_letPass_5 : decode cX1_letPass 5 = .ok (.iload_n 1, 1) := by decide +kernel
theorem dX1_letPass_6 : decode cX1_letPass 6 = .ok (.if_icmp .ge 62, 3) := by decide +kernel
theorem dX1_letPass_9 : decode cX1_letPass 9 = .ok (.aload_n 0, 1) := by decide +kernel
theorem dX1_letPass_10 : decode cX1_letPass 10 = .ok (.getfield 28, 3) := by decide +kernel
theorem dX1_letPass_13 : decode cX1_letPass 13 = .ok (.aload_n 0, 1) := by decide +kernel
theorem dX1_letPass_14 : decode cX1_letPass 14 = .ok (.getfield 60, 3) := by decide +kernel
theorem dX1_letPass_17 : decode cX1_letPass 17 = .ok (.bipush 12, 2) := by decide +kernel
theorem dX1_letPass_19 : decode cX1_letPass 19 = .ok (.invokestatic 115, 3) := by decide +kernel
theorem dX1_letPass_22 : decode cX1_letPass 22 = .ok (.iaload, 1) := by decide +kernel
theorem dX1_letPass_23 : decode cX1_letPass 23 = .ok (.istore 4, 2) := by decide +kernel
theorem dX1_letPass_25 : decode cX1_letPass 25 = .ok (.aload_n 0, 1) := by decide +kernel
theorem dX1_letPass_26 : decode cX1_letPass 26 = .ok (.iload 4, 2) := by decide +kernel
theorem dX1_letPass_28 : decode cX1_letPass 28 = .ok (.invokevirtual 118, 3) := by decide +kernel
theorem dX1_letPass_31 : decode cX1_letPass 31 = .ok (.aload_n 0, 1) := by decide +kernel
theorem dX1_letPass_32 : decode cX1_letPass 32 = .ok (.invokevirtual 121, 3) := by decide +kernel
theorem dX1_letPass_35 : decode cX1_letPass 35 = .ok (.ifCond .eq 6, 3) := by decide +kernel
theorem dX1_letPass_38 : decode cX1_letPass 38 = .ok (.iinc 2 1, 3) := by decide +kernel
theorem dX1_letPass_41 : decode cX1_letPass 41 = .ok (.iload 4, 2) := by decide +kernel
theorem dX1_letPass_43 : decode cX1_letPass 43 = .ok (.bipush 7, 2) := by decide +kernel
theorem dX1_letPass_45 : decode cX1_letPass 45 = .ok (.if_icmp .lt 7, 3) := by decide +kernel
theorem dX1_letPass_48 : decode cX1_letPass 48 = .ok (.aload_n 0, 1) := by decide +kernel
theorem dX1_letPass_49 : decode cX1_letPass 49 = .ok (.invokevirtual 125, 3) := by decide +kernel
theorem dX1_letPass_52 : decode cX1_letPass 52 = .ok (.aload_n 0, 1) := by decide +kernel
theorem dX1_letPass_53 : decode cX1_letPass 53 = .ok (.dup, 1) := by decide +kernel
theorem dX1_letPass_54 : decode cX1_letPass 54 = .ok (.getfield 60, 3) := by decide +kernel
theorem dX1_letPass_57 : decode cX1_letPass 57 = .ok (.iconst 1, 1) := by decide +kernel
theorem dX1_letPass_58 : decode cX1_letPass 58 = .ok (.iadd, 1) := by decide +kernel
theorem dX1_letPass_59 : decode cX1_letPass 59 = .ok (.putfield 60, 3) := by decide +kernel
theorem dX1_letPass_62 : decode cX1_letPass 62 = .ok (.iinc 3 1, 3) := by decide +kernel
theorem dX1_letPass_65 : decode cX1_letPass 65 = .ok (.goto (-61), 3) := by decide +kernel
theorem dX1_letPass_68 : decode cX1_letPass 68 = .ok (.iload_n 2, 1) := by decide +kernel
theorem dX1_letPass_69 : decode cX1_letPass 69 = .ok (.ireturn, 1) := by decide +kernel
set_option maxRecDepth 20000 in
theorem ggX1_wearBanks_X1_isOpen : GoodIn wsX1_wearBanks wsX1_isOpen := goodIn_r _ [8, 9, 10, 11, 12, 13, 14, 15, 16, 17, 18, 19, 20, 21, 22, 23, 24, 25, 26, 27] (by decide +kernel) (by decide +kernel)
set_option maxRecDepth 20000 in
theorem gX1_wearBanks_X1_isOpen : GoodIn wsX1_wearBanks (wsV RX1 95 RX1 yX1_isOpen wsX1_isOpen) := goodIn_app (goodIn_of _ (by decide +kernel)) ggX1_wearBanks_X1_isOpen
theorem dX1_wearBanks_0 : decode cX1_wearBanks 0 = .ok (.iconst 0, 1) := by decide +kernel
theorem dX1_wearBanks_1 : decode cX1_wearBanks 1 = .ok (.istore_n 2, 1) := by decide +kernel
theorem dX1_wearBanks_2 : decode cX1_wearBanks 2 = .ok (.iload_n 2, 1) := by decide +kernel
theorem dX1_wearBanks_3 : decode cX1_wearBanks 3 = .ok (.aload_n 0, 1) := by decide +kernel
theorem dX1_wearBanks_4 : decode cX1_wearBanks 4 = .ok (.getfield 46, 3) := by decide +kernel
theorem dX1_wearBanks_7 : decode cX1_wearBanks 7 = .ok (.if_icmp .ge 34, 3) := by decide +kernel
theorem dX1_wearBanks_10 : decode cX1_wearBanks 10 = .ok (.aload_n 0, 1) := by decide +kernel
theorem dX1_wearBanks_11 : decode cX1_wearBanks 11 = .ok (.getfield 43, 3) := by decide +kernel
theorem dX1_wearBanks_14 : decode cX1_wearBanks 14 = .ok (.iload_n 2, 1) := by decide +kernel
theorem dX1_wearBanks_15 : decode cX1_wearBanks 15 = .ok (.iaload, 1) := by decide +kernel
theorem dX1_wearBanks_16 : decode cX1_wearBanks 16 = .ok (.istore_n 3, 1) := by decide +kernel
theorem dX1_wearBanks_17 : decode cX1_wearBanks 17 = .ok (.aload_n 0, 1) := by decide +kernel
theorem dX1_wearBanks_18 : decode cX1_wearBanks 18 = .ok (.iload_n 3, 1) := by decide +kernel
theorem dX1_wearBanks_19 : decode cX1_wearBanks 19 = .ok (.invokevirtual 95, 3) := by decide +kernel
theorem dX1_wearBanks_22 : decode cX1_wearBanks 22 = .ok (.ifCond .eq 13, 3) := by decide +kernel
theorem dX1_wearBanks_25 : decode cX1_wearBanks 25 = .ok (.aload_n 0, 1) := by decide +kernel
theorem dX1_wearBanks_26 : decode cX1_wearBanks 26 = .ok (.getfield 15, 3) := by decide +kernel
theorem dX1_wearBanks_29 : decode cX1_wearBanks 29 = .ok (.iload_n 3, 1) := by decide +kernel
theorem dX1_wearBanks_30 : decode cX1_wearBanks 30 = .ok (.dup2, 1) := by decide +kernel
theorem dX1_wearBanks_31 : decode cX1_wearBanks 31 = .ok (.iaload, 1) := by decide +kernel
theorem dX1_wearBanks_32 : decode cX1_wearBanks 32 = .ok (.iload_n 1, 1) := by decide +kernel
theorem dX1_wearBanks_33 : decode cX1_wearBanks 33 = .ok (.iadd, 1) := by decide +kernel
theorem dX1_wearBanks_34 : decode cX1_wearBanks 34 = .ok (.iastore, 1) := by decide +kernel
theorem dX1_wearBanks_35 : decode cX1_wearBanks 35 = .ok (.iinc 2 1, 3) := by decide +kernel
theorem dX1_wearBanks_38 : decode cX1_wearBanks 38 = .ok (.goto (-36), 3) := by decide +kernel
theorem dX1_wearBanks_41 : decode cX1_wearBanks 41 = .ok (.return_, 1) := by decide +kernel
set_option maxRecDepth 20000 in
theorem ggX1_bulgeWhereRipest_X2_isCell : GoodIn wsX1_bulgeWhereRipest wsX2_isCell := goodIn_r _ [8] (by decide +kernel) (by decide +kernel)
set_option maxRecDepth 20000 in
theorem gX1_bulgeWhereRipest_X2_isCell_n70 : GoodIn wsX1_bulgeWhereRipest (wsX2_isCell) := ggX1_bulgeWhereRipest_X2_isCell
set_option maxRecDepth 20000 in
theorem ggX1_bulgeWhereRipest_X1_canBulge : GoodIn wsX1_bulgeWhereRipest wsX1_canBulge := goodIn_r _ [13, 1, 14, 15, 16, 17, 12, 18, 19, 20, 21, 22, 23, 24, 25, 26, 27, 28, 7, 29, 30, 31, 32, 33, 34, 35, 6, 8, 65, 66, 67, 68, 69, 70, 71, 72, 73, 74, 75, 76, 77, 78] (by decide +kernel) (by decide +kernel)
set_option maxRecDepth 20000 in
theorem gX1_bulgeWhereRipest_X1_canBulge : GoodIn wsX1_bulgeWhereRipest (wsV RX1 98 RX1 yX1_canBulge wsX1_canBulge) := goodIn_app (goodIn_of _ (by decide +kernel)) ggX1_bulgeWhereRipest_X1_canBulge
set_option maxRecDepth 20000 in
theorem ggX1_bulgeWhereRipest_X1_bulge : GoodIn wsX1_bulgeWhereRipest wsX1_bulge := goodIn_r _ [39, 34, 27, 1, 40, 41, 42, 43, 9, 10, 11, 12, 13, 14, 15, 16, 17, 18, 19, 20, 21, 22, 23, 24, 25, 26, 28, 7, 29, 30, 31, 32, 33, 35, 6, 8, 44, 45, 46, 47, 3, 48, 49, 50, 51, 52, 53, 54, 55, 56, 57, 58, 59, 60, 61, 62, 63, 64, 5, 2, 65, 66, 67, 68, 69, 70, 71, 72, 73, 74, 75, 76, 77, 78] (by decide +kernel) (by decide +kernel)
set_option maxRecDepth 20000 in
theorem gX1_bulgeWhereRipest_X1_bulge : GoodIn wsX1_bulgeWhereRipest (wsV RX1 128 RX1 yX1_bulge wsX1_bulge) := goodIn_app (goodIn_of _ (by decide +kernel)) ggX1_bulgeWhereRipest_X1_bulge
theorem dX1_bulgeWhereRipest_0 : decode cX1_bulgeWhereRipest 0 = .ok (.iconst (-1), 1) := by decide +kernel
theorem dX1_bulgeWhereRipest_1 : decode cX1_bulgeWhereRipest 1 = .ok (.istore_n 1, 1) := by decide +kernel
theorem dX1_bulgeWhereRipest_2 : decode cX1_bulgeWhereRipest 2 = .ok (.iconst (-1), 1) := by decide +kernel
theorem dX1_bulgeWhereRipest_3 : decode cX1_bulgeWhereRipest 3 = .ok (.istore_n 2, 1) := by decide +kernel
theorem dX1_bulgeWhereRipest_4 : decode cX1_bulgeWhereRipest 4 = .ok (.iconst 0, 1) := by decide +kernel
theorem dX1_bulgeWhereRipest_5 : decode cX1_bulgeWhereRipest 5 = .ok (.istore_n 3, 1) := by decide +kernel
theorem dX1_bulgeWhereRipest_6 : decode cX1_bulgeWhereRipest 6 = .ok (.iload_n 3, 1) := by decide +kernel
theorem dX1_bulgeWhereRipest_7 : decode cX1_bulgeWhereRipest 7 = .ok (.aload_n 0, 1) := by decide +kernel
theorem dX1_bulgeWhereRipest_8 : decode cX1_bulgeWhereRipest 8 = .ok (.getfield 46, 3) := by decide +kernel
theorem dX1_bulgeWhereRipest_11 : decode cX1_bulgeWhereRipest 11 = .ok (.if_icmp .ge 75, 3) := by decide +kernel
theorem dX1_bulgeWhereRipest_14 : decode cX1_bulgeWhereRipest 14 = .ok (.aload_n 0, 1) := by decide +kernel
theorem dX1_bulgeWhereRipest_15 : decode cX1_bulgeWhereRipest 15 = .ok (.getfield 43, 3) := by decide +kernel
theorem dX1_bulgeWhereRipest_18 : decode cX1_bulgeWhereRipest 18 = .ok (.iload_n 3, 1) := by decide +kernel
theorem dX1_bulgeWhereRipest_19 : decode cX1_bulgeWhereRipest 19 = .ok (.iaload, 1) := by decide +kernel
theorem dX1_bulgeWhereRipest_20 : decode cX1_bulgeWhereRipest 20 = .ok (.istore 4, 2) := by decide +kernel
theorem dX1_bulgeWhereRipest_22 : decode cX1_bulgeWhereRipest 22 = .ok (.iload 4, 2) := by decide +kernel
theorem dX1_bulgeWhereRipest_24 : decode cX1_bulgeWhereRipest 24 = .ok (.invokestatic 70, 3) := by decide +kernel
theorem dX1_bulgeWhereRipest_27 : decode cX1_bulgeWhereRipest 27 = .ok (.ifCond .eq 53, 3) := by decide +kernel
theorem dX1_bulgeWhereRipest_30 : decode cX1_bulgeWhereRipest 30 = .ok (.aload_n 0, 1) := by decide +kernel
theorem dX1_bulgeWhereRipest_31 : decode cX1_bulgeWhereRipest 31 = .ok (.getfield 15, 3) := by decide +kernel
theorem dX1_bulgeWhereRipest_34 : decode cX1_bulgeWhereRipest 34 = .ok (.iload 4, 2) := by decide +kernel
theorem dX1_bulgeWhereRipest_36 : decode cX1_bulgeWhereRipest 36 = .ok (.iaload, 1) := by decide +kernel
theorem dX1_bulgeWhereRipest_37 : decode cX1_bulgeWhereRipest 37 = .ok (.bipush 10, 2) := by decide +kernel
theorem dX1_bulgeWhereRipest_39 : decode cX1_bulgeWhereRipest 39 = .ok (.aload_n 0, 1) := by decide +kernel
theorem dX1_bulgeWhereRipest_40 : decode cX1_bulgeWhereRipest 40 = .ok (.getfield 9, 3) := by decide +kernel
theorem dX1_bulgeWhereRipest_43 : decode cX1_bulgeWhereRipest 43 = .ok (.iload 4, 2) := by decide +kernel
theorem dX1_bulgeWhereRipest_45 : decode cX1_bulgeWhereRipest 45 = .ok (.iaload, 1) := by decide +kernel
theorem dX1_bulgeWhereRipest_46 : decode cX1_bulgeWhereRipest 46 = .ok (.imul, 1) := by decide +kernel
theorem dX1_bulgeWhereRipest_47 : decode cX1_bulgeWhereRipest 47 = .ok (.isub, 1) := by decide +kernel
theorem dX1_bulgeWhereRipest_48 : decode cX1_bulgeWhereRipest 48 = .ok (.istore 5, 2) := by decide +kernel
theorem dX1_bulgeWhereRipest_50 : decode cX1_bulgeWhereRipest 50 = .ok (.iload 5, 2) := by decide +kernel
theorem dX1_bulgeWhereRipest_52 : decode cX1_bulgeWhereRipest 52 = .ok (.ifCond .lt 28, 3) := by decide +kernel
theorem dX1_bulgeWhereRipest_55 : decode cX1_bulgeWhereRipest 55 = .ok (.iload 5, 2) := by decide +kernel
theorem dX1_bulgeWhereRipest_57 : decode cX1_bulgeWhereRipest 57 = .ok (.iload_n 2, 1) := by decide +kernel
theorem dX1_bulgeWhereRipest_58 : decode cX1_bulgeWhereRipest 58 = .ok (.if_icmp .le 22, 3) := by decide +kernel
theorem dX1_bulgeWhereRipest_61 : decode cX1_bulgeWhereRipest 61 = .ok (.aload_n 0, 1) := by decide +kernel
theorem dX1_bulgeWhereRipest_62 : decode cX1_bulgeWhereRipest 62 = .ok (.iload_n 3, 1) := by decide +kernel
theorem dX1_bulgeWhereRipest_63 : decode cX1_bulgeWhereRipest 63 = .ok (.aload_n 0, 1) := by decide +kernel
theorem dX1_bulgeWhereRipest_64 : decode cX1_bulgeWhereRipest 64 = .ok (.getfield 40, 3) := by decide +kernel
theorem dX1_bulgeWhereRipest_67 : decode cX1_bulgeWhereRipest 67 = .ok (.iload_n 3, 1) := by decide +kernel
theorem dX1_bulgeWhereRipest_68 : decode cX1_bulgeWhereRipest 68 = .ok (.iaload, 1) := by decide +kernel
theorem dX1_bulgeWhereRipest_69 : decode cX1_bulgeWhereRipest 69 = .ok (.invokevirtual 98, 3) := by decide +kernel
theorem dX1_bulgeWhereRipest_72 : decode cX1_bulgeWhereRipest 72 = .ok (.ifCond .eq 8, 3) := by decide +kernel
theorem dX1_bulgeWhereRipest_75 : decode cX1_bulgeWhereRipest 75 = .ok (.iload 5, 2) := by decide +kernel
theorem dX1_bulgeWhereRipest_77 : decode cX1_bulgeWhereRipest 77 = .ok (.istore_n 2, 1) := by decide +kernel
theorem dX1_bulgeWhereRipest_78 : decode cX1_bulgeWhereRipest 78 = .ok (.iload_n 3, 1) := by decide +kernel
theorem dX1_bulgeWhereRipest_79 : decode cX1_bulgeWhereRipest 79 = .ok (.istore_n 1, 1) := by decide +kernel
theorem dX1_bulgeWhereRipest_80 : decode cX1_bulgeWhereRipest 80 = .ok (.iinc 3 1, 3) := by decide +kernel
theorem dX1_bulgeWhereRipest_83 : decode cX1_bulgeWhereRipest 83 = .ok (.goto (-77), 3) := by decide +kernel
theorem dX1_bulgeWhereRipest_86 : decode cX1_bulgeWhereRipest 86 = .ok (.iload_n 1, 1) := by decide +kernel
theorem dX1_bulgeWhereRipest_87 : decode cX1_bulgeWhereRipest 87 = .ok (.iconst (-1), 1) := by decide +kernel
theorem dX1_bulgeWhereRipest_88 : decode cX1_bulgeWhereRipest 88 = .ok (.if_icmp .ne 5, 3) := by decide +kernel
theorem dX1_bulgeWhereRipest_91 : decode cX1_bulgeWhereRipest 91 = .ok (.iconst 0, 1) := by decide +kernel
theorem dX1_bulgeWhereRipest_92 : decode cX1_bulgeWhereRipest 92 = .ok (.ireturn, 1) := by decide +kernel
theorem dX1_bulgeWhereRipest_93 : decode cX1_bulgeWhereRipest 93 = .ok (.aload_n 0, 1) := by decide +kernel
theorem dX1_bulgeWhereRipest_94 : decode cX1_bulgeWhereRipest 94 = .ok (.iload_n 1, 1) := by decide +kernel
theorem dX1_bulgeWhereRipest_95 : decode cX1_bulgeWhereRipest 95 = .ok (.aload_n 0, 1) := by decide +kernel
theorem dX1_bulgeWhereRipest_96 : decode cX1_bulgeWhereRipest 96 = .ok (.getfield 40, 3) := by decide +kernel
theorem dX1_bulgeWhereRipest_99 : decode cX1_bulgeWhereRipest 99 = .ok (.iload_n 1, 1) := by decide +kernel
theorem dX1_bulgeWhereRipest_100 : decode cX1_bulgeWhereRipest 100 = .ok (.iaload, 1) := by decide +kernel
theorem dX1_bulgeWhereRipest_101 : decode cX1_bulgeWhereRipest 101 = .ok (.invokevirtual 128, 3) := by decide +kernel
theorem dX1_bulgeWhereRipest_104 : decode cX1_bulgeWhereRipest 104 = .ok (.iconst 1, 1) := by decide +kernel
theorem dX1_bulgeWhereRipest_105 : decode cX1_bulgeWhereRipest 105 = .ok (.ireturn, 1) := by decide +kernel
set_option maxRecDepth 20000 in
theorem ggX1_flood_X1_widestNeck : GoodIn wsX1_flood wsX1_widestNeck := goodIn_r _ [5, 6, 7, 8, 9, 4, 10, 11, 12, 13, 14, 15, 16, 17, 18, 19, 20, 21, 22, 23, 24, 25, 26, 27, 28, 29, 63, 64, 65, 66, 67, 68, 69, 70, 71, 72, 73, 74, 75, 76] (by decide +kernel) (by decide +kernel)
set_option maxRecDepth 20000 in
theorem gX1_flood_X1_widestNeck : GoodIn wsX1_flood (wsV RX1 131 RX1 yX1_widestNeck wsX1_widestNeck) := goodIn_app (goodIn_of _ (by decide +kernel)) ggX1_flood_X1_widestNeck
set_option maxRecDepth 20000 in
theorem ggX1_flood_X1_farthestAcross : GoodIn wsX1_flood wsX1_farthestAcross := goodIn_r _ [10, 11, 12, 13, 4, 14, 15, 16, 17, 18, 19, 6, 20, 21, 22, 23, 24, 25, 26, 27, 28, 29, 63, 64, 65, 66, 67, 68, 69, 70, 71, 72, 73, 74, 75, 76] (by decide +kernel) (by decide +kernel)
set_option maxRecDepth 20000 in
theorem gX1_flood_X1_farthestAcross : GoodIn wsX1_flood (wsV RX1 109 RX1 yX1_farthestAcross wsX1_farthestAcross) := goodIn_app (goodIn_of _ (by decide +kernel)) ggX1_flood_X1_farthestAcross
set_option maxRecDepth 20000 in
theorem ggX1_flood_X1_breakThrough : GoodIn wsX1_flood wsX1_breakThrough := goodIn_r _ [33, 27, 34, 35, 15, 6, 36, 37, 38, 39, 40, 41, 42, 43, 4, 44, 16, 17, 18, 19, 45, 21, 46, 47, 20, 22, 11, 12, 13, 14, 28, 29, 48, 49, 50, 51, 52, 53, 54, 55, 56, 57, 58, 59, 60, 61, 62, 63, 64, 65, 66, 67, 68, 69, 70, 71, 72, 73, 74, 75, 76] (by decide +kernel) (by decide +kernel)
set_option maxRecDepth 20000 in
theorem gX1_flood_X1_breakThrough : GoodIn wsX1_flood (wsV RX1 135 RX1 yX1_breakThrough wsX1_breakThrough) := goodIn_app (goodIn_of _ (by decide +kernel)) ggX1_flood_X1_breakThrough
theorem dX1_flood_0 : decode cX1_flood 0 = .ok (.iconst 0, 1) := by decide +kernel
theorem dX1_flood_1 : decode cX1_flood 1 = .ok (.istore_n 1, 1) := by decide +kernel
theorem dX1_flood_2 : decode cX1_flood 2 = .ok (.iload_n 1, 1) := by decide +kernel
theorem dX1_flood_3 : decode cX1_flood 3 = .ok (.sipush 150, 3) := by decide +kernel
theorem dX1_flood_6 : decode cX1_flood 6 = .ok (.if_icmp .ge 30, 3) := by decide +kernel
theorem dX1_flood_9 : decode cX1_flood 9 = .ok (.aload_n 0, 1) := by decide +kernel
theorem dX1_flood_10 : decode cX1_flood 10 = .ok (.invokevirtual 131, 3) := by decide +kernel
theorem dX1_flood_13 : decode cX1_flood 13 = .ok (.istore_n 2, 1) := by decide +kernel
theorem dX1_flood_14 : decode cX1_flood 14 = .ok (.iload_n 2, 1) := by decide +kernel
theorem dX1_flood_15 : decode cX1_flood 15 = .ok (.iconst (-1), 1) := by decide +kernel
theorem dX1_flood_16 : decode cX1_flood 16 = .ok (.if_icmp .ne 4, 3) := by decide +kernel
theorem dX1_flood_19 : decode cX1_flood 19 = .ok (.return_, 1) := by decide +kernel
theorem dX1_flood_20 : decode cX1_flood 20 = .ok (.aload_n 0, 1) := by decide +kernel
theorem dX1_flood_21 : decode cX1_flood 21 = .ok (.iload_n 2, 1) := by decide +kernel
theorem dX1_flood_22 : decode cX1_flood 22 = .ok (.aload_n 0, 1) := by decide +kernel
theorem dX1_flood_23 : decode cX1_flood 23 = .ok (.iload_n 2, 1) := by decide +kernel
theorem dX1_flood_24 : decode cX1_flood 24 = .ok (.invokevirtual 109, 3) := by decide +kernel
theorem dX1_flood_27 : decode cX1_flood 27 = .ok (.invokevirtual 135, 3) := by decide +kernel
theorem dX1_flood_30 : decode cX1_flood 30 = .ok (.iinc 1 1, 3) := by decide +kernel
theorem dX1_flood_33 : decode cX1_flood 33 = .ok (.goto (-31), 3) := by decide +kernel
theorem dX1_flood_36 : decode cX1_flood 36 = .ok (.return_, 1) := by decide +kernel
set_option maxRecDepth 20000 in
theorem ggX1_lakeYearsLeft_X2_isCell : GoodIn wsX1_lakeYearsLeft wsX2_isCell := goodIn_r _ [9] (by decide +kernel) (by decide +kernel)
set_option maxRecDepth 20000 in
theorem gX1_lakeYearsLeft_X2_isCell_n70 : GoodIn wsX1_lakeYearsLeft (wsX2_isCell) := ggX1_lakeYearsLeft_X2_isCell
theorem dX1_lakeYearsLeft_0 : decode cX1_lakeYearsLeft 0 = .ok (.iload_n 1, 1) := by decide +kernel
theorem dX1_lakeYearsLeft_1 : decode cX1_lakeYearsLeft 1 = .ok (.invokestatic 70, 3) := by decide +kernel
theorem dX1_lakeYearsLeft_4 : decode cX1_lakeYearsLeft 4 = .ok (.ifCond .eq 21, 3) := by decide +kernel
theorem dX1_lakeYearsLeft_7 : decode cX1_lakeYearsLeft 7 = .ok (.iconst 0, 1) := by decide +kernel
theorem dX1_lakeYearsLeft_8 : decode cX1_lakeYearsLeft 8 = .ok (.aload_n 0, 1) := by decide +kernel
theorem dX1_lakeYearsLeft_9 : decode cX1_lakeYearsLeft 9 = .ok (.getfield 22, 3) := by decide +kernel
theorem dX1_lakeYearsLeft_12 : decode cX1_lakeYearsLeft 12 = .ok (.iload_n 1, 1) := by decide +kernel
theorem dX1_lakeYearsLeft_13 : decode cX1_lakeYearsLeft 13 = .ok (.iaload, 1) := by decide +kernel
theorem dX1_lakeYearsLeft_14 : decode cX1_lakeYearsLeft 14 = .ok (.aload_n 0, 1) := by decide +kernel
theorem dX1_lakeYearsLeft_15 : decode cX1_lakeYearsLeft 15 = .ok (.getfield 60, 3) := by decide +kernel
theorem dX1_lakeYearsLeft_18 : decode cX1_lakeYearsLeft 18 = .ok (.isub, 1) := by decide +kernel
theorem dX1_lakeYearsLeft_19 : decode cX1_lakeYearsLeft 19 = .ok (.invokestatic 73, 3) := by decide +kernel
theorem dX1_lakeYearsLeft_22 : decode cX1_lakeYearsLeft 22 = .ok (.goto 4, 3) := by decide +kernel
theorem dX1_lakeYearsLeft_25 : decode cX1_lakeYearsLeft 25 = .ok (.iconst 0, 1) := by decide +kernel
theorem dX1_lakeYearsLeft_26 : decode cX1_lakeYearsLeft 26 = .ok (.ireturn, 1) := by decide +kernel
theorem dX1_lakes_0 : decode cX1_lakes 0 = .ok (.iconst 0, 1) := by decide +kernel
theorem dX1_lakes_1 : decode cX1_lakes 1 = .ok (.istore_n 1, 1) := by decide +kernel
theorem dX1_lakes_2 : decode cX1_lakes 2 = .ok (.iconst 0, 1) := by decide +kernel
theorem dX1_lakes_3 : decode cX1_lakes 3 = .ok (.istore_n 2, 1) := by decide +kernel
theorem dX1_lakes_4 : decode cX1_lakes 4 = .ok (.iload_n 2, 1) := by decide +kernel
theorem dX1_lakes_5 : decode cX1_lakes 5 = .ok (.sipush 384, 3) := by decide +kernel
theorem dX1_lakes_8 : decode cX1_lakes 8 = .ok (.if_icmp .ge 25, 3) := by decide +kernel
theorem dX1_lakes_11 : decode cX1_lakes 11 = .ok (.aload_n 0, 1) := by decide +kernel
theorem dX1_lakes_12 : decode cX1_lakes 12 = .ok (.getfield 22, 3) := by decide +kernel
theorem dX1_lakes_15 : decode cX1_lakes 15 = .ok (.iload_n 2, 1) := by decide +kernel
theorem dX1_lakes_16 : decode cX1_lakes 16 = .ok (.iaload, 1) := by decide +kernel
theorem dX1_lakes_17 : decode cX1_lakes 17 = .ok (.aload_n 0, 1) := by decide +kernel
theorem dX1_lakes_18 : decode cX1_lakes 18 = .ok (.getfield 60, 3) := by decide +kernel
theorem dX1_lakes_21 : decode cX1_lakes 21 = .ok (.if_icmp .le 6, 3) := by decide +kernel
theorem dX1_lakes_24 : decode cX1_lakes 24 = .ok (.iinc 1 1, 3) := by decide +kernel
theorem dX1_lakes_27 : decode cX1_lakes 27 = .ok (.iinc 2 1, 3) := by decide +kernel
theorem dX1_lakes_30 : decode cX1_lakes 30 = .ok (.goto (-26), 3) := by decide +kernel
theorem dX1_lakes_33 : decode cX1_lakes 33 = .ok (.iload_n 1, 1) := by decide +kernel
theorem dX1_lakes_34 : decode cX1_lakes 34 = .ok (.ireturn, 1) := by decide +kernel
theorem dX1_cellsWithStones_0 : decode cX1_cellsWithStones 0 = .ok (.iconst 0, 1) := by decide +kernel
theorem dX1_cellsWithStones_1 : decode cX1_cellsWithStones 1 = .ok (.istore_n 1, 1) := by decide +kernel
theorem dX1_cellsWithStones_2 : decode cX1_cellsWithStones 2 = .ok (.iconst 0, 1) := by decide +kernel
theorem dX1_cellsWithStones_3 : decode cX1_cellsWithStones 3 = .ok (.istore_n 2, 1) := by decide +kernel
theorem dX1_cellsWithStones_4 : decode cX1_cellsWithStones 4 = .ok (.iload_n 2, 1) := by decide +kernel
theorem dX1_cellsWithStones_5 : decode cX1_cellsWithStones 5 = .ok (.sipush 384, 3) := by decide +kernel
theorem dX1_cellsWithStones_8 : decode cX1_cellsWithStones 8 = .ok (.if_icmp .ge 21, 3) := by decide +kernel
theorem dX1_cellsWithStones_11 : decode cX1_cellsWithStones 11 = .ok (.aload_n 0, 1) := by decide +kernel
theorem dX1_cellsWithStones_12 : decode cX1_cellsWithStones 12 = .ok (.getfield 18, 3) := by decide +kernel
theorem dX1_cellsWithStones_15 : decode cX1_cellsWithStones 15 = .ok (.iload_n 2, 1) := by decide +kernel
theorem dX1_cellsWithStones_16 : decode cX1_cellsWithStones 16 = .ok (.baload, 1) := by decide +kernel
theorem dX1_cellsWithStones_17 : decode cX1_cellsWithStones 17 = .ok (.ifCond .eq 6, 3) := by decide +kernel
theorem dX1_cellsWithStones_20 : decode cX1_cellsWithStones 20 = .ok (.iinc 1 1, 3) := by decide +kernel
theorem dX1_cellsWithStones_23 : decode cX1_cellsWithStones 23 = .ok (.iinc 2 1, 3) := by decide +kernel
theorem dX1_cellsWithStones_26 : decode cX1_cellsWithStones 26 = .ok (.goto (-22), 3) := by decide +kernel
theorem dX1_cellsWithStones_29 : decode cX1_cellsWithStones 29 = .ok (.iload_n 1, 1) := by decide +kernel
theorem dX1_cellsWithStones_30 : decode cX1_cellsWithStones 30 = .ok (.ireturn, 1) := by decide +kernel
set_option maxRecDepth 20000 in
theorem ggX1_bends_X1_isStraight : GoodIn wsX1_bends wsX1_isStraight := goodIn_r _ [6, 1, 7, 8, 9, 10, 5, 11, 12, 13, 14, 15, 16, 17, 18, 19, 20, 21, 22, 23, 24, 25] (by decide +kernel) (by decide +kernel)
set_option maxRecDepth 20000 in
theorem gX1_bends_X1_isStraight : GoodIn wsX1_bends (wsV RX1 92 RX1 yX1_isStraight wsX1_isStraight) := goodIn_app (goodIn_of _ (by decide +kernel)) ggX1_bends_X1_isStraight
theorem dX1_bends_0 : decode cX1_bends 0 = .ok (.iconst 0, 1) := by decide +kernel
theorem dX1_bends_1 : decode cX1_bends 1 = .ok (.istore_n 1, 1) := by decide +kernel
theorem dX1_bends_2 : decode cX1_bends 2 = .ok (.iconst 1, 1) := by decide +kernel
theorem dX1_bends_3 : decode cX1_bends 3 = .ok (.istore_n 2, 1) := by decide +kernel
theorem dX1_bends_4 : decode cX1_bends 4 = .ok (.iload_n 2, 1) := by decide +kernel
theorem dX1_bends_5 : decode cX1_bends 5 = .ok (.aload_n 0, 1) := by decide +kernel
theorem dX1_bends_6 : decode cX1_bends 6 = .ok (.getfield 46, 3) := by decide +kernel
theorem dX1_bends_9 : decode cX1_bends 9 = .ok (.iconst 1, 1) := by decide +kernel
theorem dX1_bends_10 : decode cX1_bends 10 = .ok (.isub, 1) := by decide +kernel
theorem dX1_bends_11 : decode cX1_bends 11 = .ok (.if_icmp .ge 20, 3) := by decide +kernel
theorem dX1_bends_14 : decode cX1_bends 14 = .ok (.aload_n 0, 1) := by decide +kernel
theorem dX1_bends_15 : decode cX1_bends 15 = .ok (.iload_n 2, 1) := by decide +kernel
theorem dX1_bends_16 : decode cX1_bends 16 = .ok (.invokevirtual 92, 3) := by decide +kernel
theorem dX1_bends_19 : decode cX1_bends 19 = .ok (.ifCond .ne 6, 3) := by decide +kernel
theorem dX1_bends_22 : decode cX1_bends 22 = .ok (.iinc 1 1, 3) := by decide +kernel
theorem dX1_bends_25 : decode cX1_bends 25 = .ok (.iinc 2 1, 3) := by decide +kernel
theorem dX1_bends_28 : decode cX1_bends 28 = .ok (.goto (-24), 3) := by decide +kernel
theorem dX1_bends_31 : decode cX1_bends 31 = .ok (.iload_n 1, 1) := by decide +kernel
theorem dX1_bends_32 : decode cX1_bends 32 = .ok (.ireturn, 1) := by decide +kernel
theorem dX1_allWear_0 : decode cX1_allWear 0 = .ok (.iconst 0, 1) := by decide +kernel
theorem dX1_allWear_1 : decode cX1_allWear 1 = .ok (.istore_n 1, 1) := by decide +kernel
theorem dX1_allWear_2 : decode cX1_allWear 2 = .ok (.iconst 0, 1) := by decide +kernel
theorem dX1_allWear_3 : decode cX1_allWear 3 = .ok (.istore_n 2, 1) := by decide +kernel
theorem dX1_allWear_4 : decode cX1_allWear 4 = .ok (.iload_n 2, 1) := by decide +kernel
theorem dX1_allWear_5 : decode cX1_allWear 5 = .ok (.sipush 384, 3) := by decide +kernel
theorem dX1_allWear_8 : decode cX1_allWear 8 = .ok (.if_icmp .ge 18, 3) := by decide +kernel
theorem dX1_allWear_11 : decode cX1_allWear 11 = .ok (.iload_n 1, 1) := by decide +kernel
theorem dX1_allWear_12 : decode cX1_allWear 12 = .ok (.aload_n 0, 1) := by decide +kernel
theorem dX1_allWear_13 : decode cX1_allWear 13 = .ok (.getfield 15, 3) := by decide +kernel
theorem dX1_allWear_16 : decode cX1_allWear 16 = .ok (.iload_n 2, 1) := by decide +kernel
theorem dX1_allWear_17 : decode cX1_allWear 17 = .ok (.iaload, 1) := by decide +kernel
theorem dX1_allWear_18 : decode cX1_allWear 18 = .ok (.iadd, 1) := by decide +kernel
theorem dX1_allWear_19 : decode cX1_allWear 19 = .ok (.istore_n 1, 1) := by decide +kernel
theorem dX1_allWear_20 : decode cX1_allWear 20 = .ok (.iinc 2 1, 3) := by decide +kernel
theorem dX1_allWear_23 : decode cX1_allWear 23 = .ok (.goto (-19), 3) := by decide +kernel
theorem dX1_allWear_26 : decode cX1_allWear 26 = .ok (.iload_n 1, 1) := by decide +kernel
theorem dX1_allWear_27 : decode cX1_allWear 27 = .ok (.ireturn, 1) := by decide +kernel
set_option maxRecDepth 20000 in
theorem ggX1_digestFrom_X1_lakeYearsLeft : GoodIn wsX1_digestFrom wsX1_lakeYearsLeft := goodIn_r _ [12, 13, 14, 15, 16, 17, 18, 19, 20, 21, 22, 23, 24, 25, 26, 27, 28, 29, 30, 31, 32, 33, 34, 35] (by decide +kernel) (by decide +kernel)
set_option maxRecDepth 20000 in
theorem gX1_digestFrom_X1_lakeYearsLeft : GoodIn wsX1_digestFrom (wsV RX1 140 RX1 yX1_lakeYearsLeft wsX1_lakeYearsLeft) := goodIn_app (goodIn_of _ (by decide +kernel)) ggX1_digestFrom_X1_lakeYearsLeft
theorem dX1_digestFrom_0 : decode cX1_digestFrom 0 = .ok (.lload_n 1, 1) := by decide +kernel
theorem dX1_digestFrom_1 : decode cX1_digestFrom 1 = .ok (.lstore_n 3, 1) := by decide +kernel
theorem dX1_digestFrom_2 : decode cX1_digestFrom 2 = .ok (.iconst 0, 1) := by decide +kernel
theorem dX1_digestFrom_3 : decode cX1_digestFrom 3 = .ok (.istore 5, 2) := by decide +kernel
theorem dX1_digestFrom_5 : decode cX1_digestFrom 5 = .ok (.iload 5, 2) := by decide +kernel
theorem dX1_digestFrom_7 : decode cX1_digestFrom 7 = .ok (.bipush 12, 2) := by decide +kernel
theorem dX1_digestFrom_9 : decode cX1_digestFrom 9 = .ok (.if_icmp .ge 24, 3) := by decide +kernel
theorem dX1_digestFrom_12 : decode cX1_digestFrom 12 = .ok (.lload_n 3, 1) := by decide +kernel
theorem dX1_digestFrom_13 : decode cX1_digestFrom 13 = .ok (.ldc2_w 138, 3) := by decide +kernel
theorem dX1_digestFrom_16 : decode cX1_digestFrom 16 = .ok (.lmul, 1) := by decide +kernel
theorem dX1_digestFrom_17 : decode cX1_digestFrom 17 = .ok (.aload_n 0, 1) := by decide +kernel
theorem dX1_digestFrom_18 : decode cX1_digestFrom 18 = .ok (.getfield 28, 3) := by decide +kernel
theorem dX1_digestFrom_21 : decode cX1_digestFrom 21 = .ok (.iload 5, 2) := by decide +kernel
theorem dX1_digestFrom_23 : decode cX1_digestFrom 23 = .ok (.iaload, 1) := by decide +kernel
theorem dX1_digestFrom_24 : decode cX1_digestFrom 24 = .ok (.i2l, 1) := by decide +kernel
theorem dX1_digestFrom_25 : decode cX1_digestFrom 25 = .ok (.ladd, 1) := by decide +kernel
theorem dX1_digestFrom_26 : decode cX1_digestFrom 26 = .ok (.lstore_n 3, 1) := by decide +kernel
theorem dX1_digestFrom_27 : decode cX1_digestFrom 27 = .ok (.iinc 5 1, 3) := by decide +kernel
theorem dX1_digestFrom_30 : decode cX1_digestFrom 30 = .ok (.goto (-25), 3) := by decide +kernel
theorem dX1_digestFrom_33 : decode cX1_digestFrom 33 = .ok (.iconst 0, 1) := by decide +kernel
theorem dX1_digestFrom_34 : decode cX1_digestFrom 34 = .ok (.istore 5, 2) := by decide +kernel
theorem dX1_digestFrom_36 : decode cX1_digestFrom 36 = .ok (.iload 5, 2) := by decide +kernel
theorem dX1_digestFrom_38 : decode cX1_digestFrom 38 = .ok (.aload_n 0, 1) := by decide +kernel
theorem dX1_digestFrom_39 : decode cX1_digestFrom 39 = .ok (.getfield 46, 3) := by decide +kernel
theorem dX1_digestFrom_42 : decode cX1_digestFrom 42 = .ok (.if_icmp .ge 24, 3) := by decide +kernel
theorem dX1_digestFrom_45 : decode cX1_digestFrom 45 = .ok (.lload_n 3, 1) := by decide +kernel
theorem dX1_digestFrom_46 : decode cX1_digestFrom 46 = .ok (.ldc2_w 138, 3) := by decide +kernel
theorem dX1_digestFrom_49 : decode cX1_digestFrom 49 = .ok (.lmul, 1) := by decide +kernel
theorem dX1_digestFrom_50 : decode cX1_digestFrom 50 = .ok (.aload_n 0, 1) := by decide +kernel
theorem dX1_digestFrom_51 : decode cX1_digestFrom 51 = .ok (.getfield 31, 3) := by decide +kernel
theorem dX1_digestFrom_54 : decode cX1_digestFrom 54 = .ok (.iload 5, 2) := by decide +kernel
theorem dX1_digestFrom_56 : decode cX1_digestFrom 56 = .ok (.iaload, 1) := by decide +kernel
theorem dX1_digestFrom_57 : decode cX1_digestFrom 57 = .ok (.i2l, 1) := by decide +kernel
theorem dX1_digestFrom_58 : decode cX1_digestFrom 58 = .ok (.ladd, 1) := by decide +kernel
theorem dX1_digestFrom_59 : decode cX1_digestFrom 59 = .ok (.lstore_n 3, 1) := by decide +kernel
theorem dX1_digestFrom_60 : decode cX1_digestFrom 60 = .ok (.iinc 5 1, 3) := by decide +kernel
theorem dX1_digestFrom_63 : decode cX1_digestFrom 63 = .ok (.goto (-27), 3) := by decide +kernel
theorem dX1_digestFrom_66 : decode cX1_digestFrom 66 = .ok (.iconst 0, 1) := by decide +kernel
theorem dX1_digestFrom_67 : decode cX1_digestFrom 67 = .ok (.istore 5, 2) := by decide +kernel
theorem dX1_digestFrom_69 : decode cX1_digestFrom 69 = .ok (.iload 5, 2) := by decide +kernel
theorem dX1_digestFrom_71 : decode cX1_digestFrom 71 = .ok (.sipush 384, 3) := by decide +kernel
theorem dX1_digestFrom_74 : decode cX1_digestFrom 74 = .ok (.if_icmp .ge 76, 3) := by decide +kernel
theorem dX1_digestFrom_77 : decode cX1_digestFrom 77 = .ok (.lload_n 3, 1) := by decide +kernel
theorem dX1_digestFrom_78 : decode cX1_digestFrom 78 = .ok (.ldc2_w 138, 3) := by decide +kernel
theorem dX1_digestFrom_81 : decode cX1_digestFrom 81 = .ok (.lmul, 1) := by decide +kernel
theorem dX1_digestFrom_82 : decode cX1_digestFrom 82 = .ok (.aload_n 0, 1) := by decide +kernel
theorem dX1_digestFrom_83 : decode cX1_digestFrom 83 = .ok (.getfield 9, 3) := by decide +kernel
theorem dX1_digestFrom_86 : decode cX1_digestFrom 86 = .ok (.iload 5, 2) := by decide +kernel
theorem dX1_digestFrom_88 : decode cX1_digestFrom 88 = .ok (.iaload, 1) := by decide +kernel
theorem dX1_digestFrom_89 : decode cX1_digestFrom 89 = .ok (.i2l, 1) := by decide +kernel
theorem dX1_digestFrom_90 : decode cX1_digestFrom 90 = .ok (.ladd, 1) := by decide +kernel
theorem dX1_digestFrom_91 : decode cX1_digestFrom 91 = .ok (.lstore_n 3, 1) := by decide +kernel
theorem dX1_digestFrom_92 : decode cX1_digestFrom 92 = .ok (.lload_n 3, 1) := by decide +kernel
theorem dX1_digestFrom_93 : decode cX1_digestFrom 93 = .ok (.ldc2_w 138, 3) := by decide +kernel
theorem dX1_digestFrom_96 : decode cX1_digestFrom 96 = .ok (.lmul, 1) := by decide +kernel
theorem dX1_digestFrom_97 : decode cX1_digestFrom 97 = .ok (.aload_n 0, 1) := by decide +kernel
theorem dX1_digestFrom_98 : decode cX1_digestFrom 98 = .ok (.getfield 15, 3) := by decide +kernel
theorem dX1_digestFrom_101 : decode cX1_digestFrom 101 = .ok (.iload 5, 2) := by decide +kernel
theorem dX1_digestFrom_103 : decode cX1_digestFrom 103 = .ok (.iaload, 1) := by decide +kernel
theorem dX1_digestFrom_104 : decode cX1_digestFrom 104 = .ok (.i2l, 1) := by decide +kernel
theorem dX1_digestFrom_105 : decode cX1_digestFrom 105 = .ok (.ladd, 1) := by decide +kernel
theorem dX1_digestFrom_106 : decode cX1_digestFrom 106 = .ok (.lstore_n 3, 1) := by decide +kernel
theorem dX1_digestFrom_107 : decode cX1_digestFrom 107 = .ok (.lload_n 3, 1) := by decide +kernel
theorem dX1_digestFrom_108 : decode cX1_digestFrom 108 = .ok (.ldc2_w 138, 3) := by decide +kernel
theorem dX1_digestFrom_111 : decode cX1_digestFrom 111 = .ok (.lmul, 1) := by decide +kernel
theorem dX1_digestFrom_112 : decode cX1_digestFrom 112 = .ok (.aload_n 0, 1) := by decide +kernel
theorem dX1_digestFrom_113 : decode cX1_digestFrom 113 = .ok (.getfield 18, 3) := by decide +kernel
theorem dX1_digestFrom_116 : decode cX1_digestFrom 116 = .ok (.iload 5, 2) := by decide +kernel
theorem dX1_digestFrom_118 : decode cX1_digestFrom 118 = .ok (.baload, 1) := by decide +kernel
theorem dX1_digestFrom_119 : decode cX1_digestFrom 119 = .ok (.ifCond .eq 7, 3) := by decide +kernel
theorem dX1_digestFrom_122 : decode cX1_digestFrom 122 = .ok (.iconst 1, 1) := by decide +kernel
theorem dX1_digestFrom_123 : decode cX1_digestFrom 123 = .ok (.goto 4, 3) := by decide +kernel
theorem dX1_digestFrom_126 : decode cX1_digestFrom 126 = .ok (.iconst 0, 1) := by decide +kernel
theorem dX1_digestFrom_127 : decode cX1_digestFrom 127 = .ok (.i2l, 1) := by decide +kernel
theorem dX1_digestFrom_128 : decode cX1_digestFrom 128 = .ok (.ladd, 1) := by decide +kernel
theorem dX1_digestFrom_129 : decode cX1_digestFrom 129 = .ok (.lstore_n 3, 1) := by decide +kernel
theorem dX1_digestFrom_130 : decode cX1_digestFrom 130 = .ok (.lload_n 3, 1) := by decide +kernel
theorem dX1_digestFrom_131 : decode cX1_digestFrom 131 = .ok (.ldc2_w 138, 3) := by decide +kernel
theorem dX1_digestFrom_134 : decode cX1_digestFrom 134 = .ok (.lmul, 1) := by decide +kernel
theorem dX1_digestFrom_135 : decode cX1_digestFrom 135 = .ok (.aload_n 0, 1) := by decide +kernel
theorem dX1_digestFrom_136 : decode cX1_digestFrom 136 = .ok (.iload 5, 2) := by decide +kernel
theorem dX1_digestFrom_138 : decode cX1_digestFrom 138 = .ok (.invokevirtual 140, 3) := by decide +kernel
theorem dX1_digestFrom_141 : decode cX1_digestFrom 141 = .ok (.i2l, 1) := by decide +kernel
theorem dX1_digestFrom_142 : decode cX1_digestFrom 142 = .ok (.ladd, 1) := by decide +kernel
theorem dX1_digestFrom_143 : decode cX1_digestFrom 143 = .ok (.lstore_n 3, 1) := by decide +kernel
theorem dX1_digestFrom_144 : decode cX1_digestFrom 144 = .ok (.iinc 5 1, 3) := by decide +kernel
theorem dX1_digestFrom_147 : decode cX1_digestFrom 147 = .ok (.goto (-78), 3) := by decide +kernel
theorem dX1_digestFrom_150 : decode cX1_digestFrom 150 = .ok (.lload_n 3, 1) := by decide +kernel
theorem dX1_digestFrom_151 : decode cX1_digestFrom 151 = .ok (.lreturn, 1) := by decide +kernel
set_option maxRecDepth 20000 in
theorem ggX2_init_X1_init : GoodIn wsX2_init wsX1_init := goodIn_r _ [16, 17, 2, 3, 18, 19, 20, 4, 21, 22, 23, 24, 25, 26, 27, 28, 29, 30, 31, 32, 33, 8, 34, 35, 36, 37, 38, 39, 40, 41, 42, 43, 44, 45, 46, 47, 48, 49, 50, 51, 52, 53, 54, 55, 56, 57, 58, 70, 71, 72, 73, 74, 75, 76, 77, 78, 79, 80, 81, 82, 83] (by decide +kernel) (by decide +kernel)
set_option maxRecDepth 20000 in
theorem gX2_init_X1_init_n15 : GoodIn wsX2_init (wsX1_init) := ggX2_init_X1_init
set_option maxRecDepth 20000 in
theorem ggX2_init_X0_init : GoodIn wsX2_init wsX0_init := goodIn_r _ [60, 61, 2, 3, 18, 62, 63, 64, 65, 84, 85, 86, 87, 88] (by decide +kernel) (by decide +kernel)
set_option maxRecDepth 20000 in
theorem gX2_init_X0_init_n25 : GoodIn wsX2_init (wsX0_init) := ggX2_init_X0_init
end
section
theorem dX2_isGrade_0 : decode cX2_isGrade 0 = .ok (.iload_n 0, 1) := by decide +kernel
theorem dX2_isGrade_1 : decode cX2_isGrade 1 = .ok (.iconst 1, 1) := by decide +kernel
theorem dX2_isGrade_2 : decode cX2_isGrade 2 = .ok (.if_icmp .lt 13, 3) := by decide +kernel
theorem dX2_isGrade_5 : decode cX2_isGrade 5 = .ok (.iload_n 0, 1) := by decide +kernel
theorem dX2_isGrade_6 : decode cX2_isGrade 6 = .ok (.bipush 9, 2) := by decide +kernel
theorem dX2_isGrade_8 : decode cX2_isGrade 8 = .ok (.if_icmp .gt 7, 3) := by decide +kernel
theorem dX2_isGrade_11 : decode cX2_isGrade 11 = .ok (.iconst 1, 1) := by decide +kernel
theorem dX2_isGrade_12 : decode cX2_isGrade 12 = .ok (.goto 4, 3) := by decide +kernel
theorem dX2_isGrade_15 : decode cX2_isGrade 15 = .ok (.iconst 0, 1) := by decide +kernel
theorem dX2_isGrade_16 : decode cX2_isGrade 16 = .ok (.ireturn, 1) := by decide +kernel
theorem dX2_isSpan_0 : decode cX2_isSpan 0 = .ok (.iload_n 0, 1) := by decide +kernel
theorem dX2_isSpan_1 : decode cX2_isSpan 1 = .ok (.ifCond .lt 24, 3) := by decide +kernel
theorem dX2_isSpan_4 : decode cX2_isSpan 4 = .ok (.iload_n 0, 1) := by decide +kernel
theorem dX2_isSpan_5 : decode cX2_isSpan 5 = .ok (.iload_n 2, 1) := by decide +kernel
theorem dX2_isSpan_6 : decode cX2_isSpan 6 = .ok (.if_icmp .ge 19, 3) := by decide +kernel
theorem dX2_isSpan_9 : decode cX2_isSpan 9 = .ok (.iload_n 1, 1) := by decide +kernel
theorem dX2_isSpan_10 : decode cX2_isSpan 10 = .ok (.iconst 1, 1) := by decide +kernel
theorem dX2_isSpan_11 : decode cX2_isSpan 11 = .ok (.if_icmp .lt 14, 3) := by decide +kernel
theorem dX2_isSpan_14 : decode cX2_isSpan 14 = .ok (.iload_n 1, 1) := by decide +kernel
theorem dX2_isSpan_15 : decode cX2_isSpan 15 = .ok (.iload_n 2, 1) := by decide +kernel
theorem dX2_isSpan_16 : decode cX2_isSpan 16 = .ok (.iload_n 0, 1) := by decide +kernel
theorem dX2_isSpan_17 : decode cX2_isSpan 17 = .ok (.isub, 1) := by decide +kernel
theorem dX2_isSpan_18 : decode cX2_isSpan 18 = .ok (.if_icmp .gt 7, 3) := by decide +kernel
theorem dX2_isSpan_21 : decode cX2_isSpan 21 = .ok (.iconst 1, 1) := by decide +kernel
theorem dX2_isSpan_22 : decode cX2_isSpan 22 = .ok (.goto 4, 3) := by decide +kernel
theorem dX2_isSpan_25 : decode cX2_isSpan 25 = .ok (.iconst 0, 1) := by decide +kernel
theorem dX2_isSpan_26 : decode cX2_isSpan 26 = .ok (.ireturn, 1) := by decide +kernel
theorem dX2_isCell_0 : decode cX2_isCell 0 = .ok (.iload_n 0, 1) := by decide +kernel
theorem dX2_isCell_1 : decode cX2_isCell 1 = .ok (.ifCond .lt 14, 3) := by decide +kernel
theorem dX2_isCell_4 : decode cX2_isCell 4 = .ok (.iload_n 0, 1) := by decide +kernel
theorem dX2_isCell_5 : decode cX2_isCell 5 = .ok (.sipush 384, 3) := by decide +kernel
theorem dX2_isCell_8 : decode cX2_isCell 8 = .ok (.if_icmp .ge 7, 3) := by decide +kernel
theorem dX2_isCell_11 : decode cX2_isCell 11 = .ok (.iconst 1, 1) := by decide +kernel
theorem dX2_isCell_12 : decode cX2_isCell 12 = .ok (.goto 4, 3) := by decide +kernel
theorem dX2_isCell_15 : decode cX2_isCell 15 = .ok (.iconst 0, 1) := by decide +kernel
theorem dX2_isCell_16 : decode cX2_isCell 16 = .ok (.ireturn, 1) := by decide +kernel
theorem dX2_cellNumber_0 : decode cX2_cellNumber 0 = .ok (.iload_n 0, 1) := by decide +kernel
theorem dX2_cellNumber_1 : decode cX2_cellNumber 1 = .ok (.ifCond .lt 19, 3) := by decide +kernel
theorem dX2_cellNumber_4 : decode cX2_cellNumber 4 = .ok (.iload_n 0, 1) := by decide +kernel
theorem dX2_cellNumber_5 : decode cX2_cellNumber 5 = .ok (.bipush 24, 2) := by decide +kernel
theorem dX2_cellNumber_7 : decode cX2_cellNumber 7 = .ok (.if_icmp .ge 13, 3) := by decide +kernel
theorem dX2_cellNumber_10 : decode cX2_cellNumber 10 = .ok (.iload_n 1, 1) := by decide +kernel
theorem dX2_cellNumber_11 : decode cX2_cellNumber 11 = .ok (.ifCond .lt 9, 3) := by decide +kernel
theorem dX2_cellNumber_14 : decode cX2_cellNumber 14 = .ok (.iload_n 1, 1) := by decide +kernel
theorem dX2_cellNumber_15 : decode cX2_cellNumber 15 = .ok (.bipush 16, 2) := by decide +kernel
theorem dX2_cellNumber_17 : decode cX2_cellNumber 17 = .ok (.if_icmp .lt 5, 3) := by decide +kernel
theorem dX2_cellNumber_20 : decode cX2_cellNumber 20 = .ok (.iconst (-1), 1) := by decide +kernel
theorem dX2_cellNumber_21 : decode cX2_cellNumber 21 = .ok (.ireturn, 1) := by decide +kernel
theorem dX2_cellNumber_22 : decode cX2_cellNumber 22 = .ok (.iload_n 0, 1) := by decide +kernel
theorem dX2_cellNumber_23 : decode cX2_cellNumber 23 = .ok (.bipush 24, 2) := by decide +kernel
theorem dX2_cellNumber_25 : decode cX2_cellNumber 25 = .ok (.iload_n 1, 1) := by decide +kernel
theorem dX2_cellNumber_26 : decode cX2_cellNumber 26 = .ok (.imul, 1) := by decide +kernel
theorem dX2_cellNumber_27 : decode cX2_cellNumber 27 = .ok (.iadd, 1) := by decide +kernel
theorem dX2_cellNumber_28 : decode cX2_cellNumber 28 = .ok (.ireturn, 1) := by decide +kernel
theorem dX2_neighbour_0 : decode cX2_neighbour 0 = .ok (.iload_n 0, 1) := by decide +kernel
theorem dX2_neighbour_1 : decode cX2_neighbour 1 = .ok (.ifCond .lt 10, 3) := by decide +kernel
theorem dX2_neighbour_4 : decode cX2_neighbour 4 = .ok (.iload_n 0, 1) := by decide +kernel
theorem dX2_neighbour_5 : decode cX2_neighbour 5 = .ok (.sipush 384, 3) := by decide +kernel
theorem dX2_neighbour_8 : decode cX2_neighbour 8 = .ok (.if_icmp .lt 5, 3) := by decide +kernel
theorem dX2_neighbour_11 : decode cX2_neighbour 11 = .ok (.iconst (-1), 1) := by decide +kernel
theorem dX2_neighbour_12 : decode cX2_neighbour 12 = .ok (.ireturn, 1) := by decide +kernel
theorem dX2_neighbour_13 : decode cX2_neighbour 13 = .ok (.iload_n 0, 1) := by decide +kernel
theorem dX2_neighbour_14 : decode cX2_neighbour 14 = .ok (.bipush 24, 2) := by decide +kernel
theorem dX2_neighbour_16 : decode cX2_neighbour 16 = .ok (.irem, 1) := by decide +kernel
theorem dX2_neighbour_17 : decode cX2_neighbour 17 = .ok (.istore_n 2, 1) := by decide +kernel
theorem dX2_neighbour_18 : decode cX2_neighbour 18 = .ok (.iload_n 1, 1) := by decide +kernel
theorem dX2_neighbour_19 : decode cX2_neighbour 19 = .ok (.tableswitch 86 0 3 #[29, 44, 58, 74], 29) := by decide +kernel
theorem dX2_neighbour_48 : decode cX2_neighbour 48 = .ok (.iload_n 0, 1) := by decide +kernel
theorem dX2_neighbour_49 : decode cX2_neighbour 49 = .ok (.bipush 24, 2) := by decide +kernel
theorem dX2_neighbour_51 : decode cX2_neighbour 51 = .ok (.if_icmp .lt 10, 3) := by decide +kernel
theorem dX2_neighbour_54 : decode cX2_neighbour 54 = .ok (.iload_n 0, 1) := by decide +kernel
theorem dX2_neighbour_55 : decode cX2_neighbour 55 = .ok (.bipush 24, 2) := by decide +kernel
theorem dX2_neighbour_57 : decode cX2_neighbour 57 = .ok (.isub, 1) := by decide +kernel
theorem dX2_neighbour_58 : decode cX2_neighbour 58 = .ok (.goto 4, 3) := by decide +kernel
theorem dX2_neighbour_61 : decode cX2_neighbour 61 = .ok (.iconst (-1), 1) := by decide +kernel
theorem dX2_neighbour_62 : decode cX2_neighbour 62 = .ok (.ireturn, 1) := by decide +kernel
theorem dX2_neighbour_63 : decode cX2_neighbour 63 = .ok (.iload_n 2, 1) := by decide +kernel
theorem dX2_neighbour_64 : decode cX2_neighbour 64 = .ok (.bipush 23, 2) := by decide +kernel
theorem dX2_neighbour_66 : decode cX2_neighbour 66 = .ok (.if_icmp .ge 9, 3) := by decide +kernel
theorem dX2_neighbour_69 : decode cX2_neighbour 69 = .ok (.iload_n 0, 1) := by decide +kernel
theorem dX2_neighbour_70 : decode cX2_neighbour 70 = .ok (.iconst 1, 1) := by decide +kernel
theorem dX2_neighbour_71 : decode cX2_neighbour 71 = .ok (.iadd, 1) := by decide +kernel
theorem dX2_neighbour_72 : decode cX2_neighbour 72 = .ok (.goto 4, 3) := by decide +kernel
theorem dX2_neighbour_75 : decode cX2_neighbour 75 = .ok (.iconst (-1), 1) := by decide +kernel
theorem dX2_neighbour_76 : decode cX2_neighbour 76 = .ok (.ireturn, 1) := by decide +kernel
theorem dX2_neighbour_77 : decode cX2_neighbour 77 = .ok (.iload_n 0, 1) := by decide +kernel
theorem dX2_neighbour_78 : decode cX2_neighbour 78 = .ok (.sipush 360, 3) := by decide +kernel
theorem dX2_neighbour_81 : decode cX2_neighbour 81 = .ok (.if_icmp .ge 10, 3) := by decide +kernel
theorem dX2_neighbour_84 : decode cX2_neighbour 84 = .ok (.iload_n 0, 1) := by decide +kernel
theorem dX2_neighbour_85 : decode cX2_neighbour 85 = .ok (.bipush 24, 2) := by decide +kernel
theorem dX2_neighbour_87 : decode cX2_neighbour 87 = .ok (.iadd, 1) := by decide +kernel
theorem dX2_neighbour_88 : decode cX2_neighbour 88 = .ok (.goto 4, 3) := by decide +kernel
theorem dX2_neighbour_91 : decode cX2_neighbour 91 = .ok (.iconst (-1), 1) := by decide +kernel
theorem dX2_neighbour_92 : decode cX2_neighbour 92 = .ok (.ireturn, 1) := by decide +kernel
theorem dX2_neighbour_93 : decode cX2_neighbour 93 = .ok (.iload_n 2, 1) := by decide +kernel
theorem dX2_neighbour_94 : decode cX2_neighbour 94 = .ok (.ifCond .le 9, 3) := by decide +kernel
theorem dX2_neighbour_97 : decode cX2_neighbour 97 = .ok (.iload_n 0, 1) := by decide +kernel
theorem dX2_neighbour_98 : decode cX2_neighbour 98 = .ok (.iconst 1, 1) := by decide +kernel
theorem dX2_neighbour_99 : decode cX2_neighbour 99 = .ok (.isub, 1) := by decide +kernel
theorem dX2_neighbour_100 : decode cX2_neighbour 100 = .ok (.goto 4, 3) := by decide +kernel
theorem dX2_neighbour_103 : decode cX2_neighbour 103 = .ok (.iconst (-1), 1) := by decide +kernel
theorem dX2_neighbour_104 : decode cX2_neighbour 104 = .ok (.ireturn, 1) := by decide +kernel
theorem dX2_neighbour_105 : decode cX2_neighbour 105 = .ok (.iconst (-1), 1) := by decide +kernel
theorem dX2_neighbour_106 : decode cX2_neighbour 106 = .ok (.ireturn, 1) := by decide +kernel
set_option maxRecDepth 20000 in
theorem ggX2_directionTo_X2_neighbour : GoodIn wsX2_directionTo wsX2_neighbour := goodIn_r _ [4] (by decide +kernel) (by decide +kernel)
set_option maxRecDepth 20000 in
theorem gX2_directionTo_X2_neighbour : GoodIn wsX2_directionTo (va_wsS RX2 229 yX2_neighbour wsX2_neighbour) := goodIn_app (goodIn_of _ (by decide +kernel)) ggX2_directionTo_X2_neighbour
theorem dX2_directionTo_0 : decode cX2_directionTo 0 = .ok (.iconst 0, 1) := by decide +kernel
theorem dX2_directionTo_1 : decode cX2_directionTo 1 = .ok (.istore_n 2, 1) := by decide +kernel
theorem dX2_directionTo_2 : decode cX2_directionTo 2 = .ok (.iload_n 2, 1) := by decide +kernel
theorem dX2_directionTo_3 : decode cX2_directionTo 3 = .ok (.iconst 4, 1) := by decide +kernel
theorem dX2_directionTo_4 : decode cX2_directionTo 4 = .ok (.if_icmp .ge 27, 3) := by decide +kernel
theorem dX2_directionTo_7 : decode cX2_directionTo 7 = .ok (.iload_n 0, 1) := by decide +kernel
theorem dX2_directionTo_8 : decode cX2_directionTo 8 = .ok (.iload_n 2, 1) := by decide +kernel
theorem dX2_directionTo_9 : decode cX2_directionTo 9 = .ok (.invokestatic 229, 3) := by decide +kernel
theorem dX2_directionTo_12 : decode cX2_directionTo 12 = .ok (.istore_n 3, 1) := by decide +kernel
theorem dX2_directionTo_13 : decode cX2_directionTo 13 = .ok (.iload_n 3, 1) := by decide +kernel
theorem dX2_directionTo_14 : decode cX2_directionTo 14 = .ok (.iconst (-1), 1) := by decide +kernel
theorem dX2_directionTo_15 : decode cX2_directionTo 15 = .ok (.if_icmp .eq 10, 3) := by decide +kernel
theorem dX2_directionTo_18 : decode cX2_directionTo 18 = .ok (.iload_n 3, 1) := by decide +kernel
theorem dX2_directionTo_19 : decode cX2_directionTo 19 = .ok (.iload_n 1, 1) := by decide +kernel
theorem dX2_directionTo_20 : decode cX2_directionTo 20 = .ok (.if_icmp .ne 5, 3) := by decide +kernel
theorem dX2_directionTo_23 : decode cX2_directionTo 23 = .ok (.iload_n 2, 1) := by decide +kernel
theorem dX2_directionTo_24 : decode cX2_directionTo 24 = .ok (.ireturn, 1) := by decide +kernel
theorem dX2_directionTo_25 : decode cX2_directionTo 25 = .ok (.iinc 2 1, 3) := by decide +kernel
theorem dX2_directionTo_28 : decode cX2_directionTo 28 = .ok (.goto (-26), 3) := by decide +kernel
theorem dX2_directionTo_31 : decode cX2_directionTo 31 = .ok (.iconst (-1), 1) := by decide +kernel
theorem dX2_directionTo_32 : decode cX2_directionTo 32 = .ok (.ireturn, 1) := by decide +kernel
set_option maxRecDepth 20000 in
theorem ggX3_init_X3_place : GoodIn wsX3_init wsX3_place := goodIn_r _ [19, 11, 10, 20, 21, 22, 18, 23, 14, 24, 25, 26, 27, 28, 29, 30, 31, 32, 33, 34] (by decide +kernel) (by decide +kernel)
set_option maxRecDepth 20000 in
theorem gX3_init_X3_place : GoodIn wsX3_init (wsV RX3 38 RX3 yX3_place wsX3_place) := goodIn_app (goodIn_of _ (by decide +kernel)) ggX3_init_X3_place
end
section
theorem dJ9_floorMod_7cf53_0 : decode cJ9_floorMod_7cf53 0 = .ok (.iload_n 0, 1) := by decide +kernel
theorem dJ9_floorMod_7cf53_1 : decode cJ9_floorMod_7cf53 1 = .ok (.iload_n 1, 1) := by decide +kernel
theorem dJ9_floorMod_7cf53_2 : decode cJ9_floorMod_7cf53 2 = .ok (.irem, 1) := by decide +kernel
theorem dJ9_floorMod_7cf53_3 : decode cJ9_floorMod_7cf53 3 = .ok (.istore_n 2, 1) := by decide +kernel
theorem dJ9_floorMod_7cf53_4 : decode cJ9_floorMod_7cf53 4 = .ok (.iload_n 0, 1) := by decide +kernel
theorem dJ9_floorMod_7cf53_5 : decode cJ9_floorMod_7cf53 5 = .ok (.iload_n 1, 1) := by decide +kernel
theorem dJ9_floorMod_7cf53_6 : decode cJ9_floorMod_7cf53 6 = .ok (.ixor, 1) := by decide +kernel
theorem dJ9_floorMod_7cf53_7 : decode cJ9_floorMod_7cf53 7 = .ok (.ifCond .ge 11, 3) := by decide +kernel
theorem dJ9_floorMod_7cf53_10 : decode cJ9_floorMod_7cf53 10 = .ok (.iload_n 2, 1) := by decide +kernel
theorem dJ9_floorMod_7cf53_11 : decode cJ9_floorMod_7cf53 11 = .ok (.ifCond .eq 7, 3) := by decide +kernel
theorem dJ9_floorMod_7cf53_14 : decode cJ9_floorMod_7cf53 14 = .ok (.iload_n 2, 1) := by decide +kernel
theorem dJ9_floorMod_7cf53_15 : decode cJ9_floorMod_7cf53 15 = .ok (.iload_n 1, 1) := by decide +kernel
theorem dJ9_floorMod_7cf53_16 : decode cJ9_floorMod_7cf53 16 = .ok (.iadd, 1) := by decide +kernel
theorem dJ9_floorMod_7cf53_17 : decode cJ9_floorMod_7cf53 17 = .ok (.ireturn, 1) := by decide +kernel
theorem dJ9_floorMod_7cf53_18 : decode cJ9_floorMod_7cf53 18 = .ok (.iload_n 2, 1) := by decide +kernel
theorem dJ9_floorMod_7cf53_19 : decode cJ9_floorMod_7cf53 19 = .ok (.ireturn, 1) := by decide +kernel
theorem dJ9_abs_0f7a4_0 : decode cJ9_abs_0f7a4 0 = .ok (.iload_n 0, 1) := by decide +kernel
theorem dJ9_abs_0f7a4_1 : decode cJ9_abs_0f7a4 1 = .ok (.ifCond .ge 8, 3) := by decide +kernel
theorem dJ9_abs_0f7a4_4 : decode cJ9_abs_0f7a4 4 = .ok (.iload_n 0, 1) := by decide +kernel
theorem dJ9_abs_0f7a4_5 : decode cJ9_abs_0f7a4 5 = .ok (.ineg, 1) := by decide +kernel
theorem dJ9_abs_0f7a4_6 : decode cJ9_abs_0f7a4 6 = .ok (.goto 4, 3) := by decide +kernel
theorem dJ9_abs_0f7a4_9 : decode cJ9_abs_0f7a4 9 = .ok (.iload_n 0, 1) := by decide +kernel
theorem dJ9_abs_0f7a4_10 : decode cJ9_abs_0f7a4 10 = .ok (.ireturn, 1) := by decide +kernel
theorem dJ9_max_7cf53_0 : decode cJ9_max_7cf53 0 = .ok (.iload_n 0, 1) := by decide +kernel
theorem dJ9_max_7cf53_1 : decode cJ9_max_7cf53 1 = .ok (.iload_n 1, 1) := by decide +kernel
theorem dJ9_max_7cf53_2 : decode cJ9_max_7cf53 2 = .ok (.if_icmp .lt 7, 3) := by decide +kernel
theorem dJ9_max_7cf53_5 : decode cJ9_max_7cf53 5 = .ok (.iload_n 0, 1) := by decide +kernel
theorem dJ9_max_7cf53_6 : decode cJ9_max_7cf53 6 = .ok (.goto 4, 3) := by decide +kernel
theorem dJ9_max_7cf53_9 : decode cJ9_max_7cf53 9 = .ok (.iload_n 1, 1) := by decide +kernel
theorem dJ9_max_7cf53_10 : decode cJ9_max_7cf53 10 = .ok (.ireturn, 1) := by decide +kernel
end
section
/-! 02.base: ints by their Int values, rows of instructions over such, worlds -/
/-- an Int32 by its Int value -/
def iI (z : Int) : Int32 := Int32.ofInt z
/-- an Int64 by its Int value -/
def lI (z : Int) : Int64 := Int64.ofInt z
def i32 (z : Int) : Prop := -2147483648 ≤ z ∧ z < 2147483648
theorem i32_mk {z : Int} (h1 : -2147483648 ≤ z) (h2 : z < 2147483648) : i32 z := ⟨h1, h2⟩
theorem iI_toInt {z : Int} (h : i32 z) : (iI z).toInt = z := by
  unfold iI
  rw [Int32.toInt_ofInt, show Int32.size = 4294967296 from rfl]
  exact Int.bmod_eq_of_le (by have := h.1; omega) (by have := h.2; omega)
theorem iI_of (x : Int32) : iI x.toInt = x := Int32.ofInt_toInt x
theorem i32_of (x : Int32) : i32 x.toInt := ⟨Int32.le_toInt x, Int32.toInt_lt x⟩
theorem iI_add (a b : Int) : iI (a + b) = iI a + iI b := Int32.ofInt_add a b
theorem iI_sub (a b : Int) : iI (a - b) = iI a - iI b := Int32.ofInt_sub a b
theorem iI_mul (a b : Int) : iI (a * b) = iI a * iI b := Int32.ofInt_mul a b
theorem iI_neg (a : Int) : iI (-a) = -iI a := Int32.ofInt_neg a
theorem iI_0 : iI 0 = 0 := rfl
theorem iI_1 : iI 1 = 1 := rfl
theorem iI_lt {a b : Int} (ha : i32 a) (hb : i32 b) : iI a < iI b ↔ a < b := by rw [Int32.lt_iff_toInt_lt, iI_toInt ha, iI_toInt hb]
theorem iI_le {a b : Int} (ha : i32 a) (hb : i32 b) : iI a ≤ iI b ↔ a ≤ b := by rw [Int32.le_iff_toInt_le, iI_toInt ha, iI_toInt hb]
theorem iI_eq {a b : Int} (ha : i32 a) (hb : i32 b) : iI a = iI b ↔ a = b := by rw [← Int32.toInt_inj, iI_toInt ha, iI_toInt hb]
theorem i32_0 : i32 0 := by unfold i32; omega
theorem iI_cl {z : Int} (h0 : 0 ≤ z) (h1 : z < 2147483648) : (iI z).toNatClampNeg = z.toNat := by
  unfold Int32.toNatClampNeg
  rw [iI_toInt (i32_mk (by omega) h1)]
theorem iI_in {z : Int} {n : Nat} (h0 : 0 ≤ z) (h1 : z < n) (hn : n < 2147483648) : vp_in (iI z) n := by
  rw [vp_in_iff, iI_toInt (i32_mk (by omega) (by omega))]
  exact ⟨h0, h1⟩
theorem iI_nat {z : Int} (h : i32 z) (h0 : 0 ≤ z) : iI z = nI z.toNat := by
  obtain ⟨n, rfl⟩ := Int.eq_ofNat_of_zero_le h0
  rw [Int.toNat_natCast]
  unfold iI nI
  exact Int32.ofInt_eq_ofNat
theorem nI_iI (n : Nat) : nI n = iI n := Int32.ofInt_eq_ofNat.symm
/-- a row of ints by a function on Int -/
def ia (f : Int → Int) : Nat → Int32 := fun j => iI (f j)
def mf_up (f : Int → Int) (k v : Int) : Int → Int := fun j => if j = k then v else f j
theorem mf_up_s {f : Int → Int} {k v : Int} : mf_up f k v k = v := if_pos rfl
theorem mf_up_n {f : Int → Int} {k v j : Int} (h : j ≠ k) : mf_up f k v j = f j := if_neg h
theorem ia_rd (f : Int → Int) {z : Int} (h0 : 0 ≤ z) (h1 : z < 2147483648) : ia f (iI z).toNatClampNeg = iI (f z) := by
  unfold ia
  rw [iI_cl h0 h1, Int.toNat_of_nonneg h0]
theorem ia_st (f : Int → Int) {z v : Int} (h0 : 0 ≤ z) (h1 : z < 2147483648) : upd (ia f) (iI z).toNatClampNeg (iI v) = ia (mf_up f z v) := by
  rw [iI_cl h0 h1]
  funext j
  show upd (ia f) z.toNat (iI v) j = iI (mf_up f z v j)
  unfold upd mf_up
  by_cases hj : j = z.toNat
  · have h2 : ((j : Nat) : Int) = z := by omega
    rw [if_pos hj, if_pos h2]
  · have h2 : ¬ ((j : Nat) : Int) = z := by omega
    rw [if_neg hj, if_neg h2]; rfl
theorem ia_0 : (fun _ : Nat => (0 : Int32)) = ia (fun _ => 0) := rfl
/-- a condition as an int -/
noncomputable def bP (P : Prop) : Int := @ite Int P (Classical.propDecidable P) 1 0
theorem bP_t {P : Prop} (h : P) : bP P = 1 := by unfold bP; exact if_pos h
theorem bP_f {P : Prop} (h : ¬ P) : bP P = 0 := by unfold bP; exact if_neg h
theorem bP_01 (P : Prop) : 0 ≤ bP P ∧ bP P ≤ 1 := by
  by_cases h : P
  · rw [bP_t h]; omega
  · rw [bP_f h]; omega
theorem bP_32 (P : Prop) : i32 (bP P) := by have := bP_01 P; exact ⟨by omega, by omega⟩
theorem bP_0 {P : Prop} : bP P = 0 ↔ ¬ P := ⟨fun h q => by rw [bP_t q] at h; omega, bP_f⟩
theorem bP_1 {P : Prop} : bP P = 1 ↔ P := ⟨fun h => Classical.byContradiction fun q => by rw [bP_f q] at h; omega, bP_t⟩
theorem bP_n0 {P : Prop} (h : ¬ bP P = 0) : P := Classical.byContradiction fun q => h (bP_f q)
theorem bP_cg {P Q : Prop} (h : P ↔ Q) : bP P = bP Q := by rw [propext h]
section MFR
variable {p : Program} {l : Launch} {e : Env} {R : Room} {s : State} {m : MethodId} {args : Array Value} {below : List Frame} {meth : Method} {c : Code} {H : Heap} {locs : List Loc} {cells slots : Nat} {Q : State → Prop}
variable {cc : ByteArray} {pc : Nat} {ls : Array Slot} {rest : List Value}
theorem mf_iconst (hx : p.tables.exec = Jvm.exec) (hb : c.code = cc) {n : Int} (hd : decode cc pc = .ok (.iconst n, 1)) (k : W p l e R s m args below meth c H locs cells slots Q (F0 m (pc + 1) ls (.int (iI n) :: rest))) : W p l e R s m args below meth c H locs cells slots Q (F0 m pc ls rest) := lv_iconst (v := iI n) hx hb hd rfl k
theorem mf_bipush (hx : p.tables.exec = Jvm.exec) (hb : c.code = cc) {n : Int} (hd : decode cc pc = .ok (.bipush n, 2)) (hv : (Int8.ofInt n).toInt32 = iI n) (k : W p l e R s m args below meth c H locs cells slots Q (F0 m (pc + 2) ls (.int (iI n) :: rest))) : W p l e R s m args below meth c H locs cells slots Q (F0 m pc ls rest) := lv_bipush (v := iI n) hx hb hd hv k
theorem mf_sipush (hx : p.tables.exec = Jvm.exec) (hb : c.code = cc) {n : Int} (hd : decode cc pc = .ok (.sipush n, 3)) (hv : (Int16.ofInt n).toInt32 = iI n) (k : W p l e R s m args below meth c H locs cells slots Q (F0 m (pc + 3) ls (.int (iI n) :: rest))) : W p l e R s m args below meth c H locs cells slots Q (F0 m pc ls rest) := lv_sipush (v := iI n) hx hb hd hv k
theorem mf_iadd (hx : p.tables.exec = Jvm.exec) (hb : c.code = cc) {x y : Int} (hd : decode cc pc = .ok (.iadd, 1)) (k : W p l e R s m args below meth c H locs cells slots Q (F0 m (pc + 1) ls (.int (iI (x + y)) :: rest))) : W p l e R s m args below meth c H locs cells slots Q (F0 m pc ls (.int (iI y) :: .int (iI x) :: rest)) := lv_iadd hx hb hd (by rw [← iI_add]; exact k)
theorem mf_isub (hx : p.tables.exec = Jvm.exec) (hb : c.code = cc) {x y : Int} (hd : decode cc pc = .ok (.isub, 1)) (k : W p l e R s m args below meth c H locs cells slots Q (F0 m (pc + 1) ls (.int (iI (x - y)) :: rest))) : W p l e R s m args below meth c H locs cells slots Q (F0 m pc ls (.int (iI y) :: .int (iI x) :: rest)) := lv_isub hx hb hd (by rw [← iI_sub]; exact k)
theorem mf_imul (hx : p.tables.exec = Jvm.exec) (hb : c.code = cc) {x y : Int} (hd : decode cc pc = .ok (.imul, 1)) (k : W p l e R s m args below meth c H locs cells slots Q (F0 m (pc + 1) ls (.int (iI (x * y)) :: rest))) : W p l e R s m args below meth c H locs cells slots Q (F0 m pc ls (.int (iI y) :: .int (iI x) :: rest)) := lv_imul hx hb hd (by rw [← iI_mul]; exact k)
theorem iI_div {x y : Int} (hx : i32 x) (hx0 : 0 ≤ x) (hy : i32 y) (hy0 : 0 < y) : iI x / iI y = iI (x / y) := by
  rw [iI_nat hx hx0, iI_nat hy (by omega), pk_div (by have := hx.2; omega) (by omega) (by have := hy.2; omega), nI_iI]
  congr 1
  rw [Int.natCast_ediv, Int.toNat_of_nonneg hx0, Int.toNat_of_nonneg (by omega)]
theorem iI_rem {x y : Int} (hx : i32 x) (hx0 : 0 ≤ x) (hy : i32 y) (hy0 : 0 < y) : iI x - iI x / iI y * iI y = iI (x % y) := by
  rw [iI_div hx hx0 hy hy0, ← iI_mul, ← iI_sub]
  congr 1
  have := Int.emod_add_mul_ediv x y
  rw [Int.mul_comm] at this
  omega
theorem mf_idiv (hx : p.tables.exec = Jvm.exec) (hb : c.code = cc) {x y : Int} (hd : decode cc pc = .ok (.idiv, 1)) (h1 : i32 x) (h2 : 0 ≤ x) (h3 : i32 y) (h4 : 0 < y) (k : W p l e R s m args below meth c H locs cells slots Q (F0 m (pc + 1) ls (.int (iI (x / y)) :: rest))) : W p l e R s m args below meth c H locs cells slots Q (F0 m pc ls (.int (iI y) :: .int (iI x) :: rest)) := lv_idiv hx hb hd (fun q => by have := (iI_eq h3 i32_0).mp q; omega) (by rw [iI_div h1 h2 h3 h4]; exact k)
theorem mf_irem (hx : p.tables.exec = Jvm.exec) (hb : c.code = cc) {x y : Int} (hd : decode cc pc = .ok (.irem, 1)) (h1 : i32 x) (h2 : 0 ≤ x) (h3 : i32 y) (h4 : 0 < y) (k : W p l e R s m args below meth c H locs cells slots Q (F0 m (pc + 1) ls (.int (iI (x % y)) :: rest))) : W p l e R s m args below meth c H locs cells slots Q (F0 m pc ls (.int (iI y) :: .int (iI x) :: rest)) := lv_irem hx hb hd (fun q => by have := (iI_eq h3 i32_0).mp q; omega) (by rw [iI_rem h1 h2 h3 h4]; exact k)
theorem mf_top (x y : Int) (h : x = y) (k : W p l e R s m args below meth c H locs cells slots Q (F0 m pc ls (.int (iI y) :: rest))) : W p l e R s m args below meth c H locs cells slots Q (F0 m pc ls (.int (iI x) :: rest)) := by rw [h]; exact k
theorem mf_nm {x : Int} (k : ∀ y : Int, y = x → W p l e R s m args below meth c H locs cells slots Q (F0 m pc ls (.int (iI y) :: rest))) : W p l e R s m args below meth c H locs cells slots Q (F0 m pc ls (.int (iI x) :: rest)) := k x rfl
theorem mf_icmp_eq (hx : p.tables.exec = Jvm.exec) (hb : c.code = cc) {x y : Int} {off : Int} {tgt : Nat} (hd : decode cc pc = .ok (.if_icmp .eq off, 3)) (ht : (pc : Int) + off = (tgt : Int)) (h1 : i32 x) (h2 : i32 y)
    (kt : x = y → W p l e R s m args below meth c H locs cells slots Q (F0 m tgt ls rest)) (kf : ¬ x = y → W p l e R s m args below meth c H locs cells slots Q (F0 m (pc + 3) ls rest)) : W p l e R s m args below meth c H locs cells slots Q (F0 m pc ls (.int (iI y) :: .int (iI x) :: rest)) := lv_icmp_eq hx hb hd ht (fun q => kt ((iI_eq h1 h2).mp q)) (fun q => kf (fun z => q ((iI_eq h1 h2).mpr z)))
theorem mf_icmp_ne (hx : p.tables.exec = Jvm.exec) (hb : c.code = cc) {x y : Int} {off : Int} {tgt : Nat} (hd : decode cc pc = .ok (.if_icmp .ne off, 3)) (ht : (pc : Int) + off = (tgt : Int)) (h1 : i32 x) (h2 : i32 y)
    (kt : ¬ x = y → W p l e R s m args below meth c H locs cells slots Q (F0 m tgt ls rest)) (kf : x = y → W p l e R s m args below meth c H locs cells slots Q (F0 m (pc + 3) ls rest)) : W p l e R s m args below meth c H locs cells slots Q (F0 m pc ls (.int (iI y) :: .int (iI x) :: rest)) := lv_icmp_ne hx hb hd ht (fun q => kt (fun z => q ((iI_eq h1 h2).mpr z))) (fun q => kf ((iI_eq h1 h2).mp q))
theorem mf_icmp_lt (hx : p.tables.exec = Jvm.exec) (hb : c.code = cc) {x y : Int} {off : Int} {tgt : Nat} (hd : decode cc pc = .ok (.if_icmp .lt off, 3)) (ht : (pc : Int) + off = (tgt : Int)) (h1 : i32 x) (h2 : i32 y)
    (kt : x < y → W p l e R s m args below meth c H locs cells slots Q (F0 m tgt ls rest)) (kf : y ≤ x → W p l e R s m args below meth c H locs cells slots Q (F0 m (pc + 3) ls rest)) : W p l e R s m args below meth c H locs cells slots Q (F0 m pc ls (.int (iI y) :: .int (iI x) :: rest)) := lv_icmp_lt hx hb hd ht (fun q => kt ((iI_lt h1 h2).mp q)) (fun q => kf (Int.not_lt.mp fun z => q ((iI_lt h1 h2).mpr z)))
theorem mf_icmp_ge (hx : p.tables.exec = Jvm.exec) (hb : c.code = cc) {x y : Int} {off : Int} {tgt : Nat} (hd : decode cc pc = .ok (.if_icmp .ge off, 3)) (ht : (pc : Int) + off = (tgt : Int)) (h1 : i32 x) (h2 : i32 y)
    (kt : y ≤ x → W p l e R s m args below meth c H locs cells slots Q (F0 m tgt ls rest)) (kf : x < y → W p l e R s m args below meth c H locs cells slots Q (F0 m (pc + 3) ls rest)) : W p l e R s m args below meth c H locs cells slots Q (F0 m pc ls (.int (iI y) :: .int (iI x) :: rest)) := lv_icmp_ge hx hb hd ht (fun q => kt ((iI_le h2 h1).mp q)) (fun q => kf (Int.not_le.mp fun z => q ((iI_le h2 h1).mpr z)))
theorem mf_icmp_gt (hx : p.tables.exec = Jvm.exec) (hb : c.code = cc) {x y : Int} {off : Int} {tgt : Nat} (hd : decode cc pc = .ok (.if_icmp .gt off, 3)) (ht : (pc : Int) + off = (tgt : Int)) (h1 : i32 x) (h2 : i32 y)
    (kt : y < x → W p l e R s m args below meth c H locs cells slots Q (F0 m tgt ls rest)) (kf : x ≤ y → W p l e R s m args below meth c H locs cells slots Q (F0 m (pc + 3) ls rest)) : W p l e R s m args below meth c H locs cells slots Q (F0 m pc ls (.int (iI y) :: .int (iI x) :: rest)) := lv_icmp_gt hx hb hd ht (fun q => kt ((iI_lt h2 h1).mp q)) (fun q => kf (Int.not_lt.mp fun z => q ((iI_lt h2 h1).mpr z)))
theorem mf_icmp_le (hx : p.tables.exec = Jvm.exec) (hb : c.code = cc) {x y : Int} {off : Int} {tgt : Nat} (hd : decode cc pc = .ok (.if_icmp .le off, 3)) (ht : (pc : Int) + off = (tgt : Int)) (h1 : i32 x) (h2 : i32 y)
    (kt : x ≤ y → W p l e R s m args below meth c H locs cells slots Q (F0 m tgt ls rest)) (kf : y < x → W p l e R s m args below meth c H locs cells slots Q (F0 m (pc + 3) ls rest)) : W p l e R s m args below meth c H locs cells slots Q (F0 m pc ls (.int (iI y) :: .int (iI x) :: rest)) := lv_icmp_le hx hb hd ht (fun q => kt ((iI_le h1 h2).mp q)) (fun q => kf (Int.not_le.mp fun z => q ((iI_le h1 h2).mpr z)))
theorem mf_if_eq (hx : p.tables.exec = Jvm.exec) (hb : c.code = cc) {x : Int} {off : Int} {tgt : Nat} (hd : decode cc pc = .ok (.ifCond .eq off, 3)) (ht : (pc : Int) + off = (tgt : Int)) (h1 : i32 x)
    (kt : x = 0 → W p l e R s m args below meth c H locs cells slots Q (F0 m tgt ls rest)) (kf : ¬ x = 0 → W p l e R s m args below meth c H locs cells slots Q (F0 m (pc + 3) ls rest)) : W p l e R s m args below meth c H locs cells slots Q (F0 m pc ls (.int (iI x) :: rest)) := lv_if_eq hx hb hd ht (fun q => kt ((iI_eq h1 i32_0).mp q)) (fun q => kf (fun z => q ((iI_eq h1 i32_0).mpr z)))
theorem mf_if_ne (hx : p.tables.exec = Jvm.exec) (hb : c.code = cc) {x : Int} {off : Int} {tgt : Nat} (hd : decode cc pc = .ok (.ifCond .ne off, 3)) (ht : (pc : Int) + off = (tgt : Int)) (h1 : i32 x)
    (kt : ¬ x = 0 → W p l e R s m args below meth c H locs cells slots Q (F0 m tgt ls rest)) (kf : x = 0 → W p l e R s m args below meth c H locs cells slots Q (F0 m (pc + 3) ls rest)) : W p l e R s m args below meth c H locs cells slots Q (F0 m pc ls (.int (iI x) :: rest)) := lv_if_ne hx hb hd ht (fun q => kt (fun z => q ((iI_eq h1 i32_0).mpr z))) (fun q => kf ((iI_eq h1 i32_0).mp q))
theorem mf_if_lt (hx : p.tables.exec = Jvm.exec) (hb : c.code = cc) {x : Int} {off : Int} {tgt : Nat} (hd : decode cc pc = .ok (.ifCond .lt off, 3)) (ht : (pc : Int) + off = (tgt : Int)) (h1 : i32 x)
    (kt : x < 0 → W p l e R s m args below meth c H locs cells slots Q (F0 m tgt ls rest)) (kf : 0 ≤ x → W p l e R s m args below meth c H locs cells slots Q (F0 m (pc + 3) ls rest)) : W p l e R s m args below meth c H locs cells slots Q (F0 m pc ls (.int (iI x) :: rest)) := lv_if_lt hx hb hd ht (fun q => kt ((iI_lt h1 i32_0).mp q)) (fun q => kf (Int.not_lt.mp fun z => q ((iI_lt h1 i32_0).mpr z)))
theorem mf_if_ge (hx : p.tables.exec = Jvm.exec) (hb : c.code = cc) {x : Int} {off : Int} {tgt : Nat} (hd : decode cc pc = .ok (.ifCond .ge off, 3)) (ht : (pc : Int) + off = (tgt : Int)) (h1 : i32 x)
    (kt : 0 ≤ x → W p l e R s m args below meth c H locs cells slots Q (F0 m tgt ls rest)) (kf : x < 0 → W p l e R s m args below meth c H locs cells slots Q (F0 m (pc + 3) ls rest)) : W p l e R s m args below meth c H locs cells slots Q (F0 m pc ls (.int (iI x) :: rest)) := lv_if_ge hx hb hd ht (fun q => kt ((iI_le i32_0 h1).mp q)) (fun q => kf (Int.not_le.mp fun z => q ((iI_le i32_0 h1).mpr z)))
theorem mf_if_gt (hx : p.tables.exec = Jvm.exec) (hb : c.code = cc) {x : Int} {off : Int} {tgt : Nat} (hd : decode cc pc = .ok (.ifCond .gt off, 3)) (ht : (pc : Int) + off = (tgt : Int)) (h1 : i32 x)
    (kt : 0 < x → W p l e R s m args below meth c H locs cells slots Q (F0 m tgt ls rest)) (kf : x ≤ 0 → W p l e R s m args below meth c H locs cells slots Q (F0 m (pc + 3) ls rest)) : W p l e R s m args below meth c H locs cells slots Q (F0 m pc ls (.int (iI x) :: rest)) := lv_if_gt hx hb hd ht (fun q => kt ((iI_lt i32_0 h1).mp q)) (fun q => kf (Int.not_lt.mp fun z => q ((iI_lt i32_0 h1).mpr z)))
theorem mf_if_le (hx : p.tables.exec = Jvm.exec) (hb : c.code = cc) {x : Int} {off : Int} {tgt : Nat} (hd : decode cc pc = .ok (.ifCond .le off, 3)) (ht : (pc : Int) + off = (tgt : Int)) (h1 : i32 x)
    (kt : x ≤ 0 → W p l e R s m args below meth c H locs cells slots Q (F0 m tgt ls rest)) (kf : 0 < x → W p l e R s m args below meth c H locs cells slots Q (F0 m (pc + 3) ls rest)) : W p l e R s m args below meth c H locs cells slots Q (F0 m pc ls (.int (iI x) :: rest)) := lv_if_le hx hb hd ht (fun q => kt ((iI_le h1 i32_0).mp q)) (fun q => kf (Int.not_le.mp fun z => q ((iI_le h1 i32_0).mpr z)))
/-- a condition that a method has told -/
theorem mf_bp_eq (hx : p.tables.exec = Jvm.exec) (hb : c.code = cc) {P : Prop} {off : Int} {tgt : Nat} (hd : decode cc pc = .ok (.ifCond .eq off, 3)) (ht : (pc : Int) + off = (tgt : Int))
    (kt : ¬ P → W p l e R s m args below meth c H locs cells slots Q (F0 m tgt ls rest)) (kf : P → W p l e R s m args below meth c H locs cells slots Q (F0 m (pc + 3) ls rest)) : W p l e R s m args below meth c H locs cells slots Q (F0 m pc ls (.int (iI (bP P)) :: rest)) := mf_if_eq hx hb hd ht (bP_32 P) (fun q => kt (bP_0.mp q)) (fun q => kf (bP_n0 q))
theorem mf_bp_ne (hx : p.tables.exec = Jvm.exec) (hb : c.code = cc) {P : Prop} {off : Int} {tgt : Nat} (hd : decode cc pc = .ok (.ifCond .ne off, 3)) (ht : (pc : Int) + off = (tgt : Int))
    (kt : P → W p l e R s m args below meth c H locs cells slots Q (F0 m tgt ls rest)) (kf : ¬ P → W p l e R s m args below meth c H locs cells slots Q (F0 m (pc + 3) ls rest)) : W p l e R s m args below meth c H locs cells slots Q (F0 m pc ls (.int (iI (bP P)) :: rest)) := mf_if_ne hx hb hd ht (bP_32 P) (fun q => kt (bP_n0 q)) (fun q => kf (bP_0.mp q))
end MFR
end
section
/-! 03.world: what the objects hold, the words of the nest, what a method that reads, or writes, is given -/
abbrev vwCl : List vw_C := [(RX0, TX0, 5), (RX1, TX1, 14), (RX2, TX2, 4), (RX3, TX3, 11)]
def nwF : List (String × Nat × String × String × String × String) := [("MeanderFarm", 100, "MeanderFarm$River", "thrown", "[I", "MeanderFarm"), ("MeanderFarm", 103, "MeanderFarm$River", "bank", "[I", "MeanderFarm"), ("MeanderFarm", 123, "MeanderFarm$River", "length", "I", "MeanderFarm"), ("MeanderFarm", 159, "MeanderFarm$Farms", "size", "I", "MeanderFarm"), ("MeanderFarm", 189, "MeanderFarm$River", "breaks", "I", "MeanderFarm"), ("MeanderFarm", 198, "MeanderFarm$River", "bulgedInto", "[Z", "MeanderFarm"), ("MeanderFarm", 217, "MeanderFarm$River", "year", "I", "MeanderFarm"), ("MeanderFarm", 53, "MeanderFarm$River", "hardness", "[I", "MeanderFarm"), ("MeanderFarm", 57, "MeanderFarm$River", "stones", "[Z", "MeanderFarm"), ("MeanderFarm", 68, "MeanderFarm$River", "flow", "[I", "MeanderFarm"), ("MeanderFarm", 71, "MeanderFarm$River", "wear", "[I", "MeanderFarm"), ("MeanderFarm", 74, "MeanderFarm$River", "place", "[I", "MeanderFarm"), ("MeanderFarm", 91, "MeanderFarm$River", "course", "[I", "MeanderFarm"), ("MeanderFarm", 94, "MeanderFarm$River", "direction", "[I", "MeanderFarm"), ("MeanderFarm$Farms", 43, "MeanderFarm$River", "place", "[I", "MeanderFarm"), ("MeanderFarm$Farms", 52, "MeanderFarm$River", "stones", "[Z", "MeanderFarm")]
def nwM : List (String × Nat × MethodName × String) := [("MeanderFarm", 110, ⟨"MeanderFarm$River", "canBulge", "(II)Z"⟩, "MeanderFarm"), ("MeanderFarm", 119, ⟨"MeanderFarm$River", "bulge", "(II)V"⟩, "MeanderFarm"), ("MeanderFarm", 127, ⟨"MeanderFarm$River", "isNeck", "(II)Z"⟩, "MeanderFarm"), ("MeanderFarm", 132, ⟨"MeanderFarm$River", "breakThrough", "(II)V"⟩, "MeanderFarm"), ("MeanderFarm", 135, ⟨"MeanderFarm$River", "necks", "()I"⟩, "MeanderFarm"), ("MeanderFarm", 138, ⟨"MeanderFarm$River", "widestNeck", "()I"⟩, "MeanderFarm"), ("MeanderFarm", 141, ⟨"MeanderFarm$River", "farthestAcross", "(I)I"⟩, "MeanderFarm"), ("MeanderFarm", 144, ⟨"MeanderFarm$River", "copyFrom", "(LMeanderFarm$River;)V"⟩, "MeanderFarm"), ("MeanderFarm", 148, ⟨"MeanderFarm$River", "flood", "()V"⟩, "MeanderFarm"), ("MeanderFarm", 15, ⟨"MeanderFarm$River", "<init>", "()V"⟩, "MeanderFarm"), ("MeanderFarm", 164, ⟨"MeanderFarm$Farms", "append", "(IIII)I"⟩, "MeanderFarm"), ("MeanderFarm", 168, ⟨"MeanderFarm$Farms", "isFarm", "(I)Z"⟩, "MeanderFarm"), ("MeanderFarm", 173, ⟨"MeanderFarm$Farms", "cellsOf", "(IILMeanderFarm$River;)I"⟩, "MeanderFarm"), ("MeanderFarm", 179, ⟨"MeanderFarm$River", "letPass", "(I)I"⟩, "MeanderFarm"), ("MeanderFarm", 213, ⟨"MeanderFarm$River", "digestFrom", "(J)J"⟩, "MeanderFarm"), ("MeanderFarm", 220, ⟨"MeanderFarm$River", "lakes", "()I"⟩, "MeanderFarm"), ("MeanderFarm", 223, ⟨"MeanderFarm$River", "bends", "()I"⟩, "MeanderFarm"), ("MeanderFarm", 226, ⟨"MeanderFarm$River", "allWear", "()I"⟩, "MeanderFarm"), ("MeanderFarm", 25, ⟨"MeanderFarm$Farms", "<init>", "()V"⟩, "MeanderFarm"), ("MeanderFarm", 60, ⟨"MeanderFarm$River", "cellsWithStones", "()I"⟩, "MeanderFarm"), ("MeanderFarm", 77, ⟨"MeanderFarm$River", "lakeYearsLeft", "(I)I"⟩, "MeanderFarm"), ("MeanderFarm", 81, ⟨"MeanderFarm$Farms", "farmsAt", "(II)I"⟩, "MeanderFarm"), ("MeanderFarm", 86, ⟨"MeanderFarm$River", "isInCourse", "(I)Z"⟩, "MeanderFarm"), ("MeanderFarm", 97, ⟨"MeanderFarm$River", "isStraight", "(I)Z"⟩, "MeanderFarm"), ("MeanderFarm$Farms", 32, ⟨"MeanderFarm", "cellNumber", "(II)I"⟩, "MeanderFarm"), ("MeanderFarm$Farms", 40, ⟨"MeanderFarm", "isCell", "(I)Z"⟩, "MeanderFarm"), ("MeanderFarm$Farms", 48, ⟨"MeanderFarm$River", "lakeYearsLeft", "(I)I"⟩, "MeanderFarm"), ("MeanderFarm$River", 70, ⟨"MeanderFarm", "isCell", "(I)Z"⟩, "MeanderFarm"), ("MeanderFarm$River", 83, ⟨"MeanderFarm", "directionTo", "(II)I"⟩, "MeanderFarm"), ("MeanderFarm$River", 89, ⟨"MeanderFarm", "neighbour", "(II)I"⟩, "MeanderFarm")]
/-- the links within the nest -/
def NW (U : State) : Prop := (∀ q ∈ nwF, va_Nw (.fieldLinkNest q.1 q.2.1 q.2.2.1 q.2.2.2.1 q.2.2.2.2.1 q.2.2.2.2.2) U) ∧ (∀ q ∈ nwM, va_Nw (.methodLinkNest q.1 q.2.1 q.2.2.1 q.2.2.2) U)
theorem NW.same {u U : State} (hvm : u.vm = U.vm) (h : NW u) : NW U := ⟨fun q hq => va_Nw.same rfl hvm (h.1 q hq), fun q hq => va_Nw.same rfl hvm (h.2 q hq)⟩
theorem NW.warm {s U : State} (hW : s.WarmedH U.vm) (h : NW s) : NW U := ⟨fun q hq => va_Nw.warmF hW (h.1 q hq), fun q hq => va_Nw.warmM hW (h.2 q hq)⟩
theorem NW.f {U : State} (h : NW U) (k : Nat) {q : String × Nat × String × String × String × String} (hq : nwF[k]? = some q) : va_Nw (.fieldLinkNest q.1 q.2.1 q.2.2.1 q.2.2.2.1 q.2.2.2.2.1 q.2.2.2.2.2) U := h.1 q (List.mem_of_getElem? hq)
theorem NW.m {U : State} (h : NW U) (k : Nat) {q : String × Nat × MethodName × String} (hq : nwM[k]? = some q) : va_Nw (.methodLinkNest q.1 q.2.1 q.2.2.1 q.2.2.2) U := h.2 q (List.mem_of_getElem? hq)
/-- the tables' numbers, and the classes of int[] and boolean[] -/
abbrev mf_G : Type := va_G × ClassId × ClassId
def mf_ty (G : mf_G) : List (ClassId × FieldType) := [(G.2.1, .int), (G.2.2, .boolean)]
/-- an object's values: by the field's number, a row of ints (a single int: its value at 0) -/
abbrev mf_V : Type := Nat → Int → Int
def mf_sF (r : mf_V) (k : Nat) (f : Int → Int) : mf_V := fun q => if q = k then f else r q
theorem mf_sF_s {r : mf_V} {k : Nat} {f : Int → Int} : mf_sF r k f k = f := if_pos rfl
theorem mf_sF_n {r : mf_V} {k q : Nat} {f : Int → Int} (h : q ≠ k) : mf_sF r k f q = r q := if_neg h
def RW (G : mf_G) (h : Nat) (ad : Nat → Nat) (r : mf_V) : va_W := [(h, .inr (1, [.ref (ad 0), .ref (ad 1), .ref (ad 2), .ref (ad 3), .ref (ad 4), .ref (ad 5), .ref (ad 6), .int (iI (r 7 0)), .int (iI (r 8 0)), .int (iI (r 9 0)), .ref (ad 10), .ref (ad 11), .ref (ad 12), .ref (ad 13)])), (ad 0, .inl (G.2.1, 384, .inl (ia (r 0)))), (ad 1, .inl (G.2.1, 384, .inl (ia (r 1)))), (ad 2, .inl (G.2.2, 384, .inl (ia (r 2)))), (ad 3, .inl (G.2.1, 384, .inl (ia (r 3)))), (ad 4, .inl (G.2.2, 384, .inl (ia (r 4)))), (ad 5, .inl (G.2.1, 12, .inl (ia (r 5)))), (ad 6, .inl (G.2.1, 150, .inl (ia (r 6)))), (ad 10, .inl (G.2.1, 384, .inl (ia (r 10)))), (ad 11, .inl (G.2.1, 150, .inl (ia (r 11)))), (ad 12, .inl (G.2.1, 150, .inl (ia (r 12)))), (ad 13, .inl (G.2.1, 150, .inl (ia (r 13))))]
def FW (G : mf_G) (h : Nat) (ad : Nat → Nat) (f : mf_V) : va_W := [(h, .inr (0, [.ref (ad 0), .ref (ad 1), .ref (ad 2), .ref (ad 3), .int (iI (f 4 0))])), (ad 0, .inl (G.2.1, 6, .inl (ia (f 0)))), (ad 1, .inl (G.2.1, 6, .inl (ia (f 1)))), (ad 2, .inl (G.2.1, 6, .inl (ia (f 2)))), (ad 3, .inl (G.2.1, 6, .inl (ia (f 3))))]
def MW (G : mf_G) (h : Nat) (ad : Nat → Nat) (u : mf_V) : va_W := [(h, .inr (3, [.int (iI (u 0 0)), .ref (ad 1), .ref (ad 2), .ref (ad 3), .int (iI (u 4 0)), .ref (ad 5), .ref (ad 6), .ref (ad 7), .ref (ad 8), .ref (ad 9), .ref (ad 10)])), (ad 1, .inl (G.2.1, 384, .inl (ia (u 1)))), (ad 2, .inl (G.2.2, 384, .inl (ia (u 2)))), (ad 3, .inl (G.2.1, 12, .inl (ia (u 3)))), (ad 5, .inl (G.2.1, 24, .inl (ia (u 5)))), (ad 6, .inl (G.2.1, 152, .inl (ia (u 6)))), (ad 7, .inl (G.2.1, 384, .inl (ia (u 7)))), (ad 8, .inl (G.2.1, 384, .inl (ia (u 8)))), (ad 9, .inl (G.2.1, 384, .inl (ia (u 9)))), (ad 10, .inl (G.2.1, 3, .inl (ia (u 10))))]
/-- a MeanderFarm itself, and its row of the endangered cells -/
def OW (G : mf_G) (h n a f : Nat) (ae : Nat) (x : mf_V) : va_W := [(h, .inr (2, [.ref n, .ref a, .ref f, .ref ae])), (ae, .inl (G.2.2, 384, .inl (ia (x 0))))]
/-- what a method that only reads is given -/
def RdP (G : mf_G) (ws : va_W) (U : State) : Prop := va_P G.1 vwCl ws U.heap ∧ va_K G.1 vwCl (mf_ty G) U ∧ NW U
/-- what a method that writes is given -/
def WrP (G : mf_G) (ws : va_W) (sz : Nat) (U : State) : Prop := U.heap.size = sz ∧ va_P G.1 vwCl ws U.heap ∧ va_K G.1 vwCl (mf_ty G) U ∧ va_D (fun _ => True) ws ∧ NW U
/-- what it leaves -/
def WrQ (G : mf_G) (A : Nat → Prop) (w1 : va_W) (t : State) : Prop := va_P G.1 vwCl w1 t.heap ∧ va_D A w1
theorem rdP_blind {G : mf_G} {ws : va_W} {av : List Value} : FrameBlind (va_Pc av (RdP G ws)) := fun a U g mk q => by
  obtain ⟨q0, qP, qK, qN⟩ := q
  exact ⟨q0, qP, va_K.moved (u := U) (U := U.calling g mk a) (Vm.Alike.refl U.vm) qK, NW.same (U := U.calling g mk a) rfl qN⟩
theorem wrP_blind {G : mf_G} {ws : va_W} {sz : Nat} {av : List Value} : FrameBlind (va_Pc av (WrP G ws sz)) := fun a U g mk q => by
  obtain ⟨q0, q1, qP, qK, qD, qN⟩ := q
  exact ⟨q0, q1, qP, va_K.moved (u := U) (U := U.calling g mk a) (Vm.Alike.refl U.vm) qK, qD, NW.same (U := U.calling g mk a) rfl qN⟩
theorem pure_blind {av : List Value} : FrameBlind (va_Pc av (fun _ => True)) := fun a U g mk q => q
section MFP
variable {G : mf_G} {s : State} {H : Heap} {ws wc : va_W}
theorem pureS {As : List Value} : PreS s H (va_Pc As (fun _ => True)) As := ⟨pure_blind, fun U _ _ => ⟨rfl, trivial⟩⟩
theorem rdS {As : List Value} (hK : va_K G.1 vwCl (mf_ty G) s) (hP : va_P G.1 vwCl ws H) (hN : NW s) (is : List Nat) (hs : is.filterMap (fun i => ws[i]?) = wc) : PreS s H (va_Pc As (RdP G wc)) As :=
  ⟨rdP_blind, fun U hU hW => ⟨rfl, by rw [hU]; exact hP.sub is hs, va_K.moved hW.alike hK, hN.warm hW⟩⟩
theorem rdV {As : List Value} {b ci : Nat} {q : vw_C} {fs : List Value} (hK : va_K G.1 vwCl (mf_ty G) s) (hP : va_P G.1 vwCl ws H) (hN : NW s) (is : List Nat) (hs : is.filterMap (fun i => ws[i]?) = wc) (hc : vwCl[ci]? = some q) (he : wc[0]? = some (b, .inr (ci, fs))) : PreV s H q.1 b (va_Pc (.ref b :: As) (RdP G wc)) As :=
  ⟨rdP_blind, va_recv hK (hP.sub is hs) hc he, fun U hU hW => ⟨rfl, by rw [hU]; exact hP.sub is hs, va_K.moved hW.alike hK, hN.warm hW⟩⟩
theorem wrV {A : Nat → Prop} {As : List Value} {b ci : Nat} {q : vw_C} {fs : List Value} (hK : va_K G.1 vwCl (mf_ty G) s) (hP : va_P G.1 vwCl ws H) (hD : va_D A ws) (hN : NW s) (is : List Nat) (hn : va_nd is = true) (hs : is.filterMap (fun i => ws[i]?) = wc) (hm : is.map (fun i => ws[i]?) = wc.map some) (hc : vwCl[ci]? = some q) (he : wc[0]? = some (b, .inr (ci, fs))) : PreV s H q.1 b (va_Pc (.ref b :: As) (WrP G wc H.size)) As :=
  ⟨wrP_blind, va_recv hK (hP.sub is hs) hc he, fun U hU hW => ⟨rfl, by rw [hU], by rw [hU]; exact hP.sub is hs, va_K.moved hW.alike hK, (hD.sub is hn hm).weaken (fun _ _ _ _ => trivial), hN.warm hW⟩⟩
/-- behind a call of a method that writes the whole world at hand -/
theorem wrJ {A : Nat → Prop} {w1 : va_W} {t : State} {H1 : Heap} (ht : t.heap = H1) (hF : ∀ q, va_A ws H.size q → A q) (hB : WrQ G (va_A ws H.size) w1 t) : va_P G.1 vwCl w1 H1 ∧ va_D A w1 := ⟨by rw [← ht]; exact hB.1, hB.2.weaken (fun _ q _ h => hF q.1 h)⟩
/-- behind a call of a method that writes a part of it -/
theorem wrJ2 {A : Nat → Prop} {wr w1 : va_W} {t : State} {H1 : Heap} (hP : va_P G.1 vwCl ws H) (hD : va_D A ws) (isC isR : List Nat) (hC : isC.map (fun i => ws[i]?) = wc.map some) (hR : isR.map (fun i => ws[i]?) = wr.map some) (hn : va_nd isR = true) (hdis : ∀ i ∈ isR, i ∉ isC) (hk : ∀ q : Nat, q < H.size → ¬ va_A wc H.size q → H1[q]? = H[q]?) (ht : t.heap = H1) (hF : ∀ q, va_A wc H.size q → A q) (hB : WrQ G (va_A wc H.size) w1 t) : va_P G.1 vwCl (wr ++ w1) H1 ∧ va_D A (wr ++ w1) :=
  va_join hP hD isC isR hC hR hn hdis hk hF (by rw [← ht]; exact hB.1) hB.2
end MFP
section MFA
variable {p : Program} {l : Launch} {e : Env} {R : Room} {s : State} {m : MethodId} {args : Array Value} {below : List Frame} {meth : Method} {c : Code} {H : Heap} {locs : List Loc} {cells slots : Nat} {Q : State → Prop}
variable {cc : ByteArray} {pc : Nat} {ls : Array Slot} {rest : List Value} {D : va_G} {cl : List vw_C} {tys : List (ClassId × FieldType)} {ws : va_W} {a : Nat} {A : Nat → Prop} {H0 : Heap}
theorem mf_iald (hx : p.tables.exec = Jvm.exec) (hb : c.code = cc) (hK : va_K D cl tys s) (hP : va_P D cl ws H) (q0 t0 : Nat) {cA : ClassId} {n : Nat} {f : Int → Int} (ha : ws[q0]? = some (a, .inl (cA, n, .inl (ia f)))) (ht : tys[t0]? = some (cA, .int)) {z : Int} (h0 : 0 ≤ z) (h1 : z < n) (hn : n < 2147483648) (hdg : decode cc pc = .ok (.iaload, 1))
    (kk : W p l e R s m args below meth c H locs cells slots Q (F0 m (pc + 1) ls (.int (iI (f z)) :: rest))) : W p l e R s m args below meth c H locs cells slots Q (F0 m pc ls (.int (iI z) :: .ref a :: rest)) :=
  va_iald hx hb hK hP q0 t0 ha ht (iI_in h0 h1 hn) hdg (by rw [ia_rd f h0 (by omega)]; exact kk)
theorem mf_zald (hx : p.tables.exec = Jvm.exec) (hb : c.code = cc) (hK : va_K D cl tys s) (hP : va_P D cl ws H) (q0 t0 : Nat) {cA : ClassId} {n : Nat} {f : Int → Int} (ha : ws[q0]? = some (a, .inl (cA, n, .inl (ia f)))) (ht : tys[t0]? = some (cA, .boolean)) {z : Int} (h0 : 0 ≤ z) (h1 : z < n) (hn : n < 2147483648) (hdg : decode cc pc = .ok (.baload, 1))
    (kk : W p l e R s m args below meth c H locs cells slots Q (F0 m (pc + 1) ls (.int (iI (f z)) :: rest))) : W p l e R s m args below meth c H locs cells slots Q (F0 m pc ls (.int (iI z) :: .ref a :: rest)) :=
  va_zald hx hb hK hP q0 t0 ha ht (iI_in h0 h1 hn) hdg (by rw [ia_rd f h0 (by omega)]; exact kk)
theorem mf_iast (hx : p.tables.exec = Jvm.exec) (hb : c.code = cc) (hK : va_K D cl tys s) (hP : va_P D cl ws H) (hD : va_D A ws) (hS : va_S A H0 H locs) (q0 t0 : Nat) {cA : ClassId} {n : Nat} {f : Int → Int} (ha : ws[q0]? = some (a, .inl (cA, n, .inl (ia f)))) (ht : tys[t0]? = some (cA, .int)) {z x : Int} (h0 : 0 ≤ z) (h1 : z < n) (hn : n < 2147483648) (hdg : decode cc pc = .ok (.iastore, 1))
    (kk : ∀ (H1 : Heap) (locs1 : List Loc), va_P D cl (ws.set q0 (a, .inl (cA, n, .inl (ia (mf_up f z x))))) H1 → va_D A (ws.set q0 (a, .inl (cA, n, .inl (ia (mf_up f z x))))) → va_S A H0 H1 locs1 → W p l e R s m args below meth c H1 locs1 cells slots Q (F0 m (pc + 1) ls rest)) : W p l e R s m args below meth c H locs cells slots Q (F0 m pc ls (.int (iI x) :: .int (iI z) :: .ref a :: rest)) :=
  va_iast hx hb hK hP hD hS q0 t0 ha ht (iI_in h0 h1 hn) hdg (by rw [ia_st f h0 (by omega)]; exact kk)
theorem mf_nz {x : Int} (h : x = 0 ∨ x = 1) : vp_nar .boolean (iI x) = iI x := by rcases h with h | h <;> subst h <;> rfl
theorem mf_zast (hx : p.tables.exec = Jvm.exec) (hb : c.code = cc) (hK : va_K D cl tys s) (hP : va_P D cl ws H) (hD : va_D A ws) (hS : va_S A H0 H locs) (q0 t0 : Nat) {cA : ClassId} {n : Nat} {f : Int → Int} (ha : ws[q0]? = some (a, .inl (cA, n, .inl (ia f)))) (ht : tys[t0]? = some (cA, .boolean)) {z x : Int} (h0 : 0 ≤ z) (h1 : z < n) (hn : n < 2147483648) (h01 : x = 0 ∨ x = 1) (hdg : decode cc pc = .ok (.bastore, 1))
    (kk : ∀ (H1 : Heap) (locs1 : List Loc), va_P D cl (ws.set q0 (a, .inl (cA, n, .inl (ia (mf_up f z x))))) H1 → va_D A (ws.set q0 (a, .inl (cA, n, .inl (ia (mf_up f z x))))) → va_S A H0 H1 locs1 → W p l e R s m args below meth c H1 locs1 cells slots Q (F0 m (pc + 1) ls rest)) : W p l e R s m args below meth c H locs cells slots Q (F0 m pc ls (.int (iI x) :: .int (iI z) :: .ref a :: rest)) :=
  va_zast hx hb hK hP hD hS q0 t0 ha ht (iI_in h0 h1 hn) hdg (by rw [mf_nz h01, ia_st f h0 (by omega)]; exact kk)
theorem z01 {x : Int} (h : x = 0 ∨ x = 1) : iI x &&& 1 = iI x := by rcases h with h | h <;> subst h <;> rfl
end MFA
end
section
/-! 04.rows: ranges of values, copies, Math, what the methods tell -/
def rOK (lo hi : Nat → Int) (r : mf_V) : Prop := ∀ (k : Nat) (z : Int), lo k ≤ r k z ∧ r k z ≤ hi k
theorem rOK_up {lo hi : Nat → Int} {r : mf_V} (h : rOK lo hi r) (k : Nat) (z v : Int) (h1 : lo k ≤ v) (h2 : v ≤ hi k) : rOK lo hi (mf_sF r k (mf_up (r k) z v)) := by
  intro q y
  unfold mf_sF
  by_cases hq : q = k
  · subst hq
    rw [if_pos rfl]
    unfold mf_up
    by_cases hy : y = z
    · rw [if_pos hy]; exact ⟨h1, h2⟩
    · rw [if_neg hy]; exact h q y
  · rw [if_neg hq]; exact h q y
theorem rOK_set {lo hi : Nat → Int} {r : mf_V} (h : rOK lo hi r) (k : Nat) (v : Int) (h1 : lo k ≤ v) (h2 : v ≤ hi k) : rOK lo hi (mf_sF r k (fun _ => v)) := by
  intro q y
  unfold mf_sF
  by_cases hq : q = k
  · subst hq
    rw [if_pos rfl]; exact ⟨h1, h2⟩
  · rw [if_neg hq]; exact h q y
def mf_cpy (f g : Int → Int) (sp dp n : Int) : Int → Int := fun k => if dp ≤ k ∧ k < dp + n then f (sp + (k - dp)) else g k
theorem rOK_cpx {lo hi lo2 hi2 : Nat → Int} {r r2 : mf_V} (h : rOK lo hi r) (h2 : rOK lo2 hi2 r2) (k k2 : Nat) (sp dp n : Int) (e1 : lo k = lo2 k2) (e2 : hi k = hi2 k2) : rOK lo2 hi2 (mf_sF r2 k2 (mf_cpy (r k) (r2 k2) sp dp n)) := by
  intro q y
  unfold mf_sF
  by_cases hq : q = k2
  · subst hq
    rw [if_pos rfl]
    unfold mf_cpy
    by_cases hy : dp ≤ y ∧ y < dp + n
    · rw [if_pos hy, ← e1, ← e2]; exact h k _
    · rw [if_neg hy]; exact h2 q y
  · rw [if_neg hq]; exact h2 q y
theorem rOK_cpy {lo hi : Nat → Int} {r r2 : mf_V} (h : rOK lo hi r) (h2 : rOK lo hi r2) (k : Nat) (sp dp n : Int) : rOK lo hi (mf_sF r2 k (mf_cpy (r k) (r2 k) sp dp n)) := rOK_cpx h h2 k k sp dp n rfl rfl
def rlo : Nat → Int := fun k => match k with
  | 10 => -1
  | 11 => -1
  | 12 => -1
  | 13 => -1
  | _ => 0
def rhi : Nat → Int := fun k => match k with
  | 0 => 9
  | 1 => 200000000
  | 2 => 1
  | 3 => 100000
  | 4 => 1
  | 5 => 9
  | 6 => 383
  | 7 => 150
  | 8 => 90000
  | 9 => 100000000
  | 10 => 149
  | 11 => 3
  | 12 => 3
  | _ => 383
def flo : Nat → Int := fun _ => 0
def fhi : Nat → Int := fun k => match k with
  | 0 => 23
  | 1 => 15
  | 2 => 24
  | 3 => 16
  | _ => 6
def ulo : Nat → Int := fun k => match k with
  | 0 => -1
  | 7 => -1
  | _ => 0
def uhi : Nat → Int := fun k => match k with
  | 0 => 9
  | 1 => 9
  | 2 => 1
  | 3 => 9
  | 4 => 6
  | 5 => 24
  | 6 => 383
  | 7 => 149
  | 8 => 200000000
  | 9 => 10
  | _ => 100000000
def xlo : Nat → Int := fun _ => 0
def xhi : Nat → Int := fun _ => 1
theorem mf_nar01 {v : Int} (h : 0 ≤ v ∧ v ≤ 1) : narrow .boolean (.int (iI v)) = .int (iI v) := by
  rcases (show v = 0 ∨ v = 1 by omega) with h | h <;> subst h <;> rfl
theorem mf_fit01 {v : Int} (h : 0 ≤ v ∧ v ≤ 1) : fits .boolean (.int (iI v)) = true := by
  rcases (show v = 0 ∨ v = 1 by omega) with h | h <;> subst h <;> rfl
def mf_absI (x : Int) : Int := if 0 ≤ x then x else -x
theorem mf_absI_s (x : Int) : (0 ≤ x ∧ mf_absI x = x) ∨ (x < 0 ∧ mf_absI x = -x) := by
  unfold mf_absI
  by_cases h : 0 ≤ x
  · rw [if_pos h]; exact Or.inl ⟨h, rfl⟩
  · rw [if_neg h]; exact Or.inr ⟨by omega, rfl⟩
theorem mf_cpy_ia (f g : Int → Int) {sp dp n : Int} (h1 : 0 ≤ sp) (h2 : 0 ≤ dp) (h3 : 0 ≤ n) (b1 : sp < 2147483648) (b2 : dp < 2147483648) (b3 : n < 2147483648) : va_cpy (ia f) (ia g) (iI sp).toNatClampNeg (iI dp).toNatClampNeg (iI n).toNatClampNeg = ia (mf_cpy f g sp dp n) := by
  rw [iI_cl h1 b1, iI_cl h2 b2, iI_cl h3 b3]
  funext j
  show (if dp.toNat ≤ j ∧ j < dp.toNat + n.toNat then iI (f ((sp.toNat + (j - dp.toNat) : Nat) : Int)) else iI (g (j : Int))) = iI (if dp ≤ (j : Int) ∧ (j : Int) < dp + n then f (sp + ((j : Int) - dp)) else g (j : Int))
  by_cases hj : dp.toNat ≤ j ∧ j < dp.toNat + n.toNat
  · have h5 : dp ≤ (j : Int) ∧ (j : Int) < dp + n := by omega
    rw [if_pos hj, if_pos h5]
    congr 2
    omega
  · have h5 : ¬ (dp ≤ (j : Int) ∧ (j : Int) < dp + n) := by omega
    rw [if_neg hj, if_neg h5]
theorem iI_nlt {z : Int} (h0 : 0 ≤ z) (h1 : z < 2147483648) : ¬ iI z < 0 := fun q => by have := (iI_lt (a := z) (b := 0) (i32_mk (by omega) h1) i32_0).mp q; omega
section MFC
variable {p : Program} {l : Launch} {e : Env} {R : Room} {s : State} {m : MethodId} {args : Array Value} {below : List Frame} {meth : Method} {c : Code} {H : Heap} {locs : List Loc} {cells slots : Nat} {Q : State → Prop}
variable {cc : ByteArray} {pc : Nat} {ls : Array Slot} {rest : List Value} {D : va_G} {cl : List vw_C} {tys : List (ClassId × FieldType)} {ws : va_W} {a : Nat} {A : Nat → Prop} {H0 : Heap}
theorem mf_copy {f g : Int → Int} {n0 n1 : Nat} (hx : p.tables.exec = Jvm.exec) (hb : c.code = cc) (hml : c.maxLocals = ls.size) {own : String} {index : Nat} (hown : s.vm.findClass own = some m.cls) (hlink : (Cond.methodLink own index arraycopyName).before args s = true) (hnat : (Cond.native arraycopyName).before args s = true) (hstat : (Cond.static arraycopyName).before args s = true) (hini : (Cond.initialized "java/lang/System").before args s = true)
    (hK : va_K D cl tys s) (hP : va_P D cl ws H) (hD : va_D A ws) (hS : va_S A H0 H locs) (q0 q1 t0 t1 : Nat) {a0 : Nat} {c0 c1 : ClassId} {ty : FieldType} (ha0 : ws[q0]? = some (a0, .inl (c0, n0, .inl (ia f)))) (ha1 : ws[q1]? = some (a, .inl (c1, n1, .inl (ia g)))) (ht0 : tys[t0]? = some (c0, ty)) (ht1 : tys[t1]? = some (c1, ty)) (hprim : refKind ty = false)
    {sp dp n : Int} (h1 : 0 ≤ sp) (h2 : 0 ≤ dp) (h3 : 0 ≤ n) (h4 : sp + n ≤ n0) (h5 : dp + n ≤ n1) (hn0 : n0 < 2147483648) (hn1 : n1 < 2147483648) (hfit : ∀ z : Int, fits ty (.int (iI (f z))) = true)
    (hframes : 1 ≤ R.frames) (hlocals : (rest.map fun v => v.category).sum + (nativeFrameWords "java/lang/System" "arraycopy" 5 + 11) ≤ R.locals) (hdg : decode cc pc = .ok (.invokestatic index, 3))
    (kk : ∀ (H1 : Heap) (locs1 : List Loc), va_P D cl (ws.set q1 (a, .inl (c1, n1, .inl (ia (mf_cpy f g sp dp n))))) H1 → va_D A (ws.set q1 (a, .inl (c1, n1, .inl (ia (mf_cpy f g sp dp n))))) → va_S A H0 H1 locs1 → W p l e R s m args below meth c H1 locs1 cells slots Q (F0 m (pc + 3) ls rest)) : W p l e R s m args below meth c H locs cells slots Q (F0 m pc ls (.int (iI n) :: .int (iI dp) :: .ref a :: .int (iI sp) :: .ref a0 :: rest)) :=
  va_copyi hx hb hml hown hlink hnat hstat hini hK hP hD hS q0 q1 t0 t1 ha0 ha1 ht0 ht1 hprim (iI_nlt h1 (by omega)) (iI_nlt h2 (by omega)) (iI_nlt h3 (by omega)) (by rw [iI_cl h1 (by omega), iI_cl h3 (by omega)]; omega) (by rw [iI_cl h2 (by omega), iI_cl h3 (by omega)]; omega) (fun i _ => hfit _) hframes hlocals hdg (by rw [mf_cpy_ia f g h1 h2 h3 (by omega) (by omega) (by omega)]; exact kk)
theorem mf_mmax (hx : p.tables.exec = Jvm.exec) (hb : c.code = cc) (hml : c.maxLocals = ls.size) {own : String} {index : Nat} (hown : s.vm.findClass own = some m.cls) (hlink : (Cond.methodLink own index Lib.Math.max.name).before args s = true) (hstat : (Cond.static Lib.Math.max.name).before args s = true) (hini : (Cond.initialized "java/lang/Math").before args s = true) (hcode : (Cond.code Lib.Math.max.name Lib.Math.max.code 2 (some .int)).before args s = true)
    (hframes : 1 ≤ R.frames) (hlocals : (rest.map fun v => v.category).sum + 13 ≤ R.locals) (hc : cells ≤ R.cells) (hs : slots ≤ R.slots) {x y : Int} (h1 : i32 x) (h2 : i32 y) (hdg : decode cc pc = .ok (.invokestatic index, 3))
    (kk : W p l e R s m args below meth c H locs cells slots Q (F0 m (pc + 3) ls (.int (iI (max x y)) :: rest))) : W p l e R s m args below meth c H locs cells slots Q (F0 m pc ls (.int (iI y) :: .int (iI x) :: rest)) :=
  va_mmax hx hb hml hown hlink hstat hini hcode hframes hlocals hc hs hdg (by
    by_cases h : x < y
    · rw [if_pos ((iI_lt h1 h2).mpr h)]; rw [show max x y = y by omega] at kk; exact kk
    · rw [if_neg (fun q => h ((iI_lt h1 h2).mp q))]; rw [show max x y = x by omega] at kk; exact kk)
theorem mf_abs (hx : p.tables.exec = Jvm.exec) (hb : c.code = cc) (hml : c.maxLocals = ls.size) {own : String} {index : Nat} (hown : s.vm.findClass own = some m.cls) (hlink : (Cond.methodLink own index Lib.Math.abs.name).before args s = true) (hstat : (Cond.static Lib.Math.abs.name).before args s = true) (hini : (Cond.initialized "java/lang/Math").before args s = true) (hcode : (Cond.code Lib.Math.abs.name Lib.Math.abs.code 1 (some .int)).before args s = true)
    (hframes : 1 ≤ R.frames) (hlocals : (rest.map fun v => v.category).sum + 13 ≤ R.locals) (hc : cells ≤ R.cells) (hs : slots ≤ R.slots) {x : Int} (h1 : i32 x) (hdg : decode cc pc = .ok (.invokestatic index, 3))
    (kk : W p l e R s m args below meth c H locs cells slots Q (F0 m (pc + 3) ls (.int (iI (mf_absI x)) :: rest))) : W p l e R s m args below meth c H locs cells slots Q (F0 m pc ls (.int (iI x) :: rest)) :=
  va_mabs hx hb hml hown hlink hstat hini hcode hframes hlocals hc hs hdg (by
    unfold mf_absI at kk
    by_cases h : 0 ≤ x
    · have h9 : (0 : Int32) ≤ iI x := (iI_le i32_0 h1).mpr h
      rw [if_pos h9]; rw [if_pos h] at kk; exact kk
    · have h9 : ¬ (0 : Int32) ≤ iI x := fun q => h ((iI_le i32_0 h1).mp q)
      rw [if_neg h9]; rw [if_neg h, iI_neg] at kk; rw [Int32.zero_sub]; exact kk)
end MFC
/-- a choice by a condition -/
noncomputable def mf_if (P : Prop) (x y : Int) : Int := @ite Int P (Classical.propDecidable P) x y
theorem mf_if_t {P : Prop} {x y : Int} (h : P) : mf_if P x y = x := by unfold mf_if; exact if_pos h
theorem mf_if_f {P : Prop} {x y : Int} (h : ¬ P) : mf_if P x y = y := by unfold mf_if; exact if_neg h
/-- the cell in a direction, -1 beyond the plain -/
def nbr (c d : Int) : Int := if c < 0 then -1 else if 384 ≤ c then -1 else if d = 0 then (if 24 ≤ c then c - 24 else -1) else if d = 1 then (if c % 24 < 23 then c + 1 else -1) else if d = 2 then (if c < 360 then c + 24 else -1) else if d = 3 then (if 0 < c % 24 then c - 1 else -1) else -1
theorem nbr_b (c d : Int) : -1 ≤ nbr c d ∧ nbr c d ≤ 383 := by
  unfold nbr
  repeat' split
  all_goals omega
/-- the direction of a cell from the one beside it, -1 if they are not side by side -/
def dirTo (a b : Int) : Int := if nbr a 0 ≠ -1 ∧ nbr a 0 = b then 0 else if nbr a 1 ≠ -1 ∧ nbr a 1 = b then 1 else if nbr a 2 ≠ -1 ∧ nbr a 2 = b then 2 else if nbr a 3 ≠ -1 ∧ nbr a 3 = b then 3 else -1
theorem dirTo_b (a b : Int) : -1 ≤ dirTo a b ∧ dirTo a b ≤ 3 := by
  unfold dirTo
  repeat' split
  all_goals omega
def inC (r : mf_V) (i : Int) : Prop := 0 ≤ i ∧ i < r 7 0
noncomputable def cellAtF (r : mf_V) (i : Int) : Int := mf_if (inC r i) (r 6 i) (-1)
theorem cellAtF_b {r : mf_V} (h : rOK rlo rhi r) (i : Int) : -1 ≤ cellAtF r i ∧ cellAtF r i ≤ 383 := by
  unfold cellAtF
  by_cases q : inC r i
  · rw [mf_if_t q]; have b : (0 : Int) ≤ r 6 i ∧ r 6 i ≤ 383 := h 6 i; omega
  · rw [mf_if_f q]; omega
noncomputable def placeOfF (r : mf_V) (c : Int) : Int := mf_if (0 ≤ c ∧ c < 384) (r 10 c) (-1)
theorem placeOfF_b {r : mf_V} (h : rOK rlo rhi r) (i : Int) : -1 ≤ placeOfF r i ∧ placeOfF r i ≤ 149 := by
  unfold placeOfF
  by_cases q : 0 ≤ i ∧ i < 384
  · rw [mf_if_t q]; have b : (-1 : Int) ≤ r 10 i ∧ r 10 i ≤ 149 := h 10 i; omega
  · rw [mf_if_f q]; omega
def strP (r : mf_V) (i : Int) : Prop := 0 < i ∧ i < r 7 0 - 1 ∧ r 11 (i - 1) = r 11 i
def openP (r : mf_V) (c : Int) : Prop := 0 ≤ c ∧ c < 384 ∧ r 10 c = -1 ∧ r 2 c = 0
def canB (r : mf_V) (i s : Int) : Prop := strP r i ∧ r 7 0 + 2 ≤ 150 ∧ 0 ≤ s ∧ s < 4 ∧ ¬ s % 2 = r 11 i % 2 ∧ openP r (nbr (cellAtF r (i - 1)) s) ∧ openP r (nbr (cellAtF r i) s) ∧ openP r (nbr (cellAtF r (i + 1)) s)
end
section
/-! 10.leaf: the functions of MeanderFarm that look at nothing but their numbers -/
def cellNo (x y : Int) : Int := if x < 0 ∨ 24 ≤ x ∨ y < 0 ∨ 16 ≤ y then -1 else x + 24 * y
theorem cellNo_b (x y : Int) : -1 ≤ cellNo x y ∧ cellNo x y ≤ 383 := by
  unfold cellNo
  split <;> omega
set_option maxHeartbeats 4000000 in
set_option maxRecDepth 100000 in
theorem c_X2_isGrade (l : Launch) (gv : Int) (hgv : i32 gv) : Met l yX2_isGrade wsX2_isGrade ({ frames := 0, cells := 0, slots := 0, locals := 0 }) (va_Pc [.int (iI (gv))] (fun _ => True)) (vp_Si (fun q => q = iI (bP (1 ≤ gv ∧ gv ≤ 9)))) 0 0 (fun _ => False) := by
  refine Met.ofW (cc := cX2_isGrade) (maxL := 1) (ret := (some .boolean)) (by decide) rfl ?_
  intro p e s m args below meth c s₁ B hml hv
  obtain ⟨rfl, -⟩ := hv
  have hx := B.exec
  have hb := B.bytes
  have hr := B.returns
  have hts := atoms_spec (ws := wsX2_isGrade) B.pre
  have hown : s.vm.findClass RX2 = some m.cls := findClass_of_methodNamed B.named
  have hlocks := B.notSynchronized
  have hl := lv_entry ([.int (iI (gv))]) (n := 1) (Nat.le_of_ble_eq_true rfl)
  rw [lg_entry_eq]
  generalize (lg_sl ([.int (iI (gv))]) ++ List.replicate (1 - (lg_sl ([.int (iI (gv))])).length) Slot.unset).toArray = ls at hl ⊢
  have hl : lv_has ls 1 [(0, .int (iI (gv)))] := hl
  have hgv1 := hgv.1
  have hgv2 := hgv.2
  refine lv_iload_n hx hb dX2_isGrade_0 rfl (lv_at hl 0 rfl) ?_
  refine mf_iconst hx hb dX2_isGrade_1 ?_
  refine mf_icmp_lt (tgt := 15) hx hb dX2_isGrade_2 (by decide) (i32_mk (by omega) (by omega)) (i32_mk (by decide) (by decide)) (fun c1 => ?_) (fun c1 => ?_)
  · skip
    refine mf_iconst hx hb dX2_isGrade_15 ?_
    exact W.zret hx hb hr (mf_nar01 (by omega)) (fun t ht hW => ⟨_, rfl, (congrArg iI (bP_f (by omega)).symm), ht⟩) t_nil dX2_isGrade_16
  · skip
    refine lv_iload_n hx hb dX2_isGrade_5 rfl (lv_at hl 0 rfl) ?_
    refine mf_bipush hx hb dX2_isGrade_6 rfl ?_
    refine mf_icmp_gt (tgt := 15) hx hb dX2_isGrade_8 (by decide) (i32_mk (by omega) (by omega)) (i32_mk (by decide) (by decide)) (fun c2 => ?_) (fun c2 => ?_)
    · skip
      refine mf_iconst hx hb dX2_isGrade_15 ?_
      exact W.zret hx hb hr (mf_nar01 (by omega)) (fun t ht hW => ⟨_, rfl, (congrArg iI (bP_f (by omega)).symm), ht⟩) t_nil dX2_isGrade_16
    · skip
      refine mf_iconst hx hb dX2_isGrade_11 ?_
      refine lv_goto (tgt := 16) hx hb dX2_isGrade_12 (by decide) ?_
      exact W.zret hx hb hr (mf_nar01 (by omega)) (fun t ht hW => ⟨_, rfl, (congrArg iI (bP_t (by omega)).symm), ht⟩) t_nil dX2_isGrade_16
set_option maxHeartbeats 4000000 in
set_option maxRecDepth 100000 in
theorem c_X2_isSpan (l : Launch) (sv : Int) (zv : Int) (ev : Int) (hsv : i32 sv) (hzv : i32 zv) (hev : i32 ev) (he : 0 ≤ ev) : Met l yX2_isSpan wsX2_isSpan ({ frames := 0, cells := 0, slots := 0, locals := 0 }) (va_Pc [.int (iI (sv)), .int (iI (zv)), .int (iI (ev))] (fun _ => True)) (vp_Si (fun q => q = iI (bP (0 ≤ sv ∧ sv < ev ∧ 1 ≤ zv ∧ zv ≤ ev - sv)))) 0 0 (fun _ => False) := by
  refine Met.ofW (cc := cX2_isSpan) (maxL := 3) (ret := (some .boolean)) (by decide) rfl ?_
  intro p e s m args below meth c s₁ B hml hv
  obtain ⟨rfl, -⟩ := hv
  have hx := B.exec
  have hb := B.bytes
  have hr := B.returns
  have hts := atoms_spec (ws := wsX2_isSpan) B.pre
  have hown : s.vm.findClass RX2 = some m.cls := findClass_of_methodNamed B.named
  have hlocks := B.notSynchronized
  have hl := lv_entry ([.int (iI (sv)), .int (iI (zv)), .int (iI (ev))]) (n := 3) (Nat.le_of_ble_eq_true rfl)
  rw [lg_entry_eq]
  generalize (lg_sl ([.int (iI (sv)), .int (iI (zv)), .int (iI (ev))]) ++ List.replicate (3 - (lg_sl ([.int (iI (sv)), .int (iI (zv)), .int (iI (ev))])).length) Slot.unset).toArray = ls at hl ⊢
  have hl : lv_has ls 3 [(0, .int (iI (sv))), (1, .int (iI (zv))), (2, .int (iI (ev)))] := hl
  have hsv1 := hsv.1
  have hsv2 := hsv.2
  have hzv1 := hzv.1
  have hzv2 := hzv.2
  have hev1 := hev.1
  have hev2 := hev.2
  refine lv_iload_n hx hb dX2_isSpan_0 rfl (lv_at hl 0 rfl) ?_
  refine mf_if_lt (tgt := 25) hx hb dX2_isSpan_1 (by decide) (i32_mk (by omega) (by omega)) (fun c1 => ?_) (fun c1 => ?_)
  · skip
    refine mf_iconst hx hb dX2_isSpan_25 ?_
    exact W.zret hx hb hr (mf_nar01 (by omega)) (fun t ht hW => ⟨_, rfl, (congrArg iI (bP_f (by omega)).symm), ht⟩) t_nil dX2_isSpan_26
  · skip
    refine lv_iload_n hx hb dX2_isSpan_4 rfl (lv_at hl 0 rfl) ?_
    refine lv_iload_n hx hb dX2_isSpan_5 rfl (lv_at hl 2 rfl) ?_
    refine mf_icmp_ge (tgt := 25) hx hb dX2_isSpan_6 (by decide) (i32_mk (by omega) (by omega)) (i32_mk (by omega) (by omega)) (fun c2 => ?_) (fun c2 => ?_)
    · skip
      refine mf_iconst hx hb dX2_isSpan_25 ?_
      exact W.zret hx hb hr (mf_nar01 (by omega)) (fun t ht hW => ⟨_, rfl, (congrArg iI (bP_f (by omega)).symm), ht⟩) t_nil dX2_isSpan_26
    · skip
      refine lv_iload_n hx hb dX2_isSpan_9 rfl (lv_at hl 1 rfl) ?_
      refine mf_iconst hx hb dX2_isSpan_10 ?_
      refine mf_icmp_lt (tgt := 25) hx hb dX2_isSpan_11 (by decide) (i32_mk (by omega) (by omega)) (i32_mk (by decide) (by decide)) (fun c3 => ?_) (fun c3 => ?_)
      · skip
        refine mf_iconst hx hb dX2_isSpan_25 ?_
        exact W.zret hx hb hr (mf_nar01 (by omega)) (fun t ht hW => ⟨_, rfl, (congrArg iI (bP_f (by omega)).symm), ht⟩) t_nil dX2_isSpan_26
      · skip
        refine lv_iload_n hx hb dX2_isSpan_14 rfl (lv_at hl 1 rfl) ?_
        refine lv_iload_n hx hb dX2_isSpan_15 rfl (lv_at hl 2 rfl) ?_
        refine lv_iload_n hx hb dX2_isSpan_16 rfl (lv_at hl 0 rfl) ?_
        refine mf_isub hx hb dX2_isSpan_17 ?_
        refine mf_icmp_gt (tgt := 25) hx hb dX2_isSpan_18 (by decide) (i32_mk (by omega) (by omega)) (i32_mk (by omega) (by omega)) (fun c4 => ?_) (fun c4 => ?_)
        · skip
          refine mf_iconst hx hb dX2_isSpan_25 ?_
          exact W.zret hx hb hr (mf_nar01 (by omega)) (fun t ht hW => ⟨_, rfl, (congrArg iI (bP_f (by omega)).symm), ht⟩) t_nil dX2_isSpan_26
        · skip
          refine mf_iconst hx hb dX2_isSpan_21 ?_
          refine lv_goto (tgt := 26) hx hb dX2_isSpan_22 (by decide) ?_
          exact W.zret hx hb hr (mf_nar01 (by omega)) (fun t ht hW => ⟨_, rfl, (congrArg iI (bP_t (by omega)).symm), ht⟩) t_nil dX2_isSpan_26
set_option maxHeartbeats 4000000 in
set_option maxRecDepth 100000 in
theorem c_X2_isCell (l : Launch) (cv : Int) (hcv : i32 cv) : Met l yX2_isCell wsX2_isCell ({ frames := 0, cells := 0, slots := 0, locals := 0 }) (va_Pc [.int (iI (cv))] (fun _ => True)) (vp_Si (fun q => q = iI (bP (0 ≤ cv ∧ cv < 384)))) 0 0 (fun _ => False) := by
  refine Met.ofW (cc := cX2_isCell) (maxL := 1) (ret := (some .boolean)) (by decide) rfl ?_
  intro p e s m args below meth c s₁ B hml hv
  obtain ⟨rfl, -⟩ := hv
  have hx := B.exec
  have hb := B.bytes
  have hr := B.returns
  have hts := atoms_spec (ws := wsX2_isCell) B.pre
  have hown : s.vm.findClass RX2 = some m.cls := findClass_of_methodNamed B.named
  have hlocks := B.notSynchronized
  have hl := lv_entry ([.int (iI (cv))]) (n := 1) (Nat.le_of_ble_eq_true rfl)
  rw [lg_entry_eq]
  generalize (lg_sl ([.int (iI (cv))]) ++ List.replicate (1 - (lg_sl ([.int (iI (cv))])).length) Slot.unset).toArray = ls at hl ⊢
  have hl : lv_has ls 1 [(0, .int (iI (cv)))] := hl
  have hcv1 := hcv.1
  have hcv2 := hcv.2
  refine lv_iload_n hx hb dX2_isCell_0 rfl (lv_at hl 0 rfl) ?_
  refine mf_if_lt (tgt := 15) hx hb dX2_isCell_1 (by decide) (i32_mk (by omega) (by omega)) (fun c1 => ?_) (fun c1 => ?_)
  · skip
    refine mf_iconst hx hb dX2_isCell_15 ?_
    exact W.zret hx hb hr (mf_nar01 (by omega)) (fun t ht hW => ⟨_, rfl, (congrArg iI (bP_f (by omega)).symm), ht⟩) t_nil dX2_isCell_16
  · skip
    refine lv_iload_n hx hb dX2_isCell_4 rfl (lv_at hl 0 rfl) ?_
    refine mf_sipush hx hb dX2_isCell_5 rfl ?_
    refine mf_icmp_ge (tgt := 15) hx hb dX2_isCell_8 (by decide) (i32_mk (by omega) (by omega)) (i32_mk (by decide) (by decide)) (fun c2 => ?_) (fun c2 => ?_)
    · skip
      refine mf_iconst hx hb dX2_isCell_15 ?_
      exact W.zret hx hb hr (mf_nar01 (by omega)) (fun t ht hW => ⟨_, rfl, (congrArg iI (bP_f (by omega)).symm), ht⟩) t_nil dX2_isCell_16
    · skip
      refine mf_iconst hx hb dX2_isCell_11 ?_
      refine lv_goto (tgt := 16) hx hb dX2_isCell_12 (by decide) ?_
      exact W.zret hx hb hr (mf_nar01 (by omega)) (fun t ht hW => ⟨_, rfl, (congrArg iI (bP_t (by omega)).symm), ht⟩) t_nil dX2_isCell_16
set_option maxHeartbeats 4000000 in
set_option maxRecDepth 100000 in
theorem c_X2_cellNumber (l : Launch) (xv : Int) (yv : Int) (hxv : i32 xv) (hyv : i32 yv) : Met l yX2_cellNumber wsX2_cellNumber ({ frames := 0, cells := 0, slots := 0, locals := 0 }) (va_Pc [.int (iI (xv)), .int (iI (yv))] (fun _ => True)) (vp_Si (fun q => q = iI (cellNo xv yv))) 0 0 (fun _ => False) := by
  refine Met.ofW (cc := cX2_cellNumber) (maxL := 2) (ret := (some .int)) (by decide) rfl ?_
  intro p e s m args below meth c s₁ B hml hv
  obtain ⟨rfl, -⟩ := hv
  have hx := B.exec
  have hb := B.bytes
  have hr := B.returns
  have hts := atoms_spec (ws := wsX2_cellNumber) B.pre
  have hown : s.vm.findClass RX2 = some m.cls := findClass_of_methodNamed B.named
  have hlocks := B.notSynchronized
  have hl := lv_entry ([.int (iI (xv)), .int (iI (yv))]) (n := 2) (Nat.le_of_ble_eq_true rfl)
  rw [lg_entry_eq]
  generalize (lg_sl ([.int (iI (xv)), .int (iI (yv))]) ++ List.replicate (2 - (lg_sl ([.int (iI (xv)), .int (iI (yv))])).length) Slot.unset).toArray = ls at hl ⊢
  have hl : lv_has ls 2 [(0, .int (iI (xv))), (1, .int (iI (yv)))] := hl
  have hxv1 := hxv.1
  have hxv2 := hxv.2
  have hyv1 := hyv.1
  have hyv2 := hyv.2
  refine lv_iload_n hx hb dX2_cellNumber_0 rfl (lv_at hl 0 rfl) ?_
  refine mf_if_lt (tgt := 20) hx hb dX2_cellNumber_1 (by decide) (i32_mk (by omega) (by omega)) (fun c1 => ?_) (fun c1 => ?_)
  · skip
    refine mf_iconst hx hb dX2_cellNumber_20 ?_
    exact W.iret hx hb hr (fun t ht hW => ⟨_, rfl, (congrArg iI (by unfold cellNo; split <;> omega)), ht⟩) t_nil dX2_cellNumber_21
  · skip
    refine lv_iload_n hx hb dX2_cellNumber_4 rfl (lv_at hl 0 rfl) ?_
    refine mf_bipush hx hb dX2_cellNumber_5 rfl ?_
    refine mf_icmp_ge (tgt := 20) hx hb dX2_cellNumber_7 (by decide) (i32_mk (by omega) (by omega)) (i32_mk (by decide) (by decide)) (fun c2 => ?_) (fun c2 => ?_)
    · skip
      refine mf_iconst hx hb dX2_cellNumber_20 ?_
      exact W.iret hx hb hr (fun t ht hW => ⟨_, rfl, (congrArg iI (by unfold cellNo; split <;> omega)), ht⟩) t_nil dX2_cellNumber_21
    · skip
      refine lv_iload_n hx hb dX2_cellNumber_10 rfl (lv_at hl 1 rfl) ?_
      refine mf_if_lt (tgt := 20) hx hb dX2_cellNumber_11 (by decide) (i32_mk (by omega) (by omega)) (fun c3 => ?_) (fun c3 => ?_)
      · skip
        refine mf_iconst hx hb dX2_cellNumber_20 ?_
        exact W.iret hx hb hr (fun t ht hW => ⟨_, rfl, (congrArg iI (by unfold cellNo; split <;> omega)), ht⟩) t_nil dX2_cellNumber_21
      · skip
        refine lv_iload_n hx hb dX2_cellNumber_14 rfl (lv_at hl 1 rfl) ?_
        refine mf_bipush hx hb dX2_cellNumber_15 rfl ?_
        refine mf_icmp_lt (tgt := 22) hx hb dX2_cellNumber_17 (by decide) (i32_mk (by omega) (by omega)) (i32_mk (by decide) (by decide)) (fun c4 => ?_) (fun c4 => ?_)
        · skip
          refine lv_iload_n hx hb dX2_cellNumber_22 rfl (lv_at hl 0 rfl) ?_
          refine mf_bipush hx hb dX2_cellNumber_23 rfl ?_
          refine lv_iload_n hx hb dX2_cellNumber_25 rfl (lv_at hl 1 rfl) ?_
          refine mf_imul hx hb dX2_cellNumber_26 ?_
          refine mf_iadd hx hb dX2_cellNumber_27 ?_
          exact W.iret hx hb hr (fun t ht hW => ⟨_, rfl, (congrArg iI (by unfold cellNo; split <;> omega)), ht⟩) t_nil dX2_cellNumber_28
        · skip
          refine mf_iconst hx hb dX2_cellNumber_20 ?_
          exact W.iret hx hb hr (fun t ht hW => ⟨_, rfl, (congrArg iI (by unfold cellNo; split <;> omega)), ht⟩) t_nil dX2_cellNumber_21
set_option maxHeartbeats 4000000 in
set_option maxRecDepth 100000 in
theorem c_X2_neighbour (l : Launch) (cv : Int) (dv : Int) (hcv : i32 cv) (hdv : i32 dv) : Met l yX2_neighbour wsX2_neighbour ({ frames := 0, cells := 0, slots := 0, locals := 0 }) (va_Pc [.int (iI (cv)), .int (iI (dv))] (fun _ => True)) (vp_Si (fun q => q = iI (nbr cv dv))) 0 0 (fun _ => False) := by
  refine Met.ofW (cc := cX2_neighbour) (maxL := 3) (ret := (some .int)) (by decide) rfl ?_
  intro p e s m args below meth c s₁ B hml hv
  obtain ⟨rfl, -⟩ := hv
  have hx := B.exec
  have hb := B.bytes
  have hr := B.returns
  have hts := atoms_spec (ws := wsX2_neighbour) B.pre
  have hown : s.vm.findClass RX2 = some m.cls := findClass_of_methodNamed B.named
  have hlocks := B.notSynchronized
  have hl := lv_entry ([.int (iI (cv)), .int (iI (dv))]) (n := 3) (Nat.le_of_ble_eq_true rfl)
  rw [lg_entry_eq]
  generalize (lg_sl ([.int (iI (cv)), .int (iI (dv))]) ++ List.replicate (3 - (lg_sl ([.int (iI (cv)), .int (iI (dv))])).length) Slot.unset).toArray = ls at hl ⊢
  have hl : lv_has ls 3 [(0, .int (iI (cv))), (1, .int (iI (dv)))] := hl
  have hcv1 := hcv.1
  have hcv2 := hcv.2
  have hdv1 := hdv.1
  have hdv2 := hdv.2
  refine lv_iload_n hx hb dX2_neighbour_0 rfl (lv_at hl 0 rfl) ?_
  refine mf_if_lt (tgt := 11) hx hb dX2_neighbour_1 (by decide) (i32_mk (by omega) (by omega)) (fun c1 => ?_) (fun c1 => ?_)
  · skip
    refine mf_iconst hx hb dX2_neighbour_11 ?_
    exact W.iret hx hb hr (fun t ht hW => ⟨_, rfl, (congrArg iI (by unfold nbr; (repeat' split) <;> omega)), ht⟩) t_nil dX2_neighbour_12
  · skip
    refine lv_iload_n hx hb dX2_neighbour_4 rfl (lv_at hl 0 rfl) ?_
    refine mf_sipush hx hb dX2_neighbour_5 rfl ?_
    refine mf_icmp_lt (tgt := 13) hx hb dX2_neighbour_8 (by decide) (i32_mk (by omega) (by omega)) (i32_mk (by decide) (by decide)) (fun c2 => ?_) (fun c2 => ?_)
    · skip
      refine lv_iload_n hx hb dX2_neighbour_13 rfl (lv_at hl 0 rfl) ?_
      refine mf_bipush hx hb dX2_neighbour_14 rfl ?_
      refine mf_irem hx hb dX2_neighbour_16 (i32_mk (by omega) (by omega)) (by omega) (i32_mk (by decide) (by decide)) (by omega) ?_
      refine lv_istore_n (lv' := [(2, .int (iI (cv % 24))), (0, .int (iI (cv))), (1, .int (iI (dv)))]) hx hb dX2_neighbour_17 rfl hl (by decide) rfl (fun ls hl => ?_)
      refine lv_iload_n hx hb dX2_neighbour_18 rfl (lv_at hl 2 rfl) ?_
      have w3 : i32 (dv) := (i32_mk (by omega) (by omega))
      rcases (show  (dv) = 0 ∨  (dv) = 1 ∨  (dv) = 2 ∨  (dv) = 3 ∨  ((dv) < 0 ∨ 3 < (dv)) by omega) with c4 | c4 | c4 | c4 | c4
      · skip
        refine lv_tableIn (off := 29) (tgt := 48) hx hb dX2_neighbour_19 (by rw [iI_toInt w3]; omega) (by rw [iI_toInt w3]; omega) (by rw [iI_toInt w3, c4]; rfl) (by decide) ?_
        refine lv_iload_n hx hb dX2_neighbour_48 rfl (lv_at hl 1 rfl) ?_
        refine mf_bipush hx hb dX2_neighbour_49 rfl ?_
        refine mf_icmp_lt (tgt := 61) hx hb dX2_neighbour_51 (by decide) (i32_mk (by omega) (by omega)) (i32_mk (by decide) (by decide)) (fun c5 => ?_) (fun c5 => ?_)
        · skip
          refine mf_iconst hx hb dX2_neighbour_61 ?_
          exact W.iret hx hb hr (fun t ht hW => ⟨_, rfl, (congrArg iI (by unfold nbr; (repeat' split) <;> omega)), ht⟩) t_nil dX2_neighbour_62
        · skip
          refine lv_iload_n hx hb dX2_neighbour_54 rfl (lv_at hl 1 rfl) ?_
          refine mf_bipush hx hb dX2_neighbour_55 rfl ?_
          refine mf_isub hx hb dX2_neighbour_57 ?_
          refine lv_goto (tgt := 62) hx hb dX2_neighbour_58 (by decide) ?_
          exact W.iret hx hb hr (fun t ht hW => ⟨_, rfl, (congrArg iI (by unfold nbr; (repeat' split) <;> omega)), ht⟩) t_nil dX2_neighbour_62
      · skip
        refine lv_tableIn (off := 44) (tgt := 63) hx hb dX2_neighbour_19 (by rw [iI_toInt w3]; omega) (by rw [iI_toInt w3]; omega) (by rw [iI_toInt w3, c4]; rfl) (by decide) ?_
        refine lv_iload_n hx hb dX2_neighbour_63 rfl (lv_at hl 0 rfl) ?_
        refine mf_bipush hx hb dX2_neighbour_64 rfl ?_
        refine mf_icmp_ge (tgt := 75) hx hb dX2_neighbour_66 (by decide) (i32_mk (by omega) (by omega)) (i32_mk (by decide) (by decide)) (fun c6 => ?_) (fun c6 => ?_)
        · skip
          refine mf_iconst hx hb dX2_neighbour_75 ?_
          exact W.iret hx hb hr (fun t ht hW => ⟨_, rfl, (congrArg iI (by unfold nbr; (repeat' split) <;> omega)), ht⟩) t_nil dX2_neighbour_76
        · skip
          refine lv_iload_n hx hb dX2_neighbour_69 rfl (lv_at hl 1 rfl) ?_
          refine mf_iconst hx hb dX2_neighbour_70 ?_
          refine mf_iadd hx hb dX2_neighbour_71 ?_
          refine lv_goto (tgt := 76) hx hb dX2_neighbour_72 (by decide) ?_
          exact W.iret hx hb hr (fun t ht hW => ⟨_, rfl, (congrArg iI (by unfold nbr; (repeat' split) <;> omega)), ht⟩) t_nil dX2_neighbour_76
      · skip
        refine lv_tableIn (off := 58) (tgt := 77) hx hb dX2_neighbour_19 (by rw [iI_toInt w3]; omega) (by rw [iI_toInt w3]; omega) (by rw [iI_toInt w3, c4]; rfl) (by decide) ?_
        refine lv_iload_n hx hb dX2_neighbour_77 rfl (lv_at hl 1 rfl) ?_
        refine mf_sipush hx hb dX2_neighbour_78 rfl ?_
        refine mf_icmp_ge (tgt := 91) hx hb dX2_neighbour_81 (by decide) (i32_mk (by omega) (by omega)) (i32_mk (by decide) (by decide)) (fun c7 => ?_) (fun c7 => ?_)
        · skip
          refine mf_iconst hx hb dX2_neighbour_91 ?_
          exact W.iret hx hb hr (fun t ht hW => ⟨_, rfl, (congrArg iI (by unfold nbr; (repeat' split) <;> omega)), ht⟩) t_nil dX2_neighbour_92
        · skip
          refine lv_iload_n hx hb dX2_neighbour_84 rfl (lv_at hl 1 rfl) ?_
          refine mf_bipush hx hb dX2_neighbour_85 rfl ?_
          refine mf_iadd hx hb dX2_neighbour_87 ?_
          refine lv_goto (tgt := 92) hx hb dX2_neighbour_88 (by decide) ?_
          exact W.iret hx hb hr (fun t ht hW => ⟨_, rfl, (congrArg iI (by unfold nbr; (repeat' split) <;> omega)), ht⟩) t_nil dX2_neighbour_92
      · skip
        refine lv_tableIn (off := 74) (tgt := 93) hx hb dX2_neighbour_19 (by rw [iI_toInt w3]; omega) (by rw [iI_toInt w3]; omega) (by rw [iI_toInt w3, c4]; rfl) (by decide) ?_
        refine lv_iload_n hx hb dX2_neighbour_93 rfl (lv_at hl 0 rfl) ?_
        refine mf_if_le (tgt := 103) hx hb dX2_neighbour_94 (by decide) (i32_mk (by omega) (by omega)) (fun c8 => ?_) (fun c8 => ?_)
        · skip
          refine mf_iconst hx hb dX2_neighbour_103 ?_
          exact W.iret hx hb hr (fun t ht hW => ⟨_, rfl, (congrArg iI (by unfold nbr; (repeat' split) <;> omega)), ht⟩) t_nil dX2_neighbour_104
        · skip
          refine lv_iload_n hx hb dX2_neighbour_97 rfl (lv_at hl 1 rfl) ?_
          refine mf_iconst hx hb dX2_neighbour_98 ?_
          refine mf_isub hx hb dX2_neighbour_99 ?_
          refine lv_goto (tgt := 104) hx hb dX2_neighbour_100 (by decide) ?_
          exact W.iret hx hb hr (fun t ht hW => ⟨_, rfl, (congrArg iI (by unfold nbr; (repeat' split) <;> omega)), ht⟩) t_nil dX2_neighbour_104
      · skip
        refine lv_tableOut (tgt := 105) hx hb dX2_neighbour_19 (by rw [iI_toInt w3]; omega) (by decide) ?_
        refine mf_iconst hx hb dX2_neighbour_105 ?_
        exact W.iret hx hb hr (fun t ht hW => ⟨_, rfl, (congrArg iI (by unfold nbr; (repeat' split) <;> omega)), ht⟩) t_nil dX2_neighbour_106
    · skip
      refine mf_iconst hx hb dX2_neighbour_11 ?_
      exact W.iret hx hb hr (fun t ht hW => ⟨_, rfl, (congrArg iI (by unfold nbr; (repeat' split) <;> omega)), ht⟩) t_nil dX2_neighbour_12
set_option maxHeartbeats 4000000 in
set_option maxRecDepth 100000 in
theorem c_X2_directionTo (l : Launch) (av : Int) (bv : Int) (hav : i32 av) (hbv : i32 bv) : Met l yX2_directionTo wsX2_directionTo ({ frames := 1, cells := 0, slots := 0, locals := 22 }) (va_Pc [.int (iI (av)), .int (iI (bv))] (fun _ => True)) (vp_Si (fun q => q = iI (dirTo av bv))) 0 0 (fun _ => False) := by
  refine Met.ofW (cc := cX2_directionTo) (maxL := 4) (ret := (some .int)) (by decide) rfl ?_
  intro p e s m args below meth c s₁ B hml hv
  obtain ⟨rfl, -⟩ := hv
  have hx := B.exec
  have hb := B.bytes
  have hr := B.returns
  have hts := atoms_spec (ws := wsX2_directionTo) B.pre
  have hown : s.vm.findClass RX2 = some m.cls := findClass_of_methodNamed B.named
  have hlocks := B.notSynchronized
  have hl := lv_entry ([.int (iI (av)), .int (iI (bv))]) (n := 4) (Nat.le_of_ble_eq_true rfl)
  rw [lg_entry_eq]
  generalize (lg_sl ([.int (iI (av)), .int (iI (bv))]) ++ List.replicate (4 - (lg_sl ([.int (iI (av)), .int (iI (bv))])).length) Slot.unset).toArray = ls at hl ⊢
  have hl : lv_has ls 4 [(0, .int (iI (av))), (1, .int (iI (bv)))] := hl
  have hav1 := hav.1
  have hav2 := hav.2
  have hbv1 := hbv.1
  have hbv2 := hbv.2
  refine mf_iconst hx hb dX2_directionTo_0 ?_
  refine lv_istore_n (lv' := [(2, .int (iI (0))), (0, .int (iI (av))), (1, .int (iI (bv)))]) hx hb dX2_directionTo_1 rfl hl (by decide) rfl (fun ls hl => ?_)
  have lp2 : ∀ (n : Nat) (k : Int), (4 - k).toNat < n → (0 ≤ k ∧ k ≤ 4) → (0 < k → ¬ (nbr av 0 ≠ -1 ∧ nbr av 0 = bv)) → (1 < k → ¬ (nbr av 1 ≠ -1 ∧ nbr av 1 = bv)) → (2 < k → ¬ (nbr av 2 ≠ -1 ∧ nbr av 2 = bv)) → (3 < k → ¬ (nbr av 3 ≠ -1 ∧ nbr av 3 = bv)) → ∀ (ls : Array Slot), lv_has ls 4 [(0, .int (iI (av))), (1, .int (iI (bv))), (2, .int (iI (k)))] → W p l e (headSpec wsX2_directionTo ({ frames := 1, cells := 0, slots := 0, locals := 22 })).room s m ([.int (iI (av)), .int (iI (bv))] : List Value).toArray below meth c s.heap [] 0 0 (MQ below (vp_Si (fun q => q = iI (dirTo av bv))) ([.int (iI (av)), .int (iI (bv))] : List Value).toArray s 0 0 (fun _ => False)) (F0 m 2 ls []) := by
    intro n
    induction n with
    | zero => intro k hn; exact absurd hn (Nat.not_lt_zero _)
    | succ n ih2 =>
      intro k hn hk h0 h1 h2 h3 ls hl
      refine lv_iload_n hx hb dX2_directionTo_2 rfl (lv_at hl 2 rfl) ?_
      refine mf_iconst hx hb dX2_directionTo_3 ?_
      refine mf_icmp_ge (tgt := 31) hx hb dX2_directionTo_4 (by decide) (i32_mk (by omega) (by omega)) (i32_mk (by decide) (by decide)) (fun c1 => ?_) (fun c1 => ?_)
      · skip
        refine mf_iconst hx hb dX2_directionTo_31 ?_
        exact W.iret hx hb hr (fun t ht hW => ⟨_, rfl, (congrArg iI (by unfold dirTo; (repeat' split) <;> omega)), ht⟩) t_nil dX2_directionTo_32
      · skip
        refine lv_iload_n hx hb dX2_directionTo_7 rfl (lv_at hl 0 rfl) ?_
        refine lv_iload_n hx hb dX2_directionTo_8 rfl (lv_at hl 2 rfl) ?_
        refine vp_callSi (va_Run.run (va_runS (As := [.int (iI (av)), .int (iI (k))]) (rest := []) ⟨hx, hb, hml, hown, hts⟩ (c_X2_neighbour l (av) (k) (i32_mk (by omega) (by omega)) (i32_mk (by omega) (by omega))) (va_cwS 2 hts gX2_directionTo_X2_neighbour rfl rfl rfl (by decide +kernel) ⟨Nat.le_of_ble_eq_true rfl, Nat.le_of_ble_eq_true rfl⟩) pureS rfl rfl hl.1 rfl (lv_room (Nat.le_of_ble_eq_true rfl)) dX2_directionTo_9 ⟨(Nat.zero_le _), (Nat.zero_le _)⟩)) (fun q2 hq2 => ?_)
        subst hq2
        refine mf_nm (fun y3 ey3 => ?_)
        have b4 : -1 ≤ y3 ∧ y3 ≤ 383 := by rw [ey3]; exact nbr_b av k
        refine lv_istore_n (lv' := [(3, .int (iI (y3))), (0, .int (iI (av))), (1, .int (iI (bv))), (2, .int (iI (k)))]) hx hb dX2_directionTo_12 rfl hl (by decide) rfl (fun ls hl => ?_)
        refine lv_iload_n hx hb dX2_directionTo_13 rfl (lv_at hl 0 rfl) ?_
        refine mf_iconst hx hb dX2_directionTo_14 ?_
        refine mf_icmp_eq (tgt := 25) hx hb dX2_directionTo_15 (by decide) (i32_mk (by omega) (by omega)) (i32_mk (by decide) (by decide)) (fun c5 => ?_) (fun c5 => ?_)
        · skip
          refine lv_iinc (v := iI (k + 1)) (lv' := [(2, .int (iI (k + 1))), (3, .int (iI (y3))), (0, .int (iI (av))), (1, .int (iI (bv)))]) hx hb dX2_directionTo_25 hl (k := 3) rfl (iI_add _ _).symm (by decide) rfl (fun ls hl => ?_)
          refine lv_goto (tgt := 2) hx hb dX2_directionTo_28 (by decide) ?_
          exact ih2 (k + 1) (by omega) (by first | assumption | omega) (by intro q; first | omega | (have := h0; rcases (show k = 0 ∨ 0 < k by omega) with rfl | z <;> omega)) (by intro q; first | omega | (have := h1; rcases (show k = 1 ∨ 1 < k by omega) with rfl | z <;> omega)) (by intro q; first | omega | (have := h2; rcases (show k = 2 ∨ 2 < k by omega) with rfl | z <;> omega)) (by intro q; first | omega | (have := h3; rcases (show k = 3 ∨ 3 < k by omega) with rfl | z <;> omega))  ls (lv_sub hl [2, 3, 0] rfl)
        · skip
          refine lv_iload_n hx hb dX2_directionTo_18 rfl (lv_at hl 0 rfl) ?_
          refine lv_iload_n hx hb dX2_directionTo_19 rfl (lv_at hl 2 rfl) ?_
          refine mf_icmp_ne (tgt := 25) hx hb dX2_directionTo_20 (by decide) (i32_mk (by omega) (by omega)) (i32_mk (by omega) (by omega)) (fun c6 => ?_) (fun c6 => ?_)
          · skip
            refine lv_iinc (v := iI (k + 1)) (lv' := [(2, .int (iI (k + 1))), (3, .int (iI (y3))), (0, .int (iI (av))), (1, .int (iI (bv)))]) hx hb dX2_directionTo_25 hl (k := 3) rfl (iI_add _ _).symm (by decide) rfl (fun ls hl => ?_)
            refine lv_goto (tgt := 2) hx hb dX2_directionTo_28 (by decide) ?_
            exact ih2 (k + 1) (by omega) (by first | assumption | omega) (by intro q; first | omega | (have := h0; rcases (show k = 0 ∨ 0 < k by omega) with rfl | z <;> omega)) (by intro q; first | omega | (have := h1; rcases (show k = 1 ∨ 1 < k by omega) with rfl | z <;> omega)) (by intro q; first | omega | (have := h2; rcases (show k = 2 ∨ 2 < k by omega) with rfl | z <;> omega)) (by intro q; first | omega | (have := h3; rcases (show k = 3 ∨ 3 < k by omega) with rfl | z <;> omega))  ls (lv_sub hl [2, 3, 0] rfl)
          · skip
            refine lv_iload_n hx hb dX2_directionTo_23 rfl (lv_at hl 3 rfl) ?_
            exact W.iret hx hb hr (fun t ht hW => ⟨_, rfl, (congrArg iI (by rcases (show k = 0 ∨ k = 1 ∨ k = 2 ∨ k = 3 by omega) with rfl | rfl | rfl | rfl <;> unfold dirTo <;> (repeat' split) <;> omega)), ht⟩) t_nil dX2_directionTo_24
  exact lp2 (_ + 1) 0 (Nat.lt_succ_self _) (by first | assumption | omega) (by intro q; first | omega | (have := h0; rcases (show k = 0 ∨ 0 < k by omega) with rfl | z <;> omega)) (by intro q; first | omega | (have := h1; rcases (show k = 1 ∨ 1 < k by omega) with rfl | z <;> omega)) (by intro q; first | omega | (have := h2; rcases (show k = 2 ∨ 2 < k by omega) with rfl | z <;> omega)) (by intro q; first | omega | (have := h3; rcases (show k = 3 ∨ 3 < k by omega) with rfl | z <;> omega))  ls (lv_sub hl [1, 2, 0] rfl)
end
section
/-! 11.read: what a river tells -/
def msum (f : Int → Int) (k : Int) : Int := Nat.rec (motive := fun _ => Int) 0 (fun n x => x + f n) k.toNat
theorem msum_0 (f : Int → Int) : msum f 0 = 0 := rfl
theorem msum_s (f : Int → Int) {k : Int} (h : 0 ≤ k) : msum f (k + 1) = msum f k + f k := by
  obtain ⟨n, rfl⟩ := Int.eq_ofNat_of_zero_le h
  unfold msum
  rw [show ((n : Int) + 1).toNat = n + 1 by omega, show ((n : Int)).toNat = n by omega]
theorem msum_b {f : Int → Int} {lo hi : Int} (hl : lo ≤ 0) (hh : 0 ≤ hi) (h : ∀ z, lo ≤ f z ∧ f z ≤ hi) : ∀ n : Nat, lo * n ≤ msum f n ∧ msum f n ≤ hi * n := by
  intro n
  induction n with
  | zero => rw [show ((0 : Nat) : Int) = 0 from rfl, msum_0]; omega
  | succ n ih =>
    rw [show ((n + 1 : Nat) : Int) = (n : Int) + 1 from rfl, msum_s f (by omega), Int.mul_add, Int.mul_add]
    have := h n
    omega
def neckP (r : mf_V) (i j : Int) : Prop := inC r i ∧ inC r j ∧ 3 ≤ j - i ∧ ¬ dirTo (r 6 i) (r 6 j) = -1
/-- the cell across which one comes to the farthest number, by the first k sides -/
noncomputable def farG (r : mf_V) (i : Int) (k : Int) : Int := Nat.rec (motive := fun _ => Int) (-1) (fun n x => mf_if (3 ≤ placeOfF r (nbr (cellAtF r i) n) - i ∧ x < placeOfF r (nbr (cellAtF r i) n)) (placeOfF r (nbr (cellAtF r i) n)) x) k.toNat
theorem farG_0 (r : mf_V) (i : Int) : farG r i 0 = -1 := rfl
theorem farG_s (r : mf_V) (i : Int) {k : Int} (h : 0 ≤ k) : farG r i (k + 1) = mf_if (3 ≤ placeOfF r (nbr (cellAtF r i) k) - i ∧ farG r i k < placeOfF r (nbr (cellAtF r i) k)) (placeOfF r (nbr (cellAtF r i) k)) (farG r i k) := by
  obtain ⟨n, rfl⟩ := Int.eq_ofNat_of_zero_le h
  unfold farG
  rw [show ((n : Int) + 1).toNat = n + 1 by omega, show ((n : Int)).toNat = n by omega]
noncomputable def farF (r : mf_V) (i : Int) : Int := farG r i 4
theorem farG_b {r : mf_V} (h : rOK rlo rhi r) (i : Int) : ∀ n : Nat, -1 ≤ farG r i n ∧ farG r i n ≤ 149 := by
  intro n
  induction n with
  | zero => rw [show ((0 : Nat) : Int) = 0 from rfl, farG_0]; omega
  | succ n ih =>
    rw [show ((n + 1 : Nat) : Int) = (n : Int) + 1 from rfl, farG_s r i (by omega)]
    have b := placeOfF_b h (nbr (cellAtF r i) n)
    by_cases q : 3 ≤ placeOfF r (nbr (cellAtF r i) n) - i ∧ farG r i n < placeOfF r (nbr (cellAtF r i) n)
    · rw [mf_if_t q]; exact b
    · rw [mf_if_f q]; exact ih
theorem farF_b {r : mf_V} (h : rOK rlo rhi r) (i : Int) : -1 ≤ farF r i ∧ farF r i ≤ 149 := farG_b h i 4
/-- the widest neck of the first k cells, and how far apart its ends are -/
noncomputable def widG (r : mf_V) (k : Int) : Int × Int := Nat.rec (motive := fun _ => Int × Int) (-1, 0) (fun n x => @ite _ (x.2 < farF r n - n) (Classical.propDecidable _) ((n : Int), farF r n - n) x) k.toNat
theorem widG_0 (r : mf_V) : widG r 0 = (-1, 0) := rfl
theorem widG_s (r : mf_V) {k : Int} (h : 0 ≤ k) : widG r (k + 1) = @ite _ ((widG r k).2 < farF r k - k) (Classical.propDecidable _) (k, farF r k - k) (widG r k) := by
  obtain ⟨n, rfl⟩ := Int.eq_ofNat_of_zero_le h
  unfold widG
  rw [show ((n : Int) + 1).toNat = n + 1 by omega, show ((n : Int)).toNat = n by omega]
theorem widG_t (r : mf_V) {k : Int} (h : 0 ≤ k) (q : (widG r k).2 < farF r k - k) : widG r (k + 1) = (k, farF r k - k) := by rw [widG_s r h]; exact if_pos q
theorem widG_f (r : mf_V) {k : Int} (h : 0 ≤ k) (q : ¬ (widG r k).2 < farF r k - k) : widG r (k + 1) = widG r k := by rw [widG_s r h]; exact if_neg q
noncomputable def widF (r : mf_V) : Int := (widG r (r 7 0)).1
noncomputable def lyl (r : mf_V) (c : Int) : Int := mf_if (0 ≤ c ∧ c < 384) (max 0 (r 3 c - r 8 0)) 0
noncomputable def neckF (r : mf_V) : Int := msum (fun i => msum (fun d => bP (3 ≤ placeOfF r (nbr (r 6 i) d) - i)) 4) (r 7 0)
noncomputable def lakesF (r : mf_V) : Int := msum (fun c => bP (r 8 0 < r 3 c)) 384
noncomputable def stonesF (r : mf_V) : Int := msum (fun c => bP (¬ r 2 c = 0)) 384
noncomputable def bendsF (r : mf_V) : Int := msum (fun c => bP (1 ≤ c ∧ ¬ strP r c)) (r 7 0 - 1)
def wearF (r : mf_V) : Int := msum (r 1) 384
theorem lyl_b {r : mf_V} (h : rOK rlo rhi r) (c : Int) : 0 ≤ lyl r c ∧ lyl r c ≤ 100000 := by
  unfold lyl
  by_cases q : 0 ≤ c ∧ c < 384
  · rw [mf_if_t q]; have b : (0 : Int) ≤ r 3 c ∧ r 3 c ≤ 100000 := h 3 c; have b2 : (0 : Int) ≤ r 8 0 ∧ r 8 0 ≤ 90000 := h 8 0; omega
  · rw [mf_if_f q]; omega
theorem cnt_b (P : Int → Prop) (n : Nat) : 0 ≤ msum (fun c => bP (P c)) n ∧ msum (fun c => bP (P c)) n ≤ n := by
  have := msum_b (f := fun c => bP (P c)) (lo := 0) (hi := 1) (by omega) (by omega) (fun z => bP_01 _) n
  omega
theorem lakesF_b (r : mf_V) : 0 ≤ lakesF r ∧ lakesF r ≤ 384 := cnt_b _ 384
theorem stonesF_b (r : mf_V) : 0 ≤ stonesF r ∧ stonesF r ≤ 384 := cnt_b _ 384
set_option maxHeartbeats 4000000 in
set_option maxRecDepth 100000 in
theorem c_X1_isInCourse (l : Launch) (G : mf_G) (h : Nat) (ad : Nat → Nat) (r : mf_V) (iv : Int) (hiv : i32 iv) (ok : rOK rlo rhi r) : Met l yX1_isInCourse wsX1_isInCourse ({ frames := 0, cells := 0, slots := 0, locals := 0 }) (va_Pc [.ref h, .int (iI (iv))] (RdP G (RW G h ad r))) (vp_Si (fun q => q = iI (bP (inC r iv)))) 0 0 (fun _ => False) := by
  refine Met.ofW (cc := cX1_isInCourse) (maxL := 2) (ret := (some .boolean)) (by decide) rfl ?_
  intro p e s m args below meth c s₁ B hml hv
  obtain ⟨rfl, hP, hK, hN⟩ := hv
  have hx := B.exec
  have hb := B.bytes
  have hr := B.returns
  have hts := atoms_spec (ws := wsX1_isInCourse) B.pre
  have hown : s.vm.findClass RX1 = some m.cls := findClass_of_methodNamed B.named
  have hlocks := B.notSynchronized
  have hinX1 : ∀ w ∈ u_ws RX1 TX1 14, w ∈ wsX1_isInCourse := fun w h => List.mem_cons_of_mem _ (List.mem_append_right _ h)
  have hl := lv_entry ([.ref h, .int (iI (iv))]) (n := 2) (Nat.le_of_ble_eq_true rfl)
  rw [lg_entry_eq]
  generalize (lg_sl ([.ref h, .int (iI (iv))]) ++ List.replicate (2 - (lg_sl ([.ref h, .int (iI (iv))])).length) Slot.unset).toArray = ls at hl ⊢
  have hl : lv_has ls 2 [(0, .ref h), (1, .int (iI (iv)))] := hl
  have hiv1 := hiv.1
  have hiv2 := hiv.2
  have okLr : (0 : Int) ≤ r 7 0 ∧ r 7 0 ≤ 150 := ok 7 0
  refine lv_iload_n hx hb dX1_isInCourse_0 rfl (lv_at hl 1 rfl) ?_
  refine mf_if_lt (tgt := 23) hx hb dX1_isInCourse_1 (by decide) (i32_mk (by omega) (by omega)) (fun c1 => ?_) (fun c1 => ?_)
  · skip
    refine mf_iconst hx hb dX1_isInCourse_23 ?_
    exact W.zret hx hb hr (mf_nar01 (by omega)) (fun t ht hW => ⟨_, rfl, (congrArg iI (bP_f (by unfold inC; omega)).symm), ht⟩) t_nil dX1_isInCourse_24
  · skip
    refine lv_iload_n hx hb dX1_isInCourse_4 rfl (lv_at hl 1 rfl) ?_
    refine lv_aload_n hx hb dX1_isInCourse_5 rfl (lv_at hl 0 rfl) ?_
    refine va_get (D := G.1) (ci := 1) (v := .int (iI (r 7 0))) (C := RX1) (T := TX1) (N := 14) hx hb hts hinX1 hown hK hP 0 rfl rfl 7 (by decide) (hts (.fieldLink RX1 46 "MeanderFarm$River" "length" "I") (List.mem_of_getElem? (i := 1) rfl)) (fun _ h9 => h9) rfl dX1_isInCourse_6 ?_
    have b2 : (0 : Int) ≤ r 7 0 ∧ r 7 0 ≤ 150 := ok 7 (0)
    refine mf_icmp_ge (tgt := 23) hx hb dX1_isInCourse_9 (by decide) (i32_mk (by omega) (by omega)) (i32_mk (by omega) (by omega)) (fun c3 => ?_) (fun c3 => ?_)
    · skip
      refine mf_iconst hx hb dX1_isInCourse_23 ?_
      exact W.zret hx hb hr (mf_nar01 (by omega)) (fun t ht hW => ⟨_, rfl, (congrArg iI (bP_f (by unfold inC; omega)).symm), ht⟩) t_nil dX1_isInCourse_24
    · skip
      refine lv_iload_n hx hb dX1_isInCourse_12 rfl (lv_at hl 1 rfl) ?_
      refine mf_sipush hx hb dX1_isInCourse_13 rfl ?_
      refine mf_icmp_ge (tgt := 23) hx hb dX1_isInCourse_16 (by decide) (i32_mk (by omega) (by omega)) (i32_mk (by decide) (by decide)) (fun c4 => ?_) (fun c4 => ?_)
      · skip
        refine mf_iconst hx hb dX1_isInCourse_23 ?_
        exact W.zret hx hb hr (mf_nar01 (by omega)) (fun t ht hW => ⟨_, rfl, (congrArg iI (bP_f (by unfold inC; omega)).symm), ht⟩) t_nil dX1_isInCourse_24
      · skip
        refine mf_iconst hx hb dX1_isInCourse_19 ?_
        refine lv_goto (tgt := 24) hx hb dX1_isInCourse_20 (by decide) ?_
        exact W.zret hx hb hr (mf_nar01 (by omega)) (fun t ht hW => ⟨_, rfl, (congrArg iI (bP_t (by unfold inC; omega)).symm), ht⟩) t_nil dX1_isInCourse_24
set_option maxHeartbeats 4000000 in
set_option maxRecDepth 100000 in
theorem c_X1_cellAt (l : Launch) (G : mf_G) (h : Nat) (ad : Nat → Nat) (r : mf_V) (iv : Int) (hiv : i32 iv) (ok : rOK rlo rhi r) : Met l yX1_cellAt wsX1_cellAt ({ frames := 1, cells := 0, slots := 0, locals := 21 }) (va_Pc [.ref h, .int (iI (iv))] (RdP G (RW G h ad r))) (vp_Si (fun q => q = iI (cellAtF r iv))) 0 0 (fun _ => False) := by
  refine Met.ofW (cc := cX1_cellAt) (maxL := 2) (ret := (some .int)) (by decide) rfl ?_
  intro p e s m args below meth c s₁ B hml hv
  obtain ⟨rfl, hP, hK, hN⟩ := hv
  have hx := B.exec
  have hb := B.bytes
  have hr := B.returns
  have hts := atoms_spec (ws := wsX1_cellAt) B.pre
  have hown : s.vm.findClass RX1 = some m.cls := findClass_of_methodNamed B.named
  have hlocks := B.notSynchronized
  have hinX1 : ∀ w ∈ u_ws RX1 TX1 14, w ∈ wsX1_cellAt := fun w h => List.mem_cons_of_mem _ (List.mem_append_right _ h)
  have hl := lv_entry ([.ref h, .int (iI (iv))]) (n := 2) (Nat.le_of_ble_eq_true rfl)
  rw [lg_entry_eq]
  generalize (lg_sl ([.ref h, .int (iI (iv))]) ++ List.replicate (2 - (lg_sl ([.ref h, .int (iI (iv))])).length) Slot.unset).toArray = ls at hl ⊢
  have hl : lv_has ls 2 [(0, .ref h), (1, .int (iI (iv)))] := hl
  have hiv1 := hiv.1
  have hiv2 := hiv.2
  have okLr : (0 : Int) ≤ r 7 0 ∧ r 7 0 ≤ 150 := ok 7 0
  refine lv_aload_n hx hb dX1_cellAt_0 rfl (lv_at hl 0 rfl) ?_
  refine lv_iload_n hx hb dX1_cellAt_1 rfl (lv_at hl 1 rfl) ?_
  refine vp_callSi (va_Run.run (va_runV (As := [.int (iI (iv))]) (rest := []) ⟨hx, hb, hml, hown, hts⟩ (c_X1_isInCourse l G h ad r (iv) (i32_mk (by omega) (by omega)) (by assumption)) (cwV 1 hts gX1_cellAt_X1_isInCourse rfl rfl rfl (by decide +kernel) ⟨Nat.le_of_ble_eq_true rfl, Nat.le_of_ble_eq_true rfl⟩) (rdV (wc := RW G h ad r) hK hP hN [0, 1, 2, 3, 4, 5, 6, 7, 8, 9, 10, 11] rfl (ci := 1) rfl rfl) rfl rfl hl.1 rfl (lv_room (Nat.le_of_ble_eq_true rfl)) dX1_cellAt_2 ⟨(Nat.zero_le _), (Nat.zero_le _)⟩)) (fun q1 hq1 => ?_)
  subst hq1
  refine mf_bp_eq (tgt := 17) hx hb dX1_cellAt_5 (by decide) (fun c2 => ?_) (fun c2 => ?_)
  · skip
    have c2' := c2; unfold inC at c2'
    refine mf_iconst hx hb dX1_cellAt_17 ?_
    exact W.iret hx hb hr (fun t ht hW => ⟨_, rfl, (congrArg iI (by unfold cellAtF; first | exact (mf_if_t (by assumption)).symm | exact (mf_if_f (by assumption)).symm)), ht⟩) t_nil dX1_cellAt_18
  · skip
    have c2' := c2; unfold inC at c2'
    refine lv_aload_n hx hb dX1_cellAt_8 rfl (lv_at hl 0 rfl) ?_
    refine va_get (D := G.1) (ci := 1) (v := .ref (ad 6)) (C := RX1) (T := TX1) (N := 14) hx hb hts hinX1 hown hK hP 0 rfl rfl 6 (by decide) (hts (.fieldLink RX1 31 "MeanderFarm$River" "course" "[I") (List.mem_of_getElem? (i := 1) rfl)) (fun _ h9 => h9) rfl dX1_cellAt_9 ?_
    refine lv_iload_n hx hb dX1_cellAt_12 rfl (lv_at hl 1 rfl) ?_
    refine mf_iald (n := 150) (f := r 6) hx hb hK hP 7 0 rfl rfl (z := iv) (by omega) (by omega) (by decide) dX1_cellAt_13 ?_
    have b3 : (0 : Int) ≤ r 6 iv ∧ r 6 iv ≤ 383 := ok 6 (iv)
    refine lv_goto (tgt := 18) hx hb dX1_cellAt_14 (by decide) ?_
    exact W.iret hx hb hr (fun t ht hW => ⟨_, rfl, (congrArg iI (by unfold cellAtF; first | exact (mf_if_t (by assumption)).symm | exact (mf_if_f (by assumption)).symm)), ht⟩) t_nil dX1_cellAt_18
set_option maxHeartbeats 4000000 in
set_option maxRecDepth 100000 in
theorem c_X1_placeOf (l : Launch) (G : mf_G) (h : Nat) (ad : Nat → Nat) (r : mf_V) (cv : Int) (hcv : i32 cv) (ok : rOK rlo rhi r) : Met l yX1_placeOf wsX1_placeOf ({ frames := 1, cells := 0, slots := 0, locals := 20 }) (va_Pc [.ref h, .int (iI (cv))] (RdP G (RW G h ad r))) (vp_Si (fun q => q = iI (placeOfF r cv))) 0 0 (fun _ => False) := by
  refine Met.ofW (cc := cX1_placeOf) (maxL := 2) (ret := (some .int)) (by decide) rfl ?_
  intro p e s m args below meth c s₁ B hml hv
  obtain ⟨rfl, hP, hK, hN⟩ := hv
  have hx := B.exec
  have hb := B.bytes
  have hr := B.returns
  have hts := atoms_spec (ws := wsX1_placeOf) B.pre
  have hown : s.vm.findClass RX1 = some m.cls := findClass_of_methodNamed B.named
  have hlocks := B.notSynchronized
  have hinX1 : ∀ w ∈ u_ws RX1 TX1 14, w ∈ wsX1_placeOf := fun w h => List.mem_cons_of_mem _ (List.mem_append_right _ h)
  have hl := lv_entry ([.ref h, .int (iI (cv))]) (n := 2) (Nat.le_of_ble_eq_true rfl)
  rw [lg_entry_eq]
  generalize (lg_sl ([.ref h, .int (iI (cv))]) ++ List.replicate (2 - (lg_sl ([.ref h, .int (iI (cv))])).length) Slot.unset).toArray = ls at hl ⊢
  have hl : lv_has ls 2 [(0, .ref h), (1, .int (iI (cv)))] := hl
  have hcv1 := hcv.1
  have hcv2 := hcv.2
  have okLr : (0 : Int) ≤ r 7 0 ∧ r 7 0 ≤ 150 := ok 7 0
  refine lv_iload_n hx hb dX1_placeOf_0 rfl (lv_at hl 1 rfl) ?_
  refine vp_callSi (va_Run.run (va_runSN (As := [.int (iI (cv))]) (rest := []) ⟨hx, hb, hml, hown, hts⟩ (c_X2_isCell l (cv) (i32_mk (by omega) (by omega))) ⟨(va_cnB 1 hts gX1_placeOf_X2_isCell_n70 rfl rfl rfl (hN.m 27 rfl) (hts (.initialized RX2) (List.mem_of_getElem? (i := 3) rfl)) (by decide +kernel) ⟨Nat.le_of_ble_eq_true rfl, Nat.le_of_ble_eq_true rfl⟩), (hts (.static yX2_isCell) (List.mem_of_getElem? (i := 2) rfl)), trivial⟩ pureS rfl rfl hl.1 rfl (lv_room (Nat.le_of_ble_eq_true rfl)) dX1_placeOf_1 ⟨(Nat.zero_le _), (Nat.zero_le _)⟩)) (fun q1 hq1 => ?_)
  subst hq1
  refine mf_bp_eq (tgt := 16) hx hb dX1_placeOf_4 (by decide) (fun c2 => ?_) (fun c2 => ?_)
  · skip
    refine mf_iconst hx hb dX1_placeOf_16 ?_
    exact W.iret hx hb hr (fun t ht hW => ⟨_, rfl, (congrArg iI (by unfold placeOfF; first | exact (mf_if_t (by assumption)).symm | exact (mf_if_f (by assumption)).symm)), ht⟩) t_nil dX1_placeOf_17
  · skip
    refine lv_aload_n hx hb dX1_placeOf_7 rfl (lv_at hl 0 rfl) ?_
    refine va_get (D := G.1) (ci := 1) (v := .ref (ad 10)) (C := RX1) (T := TX1) (N := 14) hx hb hts hinX1 hown hK hP 0 rfl rfl 10 (by decide) (hts (.fieldLink RX1 34 "MeanderFarm$River" "place" "[I") (List.mem_of_getElem? (i := 1) rfl)) (fun _ h9 => h9) rfl dX1_placeOf_8 ?_
    refine lv_iload_n hx hb dX1_placeOf_11 rfl (lv_at hl 1 rfl) ?_
    refine mf_iald (n := 384) (f := r 10) hx hb hK hP 8 0 rfl rfl (z := cv) (by omega) (by omega) (by decide) dX1_placeOf_12 ?_
    have b3 : (-1 : Int) ≤ r 10 cv ∧ r 10 cv ≤ 149 := ok 10 (cv)
    refine lv_goto (tgt := 17) hx hb dX1_placeOf_13 (by decide) ?_
    exact W.iret hx hb hr (fun t ht hW => ⟨_, rfl, (congrArg iI (by unfold placeOfF; first | exact (mf_if_t (by assumption)).symm | exact (mf_if_f (by assumption)).symm)), ht⟩) t_nil dX1_placeOf_17
set_option maxHeartbeats 4000000 in
set_option maxRecDepth 100000 in
theorem c_X1_isStraight (l : Launch) (G : mf_G) (h : Nat) (ad : Nat → Nat) (r : mf_V) (iv : Int) (hiv : i32 iv) (ok : rOK rlo rhi r) : Met l yX1_isStraight wsX1_isStraight ({ frames := 1, cells := 0, slots := 0, locals := 21 }) (va_Pc [.ref h, .int (iI (iv))] (RdP G (RW G h ad r))) (vp_Si (fun q => q = iI (bP (strP r iv)))) 0 0 (fun _ => False) := by
  refine Met.ofW (cc := cX1_isStraight) (maxL := 2) (ret := (some .boolean)) (by decide) rfl ?_
  intro p e s m args below meth c s₁ B hml hv
  obtain ⟨rfl, hP, hK, hN⟩ := hv
  have hx := B.exec
  have hb := B.bytes
  have hr := B.returns
  have hts := atoms_spec (ws := wsX1_isStraight) B.pre
  have hown : s.vm.findClass RX1 = some m.cls := findClass_of_methodNamed B.named
  have hlocks := B.notSynchronized
  have hinX1 : ∀ w ∈ u_ws RX1 TX1 14, w ∈ wsX1_isStraight := fun w h => List.mem_cons_of_mem _ (List.mem_append_right _ h)
  have hl := lv_entry ([.ref h, .int (iI (iv))]) (n := 2) (Nat.le_of_ble_eq_true rfl)
  rw [lg_entry_eq]
  generalize (lg_sl ([.ref h, .int (iI (iv))]) ++ List.replicate (2 - (lg_sl ([.ref h, .int (iI (iv))])).length) Slot.unset).toArray = ls at hl ⊢
  have hl : lv_has ls 2 [(0, .ref h), (1, .int (iI (iv)))] := hl
  have hiv1 := hiv.1
  have hiv2 := hiv.2
  have okLr : (0 : Int) ≤ r 7 0 ∧ r 7 0 ≤ 150 := ok 7 0
  refine lv_iload_n hx hb dX1_isStraight_0 rfl (lv_at hl 1 rfl) ?_
  refine mf_if_le (tgt := 43) hx hb dX1_isStraight_1 (by decide) (i32_mk (by omega) (by omega)) (fun c1 => ?_) (fun c1 => ?_)
  · skip
    refine mf_iconst hx hb dX1_isStraight_43 ?_
    exact W.zret hx hb hr (mf_nar01 (by omega)) (fun t ht hW => ⟨_, rfl, (congrArg iI (bP_f (by unfold strP; omega)).symm), ht⟩) t_nil dX1_isStraight_44
  · skip
    refine lv_iload_n hx hb dX1_isStraight_4 rfl (lv_at hl 1 rfl) ?_
    refine lv_aload_n hx hb dX1_isStraight_5 rfl (lv_at hl 0 rfl) ?_
    refine va_get (D := G.1) (ci := 1) (v := .int (iI (r 7 0))) (C := RX1) (T := TX1) (N := 14) hx hb hts hinX1 hown hK hP 0 rfl rfl 7 (by decide) (hts (.fieldLink RX1 46 "MeanderFarm$River" "length" "I") (List.mem_of_getElem? (i := 1) rfl)) (fun _ h9 => h9) rfl dX1_isStraight_6 ?_
    have b2 : (0 : Int) ≤ r 7 0 ∧ r 7 0 ≤ 150 := ok 7 (0)
    refine mf_iconst hx hb dX1_isStraight_9 ?_
    refine mf_isub hx hb dX1_isStraight_10 ?_
    refine mf_icmp_ge (tgt := 43) hx hb dX1_isStraight_11 (by decide) (i32_mk (by omega) (by omega)) (i32_mk (by omega) (by omega)) (fun c3 => ?_) (fun c3 => ?_)
    · skip
      refine mf_iconst hx hb dX1_isStraight_43 ?_
      exact W.zret hx hb hr (mf_nar01 (by omega)) (fun t ht hW => ⟨_, rfl, (congrArg iI (bP_f (by unfold strP; omega)).symm), ht⟩) t_nil dX1_isStraight_44
    · skip
      refine lv_aload_n hx hb dX1_isStraight_14 rfl (lv_at hl 0 rfl) ?_
      refine lv_iload_n hx hb dX1_isStraight_15 rfl (lv_at hl 1 rfl) ?_
      refine vp_callSi (va_Run.run (va_runV (As := [.int (iI (iv))]) (rest := []) ⟨hx, hb, hml, hown, hts⟩ (c_X1_isInCourse l G h ad r (iv) (i32_mk (by omega) (by omega)) (by assumption)) (cwV 1 hts gX1_isStraight_X1_isInCourse rfl rfl rfl (by decide +kernel) ⟨Nat.le_of_ble_eq_true rfl, Nat.le_of_ble_eq_true rfl⟩) (rdV (wc := RW G h ad r) hK hP hN [0, 1, 2, 3, 4, 5, 6, 7, 8, 9, 10, 11] rfl (ci := 1) rfl rfl) rfl rfl hl.1 rfl (lv_room (Nat.le_of_ble_eq_true rfl)) dX1_isStraight_16 ⟨(Nat.zero_le _), (Nat.zero_le _)⟩)) (fun q4 hq4 => ?_)
      subst hq4
      refine mf_bp_eq (tgt := 43) hx hb dX1_isStraight_19 (by decide) (fun c5 => ?_) (fun c5 => ?_)
      · skip
        have c5' := c5; unfold inC at c5'
        refine mf_iconst hx hb dX1_isStraight_43 ?_
        exact W.zret hx hb hr (mf_nar01 (by omega)) (fun t ht hW => ⟨_, rfl, (congrArg iI (bP_f (by unfold strP; omega)).symm), ht⟩) t_nil dX1_isStraight_44
      · skip
        have c5' := c5; unfold inC at c5'
        refine lv_aload_n hx hb dX1_isStraight_22 rfl (lv_at hl 0 rfl) ?_
        refine va_get (D := G.1) (ci := 1) (v := .ref (ad 11)) (C := RX1) (T := TX1) (N := 14) hx hb hts hinX1 hown hK hP 0 rfl rfl 11 (by decide) (hts (.fieldLink RX1 37 "MeanderFarm$River" "direction" "[I") (List.mem_of_getElem? (i := 2) rfl)) (fun _ h9 => h9) rfl dX1_isStraight_23 ?_
        refine lv_iload_n hx hb dX1_isStraight_26 rfl (lv_at hl 1 rfl) ?_
        refine mf_iconst hx hb dX1_isStraight_27 ?_
        refine mf_isub hx hb dX1_isStraight_28 ?_
        refine mf_iald (n := 150) (f := r 11) hx hb hK hP 9 0 rfl rfl (z := iv - 1) (by omega) (by omega) (by decide) dX1_isStraight_29 ?_
        have b6 : (-1 : Int) ≤ r 11 (iv - 1) ∧ r 11 (iv - 1) ≤ 3 := ok 11 (iv - 1)
        refine lv_aload_n hx hb dX1_isStraight_30 rfl (lv_at hl 0 rfl) ?_
        refine va_get (D := G.1) (ci := 1) (v := .ref (ad 11)) (C := RX1) (T := TX1) (N := 14) hx hb hts hinX1 hown hK hP 0 rfl rfl 11 (by decide) (hts (.fieldLink RX1 37 "MeanderFarm$River" "direction" "[I") (List.mem_of_getElem? (i := 2) rfl)) (fun _ h9 => h9) rfl dX1_isStraight_31 ?_
        refine lv_iload_n hx hb dX1_isStraight_34 rfl (lv_at hl 1 rfl) ?_
        refine mf_iald (n := 150) (f := r 11) hx hb hK hP 9 0 rfl rfl (z := iv) (by omega) (by omega) (by decide) dX1_isStraight_35 ?_
        have b7 : (-1 : Int) ≤ r 11 iv ∧ r 11 iv ≤ 3 := ok 11 (iv)
        refine mf_icmp_ne (tgt := 43) hx hb dX1_isStraight_36 (by decide) (i32_mk (by omega) (by omega)) (i32_mk (by omega) (by omega)) (fun c8 => ?_) (fun c8 => ?_)
        · skip
          refine mf_iconst hx hb dX1_isStraight_43 ?_
          exact W.zret hx hb hr (mf_nar01 (by omega)) (fun t ht hW => ⟨_, rfl, (congrArg iI (bP_f (by unfold strP; omega)).symm), ht⟩) t_nil dX1_isStraight_44
        · skip
          refine mf_iconst hx hb dX1_isStraight_39 ?_
          refine lv_goto (tgt := 44) hx hb dX1_isStraight_40 (by decide) ?_
          exact W.zret hx hb hr (mf_nar01 (by omega)) (fun t ht hW => ⟨_, rfl, (congrArg iI (bP_t (by unfold strP; omega)).symm), ht⟩) t_nil dX1_isStraight_44
set_option maxHeartbeats 4000000 in
set_option maxRecDepth 100000 in
theorem c_X1_isOpen (l : Launch) (G : mf_G) (h : Nat) (ad : Nat → Nat) (r : mf_V) (cv : Int) (hcv : i32 cv) (ok : rOK rlo rhi r) : Met l yX1_isOpen wsX1_isOpen ({ frames := 1, cells := 0, slots := 0, locals := 20 }) (va_Pc [.ref h, .int (iI (cv))] (RdP G (RW G h ad r))) (vp_Si (fun q => q = iI (bP (openP r cv)))) 0 0 (fun _ => False) := by
  refine Met.ofW (cc := cX1_isOpen) (maxL := 2) (ret := (some .boolean)) (by decide) rfl ?_
  intro p e s m args below meth c s₁ B hml hv
  obtain ⟨rfl, hP, hK, hN⟩ := hv
  have hx := B.exec
  have hb := B.bytes
  have hr := B.returns
  have hts := atoms_spec (ws := wsX1_isOpen) B.pre
  have hown : s.vm.findClass RX1 = some m.cls := findClass_of_methodNamed B.named
  have hlocks := B.notSynchronized
  have hinX1 : ∀ w ∈ u_ws RX1 TX1 14, w ∈ wsX1_isOpen := fun w h => List.mem_cons_of_mem _ (List.mem_append_right _ h)
  have hl := lv_entry ([.ref h, .int (iI (cv))]) (n := 2) (Nat.le_of_ble_eq_true rfl)
  rw [lg_entry_eq]
  generalize (lg_sl ([.ref h, .int (iI (cv))]) ++ List.replicate (2 - (lg_sl ([.ref h, .int (iI (cv))])).length) Slot.unset).toArray = ls at hl ⊢
  have hl : lv_has ls 2 [(0, .ref h), (1, .int (iI (cv)))] := hl
  have hcv1 := hcv.1
  have hcv2 := hcv.2
  have okLr : (0 : Int) ≤ r 7 0 ∧ r 7 0 ≤ 150 := ok 7 0
  refine lv_iload_n hx hb dX1_isOpen_0 rfl (lv_at hl 1 rfl) ?_
  refine vp_callSi (va_Run.run (va_runSN (As := [.int (iI (cv))]) (rest := []) ⟨hx, hb, hml, hown, hts⟩ (c_X2_isCell l (cv) (i32_mk (by omega) (by omega))) ⟨(va_cnB 1 hts gX1_isOpen_X2_isCell_n70 rfl rfl rfl (hN.m 27 rfl) (hts (.initialized RX2) (List.mem_of_getElem? (i := 4) rfl)) (by decide +kernel) ⟨Nat.le_of_ble_eq_true rfl, Nat.le_of_ble_eq_true rfl⟩), (hts (.static yX2_isCell) (List.mem_of_getElem? (i := 3) rfl)), trivial⟩ pureS rfl rfl hl.1 rfl (lv_room (Nat.le_of_ble_eq_true rfl)) dX1_isOpen_1 ⟨(Nat.zero_le _), (Nat.zero_le _)⟩)) (fun q1 hq1 => ?_)
  subst hq1
  refine mf_bp_eq (tgt := 30) hx hb dX1_isOpen_4 (by decide) (fun c2 => ?_) (fun c2 => ?_)
  · skip
    refine mf_iconst hx hb dX1_isOpen_30 ?_
    exact W.zret hx hb hr (mf_nar01 (by omega)) (fun t ht hW => ⟨_, rfl, (congrArg iI (bP_f (by unfold openP; omega)).symm), ht⟩) t_nil dX1_isOpen_31
  · skip
    refine lv_aload_n hx hb dX1_isOpen_7 rfl (lv_at hl 0 rfl) ?_
    refine va_get (D := G.1) (ci := 1) (v := .ref (ad 10)) (C := RX1) (T := TX1) (N := 14) hx hb hts hinX1 hown hK hP 0 rfl rfl 10 (by decide) (hts (.fieldLink RX1 34 "MeanderFarm$River" "place" "[I") (List.mem_of_getElem? (i := 1) rfl)) (fun _ h9 => h9) rfl dX1_isOpen_8 ?_
    refine lv_iload_n hx hb dX1_isOpen_11 rfl (lv_at hl 1 rfl) ?_
    refine mf_iald (n := 384) (f := r 10) hx hb hK hP 8 0 rfl rfl (z := cv) (by omega) (by omega) (by decide) dX1_isOpen_12 ?_
    have b3 : (-1 : Int) ≤ r 10 cv ∧ r 10 cv ≤ 149 := ok 10 (cv)
    refine mf_iconst hx hb dX1_isOpen_13 ?_
    refine mf_icmp_ne (tgt := 30) hx hb dX1_isOpen_14 (by decide) (i32_mk (by omega) (by omega)) (i32_mk (by decide) (by decide)) (fun c4 => ?_) (fun c4 => ?_)
    · skip
      refine mf_iconst hx hb dX1_isOpen_30 ?_
      exact W.zret hx hb hr (mf_nar01 (by omega)) (fun t ht hW => ⟨_, rfl, (congrArg iI (bP_f (by unfold openP; omega)).symm), ht⟩) t_nil dX1_isOpen_31
    · skip
      refine lv_aload_n hx hb dX1_isOpen_17 rfl (lv_at hl 0 rfl) ?_
      refine va_get (D := G.1) (ci := 1) (v := .ref (ad 2)) (C := RX1) (T := TX1) (N := 14) hx hb hts hinX1 hown hK hP 0 rfl rfl 2 (by decide) (hts (.fieldLink RX1 18 "MeanderFarm$River" "stones" "[Z") (List.mem_of_getElem? (i := 2) rfl)) (fun _ h9 => h9) rfl dX1_isOpen_18 ?_
      refine lv_iload_n hx hb dX1_isOpen_21 rfl (lv_at hl 1 rfl) ?_
      refine mf_zald (n := 384) (f := r 2) hx hb hK hP 3 1 rfl rfl (z := cv) (by omega) (by omega) (by decide) dX1_isOpen_22 ?_
      have b5 : (0 : Int) ≤ r 2 cv ∧ r 2 cv ≤ 1 := ok 2 (cv)
      refine mf_if_ne (tgt := 30) hx hb dX1_isOpen_23 (by decide) (i32_mk (by omega) (by omega)) (fun c6 => ?_) (fun c6 => ?_)
      · skip
        refine mf_iconst hx hb dX1_isOpen_30 ?_
        exact W.zret hx hb hr (mf_nar01 (by omega)) (fun t ht hW => ⟨_, rfl, (congrArg iI (bP_f (by unfold openP; omega)).symm), ht⟩) t_nil dX1_isOpen_31
      · skip
        refine mf_iconst hx hb dX1_isOpen_26 ?_
        refine lv_goto (tgt := 31) hx hb dX1_isOpen_27 (by decide) ?_
        exact W.zret hx hb hr (mf_nar01 (by omega)) (fun t ht hW => ⟨_, rfl, (congrArg iI (bP_t (by unfold openP; omega)).symm), ht⟩) t_nil dX1_isOpen_31
set_option maxHeartbeats 4000000 in
set_option maxRecDepth 100000 in
theorem c_X1_canBulge (l : Launch) (G : mf_G) (h : Nat) (ad : Nat → Nat) (r : mf_V) (iv : Int) (sv : Int) (hiv : i32 iv) (hsv : i32 sv) (ok : rOK rlo rhi r) (hdir : ∀ j, strP r j → 0 ≤ r 11 j) : Met l yX1_canBulge wsX1_canBulge ({ frames := 2, cells := 0, slots := 0, locals := 42 }) (va_Pc [.ref h, .int (iI (iv)), .int (iI (sv))] (RdP G (RW G h ad r))) (vp_Si (fun q => q = iI (bP (canB r iv sv)))) 0 0 (fun _ => False) := by
  refine Met.ofW (cc := cX1_canBulge) (maxL := 4) (ret := (some .boolean)) (by decide) rfl ?_
  intro p e s m args below meth c s₁ B hml hv
  obtain ⟨rfl, hP, hK, hN⟩ := hv
  have hx := B.exec
  have hb := B.bytes
  have hr := B.returns
  have hts := atoms_spec (ws := wsX1_canBulge) B.pre
  have hown : s.vm.findClass RX1 = some m.cls := findClass_of_methodNamed B.named
  have hlocks := B.notSynchronized
  have hinX1 : ∀ w ∈ u_ws RX1 TX1 14, w ∈ wsX1_canBulge := fun w h => List.mem_cons_of_mem _ (List.mem_append_right _ h)
  have hl := lv_entry ([.ref h, .int (iI (iv)), .int (iI (sv))]) (n := 4) (Nat.le_of_ble_eq_true rfl)
  rw [lg_entry_eq]
  generalize (lg_sl ([.ref h, .int (iI (iv)), .int (iI (sv))]) ++ List.replicate (4 - (lg_sl ([.ref h, .int (iI (iv)), .int (iI (sv))])).length) Slot.unset).toArray = ls at hl ⊢
  have hl : lv_has ls 4 [(0, .ref h), (1, .int (iI (iv))), (2, .int (iI (sv)))] := hl
  have hiv1 := hiv.1
  have hiv2 := hiv.2
  have hsv1 := hsv.1
  have hsv2 := hsv.2
  have okLr : (0 : Int) ≤ r 7 0 ∧ r 7 0 ≤ 150 := ok 7 0
  refine lv_aload_n hx hb dX1_canBulge_0 rfl (lv_at hl 0 rfl) ?_
  refine lv_iload_n hx hb dX1_canBulge_1 rfl (lv_at hl 1 rfl) ?_
  refine vp_callSi (va_Run.run (va_runV (As := [.int (iI (iv))]) (rest := []) ⟨hx, hb, hml, hown, hts⟩ (c_X1_isStraight l G h ad r (iv) (i32_mk (by omega) (by omega)) (by assumption)) (cwV 1 hts gX1_canBulge_X1_isStraight rfl rfl rfl (by decide +kernel) ⟨Nat.le_of_ble_eq_true rfl, Nat.le_of_ble_eq_true rfl⟩) (rdV (wc := RW G h ad r) hK hP hN [0, 1, 2, 3, 4, 5, 6, 7, 8, 9, 10, 11] rfl (ci := 1) rfl rfl) rfl rfl hl.1 rfl (lv_room (Nat.le_of_ble_eq_true rfl)) dX1_canBulge_2 ⟨(Nat.zero_le _), (Nat.zero_le _)⟩)) (fun q1 hq1 => ?_)
  subst hq1
  refine mf_bp_eq (tgt := 29) hx hb dX1_canBulge_5 (by decide) (fun c2 => ?_) (fun c2 => ?_)
  · skip
    have c2' := c2; unfold strP at c2'
    refine mf_iconst hx hb dX1_canBulge_29 ?_
    exact W.zret hx hb hr (mf_nar01 (by omega)) (fun t ht hW => ⟨_, rfl, (congrArg iI (bP_f (by subst_vars; intro z; unfold canB at z; obtain ⟨z1, z2, z3, z4, z5, z6, z7, z8⟩ := z; first | contradiction | omega)).symm), ht⟩) t_nil dX1_canBulge_30
  · skip
    have c2' := c2; unfold strP at c2'
    refine lv_aload_n hx hb dX1_canBulge_8 rfl (lv_at hl 0 rfl) ?_
    refine va_get (D := G.1) (ci := 1) (v := .int (iI (r 7 0))) (C := RX1) (T := TX1) (N := 14) hx hb hts hinX1 hown hK hP 0 rfl rfl 7 (by decide) (hts (.fieldLink RX1 46 "MeanderFarm$River" "length" "I") (List.mem_of_getElem? (i := 1) rfl)) (fun _ h9 => h9) rfl dX1_canBulge_9 ?_
    have b3 : (0 : Int) ≤ r 7 0 ∧ r 7 0 ≤ 150 := ok 7 (0)
    refine mf_iconst hx hb dX1_canBulge_12 ?_
    refine mf_iadd hx hb dX1_canBulge_13 ?_
    refine mf_sipush hx hb dX1_canBulge_14 rfl ?_
    refine mf_icmp_gt (tgt := 29) hx hb dX1_canBulge_17 (by decide) (i32_mk (by omega) (by omega)) (i32_mk (by decide) (by decide)) (fun c4 => ?_) (fun c4 => ?_)
    · skip
      refine mf_iconst hx hb dX1_canBulge_29 ?_
      exact W.zret hx hb hr (mf_nar01 (by omega)) (fun t ht hW => ⟨_, rfl, (congrArg iI (bP_f (by subst_vars; intro z; unfold canB at z; obtain ⟨z1, z2, z3, z4, z5, z6, z7, z8⟩ := z; first | contradiction | omega)).symm), ht⟩) t_nil dX1_canBulge_30
    · skip
      refine lv_iload_n hx hb dX1_canBulge_20 rfl (lv_at hl 2 rfl) ?_
      refine mf_if_lt (tgt := 29) hx hb dX1_canBulge_21 (by decide) (i32_mk (by omega) (by omega)) (fun c5 => ?_) (fun c5 => ?_)
      · skip
        refine mf_iconst hx hb dX1_canBulge_29 ?_
        exact W.zret hx hb hr (mf_nar01 (by omega)) (fun t ht hW => ⟨_, rfl, (congrArg iI (bP_f (by subst_vars; intro z; unfold canB at z; obtain ⟨z1, z2, z3, z4, z5, z6, z7, z8⟩ := z; first | contradiction | omega)).symm), ht⟩) t_nil dX1_canBulge_30
      · skip
        refine lv_iload_n hx hb dX1_canBulge_24 rfl (lv_at hl 2 rfl) ?_
        refine mf_iconst hx hb dX1_canBulge_25 ?_
        refine mf_icmp_lt (tgt := 31) hx hb dX1_canBulge_26 (by decide) (i32_mk (by omega) (by omega)) (i32_mk (by decide) (by decide)) (fun c6 => ?_) (fun c6 => ?_)
        · skip
          have hd0 : 0 ≤ r 11 iv := hdir iv (by assumption)
          have hs0 : strP r iv := by assumption
          unfold strP at hs0
          refine lv_iload_n hx hb dX1_canBulge_31 rfl (lv_at hl 2 rfl) ?_
          refine mf_iconst hx hb dX1_canBulge_32 ?_
          refine mf_irem hx hb dX1_canBulge_33 (i32_mk (by omega) (by omega)) (by omega) (i32_mk (by decide) (by decide)) (by omega) ?_
          refine lv_aload_n hx hb dX1_canBulge_34 rfl (lv_at hl 0 rfl) ?_
          refine va_get (D := G.1) (ci := 1) (v := .ref (ad 11)) (C := RX1) (T := TX1) (N := 14) hx hb hts hinX1 hown hK hP 0 rfl rfl 11 (by decide) (hts (.fieldLink RX1 37 "MeanderFarm$River" "direction" "[I") (List.mem_of_getElem? (i := 2) rfl)) (fun _ h9 => h9) rfl dX1_canBulge_35 ?_
          refine lv_iload_n hx hb dX1_canBulge_38 rfl (lv_at hl 1 rfl) ?_
          refine mf_iald (n := 150) (f := r 11) hx hb hK hP 9 0 rfl rfl (z := iv) (by omega) (by omega) (by decide) dX1_canBulge_39 ?_
          have b7 : (-1 : Int) ≤ r 11 iv ∧ r 11 iv ≤ 3 := ok 11 (iv)
          refine mf_iconst hx hb dX1_canBulge_40 ?_
          refine mf_irem hx hb dX1_canBulge_41 (i32_mk (by omega) (by omega)) (by omega) (i32_mk (by decide) (by decide)) (by omega) ?_
          refine mf_icmp_eq (tgt := 49) hx hb dX1_canBulge_42 (by decide) (i32_mk (by omega) (by omega)) (i32_mk (by omega) (by omega)) (fun c8 => ?_) (fun c8 => ?_)
          · skip
            refine mf_iconst hx hb dX1_canBulge_49 ?_
            refine lv_istore_n (lv' := [(3, .int (iI (0))), (0, .ref h), (1, .int (iI (iv))), (2, .int (iI (sv)))]) hx hb dX1_canBulge_50 rfl hl (by decide) rfl (fun ls hl => ?_)
            refine lv_iload_n hx hb dX1_canBulge_51 rfl (lv_at hl 0 rfl) ?_
            refine mf_if_eq (tgt := 111) hx hb dX1_canBulge_52 (by decide) (i32_mk (by decide) (by decide)) (fun c9 => ?_) (fun c9 => ?_)
            · skip
              refine mf_iconst hx hb dX1_canBulge_111 ?_
              exact W.zret hx hb hr (mf_nar01 (by omega)) (fun t ht hW => ⟨_, rfl, (congrArg iI (bP_f (by subst_vars; intro z; unfold canB at z; obtain ⟨z1, z2, z3, z4, z5, z6, z7, z8⟩ := z; first | contradiction | omega)).symm), ht⟩) t_nil dX1_canBulge_112
            · skip
              exact absurd c9 (by omega)
          · skip
            refine mf_iconst hx hb dX1_canBulge_45 ?_
            refine lv_goto (tgt := 50) hx hb dX1_canBulge_46 (by decide) ?_
            refine lv_istore_n (lv' := [(3, .int (iI (1))), (0, .ref h), (1, .int (iI (iv))), (2, .int (iI (sv)))]) hx hb dX1_canBulge_50 rfl hl (by decide) rfl (fun ls hl => ?_)
            refine lv_iload_n hx hb dX1_canBulge_51 rfl (lv_at hl 0 rfl) ?_
            refine mf_if_eq (tgt := 111) hx hb dX1_canBulge_52 (by decide) (i32_mk (by decide) (by decide)) (fun c10 => ?_) (fun c10 => ?_)
            · skip
              exact absurd c10 (by omega)
            · skip
              refine lv_aload_n hx hb dX1_canBulge_55 rfl (lv_at hl 1 rfl) ?_
              refine lv_aload_n hx hb dX1_canBulge_56 rfl (lv_at hl 1 rfl) ?_
              refine lv_iload_n hx hb dX1_canBulge_57 rfl (lv_at hl 2 rfl) ?_
              refine mf_iconst hx hb dX1_canBulge_58 ?_
              refine mf_isub hx hb dX1_canBulge_59 ?_
              refine vp_callSi (va_Run.run (va_runV (As := [.int (iI (iv - 1))]) (rest := [.ref h]) ⟨hx, hb, hml, hown, hts⟩ (c_X1_cellAt l G h ad r (iv - 1) (i32_mk (by omega) (by omega)) (by assumption)) (cwV 1 hts gX1_canBulge_X1_cellAt rfl rfl rfl (by decide +kernel) ⟨Nat.le_of_ble_eq_true rfl, Nat.le_of_ble_eq_true rfl⟩) (rdV (wc := RW G h ad r) hK hP hN [0, 1, 2, 3, 4, 5, 6, 7, 8, 9, 10, 11] rfl (ci := 1) rfl rfl) rfl rfl hl.1 rfl (lv_room (Nat.le_of_ble_eq_true rfl)) dX1_canBulge_60 ⟨(Nat.zero_le _), (Nat.zero_le _)⟩)) (fun q11 hq11 => ?_)
              subst hq11
              refine mf_nm (fun y12 ey12 => ?_)
              have b13 : -1 ≤ y12 ∧ y12 ≤ 383 := by rw [ey12]; exact cellAtF_b (by assumption) (iv - 1)
              refine lv_iload_n hx hb dX1_canBulge_63 rfl (lv_at hl 3 rfl) ?_
              refine vp_callSi (va_Run.run (va_runSN (As := [.int (iI (y12)), .int (iI (sv))]) (rest := [.ref h]) ⟨hx, hb, hml, hown, hts⟩ (c_X2_neighbour l (y12) (sv) (i32_mk (by omega) (by omega)) (i32_mk (by omega) (by omega))) ⟨(va_cnB 2 hts gX1_canBulge_X2_neighbour_n89 rfl rfl rfl (hN.m 29 rfl) (hts (.initialized RX2) (List.mem_of_getElem? (i := 18) rfl)) (by decide +kernel) ⟨Nat.le_of_ble_eq_true rfl, Nat.le_of_ble_eq_true rfl⟩), (hts (.static yX2_neighbour) (List.mem_of_getElem? (i := 17) rfl)), trivial⟩ pureS rfl rfl hl.1 rfl (lv_room (Nat.le_of_ble_eq_true rfl)) dX1_canBulge_64 ⟨(Nat.zero_le _), (Nat.zero_le _)⟩)) (fun q14 hq14 => ?_)
              subst hq14
              refine mf_nm (fun y15 ey15 => ?_)
              have b16 : -1 ≤ y15 ∧ y15 ≤ 383 := by rw [ey15]; exact nbr_b y12 sv
              refine vp_callSi (va_Run.run (va_runV (As := [.int (iI (y15))]) (rest := []) ⟨hx, hb, hml, hown, hts⟩ (c_X1_isOpen l G h ad r (y15) (i32_mk (by omega) (by omega)) (by assumption)) (cwV 1 hts gX1_canBulge_X1_isOpen rfl rfl rfl (by decide +kernel) ⟨Nat.le_of_ble_eq_true rfl, Nat.le_of_ble_eq_true rfl⟩) (rdV (wc := RW G h ad r) hK hP hN [0, 1, 2, 3, 4, 5, 6, 7, 8, 9, 10, 11] rfl (ci := 1) rfl rfl) rfl rfl hl.1 rfl (lv_room (Nat.le_of_ble_eq_true rfl)) dX1_canBulge_67 ⟨(Nat.zero_le _), (Nat.zero_le _)⟩)) (fun q17 hq17 => ?_)
              subst hq17
              refine mf_bp_eq (tgt := 111) hx hb dX1_canBulge_70 (by decide) (fun c18 => ?_) (fun c18 => ?_)
              · skip
                have c18' := c18; unfold openP at c18'
                refine mf_iconst hx hb dX1_canBulge_111 ?_
                exact W.zret hx hb hr (mf_nar01 (by omega)) (fun t ht hW => ⟨_, rfl, (congrArg iI (bP_f (by subst_vars; intro z; unfold canB at z; obtain ⟨z1, z2, z3, z4, z5, z6, z7, z8⟩ := z; first | contradiction | omega)).symm), ht⟩) t_nil dX1_canBulge_112
              · skip
                have c18' := c18; unfold openP at c18'
                refine lv_aload_n hx hb dX1_canBulge_73 rfl (lv_at hl 1 rfl) ?_
                refine lv_aload_n hx hb dX1_canBulge_74 rfl (lv_at hl 1 rfl) ?_
                refine lv_iload_n hx hb dX1_canBulge_75 rfl (lv_at hl 2 rfl) ?_
                refine vp_callSi (va_Run.run (va_runV (As := [.int (iI (iv))]) (rest := [.ref h]) ⟨hx, hb, hml, hown, hts⟩ (c_X1_cellAt l G h ad r (iv) (i32_mk (by omega) (by omega)) (by assumption)) (cwV 1 hts gX1_canBulge_X1_cellAt rfl rfl rfl (by decide +kernel) ⟨Nat.le_of_ble_eq_true rfl, Nat.le_of_ble_eq_true rfl⟩) (rdV (wc := RW G h ad r) hK hP hN [0, 1, 2, 3, 4, 5, 6, 7, 8, 9, 10, 11] rfl (ci := 1) rfl rfl) rfl rfl hl.1 rfl (lv_room (Nat.le_of_ble_eq_true rfl)) dX1_canBulge_76 ⟨(Nat.zero_le _), (Nat.zero_le _)⟩)) (fun q19 hq19 => ?_)
                subst hq19
                refine mf_nm (fun y20 ey20 => ?_)
                have b21 : -1 ≤ y20 ∧ y20 ≤ 383 := by rw [ey20]; exact cellAtF_b (by assumption) iv
                refine lv_iload_n hx hb dX1_canBulge_79 rfl (lv_at hl 3 rfl) ?_
                refine vp_callSi (va_Run.run (va_runSN (As := [.int (iI (y20)), .int (iI (sv))]) (rest := [.ref h]) ⟨hx, hb, hml, hown, hts⟩ (c_X2_neighbour l (y20) (sv) (i32_mk (by omega) (by omega)) (i32_mk (by omega) (by omega))) ⟨(va_cnB 2 hts gX1_canBulge_X2_neighbour_n89 rfl rfl rfl (hN.m 29 rfl) (hts (.initialized RX2) (List.mem_of_getElem? (i := 18) rfl)) (by decide +kernel) ⟨Nat.le_of_ble_eq_true rfl, Nat.le_of_ble_eq_true rfl⟩), (hts (.static yX2_neighbour) (List.mem_of_getElem? (i := 17) rfl)), trivial⟩ pureS rfl rfl hl.1 rfl (lv_room (Nat.le_of_ble_eq_true rfl)) dX1_canBulge_80 ⟨(Nat.zero_le _), (Nat.zero_le _)⟩)) (fun q22 hq22 => ?_)
                subst hq22
                refine mf_nm (fun y23 ey23 => ?_)
                have b24 : -1 ≤ y23 ∧ y23 ≤ 383 := by rw [ey23]; exact nbr_b y20 sv
                refine vp_callSi (va_Run.run (va_runV (As := [.int (iI (y23))]) (rest := []) ⟨hx, hb, hml, hown, hts⟩ (c_X1_isOpen l G h ad r (y23) (i32_mk (by omega) (by omega)) (by assumption)) (cwV 1 hts gX1_canBulge_X1_isOpen rfl rfl rfl (by decide +kernel) ⟨Nat.le_of_ble_eq_true rfl, Nat.le_of_ble_eq_true rfl⟩) (rdV (wc := RW G h ad r) hK hP hN [0, 1, 2, 3, 4, 5, 6, 7, 8, 9, 10, 11] rfl (ci := 1) rfl rfl) rfl rfl hl.1 rfl (lv_room (Nat.le_of_ble_eq_true rfl)) dX1_canBulge_83 ⟨(Nat.zero_le _), (Nat.zero_le _)⟩)) (fun q25 hq25 => ?_)
                subst hq25
                refine mf_bp_eq (tgt := 111) hx hb dX1_canBulge_86 (by decide) (fun c26 => ?_) (fun c26 => ?_)
                · skip
                  have c26' := c26; unfold openP at c26'
                  refine mf_iconst hx hb dX1_canBulge_111 ?_
                  exact W.zret hx hb hr (mf_nar01 (by omega)) (fun t ht hW => ⟨_, rfl, (congrArg iI (bP_f (by subst_vars; intro z; unfold canB at z; obtain ⟨z1, z2, z3, z4, z5, z6, z7, z8⟩ := z; first | contradiction | omega)).symm), ht⟩) t_nil dX1_canBulge_112
                · skip
                  have c26' := c26; unfold openP at c26'
                  refine lv_aload_n hx hb dX1_canBulge_89 rfl (lv_at hl 1 rfl) ?_
                  refine lv_aload_n hx hb dX1_canBulge_90 rfl (lv_at hl 1 rfl) ?_
                  refine lv_iload_n hx hb dX1_canBulge_91 rfl (lv_at hl 2 rfl) ?_
                  refine mf_iconst hx hb dX1_canBulge_92 ?_
                  refine mf_iadd hx hb dX1_canBulge_93 ?_
                  refine vp_callSi (va_Run.run (va_runV (As := [.int (iI (iv + 1))]) (rest := [.ref h]) ⟨hx, hb, hml, hown, hts⟩ (c_X1_cellAt l G h ad r (iv + 1) (i32_mk (by omega) (by omega)) (by assumption)) (cwV 1 hts gX1_canBulge_X1_cellAt rfl rfl rfl (by decide +kernel) ⟨Nat.le_of_ble_eq_true rfl, Nat.le_of_ble_eq_true rfl⟩) (rdV (wc := RW G h ad r) hK hP hN [0, 1, 2, 3, 4, 5, 6, 7, 8, 9, 10, 11] rfl (ci := 1) rfl rfl) rfl rfl hl.1 rfl (lv_room (Nat.le_of_ble_eq_true rfl)) dX1_canBulge_94 ⟨(Nat.zero_le _), (Nat.zero_le _)⟩)) (fun q27 hq27 => ?_)
                  subst hq27
                  refine mf_nm (fun y28 ey28 => ?_)
                  have b29 : -1 ≤ y28 ∧ y28 ≤ 383 := by rw [ey28]; exact cellAtF_b (by assumption) (iv + 1)
                  refine lv_iload_n hx hb dX1_canBulge_97 rfl (lv_at hl 3 rfl) ?_
                  refine vp_callSi (va_Run.run (va_runSN (As := [.int (iI (y28)), .int (iI (sv))]) (rest := [.ref h]) ⟨hx, hb, hml, hown, hts⟩ (c_X2_neighbour l (y28) (sv) (i32_mk (by omega) (by omega)) (i32_mk (by omega) (by omega))) ⟨(va_cnB 2 hts gX1_canBulge_X2_neighbour_n89 rfl rfl rfl (hN.m 29 rfl) (hts (.initialized RX2) (List.mem_of_getElem? (i := 18) rfl)) (by decide +kernel) ⟨Nat.le_of_ble_eq_true rfl, Nat.le_of_ble_eq_true rfl⟩), (hts (.static yX2_neighbour) (List.mem_of_getElem? (i := 17) rfl)), trivial⟩ pureS rfl rfl hl.1 rfl (lv_room (Nat.le_of_ble_eq_true rfl)) dX1_canBulge_98 ⟨(Nat.zero_le _), (Nat.zero_le _)⟩)) (fun q30 hq30 => ?_)
                  subst hq30
                  refine mf_nm (fun y31 ey31 => ?_)
                  have b32 : -1 ≤ y31 ∧ y31 ≤ 383 := by rw [ey31]; exact nbr_b y28 sv
                  refine vp_callSi (va_Run.run (va_runV (As := [.int (iI (y31))]) (rest := []) ⟨hx, hb, hml, hown, hts⟩ (c_X1_isOpen l G h ad r (y31) (i32_mk (by omega) (by omega)) (by assumption)) (cwV 1 hts gX1_canBulge_X1_isOpen rfl rfl rfl (by decide +kernel) ⟨Nat.le_of_ble_eq_true rfl, Nat.le_of_ble_eq_true rfl⟩) (rdV (wc := RW G h ad r) hK hP hN [0, 1, 2, 3, 4, 5, 6, 7, 8, 9, 10, 11] rfl (ci := 1) rfl rfl) rfl rfl hl.1 rfl (lv_room (Nat.le_of_ble_eq_true rfl)) dX1_canBulge_101 ⟨(Nat.zero_le _), (Nat.zero_le _)⟩)) (fun q33 hq33 => ?_)
                  subst hq33
                  refine mf_bp_eq (tgt := 111) hx hb dX1_canBulge_104 (by decide) (fun c34 => ?_) (fun c34 => ?_)
                  · skip
                    have c34' := c34; unfold openP at c34'
                    refine mf_iconst hx hb dX1_canBulge_111 ?_
                    exact W.zret hx hb hr (mf_nar01 (by omega)) (fun t ht hW => ⟨_, rfl, (congrArg iI (bP_f (by subst_vars; intro z; unfold canB at z; obtain ⟨z1, z2, z3, z4, z5, z6, z7, z8⟩ := z; first | contradiction | omega)).symm), ht⟩) t_nil dX1_canBulge_112
                  · skip
                    have c34' := c34; unfold openP at c34'
                    refine mf_iconst hx hb dX1_canBulge_107 ?_
                    refine lv_goto (tgt := 112) hx hb dX1_canBulge_108 (by decide) ?_
                    exact W.zret hx hb hr (mf_nar01 (by omega)) (fun t ht hW => ⟨_, rfl, (congrArg iI (bP_t (by subst_vars; unfold canB; exact ⟨by assumption, by omega, by omega, by omega, by assumption, by assumption, by assumption, by assumption⟩)).symm), ht⟩) t_nil dX1_canBulge_112
        · skip
          refine mf_iconst hx hb dX1_canBulge_29 ?_
          exact W.zret hx hb hr (mf_nar01 (by omega)) (fun t ht hW => ⟨_, rfl, (congrArg iI (bP_f (by subst_vars; intro z; unfold canB at z; obtain ⟨z1, z2, z3, z4, z5, z6, z7, z8⟩ := z; first | contradiction | omega)).symm), ht⟩) t_nil dX1_canBulge_30
set_option maxHeartbeats 4000000 in
set_option maxRecDepth 100000 in
theorem c_X1_isNeck (l : Launch) (G : mf_G) (h : Nat) (ad : Nat → Nat) (r : mf_V) (iv : Int) (jv : Int) (hiv : i32 iv) (hjv : i32 jv) (ok : rOK rlo rhi r) : Met l yX1_isNeck wsX1_isNeck ({ frames := 2, cells := 0, slots := 0, locals := 45 }) (va_Pc [.ref h, .int (iI (iv)), .int (iI (jv))] (RdP G (RW G h ad r))) (vp_Si (fun q => q = iI (bP (neckP r iv jv)))) 0 0 (fun _ => False) := by
  refine Met.ofW (cc := cX1_isNeck) (maxL := 3) (ret := (some .boolean)) (by decide) rfl ?_
  intro p e s m args below meth c s₁ B hml hv
  obtain ⟨rfl, hP, hK, hN⟩ := hv
  have hx := B.exec
  have hb := B.bytes
  have hr := B.returns
  have hts := atoms_spec (ws := wsX1_isNeck) B.pre
  have hown : s.vm.findClass RX1 = some m.cls := findClass_of_methodNamed B.named
  have hlocks := B.notSynchronized
  have hinX1 : ∀ w ∈ u_ws RX1 TX1 14, w ∈ wsX1_isNeck := fun w h => List.mem_cons_of_mem _ (List.mem_append_right _ h)
  have hl := lv_entry ([.ref h, .int (iI (iv)), .int (iI (jv))]) (n := 3) (Nat.le_of_ble_eq_true rfl)
  rw [lg_entry_eq]
  generalize (lg_sl ([.ref h, .int (iI (iv)), .int (iI (jv))]) ++ List.replicate (3 - (lg_sl ([.ref h, .int (iI (iv)), .int (iI (jv))])).length) Slot.unset).toArray = ls at hl ⊢
  have hl : lv_has ls 3 [(0, .ref h), (1, .int (iI (iv))), (2, .int (iI (jv)))] := hl
  have hiv1 := hiv.1
  have hiv2 := hiv.2
  have hjv1 := hjv.1
  have hjv2 := hjv.2
  have okLr : (0 : Int) ≤ r 7 0 ∧ r 7 0 ≤ 150 := ok 7 0
  refine lv_aload_n hx hb dX1_isNeck_0 rfl (lv_at hl 0 rfl) ?_
  refine lv_iload_n hx hb dX1_isNeck_1 rfl (lv_at hl 1 rfl) ?_
  refine vp_callSi (va_Run.run (va_runV (As := [.int (iI (iv))]) (rest := []) ⟨hx, hb, hml, hown, hts⟩ (c_X1_isInCourse l G h ad r (iv) (i32_mk (by omega) (by omega)) (by assumption)) (cwV 1 hts gX1_isNeck_X1_isInCourse rfl rfl rfl (by decide +kernel) ⟨Nat.le_of_ble_eq_true rfl, Nat.le_of_ble_eq_true rfl⟩) (rdV (wc := RW G h ad r) hK hP hN [0, 1, 2, 3, 4, 5, 6, 7, 8, 9, 10, 11] rfl (ci := 1) rfl rfl) rfl rfl hl.1 rfl (lv_room (Nat.le_of_ble_eq_true rfl)) dX1_isNeck_2 ⟨(Nat.zero_le _), (Nat.zero_le _)⟩)) (fun q1 hq1 => ?_)
  subst hq1
  refine mf_bp_eq (tgt := 46) hx hb dX1_isNeck_5 (by decide) (fun c2 => ?_) (fun c2 => ?_)
  · skip
    have c2' := c2; unfold inC at c2'
    refine mf_iconst hx hb dX1_isNeck_46 ?_
    exact W.zret hx hb hr (mf_nar01 (by omega)) (fun t ht hW => ⟨_, rfl, (congrArg iI (bP_f (by subst_vars; intro z; unfold neckP at z; obtain ⟨z1, z2, z3, z4⟩ := z; first | contradiction | omega)).symm), ht⟩) t_nil dX1_isNeck_47
  · skip
    have c2' := c2; unfold inC at c2'
    refine lv_aload_n hx hb dX1_isNeck_8 rfl (lv_at hl 0 rfl) ?_
    refine lv_iload_n hx hb dX1_isNeck_9 rfl (lv_at hl 2 rfl) ?_
    refine vp_callSi (va_Run.run (va_runV (As := [.int (iI (jv))]) (rest := []) ⟨hx, hb, hml, hown, hts⟩ (c_X1_isInCourse l G h ad r (jv) (i32_mk (by omega) (by omega)) (by assumption)) (cwV 1 hts gX1_isNeck_X1_isInCourse rfl rfl rfl (by decide +kernel) ⟨Nat.le_of_ble_eq_true rfl, Nat.le_of_ble_eq_true rfl⟩) (rdV (wc := RW G h ad r) hK hP hN [0, 1, 2, 3, 4, 5, 6, 7, 8, 9, 10, 11] rfl (ci := 1) rfl rfl) rfl rfl hl.1 rfl (lv_room (Nat.le_of_ble_eq_true rfl)) dX1_isNeck_10 ⟨(Nat.zero_le _), (Nat.zero_le _)⟩)) (fun q3 hq3 => ?_)
    subst hq3
    refine mf_bp_eq (tgt := 46) hx hb dX1_isNeck_13 (by decide) (fun c4 => ?_) (fun c4 => ?_)
    · skip
      have c4' := c4; unfold inC at c4'
      refine mf_iconst hx hb dX1_isNeck_46 ?_
      exact W.zret hx hb hr (mf_nar01 (by omega)) (fun t ht hW => ⟨_, rfl, (congrArg iI (bP_f (by subst_vars; intro z; unfold neckP at z; obtain ⟨z1, z2, z3, z4⟩ := z; first | contradiction | omega)).symm), ht⟩) t_nil dX1_isNeck_47
    · skip
      have c4' := c4; unfold inC at c4'
      refine lv_iload_n hx hb dX1_isNeck_16 rfl (lv_at hl 2 rfl) ?_
      refine lv_iload_n hx hb dX1_isNeck_17 rfl (lv_at hl 1 rfl) ?_
      refine mf_isub hx hb dX1_isNeck_18 ?_
      refine mf_iconst hx hb dX1_isNeck_19 ?_
      refine mf_icmp_lt (tgt := 46) hx hb dX1_isNeck_20 (by decide) (i32_mk (by omega) (by omega)) (i32_mk (by decide) (by decide)) (fun c5 => ?_) (fun c5 => ?_)
      · skip
        refine mf_iconst hx hb dX1_isNeck_46 ?_
        exact W.zret hx hb hr (mf_nar01 (by omega)) (fun t ht hW => ⟨_, rfl, (congrArg iI (bP_f (by subst_vars; intro z; unfold neckP at z; obtain ⟨z1, z2, z3, z4⟩ := z; first | contradiction | omega)).symm), ht⟩) t_nil dX1_isNeck_47
      · skip
        refine lv_aload_n hx hb dX1_isNeck_23 rfl (lv_at hl 0 rfl) ?_
        refine va_get (D := G.1) (ci := 1) (v := .ref (ad 6)) (C := RX1) (T := TX1) (N := 14) hx hb hts hinX1 hown hK hP 0 rfl rfl 6 (by decide) (hts (.fieldLink RX1 31 "MeanderFarm$River" "course" "[I") (List.mem_of_getElem? (i := 1) rfl)) (fun _ h9 => h9) rfl dX1_isNeck_24 ?_
        refine lv_iload_n hx hb dX1_isNeck_27 rfl (lv_at hl 1 rfl) ?_
        refine mf_iald (n := 150) (f := r 6) hx hb hK hP 7 0 rfl rfl (z := iv) (by omega) (by omega) (by decide) dX1_isNeck_28 ?_
        have b6 : (0 : Int) ≤ r 6 iv ∧ r 6 iv ≤ 383 := ok 6 (iv)
        refine lv_aload_n hx hb dX1_isNeck_29 rfl (lv_at hl 0 rfl) ?_
        refine va_get (D := G.1) (ci := 1) (v := .ref (ad 6)) (C := RX1) (T := TX1) (N := 14) hx hb hts hinX1 hown hK hP 0 rfl rfl 6 (by decide) (hts (.fieldLink RX1 31 "MeanderFarm$River" "course" "[I") (List.mem_of_getElem? (i := 1) rfl)) (fun _ h9 => h9) rfl dX1_isNeck_30 ?_
        refine lv_iload_n hx hb dX1_isNeck_33 rfl (lv_at hl 2 rfl) ?_
        refine mf_iald (n := 150) (f := r 6) hx hb hK hP 7 0 rfl rfl (z := jv) (by omega) (by omega) (by decide) dX1_isNeck_34 ?_
        have b7 : (0 : Int) ≤ r 6 jv ∧ r 6 jv ≤ 383 := ok 6 (jv)
        refine vp_callSi (va_Run.run (va_runSN (As := [.int (iI (r 6 iv)), .int (iI (r 6 jv))]) (rest := []) ⟨hx, hb, hml, hown, hts⟩ (c_X2_directionTo l (r 6 iv) (r 6 jv) (i32_mk (by omega) (by omega)) (i32_mk (by omega) (by omega))) ⟨(va_cnB 2 hts gX1_isNeck_X2_directionTo_n83 rfl rfl rfl (hN.m 28 rfl) (hts (.initialized RX2) (List.mem_of_getElem? (i := 9) rfl)) (by decide +kernel) ⟨Nat.le_of_ble_eq_true rfl, Nat.le_of_ble_eq_true rfl⟩), (hts (.static yX2_directionTo) (List.mem_of_getElem? (i := 8) rfl)), trivial⟩ pureS rfl rfl hl.1 rfl (lv_room (Nat.le_of_ble_eq_true rfl)) dX1_isNeck_35 ⟨(Nat.zero_le _), (Nat.zero_le _)⟩)) (fun q8 hq8 => ?_)
        subst hq8
        refine mf_nm (fun y9 ey9 => ?_)
        have b10 : -1 ≤ y9 ∧ y9 ≤ 3 := by rw [ey9]; exact dirTo_b (r 6 iv) (r 6 jv)
        refine mf_iconst hx hb dX1_isNeck_38 ?_
        refine mf_icmp_eq (tgt := 46) hx hb dX1_isNeck_39 (by decide) (i32_mk (by omega) (by omega)) (i32_mk (by decide) (by decide)) (fun c11 => ?_) (fun c11 => ?_)
        · skip
          refine mf_iconst hx hb dX1_isNeck_46 ?_
          exact W.zret hx hb hr (mf_nar01 (by omega)) (fun t ht hW => ⟨_, rfl, (congrArg iI (bP_f (by subst_vars; intro z; unfold neckP at z; obtain ⟨z1, z2, z3, z4⟩ := z; first | contradiction | omega)).symm), ht⟩) t_nil dX1_isNeck_47
        · skip
          refine mf_iconst hx hb dX1_isNeck_42 ?_
          refine lv_goto (tgt := 47) hx hb dX1_isNeck_43 (by decide) ?_
          exact W.zret hx hb hr (mf_nar01 (by omega)) (fun t ht hW => ⟨_, rfl, (congrArg iI (bP_t (by subst_vars; unfold neckP; exact ⟨by assumption, by assumption, by omega, by omega⟩)).symm), ht⟩) t_nil dX1_isNeck_47
set_option maxHeartbeats 4000000 in
set_option maxRecDepth 100000 in
theorem c_X1_lakeYearsLeft (l : Launch) (G : mf_G) (h : Nat) (ad : Nat → Nat) (r : mf_V) (cv : Int) (hcv : i32 cv) (ok : rOK rlo rhi r) : Met l yX1_lakeYearsLeft wsX1_lakeYearsLeft ({ frames := 1, cells := 0, slots := 0, locals := 21 }) (va_Pc [.ref h, .int (iI (cv))] (RdP G (RW G h ad r))) (vp_Si (fun q => q = iI (lyl r cv))) 0 0 (fun _ => False) := by
  refine Met.ofW (cc := cX1_lakeYearsLeft) (maxL := 2) (ret := (some .int)) (by decide) rfl ?_
  intro p e s m args below meth c s₁ B hml hv
  obtain ⟨rfl, hP, hK, hN⟩ := hv
  have hx := B.exec
  have hb := B.bytes
  have hr := B.returns
  have hts := atoms_spec (ws := wsX1_lakeYearsLeft) B.pre
  have hown : s.vm.findClass RX1 = some m.cls := findClass_of_methodNamed B.named
  have hlocks := B.notSynchronized
  have hinX1 : ∀ w ∈ u_ws RX1 TX1 14, w ∈ wsX1_lakeYearsLeft := fun w h => List.mem_cons_of_mem _ (List.mem_append_right _ h)
  have hl := lv_entry ([.ref h, .int (iI (cv))]) (n := 2) (Nat.le_of_ble_eq_true rfl)
  rw [lg_entry_eq]
  generalize (lg_sl ([.ref h, .int (iI (cv))]) ++ List.replicate (2 - (lg_sl ([.ref h, .int (iI (cv))])).length) Slot.unset).toArray = ls at hl ⊢
  have hl : lv_has ls 2 [(0, .ref h), (1, .int (iI (cv)))] := hl
  have hcv1 := hcv.1
  have hcv2 := hcv.2
  have okLr : (0 : Int) ≤ r 7 0 ∧ r 7 0 ≤ 150 := ok 7 0
  refine lv_iload_n hx hb dX1_lakeYearsLeft_0 rfl (lv_at hl 1 rfl) ?_
  refine vp_callSi (va_Run.run (va_runSN (As := [.int (iI (cv))]) (rest := []) ⟨hx, hb, hml, hown, hts⟩ (c_X2_isCell l (cv) (i32_mk (by omega) (by omega))) ⟨(va_cnB 1 hts gX1_lakeYearsLeft_X2_isCell_n70 rfl rfl rfl (hN.m 27 rfl) (hts (.initialized RX2) (List.mem_of_getElem? (i := 8) rfl)) (by decide +kernel) ⟨Nat.le_of_ble_eq_true rfl, Nat.le_of_ble_eq_true rfl⟩), (hts (.static yX2_isCell) (List.mem_of_getElem? (i := 7) rfl)), trivial⟩ pureS rfl rfl hl.1 rfl (lv_room (Nat.le_of_ble_eq_true rfl)) dX1_lakeYearsLeft_1 ⟨(Nat.zero_le _), (Nat.zero_le _)⟩)) (fun q1 hq1 => ?_)
  subst hq1
  refine mf_bp_eq (tgt := 25) hx hb dX1_lakeYearsLeft_4 (by decide) (fun c2 => ?_) (fun c2 => ?_)
  · skip
    refine mf_iconst hx hb dX1_lakeYearsLeft_25 ?_
    exact W.iret hx hb hr (fun t ht hW => ⟨_, rfl, (congrArg iI (by unfold lyl; first | (rw [mf_if_t (by assumption)]; omega) | exact (mf_if_f (by assumption)).symm)), ht⟩) t_nil dX1_lakeYearsLeft_26
  · skip
    refine mf_iconst hx hb dX1_lakeYearsLeft_7 ?_
    refine lv_aload_n hx hb dX1_lakeYearsLeft_8 rfl (lv_at hl 0 rfl) ?_
    refine va_get (D := G.1) (ci := 1) (v := .ref (ad 3)) (C := RX1) (T := TX1) (N := 14) hx hb hts hinX1 hown hK hP 0 rfl rfl 3 (by decide) (hts (.fieldLink RX1 22 "MeanderFarm$River" "lakeEnd" "[I") (List.mem_of_getElem? (i := 1) rfl)) (fun _ h9 => h9) rfl dX1_lakeYearsLeft_9 ?_
    refine lv_iload_n hx hb dX1_lakeYearsLeft_12 rfl (lv_at hl 1 rfl) ?_
    refine mf_iald (n := 384) (f := r 3) hx hb hK hP 4 0 rfl rfl (z := cv) (by omega) (by omega) (by decide) dX1_lakeYearsLeft_13 ?_
    have b3 : (0 : Int) ≤ r 3 cv ∧ r 3 cv ≤ 100000 := ok 3 (cv)
    refine lv_aload_n hx hb dX1_lakeYearsLeft_14 rfl (lv_at hl 0 rfl) ?_
    refine va_get (D := G.1) (ci := 1) (v := .int (iI (r 8 0))) (C := RX1) (T := TX1) (N := 14) hx hb hts hinX1 hown hK hP 0 rfl rfl 8 (by decide) (hts (.fieldLink RX1 60 "MeanderFarm$River" "year" "I") (List.mem_of_getElem? (i := 2) rfl)) (fun _ h9 => h9) rfl dX1_lakeYearsLeft_15 ?_
    have b4 : (0 : Int) ≤ r 8 0 ∧ r 8 0 ≤ 90000 := ok 8 (0)
    refine mf_isub hx hb dX1_lakeYearsLeft_18 ?_
    refine mf_mmax hx hb (hml.trans hl.1.symm) hown (hts (.methodLink RX1 73 Lib.Math.max.name) (List.mem_of_getElem? (i := 3) rfl)) (hts (.static Lib.Math.max.name) (List.mem_of_getElem? (i := 4) rfl)) (hts (.initialized "java/lang/Math") (List.mem_of_getElem? (i := 5) rfl)) (hts (.code Lib.Math.max.name Lib.Math.max.code 2 (some .int)) (List.mem_of_getElem? (i := 6) rfl)) (by decide) (Nat.le_of_ble_eq_true rfl) (Nat.zero_le _) (Nat.zero_le _) (i32_mk (by decide) (by decide)) (i32_mk (by omega) (by omega)) dX1_lakeYearsLeft_19 ?_
    refine mf_nm (fun y5 ey5 => ?_)
    refine lv_goto (tgt := 26) hx hb dX1_lakeYearsLeft_22 (by decide) ?_
    exact W.iret hx hb hr (fun t ht hW => ⟨_, rfl, (congrArg iI (by unfold lyl; first | (rw [mf_if_t (by assumption)]; omega) | exact (mf_if_f (by assumption)).symm)), ht⟩) t_nil dX1_lakeYearsLeft_26
set_option maxHeartbeats 4000000 in
set_option maxRecDepth 100000 in
theorem c_X1_lakes (l : Launch) (G : mf_G) (h : Nat) (ad : Nat → Nat) (r : mf_V) (ok : rOK rlo rhi r) : Met l yX1_lakes wsX1_lakes ({ frames := 0, cells := 0, slots := 0, locals := 0 }) (va_Pc [.ref h] (RdP G (RW G h ad r))) (vp_Si (fun q => q = iI (lakesF r))) 0 0 (fun _ => False) := by
  refine Met.ofW (cc := cX1_lakes) (maxL := 3) (ret := (some .int)) (by decide) rfl ?_
  intro p e s m args below meth c s₁ B hml hv
  obtain ⟨rfl, hP, hK, hN⟩ := hv
  have hx := B.exec
  have hb := B.bytes
  have hr := B.returns
  have hts := atoms_spec (ws := wsX1_lakes) B.pre
  have hown : s.vm.findClass RX1 = some m.cls := findClass_of_methodNamed B.named
  have hlocks := B.notSynchronized
  have hinX1 : ∀ w ∈ u_ws RX1 TX1 14, w ∈ wsX1_lakes := fun w h => List.mem_cons_of_mem _ (List.mem_append_right _ h)
  have hl := lv_entry ([.ref h]) (n := 3) (Nat.le_of_ble_eq_true rfl)
  rw [lg_entry_eq]
  generalize (lg_sl ([.ref h]) ++ List.replicate (3 - (lg_sl ([.ref h])).length) Slot.unset).toArray = ls at hl ⊢
  have hl : lv_has ls 3 [(0, .ref h)] := hl
  have okLr : (0 : Int) ≤ r 7 0 ∧ r 7 0 ≤ 150 := ok 7 0
  refine mf_iconst hx hb dX1_lakes_0 ?_
  refine lv_istore_n (lv' := [(1, .int (iI (0))), (0, .ref h)]) hx hb dX1_lakes_1 rfl hl (by decide) rfl (fun ls hl => ?_)
  refine mf_iconst hx hb dX1_lakes_2 ?_
  refine lv_istore_n (lv' := [(2, .int (iI (0))), (1, .int (iI (0))), (0, .ref h)]) hx hb dX1_lakes_3 rfl hl (by decide) rfl (fun ls hl => ?_)
  have lp4 : ∀ (n : Nat) (xv : Int) (kv : Int), (384 - kv).toNat < n → (0 ≤ kv ∧ kv ≤ 384) → (xv = msum (fun c => bP (r 8 0 < r 3 c)) kv) → ∀ (ls : Array Slot), lv_has ls 3 [(0, .ref h), (1, .int (iI (xv))), (2, .int (iI (kv)))] → W p l e (headSpec wsX1_lakes ({ frames := 0, cells := 0, slots := 0, locals := 0 })).room s m ([.ref h] : List Value).toArray below meth c s.heap [] 0 0 (MQ below (vp_Si (fun q => q = iI (lakesF r))) ([.ref h] : List Value).toArray s 0 0 (fun _ => False)) (F0 m 4 ls []) := by
    intro n
    induction n with
    | zero => intro xv kv hn; exact absurd hn (Nat.not_lt_zero _)
    | succ n ih4 =>
      intro xv kv hn hk hs ls hl
      refine lv_iload_n hx hb dX1_lakes_4 rfl (lv_at hl 2 rfl) ?_
      refine mf_sipush hx hb dX1_lakes_5 rfl ?_
      refine mf_icmp_ge (tgt := 33) hx hb dX1_lakes_8 (by decide) (i32_mk (by omega) (by omega)) (i32_mk (by decide) (by decide)) (fun c1 => ?_) (fun c1 => ?_)
      · skip
        refine lv_iload_n hx hb dX1_lakes_33 rfl (lv_at hl 1 rfl) ?_
        exact W.iret hx hb hr (fun t ht hW => ⟨_, rfl, (congrArg iI (by rw [show kv = 384 by omega] at hs; exact hs)), ht⟩) t_nil dX1_lakes_34
      · skip
        refine lv_aload_n hx hb dX1_lakes_11 rfl (lv_at hl 0 rfl) ?_
        refine va_get (D := G.1) (ci := 1) (v := .ref (ad 3)) (C := RX1) (T := TX1) (N := 14) hx hb hts hinX1 hown hK hP 0 rfl rfl 3 (by decide) (hts (.fieldLink RX1 22 "MeanderFarm$River" "lakeEnd" "[I") (List.mem_of_getElem? (i := 1) rfl)) (fun _ h9 => h9) rfl dX1_lakes_12 ?_
        refine lv_iload_n hx hb dX1_lakes_15 rfl (lv_at hl 2 rfl) ?_
        refine mf_iald (n := 384) (f := r 3) hx hb hK hP 4 0 rfl rfl (z := kv) (by omega) (by omega) (by decide) dX1_lakes_16 ?_
        have b2 : (0 : Int) ≤ r 3 kv ∧ r 3 kv ≤ 100000 := ok 3 (kv)
        refine lv_aload_n hx hb dX1_lakes_17 rfl (lv_at hl 0 rfl) ?_
        refine va_get (D := G.1) (ci := 1) (v := .int (iI (r 8 0))) (C := RX1) (T := TX1) (N := 14) hx hb hts hinX1 hown hK hP 0 rfl rfl 8 (by decide) (hts (.fieldLink RX1 60 "MeanderFarm$River" "year" "I") (List.mem_of_getElem? (i := 2) rfl)) (fun _ h9 => h9) rfl dX1_lakes_18 ?_
        have b3 : (0 : Int) ≤ r 8 0 ∧ r 8 0 ≤ 90000 := ok 8 (0)
        refine mf_icmp_le (tgt := 27) hx hb dX1_lakes_21 (by decide) (i32_mk (by omega) (by omega)) (i32_mk (by omega) (by omega)) (fun c4 => ?_) (fun c4 => ?_)
        · skip
          refine lv_iinc (v := iI (kv + 1)) (lv' := [(2, .int (iI (kv + 1))), (0, .ref h), (1, .int (iI (xv)))]) hx hb dX1_lakes_27 hl (k := 2) rfl (iI_add _ _).symm (by decide) rfl (fun ls hl => ?_)
          refine lv_goto (tgt := 4) hx hb dX1_lakes_30 (by decide) ?_
          exact ih4 xv (kv + 1) (by omega) (by first | assumption | omega) (by first | (rw [msum_s _ (by omega), bP_t (by first | assumption | omega)]; omega) | (rw [msum_s _ (by omega), bP_f (by first | assumption | omega)]; omega) | (rw [msum_s _ (by omega)]; omega) | exact (msum_0 _).symm)  ls (lv_sub hl [1, 2, 0] rfl)
        · skip
          refine lv_iinc (v := iI (xv + 1)) (lv' := [(1, .int (iI (xv + 1))), (0, .ref h), (2, .int (iI (kv)))]) hx hb dX1_lakes_24 hl (k := 1) rfl (iI_add _ _).symm (by decide) rfl (fun ls hl => ?_)
          refine lv_iinc (v := iI (kv + 1)) (lv' := [(2, .int (iI (kv + 1))), (1, .int (iI (xv + 1))), (0, .ref h)]) hx hb dX1_lakes_27 hl (k := 2) rfl (iI_add _ _).symm (by decide) rfl (fun ls hl => ?_)
          refine lv_goto (tgt := 4) hx hb dX1_lakes_30 (by decide) ?_
          exact ih4 (xv + 1) (kv + 1) (by omega) (by first | assumption | omega) (by first | (rw [msum_s _ (by omega), bP_t (by first | assumption | omega)]; omega) | (rw [msum_s _ (by omega), bP_f (by first | assumption | omega)]; omega) | (rw [msum_s _ (by omega)]; omega) | exact (msum_0 _).symm)  ls (lv_sub hl [2, 1, 0] rfl)
  exact lp4 (_ + 1) 0 0 (Nat.lt_succ_self _) (by first | assumption | omega) (by first | (rw [msum_s _ (by omega), bP_t (by first | assumption | omega)]; omega) | (rw [msum_s _ (by omega), bP_f (by first | assumption | omega)]; omega) | (rw [msum_s _ (by omega)]; omega) | exact (msum_0 _).symm)  ls (lv_sub hl [2, 1, 0] rfl)
set_option maxHeartbeats 4000000 in
set_option maxRecDepth 100000 in
theorem c_X1_cellsWithStones (l : Launch) (G : mf_G) (h : Nat) (ad : Nat → Nat) (r : mf_V) (ok : rOK rlo rhi r) : Met l yX1_cellsWithStones wsX1_cellsWithStones ({ frames := 0, cells := 0, slots := 0, locals := 0 }) (va_Pc [.ref h] (RdP G (RW G h ad r))) (vp_Si (fun q => q = iI (stonesF r))) 0 0 (fun _ => False) := by
  refine Met.ofW (cc := cX1_cellsWithStones) (maxL := 3) (ret := (some .int)) (by decide) rfl ?_
  intro p e s m args below meth c s₁ B hml hv
  obtain ⟨rfl, hP, hK, hN⟩ := hv
  have hx := B.exec
  have hb := B.bytes
  have hr := B.returns
  have hts := atoms_spec (ws := wsX1_cellsWithStones) B.pre
  have hown : s.vm.findClass RX1 = some m.cls := findClass_of_methodNamed B.named
  have hlocks := B.notSynchronized
  have hinX1 : ∀ w ∈ u_ws RX1 TX1 14, w ∈ wsX1_cellsWithStones := fun w h => List.mem_cons_of_mem _ (List.mem_append_right _ h)
  have hl := lv_entry ([.ref h]) (n := 3) (Nat.le_of_ble_eq_true rfl)
  rw [lg_entry_eq]
  generalize (lg_sl ([.ref h]) ++ List.replicate (3 - (lg_sl ([.ref h])).length) Slot.unset).toArray = ls at hl ⊢
  have hl : lv_has ls 3 [(0, .ref h)] := hl
  have okLr : (0 : Int) ≤ r 7 0 ∧ r 7 0 ≤ 150 := ok 7 0
  refine mf_iconst hx hb dX1_cellsWithStones_0 ?_
  refine lv_istore_n (lv' := [(1, .int (iI (0))), (0, .ref h)]) hx hb dX1_cellsWithStones_1 rfl hl (by decide) rfl (fun ls hl => ?_)
  refine mf_iconst hx hb dX1_cellsWithStones_2 ?_
  refine lv_istore_n (lv' := [(2, .int (iI (0))), (1, .int (iI (0))), (0, .ref h)]) hx hb dX1_cellsWithStones_3 rfl hl (by decide) rfl (fun ls hl => ?_)
  have lp4 : ∀ (n : Nat) (xv : Int) (kv : Int), (384 - kv).toNat < n → (0 ≤ kv ∧ kv ≤ 384) → (xv = msum (fun c => bP (¬ r 2 c = 0)) kv) → ∀ (ls : Array Slot), lv_has ls 3 [(0, .ref h), (1, .int (iI (xv))), (2, .int (iI (kv)))] → W p l e (headSpec wsX1_cellsWithStones ({ frames := 0, cells := 0, slots := 0, locals := 0 })).room s m ([.ref h] : List Value).toArray below meth c s.heap [] 0 0 (MQ below (vp_Si (fun q => q = iI (stonesF r))) ([.ref h] : List Value).toArray s 0 0 (fun _ => False)) (F0 m 4 ls []) := by
    intro n
    induction n with
    | zero => intro xv kv hn; exact absurd hn (Nat.not_lt_zero _)
    | succ n ih4 =>
      intro xv kv hn hk hs ls hl
      refine lv_iload_n hx hb dX1_cellsWithStones_4 rfl (lv_at hl 2 rfl) ?_
      refine mf_sipush hx hb dX1_cellsWithStones_5 rfl ?_
      refine mf_icmp_ge (tgt := 29) hx hb dX1_cellsWithStones_8 (by decide) (i32_mk (by omega) (by omega)) (i32_mk (by decide) (by decide)) (fun c1 => ?_) (fun c1 => ?_)
      · skip
        refine lv_iload_n hx hb dX1_cellsWithStones_29 rfl (lv_at hl 1 rfl) ?_
        exact W.iret hx hb hr (fun t ht hW => ⟨_, rfl, (congrArg iI (by rw [show kv = 384 by omega] at hs; exact hs)), ht⟩) t_nil dX1_cellsWithStones_30
      · skip
        refine lv_aload_n hx hb dX1_cellsWithStones_11 rfl (lv_at hl 0 rfl) ?_
        refine va_get (D := G.1) (ci := 1) (v := .ref (ad 2)) (C := RX1) (T := TX1) (N := 14) hx hb hts hinX1 hown hK hP 0 rfl rfl 2 (by decide) (hts (.fieldLink RX1 18 "MeanderFarm$River" "stones" "[Z") (List.mem_of_getElem? (i := 1) rfl)) (fun _ h9 => h9) rfl dX1_cellsWithStones_12 ?_
        refine lv_iload_n hx hb dX1_cellsWithStones_15 rfl (lv_at hl 2 rfl) ?_
        refine mf_zald (n := 384) (f := r 2) hx hb hK hP 3 1 rfl rfl (z := kv) (by omega) (by omega) (by decide) dX1_cellsWithStones_16 ?_
        have b2 : (0 : Int) ≤ r 2 kv ∧ r 2 kv ≤ 1 := ok 2 (kv)
        refine mf_if_eq (tgt := 23) hx hb dX1_cellsWithStones_17 (by decide) (i32_mk (by omega) (by omega)) (fun c3 => ?_) (fun c3 => ?_)
        · skip
          refine lv_iinc (v := iI (kv + 1)) (lv' := [(2, .int (iI (kv + 1))), (0, .ref h), (1, .int (iI (xv)))]) hx hb dX1_cellsWithStones_23 hl (k := 2) rfl (iI_add _ _).symm (by decide) rfl (fun ls hl => ?_)
          refine lv_goto (tgt := 4) hx hb dX1_cellsWithStones_26 (by decide) ?_
          exact ih4 xv (kv + 1) (by omega) (by first | assumption | omega) (by first | (rw [msum_s _ (by omega), bP_t (by first | assumption | omega)]; omega) | (rw [msum_s _ (by omega), bP_f (by first | assumption | omega)]; omega) | (rw [msum_s _ (by omega)]; omega) | exact (msum_0 _).symm)  ls (lv_sub hl [1, 2, 0] rfl)
        · skip
          refine lv_iinc (v := iI (xv + 1)) (lv' := [(1, .int (iI (xv + 1))), (0, .ref h), (2, .int (iI (kv)))]) hx hb dX1_cellsWithStones_20 hl (k := 1) rfl (iI_add _ _).symm (by decide) rfl (fun ls hl => ?_)
          refine lv_iinc (v := iI (kv + 1)) (lv' := [(2, .int (iI (kv + 1))), (1, .int (iI (xv + 1))), (0, .ref h)]) hx hb dX1_cellsWithStones_23 hl (k := 2) rfl (iI_add _ _).symm (by decide) rfl (fun ls hl => ?_)
          refine lv_goto (tgt := 4) hx hb dX1_cellsWithStones_26 (by decide) ?_
          exact ih4 (xv + 1) (kv + 1) (by omega) (by first | assumption | omega) (by first | (rw [msum_s _ (by omega), bP_t (by first | assumption | omega)]; omega) | (rw [msum_s _ (by omega), bP_f (by first | assumption | omega)]; omega) | (rw [msum_s _ (by omega)]; omega) | exact (msum_0 _).symm)  ls (lv_sub hl [2, 1, 0] rfl)
  exact lp4 (_ + 1) 0 0 (Nat.lt_succ_self _) (by first | assumption | omega) (by first | (rw [msum_s _ (by omega), bP_t (by first | assumption | omega)]; omega) | (rw [msum_s _ (by omega), bP_f (by first | assumption | omega)]; omega) | (rw [msum_s _ (by omega)]; omega) | exact (msum_0 _).symm)  ls (lv_sub hl [2, 1, 0] rfl)
set_option maxHeartbeats 4000000 in
set_option maxRecDepth 100000 in
theorem c_X1_allWear (l : Launch) (G : mf_G) (h : Nat) (ad : Nat → Nat) (r : mf_V) (ok : rOK rlo rhi r) : Met l yX1_allWear wsX1_allWear ({ frames := 0, cells := 0, slots := 0, locals := 0 }) (va_Pc [.ref h] (RdP G (RW G h ad r))) (vp_Si (fun q => q = iI (wearF r))) 0 0 (fun _ => False) := by
  refine Met.ofW (cc := cX1_allWear) (maxL := 3) (ret := (some .int)) (by decide) rfl ?_
  intro p e s m args below meth c s₁ B hml hv
  obtain ⟨rfl, hP, hK, hN⟩ := hv
  have hx := B.exec
  have hb := B.bytes
  have hr := B.returns
  have hts := atoms_spec (ws := wsX1_allWear) B.pre
  have hown : s.vm.findClass RX1 = some m.cls := findClass_of_methodNamed B.named
  have hlocks := B.notSynchronized
  have hinX1 : ∀ w ∈ u_ws RX1 TX1 14, w ∈ wsX1_allWear := fun w h => List.mem_cons_of_mem _ (List.mem_append_right _ h)
  have hl := lv_entry ([.ref h]) (n := 3) (Nat.le_of_ble_eq_true rfl)
  rw [lg_entry_eq]
  generalize (lg_sl ([.ref h]) ++ List.replicate (3 - (lg_sl ([.ref h])).length) Slot.unset).toArray = ls at hl ⊢
  have hl : lv_has ls 3 [(0, .ref h)] := hl
  have okLr : (0 : Int) ≤ r 7 0 ∧ r 7 0 ≤ 150 := ok 7 0
  refine mf_iconst hx hb dX1_allWear_0 ?_
  refine lv_istore_n (lv' := [(1, .int (iI (0))), (0, .ref h)]) hx hb dX1_allWear_1 rfl hl (by decide) rfl (fun ls hl => ?_)
  refine mf_iconst hx hb dX1_allWear_2 ?_
  refine lv_istore_n (lv' := [(2, .int (iI (0))), (1, .int (iI (0))), (0, .ref h)]) hx hb dX1_allWear_3 rfl hl (by decide) rfl (fun ls hl => ?_)
  have lp4 : ∀ (n : Nat) (xv : Int) (kv : Int), (384 - kv).toNat < n → (0 ≤ kv ∧ kv ≤ 384) → (xv = msum (r 1) kv) → ∀ (ls : Array Slot), lv_has ls 3 [(0, .ref h), (1, .int (iI (xv))), (2, .int (iI (kv)))] → W p l e (headSpec wsX1_allWear ({ frames := 0, cells := 0, slots := 0, locals := 0 })).room s m ([.ref h] : List Value).toArray below meth c s.heap [] 0 0 (MQ below (vp_Si (fun q => q = iI (wearF r))) ([.ref h] : List Value).toArray s 0 0 (fun _ => False)) (F0 m 4 ls []) := by
    intro n
    induction n with
    | zero => intro xv kv hn; exact absurd hn (Nat.not_lt_zero _)
    | succ n ih4 =>
      intro xv kv hn hk hs ls hl
      refine lv_iload_n hx hb dX1_allWear_4 rfl (lv_at hl 2 rfl) ?_
      refine mf_sipush hx hb dX1_allWear_5 rfl ?_
      refine mf_icmp_ge (tgt := 26) hx hb dX1_allWear_8 (by decide) (i32_mk (by omega) (by omega)) (i32_mk (by decide) (by decide)) (fun c1 => ?_) (fun c1 => ?_)
      · skip
        refine lv_iload_n hx hb dX1_allWear_26 rfl (lv_at hl 1 rfl) ?_
        exact W.iret hx hb hr (fun t ht hW => ⟨_, rfl, (congrArg iI (by rw [show kv = 384 by omega] at hs; exact hs)), ht⟩) t_nil dX1_allWear_27
      · skip
        refine lv_iload_n hx hb dX1_allWear_11 rfl (lv_at hl 1 rfl) ?_
        refine lv_aload_n hx hb dX1_allWear_12 rfl (lv_at hl 0 rfl) ?_
        refine va_get (D := G.1) (ci := 1) (v := .ref (ad 1)) (C := RX1) (T := TX1) (N := 14) hx hb hts hinX1 hown hK hP 0 rfl rfl 1 (by decide) (hts (.fieldLink RX1 15 "MeanderFarm$River" "wear" "[I") (List.mem_of_getElem? (i := 1) rfl)) (fun _ h9 => h9) rfl dX1_allWear_13 ?_
        refine lv_iload_n hx hb dX1_allWear_16 rfl (lv_at hl 2 rfl) ?_
        refine mf_iald (n := 384) (f := r 1) hx hb hK hP 2 0 rfl rfl (z := kv) (by omega) (by omega) (by decide) dX1_allWear_17 ?_
        have b2 : (0 : Int) ≤ r 1 kv ∧ r 1 kv ≤ 200000000 := ok 1 (kv)
        refine mf_iadd hx hb dX1_allWear_18 ?_
        refine lv_istore_n (lv' := [(1, .int (iI (xv + (r 1 kv)))), (0, .ref h), (2, .int (iI (kv)))]) hx hb dX1_allWear_19 rfl hl (by decide) rfl (fun ls hl => ?_)
        refine lv_iinc (v := iI (kv + 1)) (lv' := [(2, .int (iI (kv + 1))), (1, .int (iI (xv + (r 1 kv)))), (0, .ref h)]) hx hb dX1_allWear_20 hl (k := 2) rfl (iI_add _ _).symm (by decide) rfl (fun ls hl => ?_)
        refine lv_goto (tgt := 4) hx hb dX1_allWear_23 (by decide) ?_
        exact ih4 (xv + (r 1 kv)) (kv + 1) (by omega) (by first | assumption | omega) (by first | (rw [msum_s _ (by omega), bP_t (by first | assumption | omega)]; omega) | (rw [msum_s _ (by omega), bP_f (by first | assumption | omega)]; omega) | (rw [msum_s _ (by omega)]; omega) | exact (msum_0 _).symm)  ls (lv_sub hl [2, 1, 0] rfl)
  exact lp4 (_ + 1) 0 0 (Nat.lt_succ_self _) (by first | assumption | omega) (by first | (rw [msum_s _ (by omega), bP_t (by first | assumption | omega)]; omega) | (rw [msum_s _ (by omega), bP_f (by first | assumption | omega)]; omega) | (rw [msum_s _ (by omega)]; omega) | exact (msum_0 _).symm)  ls (lv_sub hl [2, 1, 0] rfl)
end
section
/-! 12.read2: what a river tells, by loops -/
theorem lI_add (a b : Int) : lI (a + b) = lI a + lI b := Int64.ofInt_add a b
theorem lI_mul (a b : Int) : lI (a * b) = lI a * lI b := Int64.ofInt_mul a b
theorem iI_toL {z : Int} (h : i32 z) : (iI z).toInt64 = lI z := by
  have h2 : (iI z).toInt64.toInt = (lI z).toInt := by
    rw [Int32.toInt_toInt64, iI_toInt h]
    unfold lI
    rw [Int64.toInt_ofInt, show Int64.size = 18446744073709551616 from rfl]
    exact (Int.bmod_eq_of_le (by have := h.1; omega) (by have := h.2; omega)).symm
  exact Int64.toInt_inj.mp h2
section MFL
variable {p : Program} {l : Launch} {e : Env} {R : Room} {s : State} {m : MethodId} {args : Array Value} {below : List Frame} {meth : Method} {c : Code} {H : Heap} {locs : List Loc} {cells slots : Nat} {Q : State → Prop}
variable {cc : ByteArray} {pc : Nat} {ls : Array Slot} {rest : List Value}
theorem mf_ladd (hx : p.tables.exec = Jvm.exec) (hb : c.code = cc) {x y : Int} (hd : decode cc pc = .ok (.ladd, 1)) (k : W p l e R s m args below meth c H locs cells slots Q (F0 m (pc + 1) ls (.long (lI (x + y)) :: rest))) : W p l e R s m args below meth c H locs cells slots Q (F0 m pc ls (.long (lI y) :: .long (lI x) :: rest)) := lv_ladd hx hb hd (by rw [← lI_add]; exact k)
theorem mf_lmul (hx : p.tables.exec = Jvm.exec) (hb : c.code = cc) {x y : Int} (hd : decode cc pc = .ok (.lmul, 1)) (k : W p l e R s m args below meth c H locs cells slots Q (F0 m (pc + 1) ls (.long (lI (x * y)) :: rest))) : W p l e R s m args below meth c H locs cells slots Q (F0 m pc ls (.long (lI y) :: .long (lI x) :: rest)) := lv_lmul hx hb hd (by rw [← lI_mul]; exact k)
theorem mf_i2l (hx : p.tables.exec = Jvm.exec) (hb : c.code = cc) {x : Int} (hd : decode cc pc = .ok (.i2l, 1)) (h : i32 x) (k : W p l e R s m args below meth c H locs cells slots Q (F0 m (pc + 1) ls (.long (lI x) :: rest))) : W p l e R s m args below meth c H locs cells slots Q (F0 m pc ls (.int (iI x) :: rest)) := lv_i2l hx hb hd (iI_toL h) k
theorem mf_ldc2 (hx : p.tables.exec = Jvm.exec) (hb : c.code = cc) {own : String} {index : Nat} {v : Int64} (n : Int) (hown : s.vm.findClass own = some m.cls) (hconst : (Jvm.Cond.constantLong own index v).before args s = true) (hv : v = lI n) (hd : decode cc pc = .ok (.ldc2_w index, 3)) (k : W p l e R s m args below meth c H locs cells slots Q (F0 m (pc + 3) ls (.long (lI n) :: rest))) : W p l e R s m args below meth c H locs cells slots Q (F0 m pc ls rest) := lv_ldc2 (v := lI n) hx hb hown (by rw [← hv]; exact hconst) hd k
end MFL
/-- a fold over 0 .. k - 1 -/
def ifold (g : Int → Int → Int) (d : Int) (k : Int) : Int := Nat.rec (motive := fun _ => Int) d (fun n x => g n x) k.toNat
theorem ifold_0 (g : Int → Int → Int) (d : Int) : ifold g d 0 = d := rfl
theorem ifold_s (g : Int → Int → Int) (d : Int) {k : Int} (h : 0 ≤ k) : ifold g d (k + 1) = g k (ifold g d k) := by
  obtain ⟨n, rfl⟩ := Int.eq_ofNat_of_zero_le h
  unfold ifold
  rw [show ((n : Int) + 1).toNat = n + 1 by omega, show ((n : Int)).toNat = n by omega]
/-- the river's share of the digest -/
noncomputable def digF (r : mf_V) (d : Int) : Int := ifold (fun k x => (((x * 31 + r 0 k) * 31 + r 1 k) * 31 + bP (¬ r 2 k = 0)) * 31 + lyl r k) (ifold (fun k x => x * 31 + r 6 k) (ifold (fun k x => x * 31 + r 5 k) d 12) (r 7 0)) 384
theorem widG_b {r : mf_V} (h : rOK rlo rhi r) : ∀ n : Nat, (-1 ≤ (widG r n).1 ∧ (widG r n).1 < n) ∧ 0 ≤ (widG r n).2 ∧ (widG r n).2 ≤ 149 := by
  intro n
  induction n with
  | zero => rw [show ((0 : Nat) : Int) = 0 from rfl, widG_0]; refine ⟨⟨?_, ?_⟩, ?_, ?_⟩ <;> decide
  | succ n ih =>
    have b := farF_b h (n : Int)
    by_cases q : (widG r n).2 < farF r n - n
    · rw [show ((n + 1 : Nat) : Int) = (n : Int) + 1 from rfl, widG_t r (by omega) q]; dsimp only; omega
    · rw [show ((n + 1 : Nat) : Int) = (n : Int) + 1 from rfl, widG_f r (by omega) q]; omega
theorem widF_b {r : mf_V} (h : rOK rlo rhi r) : -1 ≤ widF r ∧ widF r ≤ 149 := by
  have b : (0 : Int) ≤ r 7 0 ∧ r 7 0 ≤ 150 := h 7 0
  obtain ⟨n, hn⟩ := Int.eq_ofNat_of_zero_le b.1
  have := (widG_b h n).1
  unfold widF
  rw [hn]
  omega
set_option maxHeartbeats 4000000 in
set_option maxRecDepth 100000 in
theorem c_X1_farthestAcross (l : Launch) (G : mf_G) (h : Nat) (ad : Nat → Nat) (r : mf_V) (iv : Int) (hiv : i32 iv) (ok : rOK rlo rhi r) (hiw : -1 ≤ iv ∧ iv ≤ 150) : Met l yX1_farthestAcross wsX1_farthestAcross ({ frames := 2, cells := 0, slots := 0, locals := 42 }) (va_Pc [.ref h, .int (iI (iv))] (RdP G (RW G h ad r))) (vp_Si (fun q => q = iI (farF r iv))) 0 0 (fun _ => False) := by
  refine Met.ofW (cc := cX1_farthestAcross) (maxL := 5) (ret := (some .int)) (by decide) rfl ?_
  intro p e s m args below meth c s₁ B hml hv
  obtain ⟨rfl, hP, hK, hN⟩ := hv
  have hx := B.exec
  have hb := B.bytes
  have hr := B.returns
  have hts := atoms_spec (ws := wsX1_farthestAcross) B.pre
  have hown : s.vm.findClass RX1 = some m.cls := findClass_of_methodNamed B.named
  have hlocks := B.notSynchronized
  have hl := lv_entry ([.ref h, .int (iI (iv))]) (n := 5) (Nat.le_of_ble_eq_true rfl)
  rw [lg_entry_eq]
  generalize (lg_sl ([.ref h, .int (iI (iv))]) ++ List.replicate (5 - (lg_sl ([.ref h, .int (iI (iv))])).length) Slot.unset).toArray = ls at hl ⊢
  have hl : lv_has ls 5 [(0, .ref h), (1, .int (iI (iv)))] := hl
  have hiv1 := hiv.1
  have hiv2 := hiv.2
  have okLr : (0 : Int) ≤ r 7 0 ∧ r 7 0 ≤ 150 := ok 7 0
  refine mf_iconst hx hb dX1_farthestAcross_0 ?_
  refine lv_istore_n (lv' := [(2, .int (iI ((-1)))), (0, .ref h), (1, .int (iI (iv)))]) hx hb dX1_farthestAcross_1 rfl hl (by decide) rfl (fun ls hl => ?_)
  refine mf_iconst hx hb dX1_farthestAcross_2 ?_
  refine lv_istore_n (lv' := [(3, .int (iI (0))), (2, .int (iI ((-1)))), (0, .ref h), (1, .int (iI (iv)))]) hx hb dX1_farthestAcross_3 rfl hl (by decide) rfl (fun ls hl => ?_)
  have lp4 : ∀ (n : Nat) (xv : Int) (kv : Int), (4 - kv).toNat < n → (0 ≤ kv ∧ kv ≤ 4) → (-1 ≤ xv ∧ xv ≤ 149) → (xv = farG r iv kv) → ∀ (ls : Array Slot), lv_has ls 5 [(0, .ref h), (1, .int (iI (iv))), (2, .int (iI (xv))), (3, .int (iI (kv)))] → W p l e (headSpec wsX1_farthestAcross ({ frames := 2, cells := 0, slots := 0, locals := 42 })).room s m ([.ref h, .int (iI (iv))] : List Value).toArray below meth c s.heap [] 0 0 (MQ below (vp_Si (fun q => q = iI (farF r iv))) ([.ref h, .int (iI (iv))] : List Value).toArray s 0 0 (fun _ => False)) (F0 m 4 ls []) := by
    intro n
    induction n with
    | zero => intro xv kv hn; exact absurd hn (Nat.not_lt_zero _)
    | succ n ih4 =>
      intro xv kv hn hk hxb hs ls hl
      refine lv_iload_n hx hb dX1_farthestAcross_4 rfl (lv_at hl 3 rfl) ?_
      refine mf_iconst hx hb dX1_farthestAcross_5 ?_
      refine mf_icmp_ge (tgt := 47) hx hb dX1_farthestAcross_6 (by decide) (i32_mk (by omega) (by omega)) (i32_mk (by decide) (by decide)) (fun c1 => ?_) (fun c1 => ?_)
      · skip
        refine lv_iload_n hx hb dX1_farthestAcross_47 rfl (lv_at hl 2 rfl) ?_
        exact W.iret hx hb hr (fun t ht hW => ⟨_, rfl, (congrArg iI (by rw [show kv = 4 by omega] at hs; exact hs)), ht⟩) t_nil dX1_farthestAcross_48
      · skip
        refine lv_aload_n hx hb dX1_farthestAcross_9 rfl (lv_at hl 0 rfl) ?_
        refine lv_aload_n hx hb dX1_farthestAcross_10 rfl (lv_at hl 0 rfl) ?_
        refine lv_iload_n hx hb dX1_farthestAcross_11 rfl (lv_at hl 1 rfl) ?_
        refine vp_callSi (va_Run.run (va_runV (As := [.int (iI (iv))]) (rest := [.ref h]) ⟨hx, hb, hml, hown, hts⟩ (c_X1_cellAt l G h ad r (iv) (i32_mk (by omega) (by omega)) (by assumption)) (cwV 1 hts gX1_farthestAcross_X1_cellAt rfl rfl rfl (by decide +kernel) ⟨Nat.le_of_ble_eq_true rfl, Nat.le_of_ble_eq_true rfl⟩) (rdV (wc := RW G h ad r) hK hP hN [0, 1, 2, 3, 4, 5, 6, 7, 8, 9, 10, 11] rfl (ci := 1) rfl rfl) rfl rfl hl.1 rfl (lv_room (Nat.le_of_ble_eq_true rfl)) dX1_farthestAcross_12 ⟨(Nat.zero_le _), (Nat.zero_le _)⟩)) (fun q2 hq2 => ?_)
        subst hq2
        refine mf_nm (fun y3 ey3 => ?_)
        have b4 : -1 ≤ y3 ∧ y3 ≤ 383 := by rw [ey3]; exact cellAtF_b (by assumption) iv
        refine lv_iload_n hx hb dX1_farthestAcross_15 rfl (lv_at hl 3 rfl) ?_
        refine vp_callSi (va_Run.run (va_runSN (As := [.int (iI (y3)), .int (iI (kv))]) (rest := [.ref h]) ⟨hx, hb, hml, hown, hts⟩ (c_X2_neighbour l (y3) (kv) (i32_mk (by omega) (by omega)) (i32_mk (by omega) (by omega))) ⟨(va_cnB 2 hts gX1_farthestAcross_X2_neighbour_n89 rfl rfl rfl (hN.m 29 rfl) (hts (.initialized RX2) (List.mem_of_getElem? (i := 13) rfl)) (by decide +kernel) ⟨Nat.le_of_ble_eq_true rfl, Nat.le_of_ble_eq_true rfl⟩), (hts (.static yX2_neighbour) (List.mem_of_getElem? (i := 12) rfl)), trivial⟩ pureS rfl rfl hl.1 rfl (lv_room (Nat.le_of_ble_eq_true rfl)) dX1_farthestAcross_16 ⟨(Nat.zero_le _), (Nat.zero_le _)⟩)) (fun q5 hq5 => ?_)
        subst hq5
        refine mf_nm (fun y6 ey6 => ?_)
        have b7 : -1 ≤ y6 ∧ y6 ≤ 383 := by rw [ey6]; exact nbr_b y3 kv
        refine vp_callSi (va_Run.run (va_runV (As := [.int (iI (y6))]) (rest := []) ⟨hx, hb, hml, hown, hts⟩ (c_X1_placeOf l G h ad r (y6) (i32_mk (by omega) (by omega)) (by assumption)) (cwV 1 hts gX1_farthestAcross_X1_placeOf rfl rfl rfl (by decide +kernel) ⟨Nat.le_of_ble_eq_true rfl, Nat.le_of_ble_eq_true rfl⟩) (rdV (wc := RW G h ad r) hK hP hN [0, 1, 2, 3, 4, 5, 6, 7, 8, 9, 10, 11] rfl (ci := 1) rfl rfl) rfl rfl hl.1 rfl (lv_room (Nat.le_of_ble_eq_true rfl)) dX1_farthestAcross_19 ⟨(Nat.zero_le _), (Nat.zero_le _)⟩)) (fun q8 hq8 => ?_)
        subst hq8
        refine mf_nm (fun y9 ey9 => ?_)
        have b10 : -1 ≤ y9 ∧ y9 ≤ 149 := by rw [ey9]; exact placeOfF_b (by assumption) y6
        refine lv_istore (lv' := [(4, .int (iI (y9))), (0, .ref h), (1, .int (iI (iv))), (2, .int (iI (xv))), (3, .int (iI (kv)))]) hx hb dX1_farthestAcross_22 hl (by decide) rfl (fun ls hl => ?_)
        refine lv_iload hx hb dX1_farthestAcross_24 (lv_at hl 0 rfl) ?_
        refine lv_iload_n hx hb dX1_farthestAcross_26 rfl (lv_at hl 2 rfl) ?_
        refine mf_isub hx hb dX1_farthestAcross_27 ?_
        refine mf_iconst hx hb dX1_farthestAcross_28 ?_
        refine mf_icmp_lt (tgt := 41) hx hb dX1_farthestAcross_29 (by decide) (i32_mk (by omega) (by omega)) (i32_mk (by decide) (by decide)) (fun c11 => ?_) (fun c11 => ?_)
        · skip
          refine lv_iinc (v := iI (kv + 1)) (lv' := [(3, .int (iI (kv + 1))), (4, .int (iI (y9))), (0, .ref h), (1, .int (iI (iv))), (2, .int (iI (xv)))]) hx hb dX1_farthestAcross_41 hl (k := 4) rfl (iI_add _ _).symm (by decide) rfl (fun ls hl => ?_)
          refine lv_goto (tgt := 4) hx hb dX1_farthestAcross_44 (by decide) ?_
          exact ih4 xv (kv + 1) (by omega) (by first | assumption | omega) (by first | assumption | omega) (by subst_vars; first | exact (farG_0 r _).symm | (rw [farG_s _ _ (by omega)]; first | exact (mf_if_t ⟨by omega, by omega⟩).symm | exact (mf_if_f (by omega)).symm))  ls (lv_sub hl [2, 3, 4, 0] rfl)
        · skip
          refine lv_iload hx hb dX1_farthestAcross_32 (lv_at hl 0 rfl) ?_
          refine lv_iload_n hx hb dX1_farthestAcross_34 rfl (lv_at hl 3 rfl) ?_
          refine mf_icmp_le (tgt := 41) hx hb dX1_farthestAcross_35 (by decide) (i32_mk (by omega) (by omega)) (i32_mk (by omega) (by omega)) (fun c12 => ?_) (fun c12 => ?_)
          · skip
            refine lv_iinc (v := iI (kv + 1)) (lv' := [(3, .int (iI (kv + 1))), (4, .int (iI (y9))), (0, .ref h), (1, .int (iI (iv))), (2, .int (iI (xv)))]) hx hb dX1_farthestAcross_41 hl (k := 4) rfl (iI_add _ _).symm (by decide) rfl (fun ls hl => ?_)
            refine lv_goto (tgt := 4) hx hb dX1_farthestAcross_44 (by decide) ?_
            exact ih4 xv (kv + 1) (by omega) (by first | assumption | omega) (by first | assumption | omega) (by subst_vars; first | exact (farG_0 r _).symm | (rw [farG_s _ _ (by omega)]; first | exact (mf_if_t ⟨by omega, by omega⟩).symm | exact (mf_if_f (by omega)).symm))  ls (lv_sub hl [2, 3, 4, 0] rfl)
          · skip
            refine lv_iload hx hb dX1_farthestAcross_38 (lv_at hl 0 rfl) ?_
            refine lv_istore_n (lv' := [(2, .int (iI (y9))), (4, .int (iI (y9))), (0, .ref h), (1, .int (iI (iv))), (3, .int (iI (kv)))]) hx hb dX1_farthestAcross_40 rfl hl (by decide) rfl (fun ls hl => ?_)
            refine lv_iinc (v := iI (kv + 1)) (lv' := [(3, .int (iI (kv + 1))), (2, .int (iI (y9))), (4, .int (iI (y9))), (0, .ref h), (1, .int (iI (iv)))]) hx hb dX1_farthestAcross_41 hl (k := 4) rfl (iI_add _ _).symm (by decide) rfl (fun ls hl => ?_)
            refine lv_goto (tgt := 4) hx hb dX1_farthestAcross_44 (by decide) ?_
            exact ih4 y9 (kv + 1) (by omega) (by first | assumption | omega) (by first | assumption | omega) (by subst_vars; first | exact (farG_0 r _).symm | (rw [farG_s _ _ (by omega)]; first | exact (mf_if_t ⟨by omega, by omega⟩).symm | exact (mf_if_f (by omega)).symm))  ls (lv_sub hl [3, 4, 1, 0] rfl)
  exact lp4 (_ + 1) (-1) 0 (Nat.lt_succ_self _) (by first | assumption | omega) (by first | assumption | omega) (by subst_vars; first | exact (farG_0 r _).symm | (rw [farG_s _ _ (by omega)]; first | exact (mf_if_t ⟨by omega, by omega⟩).symm | exact (mf_if_f (by omega)).symm))  ls (lv_sub hl [2, 3, 1, 0] rfl)
set_option maxHeartbeats 4000000 in
set_option maxRecDepth 100000 in
theorem c_X1_widestNeck (l : Launch) (G : mf_G) (h : Nat) (ad : Nat → Nat) (r : mf_V) (ok : rOK rlo rhi r) : Met l yX1_widestNeck wsX1_widestNeck ({ frames := 3, cells := 0, slots := 0, locals := 66 }) (va_Pc [.ref h] (RdP G (RW G h ad r))) (vp_Si (fun q => q = iI (widF r))) 0 0 (fun _ => False) := by
  refine Met.ofW (cc := cX1_widestNeck) (maxL := 5) (ret := (some .int)) (by decide) rfl ?_
  intro p e s m args below meth c s₁ B hml hv
  obtain ⟨rfl, hP, hK, hN⟩ := hv
  have hx := B.exec
  have hb := B.bytes
  have hr := B.returns
  have hts := atoms_spec (ws := wsX1_widestNeck) B.pre
  have hown : s.vm.findClass RX1 = some m.cls := findClass_of_methodNamed B.named
  have hlocks := B.notSynchronized
  have hinX1 : ∀ w ∈ u_ws RX1 TX1 14, w ∈ wsX1_widestNeck := fun w h => List.mem_cons_of_mem _ (List.mem_append_right _ h)
  have hl := lv_entry ([.ref h]) (n := 5) (Nat.le_of_ble_eq_true rfl)
  rw [lg_entry_eq]
  generalize (lg_sl ([.ref h]) ++ List.replicate (5 - (lg_sl ([.ref h])).length) Slot.unset).toArray = ls at hl ⊢
  have hl : lv_has ls 5 [(0, .ref h)] := hl
  have okLr : (0 : Int) ≤ r 7 0 ∧ r 7 0 ≤ 150 := ok 7 0
  refine mf_iconst hx hb dX1_widestNeck_0 ?_
  refine lv_istore_n (lv' := [(1, .int (iI ((-1)))), (0, .ref h)]) hx hb dX1_widestNeck_1 rfl hl (by decide) rfl (fun ls hl => ?_)
  refine mf_iconst hx hb dX1_widestNeck_2 ?_
  refine lv_istore_n (lv' := [(2, .int (iI (0))), (1, .int (iI ((-1)))), (0, .ref h)]) hx hb dX1_widestNeck_3 rfl hl (by decide) rfl (fun ls hl => ?_)
  refine mf_iconst hx hb dX1_widestNeck_4 ?_
  refine lv_istore_n (lv' := [(3, .int (iI (0))), (2, .int (iI (0))), (1, .int (iI ((-1)))), (0, .ref h)]) hx hb dX1_widestNeck_5 rfl hl (by decide) rfl (fun ls hl => ?_)
  have lp6 : ∀ (n : Nat) (wv : Int) (mv : Int) (kv : Int), (r 7 0 - kv).toNat < n → (0 ≤ kv ∧ kv ≤ r 7 0) → (0 ≤ mv ∧ mv ≤ 149) → (wv = (widG r kv).1) → (mv = (widG r kv).2) → ∀ (ls : Array Slot), lv_has ls 5 [(0, .ref h), (1, .int (iI (wv))), (2, .int (iI (mv))), (3, .int (iI (kv)))] → W p l e (headSpec wsX1_widestNeck ({ frames := 3, cells := 0, slots := 0, locals := 66 })).room s m ([.ref h] : List Value).toArray below meth c s.heap [] 0 0 (MQ below (vp_Si (fun q => q = iI (widF r))) ([.ref h] : List Value).toArray s 0 0 (fun _ => False)) (F0 m 6 ls []) := by
    intro n
    induction n with
    | zero => intro wv mv kv hn; exact absurd hn (Nat.not_lt_zero _)
    | succ n ih6 =>
      intro wv mv kv hn hk hmb hw hm ls hl
      refine lv_iload_n hx hb dX1_widestNeck_6 rfl (lv_at hl 3 rfl) ?_
      refine lv_aload_n hx hb dX1_widestNeck_7 rfl (lv_at hl 0 rfl) ?_
      refine va_get (D := G.1) (ci := 1) (v := .int (iI (r 7 0))) (C := RX1) (T := TX1) (N := 14) hx hb hts hinX1 hown hK hP 0 rfl rfl 7 (by decide) (hts (.fieldLink RX1 46 "MeanderFarm$River" "length" "I") (List.mem_of_getElem? (i := 1) rfl)) (fun _ h9 => h9) rfl dX1_widestNeck_8 ?_
      have b1 : (0 : Int) ≤ r 7 0 ∧ r 7 0 ≤ 150 := ok 7 (0)
      refine mf_icmp_ge (tgt := 40) hx hb dX1_widestNeck_11 (by decide) (i32_mk (by omega) (by omega)) (i32_mk (by omega) (by omega)) (fun c2 => ?_) (fun c2 => ?_)
      · skip
        refine lv_iload_n hx hb dX1_widestNeck_40 rfl (lv_at hl 1 rfl) ?_
        exact W.iret hx hb hr (fun t ht hW => ⟨_, rfl, (congrArg iI (by rw [show kv = r 7 0 by omega] at hw; exact hw)), ht⟩) t_nil dX1_widestNeck_41
      · skip
        refine lv_aload_n hx hb dX1_widestNeck_14 rfl (lv_at hl 0 rfl) ?_
        refine lv_iload_n hx hb dX1_widestNeck_15 rfl (lv_at hl 3 rfl) ?_
        refine vp_callSi (va_Run.run (va_runV (As := [.int (iI (kv))]) (rest := []) ⟨hx, hb, hml, hown, hts⟩ (c_X1_farthestAcross l G h ad r (kv) (i32_mk (by omega) (by omega)) (by assumption) (by first | assumption | omega)) (cwV 1 hts gX1_widestNeck_X1_farthestAcross rfl rfl rfl (by decide +kernel) ⟨Nat.le_of_ble_eq_true rfl, Nat.le_of_ble_eq_true rfl⟩) (rdV (wc := RW G h ad r) hK hP hN [0, 1, 2, 3, 4, 5, 6, 7, 8, 9, 10, 11] rfl (ci := 1) rfl rfl) rfl rfl hl.1 rfl (lv_room (Nat.le_of_ble_eq_true rfl)) dX1_widestNeck_16 ⟨(Nat.zero_le _), (Nat.zero_le _)⟩)) (fun q3 hq3 => ?_)
        subst hq3
        refine mf_nm (fun y4 ey4 => ?_)
        have b5 : -1 ≤ y4 ∧ y4 ≤ 149 := by rw [ey4]; exact farF_b (by assumption) kv
        refine lv_iload_n hx hb dX1_widestNeck_19 rfl (lv_at hl 3 rfl) ?_
        refine mf_isub hx hb dX1_widestNeck_20 ?_
        refine lv_istore (lv' := [(4, .int (iI (y4 - kv))), (0, .ref h), (1, .int (iI (wv))), (2, .int (iI (mv))), (3, .int (iI (kv)))]) hx hb dX1_widestNeck_21 hl (by decide) rfl (fun ls hl => ?_)
        refine lv_iload hx hb dX1_widestNeck_23 (lv_at hl 0 rfl) ?_
        refine lv_iload_n hx hb dX1_widestNeck_25 rfl (lv_at hl 3 rfl) ?_
        refine mf_icmp_le (tgt := 34) hx hb dX1_widestNeck_26 (by decide) (i32_mk (by omega) (by omega)) (i32_mk (by omega) (by omega)) (fun c6 => ?_) (fun c6 => ?_)
        · skip
          refine lv_iinc (v := iI (kv + 1)) (lv' := [(3, .int (iI (kv + 1))), (4, .int (iI (y4 - kv))), (0, .ref h), (1, .int (iI (wv))), (2, .int (iI (mv)))]) hx hb dX1_widestNeck_34 hl (k := 4) rfl (iI_add _ _).symm (by decide) rfl (fun ls hl => ?_)
          refine lv_goto (tgt := 6) hx hb dX1_widestNeck_37 (by decide) ?_
          exact ih6 wv mv (kv + 1) (by omega) (by first | assumption | omega) (by first | assumption | omega) (by subst_vars; first | rfl | (rw [widG_t r (by omega) (by omega)]) | (rw [widG_f r (by omega) (by omega)])) (by subst_vars; first | rfl | (rw [widG_t r (by omega) (by omega)]) | (rw [widG_f r (by omega) (by omega)]))  ls (lv_sub hl [2, 3, 4, 0] rfl)
        · skip
          refine lv_iload hx hb dX1_widestNeck_29 (lv_at hl 0 rfl) ?_
          refine lv_istore_n (lv' := [(2, .int (iI (y4 - kv))), (4, .int (iI (y4 - kv))), (0, .ref h), (1, .int (iI (wv))), (3, .int (iI (kv)))]) hx hb dX1_widestNeck_31 rfl hl (by decide) rfl (fun ls hl => ?_)
          refine lv_iload_n hx hb dX1_widestNeck_32 rfl (lv_at hl 4 rfl) ?_
          refine lv_istore_n (lv' := [(1, .int (iI (kv))), (2, .int (iI (y4 - kv))), (4, .int (iI (y4 - kv))), (0, .ref h), (3, .int (iI (kv)))]) hx hb dX1_widestNeck_33 rfl hl (by decide) rfl (fun ls hl => ?_)
          refine lv_iinc (v := iI (kv + 1)) (lv' := [(3, .int (iI (kv + 1))), (1, .int (iI (kv))), (2, .int (iI (y4 - kv))), (4, .int (iI (y4 - kv))), (0, .ref h)]) hx hb dX1_widestNeck_34 hl (k := 4) rfl (iI_add _ _).symm (by decide) rfl (fun ls hl => ?_)
          refine lv_goto (tgt := 6) hx hb dX1_widestNeck_37 (by decide) ?_
          exact ih6 kv (y4 - kv) (kv + 1) (by omega) (by first | assumption | omega) (by first | assumption | omega) (by subst_vars; first | rfl | (rw [widG_t r (by omega) (by omega)]) | (rw [widG_f r (by omega) (by omega)])) (by subst_vars; first | rfl | (rw [widG_t r (by omega) (by omega)]) | (rw [widG_f r (by omega) (by omega)]))  ls (lv_sub hl [4, 1, 2, 0] rfl)
  exact lp6 (_ + 1) (-1) 0 0 (Nat.lt_succ_self _) (by first | assumption | omega) (by first | assumption | omega) (by subst_vars; first | rfl | (rw [widG_t r (by omega) (by omega)]) | (rw [widG_f r (by omega) (by omega)])) (by subst_vars; first | rfl | (rw [widG_t r (by omega) (by omega)]) | (rw [widG_f r (by omega) (by omega)]))  ls (lv_sub hl [3, 2, 1, 0] rfl)
set_option maxHeartbeats 4000000 in
set_option maxRecDepth 100000 in
theorem c_X1_necks (l : Launch) (G : mf_G) (h : Nat) (ad : Nat → Nat) (r : mf_V) (ok : rOK rlo rhi r) : Met l yX1_necks wsX1_necks ({ frames := 2, cells := 0, slots := 0, locals := 41 }) (va_Pc [.ref h] (RdP G (RW G h ad r))) (vp_Si (fun q => q = iI (neckF r))) 0 0 (fun _ => False) := by
  refine Met.ofW (cc := cX1_necks) (maxL := 4) (ret := (some .int)) (by decide) rfl ?_
  intro p e s m args below meth c s₁ B hml hv
  obtain ⟨rfl, hP, hK, hN⟩ := hv
  have hx := B.exec
  have hb := B.bytes
  have hr := B.returns
  have hts := atoms_spec (ws := wsX1_necks) B.pre
  have hown : s.vm.findClass RX1 = some m.cls := findClass_of_methodNamed B.named
  have hlocks := B.notSynchronized
  have hinX1 : ∀ w ∈ u_ws RX1 TX1 14, w ∈ wsX1_necks := fun w h => List.mem_cons_of_mem _ (List.mem_append_right _ h)
  have hl := lv_entry ([.ref h]) (n := 4) (Nat.le_of_ble_eq_true rfl)
  rw [lg_entry_eq]
  generalize (lg_sl ([.ref h]) ++ List.replicate (4 - (lg_sl ([.ref h])).length) Slot.unset).toArray = ls at hl ⊢
  have hl : lv_has ls 4 [(0, .ref h)] := hl
  have okLr : (0 : Int) ≤ r 7 0 ∧ r 7 0 ≤ 150 := ok 7 0
  refine mf_iconst hx hb dX1_necks_0 ?_
  refine lv_istore_n (lv' := [(1, .int (iI (0))), (0, .ref h)]) hx hb dX1_necks_1 rfl hl (by decide) rfl (fun ls hl => ?_)
  refine mf_iconst hx hb dX1_necks_2 ?_
  refine lv_istore_n (lv' := [(2, .int (iI (0))), (1, .int (iI (0))), (0, .ref h)]) hx hb dX1_necks_3 rfl hl (by decide) rfl (fun ls hl => ?_)
  have lp4 : ∀ (n : Nat) (xv : Int) (kv : Int), (r 7 0 - kv).toNat < n → (0 ≤ kv ∧ kv ≤ r 7 0) → (xv = msum (fun i => msum (fun d => bP (3 ≤ placeOfF r (nbr (r 6 i) d) - i)) 4) kv) → ∀ (ls : Array Slot), lv_has ls 4 [(0, .ref h), (1, .int (iI (xv))), (2, .int (iI (kv)))] → W p l e (headSpec wsX1_necks ({ frames := 2, cells := 0, slots := 0, locals := 41 })).room s m ([.ref h] : List Value).toArray below meth c s.heap [] 0 0 (MQ below (vp_Si (fun q => q = iI (neckF r))) ([.ref h] : List Value).toArray s 0 0 (fun _ => False)) (F0 m 4 ls []) := by
    intro n
    induction n with
    | zero => intro xv kv hn; exact absurd hn (Nat.not_lt_zero _)
    | succ n ih4 =>
      intro xv kv hn hk hs ls hl
      refine lv_iload_n hx hb dX1_necks_4 rfl (lv_at hl 2 rfl) ?_
      refine lv_aload_n hx hb dX1_necks_5 rfl (lv_at hl 0 rfl) ?_
      refine va_get (D := G.1) (ci := 1) (v := .int (iI (r 7 0))) (C := RX1) (T := TX1) (N := 14) hx hb hts hinX1 hown hK hP 0 rfl rfl 7 (by decide) (hts (.fieldLink RX1 46 "MeanderFarm$River" "length" "I") (List.mem_of_getElem? (i := 1) rfl)) (fun _ h9 => h9) rfl dX1_necks_6 ?_
      have b1 : (0 : Int) ≤ r 7 0 ∧ r 7 0 ≤ 150 := ok 7 (0)
      refine mf_icmp_ge (tgt := 54) hx hb dX1_necks_9 (by decide) (i32_mk (by omega) (by omega)) (i32_mk (by omega) (by omega)) (fun c2 => ?_) (fun c2 => ?_)
      · skip
        refine lv_iload_n hx hb dX1_necks_54 rfl (lv_at hl 1 rfl) ?_
        exact W.iret hx hb hr (fun t ht hW => ⟨_, rfl, (congrArg iI (by rw [show kv = r 7 0 by omega] at hs; exact hs)), ht⟩) t_nil dX1_necks_55
      · skip
        refine mf_iconst hx hb dX1_necks_12 ?_
        refine lv_istore_n (lv' := [(3, .int (iI (0))), (0, .ref h), (1, .int (iI (xv))), (2, .int (iI (kv)))]) hx hb dX1_necks_13 rfl hl (by decide) rfl (fun ls hl => ?_)
        have lp14 : ∀ (n : Nat) (yv : Int) (dv : Int), (4 - dv).toNat < n → (0 ≤ dv ∧ dv ≤ 4) → (yv = msum (fun i => msum (fun d => bP (3 ≤ placeOfF r (nbr (r 6 i) d) - i)) 4) kv + msum (fun d => bP (3 ≤ placeOfF r (nbr (r 6 kv) d) - kv)) dv) → ∀ (ls : Array Slot), lv_has ls 4 [(0, .ref h), (1, .int (iI (yv))), (2, .int (iI (kv))), (3, .int (iI (dv)))] → W p l e (headSpec wsX1_necks ({ frames := 2, cells := 0, slots := 0, locals := 41 })).room s m ([.ref h] : List Value).toArray below meth c s.heap [] 0 0 (MQ below (vp_Si (fun q => q = iI (neckF r))) ([.ref h] : List Value).toArray s 0 0 (fun _ => False)) (F0 m 14 ls []) := by
          intro n
          induction n with
          | zero => intro yv dv hn; exact absurd hn (Nat.not_lt_zero _)
          | succ n ih14 =>
            intro yv dv hn hd hs2 ls hl
            refine lv_iload_n hx hb dX1_necks_14 rfl (lv_at hl 3 rfl) ?_
            refine mf_iconst hx hb dX1_necks_15 ?_
            refine mf_icmp_ge (tgt := 48) hx hb dX1_necks_16 (by decide) (i32_mk (by omega) (by omega)) (i32_mk (by decide) (by decide)) (fun c3 => ?_) (fun c3 => ?_)
            · skip
              refine lv_iinc (v := iI (kv + 1)) (lv' := [(2, .int (iI (kv + 1))), (0, .ref h), (1, .int (iI (yv))), (3, .int (iI (dv)))]) hx hb dX1_necks_48 hl (k := 2) rfl (iI_add _ _).symm (by decide) rfl (fun ls hl => ?_)
              refine lv_goto (tgt := 4) hx hb dX1_necks_51 (by decide) ?_
              exact ih4 yv (kv + 1) (by omega) (by first | assumption | omega) (by rw [msum_s _ (by omega)]; rw [show dv = 4 by omega] at hs2; exact hs2)  ls (lv_sub hl [1, 2, 0] rfl)
            · skip
              refine lv_aload_n hx hb dX1_necks_19 rfl (lv_at hl 0 rfl) ?_
              refine lv_aload_n hx hb dX1_necks_20 rfl (lv_at hl 0 rfl) ?_
              refine va_get (D := G.1) (ci := 1) (v := .ref (ad 6)) (C := RX1) (T := TX1) (N := 14) hx hb hts hinX1 hown hK hP 0 rfl rfl 6 (by decide) (hts (.fieldLink RX1 31 "MeanderFarm$River" "course" "[I") (List.mem_of_getElem? (i := 2) rfl)) (fun _ h9 => h9) rfl dX1_necks_21 ?_
              refine lv_iload_n hx hb dX1_necks_24 rfl (lv_at hl 2 rfl) ?_
              refine mf_iald (n := 150) (f := r 6) hx hb hK hP 7 0 rfl rfl (z := kv) (by omega) (by omega) (by decide) dX1_necks_25 ?_
              have b4 : (0 : Int) ≤ r 6 kv ∧ r 6 kv ≤ 383 := ok 6 (kv)
              refine lv_iload_n hx hb dX1_necks_26 rfl (lv_at hl 3 rfl) ?_
              refine vp_callSi (va_Run.run (va_runSN (As := [.int (iI (r 6 kv)), .int (iI (dv))]) (rest := [.ref h]) ⟨hx, hb, hml, hown, hts⟩ (c_X2_neighbour l (r 6 kv) (dv) (i32_mk (by omega) (by omega)) (i32_mk (by omega) (by omega))) ⟨(va_cnB 2 hts gX1_necks_X2_neighbour_n89 rfl rfl rfl (hN.m 29 rfl) (hts (.initialized RX2) (List.mem_of_getElem? (i := 4) rfl)) (by decide +kernel) ⟨Nat.le_of_ble_eq_true rfl, Nat.le_of_ble_eq_true rfl⟩), (hts (.static yX2_neighbour) (List.mem_of_getElem? (i := 3) rfl)), trivial⟩ pureS rfl rfl hl.1 rfl (lv_room (Nat.le_of_ble_eq_true rfl)) dX1_necks_27 ⟨(Nat.zero_le _), (Nat.zero_le _)⟩)) (fun q5 hq5 => ?_)
              subst hq5
              refine mf_nm (fun y6 ey6 => ?_)
              have b7 : -1 ≤ y6 ∧ y6 ≤ 383 := by rw [ey6]; exact nbr_b (r 6 kv) dv
              refine vp_callSi (va_Run.run (va_runV (As := [.int (iI (y6))]) (rest := []) ⟨hx, hb, hml, hown, hts⟩ (c_X1_placeOf l G h ad r (y6) (i32_mk (by omega) (by omega)) (by assumption)) (cwV 1 hts gX1_necks_X1_placeOf rfl rfl rfl (by decide +kernel) ⟨Nat.le_of_ble_eq_true rfl, Nat.le_of_ble_eq_true rfl⟩) (rdV (wc := RW G h ad r) hK hP hN [0, 1, 2, 3, 4, 5, 6, 7, 8, 9, 10, 11] rfl (ci := 1) rfl rfl) rfl rfl hl.1 rfl (lv_room (Nat.le_of_ble_eq_true rfl)) dX1_necks_30 ⟨(Nat.zero_le _), (Nat.zero_le _)⟩)) (fun q8 hq8 => ?_)
              subst hq8
              refine mf_nm (fun y9 ey9 => ?_)
              have b10 : -1 ≤ y9 ∧ y9 ≤ 149 := by rw [ey9]; exact placeOfF_b (by assumption) y6
              refine lv_iload_n hx hb dX1_necks_33 rfl (lv_at hl 2 rfl) ?_
              refine mf_isub hx hb dX1_necks_34 ?_
              refine mf_iconst hx hb dX1_necks_35 ?_
              refine mf_icmp_lt (tgt := 42) hx hb dX1_necks_36 (by decide) (i32_mk (by omega) (by omega)) (i32_mk (by decide) (by decide)) (fun c11 => ?_) (fun c11 => ?_)
              · skip
                refine lv_iinc (v := iI (dv + 1)) (lv' := [(3, .int (iI (dv + 1))), (0, .ref h), (1, .int (iI (yv))), (2, .int (iI (kv)))]) hx hb dX1_necks_42 hl (k := 3) rfl (iI_add _ _).symm (by decide) rfl (fun ls hl => ?_)
                refine lv_goto (tgt := 14) hx hb dX1_necks_45 (by decide) ?_
                exact ih14 yv (dv + 1) (by omega) (by first | assumption | omega) (by subst_vars; rw [msum_s _ (by omega)]; first | (rw [bP_t (by omega)]; omega) | (rw [bP_f (by omega)]; omega))  ls (lv_sub hl [1, 2, 3, 0] rfl)
              · skip
                refine lv_iinc (v := iI (yv + 1)) (lv' := [(1, .int (iI (yv + 1))), (0, .ref h), (2, .int (iI (kv))), (3, .int (iI (dv)))]) hx hb dX1_necks_39 hl (k := 1) rfl (iI_add _ _).symm (by decide) rfl (fun ls hl => ?_)
                refine lv_iinc (v := iI (dv + 1)) (lv' := [(3, .int (iI (dv + 1))), (1, .int (iI (yv + 1))), (0, .ref h), (2, .int (iI (kv)))]) hx hb dX1_necks_42 hl (k := 3) rfl (iI_add _ _).symm (by decide) rfl (fun ls hl => ?_)
                refine lv_goto (tgt := 14) hx hb dX1_necks_45 (by decide) ?_
                exact ih14 (yv + 1) (dv + 1) (by omega) (by first | assumption | omega) (by subst_vars; rw [msum_s _ (by omega)]; first | (rw [bP_t (by omega)]; omega) | (rw [bP_f (by omega)]; omega))  ls (lv_sub hl [2, 1, 3, 0] rfl)
        exact lp14 (_ + 1) xv 0 (Nat.lt_succ_self _) (by first | assumption | omega) (by rw [msum_0, Int.add_zero]; exact hs)  ls (lv_sub hl [1, 2, 3, 0] rfl)
  exact lp4 (_ + 1) 0 0 (Nat.lt_succ_self _) (by first | assumption | omega) (by exact (msum_0 _).symm)  ls (lv_sub hl [2, 1, 0] rfl)
set_option maxHeartbeats 4000000 in
set_option maxRecDepth 100000 in
theorem c_X1_bends (l : Launch) (G : mf_G) (h : Nat) (ad : Nat → Nat) (r : mf_V) (ok : rOK rlo rhi r) (hlen : 2 ≤ r 7 0) : Met l yX1_bends wsX1_bends ({ frames := 2, cells := 0, slots := 0, locals := 42 }) (va_Pc [.ref h] (RdP G (RW G h ad r))) (vp_Si (fun q => q = iI (bendsF r))) 0 0 (fun _ => False) := by
  refine Met.ofW (cc := cX1_bends) (maxL := 3) (ret := (some .int)) (by decide) rfl ?_
  intro p e s m args below meth c s₁ B hml hv
  obtain ⟨rfl, hP, hK, hN⟩ := hv
  have hx := B.exec
  have hb := B.bytes
  have hr := B.returns
  have hts := atoms_spec (ws := wsX1_bends) B.pre
  have hown : s.vm.findClass RX1 = some m.cls := findClass_of_methodNamed B.named
  have hlocks := B.notSynchronized
  have hinX1 : ∀ w ∈ u_ws RX1 TX1 14, w ∈ wsX1_bends := fun w h => List.mem_cons_of_mem _ (List.mem_append_right _ h)
  have hl := lv_entry ([.ref h]) (n := 3) (Nat.le_of_ble_eq_true rfl)
  rw [lg_entry_eq]
  generalize (lg_sl ([.ref h]) ++ List.replicate (3 - (lg_sl ([.ref h])).length) Slot.unset).toArray = ls at hl ⊢
  have hl : lv_has ls 3 [(0, .ref h)] := hl
  have okLr : (0 : Int) ≤ r 7 0 ∧ r 7 0 ≤ 150 := ok 7 0
  refine mf_iconst hx hb dX1_bends_0 ?_
  refine lv_istore_n (lv' := [(1, .int (iI (0))), (0, .ref h)]) hx hb dX1_bends_1 rfl hl (by decide) rfl (fun ls hl => ?_)
  refine mf_iconst hx hb dX1_bends_2 ?_
  refine lv_istore_n (lv' := [(2, .int (iI (1))), (1, .int (iI (0))), (0, .ref h)]) hx hb dX1_bends_3 rfl hl (by decide) rfl (fun ls hl => ?_)
  have lp4 : ∀ (n : Nat) (xv : Int) (kv : Int), (r 7 0 - kv).toNat < n → (1 ≤ kv ∧ kv ≤ r 7 0 - 1) → (xv = msum (fun c => bP (1 ≤ c ∧ ¬ strP r c)) kv) → ∀ (ls : Array Slot), lv_has ls 3 [(0, .ref h), (1, .int (iI (xv))), (2, .int (iI (kv)))] → W p l e (headSpec wsX1_bends ({ frames := 2, cells := 0, slots := 0, locals := 42 })).room s m ([.ref h] : List Value).toArray below meth c s.heap [] 0 0 (MQ below (vp_Si (fun q => q = iI (bendsF r))) ([.ref h] : List Value).toArray s 0 0 (fun _ => False)) (F0 m 4 ls []) := by
    intro n
    induction n with
    | zero => intro xv kv hn; exact absurd hn (Nat.not_lt_zero _)
    | succ n ih4 =>
      intro xv kv hn hk hs ls hl
      refine lv_iload_n hx hb dX1_bends_4 rfl (lv_at hl 2 rfl) ?_
      refine lv_aload_n hx hb dX1_bends_5 rfl (lv_at hl 0 rfl) ?_
      refine va_get (D := G.1) (ci := 1) (v := .int (iI (r 7 0))) (C := RX1) (T := TX1) (N := 14) hx hb hts hinX1 hown hK hP 0 rfl rfl 7 (by decide) (hts (.fieldLink RX1 46 "MeanderFarm$River" "length" "I") (List.mem_of_getElem? (i := 1) rfl)) (fun _ h9 => h9) rfl dX1_bends_6 ?_
      have b1 : (0 : Int) ≤ r 7 0 ∧ r 7 0 ≤ 150 := ok 7 (0)
      refine mf_iconst hx hb dX1_bends_9 ?_
      refine mf_isub hx hb dX1_bends_10 ?_
      refine mf_icmp_ge (tgt := 31) hx hb dX1_bends_11 (by decide) (i32_mk (by omega) (by omega)) (i32_mk (by omega) (by omega)) (fun c2 => ?_) (fun c2 => ?_)
      · skip
        refine lv_iload_n hx hb dX1_bends_31 rfl (lv_at hl 1 rfl) ?_
        exact W.iret hx hb hr (fun t ht hW => ⟨_, rfl, (congrArg iI (by rw [show kv = r 7 0 - 1 by omega] at hs; exact hs)), ht⟩) t_nil dX1_bends_32
      · skip
        refine lv_aload_n hx hb dX1_bends_14 rfl (lv_at hl 0 rfl) ?_
        refine lv_iload_n hx hb dX1_bends_15 rfl (lv_at hl 2 rfl) ?_
        refine vp_callSi (va_Run.run (va_runV (As := [.int (iI (kv))]) (rest := []) ⟨hx, hb, hml, hown, hts⟩ (c_X1_isStraight l G h ad r (kv) (i32_mk (by omega) (by omega)) (by assumption)) (cwV 1 hts gX1_bends_X1_isStraight rfl rfl rfl (by decide +kernel) ⟨Nat.le_of_ble_eq_true rfl, Nat.le_of_ble_eq_true rfl⟩) (rdV (wc := RW G h ad r) hK hP hN [0, 1, 2, 3, 4, 5, 6, 7, 8, 9, 10, 11] rfl (ci := 1) rfl rfl) rfl rfl hl.1 rfl (lv_room (Nat.le_of_ble_eq_true rfl)) dX1_bends_16 ⟨(Nat.zero_le _), (Nat.zero_le _)⟩)) (fun q3 hq3 => ?_)
        subst hq3
        refine mf_bp_ne (tgt := 25) hx hb dX1_bends_19 (by decide) (fun c4 => ?_) (fun c4 => ?_)
        · skip
          have c4' := c4; unfold strP at c4'
          refine lv_iinc (v := iI (kv + 1)) (lv' := [(2, .int (iI (kv + 1))), (0, .ref h), (1, .int (iI (xv)))]) hx hb dX1_bends_25 hl (k := 2) rfl (iI_add _ _).symm (by decide) rfl (fun ls hl => ?_)
          refine lv_goto (tgt := 4) hx hb dX1_bends_28 (by decide) ?_
          exact ih4 xv (kv + 1) (by omega) (by first | assumption | omega) (by rw [msum_s _ (by omega)]; first | (rw [bP_t ⟨by omega, by assumption⟩]; omega) | (rw [bP_f (fun z => z.2 (by assumption))]; omega))  ls (lv_sub hl [1, 2, 0] rfl)
        · skip
          have c4' := c4; unfold strP at c4'
          refine lv_iinc (v := iI (xv + 1)) (lv' := [(1, .int (iI (xv + 1))), (0, .ref h), (2, .int (iI (kv)))]) hx hb dX1_bends_22 hl (k := 1) rfl (iI_add _ _).symm (by decide) rfl (fun ls hl => ?_)
          refine lv_iinc (v := iI (kv + 1)) (lv' := [(2, .int (iI (kv + 1))), (1, .int (iI (xv + 1))), (0, .ref h)]) hx hb dX1_bends_25 hl (k := 2) rfl (iI_add _ _).symm (by decide) rfl (fun ls hl => ?_)
          refine lv_goto (tgt := 4) hx hb dX1_bends_28 (by decide) ?_
          exact ih4 (xv + 1) (kv + 1) (by omega) (by first | assumption | omega) (by rw [msum_s _ (by omega)]; first | (rw [bP_t ⟨by omega, by assumption⟩]; omega) | (rw [bP_f (fun z => z.2 (by assumption))]; omega))  ls (lv_sub hl [2, 1, 0] rfl)
  exact lp4 (_ + 1) 0 1 (Nat.lt_succ_self _) (by first | assumption | omega) (by rw [show (1 : Int) = 0 + 1 from rfl, msum_s _ (by omega), bP_f (by omega), msum_0]; rfl)  ls (lv_sub hl [2, 1, 0] rfl)
set_option maxHeartbeats 4000000 in
set_option maxRecDepth 100000 in
theorem c_X1_digestFrom (l : Launch) (G : mf_G) (h : Nat) (ad : Nat → Nat) (r : mf_V) (dv : Int) (ok : rOK rlo rhi r) : Met l yX1_digestFrom wsX1_digestFrom ({ frames := 2, cells := 0, slots := 0, locals := 42 }) (va_Pc [.ref h, .long (lI (dv))] (RdP G (RW G h ad r))) (vp_Sl (fun q => q = lI (digF r dv))) 0 0 (fun _ => False) := by
  refine Met.ofW (cc := cX1_digestFrom) (maxL := 6) (ret := (some .long)) (by decide) rfl ?_
  intro p e s m args below meth c s₁ B hml hv
  obtain ⟨rfl, hP, hK, hN⟩ := hv
  have hx := B.exec
  have hb := B.bytes
  have hr := B.returns
  have hts := atoms_spec (ws := wsX1_digestFrom) B.pre
  have hown : s.vm.findClass RX1 = some m.cls := findClass_of_methodNamed B.named
  have hlocks := B.notSynchronized
  have hinX1 : ∀ w ∈ u_ws RX1 TX1 14, w ∈ wsX1_digestFrom := fun w h => List.mem_cons_of_mem _ (List.mem_append_right _ h)
  have hl := lv_entry ([.ref h, .long (lI (dv))]) (n := 6) (Nat.le_of_ble_eq_true rfl)
  rw [lg_entry_eq]
  generalize (lg_sl ([.ref h, .long (lI (dv))]) ++ List.replicate (6 - (lg_sl ([.ref h, .long (lI (dv))])).length) Slot.unset).toArray = ls at hl ⊢
  have hl : lv_has ls 6 [(0, .ref h), (1, .long (lI (dv)))] := hl
  have okLr : (0 : Int) ≤ r 7 0 ∧ r 7 0 ≤ 150 := ok 7 0
  refine lv_lload_n hx hb dX1_digestFrom_0 rfl (lv_at hl 1 rfl) ?_
  refine lv_lstore_n (lv' := [(3, .long (lI (dv))), (0, .ref h), (1, .long (lI (dv)))]) hx hb dX1_digestFrom_1 rfl hl (by decide) rfl (fun ls hl => ?_)
  refine mf_iconst hx hb dX1_digestFrom_2 ?_
  refine lv_istore (lv' := [(5, .int (iI (0))), (3, .long (lI (dv))), (0, .ref h), (1, .long (lI (dv)))]) hx hb dX1_digestFrom_3 hl (by decide) rfl (fun ls hl => ?_)
  have lp5 : ∀ (n : Nat) (x5 : Int) (k5 : Int), (12 - k5).toNat < n → (0 ≤ k5 ∧ k5 ≤ 12) → (x5 = ifold (fun k x => x * 31 + r 5 k) (dv) k5) → ∀ (ls : Array Slot), lv_has ls 6 [(0, .ref h), (3, .long (lI (x5))), (5, .int (iI (k5)))] → W p l e (headSpec wsX1_digestFrom ({ frames := 2, cells := 0, slots := 0, locals := 42 })).room s m ([.ref h, .long (lI (dv))] : List Value).toArray below meth c s.heap [] 0 0 (MQ below (vp_Sl (fun q => q = lI (digF r dv))) ([.ref h, .long (lI (dv))] : List Value).toArray s 0 0 (fun _ => False)) (F0 m 5 ls []) := by
    intro n
    induction n with
    | zero => intro x5 k5 hn; exact absurd hn (Nat.not_lt_zero _)
    | succ n ih5 =>
      intro x5 k5 hn hk5 hs5 ls hl
      refine lv_iload hx hb dX1_digestFrom_5 (lv_at hl 2 rfl) ?_
      refine mf_bipush hx hb dX1_digestFrom_7 rfl ?_
      refine mf_icmp_ge (tgt := 33) hx hb dX1_digestFrom_9 (by decide) (i32_mk (by omega) (by omega)) (i32_mk (by decide) (by decide)) (fun c1 => ?_) (fun c1 => ?_)
      · skip
        refine mf_iconst hx hb dX1_digestFrom_33 ?_
        refine lv_istore (lv' := [(5, .int (iI (0))), (0, .ref h), (3, .long (lI (x5)))]) hx hb dX1_digestFrom_34 hl (by decide) rfl (fun ls hl => ?_)
        have lp36 : ∀ (n : Nat) (x6 : Int) (k6 : Int), (r 7 0 - k6).toNat < n → (0 ≤ k6 ∧ k6 ≤ r 7 0) → (x6 = ifold (fun k x => x * 31 + r 6 k) (ifold (fun k x => x * 31 + r 5 k) dv 12) k6) → ∀ (ls : Array Slot), lv_has ls 6 [(0, .ref h), (3, .long (lI (x6))), (5, .int (iI (k6)))] → W p l e (headSpec wsX1_digestFrom ({ frames := 2, cells := 0, slots := 0, locals := 42 })).room s m ([.ref h, .long (lI (dv))] : List Value).toArray below meth c s.heap [] 0 0 (MQ below (vp_Sl (fun q => q = lI (digF r dv))) ([.ref h, .long (lI (dv))] : List Value).toArray s 0 0 (fun _ => False)) (F0 m 36 ls []) := by
          intro n
          induction n with
          | zero => intro x6 k6 hn; exact absurd hn (Nat.not_lt_zero _)
          | succ n ih36 =>
            intro x6 k6 hn hk6 hs6 ls hl
            refine lv_iload hx hb dX1_digestFrom_36 (lv_at hl 2 rfl) ?_
            refine lv_aload_n hx hb dX1_digestFrom_38 rfl (lv_at hl 0 rfl) ?_
            refine va_get (D := G.1) (ci := 1) (v := .int (iI (r 7 0))) (C := RX1) (T := TX1) (N := 14) hx hb hts hinX1 hown hK hP 0 rfl rfl 7 (by decide) (hts (.fieldLink RX1 46 "MeanderFarm$River" "length" "I") (List.mem_of_getElem? (i := 3) rfl)) (fun _ h9 => h9) rfl dX1_digestFrom_39 ?_
            have b2 : (0 : Int) ≤ r 7 0 ∧ r 7 0 ≤ 150 := ok 7 (0)
            refine mf_icmp_ge (tgt := 66) hx hb dX1_digestFrom_42 (by decide) (i32_mk (by omega) (by omega)) (i32_mk (by omega) (by omega)) (fun c3 => ?_) (fun c3 => ?_)
            · skip
              refine mf_iconst hx hb dX1_digestFrom_66 ?_
              refine lv_istore (lv' := [(5, .int (iI (0))), (0, .ref h), (3, .long (lI (x6)))]) hx hb dX1_digestFrom_67 hl (by decide) rfl (fun ls hl => ?_)
              have lp69 : ∀ (n : Nat) (x8 : Int) (k8 : Int), (384 - k8).toNat < n → (0 ≤ k8 ∧ k8 ≤ 384) → (x8 = ifold (fun k x => (((x * 31 + r 0 k) * 31 + r 1 k) * 31 + bP (¬ r 2 k = 0)) * 31 + lyl r k) (ifold (fun k x => x * 31 + r 6 k) (ifold (fun k x => x * 31 + r 5 k) dv 12) (r 7 0)) k8) → ∀ (ls : Array Slot), lv_has ls 6 [(0, .ref h), (3, .long (lI (x8))), (5, .int (iI (k8)))] → W p l e (headSpec wsX1_digestFrom ({ frames := 2, cells := 0, slots := 0, locals := 42 })).room s m ([.ref h, .long (lI (dv))] : List Value).toArray below meth c s.heap [] 0 0 (MQ below (vp_Sl (fun q => q = lI (digF r dv))) ([.ref h, .long (lI (dv))] : List Value).toArray s 0 0 (fun _ => False)) (F0 m 69 ls []) := by
                intro n
                induction n with
                | zero => intro x8 k8 hn; exact absurd hn (Nat.not_lt_zero _)
                | succ n ih69 =>
                  intro x8 k8 hn hk hs ls hl
                  refine lv_iload hx hb dX1_digestFrom_69 (lv_at hl 2 rfl) ?_
                  refine mf_sipush hx hb dX1_digestFrom_71 rfl ?_
                  refine mf_icmp_ge (tgt := 150) hx hb dX1_digestFrom_74 (by decide) (i32_mk (by omega) (by omega)) (i32_mk (by decide) (by decide)) (fun c4 => ?_) (fun c4 => ?_)
                  · skip
                    refine lv_lload_n hx hb dX1_digestFrom_150 rfl (lv_at hl 1 rfl) ?_
                    exact W.lret hx hb hr (fun t ht hW => ⟨_, rfl, congrArg lI (by rw [show k8 = 384 by omega] at hs; exact hs), ht⟩) t_nil dX1_digestFrom_151
                  · skip
                    refine lv_lload_n hx hb dX1_digestFrom_77 rfl (lv_at hl 1 rfl) ?_
                    refine mf_ldc2 hx hb 31 hown (hts (.constantLong RX1 138 (31)) (List.mem_of_getElem? (i := 1) rfl)) rfl dX1_digestFrom_78 ?_
                    refine mf_lmul hx hb dX1_digestFrom_81 ?_
                    refine lv_aload_n hx hb dX1_digestFrom_82 rfl (lv_at hl 0 rfl) ?_
                    refine va_get (D := G.1) (ci := 1) (v := .ref (ad 0)) (C := RX1) (T := TX1) (N := 14) hx hb hts hinX1 hown hK hP 0 rfl rfl 0 (by decide) (hts (.fieldLink RX1 9 "MeanderFarm$River" "hardness" "[I") (List.mem_of_getElem? (i := 5) rfl)) (fun _ h9 => h9) rfl dX1_digestFrom_83 ?_
                    refine lv_iload hx hb dX1_digestFrom_86 (lv_at hl 2 rfl) ?_
                    refine mf_iald (n := 384) (f := r 0) hx hb hK hP 1 0 rfl rfl (z := k8) (by omega) (by omega) (by decide) dX1_digestFrom_88 ?_
                    have b5 : (0 : Int) ≤ r 0 k8 ∧ r 0 k8 ≤ 9 := ok 0 (k8)
                    refine mf_i2l hx hb dX1_digestFrom_89 (i32_mk (by omega) (by omega)) ?_
                    refine mf_ladd hx hb dX1_digestFrom_90 ?_
                    refine lv_lstore_n (lv' := [(3, .long (lI ((x8 * 31) + (r 0 k8)))), (0, .ref h), (5, .int (iI (k8)))]) hx hb dX1_digestFrom_91 rfl hl (by decide) rfl (fun ls hl => ?_)
                    refine lv_lload_n hx hb dX1_digestFrom_92 rfl (lv_at hl 0 rfl) ?_
                    refine mf_ldc2 hx hb 31 hown (hts (.constantLong RX1 138 (31)) (List.mem_of_getElem? (i := 1) rfl)) rfl dX1_digestFrom_93 ?_
                    refine mf_lmul hx hb dX1_digestFrom_96 ?_
                    refine lv_aload_n hx hb dX1_digestFrom_97 rfl (lv_at hl 1 rfl) ?_
                    refine va_get (D := G.1) (ci := 1) (v := .ref (ad 1)) (C := RX1) (T := TX1) (N := 14) hx hb hts hinX1 hown hK hP 0 rfl rfl 1 (by decide) (hts (.fieldLink RX1 15 "MeanderFarm$River" "wear" "[I") (List.mem_of_getElem? (i := 6) rfl)) (fun _ h9 => h9) rfl dX1_digestFrom_98 ?_
                    refine lv_iload hx hb dX1_digestFrom_101 (lv_at hl 2 rfl) ?_
                    refine mf_iald (n := 384) (f := r 1) hx hb hK hP 2 0 rfl rfl (z := k8) (by omega) (by omega) (by decide) dX1_digestFrom_103 ?_
                    have b6 : (0 : Int) ≤ r 1 k8 ∧ r 1 k8 ≤ 200000000 := ok 1 (k8)
                    refine mf_i2l hx hb dX1_digestFrom_104 (i32_mk (by omega) (by omega)) ?_
                    refine mf_ladd hx hb dX1_digestFrom_105 ?_
                    refine lv_lstore_n (lv' := [(3, .long (lI ((((x8 * 31) + (r 0 k8)) * 31) + (r 1 k8)))), (0, .ref h), (5, .int (iI (k8)))]) hx hb dX1_digestFrom_106 rfl hl (by decide) rfl (fun ls hl => ?_)
                    refine lv_lload_n hx hb dX1_digestFrom_107 rfl (lv_at hl 0 rfl) ?_
                    refine mf_ldc2 hx hb 31 hown (hts (.constantLong RX1 138 (31)) (List.mem_of_getElem? (i := 1) rfl)) rfl dX1_digestFrom_108 ?_
                    refine mf_lmul hx hb dX1_digestFrom_111 ?_
                    refine lv_aload_n hx hb dX1_digestFrom_112 rfl (lv_at hl 1 rfl) ?_
                    refine va_get (D := G.1) (ci := 1) (v := .ref (ad 2)) (C := RX1) (T := TX1) (N := 14) hx hb hts hinX1 hown hK hP 0 rfl rfl 2 (by decide) (hts (.fieldLink RX1 18 "MeanderFarm$River" "stones" "[Z") (List.mem_of_getElem? (i := 7) rfl)) (fun _ h9 => h9) rfl dX1_digestFrom_113 ?_
                    refine lv_iload hx hb dX1_digestFrom_116 (lv_at hl 2 rfl) ?_
                    refine mf_zald (n := 384) (f := r 2) hx hb hK hP 3 1 rfl rfl (z := k8) (by omega) (by omega) (by decide) dX1_digestFrom_118 ?_
                    have b7 : (0 : Int) ≤ r 2 k8 ∧ r 2 k8 ≤ 1 := ok 2 (k8)
                    refine mf_if_eq (tgt := 126) hx hb dX1_digestFrom_119 (by decide) (i32_mk (by omega) (by omega)) (fun c8 => ?_) (fun c8 => ?_)
                    · skip
                      refine mf_iconst hx hb dX1_digestFrom_126 ?_
                      refine mf_i2l hx hb dX1_digestFrom_127 (i32_mk (by decide) (by decide)) ?_
                      refine mf_ladd hx hb dX1_digestFrom_128 ?_
                      refine lv_lstore_n (lv' := [(3, .long (lI ((((((x8 * 31) + (r 0 k8)) * 31) + (r 1 k8)) * 31) + 0))), (0, .ref h), (5, .int (iI (k8)))]) hx hb dX1_digestFrom_129 rfl hl (by decide) rfl (fun ls hl => ?_)
                      refine lv_lload_n hx hb dX1_digestFrom_130 rfl (lv_at hl 0 rfl) ?_
                      refine mf_ldc2 hx hb 31 hown (hts (.constantLong RX1 138 (31)) (List.mem_of_getElem? (i := 1) rfl)) rfl dX1_digestFrom_131 ?_
                      refine mf_lmul hx hb dX1_digestFrom_134 ?_
                      refine lv_aload_n hx hb dX1_digestFrom_135 rfl (lv_at hl 1 rfl) ?_
                      refine lv_iload hx hb dX1_digestFrom_136 (lv_at hl 2 rfl) ?_
                      refine vp_callSi (va_Run.run (va_runV (As := [.int (iI (k8))]) (rest := [.long (lI (((((((x8 * 31) + (r 0 k8)) * 31) + (r 1 k8)) * 31) + 0) * 31))]) ⟨hx, hb, hml, hown, hts⟩ (c_X1_lakeYearsLeft l G h ad r (k8) (i32_mk (by omega) (by omega)) (by assumption)) (cwV 1 hts gX1_digestFrom_X1_lakeYearsLeft rfl rfl rfl (by decide +kernel) ⟨Nat.le_of_ble_eq_true rfl, Nat.le_of_ble_eq_true rfl⟩) (rdV (wc := RW G h ad r) hK hP hN [0, 1, 2, 3, 4, 5, 6, 7, 8, 9, 10, 11] rfl (ci := 1) rfl rfl) rfl rfl hl.1 rfl (lv_room (Nat.le_of_ble_eq_true rfl)) dX1_digestFrom_138 ⟨(Nat.zero_le _), (Nat.zero_le _)⟩)) (fun q9 hq9 => ?_)
                      subst hq9
                      refine mf_nm (fun y10 ey10 => ?_)
                      have b11 : 0 ≤ y10 ∧ y10 ≤ 100000 := by rw [ey10]; exact lyl_b (by assumption) k8
                      refine mf_i2l hx hb dX1_digestFrom_141 (i32_mk (by omega) (by omega)) ?_
                      refine mf_ladd hx hb dX1_digestFrom_142 ?_
                      refine lv_lstore_n (lv' := [(3, .long (lI ((((((((x8 * 31) + (r 0 k8)) * 31) + (r 1 k8)) * 31) + 0) * 31) + y10))), (0, .ref h), (5, .int (iI (k8)))]) hx hb dX1_digestFrom_143 rfl hl (by decide) rfl (fun ls hl => ?_)
                      refine lv_iinc (v := iI (k8 + 1)) (lv' := [(5, .int (iI (k8 + 1))), (3, .long (lI ((((((((x8 * 31) + (r 0 k8)) * 31) + (r 1 k8)) * 31) + 0) * 31) + y10))), (0, .ref h)]) hx hb dX1_digestFrom_144 hl (k := 2) rfl (iI_add _ _).symm (by decide) rfl (fun ls hl => ?_)
                      refine lv_goto (tgt := 69) hx hb dX1_digestFrom_147 (by decide) ?_
                      exact ih69 ((((((((x8 * 31) + (r 0 k8)) * 31) + (r 1 k8)) * 31) + 0) * 31) + y10) (k8 + 1) (by omega) (by first | assumption | omega) (by subst_vars; first | rfl | (rw [ifold_s _ _ (by omega)]; done) | (rw [ifold_s _ _ (by omega), bP_t (by assumption)]; done) | (rw [ifold_s _ _ (by omega), bP_f (by omega)]; done))  ls (lv_sub hl [2, 1, 0] rfl)
                    · skip
                      refine mf_iconst hx hb dX1_digestFrom_122 ?_
                      refine lv_goto (tgt := 127) hx hb dX1_digestFrom_123 (by decide) ?_
                      refine mf_i2l hx hb dX1_digestFrom_127 (i32_mk (by decide) (by decide)) ?_
                      refine mf_ladd hx hb dX1_digestFrom_128 ?_
                      refine lv_lstore_n (lv' := [(3, .long (lI ((((((x8 * 31) + (r 0 k8)) * 31) + (r 1 k8)) * 31) + 1))), (0, .ref h), (5, .int (iI (k8)))]) hx hb dX1_digestFrom_129 rfl hl (by decide) rfl (fun ls hl => ?_)
                      refine lv_lload_n hx hb dX1_digestFrom_130 rfl (lv_at hl 0 rfl) ?_
                      refine mf_ldc2 hx hb 31 hown (hts (.constantLong RX1 138 (31)) (List.mem_of_getElem? (i := 1) rfl)) rfl dX1_digestFrom_131 ?_
                      refine mf_lmul hx hb dX1_digestFrom_134 ?_
                      refine lv_aload_n hx hb dX1_digestFrom_135 rfl (lv_at hl 1 rfl) ?_
                      refine lv_iload hx hb dX1_digestFrom_136 (lv_at hl 2 rfl) ?_
                      refine vp_callSi (va_Run.run (va_runV (As := [.int (iI (k8))]) (rest := [.long (lI (((((((x8 * 31) + (r 0 k8)) * 31) + (r 1 k8)) * 31) + 1) * 31))]) ⟨hx, hb, hml, hown, hts⟩ (c_X1_lakeYearsLeft l G h ad r (k8) (i32_mk (by omega) (by omega)) (by assumption)) (cwV 1 hts gX1_digestFrom_X1_lakeYearsLeft rfl rfl rfl (by decide +kernel) ⟨Nat.le_of_ble_eq_true rfl, Nat.le_of_ble_eq_true rfl⟩) (rdV (wc := RW G h ad r) hK hP hN [0, 1, 2, 3, 4, 5, 6, 7, 8, 9, 10, 11] rfl (ci := 1) rfl rfl) rfl rfl hl.1 rfl (lv_room (Nat.le_of_ble_eq_true rfl)) dX1_digestFrom_138 ⟨(Nat.zero_le _), (Nat.zero_le _)⟩)) (fun q12 hq12 => ?_)
                      subst hq12
                      refine mf_nm (fun y13 ey13 => ?_)
                      have b14 : 0 ≤ y13 ∧ y13 ≤ 100000 := by rw [ey13]; exact lyl_b (by assumption) k8
                      refine mf_i2l hx hb dX1_digestFrom_141 (i32_mk (by omega) (by omega)) ?_
                      refine mf_ladd hx hb dX1_digestFrom_142 ?_
                      refine lv_lstore_n (lv' := [(3, .long (lI ((((((((x8 * 31) + (r 0 k8)) * 31) + (r 1 k8)) * 31) + 1) * 31) + y13))), (0, .ref h), (5, .int (iI (k8)))]) hx hb dX1_digestFrom_143 rfl hl (by decide) rfl (fun ls hl => ?_)
                      refine lv_iinc (v := iI (k8 + 1)) (lv' := [(5, .int (iI (k8 + 1))), (3, .long (lI ((((((((x8 * 31) + (r 0 k8)) * 31) + (r 1 k8)) * 31) + 1) * 31) + y13))), (0, .ref h)]) hx hb dX1_digestFrom_144 hl (k := 2) rfl (iI_add _ _).symm (by decide) rfl (fun ls hl => ?_)
                      refine lv_goto (tgt := 69) hx hb dX1_digestFrom_147 (by decide) ?_
                      exact ih69 ((((((((x8 * 31) + (r 0 k8)) * 31) + (r 1 k8)) * 31) + 1) * 31) + y13) (k8 + 1) (by omega) (by first | assumption | omega) (by subst_vars; first | rfl | (rw [ifold_s _ _ (by omega)]; done) | (rw [ifold_s _ _ (by omega), bP_t (by assumption)]; done) | (rw [ifold_s _ _ (by omega), bP_f (by omega)]; done))  ls (lv_sub hl [2, 1, 0] rfl)
              exact lp69 (_ + 1) x6 0 (Nat.lt_succ_self _) (by first | assumption | omega) (by rw [show k6 = r 7 0 by omega] at hs6; rw [hs6]; rfl)  ls (lv_sub hl [1, 2, 0] rfl)
            · skip
              refine lv_lload_n hx hb dX1_digestFrom_45 rfl (lv_at hl 1 rfl) ?_
              refine mf_ldc2 hx hb 31 hown (hts (.constantLong RX1 138 (31)) (List.mem_of_getElem? (i := 1) rfl)) rfl dX1_digestFrom_46 ?_
              refine mf_lmul hx hb dX1_digestFrom_49 ?_
              refine lv_aload_n hx hb dX1_digestFrom_50 rfl (lv_at hl 0 rfl) ?_
              refine va_get (D := G.1) (ci := 1) (v := .ref (ad 6)) (C := RX1) (T := TX1) (N := 14) hx hb hts hinX1 hown hK hP 0 rfl rfl 6 (by decide) (hts (.fieldLink RX1 31 "MeanderFarm$River" "course" "[I") (List.mem_of_getElem? (i := 4) rfl)) (fun _ h9 => h9) rfl dX1_digestFrom_51 ?_
              refine lv_iload hx hb dX1_digestFrom_54 (lv_at hl 2 rfl) ?_
              refine mf_iald (n := 150) (f := r 6) hx hb hK hP 7 0 rfl rfl (z := k6) (by omega) (by omega) (by decide) dX1_digestFrom_56 ?_
              have b15 : (0 : Int) ≤ r 6 k6 ∧ r 6 k6 ≤ 383 := ok 6 (k6)
              refine mf_i2l hx hb dX1_digestFrom_57 (i32_mk (by omega) (by omega)) ?_
              refine mf_ladd hx hb dX1_digestFrom_58 ?_
              refine lv_lstore_n (lv' := [(3, .long (lI ((x6 * 31) + (r 6 k6)))), (0, .ref h), (5, .int (iI (k6)))]) hx hb dX1_digestFrom_59 rfl hl (by decide) rfl (fun ls hl => ?_)
              refine lv_iinc (v := iI (k6 + 1)) (lv' := [(5, .int (iI (k6 + 1))), (3, .long (lI ((x6 * 31) + (r 6 k6)))), (0, .ref h)]) hx hb dX1_digestFrom_60 hl (k := 2) rfl (iI_add _ _).symm (by decide) rfl (fun ls hl => ?_)
              refine lv_goto (tgt := 36) hx hb dX1_digestFrom_63 (by decide) ?_
              exact ih36 ((x6 * 31) + (r 6 k6)) (k6 + 1) (by omega) (by first | assumption | omega) (by subst_vars; first | rfl | (rw [ifold_s _ _ (by omega)]; done) | (rw [ifold_s _ _ (by omega), bP_t (by assumption)]; done) | (rw [ifold_s _ _ (by omega), bP_f (by omega)]; done))  ls (lv_sub hl [2, 1, 0] rfl)
        exact lp36 (_ + 1) x5 0 (Nat.lt_succ_self _) (by first | assumption | omega) (by rw [show k5 = 12 by omega] at hs5; rw [hs5]; rfl)  ls (lv_sub hl [1, 2, 0] rfl)
      · skip
        refine lv_lload_n hx hb dX1_digestFrom_12 rfl (lv_at hl 1 rfl) ?_
        refine mf_ldc2 hx hb 31 hown (hts (.constantLong RX1 138 (31)) (List.mem_of_getElem? (i := 1) rfl)) rfl dX1_digestFrom_13 ?_
        refine mf_lmul hx hb dX1_digestFrom_16 ?_
        refine lv_aload_n hx hb dX1_digestFrom_17 rfl (lv_at hl 0 rfl) ?_
        refine va_get (D := G.1) (ci := 1) (v := .ref (ad 5)) (C := RX1) (T := TX1) (N := 14) hx hb hts hinX1 hown hK hP 0 rfl rfl 5 (by decide) (hts (.fieldLink RX1 28 "MeanderFarm$River" "flow" "[I") (List.mem_of_getElem? (i := 2) rfl)) (fun _ h9 => h9) rfl dX1_digestFrom_18 ?_
        refine lv_iload hx hb dX1_digestFrom_21 (lv_at hl 2 rfl) ?_
        refine mf_iald (n := 12) (f := r 5) hx hb hK hP 6 0 rfl rfl (z := k5) (by omega) (by omega) (by decide) dX1_digestFrom_23 ?_
        have b16 : (0 : Int) ≤ r 5 k5 ∧ r 5 k5 ≤ 9 := ok 5 (k5)
        refine mf_i2l hx hb dX1_digestFrom_24 (i32_mk (by omega) (by omega)) ?_
        refine mf_ladd hx hb dX1_digestFrom_25 ?_
        refine lv_lstore_n (lv' := [(3, .long (lI ((x5 * 31) + (r 5 k5)))), (0, .ref h), (5, .int (iI (k5)))]) hx hb dX1_digestFrom_26 rfl hl (by decide) rfl (fun ls hl => ?_)
        refine lv_iinc (v := iI (k5 + 1)) (lv' := [(5, .int (iI (k5 + 1))), (3, .long (lI ((x5 * 31) + (r 5 k5)))), (0, .ref h)]) hx hb dX1_digestFrom_27 hl (k := 2) rfl (iI_add _ _).symm (by decide) rfl (fun ls hl => ?_)
        refine lv_goto (tgt := 5) hx hb dX1_digestFrom_30 (by decide) ?_
        exact ih5 ((x5 * 31) + (r 5 k5)) (k5 + 1) (by omega) (by first | assumption | omega) (by subst_vars; first | rfl | (rw [ifold_s _ _ (by omega)]; done) | (rw [ifold_s _ _ (by omega), bP_t (by assumption)]; done) | (rw [ifold_s _ _ (by omega), bP_f (by omega)]; done))  ls (lv_sub hl [2, 1, 0] rfl)
  exact lp5 (_ + 1) dv 0 (Nat.lt_succ_self _) (by first | assumption | omega) (by subst_vars; first | rfl | (rw [ifold_s _ _ (by omega)]; done) | (rw [ifold_s _ _ (by omega), bP_t (by assumption)]; done) | (rw [ifold_s _ _ (by omega), bP_f (by omega)]; done))  ls (lv_sub hl [2, 1, 0] rfl)
end
section
/-! 13.river: how a river changes -/
/-- the side to which the cell i is thrown, by the directions -/
def thrS (d : Int → Int) (n i t : Int) : Prop := (¬ (0 < i ∧ i < n - 1 ∧ d (i - 1) = d i) ∧ t = -1) ∨ ((0 < i ∧ i < n - 1 ∧ d (i - 1) = d i) ∧ ∃ j, 0 < j ∧ j < i ∧ i - j ≤ 4 ∧ ¬ d j = d (j - 1) ∧ (∀ q, j < q → q ≤ i → d q = d (q - 1)) ∧ t = d (j - 1)) ∨ ((0 < i ∧ i < n - 1 ∧ d (i - 1) = d i) ∧ (∀ q, 0 < q → q ≤ i → i - q ≤ 4 → d q = d (q - 1)) ∧ t = -1)
/-- throwCells' bend behind k cells -/
def bendS (d : Int → Int) (k b : Int) : Prop := (b = -1 ∧ ∀ q, 0 < q → q < k → d q = d (q - 1)) ∨ (0 < b ∧ b < k ∧ ¬ d b = d (b - 1) ∧ ∀ q, b < q → q < k → d q = d (q - 1))
theorem bendS_new {d : Int → Int} {k : Int} (h0 : 0 < k) (h : ¬ d k = d (k - 1)) : bendS d (k + 1) k := Or.inr ⟨h0, by omega, h, fun q h1 h2 => by omega⟩
theorem bendS_old {d : Int → Int} {k b : Int} (hb : bendS d k b) (h : k ≤ 0 ∨ d k = d (k - 1)) : bendS d (k + 1) b := by
  rcases hb with ⟨h1, h2⟩ | ⟨h1, h2, h3, h4⟩
  · refine Or.inl ⟨h1, fun q h5 h6 => ?_⟩
    rcases (show q < k ∨ q = k by omega) with z | z
    · exact h2 q h5 z
    · subst z; rcases h with h | h
      · omega
      · exact h
  · refine Or.inr ⟨h1, by omega, h3, fun q h5 h6 => ?_⟩
    rcases (show q < k ∨ q = k by omega) with z | z
    · exact h4 q h5 z
    · subst z; rcases h with h | h
      · omega
      · exact h
theorem thrS_bend {d : Int → Int} {n k : Int} (hk : 0 < k) (h : ¬ d k = d (k - 1)) : thrS d n k (-1) := Or.inl ⟨fun z => h z.2.2.symm, rfl⟩
theorem thrS_far {d : Int → Int} {n k b : Int} (hlast : ¬ d (n - 1) = d (n - 2)) (hk : 0 ≤ k ∧ k < n) (hb : bendS d k b) (h : k ≤ 0 ∨ d k = d (k - 1)) (h4 : b ≤ 0 ∨ 4 < k - b) : thrS d n k (-1) := by
  by_cases z : 0 < k ∧ k < n - 1 ∧ d (k - 1) = d k
  · refine Or.inr (Or.inr ⟨z, fun q h5 h6 h7 => ?_, rfl⟩)
    rcases (show q < k ∨ q = k by omega) with y | y
    · rcases hb with ⟨h1, h2⟩ | ⟨h1, h2, h3, h8⟩
      · exact h2 q h5 y
      · exact h8 q (by omega) y
    · subst y; exact z.2.2.symm
  · exact Or.inl ⟨z, rfl⟩
theorem thrS_near {d : Int → Int} {n k b : Int} (hlast : ¬ d (n - 1) = d (n - 2)) (hk : 0 ≤ k ∧ k < n) (hb : bendS d k b) (h : k ≤ 0 ∨ d k = d (k - 1)) (h3 : 0 < b) (h4 : k - b ≤ 4) : thrS d n k (d (b - 1)) := by
  rcases hb with ⟨h1, -⟩ | ⟨h1, h2, h5, h8⟩
  · omega
  · have hd : d k = d (k - 1) := by rcases h with h | h; omega; exact h
    have hn : k ≠ n - 1 := fun z => hlast (by rw [← z, hd]; congr 1; omega)
    refine Or.inr (Or.inl ⟨⟨by omega, by omega, hd.symm⟩, b, h1, h2, h4, h5, fun q h6 h7 => ?_, rfl⟩)
    rcases (show q < k ∨ q = k by omega) with y | y
    · exact h8 q h6 y
    · subst y; exact hd
theorem thrS_uniq {d : Int → Int} {n i t t' : Int} (h : thrS d n i t) (h' : thrS d n i t') : t = t' := by
  rcases h with ⟨a, b⟩ | ⟨a, j, b1, b2, b3, b4, b5, b6⟩ | ⟨a, b, c⟩ <;> rcases h' with ⟨a', b'⟩ | ⟨a', j', b1', b2', b3', b4', b5', b6'⟩ | ⟨a', b', c'⟩
  · rw [b, b']
  · exact absurd a' a
  · exact absurd a' a
  · exact absurd a a'
  · rcases (show j < j' ∨ j = j' ∨ j' < j by omega) with z | z | z
    · exact absurd (b5 j' z (by omega)) b4'
    · subst z; rw [b6, b6']
    · exact absurd (b5' j z (by omega)) b4
  · exact absurd (b' j b1 (by omega) b3) b4
  · exact absurd a a'
  · exact absurd (b j' b1' (by omega) b3') b4'
  · rw [c, c']
theorem cellAtF_cg {r r2 : mf_V} (h6 : r2 6 = r 6) (h7 : r2 7 = r 7) (i : Int) : cellAtF r2 i = cellAtF r i := by unfold cellAtF inC; rw [h6, h7]
theorem dirTo_m1 (x : Int) : dirTo x (-1) = -1 := by
  unfold dirTo
  rw [if_neg (fun z => z.1 z.2), if_neg (fun z => z.1 z.2), if_neg (fun z => z.1 z.2), if_neg (fun z => z.1 z.2)]
set_option maxHeartbeats 4000000 in
set_option maxRecDepth 100000 in
theorem c_X1_takeIntoCourse (l : Launch) (G : mf_G) (h : Nat) (ad : Nat → Nat) (r : mf_V)  (iv : Int) (cv : Int) (hiv : i32 iv) (hcv : i32 cv) (ok : rOK rlo rhi r) (hin : inC r iv) (hcl : 0 ≤ cv ∧ cv < 384) (sz : Nat) : Met l yX1_takeIntoCourse wsX1_takeIntoCourse ({ frames := 1, cells := 0, slots := 0, locals := 21 }) (va_Pc [.ref h, .int (iI (iv)), .int (iI (cv))] (WrP G (RW G h ad r) sz)) (va_Qv (fun (r' : mf_V) => rOK rlo rhi r' ∧ r' 6 = mf_up (r 6) iv cv ∧ r' 1 = mf_up (r 1) cv 0 ∧ r' 3 = mf_up (r 3) cv 0 ∧ r' 4 = mf_up (r 4) cv 1 ∧ ∀ q, q ≠ 6 → q ≠ 1 → q ≠ 3 → q ≠ 4 → r' q = r q) (fun (r' : mf_V) t => WrQ G (va_A (RW G h ad r) sz) (RW G h ad r') t) (va_A (RW G h ad r) sz)) 0 0 (va_A (RW G h ad r) sz) := by
  refine Met.ofW (cc := cX1_takeIntoCourse) (maxL := 3) (ret := none) (by decide) rfl ?_
  intro p e s m args below meth c s₁ B hml hv
  obtain ⟨rfl, hsz, hP, hK, hD0, hN⟩ := hv
  have hx := B.exec
  have hb := B.bytes
  have hr := B.returns
  have hts := atoms_spec (ws := wsX1_takeIntoCourse) B.pre
  have hown : s.vm.findClass RX1 = some m.cls := findClass_of_methodNamed B.named
  have hlocks := B.notSynchronized
  have hinX1 : ∀ w ∈ u_ws RX1 TX1 14, w ∈ wsX1_takeIntoCourse := fun w h => List.mem_cons_of_mem _ (List.mem_append_right _ h)
  subst hsz
  have hD := hD0.self (sz := s.heap.size)
  generalize hAe : va_A (RW G h ad r) s.heap.size = A at hD ⊢
  have hA : ∀ q : Nat, s.heap.size ≤ q → A q := fun q h => by rw [← hAe]; exact Or.inr h
  have hS : va_S A s.heap s.heap [] := va_S.rf
  have hl := lv_entry ([.ref h, .int (iI (iv)), .int (iI (cv))]) (n := 3) (Nat.le_of_ble_eq_true rfl)
  rw [lg_entry_eq]
  generalize (lg_sl ([.ref h, .int (iI (iv)), .int (iI (cv))]) ++ List.replicate (3 - (lg_sl ([.ref h, .int (iI (iv)), .int (iI (cv))])).length) Slot.unset).toArray = ls at hl ⊢
  have hl : lv_has ls 3 [(0, .ref h), (1, .int (iI (iv))), (2, .int (iI (cv)))] := hl
  have hiv1 := hiv.1
  have hiv2 := hiv.2
  have hcv1 := hcv.1
  have hcv2 := hcv.2
  have okLr : (0 : Int) ≤ r 7 0 ∧ r 7 0 ≤ 150 := ok 7 0
  have hin2 := hin
  unfold inC at hin2
  refine lv_aload_n hx hb dX1_takeIntoCourse_0 rfl (lv_at hl 0 rfl) ?_
  refine lv_iload_n hx hb dX1_takeIntoCourse_1 rfl (lv_at hl 1 rfl) ?_
  refine vp_callSi (va_Run.run (va_runV (As := [.int (iI (iv))]) (rest := []) ⟨hx, hb, hml, hown, hts⟩ (c_X1_isInCourse l G h ad r (iv) (i32_mk (by omega) (by omega)) (by assumption)) (cwV 1 hts gX1_takeIntoCourse_X1_isInCourse rfl rfl rfl (by decide +kernel) ⟨Nat.le_of_ble_eq_true rfl, Nat.le_of_ble_eq_true rfl⟩) (rdV (wc := RW G h ad r) hK hP hN [0, 1, 2, 3, 4, 5, 6, 7, 8, 9, 10, 11] rfl (ci := 1) rfl rfl) rfl rfl hl.1 rfl (lv_room (Nat.le_of_ble_eq_true rfl)) dX1_takeIntoCourse_2 ⟨(Nat.zero_le _), (Nat.zero_le _)⟩)) (fun q1 hq1 => ?_)
  subst hq1
  refine mf_bp_eq (tgt := 43) hx hb dX1_takeIntoCourse_5 (by decide) (fun c2 => ?_) (fun c2 => ?_)
  · skip
    exact absurd hin c2
  · skip
    have c2' := c2; unfold inC at c2'
    refine lv_iload_n hx hb dX1_takeIntoCourse_8 rfl (lv_at hl 2 rfl) ?_
    refine vp_callSi (va_Run.run (va_runSN (As := [.int (iI (cv))]) (rest := []) ⟨hx, hb, hml, hown, hts⟩ (c_X2_isCell l (cv) (i32_mk (by omega) (by omega))) ⟨(va_cnB 1 hts gX1_takeIntoCourse_X2_isCell_n70 rfl rfl rfl (hN.m 27 rfl) (hts (.initialized RX2) (List.mem_of_getElem? (i := 12) rfl)) (by decide +kernel) ⟨Nat.le_of_ble_eq_true rfl, Nat.le_of_ble_eq_true rfl⟩), (hts (.static yX2_isCell) (List.mem_of_getElem? (i := 11) rfl)), trivial⟩ pureS rfl rfl hl.1 rfl (lv_room (Nat.le_of_ble_eq_true rfl)) dX1_takeIntoCourse_9 ⟨(Nat.zero_le _), (Nat.zero_le _)⟩)) (fun q3 hq3 => ?_)
    subst hq3
    refine mf_bp_eq (tgt := 43) hx hb dX1_takeIntoCourse_12 (by decide) (fun c4 => ?_) (fun c4 => ?_)
    · skip
      exact absurd hcl c4
    · skip
      refine lv_aload_n hx hb dX1_takeIntoCourse_15 rfl (lv_at hl 0 rfl) ?_
      refine va_get (D := G.1) (ci := 1) (v := .ref (ad 6)) (C := RX1) (T := TX1) (N := 14) hx hb hts hinX1 hown hK hP 0 rfl rfl 6 (by decide) (hts (.fieldLink RX1 31 "MeanderFarm$River" "course" "[I") (List.mem_of_getElem? (i := 1) rfl)) (fun _ h9 => h9) rfl dX1_takeIntoCourse_16 ?_
      refine lv_iload_n hx hb dX1_takeIntoCourse_19 rfl (lv_at hl 1 rfl) ?_
      refine lv_iload_n hx hb dX1_takeIntoCourse_20 rfl (lv_at hl 2 rfl) ?_
      refine mf_iast (n := 150) (f := r 6) hx hb hK hP hD hS 7 0 rfl rfl (z := iv) (x := cv) (by omega) (by omega) (by decide) dX1_takeIntoCourse_21 (fun H locs hP hD hS => ?_)
      obtain ⟨r5, er5⟩ : ∃ q : mf_V, q = mf_sF r 6 (mf_up (r 6) (iv) (cv)) := ⟨_, rfl⟩
      have hP : va_P G.1 vwCl (RW G h ad r5) H := by rw [er5]; exact hP
      have hD : va_D A (RW G h ad r5) := by rw [er5]; exact hD
      have okr5 : rOK rlo rhi r5 := by rw [er5]; exact rOK_up ok 6 _ _ (show (0 : Int) ≤ cv by omega) (show cv ≤ (383 : Int) by omega)
      have f1_r5 : r5 6 (iv) = cv := by rw [er5, mf_sF_s, mf_up_s]
      have f2_r5 : ∀ y, y ≠ (iv) → r5 6 y = r 6 y := fun y hy => by rw [er5, mf_sF_s, mf_up_n hy]
      have f3_r5 : ∀ q, q ≠ 6 → r5 q = r q := fun q hq => by rw [er5, mf_sF_n hq]
      refine lv_aload_n hx hb dX1_takeIntoCourse_22 rfl (lv_at hl 0 rfl) ?_
      refine va_get (D := G.1) (ci := 1) (v := .ref (ad 1)) (C := RX1) (T := TX1) (N := 14) hx hb hts hinX1 hown hK hP 0 rfl rfl 1 (by decide) (hts (.fieldLink RX1 15 "MeanderFarm$River" "wear" "[I") (List.mem_of_getElem? (i := 2) rfl)) (fun _ h9 => h9) rfl dX1_takeIntoCourse_23 ?_
      refine lv_iload_n hx hb dX1_takeIntoCourse_26 rfl (lv_at hl 2 rfl) ?_
      refine mf_iconst hx hb dX1_takeIntoCourse_27 ?_
      refine mf_iast (n := 384) (f := r5 1) hx hb hK hP hD hS 2 0 rfl rfl (z := cv) (x := 0) (by omega) (by omega) (by decide) dX1_takeIntoCourse_28 (fun H locs hP hD hS => ?_)
      obtain ⟨r6, er6⟩ : ∃ q : mf_V, q = mf_sF r5 1 (mf_up (r5 1) (cv) (0)) := ⟨_, rfl⟩
      have hP : va_P G.1 vwCl (RW G h ad r6) H := by rw [er6]; exact hP
      have hD : va_D A (RW G h ad r6) := by rw [er6]; exact hD
      have okr6 : rOK rlo rhi r6 := by rw [er6]; exact rOK_up okr5 1 _ _ (show (0 : Int) ≤ 0 by omega) (show 0 ≤ (200000000 : Int) by omega)
      have f1_r6 : r6 1 (cv) = 0 := by rw [er6, mf_sF_s, mf_up_s]
      have f2_r6 : ∀ y, y ≠ (cv) → r6 1 y = r5 1 y := fun y hy => by rw [er6, mf_sF_s, mf_up_n hy]
      have f3_r6 : ∀ q, q ≠ 1 → r6 q = r5 q := fun q hq => by rw [er6, mf_sF_n hq]
      refine lv_aload_n hx hb dX1_takeIntoCourse_29 rfl (lv_at hl 0 rfl) ?_
      refine va_get (D := G.1) (ci := 1) (v := .ref (ad 3)) (C := RX1) (T := TX1) (N := 14) hx hb hts hinX1 hown hK hP 0 rfl rfl 3 (by decide) (hts (.fieldLink RX1 22 "MeanderFarm$River" "lakeEnd" "[I") (List.mem_of_getElem? (i := 3) rfl)) (fun _ h9 => h9) rfl dX1_takeIntoCourse_30 ?_
      refine lv_iload_n hx hb dX1_takeIntoCourse_33 rfl (lv_at hl 2 rfl) ?_
      refine mf_iconst hx hb dX1_takeIntoCourse_34 ?_
      refine mf_iast (n := 384) (f := r6 3) hx hb hK hP hD hS 4 0 rfl rfl (z := cv) (x := 0) (by omega) (by omega) (by decide) dX1_takeIntoCourse_35 (fun H locs hP hD hS => ?_)
      obtain ⟨r7, er7⟩ : ∃ q : mf_V, q = mf_sF r6 3 (mf_up (r6 3) (cv) (0)) := ⟨_, rfl⟩
      have hP : va_P G.1 vwCl (RW G h ad r7) H := by rw [er7]; exact hP
      have hD : va_D A (RW G h ad r7) := by rw [er7]; exact hD
      have okr7 : rOK rlo rhi r7 := by rw [er7]; exact rOK_up okr6 3 _ _ (show (0 : Int) ≤ 0 by omega) (show 0 ≤ (100000 : Int) by omega)
      have f1_r7 : r7 3 (cv) = 0 := by rw [er7, mf_sF_s, mf_up_s]
      have f2_r7 : ∀ y, y ≠ (cv) → r7 3 y = r6 3 y := fun y hy => by rw [er7, mf_sF_s, mf_up_n hy]
      have f3_r7 : ∀ q, q ≠ 3 → r7 q = r6 q := fun q hq => by rw [er7, mf_sF_n hq]
      refine lv_aload_n hx hb dX1_takeIntoCourse_36 rfl (lv_at hl 0 rfl) ?_
      refine va_get (D := G.1) (ci := 1) (v := .ref (ad 4)) (C := RX1) (T := TX1) (N := 14) hx hb hts hinX1 hown hK hP 0 rfl rfl 4 (by decide) (hts (.fieldLink RX1 25 "MeanderFarm$River" "bulgedInto" "[Z") (List.mem_of_getElem? (i := 4) rfl)) (fun _ h9 => h9) rfl dX1_takeIntoCourse_37 ?_
      refine lv_iload_n hx hb dX1_takeIntoCourse_40 rfl (lv_at hl 2 rfl) ?_
      refine mf_iconst hx hb dX1_takeIntoCourse_41 ?_
      refine mf_zast (n := 384) (f := r7 4) hx hb hK hP hD hS 5 1 rfl rfl (z := cv) (x := 1) (by omega) (by omega) (by decide) (by omega) dX1_takeIntoCourse_42 (fun H locs hP hD hS => ?_)
      obtain ⟨r8, er8⟩ : ∃ q : mf_V, q = mf_sF r7 4 (mf_up (r7 4) (cv) (1)) := ⟨_, rfl⟩
      have hP : va_P G.1 vwCl (RW G h ad r8) H := by rw [er8]; exact hP
      have hD : va_D A (RW G h ad r8) := by rw [er8]; exact hD
      have okr8 : rOK rlo rhi r8 := by rw [er8]; exact rOK_up okr7 4 _ _ (show (0 : Int) ≤ 1 by omega) (show 1 ≤ (1 : Int) by omega)
      have f1_r8 : r8 4 (cv) = 1 := by rw [er8, mf_sF_s, mf_up_s]
      have f2_r8 : ∀ y, y ≠ (cv) → r8 4 y = r7 4 y := fun y hy => by rw [er8, mf_sF_s, mf_up_n hy]
      have f3_r8 : ∀ q, q ≠ 4 → r8 q = r7 q := fun q hq => by rw [er8, mf_sF_n hq]
      exact W.vret hx hb hr (fun t ht hW => ⟨⟨r8, rfl, by exact ⟨okr8, by rw [f3_r8 6 (by decide), f3_r7 6 (by decide), f3_r6 6 (by decide), er5, mf_sF_s], by rw [f3_r8 1 (by decide), f3_r7 1 (by decide), er6, mf_sF_s, f3_r5 1 (by decide)], by rw [f3_r8 3 (by decide), er7, mf_sF_s, f3_r6 3 (by decide), f3_r5 3 (by decide)], by rw [er8, mf_sF_s, f3_r7 4 (by decide), f3_r6 4 (by decide), f3_r5 4 (by decide)], fun q h6 h1 h3 h4 => by rw [f3_r8 q h4, f3_r7 q h3, f3_r6 q h1, f3_r5 q h6]⟩, by rw [ht]; exact hP, hD⟩, hS.F ht⟩) hS.2.2 dX1_takeIntoCourse_43
set_option maxHeartbeats 4000000 in
set_option maxRecDepth 100000 in
theorem c_X1_throwCells (l : Launch) (G : mf_G) (h : Nat) (ad : Nat → Nat) (r : mf_V)  (ok : rOK rlo rhi r) (hlen : 2 ≤ r 7 0) (hlast : ¬ r 11 (r 7 0 - 1) = r 11 (r 7 0 - 2)) (sz : Nat) : Met l yX1_throwCells wsX1_throwCells ({ frames := 1, cells := 0, slots := 0, locals := 22 }) (va_Pc [.ref h] (WrP G (RW G h ad r) sz)) (va_Qv (fun (r' : mf_V) => rOK rlo rhi r' ∧ (∀ q, q < 12 → r' q = r q) ∧ ∀ i, 0 ≤ i → i < r 7 0 → thrS (r 11) (r 7 0) i (r' 12 i) ∧ r' 13 i = nbr (r 6 i) (r' 12 i)) (fun (r' : mf_V) t => WrQ G (va_A (RW G h ad r) sz) (RW G h ad r') t) (va_A (RW G h ad r) sz)) 0 0 (va_A (RW G h ad r) sz) := by
  refine Met.ofW (cc := cX1_throwCells) (maxL := 3) (ret := none) (by decide) rfl ?_
  intro p e s m args below meth c s₁ B hml hv
  obtain ⟨rfl, hsz, hP, hK, hD0, hN⟩ := hv
  have hx := B.exec
  have hb := B.bytes
  have hr := B.returns
  have hts := atoms_spec (ws := wsX1_throwCells) B.pre
  have hown : s.vm.findClass RX1 = some m.cls := findClass_of_methodNamed B.named
  have hlocks := B.notSynchronized
  have hinX1 : ∀ w ∈ u_ws RX1 TX1 14, w ∈ wsX1_throwCells := fun w h => List.mem_cons_of_mem _ (List.mem_append_right _ h)
  subst hsz
  have hD := hD0.self (sz := s.heap.size)
  generalize hAe : va_A (RW G h ad r) s.heap.size = A at hD ⊢
  have hA : ∀ q : Nat, s.heap.size ≤ q → A q := fun q h => by rw [← hAe]; exact Or.inr h
  have hS : va_S A s.heap s.heap [] := va_S.rf
  have hl := lv_entry ([.ref h]) (n := 3) (Nat.le_of_ble_eq_true rfl)
  rw [lg_entry_eq]
  generalize (lg_sl ([.ref h]) ++ List.replicate (3 - (lg_sl ([.ref h])).length) Slot.unset).toArray = ls at hl ⊢
  have hl : lv_has ls 3 [(0, .ref h)] := hl
  have okLr : (0 : Int) ≤ r 7 0 ∧ r 7 0 ≤ 150 := ok 7 0
  refine mf_iconst hx hb dX1_throwCells_0 ?_
  refine lv_istore_n (lv' := [(1, .int (iI ((-1)))), (0, .ref h)]) hx hb dX1_throwCells_1 rfl hl (by decide) rfl (fun ls hl => ?_)
  refine mf_iconst hx hb dX1_throwCells_2 ?_
  refine lv_istore_n (lv' := [(2, .int (iI (0))), (1, .int (iI ((-1)))), (0, .ref h)]) hx hb dX1_throwCells_3 rfl hl (by decide) rfl (fun ls hl => ?_)
  have lp4 : ∀ (n : Nat) (bv : Int) (kv : Int) (r1 : mf_V), (r 7 0 - kv).toNat < n → (0 ≤ kv ∧ kv ≤ r 7 0) → (-1 ≤ bv ∧ bv < r 7 0) → (rOK rlo rhi r1) → (∀ q, q < 12 → r1 q = r q) → (bendS (r 11) kv bv) → (∀ i, 0 ≤ i → i < kv → thrS (r 11) (r 7 0) i (r1 12 i) ∧ r1 13 i = nbr (r 6 i) (r1 12 i)) → ∀ (H : Heap) (locs : List Loc), va_P G.1 vwCl (RW G h ad r1) H → va_D A (RW G h ad r1) → va_S A s.heap H locs → ∀ (ls : Array Slot), lv_has ls 3 [(0, .ref h), (1, .int (iI (bv))), (2, .int (iI (kv)))] → W p l e (headSpec wsX1_throwCells ({ frames := 1, cells := 0, slots := 0, locals := 22 })).room s m ([.ref h] : List Value).toArray below meth c H locs 0 0 (MQ below (va_Qv (fun (r' : mf_V) => rOK rlo rhi r' ∧ (∀ q, q < 12 → r' q = r q) ∧ ∀ i, 0 ≤ i → i < r 7 0 → thrS (r 11) (r 7 0) i (r' 12 i) ∧ r' 13 i = nbr (r 6 i) (r' 12 i)) (fun (r' : mf_V) t => WrQ G A (RW G h ad r') t) A) ([.ref h] : List Value).toArray s 0 0 A) (F0 m 4 ls []) := by
    intro n
    induction n with
    | zero => intro bv kv r1 hn; exact absurd hn (Nat.not_lt_zero _)
    | succ n ih4 =>
      intro bv kv r1 hn hk hbd okr1 hfr hbe hinv H locs hP hD hS ls hl
      refine lv_iload_n hx hb dX1_throwCells_4 rfl (lv_at hl 2 rfl) ?_
      refine lv_aload_n hx hb dX1_throwCells_5 rfl (lv_at hl 0 rfl) ?_
      refine va_get (D := G.1) (ci := 1) (v := .int (iI (r1 7 0))) (C := RX1) (T := TX1) (N := 14) hx hb hts hinX1 hown hK hP 0 rfl rfl 7 (by decide) (hts (.fieldLink RX1 46 "MeanderFarm$River" "length" "I") (List.mem_of_getElem? (i := 1) rfl)) (fun _ h9 => h9) rfl dX1_throwCells_6 ?_
      refine mf_top (r1 7 0) (r 7 0) (by rw [hfr 7 (by decide)]) ?_
      have b1 : (0 : Int) ≤ r 7 0 ∧ r 7 0 ≤ 150 := ok 7 (0)
      refine mf_icmp_ge (tgt := 97) hx hb dX1_throwCells_9 (by decide) (i32_mk (by omega) (by omega)) (i32_mk (by omega) (by omega)) (fun c2 => ?_) (fun c2 => ?_)
      · skip
        exact W.vret hx hb hr (fun t ht hW => ⟨⟨r1, rfl, by exact ⟨okr1, hfr, fun i h0 h1 => hinv i h0 (by omega)⟩, by rw [ht]; exact hP, hD⟩, hS.F ht⟩) hS.2.2 dX1_throwCells_97
      · skip
        refine lv_aload_n hx hb dX1_throwCells_12 rfl (lv_at hl 0 rfl) ?_
        refine va_get (D := G.1) (ci := 1) (v := .ref (ad 12)) (C := RX1) (T := TX1) (N := 14) hx hb hts hinX1 hown hK hP 0 rfl rfl 12 (by decide) (hts (.fieldLink RX1 40 "MeanderFarm$River" "thrown" "[I") (List.mem_of_getElem? (i := 2) rfl)) (fun _ h9 => h9) rfl dX1_throwCells_13 ?_
        refine lv_iload_n hx hb dX1_throwCells_16 rfl (lv_at hl 2 rfl) ?_
        refine mf_iconst hx hb dX1_throwCells_17 ?_
        refine mf_iast (n := 150) (f := r1 12) hx hb hK hP hD hS 10 0 rfl rfl (z := kv) (x := (-1)) (by omega) (by omega) (by decide) dX1_throwCells_18 (fun H locs hP hD hS => ?_)
        obtain ⟨r3, er3⟩ : ∃ q : mf_V, q = mf_sF r1 12 (mf_up (r1 12) (kv) ((-1))) := ⟨_, rfl⟩
        have hP : va_P G.1 vwCl (RW G h ad r3) H := by rw [er3]; exact hP
        have hD : va_D A (RW G h ad r3) := by rw [er3]; exact hD
        have okr3 : rOK rlo rhi r3 := by rw [er3]; exact rOK_up okr1 12 _ _ (show (-1 : Int) ≤ (-1) by omega) (show (-1) ≤ (3 : Int) by omega)
        have f1_r3 : r3 12 (kv) = (-1) := by rw [er3, mf_sF_s, mf_up_s]
        have f2_r3 : ∀ y, y ≠ (kv) → r3 12 y = r1 12 y := fun y hy => by rw [er3, mf_sF_s, mf_up_n hy]
        have f3_r3 : ∀ q, q ≠ 12 → r3 q = r1 q := fun q hq => by rw [er3, mf_sF_n hq]
        refine lv_iload_n hx hb dX1_throwCells_19 rfl (lv_at hl 2 rfl) ?_
        refine mf_if_le (tgt := 45) hx hb dX1_throwCells_20 (by decide) (i32_mk (by omega) (by omega)) (fun c4 => ?_) (fun c4 => ?_)
        · skip
          refine lv_iload_n hx hb dX1_throwCells_45 rfl (lv_at hl 1 rfl) ?_
          refine mf_if_le (tgt := 70) hx hb dX1_throwCells_46 (by decide) (i32_mk (by omega) (by omega)) (fun c5 => ?_) (fun c5 => ?_)
          · skip
            refine lv_aload_n hx hb dX1_throwCells_70 rfl (lv_at hl 0 rfl) ?_
            refine va_get (D := G.1) (ci := 1) (v := .ref (ad 13)) (C := RX1) (T := TX1) (N := 14) hx hb hts hinX1 hown hK hP 0 rfl rfl 13 (by decide) (hts (.fieldLink RX1 43 "MeanderFarm$River" "bank" "[I") (List.mem_of_getElem? (i := 4) rfl)) (fun _ h9 => h9) rfl dX1_throwCells_71 ?_
            refine lv_iload_n hx hb dX1_throwCells_74 rfl (lv_at hl 2 rfl) ?_
            refine lv_aload_n hx hb dX1_throwCells_75 rfl (lv_at hl 0 rfl) ?_
            refine va_get (D := G.1) (ci := 1) (v := .ref (ad 6)) (C := RX1) (T := TX1) (N := 14) hx hb hts hinX1 hown hK hP 0 rfl rfl 6 (by decide) (hts (.fieldLink RX1 31 "MeanderFarm$River" "course" "[I") (List.mem_of_getElem? (i := 5) rfl)) (fun _ h9 => h9) rfl dX1_throwCells_76 ?_
            refine lv_iload_n hx hb dX1_throwCells_79 rfl (lv_at hl 2 rfl) ?_
            refine mf_iald (n := 150) (f := r3 6) hx hb hK hP 7 0 rfl rfl (z := kv) (by omega) (by omega) (by decide) dX1_throwCells_80 ?_
            refine mf_top (r3 6 kv) (r 6 kv) (by rw [f3_r3 6 (by decide), hfr 6 (by decide)]) ?_
            have b6 : (0 : Int) ≤ r 6 kv ∧ r 6 kv ≤ 383 := ok 6 (kv)
            refine lv_aload_n hx hb dX1_throwCells_81 rfl (lv_at hl 0 rfl) ?_
            refine va_get (D := G.1) (ci := 1) (v := .ref (ad 12)) (C := RX1) (T := TX1) (N := 14) hx hb hts hinX1 hown hK hP 0 rfl rfl 12 (by decide) (hts (.fieldLink RX1 40 "MeanderFarm$River" "thrown" "[I") (List.mem_of_getElem? (i := 2) rfl)) (fun _ h9 => h9) rfl dX1_throwCells_82 ?_
            refine lv_iload_n hx hb dX1_throwCells_85 rfl (lv_at hl 2 rfl) ?_
            refine mf_iald (n := 150) (f := r3 12) hx hb hK hP 10 0 rfl rfl (z := kv) (by omega) (by omega) (by decide) dX1_throwCells_86 ?_
            refine mf_top (r3 12 kv) ((-1)) (by rw [f1_r3]) ?_
            refine vp_callSi (va_Run.run (va_runSN (As := [.int (iI (r 6 kv)), .int (iI ((-1)))]) (rest := [.int (iI (kv)), .ref (ad 13)]) ⟨hx, hb, hml, hown, hts⟩ (c_X2_neighbour l (r 6 kv) ((-1)) (i32_mk (by omega) (by omega)) (i32_mk (by decide) (by decide))) ⟨(va_cnB 2 hts gX1_throwCells_X2_neighbour_n89 rfl rfl rfl (hN.m 29 rfl) (hts (.initialized RX2) (List.mem_of_getElem? (i := 7) rfl)) (by decide +kernel) ⟨Nat.le_of_ble_eq_true rfl, Nat.le_of_ble_eq_true rfl⟩), (hts (.static yX2_neighbour) (List.mem_of_getElem? (i := 6) rfl)), trivial⟩ pureS rfl rfl hl.1 rfl (lv_room (Nat.le_of_ble_eq_true rfl)) dX1_throwCells_87 ⟨(Nat.zero_le _), (Nat.zero_le _)⟩)) (fun q7 hq7 => ?_)
            subst hq7
            refine mf_nm (fun y8 ey8 => ?_)
            have b9 : -1 ≤ y8 ∧ y8 ≤ 383 := by rw [ey8]; exact nbr_b (r 6 kv) (-1)
            refine mf_iast (n := 150) (f := r3 13) hx hb hK hP hD hS 11 0 rfl rfl (z := kv) (x := y8) (by omega) (by omega) (by decide) dX1_throwCells_90 (fun H locs hP hD hS => ?_)
            obtain ⟨r10, er10⟩ : ∃ q : mf_V, q = mf_sF r3 13 (mf_up (r3 13) (kv) (y8)) := ⟨_, rfl⟩
            have hP : va_P G.1 vwCl (RW G h ad r10) H := by rw [er10]; exact hP
            have hD : va_D A (RW G h ad r10) := by rw [er10]; exact hD
            have okr10 : rOK rlo rhi r10 := by rw [er10]; exact rOK_up okr3 13 _ _ (show (-1 : Int) ≤ y8 by omega) (show y8 ≤ (383 : Int) by omega)
            have f1_r10 : r10 13 (kv) = y8 := by rw [er10, mf_sF_s, mf_up_s]
            have f2_r10 : ∀ y, y ≠ (kv) → r10 13 y = r3 13 y := fun y hy => by rw [er10, mf_sF_s, mf_up_n hy]
            have f3_r10 : ∀ q, q ≠ 13 → r10 q = r3 q := fun q hq => by rw [er10, mf_sF_n hq]
            refine lv_iinc (v := iI (kv + 1)) (lv' := [(2, .int (iI (kv + 1))), (0, .ref h), (1, .int (iI (bv)))]) hx hb dX1_throwCells_91 hl (k := 2) rfl (iI_add _ _).symm (by decide) rfl (fun ls hl => ?_)
            refine lv_goto (tgt := 4) hx hb dX1_throwCells_94 (by decide) ?_
            exact ih4 bv (kv + 1) r10 (by omega) (by first | assumption | omega) (by first | assumption | omega) (by first | assumption | omega) (by intro q hq; rw [f3_r10 q (by omega), f3_r3 q (by omega)]; exact hfr q hq) (by exact bendS_old hbe (by omega)) (by intro i h0 h1; rcases (show i < kv ∨ i = kv by omega) with z | z; (have hz := hinv i h0 z; rw [f3_r10 12 (by decide), f2_r3 i (by omega), f2_r10 i (by omega), f3_r3 13 (by decide)]; exact hz); (rw [z, f3_r10 12 (by decide), f1_r3]; exact ⟨by exact thrS_far hlast (by omega) hbe (by omega) (by omega), by rw [f1_r10]; assumption⟩)) _ _ hP hD hS ls (lv_sub hl [1, 2, 0] rfl)
          · skip
            refine lv_iload_n hx hb dX1_throwCells_49 rfl (lv_at hl 2 rfl) ?_
            refine lv_iload_n hx hb dX1_throwCells_50 rfl (lv_at hl 1 rfl) ?_
            refine mf_isub hx hb dX1_throwCells_51 ?_
            refine mf_iconst hx hb dX1_throwCells_52 ?_
            refine mf_icmp_gt (tgt := 70) hx hb dX1_throwCells_53 (by decide) (i32_mk (by omega) (by omega)) (i32_mk (by decide) (by decide)) (fun c11 => ?_) (fun c11 => ?_)
            · skip
              refine lv_aload_n hx hb dX1_throwCells_70 rfl (lv_at hl 0 rfl) ?_
              refine va_get (D := G.1) (ci := 1) (v := .ref (ad 13)) (C := RX1) (T := TX1) (N := 14) hx hb hts hinX1 hown hK hP 0 rfl rfl 13 (by decide) (hts (.fieldLink RX1 43 "MeanderFarm$River" "bank" "[I") (List.mem_of_getElem? (i := 4) rfl)) (fun _ h9 => h9) rfl dX1_throwCells_71 ?_
              refine lv_iload_n hx hb dX1_throwCells_74 rfl (lv_at hl 2 rfl) ?_
              refine lv_aload_n hx hb dX1_throwCells_75 rfl (lv_at hl 0 rfl) ?_
              refine va_get (D := G.1) (ci := 1) (v := .ref (ad 6)) (C := RX1) (T := TX1) (N := 14) hx hb hts hinX1 hown hK hP 0 rfl rfl 6 (by decide) (hts (.fieldLink RX1 31 "MeanderFarm$River" "course" "[I") (List.mem_of_getElem? (i := 5) rfl)) (fun _ h9 => h9) rfl dX1_throwCells_76 ?_
              refine lv_iload_n hx hb dX1_throwCells_79 rfl (lv_at hl 2 rfl) ?_
              refine mf_iald (n := 150) (f := r3 6) hx hb hK hP 7 0 rfl rfl (z := kv) (by omega) (by omega) (by decide) dX1_throwCells_80 ?_
              refine mf_top (r3 6 kv) (r 6 kv) (by rw [f3_r3 6 (by decide), hfr 6 (by decide)]) ?_
              have b12 : (0 : Int) ≤ r 6 kv ∧ r 6 kv ≤ 383 := ok 6 (kv)
              refine lv_aload_n hx hb dX1_throwCells_81 rfl (lv_at hl 0 rfl) ?_
              refine va_get (D := G.1) (ci := 1) (v := .ref (ad 12)) (C := RX1) (T := TX1) (N := 14) hx hb hts hinX1 hown hK hP 0 rfl rfl 12 (by decide) (hts (.fieldLink RX1 40 "MeanderFarm$River" "thrown" "[I") (List.mem_of_getElem? (i := 2) rfl)) (fun _ h9 => h9) rfl dX1_throwCells_82 ?_
              refine lv_iload_n hx hb dX1_throwCells_85 rfl (lv_at hl 2 rfl) ?_
              refine mf_iald (n := 150) (f := r3 12) hx hb hK hP 10 0 rfl rfl (z := kv) (by omega) (by omega) (by decide) dX1_throwCells_86 ?_
              refine mf_top (r3 12 kv) ((-1)) (by rw [f1_r3]) ?_
              refine vp_callSi (va_Run.run (va_runSN (As := [.int (iI (r 6 kv)), .int (iI ((-1)))]) (rest := [.int (iI (kv)), .ref (ad 13)]) ⟨hx, hb, hml, hown, hts⟩ (c_X2_neighbour l (r 6 kv) ((-1)) (i32_mk (by omega) (by omega)) (i32_mk (by decide) (by decide))) ⟨(va_cnB 2 hts gX1_throwCells_X2_neighbour_n89 rfl rfl rfl (hN.m 29 rfl) (hts (.initialized RX2) (List.mem_of_getElem? (i := 7) rfl)) (by decide +kernel) ⟨Nat.le_of_ble_eq_true rfl, Nat.le_of_ble_eq_true rfl⟩), (hts (.static yX2_neighbour) (List.mem_of_getElem? (i := 6) rfl)), trivial⟩ pureS rfl rfl hl.1 rfl (lv_room (Nat.le_of_ble_eq_true rfl)) dX1_throwCells_87 ⟨(Nat.zero_le _), (Nat.zero_le _)⟩)) (fun q13 hq13 => ?_)
              subst hq13
              refine mf_nm (fun y14 ey14 => ?_)
              have b15 : -1 ≤ y14 ∧ y14 ≤ 383 := by rw [ey14]; exact nbr_b (r 6 kv) (-1)
              refine mf_iast (n := 150) (f := r3 13) hx hb hK hP hD hS 11 0 rfl rfl (z := kv) (x := y14) (by omega) (by omega) (by decide) dX1_throwCells_90 (fun H locs hP hD hS => ?_)
              obtain ⟨r16, er16⟩ : ∃ q : mf_V, q = mf_sF r3 13 (mf_up (r3 13) (kv) (y14)) := ⟨_, rfl⟩
              have hP : va_P G.1 vwCl (RW G h ad r16) H := by rw [er16]; exact hP
              have hD : va_D A (RW G h ad r16) := by rw [er16]; exact hD
              have okr16 : rOK rlo rhi r16 := by rw [er16]; exact rOK_up okr3 13 _ _ (show (-1 : Int) ≤ y14 by omega) (show y14 ≤ (383 : Int) by omega)
              have f1_r16 : r16 13 (kv) = y14 := by rw [er16, mf_sF_s, mf_up_s]
              have f2_r16 : ∀ y, y ≠ (kv) → r16 13 y = r3 13 y := fun y hy => by rw [er16, mf_sF_s, mf_up_n hy]
              have f3_r16 : ∀ q, q ≠ 13 → r16 q = r3 q := fun q hq => by rw [er16, mf_sF_n hq]
              refine lv_iinc (v := iI (kv + 1)) (lv' := [(2, .int (iI (kv + 1))), (0, .ref h), (1, .int (iI (bv)))]) hx hb dX1_throwCells_91 hl (k := 2) rfl (iI_add _ _).symm (by decide) rfl (fun ls hl => ?_)
              refine lv_goto (tgt := 4) hx hb dX1_throwCells_94 (by decide) ?_
              exact ih4 bv (kv + 1) r16 (by omega) (by first | assumption | omega) (by first | assumption | omega) (by first | assumption | omega) (by intro q hq; rw [f3_r16 q (by omega), f3_r3 q (by omega)]; exact hfr q hq) (by exact bendS_old hbe (by omega)) (by intro i h0 h1; rcases (show i < kv ∨ i = kv by omega) with z | z; (have hz := hinv i h0 z; rw [f3_r16 12 (by decide), f2_r3 i (by omega), f2_r16 i (by omega), f3_r3 13 (by decide)]; exact hz); (rw [z, f3_r16 12 (by decide), f1_r3]; exact ⟨by exact thrS_far hlast (by omega) hbe (by omega) (by omega), by rw [f1_r16]; assumption⟩)) _ _ hP hD hS ls (lv_sub hl [1, 2, 0] rfl)
            · skip
              refine lv_aload_n hx hb dX1_throwCells_56 rfl (lv_at hl 0 rfl) ?_
              refine va_get (D := G.1) (ci := 1) (v := .ref (ad 12)) (C := RX1) (T := TX1) (N := 14) hx hb hts hinX1 hown hK hP 0 rfl rfl 12 (by decide) (hts (.fieldLink RX1 40 "MeanderFarm$River" "thrown" "[I") (List.mem_of_getElem? (i := 2) rfl)) (fun _ h9 => h9) rfl dX1_throwCells_57 ?_
              refine lv_iload_n hx hb dX1_throwCells_60 rfl (lv_at hl 2 rfl) ?_
              refine lv_aload_n hx hb dX1_throwCells_61 rfl (lv_at hl 0 rfl) ?_
              refine va_get (D := G.1) (ci := 1) (v := .ref (ad 11)) (C := RX1) (T := TX1) (N := 14) hx hb hts hinX1 hown hK hP 0 rfl rfl 11 (by decide) (hts (.fieldLink RX1 37 "MeanderFarm$River" "direction" "[I") (List.mem_of_getElem? (i := 3) rfl)) (fun _ h9 => h9) rfl dX1_throwCells_62 ?_
              refine lv_iload_n hx hb dX1_throwCells_65 rfl (lv_at hl 1 rfl) ?_
              refine mf_iconst hx hb dX1_throwCells_66 ?_
              refine mf_isub hx hb dX1_throwCells_67 ?_
              refine mf_iald (n := 150) (f := r3 11) hx hb hK hP 9 0 rfl rfl (z := bv - 1) (by omega) (by omega) (by decide) dX1_throwCells_68 ?_
              refine mf_top (r3 11 (bv - 1)) (r 11 (bv - 1)) (by rw [f3_r3 11 (by decide), hfr 11 (by decide)]) ?_
              have b17 : (-1 : Int) ≤ r 11 (bv - 1) ∧ r 11 (bv - 1) ≤ 3 := ok 11 (bv - 1)
              refine mf_iast (n := 150) (f := r3 12) hx hb hK hP hD hS 10 0 rfl rfl (z := kv) (x := r 11 (bv - 1)) (by omega) (by omega) (by decide) dX1_throwCells_69 (fun H locs hP hD hS => ?_)
              obtain ⟨r18, er18⟩ : ∃ q : mf_V, q = mf_sF r3 12 (mf_up (r3 12) (kv) (r 11 (bv - 1))) := ⟨_, rfl⟩
              have hP : va_P G.1 vwCl (RW G h ad r18) H := by rw [er18]; exact hP
              have hD : va_D A (RW G h ad r18) := by rw [er18]; exact hD
              have okr18 : rOK rlo rhi r18 := by rw [er18]; exact rOK_up okr3 12 _ _ (show (-1 : Int) ≤ r 11 (bv - 1) by omega) (show r 11 (bv - 1) ≤ (3 : Int) by omega)
              have f1_r18 : r18 12 (kv) = r 11 (bv - 1) := by rw [er18, mf_sF_s, mf_up_s]
              have f2_r18 : ∀ y, y ≠ (kv) → r18 12 y = r3 12 y := fun y hy => by rw [er18, mf_sF_s, mf_up_n hy]
              have f3_r18 : ∀ q, q ≠ 12 → r18 q = r3 q := fun q hq => by rw [er18, mf_sF_n hq]
              refine lv_aload_n hx hb dX1_throwCells_70 rfl (lv_at hl 0 rfl) ?_
              refine va_get (D := G.1) (ci := 1) (v := .ref (ad 13)) (C := RX1) (T := TX1) (N := 14) hx hb hts hinX1 hown hK hP 0 rfl rfl 13 (by decide) (hts (.fieldLink RX1 43 "MeanderFarm$River" "bank" "[I") (List.mem_of_getElem? (i := 4) rfl)) (fun _ h9 => h9) rfl dX1_throwCells_71 ?_
              refine lv_iload_n hx hb dX1_throwCells_74 rfl (lv_at hl 2 rfl) ?_
              refine lv_aload_n hx hb dX1_throwCells_75 rfl (lv_at hl 0 rfl) ?_
              refine va_get (D := G.1) (ci := 1) (v := .ref (ad 6)) (C := RX1) (T := TX1) (N := 14) hx hb hts hinX1 hown hK hP 0 rfl rfl 6 (by decide) (hts (.fieldLink RX1 31 "MeanderFarm$River" "course" "[I") (List.mem_of_getElem? (i := 5) rfl)) (fun _ h9 => h9) rfl dX1_throwCells_76 ?_
              refine lv_iload_n hx hb dX1_throwCells_79 rfl (lv_at hl 2 rfl) ?_
              refine mf_iald (n := 150) (f := r18 6) hx hb hK hP 7 0 rfl rfl (z := kv) (by omega) (by omega) (by decide) dX1_throwCells_80 ?_
              refine mf_top (r18 6 kv) (r 6 kv) (by rw [f3_r18 6 (by decide), f3_r3 6 (by decide), hfr 6 (by decide)]) ?_
              have b19 : (0 : Int) ≤ r 6 kv ∧ r 6 kv ≤ 383 := ok 6 (kv)
              refine lv_aload_n hx hb dX1_throwCells_81 rfl (lv_at hl 0 rfl) ?_
              refine va_get (D := G.1) (ci := 1) (v := .ref (ad 12)) (C := RX1) (T := TX1) (N := 14) hx hb hts hinX1 hown hK hP 0 rfl rfl 12 (by decide) (hts (.fieldLink RX1 40 "MeanderFarm$River" "thrown" "[I") (List.mem_of_getElem? (i := 2) rfl)) (fun _ h9 => h9) rfl dX1_throwCells_82 ?_
              refine lv_iload_n hx hb dX1_throwCells_85 rfl (lv_at hl 2 rfl) ?_
              refine mf_iald (n := 150) (f := r18 12) hx hb hK hP 10 0 rfl rfl (z := kv) (by omega) (by omega) (by decide) dX1_throwCells_86 ?_
              refine mf_top (r18 12 kv) (r 11 (bv - 1)) (by rw [f1_r18]) ?_
              refine vp_callSi (va_Run.run (va_runSN (As := [.int (iI (r 6 kv)), .int (iI (r 11 (bv - 1)))]) (rest := [.int (iI (kv)), .ref (ad 13)]) ⟨hx, hb, hml, hown, hts⟩ (c_X2_neighbour l (r 6 kv) (r 11 (bv - 1)) (i32_mk (by omega) (by omega)) (i32_mk (by omega) (by omega))) ⟨(va_cnB 2 hts gX1_throwCells_X2_neighbour_n89 rfl rfl rfl (hN.m 29 rfl) (hts (.initialized RX2) (List.mem_of_getElem? (i := 7) rfl)) (by decide +kernel) ⟨Nat.le_of_ble_eq_true rfl, Nat.le_of_ble_eq_true rfl⟩), (hts (.static yX2_neighbour) (List.mem_of_getElem? (i := 6) rfl)), trivial⟩ pureS rfl rfl hl.1 rfl (lv_room (Nat.le_of_ble_eq_true rfl)) dX1_throwCells_87 ⟨(Nat.zero_le _), (Nat.zero_le _)⟩)) (fun q20 hq20 => ?_)
              subst hq20
              refine mf_nm (fun y21 ey21 => ?_)
              have b22 : -1 ≤ y21 ∧ y21 ≤ 383 := by rw [ey21]; exact nbr_b (r 6 kv) (r 11 (bv - 1))
              refine mf_iast (n := 150) (f := r18 13) hx hb hK hP hD hS 11 0 rfl rfl (z := kv) (x := y21) (by omega) (by omega) (by decide) dX1_throwCells_90 (fun H locs hP hD hS => ?_)
              obtain ⟨r23, er23⟩ : ∃ q : mf_V, q = mf_sF r18 13 (mf_up (r18 13) (kv) (y21)) := ⟨_, rfl⟩
              have hP : va_P G.1 vwCl (RW G h ad r23) H := by rw [er23]; exact hP
              have hD : va_D A (RW G h ad r23) := by rw [er23]; exact hD
              have okr23 : rOK rlo rhi r23 := by rw [er23]; exact rOK_up okr18 13 _ _ (show (-1 : Int) ≤ y21 by omega) (show y21 ≤ (383 : Int) by omega)
              have f1_r23 : r23 13 (kv) = y21 := by rw [er23, mf_sF_s, mf_up_s]
              have f2_r23 : ∀ y, y ≠ (kv) → r23 13 y = r18 13 y := fun y hy => by rw [er23, mf_sF_s, mf_up_n hy]
              have f3_r23 : ∀ q, q ≠ 13 → r23 q = r18 q := fun q hq => by rw [er23, mf_sF_n hq]
              refine lv_iinc (v := iI (kv + 1)) (lv' := [(2, .int (iI (kv + 1))), (0, .ref h), (1, .int (iI (bv)))]) hx hb dX1_throwCells_91 hl (k := 2) rfl (iI_add _ _).symm (by decide) rfl (fun ls hl => ?_)
              refine lv_goto (tgt := 4) hx hb dX1_throwCells_94 (by decide) ?_
              exact ih4 bv (kv + 1) r23 (by omega) (by first | assumption | omega) (by first | assumption | omega) (by first | assumption | omega) (by intro q hq; rw [f3_r23 q (by omega), f3_r18 q (by omega), f3_r3 q (by omega)]; exact hfr q hq) (by exact bendS_old hbe (by omega)) (by intro i h0 h1; rcases (show i < kv ∨ i = kv by omega) with z | z; (have hz := hinv i h0 z; rw [f3_r23 12 (by decide), f2_r18 i (by omega), f2_r3 i (by omega), f2_r23 i (by omega), f3_r18 13 (by decide), f3_r3 13 (by decide)]; exact hz); (rw [z, f3_r23 12 (by decide), f1_r18]; exact ⟨by exact thrS_near hlast (by omega) hbe (by omega) (by omega) (by omega), by rw [f1_r23]; assumption⟩)) _ _ hP hD hS ls (lv_sub hl [1, 2, 0] rfl)
        · skip
          refine lv_aload_n hx hb dX1_throwCells_23 rfl (lv_at hl 0 rfl) ?_
          refine va_get (D := G.1) (ci := 1) (v := .ref (ad 11)) (C := RX1) (T := TX1) (N := 14) hx hb hts hinX1 hown hK hP 0 rfl rfl 11 (by decide) (hts (.fieldLink RX1 37 "MeanderFarm$River" "direction" "[I") (List.mem_of_getElem? (i := 3) rfl)) (fun _ h9 => h9) rfl dX1_throwCells_24 ?_
          refine lv_iload_n hx hb dX1_throwCells_27 rfl (lv_at hl 2 rfl) ?_
          refine mf_iald (n := 150) (f := r3 11) hx hb hK hP 9 0 rfl rfl (z := kv) (by omega) (by omega) (by decide) dX1_throwCells_28 ?_
          refine mf_top (r3 11 kv) (r 11 kv) (by rw [f3_r3 11 (by decide), hfr 11 (by decide)]) ?_
          have b24 : (-1 : Int) ≤ r 11 kv ∧ r 11 kv ≤ 3 := ok 11 (kv)
          refine lv_aload_n hx hb dX1_throwCells_29 rfl (lv_at hl 0 rfl) ?_
          refine va_get (D := G.1) (ci := 1) (v := .ref (ad 11)) (C := RX1) (T := TX1) (N := 14) hx hb hts hinX1 hown hK hP 0 rfl rfl 11 (by decide) (hts (.fieldLink RX1 37 "MeanderFarm$River" "direction" "[I") (List.mem_of_getElem? (i := 3) rfl)) (fun _ h9 => h9) rfl dX1_throwCells_30 ?_
          refine lv_iload_n hx hb dX1_throwCells_33 rfl (lv_at hl 2 rfl) ?_
          refine mf_iconst hx hb dX1_throwCells_34 ?_
          refine mf_isub hx hb dX1_throwCells_35 ?_
          refine mf_iald (n := 150) (f := r3 11) hx hb hK hP 9 0 rfl rfl (z := kv - 1) (by omega) (by omega) (by decide) dX1_throwCells_36 ?_
          refine mf_top (r3 11 (kv - 1)) (r 11 (kv - 1)) (by rw [f3_r3 11 (by decide), hfr 11 (by decide)]) ?_
          have b25 : (-1 : Int) ≤ r 11 (kv - 1) ∧ r 11 (kv - 1) ≤ 3 := ok 11 (kv - 1)
          refine mf_icmp_eq (tgt := 45) hx hb dX1_throwCells_37 (by decide) (i32_mk (by omega) (by omega)) (i32_mk (by omega) (by omega)) (fun c26 => ?_) (fun c26 => ?_)
          · skip
            refine lv_iload_n hx hb dX1_throwCells_45 rfl (lv_at hl 1 rfl) ?_
            refine mf_if_le (tgt := 70) hx hb dX1_throwCells_46 (by decide) (i32_mk (by omega) (by omega)) (fun c27 => ?_) (fun c27 => ?_)
            · skip
              refine lv_aload_n hx hb dX1_throwCells_70 rfl (lv_at hl 0 rfl) ?_
              refine va_get (D := G.1) (ci := 1) (v := .ref (ad 13)) (C := RX1) (T := TX1) (N := 14) hx hb hts hinX1 hown hK hP 0 rfl rfl 13 (by decide) (hts (.fieldLink RX1 43 "MeanderFarm$River" "bank" "[I") (List.mem_of_getElem? (i := 4) rfl)) (fun _ h9 => h9) rfl dX1_throwCells_71 ?_
              refine lv_iload_n hx hb dX1_throwCells_74 rfl (lv_at hl 2 rfl) ?_
              refine lv_aload_n hx hb dX1_throwCells_75 rfl (lv_at hl 0 rfl) ?_
              refine va_get (D := G.1) (ci := 1) (v := .ref (ad 6)) (C := RX1) (T := TX1) (N := 14) hx hb hts hinX1 hown hK hP 0 rfl rfl 6 (by decide) (hts (.fieldLink RX1 31 "MeanderFarm$River" "course" "[I") (List.mem_of_getElem? (i := 5) rfl)) (fun _ h9 => h9) rfl dX1_throwCells_76 ?_
              refine lv_iload_n hx hb dX1_throwCells_79 rfl (lv_at hl 2 rfl) ?_
              refine mf_iald (n := 150) (f := r3 6) hx hb hK hP 7 0 rfl rfl (z := kv) (by omega) (by omega) (by decide) dX1_throwCells_80 ?_
              refine mf_top (r3 6 kv) (r 6 kv) (by rw [f3_r3 6 (by decide), hfr 6 (by decide)]) ?_
              have b28 : (0 : Int) ≤ r 6 kv ∧ r 6 kv ≤ 383 := ok 6 (kv)
              refine lv_aload_n hx hb dX1_throwCells_81 rfl (lv_at hl 0 rfl) ?_
              refine va_get (D := G.1) (ci := 1) (v := .ref (ad 12)) (C := RX1) (T := TX1) (N := 14) hx hb hts hinX1 hown hK hP 0 rfl rfl 12 (by decide) (hts (.fieldLink RX1 40 "MeanderFarm$River" "thrown" "[I") (List.mem_of_getElem? (i := 2) rfl)) (fun _ h9 => h9) rfl dX1_throwCells_82 ?_
              refine lv_iload_n hx hb dX1_throwCells_85 rfl (lv_at hl 2 rfl) ?_
              refine mf_iald (n := 150) (f := r3 12) hx hb hK hP 10 0 rfl rfl (z := kv) (by omega) (by omega) (by decide) dX1_throwCells_86 ?_
              refine mf_top (r3 12 kv) ((-1)) (by rw [f1_r3]) ?_
              refine vp_callSi (va_Run.run (va_runSN (As := [.int (iI (r 6 kv)), .int (iI ((-1)))]) (rest := [.int (iI (kv)), .ref (ad 13)]) ⟨hx, hb, hml, hown, hts⟩ (c_X2_neighbour l (r 6 kv) ((-1)) (i32_mk (by omega) (by omega)) (i32_mk (by decide) (by decide))) ⟨(va_cnB 2 hts gX1_throwCells_X2_neighbour_n89 rfl rfl rfl (hN.m 29 rfl) (hts (.initialized RX2) (List.mem_of_getElem? (i := 7) rfl)) (by decide +kernel) ⟨Nat.le_of_ble_eq_true rfl, Nat.le_of_ble_eq_true rfl⟩), (hts (.static yX2_neighbour) (List.mem_of_getElem? (i := 6) rfl)), trivial⟩ pureS rfl rfl hl.1 rfl (lv_room (Nat.le_of_ble_eq_true rfl)) dX1_throwCells_87 ⟨(Nat.zero_le _), (Nat.zero_le _)⟩)) (fun q29 hq29 => ?_)
              subst hq29
              refine mf_nm (fun y30 ey30 => ?_)
              have b31 : -1 ≤ y30 ∧ y30 ≤ 383 := by rw [ey30]; exact nbr_b (r 6 kv) (-1)
              refine mf_iast (n := 150) (f := r3 13) hx hb hK hP hD hS 11 0 rfl rfl (z := kv) (x := y30) (by omega) (by omega) (by decide) dX1_throwCells_90 (fun H locs hP hD hS => ?_)
              obtain ⟨r32, er32⟩ : ∃ q : mf_V, q = mf_sF r3 13 (mf_up (r3 13) (kv) (y30)) := ⟨_, rfl⟩
              have hP : va_P G.1 vwCl (RW G h ad r32) H := by rw [er32]; exact hP
              have hD : va_D A (RW G h ad r32) := by rw [er32]; exact hD
              have okr32 : rOK rlo rhi r32 := by rw [er32]; exact rOK_up okr3 13 _ _ (show (-1 : Int) ≤ y30 by omega) (show y30 ≤ (383 : Int) by omega)
              have f1_r32 : r32 13 (kv) = y30 := by rw [er32, mf_sF_s, mf_up_s]
              have f2_r32 : ∀ y, y ≠ (kv) → r32 13 y = r3 13 y := fun y hy => by rw [er32, mf_sF_s, mf_up_n hy]
              have f3_r32 : ∀ q, q ≠ 13 → r32 q = r3 q := fun q hq => by rw [er32, mf_sF_n hq]
              refine lv_iinc (v := iI (kv + 1)) (lv' := [(2, .int (iI (kv + 1))), (0, .ref h), (1, .int (iI (bv)))]) hx hb dX1_throwCells_91 hl (k := 2) rfl (iI_add _ _).symm (by decide) rfl (fun ls hl => ?_)
              refine lv_goto (tgt := 4) hx hb dX1_throwCells_94 (by decide) ?_
              exact ih4 bv (kv + 1) r32 (by omega) (by first | assumption | omega) (by first | assumption | omega) (by first | assumption | omega) (by intro q hq; rw [f3_r32 q (by omega), f3_r3 q (by omega)]; exact hfr q hq) (by exact bendS_old hbe (by omega)) (by intro i h0 h1; rcases (show i < kv ∨ i = kv by omega) with z | z; (have hz := hinv i h0 z; rw [f3_r32 12 (by decide), f2_r3 i (by omega), f2_r32 i (by omega), f3_r3 13 (by decide)]; exact hz); (rw [z, f3_r32 12 (by decide), f1_r3]; exact ⟨by exact thrS_far hlast (by omega) hbe (by omega) (by omega), by rw [f1_r32]; assumption⟩)) _ _ hP hD hS ls (lv_sub hl [1, 2, 0] rfl)
            · skip
              refine lv_iload_n hx hb dX1_throwCells_49 rfl (lv_at hl 2 rfl) ?_
              refine lv_iload_n hx hb dX1_throwCells_50 rfl (lv_at hl 1 rfl) ?_
              refine mf_isub hx hb dX1_throwCells_51 ?_
              refine mf_iconst hx hb dX1_throwCells_52 ?_
              refine mf_icmp_gt (tgt := 70) hx hb dX1_throwCells_53 (by decide) (i32_mk (by omega) (by omega)) (i32_mk (by decide) (by decide)) (fun c33 => ?_) (fun c33 => ?_)
              · skip
                refine lv_aload_n hx hb dX1_throwCells_70 rfl (lv_at hl 0 rfl) ?_
                refine va_get (D := G.1) (ci := 1) (v := .ref (ad 13)) (C := RX1) (T := TX1) (N := 14) hx hb hts hinX1 hown hK hP 0 rfl rfl 13 (by decide) (hts (.fieldLink RX1 43 "MeanderFarm$River" "bank" "[I") (List.mem_of_getElem? (i := 4) rfl)) (fun _ h9 => h9) rfl dX1_throwCells_71 ?_
                refine lv_iload_n hx hb dX1_throwCells_74 rfl (lv_at hl 2 rfl) ?_
                refine lv_aload_n hx hb dX1_throwCells_75 rfl (lv_at hl 0 rfl) ?_
                refine va_get (D := G.1) (ci := 1) (v := .ref (ad 6)) (C := RX1) (T := TX1) (N := 14) hx hb hts hinX1 hown hK hP 0 rfl rfl 6 (by decide) (hts (.fieldLink RX1 31 "MeanderFarm$River" "course" "[I") (List.mem_of_getElem? (i := 5) rfl)) (fun _ h9 => h9) rfl dX1_throwCells_76 ?_
                refine lv_iload_n hx hb dX1_throwCells_79 rfl (lv_at hl 2 rfl) ?_
                refine mf_iald (n := 150) (f := r3 6) hx hb hK hP 7 0 rfl rfl (z := kv) (by omega) (by omega) (by decide) dX1_throwCells_80 ?_
                refine mf_top (r3 6 kv) (r 6 kv) (by rw [f3_r3 6 (by decide), hfr 6 (by decide)]) ?_
                have b34 : (0 : Int) ≤ r 6 kv ∧ r 6 kv ≤ 383 := ok 6 (kv)
                refine lv_aload_n hx hb dX1_throwCells_81 rfl (lv_at hl 0 rfl) ?_
                refine va_get (D := G.1) (ci := 1) (v := .ref (ad 12)) (C := RX1) (T := TX1) (N := 14) hx hb hts hinX1 hown hK hP 0 rfl rfl 12 (by decide) (hts (.fieldLink RX1 40 "MeanderFarm$River" "thrown" "[I") (List.mem_of_getElem? (i := 2) rfl)) (fun _ h9 => h9) rfl dX1_throwCells_82 ?_
                refine lv_iload_n hx hb dX1_throwCells_85 rfl (lv_at hl 2 rfl) ?_
                refine mf_iald (n := 150) (f := r3 12) hx hb hK hP 10 0 rfl rfl (z := kv) (by omega) (by omega) (by decide) dX1_throwCells_86 ?_
                refine mf_top (r3 12 kv) ((-1)) (by rw [f1_r3]) ?_
                refine vp_callSi (va_Run.run (va_runSN (As := [.int (iI (r 6 kv)), .int (iI ((-1)))]) (rest := [.int (iI (kv)), .ref (ad 13)]) ⟨hx, hb, hml, hown, hts⟩ (c_X2_neighbour l (r 6 kv) ((-1)) (i32_mk (by omega) (by omega)) (i32_mk (by decide) (by decide))) ⟨(va_cnB 2 hts gX1_throwCells_X2_neighbour_n89 rfl rfl rfl (hN.m 29 rfl) (hts (.initialized RX2) (List.mem_of_getElem? (i := 7) rfl)) (by decide +kernel) ⟨Nat.le_of_ble_eq_true rfl, Nat.le_of_ble_eq_true rfl⟩), (hts (.static yX2_neighbour) (List.mem_of_getElem? (i := 6) rfl)), trivial⟩ pureS rfl rfl hl.1 rfl (lv_room (Nat.le_of_ble_eq_true rfl)) dX1_throwCells_87 ⟨(Nat.zero_le _), (Nat.zero_le _)⟩)) (fun q35 hq35 => ?_)
                subst hq35
                refine mf_nm (fun y36 ey36 => ?_)
                have b37 : -1 ≤ y36 ∧ y36 ≤ 383 := by rw [ey36]; exact nbr_b (r 6 kv) (-1)
                refine mf_iast (n := 150) (f := r3 13) hx hb hK hP hD hS 11 0 rfl rfl (z := kv) (x := y36) (by omega) (by omega) (by decide) dX1_throwCells_90 (fun H locs hP hD hS => ?_)
                obtain ⟨r38, er38⟩ : ∃ q : mf_V, q = mf_sF r3 13 (mf_up (r3 13) (kv) (y36)) := ⟨_, rfl⟩
                have hP : va_P G.1 vwCl (RW G h ad r38) H := by rw [er38]; exact hP
                have hD : va_D A (RW G h ad r38) := by rw [er38]; exact hD
                have okr38 : rOK rlo rhi r38 := by rw [er38]; exact rOK_up okr3 13 _ _ (show (-1 : Int) ≤ y36 by omega) (show y36 ≤ (383 : Int) by omega)
                have f1_r38 : r38 13 (kv) = y36 := by rw [er38, mf_sF_s, mf_up_s]
                have f2_r38 : ∀ y, y ≠ (kv) → r38 13 y = r3 13 y := fun y hy => by rw [er38, mf_sF_s, mf_up_n hy]
                have f3_r38 : ∀ q, q ≠ 13 → r38 q = r3 q := fun q hq => by rw [er38, mf_sF_n hq]
                refine lv_iinc (v := iI (kv + 1)) (lv' := [(2, .int (iI (kv + 1))), (0, .ref h), (1, .int (iI (bv)))]) hx hb dX1_throwCells_91 hl (k := 2) rfl (iI_add _ _).symm (by decide) rfl (fun ls hl => ?_)
                refine lv_goto (tgt := 4) hx hb dX1_throwCells_94 (by decide) ?_
                exact ih4 bv (kv + 1) r38 (by omega) (by first | assumption | omega) (by first | assumption | omega) (by first | assumption | omega) (by intro q hq; rw [f3_r38 q (by omega), f3_r3 q (by omega)]; exact hfr q hq) (by exact bendS_old hbe (by omega)) (by intro i h0 h1; rcases (show i < kv ∨ i = kv by omega) with z | z; (have hz := hinv i h0 z; rw [f3_r38 12 (by decide), f2_r3 i (by omega), f2_r38 i (by omega), f3_r3 13 (by decide)]; exact hz); (rw [z, f3_r38 12 (by decide), f1_r3]; exact ⟨by exact thrS_far hlast (by omega) hbe (by omega) (by omega), by rw [f1_r38]; assumption⟩)) _ _ hP hD hS ls (lv_sub hl [1, 2, 0] rfl)
              · skip
                refine lv_aload_n hx hb dX1_throwCells_56 rfl (lv_at hl 0 rfl) ?_
                refine va_get (D := G.1) (ci := 1) (v := .ref (ad 12)) (C := RX1) (T := TX1) (N := 14) hx hb hts hinX1 hown hK hP 0 rfl rfl 12 (by decide) (hts (.fieldLink RX1 40 "MeanderFarm$River" "thrown" "[I") (List.mem_of_getElem? (i := 2) rfl)) (fun _ h9 => h9) rfl dX1_throwCells_57 ?_
                refine lv_iload_n hx hb dX1_throwCells_60 rfl (lv_at hl 2 rfl) ?_
                refine lv_aload_n hx hb dX1_throwCells_61 rfl (lv_at hl 0 rfl) ?_
                refine va_get (D := G.1) (ci := 1) (v := .ref (ad 11)) (C := RX1) (T := TX1) (N := 14) hx hb hts hinX1 hown hK hP 0 rfl rfl 11 (by decide) (hts (.fieldLink RX1 37 "MeanderFarm$River" "direction" "[I") (List.mem_of_getElem? (i := 3) rfl)) (fun _ h9 => h9) rfl dX1_throwCells_62 ?_
                refine lv_iload_n hx hb dX1_throwCells_65 rfl (lv_at hl 1 rfl) ?_
                refine mf_iconst hx hb dX1_throwCells_66 ?_
                refine mf_isub hx hb dX1_throwCells_67 ?_
                refine mf_iald (n := 150) (f := r3 11) hx hb hK hP 9 0 rfl rfl (z := bv - 1) (by omega) (by omega) (by decide) dX1_throwCells_68 ?_
                refine mf_top (r3 11 (bv - 1)) (r 11 (bv - 1)) (by rw [f3_r3 11 (by decide), hfr 11 (by decide)]) ?_
                have b39 : (-1 : Int) ≤ r 11 (bv - 1) ∧ r 11 (bv - 1) ≤ 3 := ok 11 (bv - 1)
                refine mf_iast (n := 150) (f := r3 12) hx hb hK hP hD hS 10 0 rfl rfl (z := kv) (x := r 11 (bv - 1)) (by omega) (by omega) (by decide) dX1_throwCells_69 (fun H locs hP hD hS => ?_)
                obtain ⟨r40, er40⟩ : ∃ q : mf_V, q = mf_sF r3 12 (mf_up (r3 12) (kv) (r 11 (bv - 1))) := ⟨_, rfl⟩
                have hP : va_P G.1 vwCl (RW G h ad r40) H := by rw [er40]; exact hP
                have hD : va_D A (RW G h ad r40) := by rw [er40]; exact hD
                have okr40 : rOK rlo rhi r40 := by rw [er40]; exact rOK_up okr3 12 _ _ (show (-1 : Int) ≤ r 11 (bv - 1) by omega) (show r 11 (bv - 1) ≤ (3 : Int) by omega)
                have f1_r40 : r40 12 (kv) = r 11 (bv - 1) := by rw [er40, mf_sF_s, mf_up_s]
                have f2_r40 : ∀ y, y ≠ (kv) → r40 12 y = r3 12 y := fun y hy => by rw [er40, mf_sF_s, mf_up_n hy]
                have f3_r40 : ∀ q, q ≠ 12 → r40 q = r3 q := fun q hq => by rw [er40, mf_sF_n hq]
                refine lv_aload_n hx hb dX1_throwCells_70 rfl (lv_at hl 0 rfl) ?_
                refine va_get (D := G.1) (ci := 1) (v := .ref (ad 13)) (C := RX1) (T := TX1) (N := 14) hx hb hts hinX1 hown hK hP 0 rfl rfl 13 (by decide) (hts (.fieldLink RX1 43 "MeanderFarm$River" "bank" "[I") (List.mem_of_getElem? (i := 4) rfl)) (fun _ h9 => h9) rfl dX1_throwCells_71 ?_
                refine lv_iload_n hx hb dX1_throwCells_74 rfl (lv_at hl 2 rfl) ?_
                refine lv_aload_n hx hb dX1_throwCells_75 rfl (lv_at hl 0 rfl) ?_
                refine va_get (D := G.1) (ci := 1) (v := .ref (ad 6)) (C := RX1) (T := TX1) (N := 14) hx hb hts hinX1 hown hK hP 0 rfl rfl 6 (by decide) (hts (.fieldLink RX1 31 "MeanderFarm$River" "course" "[I") (List.mem_of_getElem? (i := 5) rfl)) (fun _ h9 => h9) rfl dX1_throwCells_76 ?_
                refine lv_iload_n hx hb dX1_throwCells_79 rfl (lv_at hl 2 rfl) ?_
                refine mf_iald (n := 150) (f := r40 6) hx hb hK hP 7 0 rfl rfl (z := kv) (by omega) (by omega) (by decide) dX1_throwCells_80 ?_
                refine mf_top (r40 6 kv) (r 6 kv) (by rw [f3_r40 6 (by decide), f3_r3 6 (by decide), hfr 6 (by decide)]) ?_
                have b41 : (0 : Int) ≤ r 6 kv ∧ r 6 kv ≤ 383 := ok 6 (kv)
                refine lv_aload_n hx hb dX1_throwCells_81 rfl (lv_at hl 0 rfl) ?_
                refine va_get (D := G.1) (ci := 1) (v := .ref (ad 12)) (C := RX1) (T := TX1) (N := 14) hx hb hts hinX1 hown hK hP 0 rfl rfl 12 (by decide) (hts (.fieldLink RX1 40 "MeanderFarm$River" "thrown" "[I") (List.mem_of_getElem? (i := 2) rfl)) (fun _ h9 => h9) rfl dX1_throwCells_82 ?_
                refine lv_iload_n hx hb dX1_throwCells_85 rfl (lv_at hl 2 rfl) ?_
                refine mf_iald (n := 150) (f := r40 12) hx hb hK hP 10 0 rfl rfl (z := kv) (by omega) (by omega) (by decide) dX1_throwCells_86 ?_
                refine mf_top (r40 12 kv) (r 11 (bv - 1)) (by rw [f1_r40]) ?_
                refine vp_callSi (va_Run.run (va_runSN (As := [.int (iI (r 6 kv)), .int (iI (r 11 (bv - 1)))]) (rest := [.int (iI (kv)), .ref (ad 13)]) ⟨hx, hb, hml, hown, hts⟩ (c_X2_neighbour l (r 6 kv) (r 11 (bv - 1)) (i32_mk (by omega) (by omega)) (i32_mk (by omega) (by omega))) ⟨(va_cnB 2 hts gX1_throwCells_X2_neighbour_n89 rfl rfl rfl (hN.m 29 rfl) (hts (.initialized RX2) (List.mem_of_getElem? (i := 7) rfl)) (by decide +kernel) ⟨Nat.le_of_ble_eq_true rfl, Nat.le_of_ble_eq_true rfl⟩), (hts (.static yX2_neighbour) (List.mem_of_getElem? (i := 6) rfl)), trivial⟩ pureS rfl rfl hl.1 rfl (lv_room (Nat.le_of_ble_eq_true rfl)) dX1_throwCells_87 ⟨(Nat.zero_le _), (Nat.zero_le _)⟩)) (fun q42 hq42 => ?_)
                subst hq42
                refine mf_nm (fun y43 ey43 => ?_)
                have b44 : -1 ≤ y43 ∧ y43 ≤ 383 := by rw [ey43]; exact nbr_b (r 6 kv) (r 11 (bv - 1))
                refine mf_iast (n := 150) (f := r40 13) hx hb hK hP hD hS 11 0 rfl rfl (z := kv) (x := y43) (by omega) (by omega) (by decide) dX1_throwCells_90 (fun H locs hP hD hS => ?_)
                obtain ⟨r45, er45⟩ : ∃ q : mf_V, q = mf_sF r40 13 (mf_up (r40 13) (kv) (y43)) := ⟨_, rfl⟩
                have hP : va_P G.1 vwCl (RW G h ad r45) H := by rw [er45]; exact hP
                have hD : va_D A (RW G h ad r45) := by rw [er45]; exact hD
                have okr45 : rOK rlo rhi r45 := by rw [er45]; exact rOK_up okr40 13 _ _ (show (-1 : Int) ≤ y43 by omega) (show y43 ≤ (383 : Int) by omega)
                have f1_r45 : r45 13 (kv) = y43 := by rw [er45, mf_sF_s, mf_up_s]
                have f2_r45 : ∀ y, y ≠ (kv) → r45 13 y = r40 13 y := fun y hy => by rw [er45, mf_sF_s, mf_up_n hy]
                have f3_r45 : ∀ q, q ≠ 13 → r45 q = r40 q := fun q hq => by rw [er45, mf_sF_n hq]
                refine lv_iinc (v := iI (kv + 1)) (lv' := [(2, .int (iI (kv + 1))), (0, .ref h), (1, .int (iI (bv)))]) hx hb dX1_throwCells_91 hl (k := 2) rfl (iI_add _ _).symm (by decide) rfl (fun ls hl => ?_)
                refine lv_goto (tgt := 4) hx hb dX1_throwCells_94 (by decide) ?_
                exact ih4 bv (kv + 1) r45 (by omega) (by first | assumption | omega) (by first | assumption | omega) (by first | assumption | omega) (by intro q hq; rw [f3_r45 q (by omega), f3_r40 q (by omega), f3_r3 q (by omega)]; exact hfr q hq) (by exact bendS_old hbe (by omega)) (by intro i h0 h1; rcases (show i < kv ∨ i = kv by omega) with z | z; (have hz := hinv i h0 z; rw [f3_r45 12 (by decide), f2_r40 i (by omega), f2_r3 i (by omega), f2_r45 i (by omega), f3_r40 13 (by decide), f3_r3 13 (by decide)]; exact hz); (rw [z, f3_r45 12 (by decide), f1_r40]; exact ⟨by exact thrS_near hlast (by omega) hbe (by omega) (by omega) (by omega), by rw [f1_r45]; assumption⟩)) _ _ hP hD hS ls (lv_sub hl [1, 2, 0] rfl)
          · skip
            refine lv_iload_n hx hb dX1_throwCells_40 rfl (lv_at hl 2 rfl) ?_
            refine lv_istore_n (lv' := [(1, .int (iI (kv))), (0, .ref h), (2, .int (iI (kv)))]) hx hb dX1_throwCells_41 rfl hl (by decide) rfl (fun ls hl => ?_)
            refine lv_goto (tgt := 70) hx hb dX1_throwCells_42 (by decide) ?_
            refine lv_aload_n hx hb dX1_throwCells_70 rfl (lv_at hl 1 rfl) ?_
            refine va_get (D := G.1) (ci := 1) (v := .ref (ad 13)) (C := RX1) (T := TX1) (N := 14) hx hb hts hinX1 hown hK hP 0 rfl rfl 13 (by decide) (hts (.fieldLink RX1 43 "MeanderFarm$River" "bank" "[I") (List.mem_of_getElem? (i := 4) rfl)) (fun _ h9 => h9) rfl dX1_throwCells_71 ?_
            refine lv_iload_n hx hb dX1_throwCells_74 rfl (lv_at hl 2 rfl) ?_
            refine lv_aload_n hx hb dX1_throwCells_75 rfl (lv_at hl 1 rfl) ?_
            refine va_get (D := G.1) (ci := 1) (v := .ref (ad 6)) (C := RX1) (T := TX1) (N := 14) hx hb hts hinX1 hown hK hP 0 rfl rfl 6 (by decide) (hts (.fieldLink RX1 31 "MeanderFarm$River" "course" "[I") (List.mem_of_getElem? (i := 5) rfl)) (fun _ h9 => h9) rfl dX1_throwCells_76 ?_
            refine lv_iload_n hx hb dX1_throwCells_79 rfl (lv_at hl 2 rfl) ?_
            refine mf_iald (n := 150) (f := r3 6) hx hb hK hP 7 0 rfl rfl (z := kv) (by omega) (by omega) (by decide) dX1_throwCells_80 ?_
            refine mf_top (r3 6 kv) (r 6 kv) (by rw [f3_r3 6 (by decide), hfr 6 (by decide)]) ?_
            have b46 : (0 : Int) ≤ r 6 kv ∧ r 6 kv ≤ 383 := ok 6 (kv)
            refine lv_aload_n hx hb dX1_throwCells_81 rfl (lv_at hl 1 rfl) ?_
            refine va_get (D := G.1) (ci := 1) (v := .ref (ad 12)) (C := RX1) (T := TX1) (N := 14) hx hb hts hinX1 hown hK hP 0 rfl rfl 12 (by decide) (hts (.fieldLink RX1 40 "MeanderFarm$River" "thrown" "[I") (List.mem_of_getElem? (i := 2) rfl)) (fun _ h9 => h9) rfl dX1_throwCells_82 ?_
            refine lv_iload_n hx hb dX1_throwCells_85 rfl (lv_at hl 2 rfl) ?_
            refine mf_iald (n := 150) (f := r3 12) hx hb hK hP 10 0 rfl rfl (z := kv) (by omega) (by omega) (by decide) dX1_throwCells_86 ?_
            refine mf_top (r3 12 kv) ((-1)) (by rw [f1_r3]) ?_
            refine vp_callSi (va_Run.run (va_runSN (As := [.int (iI (r 6 kv)), .int (iI ((-1)))]) (rest := [.int (iI (kv)), .ref (ad 13)]) ⟨hx, hb, hml, hown, hts⟩ (c_X2_neighbour l (r 6 kv) ((-1)) (i32_mk (by omega) (by omega)) (i32_mk (by decide) (by decide))) ⟨(va_cnB 2 hts gX1_throwCells_X2_neighbour_n89 rfl rfl rfl (hN.m 29 rfl) (hts (.initialized RX2) (List.mem_of_getElem? (i := 7) rfl)) (by decide +kernel) ⟨Nat.le_of_ble_eq_true rfl, Nat.le_of_ble_eq_true rfl⟩), (hts (.static yX2_neighbour) (List.mem_of_getElem? (i := 6) rfl)), trivial⟩ pureS rfl rfl hl.1 rfl (lv_room (Nat.le_of_ble_eq_true rfl)) dX1_throwCells_87 ⟨(Nat.zero_le _), (Nat.zero_le _)⟩)) (fun q47 hq47 => ?_)
            subst hq47
            refine mf_nm (fun y48 ey48 => ?_)
            have b49 : -1 ≤ y48 ∧ y48 ≤ 383 := by rw [ey48]; exact nbr_b (r 6 kv) (-1)
            refine mf_iast (n := 150) (f := r3 13) hx hb hK hP hD hS 11 0 rfl rfl (z := kv) (x := y48) (by omega) (by omega) (by decide) dX1_throwCells_90 (fun H locs hP hD hS => ?_)
            obtain ⟨r50, er50⟩ : ∃ q : mf_V, q = mf_sF r3 13 (mf_up (r3 13) (kv) (y48)) := ⟨_, rfl⟩
            have hP : va_P G.1 vwCl (RW G h ad r50) H := by rw [er50]; exact hP
            have hD : va_D A (RW G h ad r50) := by rw [er50]; exact hD
            have okr50 : rOK rlo rhi r50 := by rw [er50]; exact rOK_up okr3 13 _ _ (show (-1 : Int) ≤ y48 by omega) (show y48 ≤ (383 : Int) by omega)
            have f1_r50 : r50 13 (kv) = y48 := by rw [er50, mf_sF_s, mf_up_s]
            have f2_r50 : ∀ y, y ≠ (kv) → r50 13 y = r3 13 y := fun y hy => by rw [er50, mf_sF_s, mf_up_n hy]
            have f3_r50 : ∀ q, q ≠ 13 → r50 q = r3 q := fun q hq => by rw [er50, mf_sF_n hq]
            refine lv_iinc (v := iI (kv + 1)) (lv' := [(2, .int (iI (kv + 1))), (1, .int (iI (kv))), (0, .ref h)]) hx hb dX1_throwCells_91 hl (k := 2) rfl (iI_add _ _).symm (by decide) rfl (fun ls hl => ?_)
            refine lv_goto (tgt := 4) hx hb dX1_throwCells_94 (by decide) ?_
            exact ih4 kv (kv + 1) r50 (by omega) (by first | assumption | omega) (by first | assumption | omega) (by first | assumption | omega) (by intro q hq; rw [f3_r50 q (by omega), f3_r3 q (by omega)]; exact hfr q hq) (by exact bendS_new (by omega) (by assumption)) (by intro i h0 h1; rcases (show i < kv ∨ i = kv by omega) with z | z; (have hz := hinv i h0 z; rw [f3_r50 12 (by decide), f2_r3 i (by omega), f2_r50 i (by omega), f3_r3 13 (by decide)]; exact hz); (rw [z, f3_r50 12 (by decide), f1_r3]; exact ⟨by exact thrS_bend (by omega) (by assumption), by rw [f1_r50]; assumption⟩)) _ _ hP hD hS ls (lv_sub hl [2, 1, 0] rfl)
  exact lp4 (_ + 1) (-1) 0 r (Nat.lt_succ_self _) (by first | assumption | omega) (by first | assumption | omega) (by first | assumption | omega) (by intro q _; rfl) (by exact Or.inl ⟨rfl, fun q h1 h2 => by omega⟩) (by intro i h0 h1; omega) _ _ hP hD hS ls (lv_sub hl [2, 1, 0] rfl)
end
section
/-! 14.follow: the course, and what follows from it -/
theorem inC_mk {r : mf_V} {i : Int} (h0 : 0 ≤ i) (h1 : i < r 7 0) : inC r i := ⟨h0, h1⟩
theorem cellAtF_in {r : mf_V} {i : Int} (h0 : 0 ≤ i) (h1 : i < r 7 0) : cellAtF r i = r 6 i := mf_if_t (inC_mk h0 h1)
theorem cellAtF_out {r : mf_V} {i : Int} (h : i < 0 ∨ r 7 0 ≤ i) : cellAtF r i = -1 := mf_if_f (fun z => by have h1 := z.1; have h2 := z.2; omega)
/-- each cell of the course is beside the next one; none is in it twice -/
def crsOK (r : mf_V) : Prop := 2 ≤ r 7 0 ∧ (∀ i, 0 ≤ i → i < r 7 0 - 1 → ¬ dirTo (r 6 i) (r 6 (i + 1)) = -1) ∧ ∀ i j, 0 ≤ i → i < r 7 0 → 0 ≤ j → j < r 7 0 → r 6 i = r 6 j → i = j
def dOK (r : mf_V) : Prop := ∀ i, 0 ≤ i → i < r 7 0 → r 11 i = dirTo (r 6 i) (cellAtF r (i + 1))
def plOK (r : mf_V) : Prop := (∀ i, 0 ≤ i → i < r 7 0 → r 10 (r 6 i) = i) ∧ ∀ c, 0 ≤ c → c < 384 → r 10 c = -1 ∨ (0 ≤ r 10 c ∧ r 10 c < r 7 0 ∧ r 6 (r 10 c) = c)
def tOK (r : mf_V) : Prop := ∀ i, 0 ≤ i → i < r 7 0 → thrS (r 11) (r 7 0) i (r 12 i) ∧ r 13 i = nbr (r 6 i) (r 12 i)
def RInv (r : mf_V) : Prop := crsOK r ∧ dOK r ∧ plOK r ∧ tOK r
theorem dLast {r : mf_V} (hc : crsOK r) {d : Int → Int} (hd : ∀ i, 0 ≤ i → i < r 7 0 → d i = dirTo (r 6 i) (cellAtF r (i + 1))) : d (r 7 0 - 1) = -1 ∧ ∀ i, 0 ≤ i → i < r 7 0 - 1 → ¬ d i = -1 := by
  have h2 := hc.1
  refine ⟨?_, fun i h0 h1 => ?_⟩
  · rw [hd (r 7 0 - 1) (by omega) (by omega), cellAtF_out (by omega), dirTo_m1]
  · rw [hd i h0 (by omega), cellAtF_in (by omega) (by omega)]
    exact hc.2.1 i h0 h1
theorem followEnd {r r1 r2 r3 : mf_V} (hc : crsOK r) (hfr : ∀ q, q ≠ 10 → r1 q = r q) (hpl : ∀ i, 0 ≤ i → i < r 7 0 → r1 10 (r 6 i) = i) (hpn : ∀ c, (∀ i, 0 ≤ i → i < r 7 0 → ¬ r 6 i = c) → r1 10 c = r 10 c) (hp1 : ∀ c, 0 ≤ c → c < 384 → r 10 c = -1 ∨ ∃ k, 0 ≤ k ∧ k < r 7 0 ∧ r 6 k = c) (hfr2 : ∀ q, q ≠ 11 → r2 q = r1 q) (hdl : ∀ i, 0 ≤ i → i < r 7 0 → r2 11 i = dirTo (r 6 i) (cellAtF r (i + 1))) (h3 : ∀ q, q < 12 → r3 q = r2 q) (ht : ∀ i, 0 ≤ i → i < r2 7 0 → thrS (r2 11) (r2 7 0) i (r3 12 i) ∧ r3 13 i = nbr (r2 6 i) (r3 12 i)) : (∀ q, q < 10 → r3 q = r q) ∧ RInv r3 := by
  have fr : ∀ q, q < 10 → r3 q = r q := fun q hq => by rw [h3 q (by omega), hfr2 q (by omega), hfr q (by omega)]
  have e6 : r3 6 = r 6 := fr 6 (by decide)
  have e7 : r3 7 = r 7 := fr 7 (by decide)
  have e10 : r3 10 = r1 10 := by rw [h3 10 (by decide), hfr2 10 (by decide)]
  have e11 : r3 11 = r2 11 := h3 11 (by decide)
  have k6 : r2 6 = r 6 := by rw [hfr2 6 (by decide), hfr 6 (by decide)]
  have k7 : r2 7 = r 7 := by rw [hfr2 7 (by decide), hfr 7 (by decide)]
  refine ⟨fr, ?_, ?_, ⟨?_, ?_⟩, ?_⟩
  · unfold crsOK
    rw [e6, e7]; exact hc
  · intro i h0 h1
    rw [e7] at h1
    rw [e11, cellAtF_cg e6 e7, e6]
    exact hdl i h0 h1
  · intro i h0 h1
    rw [e7] at h1
    rw [e10, e6]
    exact hpl i h0 h1
  · intro cv h0 h1
    rw [e10, e6, e7]
    by_cases q : ∃ k, 0 ≤ k ∧ k < r 7 0 ∧ r 6 k = cv
    · obtain ⟨k, k0, k1, k2⟩ := q
      have g := hpl k k0 k1
      rw [k2] at g
      rw [g]
      exact Or.inr ⟨k0, k1, k2⟩
    · have g := hpn cv (fun i a b z => q ⟨i, a, b, z⟩)
      rw [g]
      rcases hp1 cv h0 h1 with z | z
      · exact Or.inl z
      · exact absurd z q
  · intro i h0 h1
    rw [e7] at h1
    have g := ht i h0 (by rw [k7]; exact h1)
    rw [k6, k7] at g
    rw [e11, e6, e7]
    exact g
set_option maxHeartbeats 4000000 in
set_option maxRecDepth 100000 in
theorem c_X1_followCourse (l : Launch) (G : mf_G) (h : Nat) (ad : Nat → Nat) (r : mf_V)  (fv : Int) (hfv : i32 fv) (ok : rOK rlo rhi r) (hc : crsOK r) (hfv : 0 ≤ fv ∧ fv ≤ r 7 0) (hp0 : ∀ i, 0 ≤ i → i < fv → r 10 (r 6 i) = i) (hp1 : ∀ c, 0 ≤ c → c < 384 → r 10 c = -1 ∨ ∃ k, 0 ≤ k ∧ k < r 7 0 ∧ r 6 k = c) (hd0 : ∀ i, 0 ≤ i → i < fv - 1 → r 11 i = dirTo (r 6 i) (r 6 (i + 1))) (sz : Nat) : Met l yX1_followCourse wsX1_followCourse ({ frames := 2, cells := 0, slots := 0, locals := 45 }) (va_Pc [.ref h, .int (iI (fv))] (WrP G (RW G h ad r) sz)) (va_Qv (fun (r' : mf_V) => rOK rlo rhi r' ∧ (∀ q, q < 10 → r' q = r q) ∧ RInv r') (fun (r' : mf_V) t => WrQ G (va_A (RW G h ad r) sz) (RW G h ad r') t) (va_A (RW G h ad r) sz)) 0 0 (va_A (RW G h ad r) sz) := by
  refine Met.ofW (cc := cX1_followCourse) (maxL := 4) (ret := none) (by decide) rfl ?_
  intro p e s m args below meth c s₁ B hml hv
  obtain ⟨rfl, hsz, hP, hK, hD0, hN⟩ := hv
  have hx := B.exec
  have hb := B.bytes
  have hr := B.returns
  have hts := atoms_spec (ws := wsX1_followCourse) B.pre
  have hown : s.vm.findClass RX1 = some m.cls := findClass_of_methodNamed B.named
  have hlocks := B.notSynchronized
  have hinX1 : ∀ w ∈ u_ws RX1 TX1 14, w ∈ wsX1_followCourse := fun w h => List.mem_cons_of_mem _ (List.mem_append_right _ h)
  subst hsz
  have hD := hD0.self (sz := s.heap.size)
  generalize hAe : va_A (RW G h ad r) s.heap.size = A at hD ⊢
  have hA : ∀ q : Nat, s.heap.size ≤ q → A q := fun q h => by rw [← hAe]; exact Or.inr h
  have hS : va_S A s.heap s.heap [] := va_S.rf
  have hl := lv_entry ([.ref h, .int (iI (fv))]) (n := 4) (Nat.le_of_ble_eq_true rfl)
  rw [lg_entry_eq]
  generalize (lg_sl ([.ref h, .int (iI (fv))]) ++ List.replicate (4 - (lg_sl ([.ref h, .int (iI (fv))])).length) Slot.unset).toArray = ls at hl ⊢
  have hl : lv_has ls 4 [(0, .ref h), (1, .int (iI (fv)))] := hl
  have hfv1 := hfv.1
  have hfv2 := hfv.2
  have okLr : (0 : Int) ≤ r 7 0 ∧ r 7 0 ≤ 150 := ok 7 0
  refine mf_iconst hx hb dX1_followCourse_0 ?_
  refine lv_iload_n hx hb dX1_followCourse_1 rfl (lv_at hl 1 rfl) ?_
  refine mf_mmax hx hb (hml.trans hl.1.symm) hown (hts (.methodLink RX1 73 Lib.Math.max.name) (List.mem_of_getElem? (i := 1) rfl)) (hts (.static Lib.Math.max.name) (List.mem_of_getElem? (i := 2) rfl)) (hts (.initialized "java/lang/Math") (List.mem_of_getElem? (i := 3) rfl)) (hts (.code Lib.Math.max.name Lib.Math.max.code 2 (some .int)) (List.mem_of_getElem? (i := 4) rfl)) (by decide) (Nat.le_of_ble_eq_true rfl) (Nat.zero_le _) (Nat.zero_le _) (i32_mk (by decide) (by decide)) (i32_mk (by omega) (by omega)) dX1_followCourse_2 ?_
  refine mf_nm (fun y1 ey1 => ?_)
  refine lv_istore_n (lv' := [(2, .int (iI (y1))), (0, .ref h), (1, .int (iI (fv)))]) hx hb dX1_followCourse_5 rfl hl (by decide) rfl (fun ls hl => ?_)
  have lp6 : ∀ (n : Nat) (kv : Int) (r1 : mf_V), (r 7 0 - kv).toNat < n → (fv ≤ kv ∧ kv ≤ r 7 0) → (rOK rlo rhi r1) → (∀ q, q ≠ 10 → r1 q = r q) → (∀ i, 0 ≤ i → i < kv → r1 10 (r 6 i) = i) → (∀ c, (∀ i, 0 ≤ i → i < kv → ¬ r 6 i = c) → r1 10 c = r 10 c) → ∀ (H : Heap) (locs : List Loc), va_P G.1 vwCl (RW G h ad r1) H → va_D A (RW G h ad r1) → va_S A s.heap H locs → ∀ (ls : Array Slot), lv_has ls 4 [(0, .ref h), (1, .int (iI (fv))), (2, .int (iI (kv)))] → W p l e (headSpec wsX1_followCourse ({ frames := 2, cells := 0, slots := 0, locals := 45 })).room s m ([.ref h, .int (iI (fv))] : List Value).toArray below meth c H locs 0 0 (MQ below (va_Qv (fun (r' : mf_V) => rOK rlo rhi r' ∧ (∀ q, q < 10 → r' q = r q) ∧ RInv r') (fun (r' : mf_V) t => WrQ G A (RW G h ad r') t) A) ([.ref h, .int (iI (fv))] : List Value).toArray s 0 0 A) (F0 m 6 ls []) := by
    intro n
    induction n with
    | zero => intro kv r1 hn; exact absurd hn (Nat.not_lt_zero _)
    | succ n ih6 =>
      intro kv r1 hn hk okr1 hfr hpl hpn H locs hP hD hS ls hl
      refine lv_iload_n hx hb dX1_followCourse_6 rfl (lv_at hl 2 rfl) ?_
      refine lv_aload_n hx hb dX1_followCourse_7 rfl (lv_at hl 0 rfl) ?_
      refine va_get (D := G.1) (ci := 1) (v := .int (iI (r1 7 0))) (C := RX1) (T := TX1) (N := 14) hx hb hts hinX1 hown hK hP 0 rfl rfl 7 (by decide) (hts (.fieldLink RX1 46 "MeanderFarm$River" "length" "I") (List.mem_of_getElem? (i := 5) rfl)) (fun _ h9 => h9) rfl dX1_followCourse_8 ?_
      refine mf_top (r1 7 0) (r 7 0) (by rw [hfr 7 (by decide)]) ?_
      have b2 : (0 : Int) ≤ r 7 0 ∧ r 7 0 ≤ 150 := ok 7 (0)
      refine mf_icmp_ge (tgt := 41) hx hb dX1_followCourse_11 (by decide) (i32_mk (by omega) (by omega)) (i32_mk (by omega) (by omega)) (fun c3 => ?_) (fun c3 => ?_)
      · skip
        refine mf_iconst hx hb dX1_followCourse_41 ?_
        refine lv_iload_n hx hb dX1_followCourse_42 rfl (lv_at hl 1 rfl) ?_
        refine mf_iconst hx hb dX1_followCourse_43 ?_
        refine mf_isub hx hb dX1_followCourse_44 ?_
        refine mf_mmax hx hb (hml.trans hl.1.symm) hown (hts (.methodLink RX1 73 Lib.Math.max.name) (List.mem_of_getElem? (i := 1) rfl)) (hts (.static Lib.Math.max.name) (List.mem_of_getElem? (i := 2) rfl)) (hts (.initialized "java/lang/Math") (List.mem_of_getElem? (i := 3) rfl)) (hts (.code Lib.Math.max.name Lib.Math.max.code 2 (some .int)) (List.mem_of_getElem? (i := 4) rfl)) (by decide) (Nat.le_of_ble_eq_true rfl) (Nat.zero_le _) (Nat.zero_le _) (i32_mk (by decide) (by decide)) (i32_mk (by omega) (by omega)) dX1_followCourse_45 ?_
        refine mf_nm (fun y4 ey4 => ?_)
        refine lv_istore_n (lv' := [(2, .int (iI (y4))), (0, .ref h), (1, .int (iI (fv)))]) hx hb dX1_followCourse_48 rfl hl (by decide) rfl (fun ls hl => ?_)
        have lp49 : ∀ (n : Nat) (k2 : Int) (r2 : mf_V), (r 7 0 - k2).toNat < n → (0 ≤ k2 ∧ k2 ≤ r 7 0) → (rOK rlo rhi r2) → (∀ q, q ≠ 11 → r2 q = r1 q) → (∀ i, 0 ≤ i → i < k2 → r2 11 i = dirTo (r 6 i) (cellAtF r (i + 1))) → ∀ (H : Heap) (locs : List Loc), va_P G.1 vwCl (RW G h ad r2) H → va_D A (RW G h ad r2) → va_S A s.heap H locs → ∀ (ls : Array Slot), lv_has ls 4 [(0, .ref h), (1, .int (iI (fv))), (2, .int (iI (k2)))] → W p l e (headSpec wsX1_followCourse ({ frames := 2, cells := 0, slots := 0, locals := 45 })).room s m ([.ref h, .int (iI (fv))] : List Value).toArray below meth c H locs 0 0 (MQ below (va_Qv (fun (r' : mf_V) => rOK rlo rhi r' ∧ (∀ q, q < 10 → r' q = r q) ∧ RInv r') (fun (r' : mf_V) t => WrQ G A (RW G h ad r') t) A) ([.ref h, .int (iI (fv))] : List Value).toArray s 0 0 A) (F0 m 49 ls []) := by
          intro n
          induction n with
          | zero => intro k2 r2 hn; exact absurd hn (Nat.not_lt_zero _)
          | succ n ih49 =>
            intro k2 r2 hn hk2 okr2 hfr2 hdl H locs hP hD hS ls hl
            refine lv_iload_n hx hb dX1_followCourse_49 rfl (lv_at hl 2 rfl) ?_
            refine lv_aload_n hx hb dX1_followCourse_50 rfl (lv_at hl 0 rfl) ?_
            refine va_get (D := G.1) (ci := 1) (v := .int (iI (r2 7 0))) (C := RX1) (T := TX1) (N := 14) hx hb hts hinX1 hown hK hP 0 rfl rfl 7 (by decide) (hts (.fieldLink RX1 46 "MeanderFarm$River" "length" "I") (List.mem_of_getElem? (i := 5) rfl)) (fun _ h9 => h9) rfl dX1_followCourse_51 ?_
            refine mf_top (r2 7 0) (r 7 0) (by rw [hfr2 7 (by decide), hfr 7 (by decide)]) ?_
            have b5 : (0 : Int) ≤ r 7 0 ∧ r 7 0 ≤ 150 := ok 7 (0)
            refine mf_icmp_ge (tgt := 85) hx hb dX1_followCourse_54 (by decide) (i32_mk (by omega) (by omega)) (i32_mk (by omega) (by omega)) (fun c6 => ?_) (fun c6 => ?_)
            · skip
              have e7 : r2 7 0 = r 7 0 := by rw [hfr2 7 (by decide), hfr 7 (by decide)]
              have hk9 : k2 = r 7 0 := by omega
              have hkv9 : kv = r 7 0 := by omega
              subst hk9
              have hdL := dLast hc hdl
              have hc1 := hc.1
              have hdL2 := hdL.2 (r 7 0 - 2) (by omega) (by omega)
              refine lv_aload_n hx hb dX1_followCourse_85 rfl (lv_at hl 0 rfl) ?_
              have hFc := va_free (wc := RW G h ad r2) hD hS hA [0, 1, 2, 3, 4, 5, 6, 7, 8, 9, 10, 11] rfl
              refine va_callv (va_runV (As := []) (rest := []) ⟨hx, hb, hml, hown, hts⟩ (c_X1_throwCells l G h ad r2 (by assumption) (by rw [e7]; exact hc1) (by rw [e7, hdL.1]; exact fun z => hdL2 z.symm) _) (cwV 0 hts gX1_followCourse_X1_throwCells rfl rfl rfl (by decide +kernel) ⟨Nat.le_of_ble_eq_true rfl, Nat.le_of_ble_eq_true rfl⟩) (wrV (wc := RW G h ad r2) hK hP hD hN [0, 1, 2, 3, 4, 5, 6, 7, 8, 9, 10, 11] (by decide) rfl rfl (ci := 1) rfl rfl) rfl rfl hl.1 rfl (lv_room (Nat.le_of_ble_eq_true rfl)) dX1_followCourse_86 ⟨(Nat.zero_le _), (Nat.zero_le _)⟩) hS (fun q _ h => hFc q h) hFc (fun u8 t H1 locs ht hvm hw hB hz1 hk1 hS => ?_)
              obtain ⟨r9, rfl⟩ : ∃ z, z = u8 := ⟨_, rfl⟩
              try dsimp only at hw hB
              obtain ⟨hP, hD⟩ := wrJ (ws := RW G h ad r2) (w1 := RW G h ad r9) ht hFc hB
              have hP : va_P G.1 vwCl (RW G h ad r9) H1 := hP
              have hD : va_D A (RW G h ad r9) := hD
              clear hB hk1 hFc ht hz1 hvm
              generalize H1 = H at hP hS ⊢
              have w10 := hw; clear hw
              have okr9 : rOK rlo rhi r9 := w10.1
              exact W.vret hx hb hr (fun t ht hW => ⟨⟨r9, rfl, by exact ⟨okr9, followEnd hc hfr (by rw [hkv9] at hpl; exact hpl) (by rw [hkv9] at hpn; exact hpn) hp1 hfr2 hdl w10.2.1 w10.2.2⟩, by rw [ht]; exact hP, hD⟩, hS.F ht⟩) hS.2.2 dX1_followCourse_89
            · skip
              refine lv_aload_n hx hb dX1_followCourse_57 rfl (lv_at hl 0 rfl) ?_
              refine va_get (D := G.1) (ci := 1) (v := .ref (ad 11)) (C := RX1) (T := TX1) (N := 14) hx hb hts hinX1 hown hK hP 0 rfl rfl 11 (by decide) (hts (.fieldLink RX1 37 "MeanderFarm$River" "direction" "[I") (List.mem_of_getElem? (i := 8) rfl)) (fun _ h9 => h9) rfl dX1_followCourse_58 ?_
              refine lv_iload_n hx hb dX1_followCourse_61 rfl (lv_at hl 2 rfl) ?_
              refine lv_aload_n hx hb dX1_followCourse_62 rfl (lv_at hl 0 rfl) ?_
              refine va_get (D := G.1) (ci := 1) (v := .ref (ad 6)) (C := RX1) (T := TX1) (N := 14) hx hb hts hinX1 hown hK hP 0 rfl rfl 6 (by decide) (hts (.fieldLink RX1 31 "MeanderFarm$River" "course" "[I") (List.mem_of_getElem? (i := 6) rfl)) (fun _ h9 => h9) rfl dX1_followCourse_63 ?_
              refine lv_iload_n hx hb dX1_followCourse_66 rfl (lv_at hl 2 rfl) ?_
              refine mf_iald (n := 150) (f := r2 6) hx hb hK hP 7 0 rfl rfl (z := k2) (by omega) (by omega) (by decide) dX1_followCourse_67 ?_
              refine mf_top (r2 6 k2) (r 6 k2) (by rw [hfr2 6 (by decide), hfr 6 (by decide)]) ?_
              have b11 : (0 : Int) ≤ r 6 k2 ∧ r 6 k2 ≤ 383 := ok 6 (k2)
              refine lv_aload_n hx hb dX1_followCourse_68 rfl (lv_at hl 0 rfl) ?_
              refine lv_iload_n hx hb dX1_followCourse_69 rfl (lv_at hl 2 rfl) ?_
              refine mf_iconst hx hb dX1_followCourse_70 ?_
              refine mf_iadd hx hb dX1_followCourse_71 ?_
              refine vp_callSi (va_Run.run (va_runV (As := [.int (iI (k2 + 1))]) (rest := [.int (iI (r 6 k2)), .int (iI (k2)), .ref (ad 11)]) ⟨hx, hb, hml, hown, hts⟩ (c_X1_cellAt l G h ad r2 (k2 + 1) (i32_mk (by omega) (by omega)) (by assumption)) (cwV 1 hts gX1_followCourse_X1_cellAt rfl rfl rfl (by decide +kernel) ⟨Nat.le_of_ble_eq_true rfl, Nat.le_of_ble_eq_true rfl⟩) (rdV (wc := RW G h ad r2) hK hP hN [0, 1, 2, 3, 4, 5, 6, 7, 8, 9, 10, 11] rfl (ci := 1) rfl rfl) rfl rfl hl.1 rfl (lv_room (Nat.le_of_ble_eq_true rfl)) dX1_followCourse_72 ⟨(Nat.zero_le _), (Nat.zero_le _)⟩)) (fun q12 hq12 => ?_)
              subst hq12
              refine mf_nm (fun y13 ey13 => ?_)
              have b14 : -1 ≤ y13 ∧ y13 ≤ 383 := by rw [ey13]; exact cellAtF_b (by assumption) (k2 + 1)
              refine vp_callSi (va_Run.run (va_runSN (As := [.int (iI (r 6 k2)), .int (iI (y13))]) (rest := [.int (iI (k2)), .ref (ad 11)]) ⟨hx, hb, hml, hown, hts⟩ (c_X2_directionTo l (r 6 k2) (y13) (i32_mk (by omega) (by omega)) (i32_mk (by omega) (by omega))) ⟨(va_cnB 2 hts gX1_followCourse_X2_directionTo_n83 rfl rfl rfl (hN.m 28 rfl) (hts (.initialized RX2) (List.mem_of_getElem? (i := 10) rfl)) (by decide +kernel) ⟨Nat.le_of_ble_eq_true rfl, Nat.le_of_ble_eq_true rfl⟩), (hts (.static yX2_directionTo) (List.mem_of_getElem? (i := 21) rfl)), trivial⟩ pureS rfl rfl hl.1 rfl (lv_room (Nat.le_of_ble_eq_true rfl)) dX1_followCourse_75 ⟨(Nat.zero_le _), (Nat.zero_le _)⟩)) (fun q15 hq15 => ?_)
              subst hq15
              refine mf_nm (fun y16 ey16 => ?_)
              have b17 : -1 ≤ y16 ∧ y16 ≤ 3 := by rw [ey16]; exact dirTo_b (r 6 k2) y13
              refine mf_iast (n := 150) (f := r2 11) hx hb hK hP hD hS 9 0 rfl rfl (z := k2) (x := y16) (by omega) (by omega) (by decide) dX1_followCourse_78 (fun H locs hP hD hS => ?_)
              obtain ⟨r18, er18⟩ : ∃ q : mf_V, q = mf_sF r2 11 (mf_up (r2 11) (k2) (y16)) := ⟨_, rfl⟩
              have hP : va_P G.1 vwCl (RW G h ad r18) H := by rw [er18]; exact hP
              have hD : va_D A (RW G h ad r18) := by rw [er18]; exact hD
              have okr18 : rOK rlo rhi r18 := by rw [er18]; exact rOK_up okr2 11 _ _ (show (-1 : Int) ≤ y16 by omega) (show y16 ≤ (3 : Int) by omega)
              have f1_r18 : r18 11 (k2) = y16 := by rw [er18, mf_sF_s, mf_up_s]
              have f2_r18 : ∀ y, y ≠ (k2) → r18 11 y = r2 11 y := fun y hy => by rw [er18, mf_sF_s, mf_up_n hy]
              have f3_r18 : ∀ q, q ≠ 11 → r18 q = r2 q := fun q hq => by rw [er18, mf_sF_n hq]
              refine lv_iinc (v := iI (k2 + 1)) (lv' := [(2, .int (iI (k2 + 1))), (0, .ref h), (1, .int (iI (fv)))]) hx hb dX1_followCourse_79 hl (k := 2) rfl (iI_add _ _).symm (by decide) rfl (fun ls hl => ?_)
              refine lv_goto (tgt := 49) hx hb dX1_followCourse_82 (by decide) ?_
              exact ih49 (k2 + 1) r18 (by omega) (by first | assumption | omega) (by first | assumption | omega) (by intro q hq; rw [f3_r18 q hq]; exact hfr2 q hq) (by intro i h0 h1; rcases (show i < k2 ∨ i = k2 by omega) with z | z; (rw [f2_r18 _ (by omega)]; exact hdl i h0 z); (rw [z, f1_r18, ey16, ey13, cellAtF_cg ((hfr2 6 (by decide)).trans (hfr 6 (by decide))) ((hfr2 7 (by decide)).trans (hfr 7 (by decide)))])) _ _ hP hD hS ls (lv_sub hl [1, 2, 0] rfl)
        exact lp49 (_ + 1) y4 r1 (Nat.lt_succ_self _) (by first | assumption | omega) (by first | assumption | omega) (by intro q _; rfl) (by intro i h0 h1; rw [hfr 11 (by decide), cellAtF_in (by omega) (by omega)]; exact hd0 i h0 (by omega)) _ _ hP hD hS ls (lv_sub hl [1, 2, 0] rfl)
      · skip
        refine lv_aload_n hx hb dX1_followCourse_14 rfl (lv_at hl 0 rfl) ?_
        refine va_get (D := G.1) (ci := 1) (v := .ref (ad 6)) (C := RX1) (T := TX1) (N := 14) hx hb hts hinX1 hown hK hP 0 rfl rfl 6 (by decide) (hts (.fieldLink RX1 31 "MeanderFarm$River" "course" "[I") (List.mem_of_getElem? (i := 6) rfl)) (fun _ h9 => h9) rfl dX1_followCourse_15 ?_
        refine lv_iload_n hx hb dX1_followCourse_18 rfl (lv_at hl 2 rfl) ?_
        refine mf_iald (n := 150) (f := r1 6) hx hb hK hP 7 0 rfl rfl (z := kv) (by omega) (by omega) (by decide) dX1_followCourse_19 ?_
        refine mf_top (r1 6 kv) (r 6 kv) (by rw [hfr 6 (by decide)]) ?_
        have b19 : (0 : Int) ≤ r 6 kv ∧ r 6 kv ≤ 383 := ok 6 (kv)
        refine lv_istore_n (lv' := [(3, .int (iI (r 6 kv))), (0, .ref h), (1, .int (iI (fv))), (2, .int (iI (kv)))]) hx hb dX1_followCourse_20 rfl hl (by decide) rfl (fun ls hl => ?_)
        refine lv_iload_n hx hb dX1_followCourse_21 rfl (lv_at hl 0 rfl) ?_
        refine vp_callSi (va_Run.run (va_runSN (As := [.int (iI (r 6 kv))]) (rest := []) ⟨hx, hb, hml, hown, hts⟩ (c_X2_isCell l (r 6 kv) (i32_mk (by omega) (by omega))) ⟨(va_cnB 1 hts gX1_followCourse_X2_isCell_n70 rfl rfl rfl (hN.m 27 rfl) (hts (.initialized RX2) (List.mem_of_getElem? (i := 10) rfl)) (by decide +kernel) ⟨Nat.le_of_ble_eq_true rfl, Nat.le_of_ble_eq_true rfl⟩), (hts (.static yX2_isCell) (List.mem_of_getElem? (i := 9) rfl)), trivial⟩ pureS rfl rfl hl.1 rfl (lv_room (Nat.le_of_ble_eq_true rfl)) dX1_followCourse_22 ⟨(Nat.zero_le _), (Nat.zero_le _)⟩)) (fun q20 hq20 => ?_)
        subst hq20
        refine mf_bp_eq (tgt := 35) hx hb dX1_followCourse_25 (by decide) (fun c21 => ?_) (fun c21 => ?_)
        · skip
          exact absurd (And.intro (by omega) (by omega)) c21
        · skip
          refine lv_aload_n hx hb dX1_followCourse_28 rfl (lv_at hl 1 rfl) ?_
          refine va_get (D := G.1) (ci := 1) (v := .ref (ad 10)) (C := RX1) (T := TX1) (N := 14) hx hb hts hinX1 hown hK hP 0 rfl rfl 10 (by decide) (hts (.fieldLink RX1 34 "MeanderFarm$River" "place" "[I") (List.mem_of_getElem? (i := 7) rfl)) (fun _ h9 => h9) rfl dX1_followCourse_29 ?_
          refine lv_iload_n hx hb dX1_followCourse_32 rfl (lv_at hl 0 rfl) ?_
          refine lv_iload_n hx hb dX1_followCourse_33 rfl (lv_at hl 3 rfl) ?_
          refine mf_iast (n := 384) (f := r1 10) hx hb hK hP hD hS 8 0 rfl rfl (z := r 6 kv) (x := kv) (by omega) (by omega) (by decide) dX1_followCourse_34 (fun H locs hP hD hS => ?_)
          obtain ⟨r22, er22⟩ : ∃ q : mf_V, q = mf_sF r1 10 (mf_up (r1 10) (r 6 kv) (kv)) := ⟨_, rfl⟩
          have hP : va_P G.1 vwCl (RW G h ad r22) H := by rw [er22]; exact hP
          have hD : va_D A (RW G h ad r22) := by rw [er22]; exact hD
          have okr22 : rOK rlo rhi r22 := by rw [er22]; exact rOK_up okr1 10 _ _ (show (-1 : Int) ≤ kv by omega) (show kv ≤ (149 : Int) by omega)
          have f1_r22 : r22 10 (r 6 kv) = kv := by rw [er22, mf_sF_s, mf_up_s]
          have f2_r22 : ∀ y, y ≠ (r 6 kv) → r22 10 y = r1 10 y := fun y hy => by rw [er22, mf_sF_s, mf_up_n hy]
          have f3_r22 : ∀ q, q ≠ 10 → r22 q = r1 q := fun q hq => by rw [er22, mf_sF_n hq]
          refine lv_iinc (v := iI (kv + 1)) (lv' := [(2, .int (iI (kv + 1))), (3, .int (iI (r 6 kv))), (0, .ref h), (1, .int (iI (fv)))]) hx hb dX1_followCourse_35 hl (k := 3) rfl (iI_add _ _).symm (by decide) rfl (fun ls hl => ?_)
          refine lv_goto (tgt := 6) hx hb dX1_followCourse_38 (by decide) ?_
          exact ih6 (kv + 1) r22 (by omega) (by first | assumption | omega) (by first | assumption | omega) (by intro q hq; rw [f3_r22 q hq]; exact hfr q hq) (by intro i h0 h1; rcases (show i < kv ∨ i = kv by omega) with z | z; (rw [f2_r22 _ (fun y => absurd (hc.2.2 i kv (by omega) (by omega) (by omega) (by omega) y) (by omega))]; exact hpl i h0 z); (rw [z]; exact f1_r22)) (by intro cv hcv; rw [f2_r22 _ (fun y => hcv kv (by omega) (by omega) y.symm)]; exact hpn cv (fun i h0 h1 => hcv i h0 (by omega))) _ _ hP hD hS ls (lv_sub hl [2, 3, 0] rfl)
  exact lp6 (_ + 1) y1 r (Nat.lt_succ_self _) (by first | assumption | omega) (by first | assumption | omega) (by intro q _; rfl) (by intro i h0 h1; exact hp0 i h0 (by omega)) (by intro cv _; rfl) _ _ hP hD hS ls (lv_sub hl [1, 2, 0] rfl)
end
section
/-! 15.bulge: cells beside each other; a bulge -/
theorem nbr0 {x : Int} (h0 : 0 ≤ x) (h1 : x < 384) : (24 ≤ x ∧ nbr x 0 = x - 24) ∨ (x < 24 ∧ nbr x 0 = -1) := by
  unfold nbr; rw [if_neg (by omega), if_neg (by omega), if_pos rfl]; split <;> omega
theorem nbr1 {x : Int} (h0 : 0 ≤ x) (h1 : x < 384) : (x % 24 < 23 ∧ nbr x 1 = x + 1) ∨ (x % 24 = 23 ∧ nbr x 1 = -1) := by
  unfold nbr; rw [if_neg (by omega), if_neg (by omega), if_neg (by decide), if_pos rfl]; split <;> omega
theorem nbr2 {x : Int} (h0 : 0 ≤ x) (h1 : x < 384) : (x < 360 ∧ nbr x 2 = x + 24) ∨ (360 ≤ x ∧ nbr x 2 = -1) := by
  unfold nbr; rw [if_neg (by omega), if_neg (by omega), if_neg (by decide), if_neg (by decide), if_pos rfl]; split <;> omega
theorem nbr3 {x : Int} (h0 : 0 ≤ x) (h1 : x < 384) : (0 < x % 24 ∧ nbr x 3 = x - 1) ∨ (x % 24 = 0 ∧ nbr x 3 = -1) := by
  unfold nbr; rw [if_neg (by omega), if_neg (by omega), if_neg (by decide), if_neg (by decide), if_neg (by decide), if_pos rfl]; split <;> omega
theorem nbr_m1 (d : Int) : nbr (-1) d = -1 := by unfold nbr; rw [if_pos (by decide)]
theorem nbr_in {x d : Int} (h : ¬ nbr x d = -1) : 0 ≤ x ∧ x < 384 ∧ 0 ≤ d ∧ d < 4 := by
  refine Classical.byContradiction fun q => h ?_
  unfold nbr
  repeat' split
  all_goals omega
theorem d4 {d : Int} (h0 : 0 ≤ d) (h1 : d < 4) : d = 0 ∨ d = 1 ∨ d = 2 ∨ d = 3 := by omega
theorem dirTo_nbr {x y : Int} (h : ¬ dirTo x y = -1) : 0 ≤ dirTo x y ∧ dirTo x y < 4 ∧ nbr x (dirTo x y) = y ∧ ¬ y = -1 := by
  by_cases q0 : nbr x 0 ≠ -1 ∧ nbr x 0 = y
  · have e : dirTo x y = 0 := by unfold dirTo; rw [if_pos q0]
    rw [e]; exact ⟨by decide, by decide, q0.2, by rw [← q0.2]; exact q0.1⟩
  by_cases q1 : nbr x 1 ≠ -1 ∧ nbr x 1 = y
  · have e : dirTo x y = 1 := by unfold dirTo; rw [if_neg q0, if_pos q1]
    rw [e]; exact ⟨by decide, by decide, q1.2, by rw [← q1.2]; exact q1.1⟩
  by_cases q2 : nbr x 2 ≠ -1 ∧ nbr x 2 = y
  · have e : dirTo x y = 2 := by unfold dirTo; rw [if_neg q0, if_neg q1, if_pos q2]
    rw [e]; exact ⟨by decide, by decide, q2.2, by rw [← q2.2]; exact q2.1⟩
  by_cases q3 : nbr x 3 ≠ -1 ∧ nbr x 3 = y
  · have e : dirTo x y = 3 := by unfold dirTo; rw [if_neg q0, if_neg q1, if_neg q2, if_pos q3]
    rw [e]; exact ⟨by decide, by decide, q3.2, by rw [← q3.2]; exact q3.1⟩
  exact absurd (by unfold dirTo; rw [if_neg q0, if_neg q1, if_neg q2, if_neg q3]) h
theorem dirTo_of {x y d : Int} (h : nbr x d = y) (hy : ¬ y = -1) : dirTo x y = d := by
  have hx : ¬ nbr x d = -1 := by rw [h]; exact hy
  obtain ⟨h0, h1, h2, h3⟩ := nbr_in hx
  have n0 := nbr0 h0 h1
  have n1 := nbr1 h0 h1
  have n2 := nbr2 h0 h1
  have n3 := nbr3 h0 h1
  rcases d4 h2 h3 with rfl | rfl | rfl | rfl
  all_goals
    unfold dirTo
    repeat' split
    all_goals omega
theorem nbr_comm {x d t : Int} (h1 : ¬ nbr x d = -1) (h2 : ¬ nbr x t = -1) (h3 : ¬ nbr (nbr x d) t = -1) : nbr (nbr x t) d = nbr (nbr x d) t := by
  obtain ⟨x0, x1, d0, d1⟩ := nbr_in h1
  obtain ⟨-, -, t0, t1⟩ := nbr_in h2
  obtain ⟨y0, y1, -, -⟩ := nbr_in h3
  have z0 : 0 ≤ nbr x t := by have := nbr_b x t; omega
  have z1 : nbr x t < 384 := by have := nbr_b x t; omega
  have a0 := nbr0 x0 x1
  have a1 := nbr1 x0 x1
  have a2 := nbr2 x0 x1
  have a3 := nbr3 x0 x1
  have b0 := nbr0 y0 y1
  have b1 := nbr1 y0 y1
  have b2 := nbr2 y0 y1
  have b3 := nbr3 y0 y1
  have c0 := nbr0 z0 z1
  have c1 := nbr1 z0 z1
  have c2 := nbr2 z0 z1
  have c3 := nbr3 z0 z1
  rcases d4 d0 d1 with rfl | rfl | rfl | rfl <;> rcases d4 t0 t1 with rfl | rfl | rfl | rfl <;> omega
theorem nbr_opp {x t : Int} (h : ¬ nbr x t = -1) : ∃ d, nbr (nbr x t) d = x := by
  obtain ⟨x0, x1, t0, t1⟩ := nbr_in h
  have z0 : 0 ≤ nbr x t := by have := nbr_b x t; omega
  have z1 : nbr x t < 384 := by have := nbr_b x t; omega
  have a0 := nbr0 x0 x1
  have a1 := nbr1 x0 x1
  have a2 := nbr2 x0 x1
  have a3 := nbr3 x0 x1
  have c0 := nbr0 z0 z1
  have c1 := nbr1 z0 z1
  have c2 := nbr2 z0 z1
  have c3 := nbr3 z0 z1
  rcases d4 t0 t1 with rfl | rfl | rfl | rfl
  · exact ⟨2, by omega⟩
  · exact ⟨3, by omega⟩
  · exact ⟨0, by omega⟩
  · exact ⟨1, by omega⟩
theorem nbr_inj {x y t : Int} (h : ¬ nbr x t = -1) (e : nbr x t = nbr y t) : x = y := by
  have h' : ¬ nbr y t = -1 := by rw [← e]; exact h
  obtain ⟨x0, x1, t0, t1⟩ := nbr_in h
  obtain ⟨y0, y1, -, -⟩ := nbr_in h'
  have a0 := nbr0 x0 x1
  have a1 := nbr1 x0 x1
  have a2 := nbr2 x0 x1
  have a3 := nbr3 x0 x1
  have b0 := nbr0 y0 y1
  have b1 := nbr1 y0 y1
  have b2 := nbr2 y0 y1
  have b3 := nbr3 y0 y1
  rcases d4 t0 t1 with rfl | rfl | rfl | rfl <;> omega
/-- two cells are beside each other -/
theorem adj_of {x y d : Int} (h : nbr x d = y) (hy : ¬ y = -1) : ¬ dirTo x y = -1 := by
  rw [dirTo_of h hy]
  obtain ⟨-, -, h0, -⟩ := nbr_in (show ¬ nbr x d = -1 by rw [h]; exact hy)
  omega
theorem adj_sym {x y : Int} (h : ¬ dirTo x y = -1) : ¬ dirTo y x = -1 := by
  obtain ⟨h0, h1, h2, h3⟩ := dirTo_nbr h
  obtain ⟨d, hd⟩ := nbr_opp (show ¬ nbr x (dirTo x y) = -1 by rw [h2]; exact h3)
  rw [h2] at hd
  refine adj_of hd ?_
  obtain ⟨g0, -, -, -⟩ := nbr_in (show ¬ nbr x (dirTo x y) = -1 by rw [h2]; exact h3)
  omega
/-- the course behind a bulge at the cell i to the side t -/
def bulC (r : mf_V) (i t j : Int) : Int := if j < i then r 6 j else if j = i then nbr (r 6 (i - 1)) t else if j = i + 1 then nbr (r 6 i) t else if j = i + 2 then nbr (r 6 (i + 1)) t else r 6 (j - 2)
theorem bulC_lo {r : mf_V} {i t j : Int} (h : j < i) : bulC r i t j = r 6 j := by unfold bulC; rw [if_pos h]
theorem bulC_hi {r : mf_V} {i t j : Int} (h : i + 2 < j) : bulC r i t j = r 6 (j - 2) := by unfold bulC; rw [if_neg (by omega), if_neg (by omega), if_neg (by omega), if_neg (by omega)]
theorem bulC_new {r : mf_V} {i t j : Int} (h : i ≤ j ∧ j ≤ i + 2) : bulC r i t j = nbr (r 6 (j - 1)) t := by
  rcases (show j = i ∨ j = i + 1 ∨ j = i + 2 by omega) with z | z | z
  · subst z; unfold bulC; rw [if_neg (by omega), if_pos rfl]
  · subst z; unfold bulC; rw [if_neg (by omega), if_neg (by omega), if_pos rfl]; congr 2; omega
  · subst z; unfold bulC; rw [if_neg (by omega), if_neg (by omega), if_neg (by omega), if_pos rfl]; congr 2; omega
def hitB (r : mf_V) (i t c : Int) : Prop := c = nbr (r 6 (i - 1)) t ∨ c = nbr (r 6 i) t ∨ c = nbr (r 6 (i + 1)) t
/-- what a bulge does -/
def Bul (r : mf_V) (i t : Int) (r' : mf_V) : Prop := r' 7 0 = r 7 0 + 2 ∧ (∀ j, 0 ≤ j → j < r 7 0 + 2 → r' 6 j = bulC r i t j) ∧ (∀ c, (hitB r i t c → r' 1 c = 0 ∧ r' 3 c = 0 ∧ r' 4 c = 1) ∧ (¬ hitB r i t c → r' 1 c = r 1 c ∧ r' 3 c = r 3 c ∧ r' 4 c = r 4 c)) ∧ r' 0 = r 0 ∧ r' 2 = r 2 ∧ r' 5 = r 5 ∧ r' 8 = r 8 ∧ r' 9 = r 9
/-- what canB says, in plain words -/
theorem canB_w {r : mf_V} {i t : Int} (hL : r 7 0 ≤ 150) (h : canB r i t) : (0 < i ∧ i < r 7 0 - 1 ∧ r 11 (i - 1) = r 11 i) ∧ r 7 0 + 2 ≤ 150 ∧ (0 ≤ t ∧ t < 4) ∧ ∀ k, i - 1 ≤ k → k ≤ i + 1 → 0 ≤ nbr (r 6 k) t ∧ nbr (r 6 k) t < 384 ∧ r 10 (nbr (r 6 k) t) = -1 ∧ r 2 (nbr (r 6 k) t) = 0 := by
  unfold canB strP openP at h
  obtain ⟨h1, h2, h3, h4, -, h5, h6, h7⟩ := h
  rw [cellAtF_in (by omega) (by omega)] at h5 h6 h7
  refine ⟨h1, h2, ⟨h3, h4⟩, fun k a b => ?_⟩
  rcases (show k = i - 1 ∨ k = i ∨ k = i + 1 by omega) with z | z | z <;> subst z
  · exact h5
  · exact h6
  · exact h7
/-- a cell that is open is in no place of the course -/
theorem open_out {r : mf_V} (hp : plOK r) {c : Int} (h : r 10 c = -1) {k : Int} (h0 : 0 ≤ k) (h1 : k < r 7 0) : ¬ r 6 k = c := fun q => by
  have g := hp.1 k h0 h1
  rw [q, h] at g
  omega
theorem bulCrs {r : mf_V} {i t : Int} (ok : rOK rlo rhi r) (hI : RInv r) (hcan : canB r i t) {q : mf_V} (h7 : q 7 0 = r 7 0 + 2) (h6 : ∀ j, 0 ≤ j → j < r 7 0 + 2 → q 6 j = bulC r i t j) : crsOK q := by
  have hL : (0 : Int) ≤ r 7 0 ∧ r 7 0 ≤ 150 := ok 7 0
  obtain ⟨⟨i0, i1, i2⟩, hl, ⟨t0, t1⟩, hop⟩ := canB_w hL.2 hcan
  obtain ⟨⟨hc1, hc2, hc3⟩, hd, hp, -⟩ := hI
  have dd : ∀ k, 0 ≤ k → k < r 7 0 - 1 → nbr (r 6 k) (dirTo (r 6 k) (r 6 (k + 1))) = r 6 (k + 1) := fun k a b => (dirTo_nbr (hc2 k a b)).2.2.1
  have e1 : r 11 (i - 1) = dirTo (r 6 (i - 1)) (r 6 i) := by rw [hd (i - 1) (by omega) (by omega), cellAtF_in (by omega) (by omega)]; congr 2; omega
  have e2 : r 11 i = dirTo (r 6 i) (r 6 (i + 1)) := by rw [hd i (by omega) (by omega), cellAtF_in (by omega) (by omega)]
  have cb : ∀ k : Int, (0 : Int) ≤ r 6 k ∧ r 6 k ≤ 383 := fun k => ok 6 k
  have side : ∀ k, i - 1 ≤ k → k ≤ i → ¬ dirTo (nbr (r 6 k) t) (nbr (r 6 (k + 1)) t) = -1 := by
    intro k a b
    have g := dd k (by omega) (by omega)
    have o1 := hop k (by omega) (by omega)
    have o2 := hop (k + 1) (by omega) (by omega)
    have c1 := cb (k + 1)
    refine adj_of (d := dirTo (r 6 k) (r 6 (k + 1))) ?_ (by omega)
    rw [nbr_comm (by rw [g]; omega) (by omega) (by rw [g]; omega), g]
  refine ⟨by omega, fun j a b => ?_, fun j k a b a' b' e => ?_⟩
  · rw [h6 j a (by omega), h6 (j + 1) (by omega) (by omega)]
    rcases (show j + 1 < i ∨ j + 1 = i ∨ (i ≤ j ∧ j ≤ i + 1) ∨ j = i + 2 ∨ i + 2 < j by omega) with z | z | z | z | z
    · rw [bulC_lo (by omega), bulC_lo z]; exact hc2 j a (by omega)
    · rw [bulC_lo (by omega), bulC_new (by omega)]
      have o1 := hop j (by omega) (by omega)
      rw [show j + 1 - 1 = j by omega]
      exact adj_of rfl (by omega)
    · rw [bulC_new (by omega), bulC_new (by omega)]
      have g := side (j - 1) (by omega) (by omega)
      rw [show j - 1 + 1 = j by omega] at g
      rw [show j + 1 - 1 = j by omega]
      exact g
    · rw [bulC_new (by omega), bulC_hi (by omega), show j + 1 - 2 = j - 1 by omega]
      have o1 := hop (j - 1) (by omega) (by omega)
      exact adj_sym (adj_of rfl (by omega))
    · rw [bulC_hi z, bulC_hi (by omega), show j + 1 - 2 = (j - 2) + 1 by omega]
      exact hc2 (j - 2) (by omega) (by omega)
  · rw [h6 j a (by omega), h6 k a' (by omega)] at e
    rcases (show j < i ∨ (i ≤ j ∧ j ≤ i + 2) ∨ i + 2 < j by omega) with z | z | z <;> rcases (show k < i ∨ (i ≤ k ∧ k ≤ i + 2) ∨ i + 2 < k by omega) with y | y | y
    · rw [bulC_lo z, bulC_lo y] at e; exact hc3 j k a (by omega) a' (by omega) e
    · rw [bulC_lo z, bulC_new y] at e; exact absurd e (open_out hp (hop (k - 1) (by omega) (by omega)).2.2.1 a (by omega))
    · rw [bulC_lo z, bulC_hi y] at e; have := hc3 j (k - 2) a (by omega) (by omega) (by omega) e; omega
    · rw [bulC_new z, bulC_lo y] at e; exact absurd e.symm (open_out hp (hop (j - 1) (by omega) (by omega)).2.2.1 a' (by omega))
    · rw [bulC_new z, bulC_new y] at e
      have o1 := hop (j - 1) (by omega) (by omega)
      have g := nbr_inj (show ¬ nbr (r 6 (j - 1)) t = -1 by omega) e
      have := hc3 (j - 1) (k - 1) (by omega) (by omega) (by omega) (by omega) g
      omega
    · rw [bulC_new z, bulC_hi y] at e; exact absurd e.symm (open_out hp (hop (j - 1) (by omega) (by omega)).2.2.1 (by omega) (by omega))
    · rw [bulC_hi z, bulC_lo y] at e; have := hc3 (j - 2) k (by omega) (by omega) a' (by omega) e; omega
    · rw [bulC_hi z, bulC_new y] at e; exact absurd e (open_out hp (hop (k - 1) (by omega) (by omega)).2.2.1 (by omega) (by omega))
    · rw [bulC_hi z, bulC_hi y] at e; have := hc3 (j - 2) (k - 2) (by omega) (by omega) (by omega) (by omega) e; omega
/-- what followCourse needs behind a bulge -/
theorem bulPre {r : mf_V} {i t : Int} (ok : rOK rlo rhi r) (hI : RInv r) (hcan : canB r i t) {q : mf_V} (h7 : q 7 0 = r 7 0 + 2) (h6 : ∀ j, 0 ≤ j → j < r 7 0 + 2 → q 6 j = bulC r i t j) (h10 : q 10 = mf_up (r 10) (r 6 i) (-1)) (h11 : q 11 = r 11) :
    (∀ k, 0 ≤ k → k < i → q 10 (q 6 k) = k) ∧ (∀ c, 0 ≤ c → c < 384 → q 10 c = -1 ∨ ∃ k, 0 ≤ k ∧ k < q 7 0 ∧ q 6 k = c) ∧ (∀ k, 0 ≤ k → k < i - 1 → q 11 k = dirTo (q 6 k) (q 6 (k + 1))) := by
  have hL : (0 : Int) ≤ r 7 0 ∧ r 7 0 ≤ 150 := ok 7 0
  obtain ⟨⟨i0, i1, i2⟩, hl, ⟨t0, t1⟩, hop⟩ := canB_w hL.2 hcan
  obtain ⟨⟨hc1, hc2, hc3⟩, hd, hp, -⟩ := hI
  refine ⟨fun k a b => ?_, fun cv a b => ?_, fun k a b => ?_⟩
  · rw [h6 k a (by omega), bulC_lo b, h10, mf_up_n (fun z => by have := hc3 k i a (by omega) (by omega) (by omega) z; omega)]
    exact hp.1 k a (by omega)
  · rw [h10]
    by_cases z : cv = r 6 i
    · rw [z, mf_up_s]; exact Or.inl rfl
    · rw [mf_up_n z]
      rcases hp.2 cv a b with y | ⟨y1, y2, y3⟩
      · exact Or.inl y
      · refine Or.inr ?_
        rcases (show r 10 cv < i ∨ r 10 cv = i ∨ i < r 10 cv by omega) with x | x | x
        · exact ⟨r 10 cv, y1, by omega, by rw [h6 _ y1 (by omega), bulC_lo x]; exact y3⟩
        · rw [x] at y3; exact absurd y3.symm z
        · exact ⟨r 10 cv + 2, by omega, by omega, by rw [h6 _ (by omega) (by omega), bulC_hi (by omega), show r 10 cv + 2 - 2 = r 10 cv by omega]; exact y3⟩
  · rw [h11, h6 k a (by omega), h6 (k + 1) (by omega) (by omega), bulC_lo (by omega), bulC_lo (by omega), hd k a (by omega), cellAtF_in (by omega) (by omega)]
/-- the course as the rows of the method leave it -/
theorem bulC_eq {r : mf_V} {i t : Int} (i0 : 0 < i) {j : Int} (h0 : 0 ≤ j) (h1 : j < r 7 0 + 2) : mf_up (mf_up (mf_up (mf_cpy (r 6) (r 6) (i + 1) (i + 3) (r 7 0 - i - 1)) i (nbr (r 6 (i - 1)) t)) (i + 1) (nbr (r 6 i) t)) (i + 2) (nbr (r 6 (i + 1)) t) j = bulC r i t j := by
  unfold mf_up mf_cpy bulC
  by_cases z2 : j = i + 2
  · rw [if_pos z2, if_neg (by omega), if_neg (by omega), if_neg (by omega), if_pos z2]
  by_cases z1 : j = i + 1
  · rw [if_neg z2, if_pos z1, if_neg (by omega), if_neg (by omega), if_pos z1]
  by_cases z0 : j = i
  · rw [if_neg z2, if_neg z1, if_pos z0, if_neg (by omega), if_pos z0]
  rw [if_neg z2, if_neg z1, if_neg z0]
  by_cases zl : j < i
  · rw [if_neg (by omega), if_pos zl]
  · rw [if_pos ⟨by omega, by omega⟩, if_neg zl, if_neg z0, if_neg z1, if_neg z2]; congr 1; omega
theorem up3_hit {f : Int → Int} {a b d v c : Int} (h : c = a ∨ c = b ∨ c = d) : mf_up (mf_up (mf_up f a v) b v) d v c = v := by
  unfold mf_up
  rcases h with h | h | h
  · subst h; by_cases z : c = d
    · rw [if_pos z]
    · rw [if_neg z]; by_cases y : c = b
      · rw [if_pos y]
      · rw [if_neg y, if_pos rfl]
  · subst h; by_cases z : c = d
    · rw [if_pos z]
    · rw [if_neg z, if_pos rfl]
  · rw [if_pos h]
theorem up3_out {f : Int → Int} {a b d v c : Int} (h : ¬ (c = a ∨ c = b ∨ c = d)) : mf_up (mf_up (mf_up f a v) b v) d v c = f c := by
  unfold mf_up
  rw [if_neg (fun z => h (Or.inr (Or.inr z))), if_neg (fun z => h (Or.inr (Or.inl z))), if_neg (fun z => h (Or.inl z))]
end
section
/-! 16.bulge: bulge -/
set_option maxHeartbeats 4000000 in
set_option maxRecDepth 100000 in
theorem c_X1_bulge (l : Launch) (G : mf_G) (h : Nat) (ad : Nat → Nat) (r : mf_V)  (iv : Int) (sv : Int) (hiv : i32 iv) (hsv : i32 sv) (ok : rOK rlo rhi r) (hI : RInv r) (hcan : canB r iv sv) (sz : Nat) : Met l yX1_bulge wsX1_bulge ({ frames := 3, cells := 0, slots := 0, locals := 68 }) (va_Pc [.ref h, .int (iI (iv)), .int (iI (sv))] (WrP G (RW G h ad r) sz)) (va_Qv (fun (r' : mf_V) => rOK rlo rhi r' ∧ Bul r iv sv r' ∧ RInv r') (fun (r' : mf_V) t => WrQ G (va_A (RW G h ad r) sz) (RW G h ad r') t) (va_A (RW G h ad r) sz)) 0 0 (va_A (RW G h ad r) sz) := by
  refine Met.ofW (cc := cX1_bulge) (maxL := 7) (ret := none) (by decide) rfl ?_
  intro p e s m args below meth c s₁ B hml hv
  obtain ⟨rfl, hsz, hP, hK, hD0, hN⟩ := hv
  have hx := B.exec
  have hb := B.bytes
  have hr := B.returns
  have hts := atoms_spec (ws := wsX1_bulge) B.pre
  have hown : s.vm.findClass RX1 = some m.cls := findClass_of_methodNamed B.named
  have hlocks := B.notSynchronized
  have hinX1 : ∀ w ∈ u_ws RX1 TX1 14, w ∈ wsX1_bulge := fun w h => List.mem_cons_of_mem _ (List.mem_append_right _ h)
  subst hsz
  have hD := hD0.self (sz := s.heap.size)
  generalize hAe : va_A (RW G h ad r) s.heap.size = A at hD ⊢
  have hA : ∀ q : Nat, s.heap.size ≤ q → A q := fun q h => by rw [← hAe]; exact Or.inr h
  have hS : va_S A s.heap s.heap [] := va_S.rf
  have hl := lv_entry ([.ref h, .int (iI (iv)), .int (iI (sv))]) (n := 7) (Nat.le_of_ble_eq_true rfl)
  rw [lg_entry_eq]
  generalize (lg_sl ([.ref h, .int (iI (iv)), .int (iI (sv))]) ++ List.replicate (7 - (lg_sl ([.ref h, .int (iI (iv)), .int (iI (sv))])).length) Slot.unset).toArray = ls at hl ⊢
  have hl : lv_has ls 7 [(0, .ref h), (1, .int (iI (iv))), (2, .int (iI (sv)))] := hl
  have hiv1 := hiv.1
  have hiv2 := hiv.2
  have hsv1 := hsv.1
  have hsv2 := hsv.2
  have okLr : (0 : Int) ≤ r 7 0 ∧ r 7 0 ≤ 150 := ok 7 0
  obtain ⟨⟨i0, i1, i2⟩, hl2, ⟨t0, t1⟩, hop⟩ := canB_w okLr.2 hcan
  have hdirE := (dLast hI.1 hI.2.1).2
  have hdirB : ∀ j, strP r j → 0 ≤ r 11 j := fun j hj => by have a := hdirE j (by have := hj.1; omega) (by have := hj.2.1; omega); have b : (-1 : Int) ≤ r 11 j ∧ r 11 j ≤ 3 := ok 11 j; omega
  have ho1 := hop (iv - 1) (by omega) (by omega)
  have ho2 := hop iv (by omega) (by omega)
  have ho3 := hop (iv + 1) (by omega) (by omega)
  refine lv_aload_n hx hb dX1_bulge_0 rfl (lv_at hl 0 rfl) ?_
  refine lv_iload_n hx hb dX1_bulge_1 rfl (lv_at hl 1 rfl) ?_
  refine lv_iload_n hx hb dX1_bulge_2 rfl (lv_at hl 2 rfl) ?_
  refine vp_callSi (va_Run.run (va_runV (As := [.int (iI (iv)), .int (iI (sv))]) (rest := []) ⟨hx, hb, hml, hown, hts⟩ (c_X1_canBulge l G h ad r (iv) (sv) (i32_mk (by omega) (by omega)) (i32_mk (by omega) (by omega)) (by assumption) (by exact hdirB)) (cwV 2 hts gX1_bulge_X1_canBulge rfl rfl rfl (by decide +kernel) ⟨Nat.le_of_ble_eq_true rfl, Nat.le_of_ble_eq_true rfl⟩) (rdV (wc := RW G h ad r) hK hP hN [0, 1, 2, 3, 4, 5, 6, 7, 8, 9, 10, 11] rfl (ci := 1) rfl rfl) rfl rfl hl.1 rfl (lv_room (Nat.le_of_ble_eq_true rfl)) dX1_bulge_3 ⟨(Nat.zero_le _), (Nat.zero_le _)⟩)) (fun q1 hq1 => ?_)
  subst hq1
  refine mf_bp_ne (tgt := 10) hx hb dX1_bulge_6 (by decide) (fun c2 => ?_) (fun c2 => ?_)
  · skip
    refine lv_aload_n hx hb dX1_bulge_10 rfl (lv_at hl 0 rfl) ?_
    refine lv_iload_n hx hb dX1_bulge_11 rfl (lv_at hl 1 rfl) ?_
    refine vp_callSi (va_Run.run (va_runV (As := [.int (iI (iv))]) (rest := []) ⟨hx, hb, hml, hown, hts⟩ (c_X1_cellAt l G h ad r (iv) (i32_mk (by omega) (by omega)) (by assumption)) (cwV 1 hts gX1_bulge_X1_cellAt rfl rfl rfl (by decide +kernel) ⟨Nat.le_of_ble_eq_true rfl, Nat.le_of_ble_eq_true rfl⟩) (rdV (wc := RW G h ad r) hK hP hN [0, 1, 2, 3, 4, 5, 6, 7, 8, 9, 10, 11] rfl (ci := 1) rfl rfl) rfl rfl hl.1 rfl (lv_room (Nat.le_of_ble_eq_true rfl)) dX1_bulge_12 ⟨(Nat.zero_le _), (Nat.zero_le _)⟩)) (fun q3 hq3 => ?_)
    subst hq3
    refine mf_nm (fun y4 ey4 => ?_)
    have b5 : -1 ≤ y4 ∧ y4 ≤ 383 := by rw [ey4]; exact cellAtF_b (by assumption) iv
    refine mf_top (y4) (r 6 iv) (by rw [ey4, cellAtF_in (by omega) (by omega)]) ?_
    have bl : (0 : Int) ≤ r 6 iv ∧ r 6 iv ≤ 383 := ok 6 iv
    skip
    refine lv_istore_n (lv' := [(3, .int (iI (r 6 iv))), (0, .ref h), (1, .int (iI (iv))), (2, .int (iI (sv)))]) hx hb dX1_bulge_15 rfl hl (by decide) rfl (fun ls hl => ?_)
    refine lv_iload_n hx hb dX1_bulge_16 rfl (lv_at hl 0 rfl) ?_
    refine vp_callSi (va_Run.run (va_runSN (As := [.int (iI (r 6 iv))]) (rest := []) ⟨hx, hb, hml, hown, hts⟩ (c_X2_isCell l (r 6 iv) (i32_mk (by omega) (by omega))) ⟨(va_cnB 1 hts gX1_bulge_X2_isCell_n70 rfl rfl rfl (hN.m 27 rfl) (hts (.initialized RX2) (List.mem_of_getElem? (i := 27) rfl)) (by decide +kernel) ⟨Nat.le_of_ble_eq_true rfl, Nat.le_of_ble_eq_true rfl⟩), (hts (.static yX2_isCell) (List.mem_of_getElem? (i := 34) rfl)), trivial⟩ pureS rfl rfl hl.1 rfl (lv_room (Nat.le_of_ble_eq_true rfl)) dX1_bulge_17 ⟨(Nat.zero_le _), (Nat.zero_le _)⟩)) (fun q6 hq6 => ?_)
    subst hq6
    refine mf_bp_eq (tgt := 30) hx hb dX1_bulge_20 (by decide) (fun c7 => ?_) (fun c7 => ?_)
    · skip
      exact absurd (And.intro (by omega) (by omega)) c7
    · skip
      refine lv_aload_n hx hb dX1_bulge_23 rfl (lv_at hl 1 rfl) ?_
      refine va_get (D := G.1) (ci := 1) (v := .ref (ad 10)) (C := RX1) (T := TX1) (N := 14) hx hb hts hinX1 hown hK hP 0 rfl rfl 10 (by decide) (hts (.fieldLink RX1 34 "MeanderFarm$River" "place" "[I") (List.mem_of_getElem? (i := 1) rfl)) (fun _ h9 => h9) rfl dX1_bulge_24 ?_
      refine lv_iload_n hx hb dX1_bulge_27 rfl (lv_at hl 0 rfl) ?_
      refine mf_iconst hx hb dX1_bulge_28 ?_
      refine mf_iast (n := 384) (f := r 10) hx hb hK hP hD hS 8 0 rfl rfl (z := r 6 iv) (x := (-1)) (by omega) (by omega) (by decide) dX1_bulge_29 (fun H locs hP hD hS => ?_)
      obtain ⟨r8, er8⟩ : ∃ q : mf_V, q = mf_sF r 10 (mf_up (r 10) (r 6 iv) ((-1))) := ⟨_, rfl⟩
      have hP : va_P G.1 vwCl (RW G h ad r8) H := by rw [er8]; exact hP
      have hD : va_D A (RW G h ad r8) := by rw [er8]; exact hD
      have okr8 : rOK rlo rhi r8 := by rw [er8]; exact rOK_up ok 10 _ _ (show (-1 : Int) ≤ (-1) by omega) (show (-1) ≤ (149 : Int) by omega)
      have f1_r8 : r8 10 (r 6 iv) = (-1) := by rw [er8, mf_sF_s, mf_up_s]
      have f2_r8 : ∀ y, y ≠ (r 6 iv) → r8 10 y = r 10 y := fun y hy => by rw [er8, mf_sF_s, mf_up_n hy]
      have f3_r8 : ∀ q, q ≠ 10 → r8 q = r q := fun q hq => by rw [er8, mf_sF_n hq]
      refine lv_aload_n hx hb dX1_bulge_30 rfl (lv_at hl 1 rfl) ?_
      refine lv_iload_n hx hb dX1_bulge_31 rfl (lv_at hl 2 rfl) ?_
      refine mf_iconst hx hb dX1_bulge_32 ?_
      refine mf_isub hx hb dX1_bulge_33 ?_
      refine vp_callSi (va_Run.run (va_runV (As := [.int (iI (iv - 1))]) (rest := []) ⟨hx, hb, hml, hown, hts⟩ (c_X1_cellAt l G h ad r8 (iv - 1) (i32_mk (by omega) (by omega)) (by assumption)) (cwV 1 hts gX1_bulge_X1_cellAt rfl rfl rfl (by decide +kernel) ⟨Nat.le_of_ble_eq_true rfl, Nat.le_of_ble_eq_true rfl⟩) (rdV (wc := RW G h ad r8) hK hP hN [0, 1, 2, 3, 4, 5, 6, 7, 8, 9, 10, 11] rfl (ci := 1) rfl rfl) rfl rfl hl.1 rfl (lv_room (Nat.le_of_ble_eq_true rfl)) dX1_bulge_34 ⟨(Nat.zero_le _), (Nat.zero_le _)⟩)) (fun q9 hq9 => ?_)
      subst hq9
      refine mf_nm (fun y10 ey10 => ?_)
      have b11 : -1 ≤ y10 ∧ y10 ≤ 383 := by rw [ey10]; exact cellAtF_b (by assumption) (iv - 1)
      refine lv_iload_n hx hb dX1_bulge_37 rfl (lv_at hl 3 rfl) ?_
      refine vp_callSi (va_Run.run (va_runSN (As := [.int (iI (y10)), .int (iI (sv))]) (rest := []) ⟨hx, hb, hml, hown, hts⟩ (c_X2_neighbour l (y10) (sv) (i32_mk (by omega) (by omega)) (i32_mk (by omega) (by omega))) ⟨(va_cnB 2 hts gX1_bulge_X2_neighbour_n89 rfl rfl rfl (hN.m 29 rfl) (hts (.initialized RX2) (List.mem_of_getElem? (i := 27) rfl)) (by decide +kernel) ⟨Nat.le_of_ble_eq_true rfl, Nat.le_of_ble_eq_true rfl⟩), (hts (.static yX2_neighbour) (List.mem_of_getElem? (i := 26) rfl)), trivial⟩ pureS rfl rfl hl.1 rfl (lv_room (Nat.le_of_ble_eq_true rfl)) dX1_bulge_38 ⟨(Nat.zero_le _), (Nat.zero_le _)⟩)) (fun q12 hq12 => ?_)
      subst hq12
      refine mf_nm (fun y13 ey13 => ?_)
      have b14 : -1 ≤ y13 ∧ y13 ≤ 383 := by rw [ey13]; exact nbr_b y10 sv
      refine mf_top (y13) (nbr (r 6 (iv - 1)) sv) (by rw [ey13, ey10, cellAtF_cg (f3_r8 6 (by decide)) (f3_r8 7 (by decide)), cellAtF_in (by omega) (by omega)]) ?_
      skip
      refine lv_istore (lv' := [(4, .int (iI (nbr (r 6 (iv - 1)) sv))), (3, .int (iI (r 6 iv))), (0, .ref h), (1, .int (iI (iv))), (2, .int (iI (sv)))]) hx hb dX1_bulge_41 hl (by decide) rfl (fun ls hl => ?_)
      refine lv_iload_n hx hb dX1_bulge_43 rfl (lv_at hl 1 rfl) ?_
      refine lv_iload_n hx hb dX1_bulge_44 rfl (lv_at hl 4 rfl) ?_
      refine vp_callSi (va_Run.run (va_runSN (As := [.int (iI (r 6 iv)), .int (iI (sv))]) (rest := []) ⟨hx, hb, hml, hown, hts⟩ (c_X2_neighbour l (r 6 iv) (sv) (i32_mk (by omega) (by omega)) (i32_mk (by omega) (by omega))) ⟨(va_cnB 2 hts gX1_bulge_X2_neighbour_n89 rfl rfl rfl (hN.m 29 rfl) (hts (.initialized RX2) (List.mem_of_getElem? (i := 27) rfl)) (by decide +kernel) ⟨Nat.le_of_ble_eq_true rfl, Nat.le_of_ble_eq_true rfl⟩), (hts (.static yX2_neighbour) (List.mem_of_getElem? (i := 26) rfl)), trivial⟩ pureS rfl rfl hl.1 rfl (lv_room (Nat.le_of_ble_eq_true rfl)) dX1_bulge_45 ⟨(Nat.zero_le _), (Nat.zero_le _)⟩)) (fun q15 hq15 => ?_)
      subst hq15
      refine mf_nm (fun y16 ey16 => ?_)
      have b17 : -1 ≤ y16 ∧ y16 ≤ 383 := by rw [ey16]; exact nbr_b (r 6 iv) sv
      refine mf_top (y16) (nbr (r 6 iv) sv) (by rw [ey16]) ?_
      skip
      refine lv_istore (lv' := [(5, .int (iI (nbr (r 6 iv) sv))), (4, .int (iI (nbr (r 6 (iv - 1)) sv))), (3, .int (iI (r 6 iv))), (0, .ref h), (1, .int (iI (iv))), (2, .int (iI (sv)))]) hx hb dX1_bulge_48 hl (by decide) rfl (fun ls hl => ?_)
      refine lv_aload_n hx hb dX1_bulge_50 rfl (lv_at hl 3 rfl) ?_
      refine lv_iload_n hx hb dX1_bulge_51 rfl (lv_at hl 4 rfl) ?_
      refine mf_iconst hx hb dX1_bulge_52 ?_
      refine mf_iadd hx hb dX1_bulge_53 ?_
      refine vp_callSi (va_Run.run (va_runV (As := [.int (iI (iv + 1))]) (rest := []) ⟨hx, hb, hml, hown, hts⟩ (c_X1_cellAt l G h ad r8 (iv + 1) (i32_mk (by omega) (by omega)) (by assumption)) (cwV 1 hts gX1_bulge_X1_cellAt rfl rfl rfl (by decide +kernel) ⟨Nat.le_of_ble_eq_true rfl, Nat.le_of_ble_eq_true rfl⟩) (rdV (wc := RW G h ad r8) hK hP hN [0, 1, 2, 3, 4, 5, 6, 7, 8, 9, 10, 11] rfl (ci := 1) rfl rfl) rfl rfl hl.1 rfl (lv_room (Nat.le_of_ble_eq_true rfl)) dX1_bulge_54 ⟨(Nat.zero_le _), (Nat.zero_le _)⟩)) (fun q18 hq18 => ?_)
      subst hq18
      refine mf_nm (fun y19 ey19 => ?_)
      have b20 : -1 ≤ y19 ∧ y19 ≤ 383 := by rw [ey19]; exact cellAtF_b (by assumption) (iv + 1)
      refine lv_iload_n hx hb dX1_bulge_57 rfl (lv_at hl 5 rfl) ?_
      refine vp_callSi (va_Run.run (va_runSN (As := [.int (iI (y19)), .int (iI (sv))]) (rest := []) ⟨hx, hb, hml, hown, hts⟩ (c_X2_neighbour l (y19) (sv) (i32_mk (by omega) (by omega)) (i32_mk (by omega) (by omega))) ⟨(va_cnB 2 hts gX1_bulge_X2_neighbour_n89 rfl rfl rfl (hN.m 29 rfl) (hts (.initialized RX2) (List.mem_of_getElem? (i := 27) rfl)) (by decide +kernel) ⟨Nat.le_of_ble_eq_true rfl, Nat.le_of_ble_eq_true rfl⟩), (hts (.static yX2_neighbour) (List.mem_of_getElem? (i := 26) rfl)), trivial⟩ pureS rfl rfl hl.1 rfl (lv_room (Nat.le_of_ble_eq_true rfl)) dX1_bulge_58 ⟨(Nat.zero_le _), (Nat.zero_le _)⟩)) (fun q21 hq21 => ?_)
      subst hq21
      refine mf_nm (fun y22 ey22 => ?_)
      have b23 : -1 ≤ y22 ∧ y22 ≤ 383 := by rw [ey22]; exact nbr_b y19 sv
      refine mf_top (y22) (nbr (r 6 (iv + 1)) sv) (by rw [ey22, ey19, cellAtF_cg (f3_r8 6 (by decide)) (f3_r8 7 (by decide)), cellAtF_in (by omega) (by omega)]) ?_
      skip
      refine lv_istore (lv' := [(6, .int (iI (nbr (r 6 (iv + 1)) sv))), (5, .int (iI (nbr (r 6 iv) sv))), (4, .int (iI (nbr (r 6 (iv - 1)) sv))), (3, .int (iI (r 6 iv))), (0, .ref h), (1, .int (iI (iv))), (2, .int (iI (sv)))]) hx hb dX1_bulge_61 hl (by decide) rfl (fun ls hl => ?_)
      refine lv_aload_n hx hb dX1_bulge_63 rfl (lv_at hl 4 rfl) ?_
      refine va_get (D := G.1) (ci := 1) (v := .ref (ad 6)) (C := RX1) (T := TX1) (N := 14) hx hb hts hinX1 hown hK hP 0 rfl rfl 6 (by decide) (hts (.fieldLink RX1 31 "MeanderFarm$River" "course" "[I") (List.mem_of_getElem? (i := 2) rfl)) (fun _ h9 => h9) rfl dX1_bulge_64 ?_
      refine lv_iload_n hx hb dX1_bulge_67 rfl (lv_at hl 5 rfl) ?_
      refine mf_iconst hx hb dX1_bulge_68 ?_
      refine mf_iadd hx hb dX1_bulge_69 ?_
      refine lv_aload_n hx hb dX1_bulge_70 rfl (lv_at hl 4 rfl) ?_
      refine va_get (D := G.1) (ci := 1) (v := .ref (ad 6)) (C := RX1) (T := TX1) (N := 14) hx hb hts hinX1 hown hK hP 0 rfl rfl 6 (by decide) (hts (.fieldLink RX1 31 "MeanderFarm$River" "course" "[I") (List.mem_of_getElem? (i := 2) rfl)) (fun _ h9 => h9) rfl dX1_bulge_71 ?_
      refine lv_iload_n hx hb dX1_bulge_74 rfl (lv_at hl 5 rfl) ?_
      refine mf_iconst hx hb dX1_bulge_75 ?_
      refine mf_iadd hx hb dX1_bulge_76 ?_
      refine lv_aload_n hx hb dX1_bulge_77 rfl (lv_at hl 4 rfl) ?_
      refine va_get (D := G.1) (ci := 1) (v := .int (iI (r8 7 0))) (C := RX1) (T := TX1) (N := 14) hx hb hts hinX1 hown hK hP 0 rfl rfl 7 (by decide) (hts (.fieldLink RX1 46 "MeanderFarm$River" "length" "I") (List.mem_of_getElem? (i := 3) rfl)) (fun _ h9 => h9) rfl dX1_bulge_78 ?_
      refine mf_top (r8 7 0) (r 7 0) (by rw [f3_r8 7 (by decide)]) ?_
      have b24 : (0 : Int) ≤ r 7 0 ∧ r 7 0 ≤ 150 := ok 7 (0)
      refine lv_iload_n hx hb dX1_bulge_81 rfl (lv_at hl 5 rfl) ?_
      refine mf_isub hx hb dX1_bulge_82 ?_
      refine mf_iconst hx hb dX1_bulge_83 ?_
      refine mf_isub hx hb dX1_bulge_84 ?_
      refine mf_copy (f := r8 6) (g := r8 6) (n0 := 150) (n1 := 150) hx hb (hml.trans hl.1.symm) hown (hts (.methodLink RX1 54 arraycopyName) (List.mem_of_getElem? (i := 4) rfl)) (hts (.native arraycopyName) (List.mem_of_getElem? (i := 5) rfl)) (hts (.static arraycopyName) (List.mem_of_getElem? (i := 6) rfl)) (hts (.initialized "java/lang/System") (List.mem_of_getElem? (i := 7) rfl)) hK hP hD hS 7 7 0 0 rfl rfl rfl rfl rfl (sp := iv + 1) (dp := iv + 3) (n := ((r 7 0) - iv) - 1) (by omega) (by omega) (by omega) (by omega) (by omega) (by decide) (by decide) (fun _ => rfl) (Nat.le_of_ble_eq_true rfl) (Nat.le_of_ble_eq_true rfl) dX1_bulge_85 (fun H locs hP hD hS => ?_)
      obtain ⟨r25, er25⟩ : ∃ q : mf_V, q = mf_sF r8 6 (mf_cpy (r8 6) (r8 6) (iv + 1) (iv + 3) (((r 7 0) - iv) - 1)) := ⟨_, rfl⟩
      have hP : va_P G.1 vwCl (RW G h ad r25) H := by rw [er25]; exact hP
      have hD : va_D A (RW G h ad r25) := by rw [er25]; exact hD
      have okr25 : rOK rlo rhi r25 := by rw [er25]; exact rOK_cpy okr8 okr8 6 _ _ _
      have f1_r25 : r25 6 = mf_cpy (r8 6) (r8 6) (iv + 1) (iv + 3) (((r 7 0) - iv) - 1) := by rw [er25, mf_sF_s]
      have f3_r25 : ∀ q, q ≠ 6 → r25 q = r8 q := fun q hq => by rw [er25, mf_sF_n hq]
      refine lv_aload_n hx hb dX1_bulge_88 rfl (lv_at hl 4 rfl) ?_
      refine lv_dup hx hb dX1_bulge_89 rfl ?_
      refine va_get (D := G.1) (ci := 1) (v := .int (iI (r25 7 0))) (C := RX1) (T := TX1) (N := 14) hx hb hts hinX1 hown hK hP 0 rfl rfl 7 (by decide) (hts (.fieldLink RX1 46 "MeanderFarm$River" "length" "I") (List.mem_of_getElem? (i := 3) rfl)) (fun _ h9 => h9) rfl dX1_bulge_90 ?_
      refine mf_top (r25 7 0) (r 7 0) (by rw [f3_r25 7 (by decide), f3_r8 7 (by decide)]) ?_
      have b26 : (0 : Int) ≤ r 7 0 ∧ r 7 0 ≤ 150 := ok 7 (0)
      refine mf_iconst hx hb dX1_bulge_93 ?_
      refine mf_iadd hx hb dX1_bulge_94 ?_
      refine va_put (D := G.1) (ci := 1) (v := .int (iI ((r 7 0) + 2))) (ty := .int) (C := RX1) (T := TX1) (N := 14) hx hb hts hinX1 tyX1 tyX1_ok nmX1 hown hK hP hD hS 0 rfl rfl 7 (by decide) (hts (.fieldLink RX1 46 "MeanderFarm$River" "length" "I") (List.mem_of_getElem? (i := 3) rfl)) (fun _ h9 => h9) rfl (by decide +kernel) rfl rfl (Nat.le_of_ble_eq_true rfl) dX1_bulge_95 (fun H locs hP hD hS => ?_)
      obtain ⟨r27, er27⟩ : ∃ q : mf_V, q = mf_sF r25 7 (fun _ => (r 7 0) + 2) := ⟨_, rfl⟩
      have hP : va_P G.1 vwCl (RW G h ad r27) H := by rw [er27]; exact hP
      have hD : va_D A (RW G h ad r27) := by rw [er27]; exact hD
      have okr27 : rOK rlo rhi r27 := by rw [er27]; exact rOK_set okr25 7 _ (show (0 : Int) ≤ (r 7 0) + 2 by omega) (show (r 7 0) + 2 ≤ (150 : Int) by omega)
      have f1_r27 : ∀ y, r27 7 y = (r 7 0) + 2 := fun y => by rw [er27, mf_sF_s]
      have f3_r27 : ∀ q, q ≠ 7 → r27 q = r25 q := fun q hq => by rw [er27, mf_sF_n hq]
      have l3 : r27 7 0 = r 7 0 + 2 := f1_r27 0
      have x6 : r27 6 = mf_cpy (r 6) (r 6) (iv + 1) (iv + 3) (r 7 0 - iv - 1) := by rw [f3_r27 6 (by decide), f1_r25, f3_r8 6 (by decide)]
      have x1 : r27 1 = r 1 := by rw [f3_r27 1 (by decide), f3_r25 1 (by decide), f3_r8 1 (by decide)]
      have x3 : r27 3 = r 3 := by rw [f3_r27 3 (by decide), f3_r25 3 (by decide), f3_r8 3 (by decide)]
      have x4 : r27 4 = r 4 := by rw [f3_r27 4 (by decide), f3_r25 4 (by decide), f3_r8 4 (by decide)]
      have x10 : r27 10 = mf_up (r 10) (r 6 iv) (-1) := by rw [f3_r27 10 (by decide), f3_r25 10 (by decide), er8, mf_sF_s]
      have xq : ∀ q, q ≠ 10 → q ≠ 6 → q ≠ 7 → r27 q = r q := fun q h1 h2 h3 => by rw [f3_r27 q h3, f3_r25 q h2, f3_r8 q h1]
      skip
      refine lv_aload_n hx hb dX1_bulge_98 rfl (lv_at hl 4 rfl) ?_
      refine lv_iload_n hx hb dX1_bulge_99 rfl (lv_at hl 5 rfl) ?_
      refine lv_iload hx hb dX1_bulge_100 (lv_at hl 2 rfl) ?_
      have hFc := va_free (wc := RW G h ad r27) hD hS hA [0, 1, 2, 3, 4, 5, 6, 7, 8, 9, 10, 11] rfl
      refine va_callv (va_runV (As := [.int (iI (iv)), .int (iI (nbr (r 6 (iv - 1)) sv))]) (rest := []) ⟨hx, hb, hml, hown, hts⟩ (c_X1_takeIntoCourse l G h ad r27 (iv) (nbr (r 6 (iv - 1)) sv) (i32_mk (by omega) (by omega)) (i32_mk (by omega) (by omega)) (by assumption) (by exact inC_mk (by omega) (by omega)) (by omega) _) (cwV 2 hts gX1_bulge_X1_takeIntoCourse rfl rfl rfl (by decide +kernel) ⟨Nat.le_of_ble_eq_true rfl, Nat.le_of_ble_eq_true rfl⟩) (wrV (wc := RW G h ad r27) hK hP hD hN [0, 1, 2, 3, 4, 5, 6, 7, 8, 9, 10, 11] (by decide) rfl rfl (ci := 1) rfl rfl) rfl rfl hl.1 rfl (lv_room (Nat.le_of_ble_eq_true rfl)) dX1_bulge_102 ⟨(Nat.zero_le _), (Nat.zero_le _)⟩) hS (fun q _ h => hFc q h) hFc (fun u29 t H1 locs ht hvm hw hB hz1 hk1 hS => ?_)
      obtain ⟨r30, rfl⟩ : ∃ z, z = u29 := ⟨_, rfl⟩
      try dsimp only at hw hB
      obtain ⟨hP, hD⟩ := wrJ (ws := RW G h ad r27) (w1 := RW G h ad r30) ht hFc hB
      have hP : va_P G.1 vwCl (RW G h ad r30) H1 := hP
      have hD : va_D A (RW G h ad r30) := hD
      clear hB hk1 hFc ht hz1 hvm
      generalize H1 = H at hP hS ⊢
      have w31 := hw; clear hw
      have okr30 : rOK rlo rhi r30 := w31.1
      have l4 : r30 7 0 = r 7 0 + 2 := by rw [w31.2.2.2.2.2 7 (by decide) (by decide) (by decide) (by decide)]; exact l3
      skip
      refine lv_aload_n hx hb dX1_bulge_105 rfl (lv_at hl 4 rfl) ?_
      refine lv_iload_n hx hb dX1_bulge_106 rfl (lv_at hl 5 rfl) ?_
      refine mf_iconst hx hb dX1_bulge_107 ?_
      refine mf_iadd hx hb dX1_bulge_108 ?_
      refine lv_iload hx hb dX1_bulge_109 (lv_at hl 1 rfl) ?_
      have hFc := va_free (wc := RW G h ad r30) hD hS hA [0, 1, 2, 3, 4, 5, 6, 7, 8, 9, 10, 11] rfl
      refine va_callv (va_runV (As := [.int (iI (iv + 1)), .int (iI (nbr (r 6 iv) sv))]) (rest := []) ⟨hx, hb, hml, hown, hts⟩ (c_X1_takeIntoCourse l G h ad r30 (iv + 1) (nbr (r 6 iv) sv) (i32_mk (by omega) (by omega)) (i32_mk (by omega) (by omega)) (by assumption) (by exact inC_mk (by omega) (by omega)) (by omega) _) (cwV 2 hts gX1_bulge_X1_takeIntoCourse rfl rfl rfl (by decide +kernel) ⟨Nat.le_of_ble_eq_true rfl, Nat.le_of_ble_eq_true rfl⟩) (wrV (wc := RW G h ad r30) hK hP hD hN [0, 1, 2, 3, 4, 5, 6, 7, 8, 9, 10, 11] (by decide) rfl rfl (ci := 1) rfl rfl) rfl rfl hl.1 rfl (lv_room (Nat.le_of_ble_eq_true rfl)) dX1_bulge_111 ⟨(Nat.zero_le _), (Nat.zero_le _)⟩) hS (fun q _ h => hFc q h) hFc (fun u33 t H1 locs ht hvm hw hB hz1 hk1 hS => ?_)
      obtain ⟨r34, rfl⟩ : ∃ z, z = u33 := ⟨_, rfl⟩
      try dsimp only at hw hB
      obtain ⟨hP, hD⟩ := wrJ (ws := RW G h ad r30) (w1 := RW G h ad r34) ht hFc hB
      have hP : va_P G.1 vwCl (RW G h ad r34) H1 := hP
      have hD : va_D A (RW G h ad r34) := hD
      clear hB hk1 hFc ht hz1 hvm
      generalize H1 = H at hP hS ⊢
      have w35 := hw; clear hw
      have okr34 : rOK rlo rhi r34 := w35.1
      have l5 : r34 7 0 = r 7 0 + 2 := by rw [w35.2.2.2.2.2 7 (by decide) (by decide) (by decide) (by decide)]; exact l4
      skip
      refine lv_aload_n hx hb dX1_bulge_114 rfl (lv_at hl 4 rfl) ?_
      refine lv_iload_n hx hb dX1_bulge_115 rfl (lv_at hl 5 rfl) ?_
      refine mf_iconst hx hb dX1_bulge_116 ?_
      refine mf_iadd hx hb dX1_bulge_117 ?_
      refine lv_iload hx hb dX1_bulge_118 (lv_at hl 0 rfl) ?_
      have hFc := va_free (wc := RW G h ad r34) hD hS hA [0, 1, 2, 3, 4, 5, 6, 7, 8, 9, 10, 11] rfl
      refine va_callv (va_runV (As := [.int (iI (iv + 2)), .int (iI (nbr (r 6 (iv + 1)) sv))]) (rest := []) ⟨hx, hb, hml, hown, hts⟩ (c_X1_takeIntoCourse l G h ad r34 (iv + 2) (nbr (r 6 (iv + 1)) sv) (i32_mk (by omega) (by omega)) (i32_mk (by omega) (by omega)) (by assumption) (by exact inC_mk (by omega) (by omega)) (by omega) _) (cwV 2 hts gX1_bulge_X1_takeIntoCourse rfl rfl rfl (by decide +kernel) ⟨Nat.le_of_ble_eq_true rfl, Nat.le_of_ble_eq_true rfl⟩) (wrV (wc := RW G h ad r34) hK hP hD hN [0, 1, 2, 3, 4, 5, 6, 7, 8, 9, 10, 11] (by decide) rfl rfl (ci := 1) rfl rfl) rfl rfl hl.1 rfl (lv_room (Nat.le_of_ble_eq_true rfl)) dX1_bulge_120 ⟨(Nat.zero_le _), (Nat.zero_le _)⟩) hS (fun q _ h => hFc q h) hFc (fun u37 t H1 locs ht hvm hw hB hz1 hk1 hS => ?_)
      obtain ⟨r38, rfl⟩ : ∃ z, z = u37 := ⟨_, rfl⟩
      try dsimp only at hw hB
      obtain ⟨hP, hD⟩ := wrJ (ws := RW G h ad r34) (w1 := RW G h ad r38) ht hFc hB
      have hP : va_P G.1 vwCl (RW G h ad r38) H1 := hP
      have hD : va_D A (RW G h ad r38) := hD
      clear hB hk1 hFc ht hz1 hvm
      generalize H1 = H at hP hS ⊢
      have w39 := hw; clear hw
      have okr38 : rOK rlo rhi r38 := w39.1
      have l6 : r38 7 0 = r 7 0 + 2 := by rw [w39.2.2.2.2.2 7 (by decide) (by decide) (by decide) (by decide)]; exact l5
      have y6 : ∀ j, 0 ≤ j → j < r 7 0 + 2 → r38 6 j = bulC r iv sv j := fun j a b => by rw [w39.2.1, w35.2.1, w31.2.1, x6]; exact bulC_eq (by omega) a b
      have y1 : r38 1 = mf_up (mf_up (mf_up (r 1) (nbr (r 6 (iv - 1)) sv) 0) (nbr (r 6 iv) sv) 0) (nbr (r 6 (iv + 1)) sv) 0 := by rw [w39.2.2.1, w35.2.2.1, w31.2.2.1, x1]
      have y3 : r38 3 = mf_up (mf_up (mf_up (r 3) (nbr (r 6 (iv - 1)) sv) 0) (nbr (r 6 iv) sv) 0) (nbr (r 6 (iv + 1)) sv) 0 := by rw [w39.2.2.2.1, w35.2.2.2.1, w31.2.2.2.1, x3]
      have y4 : r38 4 = mf_up (mf_up (mf_up (r 4) (nbr (r 6 (iv - 1)) sv) 1) (nbr (r 6 iv) sv) 1) (nbr (r 6 (iv + 1)) sv) 1 := by rw [w39.2.2.2.2.1, w35.2.2.2.2.1, w31.2.2.2.2.1, x4]
      have yq : ∀ q, q ≠ 6 → q ≠ 1 → q ≠ 3 → q ≠ 4 → r38 q = r27 q := fun q h1 h2 h3 h4 => by rw [w39.2.2.2.2.2 q h1 h2 h3 h4, w35.2.2.2.2.2 q h1 h2 h3 h4, w31.2.2.2.2.2 q h1 h2 h3 h4]
      have y10 : r38 10 = mf_up (r 10) (r 6 iv) (-1) := by rw [yq 10 (by decide) (by decide) (by decide) (by decide), x10]
      have y11 : r38 11 = r 11 := by rw [yq 11 (by decide) (by decide) (by decide) (by decide), xq 11 (by decide) (by decide) (by decide)]
      have hcr := bulCrs ok hI hcan l6 y6
      have hpre := bulPre ok hI hcan l6 y6 y10 y11
      skip
      refine lv_aload_n hx hb dX1_bulge_123 rfl (lv_at hl 4 rfl) ?_
      refine lv_iload_n hx hb dX1_bulge_124 rfl (lv_at hl 5 rfl) ?_
      have hFc := va_free (wc := RW G h ad r38) hD hS hA [0, 1, 2, 3, 4, 5, 6, 7, 8, 9, 10, 11] rfl
      refine va_callv (va_runV (As := [.int (iI (iv))]) (rest := []) ⟨hx, hb, hml, hown, hts⟩ (c_X1_followCourse l G h ad r38 (iv) (i32_mk (by omega) (by omega)) (by assumption) (by exact hcr) (by omega) (by exact hpre.1) (by exact hpre.2.1) (by exact hpre.2.2) _) (cwV 1 hts gX1_bulge_X1_followCourse rfl rfl rfl (by decide +kernel) ⟨Nat.le_of_ble_eq_true rfl, Nat.le_of_ble_eq_true rfl⟩) (wrV (wc := RW G h ad r38) hK hP hD hN [0, 1, 2, 3, 4, 5, 6, 7, 8, 9, 10, 11] (by decide) rfl rfl (ci := 1) rfl rfl) rfl rfl hl.1 rfl (lv_room (Nat.le_of_ble_eq_true rfl)) dX1_bulge_125 ⟨(Nat.zero_le _), (Nat.zero_le _)⟩) hS (fun q _ h => hFc q h) hFc (fun u41 t H1 locs ht hvm hw hB hz1 hk1 hS => ?_)
      obtain ⟨r42, rfl⟩ : ∃ z, z = u41 := ⟨_, rfl⟩
      try dsimp only at hw hB
      obtain ⟨hP, hD⟩ := wrJ (ws := RW G h ad r38) (w1 := RW G h ad r42) ht hFc hB
      have hP : va_P G.1 vwCl (RW G h ad r42) H1 := hP
      have hD : va_D A (RW G h ad r42) := hD
      clear hB hk1 hFc ht hz1 hvm
      generalize H1 = H at hP hS ⊢
      have w43 := hw; clear hw
      have okr42 : rOK rlo rhi r42 := w43.1
      exact W.vret hx hb hr (fun t ht hW => ⟨⟨r42, rfl, by exact ⟨okr42, ⟨by rw [w43.2.1 7 (by decide)]; exact l6, fun j a b => by rw [w43.2.1 6 (by decide)]; exact y6 j a b, fun cv => ⟨fun hh => ⟨by rw [w43.2.1 1 (by decide), y1]; exact up3_hit hh, by rw [w43.2.1 3 (by decide), y3]; exact up3_hit hh, by rw [w43.2.1 4 (by decide), y4]; exact up3_hit hh⟩, fun hh => ⟨by rw [w43.2.1 1 (by decide), y1]; exact up3_out hh, by rw [w43.2.1 3 (by decide), y3]; exact up3_out hh, by rw [w43.2.1 4 (by decide), y4]; exact up3_out hh⟩⟩, by rw [w43.2.1 0 (by decide), yq 0 (by decide) (by decide) (by decide) (by decide), xq 0 (by decide) (by decide) (by decide)], by rw [w43.2.1 2 (by decide), yq 2 (by decide) (by decide) (by decide) (by decide), xq 2 (by decide) (by decide) (by decide)], by rw [w43.2.1 5 (by decide), yq 5 (by decide) (by decide) (by decide) (by decide), xq 5 (by decide) (by decide) (by decide)], by rw [w43.2.1 8 (by decide), yq 8 (by decide) (by decide) (by decide) (by decide), xq 8 (by decide) (by decide) (by decide)], by rw [w43.2.1 9 (by decide), yq 9 (by decide) (by decide) (by decide) (by decide), xq 9 (by decide) (by decide) (by decide)]⟩, w43.2.2⟩, by rw [ht]; exact hP, hD⟩, hS.F ht⟩) hS.2.2 dX1_bulge_128
  · skip
    exact absurd hcan c2
end
section
/-! 17.break: a break through a neck -/
def brkC (r : mf_V) (i j k : Int) : Int := if k ≤ i then r 6 k else r 6 (k + (j - i - 1))
theorem brkC_lo {r : mf_V} {i j k : Int} (h : k ≤ i) : brkC r i j k = r 6 k := by unfold brkC; rw [if_pos h]
theorem brkC_hi {r : mf_V} {i j k : Int} (h : i < k) : brkC r i j k = r 6 (k + (j - i - 1)) := by unfold brkC; rw [if_neg (by omega)]
/-- what a break through a neck does -/
def Brk (r : mf_V) (i j : Int) (r' : mf_V) : Prop := r' 7 0 = r 7 0 - (j - i - 1) ∧ (∀ k, 0 ≤ k → k < r 7 0 - (j - i - 1) → r' 6 k = brkC r i j k) ∧ (∀ c, 0 ≤ c → c < 384 → (i < r 10 c ∧ r 10 c < j → r' 3 c = r 8 0 + 10) ∧ (¬ (i < r 10 c ∧ r 10 c < j) → r' 3 c = r 3 c)) ∧ r' 9 0 = r 9 0 + 1 ∧ r' 0 = r 0 ∧ r' 1 = r 1 ∧ r' 2 = r 2 ∧ r' 4 = r 4 ∧ r' 5 = r 5 ∧ r' 8 = r 8
theorem neckP_w {r : mf_V} {i j : Int} (h : neckP r i j) : 0 ≤ i ∧ j < r 7 0 ∧ i + 3 ≤ j ∧ ¬ dirTo (r 6 i) (r 6 j) = -1 := by
  obtain ⟨⟨a, b⟩, ⟨c, d⟩, e, f⟩ := h
  exact ⟨a, d, by omega, f⟩
theorem brkCrs {r : mf_V} {i j : Int} (hI : RInv r) (hn : neckP r i j) {q : mf_V} (h7 : q 7 0 = r 7 0 - (j - i - 1)) (h6 : ∀ k, 0 ≤ k → k < r 7 0 - (j - i - 1) → q 6 k = brkC r i j k) : crsOK q := by
  obtain ⟨i0, j1, ij, hd⟩ := neckP_w hn
  obtain ⟨⟨hc1, hc2, hc3⟩, -⟩ := hI
  refine ⟨by omega, fun k a b => ?_, fun k m a b a' b' e => ?_⟩
  · rw [h6 k a (by omega), h6 (k + 1) (by omega) (by omega)]
    rcases (show k < i ∨ k = i ∨ i < k by omega) with z | z | z
    · rw [brkC_lo (by omega), brkC_lo (by omega)]; exact hc2 k a (by omega)
    · rw [brkC_lo (by omega), brkC_hi (by omega), show k + 1 + (j - i - 1) = j by omega, z]; exact hd
    · rw [brkC_hi z, brkC_hi (by omega), show k + 1 + (j - i - 1) = (k + (j - i - 1)) + 1 by omega]; exact hc2 _ (by omega) (by omega)
  · rw [h6 k a (by omega), h6 m a' (by omega)] at e
    rcases (show k ≤ i ∨ i < k by omega) with z | z <;> rcases (show m ≤ i ∨ i < m by omega) with y | y
    · rw [brkC_lo z, brkC_lo y] at e; exact hc3 k m a (by omega) a' (by omega) e
    · rw [brkC_lo z, brkC_hi y] at e; have := hc3 k _ a (by omega) (by omega) (by omega) e; omega
    · rw [brkC_hi z, brkC_lo y] at e; have := hc3 _ m (by omega) (by omega) a' (by omega) e; omega
    · rw [brkC_hi z, brkC_hi y] at e; have := hc3 _ _ (by omega) (by omega) (by omega) (by omega) e; omega
theorem brkPre {r : mf_V} {i j : Int} (hI : RInv r) (hn : neckP r i j) {q r1 : mf_V} (h7 : q 7 0 = r 7 0 - (j - i - 1)) (h6 : ∀ k, 0 ≤ k → k < r 7 0 - (j - i - 1) → q 6 k = brkC r i j k) (h10 : q 10 = r1 10) (h11 : q 11 = r 11) (hpl : ∀ c, (∃ k, i < k ∧ k < j ∧ r 6 k = c) → r1 10 c = -1 ∧ r1 3 c = r 8 0 + 10) (hpn : ∀ c, (∀ k, i < k → k < j → ¬ r 6 k = c) → r1 10 c = r 10 c ∧ r1 3 c = r 3 c) :
    (∀ k, 0 ≤ k → k < i + 1 → q 10 (q 6 k) = k) ∧ (∀ c, 0 ≤ c → c < 384 → q 10 c = -1 ∨ ∃ k, 0 ≤ k ∧ k < q 7 0 ∧ q 6 k = c) ∧ (∀ k, 0 ≤ k → k < i + 1 - 1 → q 11 k = dirTo (q 6 k) (q 6 (k + 1))) := by
  obtain ⟨i0, j1, ij, hd⟩ := neckP_w hn
  obtain ⟨⟨hc1, hc2, hc3⟩, hdd, hp, -⟩ := hI
  refine ⟨fun k a b => ?_, fun cv a b => ?_, fun k a b => ?_⟩
  · rw [h6 k a (by omega), brkC_lo (by omega), h10, (hpn _ (fun m x y z => by have := hc3 m k (by omega) (by omega) a (by omega) z; omega)).1]
    exact hp.1 k a (by omega)
  · rw [h10]
    by_cases z : ∃ k, i < k ∧ k < j ∧ r 6 k = cv
    · exact Or.inl (hpl cv z).1
    · rw [(hpn cv (fun k x y w => z ⟨k, x, y, w⟩)).1]
      rcases hp.2 cv a b with y | ⟨y1, y2, y3⟩
      · exact Or.inl y
      · refine Or.inr ?_
        rcases (show r 10 cv ≤ i ∨ (i < r 10 cv ∧ r 10 cv < j) ∨ j ≤ r 10 cv by omega) with x | x | x
        · exact ⟨r 10 cv, y1, by omega, by rw [h6 _ y1 (by omega), brkC_lo x]; exact y3⟩
        · exact absurd ⟨r 10 cv, x.1, x.2, y3⟩ z
        · exact ⟨r 10 cv - (j - i - 1), by omega, by omega, by rw [h6 _ (by omega) (by omega), brkC_hi (by omega), show r 10 cv - (j - i - 1) + (j - i - 1) = r 10 cv by omega]; exact y3⟩
  · rw [h11, h6 k a (by omega), h6 (k + 1) (by omega) (by omega), brkC_lo (by omega), brkC_lo (by omega), hdd k a (by omega), cellAtF_in (by omega) (by omega)]
theorem brkC_eq {r : mf_V} {i j : Int} (ij : i + 3 ≤ j) {k : Int} (h0 : 0 ≤ k) (h1 : k < r 7 0 - (j - i - 1)) : mf_cpy (r 6) (r 6) j (i + 1) (r 7 0 - j) k = brkC r i j k := by
  unfold mf_cpy brkC
  by_cases z : k ≤ i
  · rw [if_neg (by omega), if_pos z]
  · rw [if_pos ⟨by omega, by omega⟩, if_neg z]; congr 1; omega
theorem brkLake {r r1 : mf_V} {i j : Int} (hI : RInv r) (hn : neckP r i j) (hpl : ∀ c, (∃ k, i < k ∧ k < j ∧ r 6 k = c) → r1 10 c = -1 ∧ r1 3 c = r 8 0 + 10) (hpn : ∀ c, (∀ k, i < k → k < j → ¬ r 6 k = c) → r1 10 c = r 10 c ∧ r1 3 c = r 3 c) (c : Int) (a : 0 ≤ c) (b : c < 384) : (i < r 10 c ∧ r 10 c < j → r1 3 c = r 8 0 + 10) ∧ (¬ (i < r 10 c ∧ r 10 c < j) → r1 3 c = r 3 c) := by
  obtain ⟨i0, j1, ij, hd⟩ := neckP_w hn
  obtain ⟨-, -, hp, -⟩ := hI
  refine ⟨fun h => ?_, fun h => ?_⟩
  · rcases hp.2 c a b with y | ⟨y1, y2, y3⟩
    · omega
    · exact (hpl c ⟨r 10 c, h.1, h.2, y3⟩).2
  · exact (hpn c (fun k x y z => h (by have g := hp.1 k (by omega) (by omega); rw [z] at g; rw [g]; exact ⟨x, y⟩))).2
set_option maxHeartbeats 4000000 in
set_option maxRecDepth 100000 in
theorem c_X1_breakThrough (l : Launch) (G : mf_G) (h : Nat) (ad : Nat → Nat) (r : mf_V)  (iv : Int) (jv : Int) (hiv : i32 iv) (hjv : i32 jv) (ok : rOK rlo rhi r) (hI : RInv r) (hnk : neckP r iv jv) (hbk : r 9 0 < 100000000) (sz : Nat) : Met l yX1_breakThrough wsX1_breakThrough ({ frames := 3, cells := 0, slots := 0, locals := 68 }) (va_Pc [.ref h, .int (iI (iv)), .int (iI (jv))] (WrP G (RW G h ad r) sz)) (va_Qv (fun (r' : mf_V) => rOK rlo rhi r' ∧ Brk r iv jv r' ∧ RInv r') (fun (r' : mf_V) t => WrQ G (va_A (RW G h ad r) sz) (RW G h ad r') t) (va_A (RW G h ad r) sz)) 0 0 (va_A (RW G h ad r) sz) := by
  refine Met.ofW (cc := cX1_breakThrough) (maxL := 5) (ret := none) (by decide) rfl ?_
  intro p e s m args below meth c s₁ B hml hv
  obtain ⟨rfl, hsz, hP, hK, hD0, hN⟩ := hv
  have hx := B.exec
  have hb := B.bytes
  have hr := B.returns
  have hts := atoms_spec (ws := wsX1_breakThrough) B.pre
  have hown : s.vm.findClass RX1 = some m.cls := findClass_of_methodNamed B.named
  have hlocks := B.notSynchronized
  have hinX1 : ∀ w ∈ u_ws RX1 TX1 14, w ∈ wsX1_breakThrough := fun w h => List.mem_cons_of_mem _ (List.mem_append_right _ h)
  subst hsz
  have hD := hD0.self (sz := s.heap.size)
  generalize hAe : va_A (RW G h ad r) s.heap.size = A at hD ⊢
  have hA : ∀ q : Nat, s.heap.size ≤ q → A q := fun q h => by rw [← hAe]; exact Or.inr h
  have hS : va_S A s.heap s.heap [] := va_S.rf
  have hl := lv_entry ([.ref h, .int (iI (iv)), .int (iI (jv))]) (n := 5) (Nat.le_of_ble_eq_true rfl)
  rw [lg_entry_eq]
  generalize (lg_sl ([.ref h, .int (iI (iv)), .int (iI (jv))]) ++ List.replicate (5 - (lg_sl ([.ref h, .int (iI (iv)), .int (iI (jv))])).length) Slot.unset).toArray = ls at hl ⊢
  have hl : lv_has ls 5 [(0, .ref h), (1, .int (iI (iv))), (2, .int (iI (jv)))] := hl
  have hiv1 := hiv.1
  have hiv2 := hiv.2
  have hjv1 := hjv.1
  have hjv2 := hjv.2
  have okLr : (0 : Int) ≤ r 7 0 ∧ r 7 0 ≤ 150 := ok 7 0
  obtain ⟨i0, j1, ij, hdn⟩ := neckP_w hnk
  refine lv_aload_n hx hb dX1_breakThrough_0 rfl (lv_at hl 0 rfl) ?_
  refine lv_iload_n hx hb dX1_breakThrough_1 rfl (lv_at hl 1 rfl) ?_
  refine lv_iload_n hx hb dX1_breakThrough_2 rfl (lv_at hl 2 rfl) ?_
  refine vp_callSi (va_Run.run (va_runV (As := [.int (iI (iv)), .int (iI (jv))]) (rest := []) ⟨hx, hb, hml, hown, hts⟩ (c_X1_isNeck l G h ad r (iv) (jv) (i32_mk (by omega) (by omega)) (i32_mk (by omega) (by omega)) (by assumption)) (cwV 2 hts gX1_breakThrough_X1_isNeck rfl rfl rfl (by decide +kernel) ⟨Nat.le_of_ble_eq_true rfl, Nat.le_of_ble_eq_true rfl⟩) (rdV (wc := RW G h ad r) hK hP hN [0, 1, 2, 3, 4, 5, 6, 7, 8, 9, 10, 11] rfl (ci := 1) rfl rfl) rfl rfl hl.1 rfl (lv_room (Nat.le_of_ble_eq_true rfl)) dX1_breakThrough_3 ⟨(Nat.zero_le _), (Nat.zero_le _)⟩)) (fun q1 hq1 => ?_)
  subst hq1
  refine mf_bp_ne (tgt := 10) hx hb dX1_breakThrough_6 (by decide) (fun c2 => ?_) (fun c2 => ?_)
  · skip
    refine lv_iload_n hx hb dX1_breakThrough_10 rfl (lv_at hl 1 rfl) ?_
    refine mf_iconst hx hb dX1_breakThrough_11 ?_
    refine mf_iadd hx hb dX1_breakThrough_12 ?_
    refine lv_istore_n (lv' := [(3, .int (iI (iv + 1))), (0, .ref h), (1, .int (iI (iv))), (2, .int (iI (jv)))]) hx hb dX1_breakThrough_13 rfl hl (by decide) rfl (fun ls hl => ?_)
    have lp14 : ∀ (n : Nat) (kv : Int) (r1 : mf_V), (jv - kv).toNat < n → (iv + 1 ≤ kv ∧ kv ≤ jv) → (rOK rlo rhi r1) → (∀ q, q ≠ 10 → q ≠ 3 → r1 q = r q) → (∀ c, (∃ k, iv < k ∧ k < kv ∧ r 6 k = c) → r1 10 c = -1 ∧ r1 3 c = r 8 0 + 10) → (∀ c, (∀ k, iv < k → k < kv → ¬ r 6 k = c) → r1 10 c = r 10 c ∧ r1 3 c = r 3 c) → ∀ (H : Heap) (locs : List Loc), va_P G.1 vwCl (RW G h ad r1) H → va_D A (RW G h ad r1) → va_S A s.heap H locs → ∀ (ls : Array Slot), lv_has ls 5 [(0, .ref h), (1, .int (iI (iv))), (2, .int (iI (jv))), (3, .int (iI (kv)))] → W p l e (headSpec wsX1_breakThrough ({ frames := 3, cells := 0, slots := 0, locals := 68 })).room s m ([.ref h, .int (iI (iv)), .int (iI (jv))] : List Value).toArray below meth c H locs 0 0 (MQ below (va_Qv (fun (r' : mf_V) => rOK rlo rhi r' ∧ Brk r iv jv r' ∧ RInv r') (fun (r' : mf_V) t => WrQ G A (RW G h ad r') t) A) ([.ref h, .int (iI (iv)), .int (iI (jv))] : List Value).toArray s 0 0 A) (F0 m 14 ls []) := by
      intro n
      induction n with
      | zero => intro kv r1 hn; exact absurd hn (Nat.not_lt_zero _)
      | succ n ih14 =>
        intro kv r1 hn hk okr1 hfr hpl hpn H locs hP hD hS ls hl
        refine lv_iload_n hx hb dX1_breakThrough_14 rfl (lv_at hl 3 rfl) ?_
        refine lv_iload_n hx hb dX1_breakThrough_15 rfl (lv_at hl 2 rfl) ?_
        refine mf_icmp_ge (tgt := 62) hx hb dX1_breakThrough_16 (by decide) (i32_mk (by omega) (by omega)) (i32_mk (by omega) (by omega)) (fun c3 => ?_) (fun c3 => ?_)
        · skip
          refine lv_aload_n hx hb dX1_breakThrough_62 rfl (lv_at hl 0 rfl) ?_
          refine va_get (D := G.1) (ci := 1) (v := .ref (ad 6)) (C := RX1) (T := TX1) (N := 14) hx hb hts hinX1 hown hK hP 0 rfl rfl 6 (by decide) (hts (.fieldLink RX1 31 "MeanderFarm$River" "course" "[I") (List.mem_of_getElem? (i := 4) rfl)) (fun _ h9 => h9) rfl dX1_breakThrough_63 ?_
          refine lv_iload_n hx hb dX1_breakThrough_66 rfl (lv_at hl 2 rfl) ?_
          refine lv_aload_n hx hb dX1_breakThrough_67 rfl (lv_at hl 0 rfl) ?_
          refine va_get (D := G.1) (ci := 1) (v := .ref (ad 6)) (C := RX1) (T := TX1) (N := 14) hx hb hts hinX1 hown hK hP 0 rfl rfl 6 (by decide) (hts (.fieldLink RX1 31 "MeanderFarm$River" "course" "[I") (List.mem_of_getElem? (i := 4) rfl)) (fun _ h9 => h9) rfl dX1_breakThrough_68 ?_
          refine lv_iload_n hx hb dX1_breakThrough_71 rfl (lv_at hl 1 rfl) ?_
          refine mf_iconst hx hb dX1_breakThrough_72 ?_
          refine mf_iadd hx hb dX1_breakThrough_73 ?_
          refine lv_aload_n hx hb dX1_breakThrough_74 rfl (lv_at hl 0 rfl) ?_
          refine va_get (D := G.1) (ci := 1) (v := .int (iI (r1 7 0))) (C := RX1) (T := TX1) (N := 14) hx hb hts hinX1 hown hK hP 0 rfl rfl 7 (by decide) (hts (.fieldLink RX1 46 "MeanderFarm$River" "length" "I") (List.mem_of_getElem? (i := 5) rfl)) (fun _ h9 => h9) rfl dX1_breakThrough_75 ?_
          refine mf_top (r1 7 0) (r 7 0) (by rw [hfr 7 (by decide) (by decide)]) ?_
          have b4 : (0 : Int) ≤ r 7 0 ∧ r 7 0 ≤ 150 := ok 7 (0)
          refine lv_iload_n hx hb dX1_breakThrough_78 rfl (lv_at hl 2 rfl) ?_
          refine mf_isub hx hb dX1_breakThrough_79 ?_
          refine mf_copy (f := r1 6) (g := r1 6) (n0 := 150) (n1 := 150) hx hb (hml.trans hl.1.symm) hown (hts (.methodLink RX1 54 arraycopyName) (List.mem_of_getElem? (i := 6) rfl)) (hts (.native arraycopyName) (List.mem_of_getElem? (i := 7) rfl)) (hts (.static arraycopyName) (List.mem_of_getElem? (i := 8) rfl)) (hts (.initialized "java/lang/System") (List.mem_of_getElem? (i := 9) rfl)) hK hP hD hS 7 7 0 0 rfl rfl rfl rfl rfl (sp := jv) (dp := iv + 1) (n := (r 7 0) - jv) (by omega) (by omega) (by omega) (by omega) (by omega) (by decide) (by decide) (fun _ => rfl) (Nat.le_of_ble_eq_true rfl) (Nat.le_of_ble_eq_true rfl) dX1_breakThrough_80 (fun H locs hP hD hS => ?_)
          obtain ⟨r5, er5⟩ : ∃ q : mf_V, q = mf_sF r1 6 (mf_cpy (r1 6) (r1 6) (jv) (iv + 1) ((r 7 0) - jv)) := ⟨_, rfl⟩
          have hP : va_P G.1 vwCl (RW G h ad r5) H := by rw [er5]; exact hP
          have hD : va_D A (RW G h ad r5) := by rw [er5]; exact hD
          have okr5 : rOK rlo rhi r5 := by rw [er5]; exact rOK_cpy okr1 okr1 6 _ _ _
          have f1_r5 : r5 6 = mf_cpy (r1 6) (r1 6) (jv) (iv + 1) ((r 7 0) - jv) := by rw [er5, mf_sF_s]
          have f3_r5 : ∀ q, q ≠ 6 → r5 q = r1 q := fun q hq => by rw [er5, mf_sF_n hq]
          refine lv_aload_n hx hb dX1_breakThrough_83 rfl (lv_at hl 0 rfl) ?_
          refine lv_dup hx hb dX1_breakThrough_84 rfl ?_
          refine va_get (D := G.1) (ci := 1) (v := .int (iI (r5 7 0))) (C := RX1) (T := TX1) (N := 14) hx hb hts hinX1 hown hK hP 0 rfl rfl 7 (by decide) (hts (.fieldLink RX1 46 "MeanderFarm$River" "length" "I") (List.mem_of_getElem? (i := 5) rfl)) (fun _ h9 => h9) rfl dX1_breakThrough_85 ?_
          refine mf_top (r5 7 0) (r 7 0) (by rw [f3_r5 7 (by decide), hfr 7 (by decide) (by decide)]) ?_
          have b6 : (0 : Int) ≤ r 7 0 ∧ r 7 0 ≤ 150 := ok 7 (0)
          refine lv_iload_n hx hb dX1_breakThrough_88 rfl (lv_at hl 2 rfl) ?_
          refine lv_iload_n hx hb dX1_breakThrough_89 rfl (lv_at hl 1 rfl) ?_
          refine mf_isub hx hb dX1_breakThrough_90 ?_
          refine mf_iconst hx hb dX1_breakThrough_91 ?_
          refine mf_isub hx hb dX1_breakThrough_92 ?_
          refine mf_isub hx hb dX1_breakThrough_93 ?_
          refine va_put (D := G.1) (ci := 1) (v := .int (iI ((r 7 0) - ((jv - iv) - 1)))) (ty := .int) (C := RX1) (T := TX1) (N := 14) hx hb hts hinX1 tyX1 tyX1_ok nmX1 hown hK hP hD hS 0 rfl rfl 7 (by decide) (hts (.fieldLink RX1 46 "MeanderFarm$River" "length" "I") (List.mem_of_getElem? (i := 5) rfl)) (fun _ h9 => h9) rfl (by decide +kernel) rfl rfl (Nat.le_of_ble_eq_true rfl) dX1_breakThrough_94 (fun H locs hP hD hS => ?_)
          obtain ⟨r7, er7⟩ : ∃ q : mf_V, q = mf_sF r5 7 (fun _ => (r 7 0) - ((jv - iv) - 1)) := ⟨_, rfl⟩
          have hP : va_P G.1 vwCl (RW G h ad r7) H := by rw [er7]; exact hP
          have hD : va_D A (RW G h ad r7) := by rw [er7]; exact hD
          have okr7 : rOK rlo rhi r7 := by rw [er7]; exact rOK_set okr5 7 _ (show (0 : Int) ≤ (r 7 0) - ((jv - iv) - 1) by omega) (show (r 7 0) - ((jv - iv) - 1) ≤ (150 : Int) by omega)
          have f1_r7 : ∀ y, r7 7 y = (r 7 0) - ((jv - iv) - 1) := fun y => by rw [er7, mf_sF_s]
          have f3_r7 : ∀ q, q ≠ 7 → r7 q = r5 q := fun q hq => by rw [er7, mf_sF_n hq]
          refine lv_aload_n hx hb dX1_breakThrough_97 rfl (lv_at hl 0 rfl) ?_
          refine lv_dup hx hb dX1_breakThrough_98 rfl ?_
          refine va_get (D := G.1) (ci := 1) (v := .int (iI (r7 9 0))) (C := RX1) (T := TX1) (N := 14) hx hb hts hinX1 hown hK hP 0 rfl rfl 9 (by decide) (hts (.fieldLink RX1 63 "MeanderFarm$River" "breaks" "I") (List.mem_of_getElem? (i := 10) rfl)) (fun _ h9 => h9) rfl dX1_breakThrough_99 ?_
          refine mf_top (r7 9 0) (r 9 0) (by rw [f3_r7 9 (by decide), f3_r5 9 (by decide), hfr 9 (by decide) (by decide)]) ?_
          have b8 : (0 : Int) ≤ r 9 0 ∧ r 9 0 ≤ 100000000 := ok 9 (0)
          refine mf_iconst hx hb dX1_breakThrough_102 ?_
          refine mf_iadd hx hb dX1_breakThrough_103 ?_
          refine va_put (D := G.1) (ci := 1) (v := .int (iI ((r 9 0) + 1))) (ty := .int) (C := RX1) (T := TX1) (N := 14) hx hb hts hinX1 tyX1 tyX1_ok nmX1 hown hK hP hD hS 0 rfl rfl 9 (by decide) (hts (.fieldLink RX1 63 "MeanderFarm$River" "breaks" "I") (List.mem_of_getElem? (i := 10) rfl)) (fun _ h9 => h9) rfl (by decide +kernel) rfl rfl (Nat.le_of_ble_eq_true rfl) dX1_breakThrough_104 (fun H locs hP hD hS => ?_)
          obtain ⟨r9, er9⟩ : ∃ q : mf_V, q = mf_sF r7 9 (fun _ => (r 9 0) + 1) := ⟨_, rfl⟩
          have hP : va_P G.1 vwCl (RW G h ad r9) H := by rw [er9]; exact hP
          have hD : va_D A (RW G h ad r9) := by rw [er9]; exact hD
          have okr9 : rOK rlo rhi r9 := by rw [er9]; exact rOK_set okr7 9 _ (show (0 : Int) ≤ (r 9 0) + 1 by omega) (show (r 9 0) + 1 ≤ (100000000 : Int) by omega)
          have f1_r9 : ∀ y, r9 9 y = (r 9 0) + 1 := fun y => by rw [er9, mf_sF_s]
          have f3_r9 : ∀ q, q ≠ 9 → r9 q = r7 q := fun q hq => by rw [er9, mf_sF_n hq]
          have hkj : kv = jv := by omega
          rw [hkj] at hpl hpn
          have l7 : r9 7 0 = r 7 0 - (jv - iv - 1) := by rw [f3_r9 7 (by decide)]; exact f1_r7 0
          have y6 : ∀ k, 0 ≤ k → k < r 7 0 - (jv - iv - 1) → r9 6 k = brkC r iv jv k := fun k a b => by rw [f3_r9 6 (by decide), f3_r7 6 (by decide), f1_r5, hfr 6 (by decide) (by decide)]; exact brkC_eq (by omega) a b
          have yq : ∀ q, q ≠ 6 → q ≠ 7 → q ≠ 9 → r9 q = r1 q := fun q h1 h2 h3 => by rw [f3_r9 q h3, f3_r7 q h2, f3_r5 q h1]
          have y9 : r9 9 0 = r 9 0 + 1 := f1_r9 0
          have hcr := brkCrs hI hnk l7 y6
          have hpre := brkPre hI hnk l7 y6 (yq 10 (by decide) (by decide) (by decide)) ((yq 11 (by decide) (by decide) (by decide)).trans (hfr 11 (by decide) (by decide))) hpl hpn
          skip
          refine lv_aload_n hx hb dX1_breakThrough_107 rfl (lv_at hl 0 rfl) ?_
          refine lv_iload_n hx hb dX1_breakThrough_108 rfl (lv_at hl 1 rfl) ?_
          refine mf_iconst hx hb dX1_breakThrough_109 ?_
          refine mf_iadd hx hb dX1_breakThrough_110 ?_
          have hFc := va_free (wc := RW G h ad r9) hD hS hA [0, 1, 2, 3, 4, 5, 6, 7, 8, 9, 10, 11] rfl
          refine va_callv (va_runV (As := [.int (iI (iv + 1))]) (rest := []) ⟨hx, hb, hml, hown, hts⟩ (c_X1_followCourse l G h ad r9 (iv + 1) (i32_mk (by omega) (by omega)) (by assumption) (by exact hcr) (by omega) (by exact hpre.1) (by exact hpre.2.1) (by exact hpre.2.2) _) (cwV 1 hts gX1_breakThrough_X1_followCourse rfl rfl rfl (by decide +kernel) ⟨Nat.le_of_ble_eq_true rfl, Nat.le_of_ble_eq_true rfl⟩) (wrV (wc := RW G h ad r9) hK hP hD hN [0, 1, 2, 3, 4, 5, 6, 7, 8, 9, 10, 11] (by decide) rfl rfl (ci := 1) rfl rfl) rfl rfl hl.1 rfl (lv_room (Nat.le_of_ble_eq_true rfl)) dX1_breakThrough_111 ⟨(Nat.zero_le _), (Nat.zero_le _)⟩) hS (fun q _ h => hFc q h) hFc (fun u11 t H1 locs ht hvm hw hB hz1 hk1 hS => ?_)
          obtain ⟨r12, rfl⟩ : ∃ z, z = u11 := ⟨_, rfl⟩
          try dsimp only at hw hB
          obtain ⟨hP, hD⟩ := wrJ (ws := RW G h ad r9) (w1 := RW G h ad r12) ht hFc hB
          have hP : va_P G.1 vwCl (RW G h ad r12) H1 := hP
          have hD : va_D A (RW G h ad r12) := hD
          clear hB hk1 hFc ht hz1 hvm
          generalize H1 = H at hP hS ⊢
          have w13 := hw; clear hw
          have okr12 : rOK rlo rhi r12 := w13.1
          exact W.vret hx hb hr (fun t ht hW => ⟨⟨r12, rfl, by exact ⟨okr12, ⟨by rw [w13.2.1 7 (by decide)]; exact l7, fun k a b => by rw [w13.2.1 6 (by decide)]; exact y6 k a b, fun cv a b => by rw [w13.2.1 3 (by decide), yq 3 (by decide) (by decide) (by decide)]; exact brkLake hI hnk hpl hpn cv a b, by rw [w13.2.1 9 (by decide)]; exact y9, by rw [w13.2.1 0 (by decide), yq 0 (by decide) (by decide) (by decide), hfr 0 (by decide) (by decide)], by rw [w13.2.1 1 (by decide), yq 1 (by decide) (by decide) (by decide), hfr 1 (by decide) (by decide)], by rw [w13.2.1 2 (by decide), yq 2 (by decide) (by decide) (by decide), hfr 2 (by decide) (by decide)], by rw [w13.2.1 4 (by decide), yq 4 (by decide) (by decide) (by decide), hfr 4 (by decide) (by decide)], by rw [w13.2.1 5 (by decide), yq 5 (by decide) (by decide) (by decide), hfr 5 (by decide) (by decide)], by rw [w13.2.1 8 (by decide), yq 8 (by decide) (by decide) (by decide), hfr 8 (by decide) (by decide)]⟩, w13.2.2⟩, by rw [ht]; exact hP, hD⟩, hS.F ht⟩) hS.2.2 dX1_breakThrough_114
        · skip
          refine lv_aload_n hx hb dX1_breakThrough_19 rfl (lv_at hl 0 rfl) ?_
          refine lv_iload_n hx hb dX1_breakThrough_20 rfl (lv_at hl 3 rfl) ?_
          refine vp_callSi (va_Run.run (va_runV (As := [.int (iI (kv))]) (rest := []) ⟨hx, hb, hml, hown, hts⟩ (c_X1_cellAt l G h ad r1 (kv) (i32_mk (by omega) (by omega)) (by assumption)) (cwV 1 hts gX1_breakThrough_X1_cellAt rfl rfl rfl (by decide +kernel) ⟨Nat.le_of_ble_eq_true rfl, Nat.le_of_ble_eq_true rfl⟩) (rdV (wc := RW G h ad r1) hK hP hN [0, 1, 2, 3, 4, 5, 6, 7, 8, 9, 10, 11] rfl (ci := 1) rfl rfl) rfl rfl hl.1 rfl (lv_room (Nat.le_of_ble_eq_true rfl)) dX1_breakThrough_21 ⟨(Nat.zero_le _), (Nat.zero_le _)⟩)) (fun q14 hq14 => ?_)
          subst hq14
          refine mf_nm (fun y15 ey15 => ?_)
          have b16 : -1 ≤ y15 ∧ y15 ≤ 383 := by rw [ey15]; exact cellAtF_b (by assumption) kv
          refine mf_top (y15) (r 6 kv) (by rw [ey15, cellAtF_cg (hfr 6 (by decide) (by decide)) (hfr 7 (by decide) (by decide)), cellAtF_in (by omega) (by omega)]) ?_
          have bl : (0 : Int) ≤ r 6 kv ∧ r 6 kv ≤ 383 := ok 6 kv
          skip
          refine lv_istore (lv' := [(4, .int (iI (r 6 kv))), (0, .ref h), (1, .int (iI (iv))), (2, .int (iI (jv))), (3, .int (iI (kv)))]) hx hb dX1_breakThrough_24 hl (by decide) rfl (fun ls hl => ?_)
          refine lv_iload hx hb dX1_breakThrough_26 (lv_at hl 0 rfl) ?_
          refine vp_callSi (va_Run.run (va_runSN (As := [.int (iI (r 6 kv))]) (rest := []) ⟨hx, hb, hml, hown, hts⟩ (c_X2_isCell l (r 6 kv) (i32_mk (by omega) (by omega))) ⟨(va_cnB 1 hts gX1_breakThrough_X2_isCell_n70 rfl rfl rfl (hN.m 27 rfl) (hts (.initialized RX2) (List.mem_of_getElem? (i := 21) rfl)) (by decide +kernel) ⟨Nat.le_of_ble_eq_true rfl, Nat.le_of_ble_eq_true rfl⟩), (hts (.static yX2_isCell) (List.mem_of_getElem? (i := 30) rfl)), trivial⟩ pureS rfl rfl hl.1 rfl (lv_room (Nat.le_of_ble_eq_true rfl)) dX1_breakThrough_28 ⟨(Nat.zero_le _), (Nat.zero_le _)⟩)) (fun q17 hq17 => ?_)
          subst hq17
          refine mf_bp_eq (tgt := 56) hx hb dX1_breakThrough_31 (by decide) (fun c18 => ?_) (fun c18 => ?_)
          · skip
            exact absurd (And.intro (by omega) (by omega)) c18
          · skip
            refine lv_aload_n hx hb dX1_breakThrough_34 rfl (lv_at hl 1 rfl) ?_
            refine va_get (D := G.1) (ci := 1) (v := .ref (ad 10)) (C := RX1) (T := TX1) (N := 14) hx hb hts hinX1 hown hK hP 0 rfl rfl 10 (by decide) (hts (.fieldLink RX1 34 "MeanderFarm$River" "place" "[I") (List.mem_of_getElem? (i := 1) rfl)) (fun _ h9 => h9) rfl dX1_breakThrough_35 ?_
            refine lv_iload hx hb dX1_breakThrough_38 (lv_at hl 0 rfl) ?_
            refine mf_iconst hx hb dX1_breakThrough_40 ?_
            refine mf_iast (n := 384) (f := r1 10) hx hb hK hP hD hS 8 0 rfl rfl (z := r 6 kv) (x := (-1)) (by omega) (by omega) (by decide) dX1_breakThrough_41 (fun H locs hP hD hS => ?_)
            obtain ⟨r19, er19⟩ : ∃ q : mf_V, q = mf_sF r1 10 (mf_up (r1 10) (r 6 kv) ((-1))) := ⟨_, rfl⟩
            have hP : va_P G.1 vwCl (RW G h ad r19) H := by rw [er19]; exact hP
            have hD : va_D A (RW G h ad r19) := by rw [er19]; exact hD
            have okr19 : rOK rlo rhi r19 := by rw [er19]; exact rOK_up okr1 10 _ _ (show (-1 : Int) ≤ (-1) by omega) (show (-1) ≤ (149 : Int) by omega)
            have f1_r19 : r19 10 (r 6 kv) = (-1) := by rw [er19, mf_sF_s, mf_up_s]
            have f2_r19 : ∀ y, y ≠ (r 6 kv) → r19 10 y = r1 10 y := fun y hy => by rw [er19, mf_sF_s, mf_up_n hy]
            have f3_r19 : ∀ q, q ≠ 10 → r19 q = r1 q := fun q hq => by rw [er19, mf_sF_n hq]
            refine lv_aload_n hx hb dX1_breakThrough_42 rfl (lv_at hl 1 rfl) ?_
            refine va_get (D := G.1) (ci := 1) (v := .ref (ad 3)) (C := RX1) (T := TX1) (N := 14) hx hb hts hinX1 hown hK hP 0 rfl rfl 3 (by decide) (hts (.fieldLink RX1 22 "MeanderFarm$River" "lakeEnd" "[I") (List.mem_of_getElem? (i := 2) rfl)) (fun _ h9 => h9) rfl dX1_breakThrough_43 ?_
            refine lv_iload hx hb dX1_breakThrough_46 (lv_at hl 0 rfl) ?_
            refine lv_aload_n hx hb dX1_breakThrough_48 rfl (lv_at hl 1 rfl) ?_
            refine va_get (D := G.1) (ci := 1) (v := .int (iI (r19 8 0))) (C := RX1) (T := TX1) (N := 14) hx hb hts hinX1 hown hK hP 0 rfl rfl 8 (by decide) (hts (.fieldLink RX1 60 "MeanderFarm$River" "year" "I") (List.mem_of_getElem? (i := 3) rfl)) (fun _ h9 => h9) rfl dX1_breakThrough_49 ?_
            refine mf_top (r19 8 0) (r 8 0) (by rw [f3_r19 8 (by decide), hfr 8 (by decide) (by decide)]) ?_
            have b20 : (0 : Int) ≤ r 8 0 ∧ r 8 0 ≤ 90000 := ok 8 (0)
            refine mf_bipush hx hb dX1_breakThrough_52 rfl ?_
            refine mf_iadd hx hb dX1_breakThrough_54 ?_
            refine mf_iast (n := 384) (f := r19 3) hx hb hK hP hD hS 4 0 rfl rfl (z := r 6 kv) (x := (r 8 0) + 10) (by omega) (by omega) (by decide) dX1_breakThrough_55 (fun H locs hP hD hS => ?_)
            obtain ⟨r21, er21⟩ : ∃ q : mf_V, q = mf_sF r19 3 (mf_up (r19 3) (r 6 kv) ((r 8 0) + 10)) := ⟨_, rfl⟩
            have hP : va_P G.1 vwCl (RW G h ad r21) H := by rw [er21]; exact hP
            have hD : va_D A (RW G h ad r21) := by rw [er21]; exact hD
            have okr21 : rOK rlo rhi r21 := by rw [er21]; exact rOK_up okr19 3 _ _ (show (0 : Int) ≤ (r 8 0) + 10 by omega) (show (r 8 0) + 10 ≤ (100000 : Int) by omega)
            have f1_r21 : r21 3 (r 6 kv) = (r 8 0) + 10 := by rw [er21, mf_sF_s, mf_up_s]
            have f2_r21 : ∀ y, y ≠ (r 6 kv) → r21 3 y = r19 3 y := fun y hy => by rw [er21, mf_sF_s, mf_up_n hy]
            have f3_r21 : ∀ q, q ≠ 3 → r21 q = r19 q := fun q hq => by rw [er21, mf_sF_n hq]
            refine lv_iinc (v := iI (kv + 1)) (lv' := [(3, .int (iI (kv + 1))), (4, .int (iI (r 6 kv))), (0, .ref h), (1, .int (iI (iv))), (2, .int (iI (jv)))]) hx hb dX1_breakThrough_56 hl (k := 4) rfl (iI_add _ _).symm (by decide) rfl (fun ls hl => ?_)
            refine lv_goto (tgt := 14) hx hb dX1_breakThrough_59 (by decide) ?_
            exact ih14 (kv + 1) r21 (by omega) (by first | assumption | omega) (by first | assumption | omega) (by intro q h1 h2; rw [f3_r21 q h2, f3_r19 q h1]; exact hfr q h1 h2) (by intro cv hcv; obtain ⟨k, k0, k1, k2⟩ := hcv; by_cases z : cv = r 6 kv; (rw [z]; exact ⟨by rw [f3_r21 10 (by decide)]; exact f1_r19, f1_r21⟩); (have g := hpl cv ⟨k, k0, by rcases (show k < kv ∨ k = kv by omega) with y | y; (exact y); (rw [y] at k2; exact absurd k2.symm z), k2⟩; rw [f3_r21 10 (by decide), f2_r19 cv z, f2_r21 cv z, f3_r19 3 (by decide)]; exact g)) (by intro cv hcv; have z : ¬ cv = r 6 kv := fun y => hcv kv (by omega) (by omega) y.symm; have g := hpn cv (fun k x y => hcv k x (by omega)); rw [f3_r21 10 (by decide), f2_r19 cv z, f2_r21 cv z, f3_r19 3 (by decide)]; exact g) _ _ hP hD hS ls (lv_sub hl [2, 3, 4, 0] rfl)
    exact lp14 (_ + 1) (iv + 1) r (Nat.lt_succ_self _) (by first | assumption | omega) (by first | assumption | omega) (by intro q _ _; rfl) (by intro cv hcv; obtain ⟨k, k0, k1, -⟩ := hcv; omega) (by intro cv _; exact ⟨rfl, rfl⟩) _ _ hP hD hS ls (lv_sub hl [1, 2, 3, 0] rfl)
  · skip
    exact absurd hnk c2
end
section
/-! 18.flood: a flood -/
theorem farG_mem (r : mf_V) (i : Int) : ∀ n : Nat, farG r i n = -1 ∨ ∃ d, farG r i n = placeOfF r (nbr (cellAtF r i) d) ∧ 3 ≤ farG r i n - i := by
  intro n
  induction n with
  | zero => exact Or.inl rfl
  | succ n ih =>
    rw [show ((n + 1 : Nat) : Int) = (n : Int) + 1 from rfl, farG_s r i (by omega)]
    by_cases q : 3 ≤ placeOfF r (nbr (cellAtF r i) n) - i ∧ farG r i n < placeOfF r (nbr (cellAtF r i) n)
    · rw [mf_if_t q]; exact Or.inr ⟨n, rfl, q.1⟩
    · rw [mf_if_f q]; exact ih
theorem farF_neck {r : mf_V} (hI : RInv r) {i : Int} (h0 : 0 ≤ i) (h1 : i < r 7 0) (h : ¬ farF r i = -1) : neckP r i (farF r i) := by
  rcases farG_mem r i 4 with z | ⟨d, z1, z2⟩
  · exact absurd z h
  · have e : farF r i = placeOfF r (nbr (cellAtF r i) d) := z1
    have e2 : 3 ≤ farF r i - i := z2
    rw [cellAtF_in h0 h1] at e
    by_cases q : 0 ≤ nbr (r 6 i) d ∧ nbr (r 6 i) d < 384
    · have e3 : farF r i = r 10 (nbr (r 6 i) d) := by rw [e]; exact mf_if_t q
      rcases hI.2.2.1.2 _ q.1 q.2 with y | ⟨y1, y2, y3⟩
      · omega
      · rw [← e3] at y1 y2 y3
        refine ⟨inC_mk h0 h1, inC_mk y1 y2, e2, ?_⟩
        rw [y3]
        exact adj_of rfl (by omega)
    · have e3 : farF r i = -1 := by rw [e]; exact mf_if_f q
      omega
theorem widG_mem (r : mf_V) : ∀ n : Nat, (widG r n).1 = -1 ∨ (0 ≤ (widG r n).1 ∧ (widG r n).1 < n ∧ farF r (widG r n).1 - (widG r n).1 = (widG r n).2 ∧ 0 < (widG r n).2) := by
  intro n
  induction n with
  | zero => exact Or.inl rfl
  | succ n ih =>
    rw [show ((n + 1 : Nat) : Int) = (n : Int) + 1 from rfl]
    have b : 0 ≤ (widG r n).2 := by
      clear ih
      induction n with
      | zero => rw [show ((0 : Nat) : Int) = 0 from rfl, widG_0]; decide
      | succ n ih =>
        rw [show ((n + 1 : Nat) : Int) = (n : Int) + 1 from rfl]
        by_cases q : (widG r n).2 < farF r n - n
        · rw [widG_t r (by omega) q]; dsimp only; omega
        · rw [widG_f r (by omega) q]; exact ih
    by_cases q : (widG r n).2 < farF r n - n
    · rw [widG_t r (by omega) q]; dsimp only; exact Or.inr ⟨by omega, by omega, rfl, by omega⟩
    · rw [widG_f r (by omega) q]
      rcases ih with z | ⟨z1, z2, z3, z4⟩
      · exact Or.inl z
      · exact Or.inr ⟨z1, by omega, z3, z4⟩
theorem widF_neck {r : mf_V} (hI : RInv r) (h : ¬ widF r = -1) : (0 ≤ widF r ∧ widF r < r 7 0) ∧ neckP r (widF r) (farF r (widF r)) := by
  have h2 := hI.1.1
  obtain ⟨n, hn⟩ := Int.eq_ofNat_of_zero_le (show 0 ≤ r 7 0 by omega)
  have g := widG_mem r n
  unfold widF at h ⊢
  rw [hn] at h ⊢
  rcases g with z | ⟨z1, z2, z3, z4⟩
  · exact absurd z h
  · exact ⟨⟨z1, z2⟩, farF_neck hI z1 (by omega) (by omega)⟩
/-- a flood of n breaks -/
def FloodN : Nat → mf_V → mf_V → Prop
  | 0, r, q => widF r = -1 ∧ q = r
  | n + 1, r, q => ¬ widF r = -1 ∧ ∃ r1, Brk r (widF r) (farF r (widF r)) r1 ∧ rOK rlo rhi r1 ∧ RInv r1 ∧ FloodN n r1 q
def Flood (r q : mf_V) : Prop := ∃ n, FloodN n r q
def fr6 (r q : mf_V) : Prop := q 0 = r 0 ∧ q 1 = r 1 ∧ q 2 = r 2 ∧ q 4 = r 4 ∧ q 5 = r 5 ∧ q 8 = r 8
theorem Brk_fr6 {r q : mf_V} {i j : Int} (h : Brk r i j q) : fr6 r q := ⟨h.2.2.2.2.1, h.2.2.2.2.2.1, h.2.2.2.2.2.2.1, h.2.2.2.2.2.2.2.1, h.2.2.2.2.2.2.2.2.1, h.2.2.2.2.2.2.2.2.2⟩
theorem fr6_t {r q s : mf_V} (h : fr6 r q) (h2 : fr6 q s) : fr6 r s := ⟨h2.1.trans h.1, h2.2.1.trans h.2.1, h2.2.2.1.trans h.2.2.1, h2.2.2.2.1.trans h.2.2.2.1, h2.2.2.2.2.1.trans h.2.2.2.2.1, h2.2.2.2.2.2.trans h.2.2.2.2.2⟩
theorem fr6_r (r : mf_V) : fr6 r r := ⟨rfl, rfl, rfl, rfl, rfl, rfl⟩
theorem FloodN_fr6 : ∀ (n : Nat) {r q : mf_V}, FloodN n r q → fr6 r q
  | 0, r, q, h => by obtain ⟨-, rfl⟩ := h; exact fr6_r _
  | n + 1, r, q, h => by obtain ⟨-, r1, h1, -, -, h2⟩ := h; exact fr6_t (Brk_fr6 h1) (FloodN_fr6 n h2)
set_option maxHeartbeats 4000000 in
set_option maxRecDepth 100000 in
theorem c_X1_flood (l : Launch) (G : mf_G) (h : Nat) (ad : Nat → Nat) (r : mf_V)  (ok : rOK rlo rhi r) (hI : RInv r) (hbk : r 9 0 + 150 ≤ 100000000) (sz : Nat) : Met l yX1_flood wsX1_flood ({ frames := 4, cells := 0, slots := 0, locals := 92 }) (va_Pc [.ref h] (WrP G (RW G h ad r) sz)) (va_Qv (fun (r' : mf_V) => rOK rlo rhi r' ∧ Flood r r' ∧ RInv r' ∧ fr6 r r' ∧ r' 9 0 ≤ r 9 0 + 150) (fun (r' : mf_V) t => WrQ G (va_A (RW G h ad r) sz) (RW G h ad r') t) (va_A (RW G h ad r) sz)) 0 0 (va_A (RW G h ad r) sz) := by
  refine Met.ofW (cc := cX1_flood) (maxL := 3) (ret := none) (by decide) rfl ?_
  intro p e s m args below meth c s₁ B hml hv
  obtain ⟨rfl, hsz, hP, hK, hD0, hN⟩ := hv
  have hx := B.exec
  have hb := B.bytes
  have hr := B.returns
  have hts := atoms_spec (ws := wsX1_flood) B.pre
  have hown : s.vm.findClass RX1 = some m.cls := findClass_of_methodNamed B.named
  have hlocks := B.notSynchronized
  subst hsz
  have hD := hD0.self (sz := s.heap.size)
  generalize hAe : va_A (RW G h ad r) s.heap.size = A at hD ⊢
  have hA : ∀ q : Nat, s.heap.size ≤ q → A q := fun q h => by rw [← hAe]; exact Or.inr h
  have hS : va_S A s.heap s.heap [] := va_S.rf
  have hl := lv_entry ([.ref h]) (n := 3) (Nat.le_of_ble_eq_true rfl)
  rw [lg_entry_eq]
  generalize (lg_sl ([.ref h]) ++ List.replicate (3 - (lg_sl ([.ref h])).length) Slot.unset).toArray = ls at hl ⊢
  have hl : lv_has ls 3 [(0, .ref h)] := hl
  have okLr : (0 : Int) ≤ r 7 0 ∧ r 7 0 ≤ 150 := ok 7 0
  refine mf_iconst hx hb dX1_flood_0 ?_
  refine lv_istore_n (lv' := [(1, .int (iI (0))), (0, .ref h)]) hx hb dX1_flood_1 rfl hl (by decide) rfl (fun ls hl => ?_)
  have lp2 : ∀ (n : Nat) (kv : Int) (r1 : mf_V), (150 - kv).toNat < n → (0 ≤ kv) → (rOK rlo rhi r1) → (RInv r1) → (r1 7 0 + 2 * kv ≤ r 7 0) → (r1 9 0 + r1 7 0 ≤ r 9 0 + r 7 0) → (fr6 r r1) → (∀ n q, FloodN n r1 q → ∃ m, FloodN m r q) → ∀ (H : Heap) (locs : List Loc), va_P G.1 vwCl (RW G h ad r1) H → va_D A (RW G h ad r1) → va_S A s.heap H locs → ∀ (ls : Array Slot), lv_has ls 3 [(0, .ref h), (1, .int (iI (kv)))] → W p l e (headSpec wsX1_flood ({ frames := 4, cells := 0, slots := 0, locals := 92 })).room s m ([.ref h] : List Value).toArray below meth c H locs 0 0 (MQ below (va_Qv (fun (r' : mf_V) => rOK rlo rhi r' ∧ Flood r r' ∧ RInv r' ∧ fr6 r r' ∧ r' 9 0 ≤ r 9 0 + 150) (fun (r' : mf_V) t => WrQ G A (RW G h ad r') t) A) ([.ref h] : List Value).toArray s 0 0 A) (F0 m 2 ls []) := by
    intro n
    induction n with
    | zero => intro kv r1 hn; exact absurd hn (Nat.not_lt_zero _)
    | succ n ih2 =>
      intro kv r1 hn hk okr1 hI1 hlen hbr hfr hs H locs hP hD hS ls hl
      have hl1 := hI1.1.1
      have hl2 : (0 : Int) ≤ r1 7 0 ∧ r1 7 0 ≤ 150 := okr1 7 0
      refine lv_iload_n hx hb dX1_flood_2 rfl (lv_at hl 1 rfl) ?_
      refine mf_sipush hx hb dX1_flood_3 rfl ?_
      refine mf_icmp_ge (tgt := 36) hx hb dX1_flood_6 (by decide) (i32_mk (by omega) (by omega)) (i32_mk (by decide) (by decide)) (fun c1 => ?_) (fun c1 => ?_)
      · skip
        exact absurd c1 (by omega)
      · skip
        refine lv_aload_n hx hb dX1_flood_9 rfl (lv_at hl 0 rfl) ?_
        refine vp_callSi (va_Run.run (va_runV (As := []) (rest := []) ⟨hx, hb, hml, hown, hts⟩ (c_X1_widestNeck l G h ad r1 (by assumption)) (cwV 0 hts gX1_flood_X1_widestNeck rfl rfl rfl (by decide +kernel) ⟨Nat.le_of_ble_eq_true rfl, Nat.le_of_ble_eq_true rfl⟩) (rdV (wc := RW G h ad r1) hK hP hN [0, 1, 2, 3, 4, 5, 6, 7, 8, 9, 10, 11] rfl (ci := 1) rfl rfl) rfl rfl hl.1 rfl (lv_room (Nat.le_of_ble_eq_true rfl)) dX1_flood_10 ⟨(Nat.zero_le _), (Nat.zero_le _)⟩)) (fun q2 hq2 => ?_)
        subst hq2
        refine mf_nm (fun y3 ey3 => ?_)
        have b4 : -1 ≤ y3 ∧ y3 ≤ 149 := by rw [ey3]; exact widF_b (by assumption)
        refine lv_istore_n (lv' := [(2, .int (iI (y3))), (0, .ref h), (1, .int (iI (kv)))]) hx hb dX1_flood_13 rfl hl (by decide) rfl (fun ls hl => ?_)
        refine lv_iload_n hx hb dX1_flood_14 rfl (lv_at hl 0 rfl) ?_
        refine mf_iconst hx hb dX1_flood_15 ?_
        refine mf_icmp_ne (tgt := 20) hx hb dX1_flood_16 (by decide) (i32_mk (by omega) (by omega)) (i32_mk (by decide) (by decide)) (fun c5 => ?_) (fun c5 => ?_)
        · skip
          refine lv_aload_n hx hb dX1_flood_20 rfl (lv_at hl 1 rfl) ?_
          refine lv_iload_n hx hb dX1_flood_21 rfl (lv_at hl 0 rfl) ?_
          refine lv_aload_n hx hb dX1_flood_22 rfl (lv_at hl 1 rfl) ?_
          refine lv_iload_n hx hb dX1_flood_23 rfl (lv_at hl 0 rfl) ?_
          refine vp_callSi (va_Run.run (va_runV (As := [.int (iI (y3))]) (rest := [.int (iI (y3)), .ref h]) ⟨hx, hb, hml, hown, hts⟩ (c_X1_farthestAcross l G h ad r1 (y3) (i32_mk (by omega) (by omega)) (by assumption) (by first | assumption | omega)) (cwV 1 hts gX1_flood_X1_farthestAcross rfl rfl rfl (by decide +kernel) ⟨Nat.le_of_ble_eq_true rfl, Nat.le_of_ble_eq_true rfl⟩) (rdV (wc := RW G h ad r1) hK hP hN [0, 1, 2, 3, 4, 5, 6, 7, 8, 9, 10, 11] rfl (ci := 1) rfl rfl) rfl rfl hl.1 rfl (lv_room (Nat.le_of_ble_eq_true rfl)) dX1_flood_24 ⟨(Nat.zero_le _), (Nat.zero_le _)⟩)) (fun q6 hq6 => ?_)
          subst hq6
          refine mf_nm (fun y7 ey7 => ?_)
          have b8 : -1 ≤ y7 ∧ y7 ≤ 149 := by rw [ey7]; exact farF_b (by assumption) y3
          have hw := widF_neck hI1 (by rw [← ey3]; assumption)
          rw [← ey3, ← ey7] at hw
          have l7 := neckP_w hw.2
          have l6 : (0 : Int) ≤ r1 9 0 ∧ r1 9 0 ≤ 100000000 := okr1 9 0
          have hFc := va_free (wc := RW G h ad r1) hD hS hA [0, 1, 2, 3, 4, 5, 6, 7, 8, 9, 10, 11] rfl
          refine va_callv (va_runV (As := [.int (iI (y3)), .int (iI (y7))]) (rest := []) ⟨hx, hb, hml, hown, hts⟩ (c_X1_breakThrough l G h ad r1 (y3) (y7) (i32_mk (by omega) (by omega)) (i32_mk (by omega) (by omega)) (by assumption) (by first | assumption | omega) (by exact hw.2) (by first | assumption | omega) _) (cwV 2 hts gX1_flood_X1_breakThrough rfl rfl rfl (by decide +kernel) ⟨Nat.le_of_ble_eq_true rfl, Nat.le_of_ble_eq_true rfl⟩) (wrV (wc := RW G h ad r1) hK hP hD hN [0, 1, 2, 3, 4, 5, 6, 7, 8, 9, 10, 11] (by decide) rfl rfl (ci := 1) rfl rfl) rfl rfl hl.1 rfl (lv_room (Nat.le_of_ble_eq_true rfl)) dX1_flood_27 ⟨(Nat.zero_le _), (Nat.zero_le _)⟩) hS (fun q _ h => hFc q h) hFc (fun u10 t H1 locs ht hvm hw hB hz1 hk1 hS => ?_)
          obtain ⟨r11, rfl⟩ : ∃ z, z = u10 := ⟨_, rfl⟩
          try dsimp only at hw hB
          obtain ⟨hP, hD⟩ := wrJ (ws := RW G h ad r1) (w1 := RW G h ad r11) ht hFc hB
          have hP : va_P G.1 vwCl (RW G h ad r11) H1 := hP
          have hD : va_D A (RW G h ad r11) := hD
          clear hB hk1 hFc ht hz1 hvm
          generalize H1 = H at hP hS ⊢
          have w12 := hw; clear hw
          have okr11 : rOK rlo rhi r11 := w12.1
          have l9 := w12.2.1.1
          have l8 := w12.2.1.2.2.2.1
          refine lv_iinc (v := iI (kv + 1)) (lv' := [(1, .int (iI (kv + 1))), (2, .int (iI (y3))), (0, .ref h)]) hx hb dX1_flood_30 hl (k := 2) rfl (iI_add _ _).symm (by decide) rfl (fun ls hl => ?_)
          refine lv_goto (tgt := 2) hx hb dX1_flood_33 (by decide) ?_
          exact ih2 (kv + 1) r11 (by omega) (by first | assumption | omega) (by first | assumption | omega) (by exact w12.2.2) (by first | assumption | omega) (by first | assumption | omega) (by exact fr6_t hfr (Brk_fr6 w12.2.1)) (by intro n q hq; exact hs (n + 1) q ⟨by rw [← ey3]; assumption, r11, by rw [← ey3, ← ey7]; exact w12.2.1, w12.1, w12.2.2, hq⟩) _ _ hP hD hS ls (lv_sub hl [2, 0] rfl)
        · skip
          exact W.vret hx hb hr (fun t ht hW => ⟨⟨r1, rfl, by exact ⟨okr1, hs 0 r1 ⟨by rw [← ey3]; assumption, rfl⟩, hI1, hfr, by omega⟩, by rw [ht]; exact hP, hD⟩, hS.F ht⟩) hS.2.2 dX1_flood_19
  exact lp2 (_ + 1) 0 r (Nat.lt_succ_self _) (by first | assumption | omega) (by first | assumption | omega) (by first | assumption | omega) (by first | assumption | omega) (by first | assumption | omega) (by exact fr6_r _) (by intro n q hq; exact ⟨n, hq⟩) _ _ hP hD hS ls (lv_sub hl [1, 0] rfl)
end
section
/-! 19.year: a year's wear, and its bulge -/
theorem xor_nn {x y : Int} (h0 : 0 ≤ x) (h1 : x < 2147483648) (h2 : 0 ≤ y) (h3 : y < 2147483648) : (0 : Int32) ≤ iI x ^^^ iI y := by
  have a : (iI x).toBitVec.msb = false := by
    have := iI_toInt (z := x) (i32_mk (by omega) h1)
    rw [BitVec.msb_eq_false_iff_two_mul_lt]
    have e : (iI x).toBitVec.toInt = x := this
    rw [BitVec.toInt_eq_toNat_cond] at e
    split at e <;> omega
  have b : (iI y).toBitVec.msb = false := by
    have := iI_toInt (z := y) (i32_mk (by omega) h3)
    rw [BitVec.msb_eq_false_iff_two_mul_lt]
    have e : (iI y).toBitVec.toInt = y := this
    rw [BitVec.toInt_eq_toNat_cond] at e
    split at e <;> omega
  rw [Int32.le_iff_toInt_le]
  show (0 : Int) ≤ (iI x ^^^ iI y).toBitVec.toInt
  rw [Int32.toBitVec_xor, BitVec.toInt_eq_msb_cond, BitVec.msb_xor, a, b]
  simp
/-- a method of a class of which other methods are overridden -/
theorem metF_ofW {l : Launch} {y : MethodName} {ws ws' : List Cond} {rm : Room} {Pc : Array Value → State → Prop} {Qc : Array Value → State → Outcome → State → Prop} {mc ms : Nat} {free : Addr → Prop} {cc : ByteArray} {maxL : Nat} {ret : Option FieldType}
    (hy : plainFor y = true) (hw : ws = Cond.code y cc maxL ret :: ws')
    (body : ∀ p e s m args below meth c s₁, BodyLoose p l y (headSpec ws rm) cc maxL ret e s m args below meth c s₁ → c.maxLocals = maxL → Pc args s →
      W p l e (headSpec ws rm).room s m args below meth c s.heap [] 0 0 (MQ below Qc args s mc ms free) (entryFrame m args maxL)) : Met l y ws rm Pc Qc mc ms free := by
  refine MetFree.of_bodySF (code := cc) (maxLocals := maxL) (ret := ret) hy ?_ ?_
  · intro args s m h hn
    obtain ⟨meth, c, h1, h2, h3, h4, h5, h6, -, -⟩ := Cond.code_spec hn (atoms_spec (ws := ws) h _ (by rw [hw]; exact List.mem_cons_self))
    exact ⟨meth, c, h1, h2, h3, h4, h5, h6⟩
  · intro p e s m args below meth c s₁ B hml hP _
    have hh0 : s₁.heap = s.heap := by rw [B.state]; rfl
    obtain ⟨t, a1, o, b1, b2, b3⟩ := body p e s m args below meth c s₁ B hml hP s₁ hh0 (Stand.of_body B)
    exact ⟨t, o, a1, b1, b2, ⟨b3.1, b3.2⟩⟩
/-- the wear behind the first k cells -/
noncomputable def wearG (r : mf_V) (f k : Int) : Int → Int := Nat.rec (motive := fun _ => Int → Int) (r 1) (fun n w => @ite _ (openP r (r 13 n)) (Classical.propDecidable _) (mf_up w (r 13 n) (w (r 13 n) + f)) w) k.toNat
theorem wearG_0 (r : mf_V) (f : Int) : wearG r f 0 = r 1 := rfl
theorem wearG_s (r : mf_V) (f : Int) {k : Int} (h : 0 ≤ k) : wearG r f (k + 1) = @ite _ (openP r (r 13 k)) (Classical.propDecidable _) (mf_up (wearG r f k) (r 13 k) (wearG r f k (r 13 k) + f)) (wearG r f k) := by
  obtain ⟨n, rfl⟩ := Int.eq_ofNat_of_zero_le h
  unfold wearG
  rw [show ((n : Int) + 1).toNat = n + 1 by omega, show ((n : Int)).toNat = n by omega]
theorem wearG_t (r : mf_V) (f : Int) {k : Int} (h : 0 ≤ k) (q : openP r (r 13 k)) : wearG r f (k + 1) = mf_up (wearG r f k) (r 13 k) (wearG r f k (r 13 k) + f) := by rw [wearG_s r f h]; exact if_pos q
theorem wearG_f (r : mf_V) (f : Int) {k : Int} (h : 0 ≤ k) (q : ¬ openP r (r 13 k)) : wearG r f (k + 1) = wearG r f k := by rw [wearG_s r f h]; exact if_neg q
theorem openP_cg {r q : mf_V} (h10 : q 10 = r 10) (h2 : q 2 = r 2) {c : Int} : openP q c ↔ openP r c := by unfold openP; rw [h10, h2]
/-- whether the cell k is the ripest so far, with m the most so far -/
def ripP (r : mf_V) (k m : Int) : Prop := (0 ≤ r 13 k ∧ r 13 k < 384) ∧ 0 ≤ r 1 (r 13 k) - 10 * r 0 (r 13 k) ∧ m < r 1 (r 13 k) - 10 * r 0 (r 13 k) ∧ canB r k (r 12 k)
noncomputable def ripG (r : mf_V) (k : Int) : Int × Int := Nat.rec (motive := fun _ => Int × Int) (-1, -1) (fun n x => @ite _ (ripP r n x.2) (Classical.propDecidable _) ((n : Int), r 1 (r 13 n) - 10 * r 0 (r 13 n)) x) k.toNat
theorem ripG_0 (r : mf_V) : ripG r 0 = (-1, -1) := rfl
theorem ripG_s (r : mf_V) {k : Int} (h : 0 ≤ k) : ripG r (k + 1) = @ite _ (ripP r k (ripG r k).2) (Classical.propDecidable _) (k, r 1 (r 13 k) - 10 * r 0 (r 13 k)) (ripG r k) := by
  obtain ⟨n, rfl⟩ := Int.eq_ofNat_of_zero_le h
  unfold ripG
  rw [show ((n : Int) + 1).toNat = n + 1 by omega, show ((n : Int)).toNat = n by omega]
theorem ripG_t (r : mf_V) {k : Int} (h : 0 ≤ k) (q : ripP r k (ripG r k).2) : ripG r (k + 1) = (k, r 1 (r 13 k) - 10 * r 0 (r 13 k)) := by rw [ripG_s r h]; exact if_pos q
theorem ripG_f (r : mf_V) {k : Int} (h : 0 ≤ k) (q : ¬ ripP r k (ripG r k).2) : ripG r (k + 1) = ripG r k := by rw [ripG_s r h]; exact if_neg q
noncomputable def ripF (r : mf_V) : Int := (ripG r (r 7 0)).1
theorem RInv_cg {r q : mf_V} (h6 : q 6 = r 6) (h7 : q 7 = r 7) (h10 : q 10 = r 10) (h11 : q 11 = r 11) (h12 : q 12 = r 12) (h13 : q 13 = r 13) (h : RInv r) : RInv q := by
  obtain ⟨a, b, c, d⟩ := h
  refine ⟨?_, fun i h0 h1 => ?_, ?_, ?_⟩
  · unfold crsOK; rw [h6, h7]; exact a
  · rw [h7] at h1; rw [h11, h6, cellAtF_cg h6 h7]; exact b i h0 h1
  · unfold plOK; rw [h6, h7, h10]; exact c
  · unfold tOK; rw [h6, h7, h11, h12, h13]; exact d
set_option maxHeartbeats 4000000 in
set_option maxRecDepth 100000 in
theorem c_J9_floorMod_7cf53 (l : Launch) (xv : Int) (yv : Int) (hxv : i32 xv) (hyv : i32 yv) (hx0 : 0 ≤ xv) (hy0 : 0 < yv) : Met l yJ9_floorMod_7cf53 wsJ9_floorMod_7cf53 ({ frames := 0, cells := 0, slots := 0, locals := 0 }) (va_Pc [.int (iI (xv)), .int (iI (yv))] (fun _ => True)) (vp_Si (fun q => q = iI (xv % yv))) 0 0 (fun _ => False) := by
  refine metF_ofW (cc := cJ9_floorMod_7cf53) (maxL := 3) (ret := (some .int)) (by decide +kernel) rfl ?_
  intro p e s m args below meth c s₁ B hml hv
  obtain ⟨rfl, -⟩ := hv
  have hx := B.exec
  have hb := B.bytes
  have hr := B.returns
  have hts := atoms_spec (ws := wsJ9_floorMod_7cf53) B.pre
  have hown : s.vm.findClass RJ9 = some m.cls := findClass_of_methodNamed B.named
  have hlocks := B.notSynchronized
  have hl := lv_entry ([.int (iI (xv)), .int (iI (yv))]) (n := 3) (Nat.le_of_ble_eq_true rfl)
  rw [lg_entry_eq]
  generalize (lg_sl ([.int (iI (xv)), .int (iI (yv))]) ++ List.replicate (3 - (lg_sl ([.int (iI (xv)), .int (iI (yv))])).length) Slot.unset).toArray = ls at hl ⊢
  have hl : lv_has ls 3 [(0, .int (iI (xv))), (1, .int (iI (yv)))] := hl
  have hxv1 := hxv.1
  have hxv2 := hxv.2
  have hyv1 := hyv.1
  have hyv2 := hyv.2
  refine lv_iload_n hx hb dJ9_floorMod_7cf53_0 rfl (lv_at hl 0 rfl) ?_
  refine lv_iload_n hx hb dJ9_floorMod_7cf53_1 rfl (lv_at hl 1 rfl) ?_
  refine mf_irem hx hb dJ9_floorMod_7cf53_2 (i32_mk (by omega) (by omega)) (by omega) (i32_mk (by omega) (by omega)) (by omega) ?_
  refine lv_istore_n (lv' := [(2, .int (iI (xv % yv))), (0, .int (iI (xv))), (1, .int (iI (yv)))]) hx hb dJ9_floorMod_7cf53_3 rfl hl (by decide) rfl (fun ls hl => ?_)
  refine lv_iload_n hx hb dJ9_floorMod_7cf53_4 rfl (lv_at hl 1 rfl) ?_
  refine lv_iload_n hx hb dJ9_floorMod_7cf53_5 rfl (lv_at hl 2 rfl) ?_
  refine lv_ixor hx hb dJ9_floorMod_7cf53_6 ?_
  refine lv_if_ge (tgt := 18) hx hb dJ9_floorMod_7cf53_7 (by decide) (fun c1 => ?_) (fun c1 => ?_)
  · skip
    refine lv_iload_n hx hb dJ9_floorMod_7cf53_18 rfl (lv_at hl 0 rfl) ?_
    exact W.iret hx hb hr (fun t ht hW => ⟨_, rfl, (congrArg iI (by rfl)), ht⟩) t_nil dJ9_floorMod_7cf53_19
  · skip
    exact absurd (xor_nn hx0 hxv2 (by omega) hyv2) c1
set_option maxHeartbeats 4000000 in
set_option maxRecDepth 100000 in
theorem c_X1_wearBanks (l : Launch) (G : mf_G) (h : Nat) (ad : Nat → Nat) (r : mf_V)  (fv : Int) (hfv : i32 fv) (ok : rOK rlo rhi r) (hfl : 0 ≤ fv ∧ fv ≤ 9) (hwb : ∀ c, r 1 c + 1350 ≤ 200000000) (sz : Nat) : Met l yX1_wearBanks wsX1_wearBanks ({ frames := 2, cells := 0, slots := 0, locals := 41 }) (va_Pc [.ref h, .int (iI (fv))] (WrP G (RW G h ad r) sz)) (va_Qv (fun (r' : mf_V) => rOK rlo rhi r' ∧ (∀ q, q ≠ 1 → r' q = r q) ∧ r' 1 = wearG r fv (r 7 0) ∧ ∀ c, r' 1 c ≤ r 1 c + 1350) (fun (r' : mf_V) t => WrQ G (va_A (RW G h ad r) sz) (RW G h ad r') t) (va_A (RW G h ad r) sz)) 0 0 (va_A (RW G h ad r) sz) := by
  refine Met.ofW (cc := cX1_wearBanks) (maxL := 4) (ret := none) (by decide) rfl ?_
  intro p e s m args below meth c s₁ B hml hv
  obtain ⟨rfl, hsz, hP, hK, hD0, hN⟩ := hv
  have hx := B.exec
  have hb := B.bytes
  have hr := B.returns
  have hts := atoms_spec (ws := wsX1_wearBanks) B.pre
  have hown : s.vm.findClass RX1 = some m.cls := findClass_of_methodNamed B.named
  have hlocks := B.notSynchronized
  have hinX1 : ∀ w ∈ u_ws RX1 TX1 14, w ∈ wsX1_wearBanks := fun w h => List.mem_cons_of_mem _ (List.mem_append_right _ h)
  subst hsz
  have hD := hD0.self (sz := s.heap.size)
  generalize hAe : va_A (RW G h ad r) s.heap.size = A at hD ⊢
  have hA : ∀ q : Nat, s.heap.size ≤ q → A q := fun q h => by rw [← hAe]; exact Or.inr h
  have hS : va_S A s.heap s.heap [] := va_S.rf
  have hl := lv_entry ([.ref h, .int (iI (fv))]) (n := 4) (Nat.le_of_ble_eq_true rfl)
  rw [lg_entry_eq]
  generalize (lg_sl ([.ref h, .int (iI (fv))]) ++ List.replicate (4 - (lg_sl ([.ref h, .int (iI (fv))])).length) Slot.unset).toArray = ls at hl ⊢
  have hl : lv_has ls 4 [(0, .ref h), (1, .int (iI (fv)))] := hl
  have hfv1 := hfv.1
  have hfv2 := hfv.2
  have okLr : (0 : Int) ≤ r 7 0 ∧ r 7 0 ≤ 150 := ok 7 0
  refine mf_iconst hx hb dX1_wearBanks_0 ?_
  refine lv_istore_n (lv' := [(2, .int (iI (0))), (0, .ref h), (1, .int (iI (fv)))]) hx hb dX1_wearBanks_1 rfl hl (by decide) rfl (fun ls hl => ?_)
  have lp2 : ∀ (n : Nat) (kv : Int) (r1 : mf_V), (r 7 0 - kv).toNat < n → (0 ≤ kv ∧ kv ≤ r 7 0) → (rOK rlo rhi r1) → (∀ q, q ≠ 1 → r1 q = r q) → (r1 1 = wearG r fv kv) → (∀ c, r1 1 c ≤ r 1 c + 9 * kv) → ∀ (H : Heap) (locs : List Loc), va_P G.1 vwCl (RW G h ad r1) H → va_D A (RW G h ad r1) → va_S A s.heap H locs → ∀ (ls : Array Slot), lv_has ls 4 [(0, .ref h), (1, .int (iI (fv))), (2, .int (iI (kv)))] → W p l e (headSpec wsX1_wearBanks ({ frames := 2, cells := 0, slots := 0, locals := 41 })).room s m ([.ref h, .int (iI (fv))] : List Value).toArray below meth c H locs 0 0 (MQ below (va_Qv (fun (r' : mf_V) => rOK rlo rhi r' ∧ (∀ q, q ≠ 1 → r' q = r q) ∧ r' 1 = wearG r fv (r 7 0) ∧ ∀ c, r' 1 c ≤ r 1 c + 1350) (fun (r' : mf_V) t => WrQ G A (RW G h ad r') t) A) ([.ref h, .int (iI (fv))] : List Value).toArray s 0 0 A) (F0 m 2 ls []) := by
    intro n
    induction n with
    | zero => intro kv r1 hn; exact absurd hn (Nat.not_lt_zero _)
    | succ n ih2 =>
      intro kv r1 hn hk okr1 hfr hw hwk H locs hP hD hS ls hl
      refine lv_iload_n hx hb dX1_wearBanks_2 rfl (lv_at hl 2 rfl) ?_
      refine lv_aload_n hx hb dX1_wearBanks_3 rfl (lv_at hl 0 rfl) ?_
      refine va_get (D := G.1) (ci := 1) (v := .int (iI (r1 7 0))) (C := RX1) (T := TX1) (N := 14) hx hb hts hinX1 hown hK hP 0 rfl rfl 7 (by decide) (hts (.fieldLink RX1 46 "MeanderFarm$River" "length" "I") (List.mem_of_getElem? (i := 1) rfl)) (fun _ h9 => h9) rfl dX1_wearBanks_4 ?_
      refine mf_top (r1 7 0) (r 7 0) (by rw [hfr 7 (by decide)]) ?_
      have b1 : (0 : Int) ≤ r 7 0 ∧ r 7 0 ≤ 150 := ok 7 (0)
      refine mf_icmp_ge (tgt := 41) hx hb dX1_wearBanks_7 (by decide) (i32_mk (by omega) (by omega)) (i32_mk (by omega) (by omega)) (fun c2 => ?_) (fun c2 => ?_)
      · skip
        exact W.vret hx hb hr (fun t ht hW => ⟨⟨r1, rfl, by exact ⟨okr1, hfr, by rw [hw, show kv = r 7 0 by omega], fun cv => by have := hwk cv; omega⟩, by rw [ht]; exact hP, hD⟩, hS.F ht⟩) hS.2.2 dX1_wearBanks_41
      · skip
        refine lv_aload_n hx hb dX1_wearBanks_10 rfl (lv_at hl 0 rfl) ?_
        refine va_get (D := G.1) (ci := 1) (v := .ref (ad 13)) (C := RX1) (T := TX1) (N := 14) hx hb hts hinX1 hown hK hP 0 rfl rfl 13 (by decide) (hts (.fieldLink RX1 43 "MeanderFarm$River" "bank" "[I") (List.mem_of_getElem? (i := 2) rfl)) (fun _ h9 => h9) rfl dX1_wearBanks_11 ?_
        refine lv_iload_n hx hb dX1_wearBanks_14 rfl (lv_at hl 2 rfl) ?_
        refine mf_iald (n := 150) (f := r1 13) hx hb hK hP 11 0 rfl rfl (z := kv) (by omega) (by omega) (by decide) dX1_wearBanks_15 ?_
        refine mf_top (r1 13 kv) (r 13 kv) (by rw [hfr 13 (by decide)]) ?_
        have b3 : (-1 : Int) ≤ r 13 kv ∧ r 13 kv ≤ 383 := ok 13 (kv)
        refine lv_istore_n (lv' := [(3, .int (iI (r 13 kv))), (0, .ref h), (1, .int (iI (fv))), (2, .int (iI (kv)))]) hx hb dX1_wearBanks_16 rfl hl (by decide) rfl (fun ls hl => ?_)
        refine lv_aload_n hx hb dX1_wearBanks_17 rfl (lv_at hl 1 rfl) ?_
        refine lv_iload_n hx hb dX1_wearBanks_18 rfl (lv_at hl 0 rfl) ?_
        refine vp_callSi (va_Run.run (va_runV (As := [.int (iI (r 13 kv))]) (rest := []) ⟨hx, hb, hml, hown, hts⟩ (c_X1_isOpen l G h ad r1 (r 13 kv) (i32_mk (by omega) (by omega)) (by assumption)) (cwV 1 hts gX1_wearBanks_X1_isOpen rfl rfl rfl (by decide +kernel) ⟨Nat.le_of_ble_eq_true rfl, Nat.le_of_ble_eq_true rfl⟩) (rdV (wc := RW G h ad r1) hK hP hN [0, 1, 2, 3, 4, 5, 6, 7, 8, 9, 10, 11] rfl (ci := 1) rfl rfl) rfl rfl hl.1 rfl (lv_room (Nat.le_of_ble_eq_true rfl)) dX1_wearBanks_19 ⟨(Nat.zero_le _), (Nat.zero_le _)⟩)) (fun q4 hq4 => ?_)
        subst hq4
        refine mf_bp_eq (tgt := 35) hx hb dX1_wearBanks_22 (by decide) (fun c5 => ?_) (fun c5 => ?_)
        · skip
          have c5' := c5; unfold openP at c5'
          refine lv_iinc (v := iI (kv + 1)) (lv' := [(2, .int (iI (kv + 1))), (3, .int (iI (r 13 kv))), (0, .ref h), (1, .int (iI (fv)))]) hx hb dX1_wearBanks_35 hl (k := 3) rfl (iI_add _ _).symm (by decide) rfl (fun ls hl => ?_)
          refine lv_goto (tgt := 2) hx hb dX1_wearBanks_38 (by decide) ?_
          exact ih2 (kv + 1) r1 (by omega) (by first | assumption | omega) (by first | assumption | omega) (by exact hfr) (by rw [hw, wearG_f r fv (by omega) (fun z => absurd ((openP_cg (hfr 10 (by decide)) (hfr 2 (by decide))).mpr z) (by assumption))]) (by intro cv; have := hwk cv; omega) _ _ hP hD hS ls (lv_sub hl [2, 3, 0] rfl)
        · skip
          have c5' := c5; unfold openP at c5'
          have ho9 : openP r1 (r 13 kv) := by assumption
          unfold openP at ho9
          have hb9 := hwb (r 13 kv)
          have hk9 := hwk (r 13 kv)
          refine lv_aload_n hx hb dX1_wearBanks_25 rfl (lv_at hl 1 rfl) ?_
          refine va_get (D := G.1) (ci := 1) (v := .ref (ad 1)) (C := RX1) (T := TX1) (N := 14) hx hb hts hinX1 hown hK hP 0 rfl rfl 1 (by decide) (hts (.fieldLink RX1 15 "MeanderFarm$River" "wear" "[I") (List.mem_of_getElem? (i := 3) rfl)) (fun _ h9 => h9) rfl dX1_wearBanks_26 ?_
          refine lv_iload_n hx hb dX1_wearBanks_29 rfl (lv_at hl 0 rfl) ?_
          refine lv_dup2_11 hx hb dX1_wearBanks_30 rfl rfl ?_
          refine mf_iald (n := 384) (f := r1 1) hx hb hK hP 2 0 rfl rfl (z := r 13 kv) (by omega) (by omega) (by decide) dX1_wearBanks_31 ?_
          have b6 : (0 : Int) ≤ r1 1 (r 13 kv) ∧ r1 1 (r 13 kv) ≤ 200000000 := okr1 1 (r 13 kv)
          refine lv_iload_n hx hb dX1_wearBanks_32 rfl (lv_at hl 2 rfl) ?_
          refine mf_iadd hx hb dX1_wearBanks_33 ?_
          refine mf_iast (n := 384) (f := r1 1) hx hb hK hP hD hS 2 0 rfl rfl (z := r 13 kv) (x := (r1 1 (r 13 kv)) + fv) (by omega) (by omega) (by decide) dX1_wearBanks_34 (fun H locs hP hD hS => ?_)
          obtain ⟨r7, er7⟩ : ∃ q : mf_V, q = mf_sF r1 1 (mf_up (r1 1) (r 13 kv) ((r1 1 (r 13 kv)) + fv)) := ⟨_, rfl⟩
          have hP : va_P G.1 vwCl (RW G h ad r7) H := by rw [er7]; exact hP
          have hD : va_D A (RW G h ad r7) := by rw [er7]; exact hD
          have okr7 : rOK rlo rhi r7 := by rw [er7]; exact rOK_up okr1 1 _ _ (show (0 : Int) ≤ (r1 1 (r 13 kv)) + fv by omega) (show (r1 1 (r 13 kv)) + fv ≤ (200000000 : Int) by omega)
          have f1_r7 : r7 1 (r 13 kv) = (r1 1 (r 13 kv)) + fv := by rw [er7, mf_sF_s, mf_up_s]
          have f2_r7 : ∀ y, y ≠ (r 13 kv) → r7 1 y = r1 1 y := fun y hy => by rw [er7, mf_sF_s, mf_up_n hy]
          have f3_r7 : ∀ q, q ≠ 1 → r7 q = r1 q := fun q hq => by rw [er7, mf_sF_n hq]
          refine lv_iinc (v := iI (kv + 1)) (lv' := [(2, .int (iI (kv + 1))), (3, .int (iI (r 13 kv))), (0, .ref h), (1, .int (iI (fv)))]) hx hb dX1_wearBanks_35 hl (k := 3) rfl (iI_add _ _).symm (by decide) rfl (fun ls hl => ?_)
          refine lv_goto (tgt := 2) hx hb dX1_wearBanks_38 (by decide) ?_
          exact ih2 (kv + 1) r7 (by omega) (by first | assumption | omega) (by first | assumption | omega) (by intro q hq; rw [f3_r7 q hq]; exact hfr q hq) (by rw [er7, mf_sF_s, hw, wearG_t r fv (by omega) ((openP_cg (hfr 10 (by decide)) (hfr 2 (by decide))).mp (by assumption))]) (by intro cv; by_cases z : cv = r 13 kv; (rw [z, f1_r7]; have := hwk (r 13 kv); omega); (rw [f2_r7 cv z]; have := hwk cv; omega)) _ _ hP hD hS ls (lv_sub hl [2, 3, 0] rfl)
  exact lp2 (_ + 1) 0 r (Nat.lt_succ_self _) (by first | assumption | omega) (by first | assumption | omega) (by intro q _; rfl) (by rfl) (by intro cv; omega) _ _ hP hD hS ls (lv_sub hl [1, 2, 0] rfl)
set_option maxHeartbeats 4000000 in
set_option maxRecDepth 100000 in
theorem c_X1_bulgeWhereRipest (l : Launch) (G : mf_G) (h : Nat) (ad : Nat → Nat) (r : mf_V)  (ok : rOK rlo rhi r) (hI : RInv r) (sz : Nat) : Met l yX1_bulgeWhereRipest wsX1_bulgeWhereRipest ({ frames := 4, cells := 0, slots := 0, locals := 94 }) (va_Pc [.ref h] (WrP G (RW G h ad r) sz)) (va_Qi (fun q (r' : mf_V) => ∃ z : Int, q = iI z ∧ rOK rlo rhi r' ∧ RInv r' ∧ ((ripF r = -1 ∧ r' = r ∧ z = 0) ∨ (¬ ripF r = -1 ∧ Bul r (ripF r) (r 12 (ripF r)) r' ∧ z = 1)) ∧ (r' 0 = r 0 ∧ r' 2 = r 2 ∧ r' 5 = r 5 ∧ r' 8 = r 8 ∧ r' 9 = r 9) ∧ ∀ c, r' 1 c ≤ r 1 c) (fun (r' : mf_V) t => WrQ G (va_A (RW G h ad r) sz) (RW G h ad r') t) (va_A (RW G h ad r) sz)) 0 0 (va_A (RW G h ad r) sz) := by
  refine Met.ofW (cc := cX1_bulgeWhereRipest) (maxL := 6) (ret := (some .boolean)) (by decide) rfl ?_
  intro p e s m args below meth c s₁ B hml hv
  obtain ⟨rfl, hsz, hP, hK, hD0, hN⟩ := hv
  have hx := B.exec
  have hb := B.bytes
  have hr := B.returns
  have hts := atoms_spec (ws := wsX1_bulgeWhereRipest) B.pre
  have hown : s.vm.findClass RX1 = some m.cls := findClass_of_methodNamed B.named
  have hlocks := B.notSynchronized
  have hinX1 : ∀ w ∈ u_ws RX1 TX1 14, w ∈ wsX1_bulgeWhereRipest := fun w h => List.mem_cons_of_mem _ (List.mem_append_right _ h)
  subst hsz
  have hD := hD0.self (sz := s.heap.size)
  generalize hAe : va_A (RW G h ad r) s.heap.size = A at hD ⊢
  have hA : ∀ q : Nat, s.heap.size ≤ q → A q := fun q h => by rw [← hAe]; exact Or.inr h
  have hS : va_S A s.heap s.heap [] := va_S.rf
  have hl := lv_entry ([.ref h]) (n := 6) (Nat.le_of_ble_eq_true rfl)
  rw [lg_entry_eq]
  generalize (lg_sl ([.ref h]) ++ List.replicate (6 - (lg_sl ([.ref h])).length) Slot.unset).toArray = ls at hl ⊢
  have hl : lv_has ls 6 [(0, .ref h)] := hl
  have okLr : (0 : Int) ≤ r 7 0 ∧ r 7 0 ≤ 150 := ok 7 0
  have hdirE := (dLast hI.1 hI.2.1).2
  have hdirB : ∀ j, strP r j → 0 ≤ r 11 j := fun j hj => by have a := hdirE j (by have := hj.1; omega) (by have := hj.2.1; omega); have b : (-1 : Int) ≤ r 11 j ∧ r 11 j ≤ 3 := ok 11 j; omega
  refine mf_iconst hx hb dX1_bulgeWhereRipest_0 ?_
  refine lv_istore_n (lv' := [(1, .int (iI ((-1)))), (0, .ref h)]) hx hb dX1_bulgeWhereRipest_1 rfl hl (by decide) rfl (fun ls hl => ?_)
  refine mf_iconst hx hb dX1_bulgeWhereRipest_2 ?_
  refine lv_istore_n (lv' := [(2, .int (iI ((-1)))), (1, .int (iI ((-1)))), (0, .ref h)]) hx hb dX1_bulgeWhereRipest_3 rfl hl (by decide) rfl (fun ls hl => ?_)
  refine mf_iconst hx hb dX1_bulgeWhereRipest_4 ?_
  refine lv_istore_n (lv' := [(3, .int (iI (0))), (2, .int (iI ((-1)))), (1, .int (iI ((-1)))), (0, .ref h)]) hx hb dX1_bulgeWhereRipest_5 rfl hl (by decide) rfl (fun ls hl => ?_)
  have lp6 : ∀ (n : Nat) (bv : Int) (mv : Int) (kv : Int), (r 7 0 - kv).toNat < n → (0 ≤ kv ∧ kv ≤ r 7 0) → (-1 ≤ mv ∧ mv ≤ 200000000) → (-1 ≤ bv ∧ bv ≤ 150) → (bv = -1 ∨ (0 ≤ bv ∧ bv < kv ∧ canB r bv (r 12 bv))) → (bv = (ripG r kv).1) → (mv = (ripG r kv).2) → ∀ (H : Heap) (locs : List Loc), va_P G.1 vwCl (RW G h ad r) H → va_D A (RW G h ad r) → va_S A s.heap H locs → ∀ (ls : Array Slot), lv_has ls 6 [(0, .ref h), (1, .int (iI (bv))), (2, .int (iI (mv))), (3, .int (iI (kv)))] → W p l e (headSpec wsX1_bulgeWhereRipest ({ frames := 4, cells := 0, slots := 0, locals := 94 })).room s m ([.ref h] : List Value).toArray below meth c H locs 0 0 (MQ below (va_Qi (fun q (r' : mf_V) => ∃ z : Int, q = iI z ∧ rOK rlo rhi r' ∧ RInv r' ∧ ((ripF r = -1 ∧ r' = r ∧ z = 0) ∨ (¬ ripF r = -1 ∧ Bul r (ripF r) (r 12 (ripF r)) r' ∧ z = 1)) ∧ (r' 0 = r 0 ∧ r' 2 = r 2 ∧ r' 5 = r 5 ∧ r' 8 = r 8 ∧ r' 9 = r 9) ∧ ∀ c, r' 1 c ≤ r 1 c) (fun (r' : mf_V) t => WrQ G A (RW G h ad r') t) A) ([.ref h] : List Value).toArray s 0 0 A) (F0 m 6 ls []) := by
    intro n
    induction n with
    | zero => intro bv mv kv hn; exact absurd hn (Nat.not_lt_zero _)
    | succ n ih6 =>
      intro bv mv kv hn hk hmb hbb hcb hbx hm H locs hP hD hS ls hl
      refine lv_iload_n hx hb dX1_bulgeWhereRipest_6 rfl (lv_at hl 3 rfl) ?_
      refine lv_aload_n hx hb dX1_bulgeWhereRipest_7 rfl (lv_at hl 0 rfl) ?_
      refine va_get (D := G.1) (ci := 1) (v := .int (iI (r 7 0))) (C := RX1) (T := TX1) (N := 14) hx hb hts hinX1 hown hK hP 0 rfl rfl 7 (by decide) (hts (.fieldLink RX1 46 "MeanderFarm$River" "length" "I") (List.mem_of_getElem? (i := 1) rfl)) (fun _ h9 => h9) rfl dX1_bulgeWhereRipest_8 ?_
      have b1 : (0 : Int) ≤ r 7 0 ∧ r 7 0 ≤ 150 := ok 7 (0)
      refine mf_icmp_ge (tgt := 86) hx hb dX1_bulgeWhereRipest_11 (by decide) (i32_mk (by omega) (by omega)) (i32_mk (by omega) (by omega)) (fun c2 => ?_) (fun c2 => ?_)
      · skip
        refine lv_iload_n hx hb dX1_bulgeWhereRipest_86 rfl (lv_at hl 1 rfl) ?_
        refine mf_iconst hx hb dX1_bulgeWhereRipest_87 ?_
        refine mf_icmp_ne (tgt := 93) hx hb dX1_bulgeWhereRipest_88 (by decide) (i32_mk (by omega) (by omega)) (i32_mk (by decide) (by decide)) (fun c3 => ?_) (fun c3 => ?_)
        · skip
          rcases hcb with y9 | y9
          · exact absurd y9 (by assumption)
          refine lv_aload_n hx hb dX1_bulgeWhereRipest_93 rfl (lv_at hl 0 rfl) ?_
          refine lv_iload_n hx hb dX1_bulgeWhereRipest_94 rfl (lv_at hl 1 rfl) ?_
          refine lv_aload_n hx hb dX1_bulgeWhereRipest_95 rfl (lv_at hl 0 rfl) ?_
          refine va_get (D := G.1) (ci := 1) (v := .ref (ad 12)) (C := RX1) (T := TX1) (N := 14) hx hb hts hinX1 hown hK hP 0 rfl rfl 12 (by decide) (hts (.fieldLink RX1 40 "MeanderFarm$River" "thrown" "[I") (List.mem_of_getElem? (i := 5) rfl)) (fun _ h9 => h9) rfl dX1_bulgeWhereRipest_96 ?_
          refine lv_iload_n hx hb dX1_bulgeWhereRipest_99 rfl (lv_at hl 1 rfl) ?_
          refine mf_iald (n := 150) (f := r 12) hx hb hK hP 10 0 rfl rfl (z := bv) (by omega) (by omega) (by decide) dX1_bulgeWhereRipest_100 ?_
          have b4 : (-1 : Int) ≤ r 12 bv ∧ r 12 bv ≤ 3 := ok 12 (bv)
          have hFc := va_free (wc := RW G h ad r) hD hS hA [0, 1, 2, 3, 4, 5, 6, 7, 8, 9, 10, 11] rfl
          refine va_callv (va_runV (As := [.int (iI (bv)), .int (iI (r 12 bv))]) (rest := []) ⟨hx, hb, hml, hown, hts⟩ (c_X1_bulge l G h ad r (bv) (r 12 bv) (i32_mk (by omega) (by omega)) (i32_mk (by omega) (by omega)) (by assumption) (by first | assumption | omega) (by exact y9.2.2) _) (cwV 2 hts gX1_bulgeWhereRipest_X1_bulge rfl rfl rfl (by decide +kernel) ⟨Nat.le_of_ble_eq_true rfl, Nat.le_of_ble_eq_true rfl⟩) (wrV (wc := RW G h ad r) hK hP hD hN [0, 1, 2, 3, 4, 5, 6, 7, 8, 9, 10, 11] (by decide) rfl rfl (ci := 1) rfl rfl) rfl rfl hl.1 rfl (lv_room (Nat.le_of_ble_eq_true rfl)) dX1_bulgeWhereRipest_101 ⟨(Nat.zero_le _), (Nat.zero_le _)⟩) hS (fun q _ h => hFc q h) hFc (fun u6 t H1 locs ht hvm hw hB hz1 hk1 hS => ?_)
          obtain ⟨r7, rfl⟩ : ∃ z, z = u6 := ⟨_, rfl⟩
          try dsimp only at hw hB
          obtain ⟨hP, hD⟩ := wrJ (ws := RW G h ad r) (w1 := RW G h ad r7) ht hFc hB
          have hP : va_P G.1 vwCl (RW G h ad r7) H1 := hP
          have hD : va_D A (RW G h ad r7) := hD
          clear hB hk1 hFc ht hz1 hvm
          generalize H1 = H at hP hS ⊢
          have w8 := hw; clear hw
          have okr7 : rOK rlo rhi r7 := w8.1
          refine mf_iconst hx hb dX1_bulgeWhereRipest_104 ?_
          have e9 : ripF r = bv := by unfold ripF; rw [← show kv = r 7 0 by omega, ← hbx]
          rw [e9]
          exact W.zret hx hb hr (mf_nar01 (by omega)) (fun t ht hW => ⟨⟨_, r7, rfl, ⟨_, rfl, by exact ⟨w8.1, w8.2.2, Or.inr ⟨by assumption, w8.2.1, rfl⟩, ⟨w8.2.1.2.2.2.1, w8.2.1.2.2.2.2.1, w8.2.1.2.2.2.2.2.1, w8.2.1.2.2.2.2.2.2.1, w8.2.1.2.2.2.2.2.2.2⟩, fun cv => by by_cases y : hitB r bv (r 12 bv) cv; (have g := ((w8.2.1.2.2.1 cv).1 y).1; have g2 : (0 : Int) ≤ r 1 cv ∧ r 1 cv ≤ 200000000 := ok 1 cv; omega); (have g := ((w8.2.1.2.2.1 cv).2 y).1; omega)⟩⟩, by rw [ht]; exact hP, hD⟩, hS.F ht⟩) hS.2.2 dX1_bulgeWhereRipest_105
        · skip
          refine mf_iconst hx hb dX1_bulgeWhereRipest_91 ?_
          have e9 : ripF r = -1 := by unfold ripF; rw [← show kv = r 7 0 by omega, ← hbx]; assumption
          exact W.zret hx hb hr (mf_nar01 (by omega)) (fun t ht hW => ⟨⟨_, r, rfl, ⟨_, rfl, by exact ⟨ok, hI, Or.inl ⟨e9, rfl, rfl⟩, ⟨rfl, rfl, rfl, rfl, rfl⟩, fun _ => Int.le_refl _⟩⟩, by rw [ht]; exact hP, hD⟩, hS.F ht⟩) hS.2.2 dX1_bulgeWhereRipest_92
      · skip
        refine lv_aload_n hx hb dX1_bulgeWhereRipest_14 rfl (lv_at hl 0 rfl) ?_
        refine va_get (D := G.1) (ci := 1) (v := .ref (ad 13)) (C := RX1) (T := TX1) (N := 14) hx hb hts hinX1 hown hK hP 0 rfl rfl 13 (by decide) (hts (.fieldLink RX1 43 "MeanderFarm$River" "bank" "[I") (List.mem_of_getElem? (i := 2) rfl)) (fun _ h9 => h9) rfl dX1_bulgeWhereRipest_15 ?_
        refine lv_iload_n hx hb dX1_bulgeWhereRipest_18 rfl (lv_at hl 3 rfl) ?_
        refine mf_iald (n := 150) (f := r 13) hx hb hK hP 11 0 rfl rfl (z := kv) (by omega) (by omega) (by decide) dX1_bulgeWhereRipest_19 ?_
        have b9 : (-1 : Int) ≤ r 13 kv ∧ r 13 kv ≤ 383 := ok 13 (kv)
        refine lv_istore (lv' := [(4, .int (iI (r 13 kv))), (0, .ref h), (1, .int (iI (bv))), (2, .int (iI (mv))), (3, .int (iI (kv)))]) hx hb dX1_bulgeWhereRipest_20 hl (by decide) rfl (fun ls hl => ?_)
        refine lv_iload hx hb dX1_bulgeWhereRipest_22 (lv_at hl 0 rfl) ?_
        refine vp_callSi (va_Run.run (va_runSN (As := [.int (iI (r 13 kv))]) (rest := []) ⟨hx, hb, hml, hown, hts⟩ (c_X2_isCell l (r 13 kv) (i32_mk (by omega) (by omega))) ⟨(va_cnB 1 hts gX1_bulgeWhereRipest_X2_isCell_n70 rfl rfl rfl (hN.m 27 rfl) (hts (.initialized RX2) (List.mem_of_getElem? (i := 7) rfl)) (by decide +kernel) ⟨Nat.le_of_ble_eq_true rfl, Nat.le_of_ble_eq_true rfl⟩), (hts (.static yX2_isCell) (List.mem_of_getElem? (i := 6) rfl)), trivial⟩ pureS rfl rfl hl.1 rfl (lv_room (Nat.le_of_ble_eq_true rfl)) dX1_bulgeWhereRipest_24 ⟨(Nat.zero_le _), (Nat.zero_le _)⟩)) (fun q10 hq10 => ?_)
        subst hq10
        refine mf_bp_eq (tgt := 80) hx hb dX1_bulgeWhereRipest_27 (by decide) (fun c11 => ?_) (fun c11 => ?_)
        · skip
          refine lv_iinc (v := iI (kv + 1)) (lv' := [(3, .int (iI (kv + 1))), (4, .int (iI (r 13 kv))), (0, .ref h), (1, .int (iI (bv))), (2, .int (iI (mv)))]) hx hb dX1_bulgeWhereRipest_80 hl (k := 4) rfl (iI_add _ _).symm (by decide) rfl (fun ls hl => ?_)
          refine lv_goto (tgt := 6) hx hb dX1_bulgeWhereRipest_83 (by decide) ?_
          exact ih6 bv mv (kv + 1) (by omega) (by first | assumption | omega) (by first | assumption | omega) (by first | assumption | omega) (by rcases hcb with y | y; (exact Or.inl y); (exact Or.inr ⟨y.1, by omega, y.2.2⟩)) (by subst_vars; first | rfl | (rw [ripG_t r (by omega) ⟨⟨by omega, by omega⟩, by omega, by omega, by assumption⟩]; done) | (rw [ripG_f r (by omega) (fun z => by obtain ⟨z1, z2, z3, z4⟩ := z; first | omega | contradiction)]; done)) (by subst_vars; first | rfl | (rw [ripG_t r (by omega) ⟨⟨by omega, by omega⟩, by omega, by omega, by assumption⟩]; done) | (rw [ripG_f r (by omega) (fun z => by obtain ⟨z1, z2, z3, z4⟩ := z; first | omega | contradiction)]; done)) _ _ hP hD hS ls (lv_sub hl [2, 3, 4, 0] rfl)
        · skip
          refine lv_aload_n hx hb dX1_bulgeWhereRipest_30 rfl (lv_at hl 1 rfl) ?_
          refine va_get (D := G.1) (ci := 1) (v := .ref (ad 1)) (C := RX1) (T := TX1) (N := 14) hx hb hts hinX1 hown hK hP 0 rfl rfl 1 (by decide) (hts (.fieldLink RX1 15 "MeanderFarm$River" "wear" "[I") (List.mem_of_getElem? (i := 3) rfl)) (fun _ h9 => h9) rfl dX1_bulgeWhereRipest_31 ?_
          refine lv_iload hx hb dX1_bulgeWhereRipest_34 (lv_at hl 0 rfl) ?_
          refine mf_iald (n := 384) (f := r 1) hx hb hK hP 2 0 rfl rfl (z := r 13 kv) (by omega) (by omega) (by decide) dX1_bulgeWhereRipest_36 ?_
          have b12 : (0 : Int) ≤ r 1 (r 13 kv) ∧ r 1 (r 13 kv) ≤ 200000000 := ok 1 (r 13 kv)
          refine mf_bipush hx hb dX1_bulgeWhereRipest_37 rfl ?_
          refine lv_aload_n hx hb dX1_bulgeWhereRipest_39 rfl (lv_at hl 1 rfl) ?_
          refine va_get (D := G.1) (ci := 1) (v := .ref (ad 0)) (C := RX1) (T := TX1) (N := 14) hx hb hts hinX1 hown hK hP 0 rfl rfl 0 (by decide) (hts (.fieldLink RX1 9 "MeanderFarm$River" "hardness" "[I") (List.mem_of_getElem? (i := 4) rfl)) (fun _ h9 => h9) rfl dX1_bulgeWhereRipest_40 ?_
          refine lv_iload hx hb dX1_bulgeWhereRipest_43 (lv_at hl 0 rfl) ?_
          refine mf_iald (n := 384) (f := r 0) hx hb hK hP 1 0 rfl rfl (z := r 13 kv) (by omega) (by omega) (by decide) dX1_bulgeWhereRipest_45 ?_
          have b13 : (0 : Int) ≤ r 0 (r 13 kv) ∧ r 0 (r 13 kv) ≤ 9 := ok 0 (r 13 kv)
          refine mf_imul hx hb dX1_bulgeWhereRipest_46 ?_
          refine mf_isub hx hb dX1_bulgeWhereRipest_47 ?_
          refine lv_istore (lv' := [(5, .int (iI ((r 1 (r 13 kv)) - (10 * (r 0 (r 13 kv)))))), (4, .int (iI (r 13 kv))), (0, .ref h), (1, .int (iI (bv))), (2, .int (iI (mv))), (3, .int (iI (kv)))]) hx hb dX1_bulgeWhereRipest_48 hl (by decide) rfl (fun ls hl => ?_)
          refine lv_iload hx hb dX1_bulgeWhereRipest_50 (lv_at hl 0 rfl) ?_
          refine mf_if_lt (tgt := 80) hx hb dX1_bulgeWhereRipest_52 (by decide) (i32_mk (by omega) (by omega)) (fun c14 => ?_) (fun c14 => ?_)
          · skip
            refine lv_iinc (v := iI (kv + 1)) (lv' := [(3, .int (iI (kv + 1))), (5, .int (iI ((r 1 (r 13 kv)) - (10 * (r 0 (r 13 kv)))))), (4, .int (iI (r 13 kv))), (0, .ref h), (1, .int (iI (bv))), (2, .int (iI (mv)))]) hx hb dX1_bulgeWhereRipest_80 hl (k := 5) rfl (iI_add _ _).symm (by decide) rfl (fun ls hl => ?_)
            refine lv_goto (tgt := 6) hx hb dX1_bulgeWhereRipest_83 (by decide) ?_
            exact ih6 bv mv (kv + 1) (by omega) (by first | assumption | omega) (by first | assumption | omega) (by first | assumption | omega) (by rcases hcb with y | y; (exact Or.inl y); (exact Or.inr ⟨y.1, by omega, y.2.2⟩)) (by subst_vars; first | rfl | (rw [ripG_t r (by omega) ⟨⟨by omega, by omega⟩, by omega, by omega, by assumption⟩]; done) | (rw [ripG_f r (by omega) (fun z => by obtain ⟨z1, z2, z3, z4⟩ := z; first | omega | contradiction)]; done)) (by subst_vars; first | rfl | (rw [ripG_t r (by omega) ⟨⟨by omega, by omega⟩, by omega, by omega, by assumption⟩]; done) | (rw [ripG_f r (by omega) (fun z => by obtain ⟨z1, z2, z3, z4⟩ := z; first | omega | contradiction)]; done)) _ _ hP hD hS ls (lv_sub hl [3, 4, 5, 0] rfl)
          · skip
            refine lv_iload hx hb dX1_bulgeWhereRipest_55 (lv_at hl 0 rfl) ?_
            refine lv_iload_n hx hb dX1_bulgeWhereRipest_57 rfl (lv_at hl 4 rfl) ?_
            refine mf_icmp_le (tgt := 80) hx hb dX1_bulgeWhereRipest_58 (by decide) (i32_mk (by omega) (by omega)) (i32_mk (by omega) (by omega)) (fun c15 => ?_) (fun c15 => ?_)
            · skip
              refine lv_iinc (v := iI (kv + 1)) (lv' := [(3, .int (iI (kv + 1))), (5, .int (iI ((r 1 (r 13 kv)) - (10 * (r 0 (r 13 kv)))))), (4, .int (iI (r 13 kv))), (0, .ref h), (1, .int (iI (bv))), (2, .int (iI (mv)))]) hx hb dX1_bulgeWhereRipest_80 hl (k := 5) rfl (iI_add _ _).symm (by decide) rfl (fun ls hl => ?_)
              refine lv_goto (tgt := 6) hx hb dX1_bulgeWhereRipest_83 (by decide) ?_
              exact ih6 bv mv (kv + 1) (by omega) (by first | assumption | omega) (by first | assumption | omega) (by first | assumption | omega) (by rcases hcb with y | y; (exact Or.inl y); (exact Or.inr ⟨y.1, by omega, y.2.2⟩)) (by subst_vars; first | rfl | (rw [ripG_t r (by omega) ⟨⟨by omega, by omega⟩, by omega, by omega, by assumption⟩]; done) | (rw [ripG_f r (by omega) (fun z => by obtain ⟨z1, z2, z3, z4⟩ := z; first | omega | contradiction)]; done)) (by subst_vars; first | rfl | (rw [ripG_t r (by omega) ⟨⟨by omega, by omega⟩, by omega, by omega, by assumption⟩]; done) | (rw [ripG_f r (by omega) (fun z => by obtain ⟨z1, z2, z3, z4⟩ := z; first | omega | contradiction)]; done)) _ _ hP hD hS ls (lv_sub hl [3, 4, 5, 0] rfl)
            · skip
              refine lv_aload_n hx hb dX1_bulgeWhereRipest_61 rfl (lv_at hl 2 rfl) ?_
              refine lv_iload_n hx hb dX1_bulgeWhereRipest_62 rfl (lv_at hl 5 rfl) ?_
              refine lv_aload_n hx hb dX1_bulgeWhereRipest_63 rfl (lv_at hl 2 rfl) ?_
              refine va_get (D := G.1) (ci := 1) (v := .ref (ad 12)) (C := RX1) (T := TX1) (N := 14) hx hb hts hinX1 hown hK hP 0 rfl rfl 12 (by decide) (hts (.fieldLink RX1 40 "MeanderFarm$River" "thrown" "[I") (List.mem_of_getElem? (i := 5) rfl)) (fun _ h9 => h9) rfl dX1_bulgeWhereRipest_64 ?_
              refine lv_iload_n hx hb dX1_bulgeWhereRipest_67 rfl (lv_at hl 5 rfl) ?_
              refine mf_iald (n := 150) (f := r 12) hx hb hK hP 10 0 rfl rfl (z := kv) (by omega) (by omega) (by decide) dX1_bulgeWhereRipest_68 ?_
              have b16 : (-1 : Int) ≤ r 12 kv ∧ r 12 kv ≤ 3 := ok 12 (kv)
              refine vp_callSi (va_Run.run (va_runV (As := [.int (iI (kv)), .int (iI (r 12 kv))]) (rest := []) ⟨hx, hb, hml, hown, hts⟩ (c_X1_canBulge l G h ad r (kv) (r 12 kv) (i32_mk (by omega) (by omega)) (i32_mk (by omega) (by omega)) (by assumption) (by exact hdirB)) (cwV 2 hts gX1_bulgeWhereRipest_X1_canBulge rfl rfl rfl (by decide +kernel) ⟨Nat.le_of_ble_eq_true rfl, Nat.le_of_ble_eq_true rfl⟩) (rdV (wc := RW G h ad r) hK hP hN [0, 1, 2, 3, 4, 5, 6, 7, 8, 9, 10, 11] rfl (ci := 1) rfl rfl) rfl rfl hl.1 rfl (lv_room (Nat.le_of_ble_eq_true rfl)) dX1_bulgeWhereRipest_69 ⟨(Nat.zero_le _), (Nat.zero_le _)⟩)) (fun q17 hq17 => ?_)
              subst hq17
              refine mf_bp_eq (tgt := 80) hx hb dX1_bulgeWhereRipest_72 (by decide) (fun c18 => ?_) (fun c18 => ?_)
              · skip
                refine lv_iinc (v := iI (kv + 1)) (lv' := [(3, .int (iI (kv + 1))), (5, .int (iI ((r 1 (r 13 kv)) - (10 * (r 0 (r 13 kv)))))), (4, .int (iI (r 13 kv))), (0, .ref h), (1, .int (iI (bv))), (2, .int (iI (mv)))]) hx hb dX1_bulgeWhereRipest_80 hl (k := 5) rfl (iI_add _ _).symm (by decide) rfl (fun ls hl => ?_)
                refine lv_goto (tgt := 6) hx hb dX1_bulgeWhereRipest_83 (by decide) ?_
                exact ih6 bv mv (kv + 1) (by omega) (by first | assumption | omega) (by first | assumption | omega) (by first | assumption | omega) (by rcases hcb with y | y; (exact Or.inl y); (exact Or.inr ⟨y.1, by omega, y.2.2⟩)) (by subst_vars; first | rfl | (rw [ripG_t r (by omega) ⟨⟨by omega, by omega⟩, by omega, by omega, by assumption⟩]; done) | (rw [ripG_f r (by omega) (fun z => by obtain ⟨z1, z2, z3, z4⟩ := z; first | omega | contradiction)]; done)) (by subst_vars; first | rfl | (rw [ripG_t r (by omega) ⟨⟨by omega, by omega⟩, by omega, by omega, by assumption⟩]; done) | (rw [ripG_f r (by omega) (fun z => by obtain ⟨z1, z2, z3, z4⟩ := z; first | omega | contradiction)]; done)) _ _ hP hD hS ls (lv_sub hl [3, 4, 5, 0] rfl)
              · skip
                refine lv_iload hx hb dX1_bulgeWhereRipest_75 (lv_at hl 0 rfl) ?_
                refine lv_istore_n (lv' := [(2, .int (iI ((r 1 (r 13 kv)) - (10 * (r 0 (r 13 kv)))))), (5, .int (iI ((r 1 (r 13 kv)) - (10 * (r 0 (r 13 kv)))))), (4, .int (iI (r 13 kv))), (0, .ref h), (1, .int (iI (bv))), (3, .int (iI (kv)))]) hx hb dX1_bulgeWhereRipest_77 rfl hl (by decide) rfl (fun ls hl => ?_)
                refine lv_iload_n hx hb dX1_bulgeWhereRipest_78 rfl (lv_at hl 5 rfl) ?_
                refine lv_istore_n (lv' := [(1, .int (iI (kv))), (2, .int (iI ((r 1 (r 13 kv)) - (10 * (r 0 (r 13 kv)))))), (5, .int (iI ((r 1 (r 13 kv)) - (10 * (r 0 (r 13 kv)))))), (4, .int (iI (r 13 kv))), (0, .ref h), (3, .int (iI (kv)))]) hx hb dX1_bulgeWhereRipest_79 rfl hl (by decide) rfl (fun ls hl => ?_)
                refine lv_iinc (v := iI (kv + 1)) (lv' := [(3, .int (iI (kv + 1))), (1, .int (iI (kv))), (2, .int (iI ((r 1 (r 13 kv)) - (10 * (r 0 (r 13 kv)))))), (5, .int (iI ((r 1 (r 13 kv)) - (10 * (r 0 (r 13 kv)))))), (4, .int (iI (r 13 kv))), (0, .ref h)]) hx hb dX1_bulgeWhereRipest_80 hl (k := 5) rfl (iI_add _ _).symm (by decide) rfl (fun ls hl => ?_)
                refine lv_goto (tgt := 6) hx hb dX1_bulgeWhereRipest_83 (by decide) ?_
                exact ih6 kv ((r 1 (r 13 kv)) - (10 * (r 0 (r 13 kv)))) (kv + 1) (by omega) (by first | assumption | omega) (by first | assumption | omega) (by first | assumption | omega) (by exact Or.inr ⟨by omega, by omega, by assumption⟩) (by subst_vars; first | rfl | (rw [ripG_t r (by omega) ⟨⟨by omega, by omega⟩, by omega, by omega, by assumption⟩]; done) | (rw [ripG_f r (by omega) (fun z => by obtain ⟨z1, z2, z3, z4⟩ := z; first | omega | contradiction)]; done)) (by subst_vars; first | rfl | (rw [ripG_t r (by omega) ⟨⟨by omega, by omega⟩, by omega, by omega, by assumption⟩]; done) | (rw [ripG_f r (by omega) (fun z => by obtain ⟨z1, z2, z3, z4⟩ := z; first | omega | contradiction)]; done)) _ _ hP hD hS ls (lv_sub hl [5, 1, 2, 0] rfl)
  exact lp6 (_ + 1) (-1) (-1) 0 (Nat.lt_succ_self _) (by first | assumption | omega) (by first | assumption | omega) (by first | assumption | omega) (by first | exact Or.inl rfl | (rcases hcb with y | y; (exact Or.inl y); (exact Or.inr ⟨y.1, by omega, y.2.2⟩)) | exact Or.inr ⟨by omega, by omega, by assumption⟩) (by subst_vars; first | rfl | (rw [ripG_t r (by omega) ⟨⟨by omega, by omega⟩, by omega, by omega, by assumption⟩]; done) | (rw [ripG_f r (by omega) (fun z => by obtain ⟨z1, z2, z3, z4⟩ := z; first | omega | contradiction)]; done)) (by subst_vars; first | rfl | (rw [ripG_t r (by omega) ⟨⟨by omega, by omega⟩, by omega, by omega, by assumption⟩]; done) | (rw [ripG_f r (by omega) (fun z => by obtain ⟨z1, z2, z3, z4⟩ := z; first | omega | contradiction)]; done)) _ _ hP hD hS ls (lv_sub hl [3, 2, 1, 0] rfl)
end
section
/-! 20.pass: years -/
def YearR (r q : mf_V) (b : Int) : Prop := ∃ r1 r2 r3 : mf_V, (∀ k, k ≠ 1 → r1 k = r k) ∧ r1 1 = wearG r (r 5 (r 8 0 % 12)) (r 7 0) ∧ rOK rlo rhi r1 ∧ RInv r1 ∧ ((ripF r1 = -1 ∧ r2 = r1 ∧ b = 0) ∨ (¬ ripF r1 = -1 ∧ Bul r1 (ripF r1) (r1 12 (ripF r1)) r2 ∧ b = 1)) ∧ rOK rlo rhi r2 ∧ RInv r2 ∧ ((7 ≤ r 5 (r 8 0 % 12) ∧ Flood r2 r3) ∨ (r 5 (r 8 0 % 12) < 7 ∧ r3 = r2)) ∧ rOK rlo rhi r3 ∧ RInv r3 ∧ (∀ k, k ≠ 8 → q k = r3 k) ∧ q 8 0 = r 8 0 + 1
def YearsN : Nat → mf_V → mf_V → Int → Prop
  | 0, r, q, b => q = r ∧ b = 0
  | n + 1, r, q, b => ∃ (r1 : mf_V) (b1 b2 : Int), YearsN n r r1 b1 ∧ rOK rlo rhi r1 ∧ RInv r1 ∧ YearR r1 q b2 ∧ b = b1 + b2
def YearsR (k : Int) (r q : mf_V) (b : Int) : Prop := YearsN k.toNat r q b
theorem YearsR_0 (r : mf_V) : YearsR 0 r r 0 := ⟨rfl, rfl⟩
theorem YearsR_s {k : Int} (h : 0 ≤ k) {r r1 q : mf_V} {b1 b2 b : Int} (h1 : YearsR k r r1 b1) (ok : rOK rlo rhi r1) (hI : RInv r1) (h2 : YearR r1 q b2) (hb : b = b1 + b2) : YearsR (k + 1) r q b := by
  unfold YearsR at h1 ⊢
  rw [show (k + 1).toNat = k.toNat + 1 by omega]
  exact ⟨r1, b1, b2, h1, ok, hI, h2, hb⟩
/-- bounds of what grows, by the years (and digs) gone by -/
def bdP (r : mf_V) (Y : Int) : Prop := r 8 0 ≤ Y ∧ r 9 0 ≤ 151 * Y ∧ ∀ c, r 1 c ≤ 1350 * Y
set_option maxHeartbeats 4000000 in
set_option maxRecDepth 100000 in
theorem c_X1_letPass (l : Launch) (G : mf_G) (h : Nat) (ad : Nat → Nat) (r : mf_V)  (yv : Int) (Yv : Int) (hyv : i32 yv) (ok : rOK rlo rhi r) (hI : RInv r) (hB : bdP r Yv) (hYv : 0 ≤ Yv ∧ Yv + yv ≤ 60000) (hyv0 : 0 ≤ yv ∧ yv ≤ 100) (sz : Nat) : Met l yX1_letPass wsX1_letPass ({ frames := 5, cells := 0, slots := 0, locals := 119 }) (va_Pc [.ref h, .int (iI (yv))] (WrP G (RW G h ad r) sz)) (va_Qi (fun q (r' : mf_V) => ∃ z : Int, q = iI z ∧ rOK rlo rhi r' ∧ YearsR yv r r' z ∧ RInv r' ∧ bdP r' (Yv + yv) ∧ 0 ≤ z ∧ z ≤ yv) (fun (r' : mf_V) t => WrQ G (va_A (RW G h ad r) sz) (RW G h ad r') t) (va_A (RW G h ad r) sz)) 0 0 (va_A (RW G h ad r) sz) := by
  refine Met.ofW (cc := cX1_letPass) (maxL := 5) (ret := (some .int)) (by decide) rfl ?_
  intro p e s m args below meth c s₁ B hml hv
  obtain ⟨rfl, hsz, hP, hK, hD0, hN⟩ := hv
  have hx := B.exec
  have hb := B.bytes
  have hr := B.returns
  have hts := atoms_spec (ws := wsX1_letPass) B.pre
  have hown : s.vm.findClass RX1 = some m.cls := findClass_of_methodNamed B.named
  have hlocks := B.notSynchronized
  have hinX1 : ∀ w ∈ u_ws RX1 TX1 14, w ∈ wsX1_letPass := fun w h => List.mem_cons_of_mem _ (List.mem_append_right _ h)
  subst hsz
  have hD := hD0.self (sz := s.heap.size)
  generalize hAe : va_A (RW G h ad r) s.heap.size = A at hD ⊢
  have hA : ∀ q : Nat, s.heap.size ≤ q → A q := fun q h => by rw [← hAe]; exact Or.inr h
  have hS : va_S A s.heap s.heap [] := va_S.rf
  have hl := lv_entry ([.ref h, .int (iI (yv))]) (n := 5) (Nat.le_of_ble_eq_true rfl)
  rw [lg_entry_eq]
  generalize (lg_sl ([.ref h, .int (iI (yv))]) ++ List.replicate (5 - (lg_sl ([.ref h, .int (iI (yv))])).length) Slot.unset).toArray = ls at hl ⊢
  have hl : lv_has ls 5 [(0, .ref h), (1, .int (iI (yv)))] := hl
  have hyv1 := hyv.1
  have hyv2 := hyv.2
  have okLr : (0 : Int) ≤ r 7 0 ∧ r 7 0 ≤ 150 := ok 7 0
  refine mf_iconst hx hb dX1_letPass_0 ?_
  refine lv_istore_n (lv' := [(2, .int (iI (0))), (0, .ref h), (1, .int (iI (yv)))]) hx hb dX1_letPass_1 rfl hl (by decide) rfl (fun ls hl => ?_)
  refine mf_iconst hx hb dX1_letPass_2 ?_
  refine lv_istore_n (lv' := [(3, .int (iI (0))), (2, .int (iI (0))), (0, .ref h), (1, .int (iI (yv)))]) hx hb dX1_letPass_3 rfl hl (by decide) rfl (fun ls hl => ?_)
  have lp4 : ∀ (n : Nat) (bv : Int) (kv : Int) (r1 : mf_V), (yv - kv).toNat < n → (0 ≤ kv ∧ kv ≤ yv) → (0 ≤ bv ∧ bv ≤ kv) → (rOK rlo rhi r1) → (RInv r1) → (bdP r1 (Yv + kv)) → (YearsR kv r r1 bv) → ∀ (H : Heap) (locs : List Loc), va_P G.1 vwCl (RW G h ad r1) H → va_D A (RW G h ad r1) → va_S A s.heap H locs → ∀ (ls : Array Slot), lv_has ls 5 [(0, .ref h), (1, .int (iI (yv))), (2, .int (iI (bv))), (3, .int (iI (kv)))] → W p l e (headSpec wsX1_letPass ({ frames := 5, cells := 0, slots := 0, locals := 119 })).room s m ([.ref h, .int (iI (yv))] : List Value).toArray below meth c H locs 0 0 (MQ below (va_Qi (fun q (r' : mf_V) => ∃ z : Int, q = iI z ∧ rOK rlo rhi r' ∧ YearsR yv r r' z ∧ RInv r' ∧ bdP r' (Yv + yv) ∧ 0 ≤ z ∧ z ≤ yv) (fun (r' : mf_V) t => WrQ G A (RW G h ad r') t) A) ([.ref h, .int (iI (yv))] : List Value).toArray s 0 0 A) (F0 m 4 ls []) := by
    intro n
    induction n with
    | zero => intro bv kv r1 hn; exact absurd hn (Nat.not_lt_zero _)
    | succ n ih4 =>
      intro bv kv r1 hn hk hbv okr1 hI1 hB1 hs H locs hP hD hS ls hl
      have hB11 := hB1.1
      have hB12 := hB1.2.1
      refine lv_iload_n hx hb dX1_letPass_4 rfl (lv_at hl 3 rfl) ?_
      refine lv_iload_n hx hb dX1_letPass_5 rfl (lv_at hl 1 rfl) ?_
      refine mf_icmp_ge (tgt := 68) hx hb dX1_letPass_6 (by decide) (i32_mk (by omega) (by omega)) (i32_mk (by omega) (by omega)) (fun c1 => ?_) (fun c1 => ?_)
      · skip
        refine lv_iload_n hx hb dX1_letPass_68 rfl (lv_at hl 2 rfl) ?_
        exact W.iret hx hb hr (fun t ht hW => ⟨⟨_, r1, rfl, ⟨_, rfl, by exact ⟨okr1, by (rw [show kv = yv by omega] at hs; exact hs), hI1, by (rw [show kv = yv by omega] at hB1; exact hB1), by omega, by omega⟩⟩, by rw [ht]; exact hP, hD⟩, hS.F ht⟩) hS.2.2 dX1_letPass_69
      · skip
        refine lv_aload_n hx hb dX1_letPass_9 rfl (lv_at hl 0 rfl) ?_
        refine va_get (D := G.1) (ci := 1) (v := .ref (ad 5)) (C := RX1) (T := TX1) (N := 14) hx hb hts hinX1 hown hK hP 0 rfl rfl 5 (by decide) (hts (.fieldLink RX1 28 "MeanderFarm$River" "flow" "[I") (List.mem_of_getElem? (i := 1) rfl)) (fun _ h9 => h9) rfl dX1_letPass_10 ?_
        refine lv_aload_n hx hb dX1_letPass_13 rfl (lv_at hl 0 rfl) ?_
        refine va_get (D := G.1) (ci := 1) (v := .int (iI (r1 8 0))) (C := RX1) (T := TX1) (N := 14) hx hb hts hinX1 hown hK hP 0 rfl rfl 8 (by decide) (hts (.fieldLink RX1 60 "MeanderFarm$River" "year" "I") (List.mem_of_getElem? (i := 2) rfl)) (fun _ h9 => h9) rfl dX1_letPass_14 ?_
        have b2 : (0 : Int) ≤ r1 8 0 ∧ r1 8 0 ≤ 90000 := okr1 8 (0)
        refine mf_bipush hx hb dX1_letPass_17 rfl ?_
        refine vp_callSi (va_Run.run (va_runS (As := [.int (iI (r1 8 0)), .int (iI (12))]) (rest := [.ref (ad 5)]) ⟨hx, hb, hml, hown, hts⟩ (c_J9_floorMod_7cf53 l (r1 8 0) (12) (i32_mk (by omega) (by omega)) (i32_mk (by decide) (by decide)) (by first | assumption | omega) (by first | assumption | omega)) (va_cwS 2 hts gX1_letPass_J9_floorMod_7cf53 rfl rfl rfl (by decide +kernel) ⟨Nat.le_of_ble_eq_true rfl, Nat.le_of_ble_eq_true rfl⟩) pureS rfl rfl hl.1 rfl (lv_room (Nat.le_of_ble_eq_true rfl)) dX1_letPass_19 ⟨(Nat.zero_le _), (Nat.zero_le _)⟩)) (fun q3 hq3 => ?_)
        subst hq3
        refine mf_iald (n := 12) (f := r1 5) hx hb hK hP 6 0 rfl rfl (z := (r1 8 0) % 12) (by omega) (by omega) (by decide) dX1_letPass_22 ?_
        have b4 : (0 : Int) ≤ r1 5 ((r1 8 0) % 12) ∧ r1 5 ((r1 8 0) % 12) ≤ 9 := okr1 5 ((r1 8 0) % 12)
        refine lv_istore (lv' := [(4, .int (iI (r1 5 ((r1 8 0) % 12)))), (0, .ref h), (1, .int (iI (yv))), (2, .int (iI (bv))), (3, .int (iI (kv)))]) hx hb dX1_letPass_23 hl (by decide) rfl (fun ls hl => ?_)
        refine lv_aload_n hx hb dX1_letPass_25 rfl (lv_at hl 1 rfl) ?_
        refine lv_iload hx hb dX1_letPass_26 (lv_at hl 0 rfl) ?_
        have hFc := va_free (wc := RW G h ad r1) hD hS hA [0, 1, 2, 3, 4, 5, 6, 7, 8, 9, 10, 11] rfl
        refine va_callv (va_runV (As := [.int (iI (r1 5 ((r1 8 0) % 12)))]) (rest := []) ⟨hx, hb, hml, hown, hts⟩ (c_X1_wearBanks l G h ad r1 (r1 5 ((r1 8 0) % 12)) (i32_mk (by omega) (by omega)) (by assumption) (by first | assumption | omega) (by intro cv; have := hB1.2.2 cv; omega) _) (cwV 1 hts gX1_letPass_X1_wearBanks rfl rfl rfl (by decide +kernel) ⟨Nat.le_of_ble_eq_true rfl, Nat.le_of_ble_eq_true rfl⟩) (wrV (wc := RW G h ad r1) hK hP hD hN [0, 1, 2, 3, 4, 5, 6, 7, 8, 9, 10, 11] (by decide) rfl rfl (ci := 1) rfl rfl) rfl rfl hl.1 rfl (lv_room (Nat.le_of_ble_eq_true rfl)) dX1_letPass_28 ⟨(Nat.zero_le _), (Nat.zero_le _)⟩) hS (fun q _ h => hFc q h) hFc (fun u6 t H1 locs ht hvm hw hB hz1 hk1 hS => ?_)
        obtain ⟨r7, rfl⟩ : ∃ z, z = u6 := ⟨_, rfl⟩
        try dsimp only at hw hB
        obtain ⟨hP, hD⟩ := wrJ (ws := RW G h ad r1) (w1 := RW G h ad r7) ht hFc hB
        have hP : va_P G.1 vwCl (RW G h ad r7) H1 := hP
        have hD : va_D A (RW G h ad r7) := hD
        clear hB hk1 hFc ht hz1 hvm
        generalize H1 = H at hP hS ⊢
        have w8 := hw; clear hw
        have okr7 : rOK rlo rhi r7 := w8.1
        have hI2 : RInv r7 := RInv_cg (w8.2.1 6 (by decide)) (w8.2.1 7 (by decide)) (w8.2.1 10 (by decide)) (w8.2.1 11 (by decide)) (w8.2.1 12 (by decide)) (w8.2.1 13 (by decide)) hI1
        skip
        refine lv_aload_n hx hb dX1_letPass_31 rfl (lv_at hl 1 rfl) ?_
        have hFc := va_free (wc := RW G h ad r7) hD hS hA [0, 1, 2, 3, 4, 5, 6, 7, 8, 9, 10, 11] rfl
        refine va_calli (va_runV (As := []) (rest := []) ⟨hx, hb, hml, hown, hts⟩ (c_X1_bulgeWhereRipest l G h ad r7 (by assumption) (by first | assumption | omega) _) (cwV 0 hts gX1_letPass_X1_bulgeWhereRipest rfl rfl rfl (by decide +kernel) ⟨Nat.le_of_ble_eq_true rfl, Nat.le_of_ble_eq_true rfl⟩) (wrV (wc := RW G h ad r7) hK hP hD hN [0, 1, 2, 3, 4, 5, 6, 7, 8, 9, 10, 11] (by decide) rfl rfl (ci := 1) rfl rfl) rfl rfl hl.1 rfl (lv_room (Nat.le_of_ble_eq_true rfl)) dX1_letPass_32 ⟨(Nat.zero_le _), (Nat.zero_le _)⟩) hS (fun q _ h => hFc q h) hFc (fun q9 u10 t H1 locs ht hvm hw hB hz1 hk1 hS => ?_)
        obtain ⟨r11, rfl⟩ : ∃ z, z = u10 := ⟨_, rfl⟩
        try dsimp only at hw hB
        obtain ⟨hP, hD⟩ := wrJ (ws := RW G h ad r7) (w1 := RW G h ad r11) ht hFc hB
        have hP : va_P G.1 vwCl (RW G h ad r11) H1 := hP
        have hD : va_D A (RW G h ad r11) := hD
        clear hB hk1 hFc ht hz1 hvm
        generalize H1 = H at hP hS ⊢
        obtain ⟨z13, rfl, w12⟩ := hw
        have okr11 : rOK rlo rhi r11 := w12.1
        have hz9 : z13 = 0 ∨ z13 = 1 := by rcases w12.2.2.1 with ⟨-, -, g⟩ | ⟨-, -, g⟩; (exact Or.inl g); (exact Or.inr g)
        have hI3 := w12.2.1
        have e93 : r11 9 = r1 9 := w12.2.2.2.1.2.2.2.2.trans (w8.2.1 9 (by decide))
        have e90 : r11 9 0 = r1 9 0 := congrFun e93 0
        skip
        refine mf_if_eq (tgt := 41) hx hb dX1_letPass_35 (by decide) (i32_mk (by omega) (by omega)) (fun c14 => ?_) (fun c14 => ?_)
        · skip
          refine lv_iload hx hb dX1_letPass_41 (lv_at hl 0 rfl) ?_
          refine mf_bipush hx hb dX1_letPass_43 rfl ?_
          refine mf_icmp_lt (tgt := 52) hx hb dX1_letPass_45 (by decide) (i32_mk (by omega) (by omega)) (i32_mk (by decide) (by decide)) (fun c15 => ?_) (fun c15 => ?_)
          · skip
            refine lv_aload_n hx hb dX1_letPass_52 rfl (lv_at hl 1 rfl) ?_
            refine lv_dup hx hb dX1_letPass_53 rfl ?_
            refine va_get (D := G.1) (ci := 1) (v := .int (iI (r11 8 0))) (C := RX1) (T := TX1) (N := 14) hx hb hts hinX1 hown hK hP 0 rfl rfl 8 (by decide) (hts (.fieldLink RX1 60 "MeanderFarm$River" "year" "I") (List.mem_of_getElem? (i := 2) rfl)) (fun _ h9 => h9) rfl dX1_letPass_54 ?_
            refine mf_top (r11 8 0) (r1 8 0) (by rw [w12.2.2.2.1.2.2.2.1, w8.2.1 8 (by decide)]) ?_
            have b16 : (0 : Int) ≤ r1 8 0 ∧ r1 8 0 ≤ 90000 := okr1 8 (0)
            refine mf_iconst hx hb dX1_letPass_57 ?_
            refine mf_iadd hx hb dX1_letPass_58 ?_
            refine va_put (D := G.1) (ci := 1) (v := .int (iI ((r1 8 0) + 1))) (ty := .int) (C := RX1) (T := TX1) (N := 14) hx hb hts hinX1 tyX1 tyX1_ok nmX1 hown hK hP hD hS 0 rfl rfl 8 (by decide) (hts (.fieldLink RX1 60 "MeanderFarm$River" "year" "I") (List.mem_of_getElem? (i := 2) rfl)) (fun _ h9 => h9) rfl (by decide +kernel) rfl rfl (Nat.le_of_ble_eq_true rfl) dX1_letPass_59 (fun H locs hP hD hS => ?_)
            obtain ⟨r17, er17⟩ : ∃ q : mf_V, q = mf_sF r11 8 (fun _ => (r1 8 0) + 1) := ⟨_, rfl⟩
            have hP : va_P G.1 vwCl (RW G h ad r17) H := by rw [er17]; exact hP
            have hD : va_D A (RW G h ad r17) := by rw [er17]; exact hD
            have okr17 : rOK rlo rhi r17 := by rw [er17]; exact rOK_set okr11 8 _ (show (0 : Int) ≤ (r1 8 0) + 1 by omega) (show (r1 8 0) + 1 ≤ (90000 : Int) by omega)
            have f1_r17 : ∀ y, r17 8 y = (r1 8 0) + 1 := fun y => by rw [er17, mf_sF_s]
            have f3_r17 : ∀ q, q ≠ 8 → r17 q = r11 q := fun q hq => by rw [er17, mf_sF_n hq]
            refine lv_iinc (v := iI (kv + 1)) (lv' := [(3, .int (iI (kv + 1))), (4, .int (iI (r1 5 ((r1 8 0) % 12)))), (0, .ref h), (1, .int (iI (yv))), (2, .int (iI (bv)))]) hx hb dX1_letPass_62 hl (k := 4) rfl (iI_add _ _).symm (by decide) rfl (fun ls hl => ?_)
            refine lv_goto (tgt := 4) hx hb dX1_letPass_65 (by decide) ?_
            exact ih4 bv (kv + 1) r17 (by omega) (by first | assumption | omega) (by first | assumption | omega) (by first | assumption | omega) (by exact RInv_cg (f3_r17 6 (by decide)) (f3_r17 7 (by decide)) (f3_r17 10 (by decide)) (f3_r17 11 (by decide)) (f3_r17 12 (by decide)) (f3_r17 13 (by decide)) (hI3)) (by exact ⟨by rw [f1_r17]; omega, by (rw [f3_r17 9 (by decide)]; omega), fun cv => by (rw [f3_r17 1 (by decide)]; have g2 := w12.2.2.2.2 cv; have g3 := w8.2.2.2 cv; have g4 := hB1.2.2 cv; omega)⟩) (by exact YearsR_s hk.1 hs okr1 hI1 ⟨r7, r11, r11, w8.2.1, w8.2.2.1, okr7, hI2, w12.2.2.1, okr11, hI3, Or.inr ⟨by omega, rfl⟩, okr11, hI3, f3_r17, f1_r17 0⟩ (by omega)) _ _ hP hD hS ls (lv_sub hl [2, 3, 4, 0] rfl)
          · skip
            refine lv_aload_n hx hb dX1_letPass_48 rfl (lv_at hl 1 rfl) ?_
            have hFc := va_free (wc := RW G h ad r11) hD hS hA [0, 1, 2, 3, 4, 5, 6, 7, 8, 9, 10, 11] rfl
            refine va_callv (va_runV (As := []) (rest := []) ⟨hx, hb, hml, hown, hts⟩ (c_X1_flood l G h ad r11 (by assumption) (by exact hI3) (by rw [e90]; have := hB1.2.1; omega) _) (cwV 0 hts gX1_letPass_X1_flood rfl rfl rfl (by decide +kernel) ⟨Nat.le_of_ble_eq_true rfl, Nat.le_of_ble_eq_true rfl⟩) (wrV (wc := RW G h ad r11) hK hP hD hN [0, 1, 2, 3, 4, 5, 6, 7, 8, 9, 10, 11] (by decide) rfl rfl (ci := 1) rfl rfl) rfl rfl hl.1 rfl (lv_room (Nat.le_of_ble_eq_true rfl)) dX1_letPass_49 ⟨(Nat.zero_le _), (Nat.zero_le _)⟩) hS (fun q _ h => hFc q h) hFc (fun u19 t H1 locs ht hvm hw hB hz1 hk1 hS => ?_)
            obtain ⟨r20, rfl⟩ : ∃ z, z = u19 := ⟨_, rfl⟩
            try dsimp only at hw hB
            obtain ⟨hP, hD⟩ := wrJ (ws := RW G h ad r11) (w1 := RW G h ad r20) ht hFc hB
            have hP : va_P G.1 vwCl (RW G h ad r20) H1 := hP
            have hD : va_D A (RW G h ad r20) := hD
            clear hB hk1 hFc ht hz1 hvm
            generalize H1 = H at hP hS ⊢
            have w21 := hw; clear hw
            have okr20 : rOK rlo rhi r20 := w21.1
            skip
            refine lv_aload_n hx hb dX1_letPass_52 rfl (lv_at hl 1 rfl) ?_
            refine lv_dup hx hb dX1_letPass_53 rfl ?_
            refine va_get (D := G.1) (ci := 1) (v := .int (iI (r20 8 0))) (C := RX1) (T := TX1) (N := 14) hx hb hts hinX1 hown hK hP 0 rfl rfl 8 (by decide) (hts (.fieldLink RX1 60 "MeanderFarm$River" "year" "I") (List.mem_of_getElem? (i := 2) rfl)) (fun _ h9 => h9) rfl dX1_letPass_54 ?_
            refine mf_top (r20 8 0) (r1 8 0) (by rw [w21.2.2.2.1.2.2.2.2.2, w12.2.2.2.1.2.2.2.1, w8.2.1 8 (by decide)]) ?_
            have b22 : (0 : Int) ≤ r1 8 0 ∧ r1 8 0 ≤ 90000 := okr1 8 (0)
            refine mf_iconst hx hb dX1_letPass_57 ?_
            refine mf_iadd hx hb dX1_letPass_58 ?_
            refine va_put (D := G.1) (ci := 1) (v := .int (iI ((r1 8 0) + 1))) (ty := .int) (C := RX1) (T := TX1) (N := 14) hx hb hts hinX1 tyX1 tyX1_ok nmX1 hown hK hP hD hS 0 rfl rfl 8 (by decide) (hts (.fieldLink RX1 60 "MeanderFarm$River" "year" "I") (List.mem_of_getElem? (i := 2) rfl)) (fun _ h9 => h9) rfl (by decide +kernel) rfl rfl (Nat.le_of_ble_eq_true rfl) dX1_letPass_59 (fun H locs hP hD hS => ?_)
            obtain ⟨r23, er23⟩ : ∃ q : mf_V, q = mf_sF r20 8 (fun _ => (r1 8 0) + 1) := ⟨_, rfl⟩
            have hP : va_P G.1 vwCl (RW G h ad r23) H := by rw [er23]; exact hP
            have hD : va_D A (RW G h ad r23) := by rw [er23]; exact hD
            have okr23 : rOK rlo rhi r23 := by rw [er23]; exact rOK_set okr20 8 _ (show (0 : Int) ≤ (r1 8 0) + 1 by omega) (show (r1 8 0) + 1 ≤ (90000 : Int) by omega)
            have f1_r23 : ∀ y, r23 8 y = (r1 8 0) + 1 := fun y => by rw [er23, mf_sF_s]
            have f3_r23 : ∀ q, q ≠ 8 → r23 q = r20 q := fun q hq => by rw [er23, mf_sF_n hq]
            refine lv_iinc (v := iI (kv + 1)) (lv' := [(3, .int (iI (kv + 1))), (4, .int (iI (r1 5 ((r1 8 0) % 12)))), (0, .ref h), (1, .int (iI (yv))), (2, .int (iI (bv)))]) hx hb dX1_letPass_62 hl (k := 4) rfl (iI_add _ _).symm (by decide) rfl (fun ls hl => ?_)
            refine lv_goto (tgt := 4) hx hb dX1_letPass_65 (by decide) ?_
            exact ih4 bv (kv + 1) r23 (by omega) (by first | assumption | omega) (by first | assumption | omega) (by first | assumption | omega) (by exact RInv_cg (f3_r23 6 (by decide)) (f3_r23 7 (by decide)) (f3_r23 10 (by decide)) (f3_r23 11 (by decide)) (f3_r23 12 (by decide)) (f3_r23 13 (by decide)) (w21.2.2.1)) (by exact ⟨by rw [f1_r23]; omega, by (rw [f3_r23 9 (by decide)]; have g1 := w21.2.2.2.2; omega), fun cv => by (rw [f3_r23 1 (by decide), w21.2.2.2.1.2.1]; have g2 := w12.2.2.2.2 cv; have g3 := w8.2.2.2 cv; have g4 := hB1.2.2 cv; omega)⟩) (by exact YearsR_s hk.1 hs okr1 hI1 ⟨r7, r11, r20, w8.2.1, w8.2.2.1, okr7, hI2, w12.2.2.1, okr11, hI3, Or.inl ⟨by omega, w21.2.1⟩, okr20, w21.2.2.1, f3_r23, f1_r23 0⟩ (by omega)) _ _ hP hD hS ls (lv_sub hl [2, 3, 4, 0] rfl)
        · skip
          refine lv_iinc (v := iI (bv + 1)) (lv' := [(2, .int (iI (bv + 1))), (4, .int (iI (r1 5 ((r1 8 0) % 12)))), (0, .ref h), (1, .int (iI (yv))), (3, .int (iI (kv)))]) hx hb dX1_letPass_38 hl (k := 3) rfl (iI_add _ _).symm (by decide) rfl (fun ls hl => ?_)
          refine lv_iload hx hb dX1_letPass_41 (lv_at hl 1 rfl) ?_
          refine mf_bipush hx hb dX1_letPass_43 rfl ?_
          refine mf_icmp_lt (tgt := 52) hx hb dX1_letPass_45 (by decide) (i32_mk (by omega) (by omega)) (i32_mk (by decide) (by decide)) (fun c24 => ?_) (fun c24 => ?_)
          · skip
            refine lv_aload_n hx hb dX1_letPass_52 rfl (lv_at hl 2 rfl) ?_
            refine lv_dup hx hb dX1_letPass_53 rfl ?_
            refine va_get (D := G.1) (ci := 1) (v := .int (iI (r11 8 0))) (C := RX1) (T := TX1) (N := 14) hx hb hts hinX1 hown hK hP 0 rfl rfl 8 (by decide) (hts (.fieldLink RX1 60 "MeanderFarm$River" "year" "I") (List.mem_of_getElem? (i := 2) rfl)) (fun _ h9 => h9) rfl dX1_letPass_54 ?_
            refine mf_top (r11 8 0) (r1 8 0) (by rw [w12.2.2.2.1.2.2.2.1, w8.2.1 8 (by decide)]) ?_
            have b25 : (0 : Int) ≤ r1 8 0 ∧ r1 8 0 ≤ 90000 := okr1 8 (0)
            refine mf_iconst hx hb dX1_letPass_57 ?_
            refine mf_iadd hx hb dX1_letPass_58 ?_
            refine va_put (D := G.1) (ci := 1) (v := .int (iI ((r1 8 0) + 1))) (ty := .int) (C := RX1) (T := TX1) (N := 14) hx hb hts hinX1 tyX1 tyX1_ok nmX1 hown hK hP hD hS 0 rfl rfl 8 (by decide) (hts (.fieldLink RX1 60 "MeanderFarm$River" "year" "I") (List.mem_of_getElem? (i := 2) rfl)) (fun _ h9 => h9) rfl (by decide +kernel) rfl rfl (Nat.le_of_ble_eq_true rfl) dX1_letPass_59 (fun H locs hP hD hS => ?_)
            obtain ⟨r26, er26⟩ : ∃ q : mf_V, q = mf_sF r11 8 (fun _ => (r1 8 0) + 1) := ⟨_, rfl⟩
            have hP : va_P G.1 vwCl (RW G h ad r26) H := by rw [er26]; exact hP
            have hD : va_D A (RW G h ad r26) := by rw [er26]; exact hD
            have okr26 : rOK rlo rhi r26 := by rw [er26]; exact rOK_set okr11 8 _ (show (0 : Int) ≤ (r1 8 0) + 1 by omega) (show (r1 8 0) + 1 ≤ (90000 : Int) by omega)
            have f1_r26 : ∀ y, r26 8 y = (r1 8 0) + 1 := fun y => by rw [er26, mf_sF_s]
            have f3_r26 : ∀ q, q ≠ 8 → r26 q = r11 q := fun q hq => by rw [er26, mf_sF_n hq]
            refine lv_iinc (v := iI (kv + 1)) (lv' := [(3, .int (iI (kv + 1))), (2, .int (iI (bv + 1))), (4, .int (iI (r1 5 ((r1 8 0) % 12)))), (0, .ref h), (1, .int (iI (yv)))]) hx hb dX1_letPass_62 hl (k := 4) rfl (iI_add _ _).symm (by decide) rfl (fun ls hl => ?_)
            refine lv_goto (tgt := 4) hx hb dX1_letPass_65 (by decide) ?_
            exact ih4 (bv + 1) (kv + 1) r26 (by omega) (by first | assumption | omega) (by first | assumption | omega) (by first | assumption | omega) (by exact RInv_cg (f3_r26 6 (by decide)) (f3_r26 7 (by decide)) (f3_r26 10 (by decide)) (f3_r26 11 (by decide)) (f3_r26 12 (by decide)) (f3_r26 13 (by decide)) (hI3)) (by exact ⟨by rw [f1_r26]; omega, by (rw [f3_r26 9 (by decide)]; omega), fun cv => by (rw [f3_r26 1 (by decide)]; have g2 := w12.2.2.2.2 cv; have g3 := w8.2.2.2 cv; have g4 := hB1.2.2 cv; omega)⟩) (by exact YearsR_s hk.1 hs okr1 hI1 ⟨r7, r11, r11, w8.2.1, w8.2.2.1, okr7, hI2, w12.2.2.1, okr11, hI3, Or.inr ⟨by omega, rfl⟩, okr11, hI3, f3_r26, f1_r26 0⟩ (by omega)) _ _ hP hD hS ls (lv_sub hl [3, 4, 1, 0] rfl)
          · skip
            refine lv_aload_n hx hb dX1_letPass_48 rfl (lv_at hl 2 rfl) ?_
            have hFc := va_free (wc := RW G h ad r11) hD hS hA [0, 1, 2, 3, 4, 5, 6, 7, 8, 9, 10, 11] rfl
            refine va_callv (va_runV (As := []) (rest := []) ⟨hx, hb, hml, hown, hts⟩ (c_X1_flood l G h ad r11 (by assumption) (by exact hI3) (by rw [e90]; have := hB1.2.1; omega) _) (cwV 0 hts gX1_letPass_X1_flood rfl rfl rfl (by decide +kernel) ⟨Nat.le_of_ble_eq_true rfl, Nat.le_of_ble_eq_true rfl⟩) (wrV (wc := RW G h ad r11) hK hP hD hN [0, 1, 2, 3, 4, 5, 6, 7, 8, 9, 10, 11] (by decide) rfl rfl (ci := 1) rfl rfl) rfl rfl hl.1 rfl (lv_room (Nat.le_of_ble_eq_true rfl)) dX1_letPass_49 ⟨(Nat.zero_le _), (Nat.zero_le _)⟩) hS (fun q _ h => hFc q h) hFc (fun u28 t H1 locs ht hvm hw hB hz1 hk1 hS => ?_)
            obtain ⟨r29, rfl⟩ : ∃ z, z = u28 := ⟨_, rfl⟩
            try dsimp only at hw hB
            obtain ⟨hP, hD⟩ := wrJ (ws := RW G h ad r11) (w1 := RW G h ad r29) ht hFc hB
            have hP : va_P G.1 vwCl (RW G h ad r29) H1 := hP
            have hD : va_D A (RW G h ad r29) := hD
            clear hB hk1 hFc ht hz1 hvm
            generalize H1 = H at hP hS ⊢
            have w30 := hw; clear hw
            have okr29 : rOK rlo rhi r29 := w30.1
            skip
            refine lv_aload_n hx hb dX1_letPass_52 rfl (lv_at hl 2 rfl) ?_
            refine lv_dup hx hb dX1_letPass_53 rfl ?_
            refine va_get (D := G.1) (ci := 1) (v := .int (iI (r29 8 0))) (C := RX1) (T := TX1) (N := 14) hx hb hts hinX1 hown hK hP 0 rfl rfl 8 (by decide) (hts (.fieldLink RX1 60 "MeanderFarm$River" "year" "I") (List.mem_of_getElem? (i := 2) rfl)) (fun _ h9 => h9) rfl dX1_letPass_54 ?_
            refine mf_top (r29 8 0) (r1 8 0) (by rw [w30.2.2.2.1.2.2.2.2.2, w12.2.2.2.1.2.2.2.1, w8.2.1 8 (by decide)]) ?_
            have b31 : (0 : Int) ≤ r1 8 0 ∧ r1 8 0 ≤ 90000 := okr1 8 (0)
            refine mf_iconst hx hb dX1_letPass_57 ?_
            refine mf_iadd hx hb dX1_letPass_58 ?_
            refine va_put (D := G.1) (ci := 1) (v := .int (iI ((r1 8 0) + 1))) (ty := .int) (C := RX1) (T := TX1) (N := 14) hx hb hts hinX1 tyX1 tyX1_ok nmX1 hown hK hP hD hS 0 rfl rfl 8 (by decide) (hts (.fieldLink RX1 60 "MeanderFarm$River" "year" "I") (List.mem_of_getElem? (i := 2) rfl)) (fun _ h9 => h9) rfl (by decide +kernel) rfl rfl (Nat.le_of_ble_eq_true rfl) dX1_letPass_59 (fun H locs hP hD hS => ?_)
            obtain ⟨r32, er32⟩ : ∃ q : mf_V, q = mf_sF r29 8 (fun _ => (r1 8 0) + 1) := ⟨_, rfl⟩
            have hP : va_P G.1 vwCl (RW G h ad r32) H := by rw [er32]; exact hP
            have hD : va_D A (RW G h ad r32) := by rw [er32]; exact hD
            have okr32 : rOK rlo rhi r32 := by rw [er32]; exact rOK_set okr29 8 _ (show (0 : Int) ≤ (r1 8 0) + 1 by omega) (show (r1 8 0) + 1 ≤ (90000 : Int) by omega)
            have f1_r32 : ∀ y, r32 8 y = (r1 8 0) + 1 := fun y => by rw [er32, mf_sF_s]
            have f3_r32 : ∀ q, q ≠ 8 → r32 q = r29 q := fun q hq => by rw [er32, mf_sF_n hq]
            refine lv_iinc (v := iI (kv + 1)) (lv' := [(3, .int (iI (kv + 1))), (2, .int (iI (bv + 1))), (4, .int (iI (r1 5 ((r1 8 0) % 12)))), (0, .ref h), (1, .int (iI (yv)))]) hx hb dX1_letPass_62 hl (k := 4) rfl (iI_add _ _).symm (by decide) rfl (fun ls hl => ?_)
            refine lv_goto (tgt := 4) hx hb dX1_letPass_65 (by decide) ?_
            exact ih4 (bv + 1) (kv + 1) r32 (by omega) (by first | assumption | omega) (by first | assumption | omega) (by first | assumption | omega) (by exact RInv_cg (f3_r32 6 (by decide)) (f3_r32 7 (by decide)) (f3_r32 10 (by decide)) (f3_r32 11 (by decide)) (f3_r32 12 (by decide)) (f3_r32 13 (by decide)) (w30.2.2.1)) (by exact ⟨by rw [f1_r32]; omega, by (rw [f3_r32 9 (by decide)]; have g1 := w30.2.2.2.2; omega), fun cv => by (rw [f3_r32 1 (by decide), w30.2.2.2.1.2.1]; have g2 := w12.2.2.2.2 cv; have g3 := w8.2.2.2 cv; have g4 := hB1.2.2 cv; omega)⟩) (by exact YearsR_s hk.1 hs okr1 hI1 ⟨r7, r11, r29, w8.2.1, w8.2.2.1, okr7, hI2, w12.2.2.1, okr11, hI3, Or.inl ⟨by omega, w30.2.1⟩, okr29, w30.2.2.1, f3_r32, f1_r32 0⟩ (by omega)) _ _ hP hD hS ls (lv_sub hl [3, 4, 1, 0] rfl)
  exact lp4 (_ + 1) 0 0 r (Nat.lt_succ_self _) (by first | assumption | omega) (by first | assumption | omega) (by first | assumption | omega) (by first | assumption | omega) (by rw [Int.add_zero]; exact hB) (by exact YearsR_0 r) _ _ hP hD hS ls (lv_sub hl [2, 3, 1, 0] rfl)
end
section
/-! 21.copy: worlds that hold the same within their rows; a river copied -/
def rgA (n : Int) (f g : Int → Int) : Prop := ∀ z : Int, 0 ≤ z → z < n → f z = g z
theorem arr_cg {cA : ClassId} {n : Nat} {f g : Int → Int} (h : rgA n f g) : vp_cell cA (n, .inl (ia f)) = vp_cell cA (n, .inl (ia g)) := by
  show arrV cA n (fun j => .int (ia f j)) = arrV cA n (fun j => .int (ia g j))
  unfold arrV
  have e : (fun j : Fin n => Value.int (ia f j.val)) = (fun j : Fin n => Value.int (ia g j.val)) := funext fun j => by
    have hj := j.isLt
    show Value.int (iI (f ((j.val : Nat) : Int))) = Value.int (iI (g ((j.val : Nat) : Int)))
    rw [h j.val (by omega) (by omega)]
  rw [e]
theorem va_D_cg {A : Nat → Prop} {ws w2 : va_W} (e : ws.map (fun q => q.1) = w2.map (fun q => q.1)) (h : va_D A ws) : va_D A w2 := by
  have key : ∀ (k : Nat) (q : Nat × va_E), w2[k]? = some q → ∃ q0, ws[k]? = some q0 ∧ q0.1 = q.1 := by
    intro k q hq
    have h1 : (w2.map (fun q => q.1))[k]? = some q.1 := by rw [List.getElem?_map, hq]; rfl
    rw [← e, List.getElem?_map] at h1
    cases h2 : ws[k]? with
    | none => rw [h2] at h1; cases h1
    | some q0 => rw [h2] at h1; exact ⟨q0, rfl, Option.some.inj h1⟩
  refine ⟨fun i j x y hi hj hxy => ?_, fun k q hk => ?_⟩
  · obtain ⟨x0, a1, a2⟩ := key i x hi
    obtain ⟨y0, b1, b2⟩ := key j y hj
    exact h.1 i j x0 y0 a1 b1 (a2.trans (hxy.trans b2.symm))
  · obtain ⟨q0, a1, a2⟩ := key k q hk
    rw [← a2]; exact h.2 k q0 a1
theorem va_P_cg {D : va_G} {cl : List vw_C} {ws w2 : va_W} {H : Heap} (hl : ws.length = w2.length) (e : ∀ (k : Nat) (q q2 : Nat × va_E), ws[k]? = some q → w2[k]? = some q2 → va_at D cl q H → va_at D cl q2 H) (h : va_P D cl ws H) : va_P D cl w2 H := by
  intro k q hq
  have hk := (List.getElem?_eq_some_iff.mp hq).1
  have h1 : ws[k]? = some (ws[k]'(by omega)) := List.getElem?_eq_getElem (by omega)
  exact e k _ q h1 hq (h k _ h1)
theorem at_arr {D : va_G} {cl : List vw_C} {a : Nat} {cA : ClassId} {n : Nat} {f g : Int → Int} {H : Heap} (h : rgA n f g) (q : va_at D cl (a, .inl (cA, n, .inl (ia f))) H) : va_at D cl (a, .inl (cA, n, .inl (ia g))) H := by
  show H[a]? = some (vp_cell cA (n, .inl (ia g)))
  rw [← arr_cg h]; exact q
/-- two rivers hold the same, as far as their rows go -/
def rEq (r q : mf_V) : Prop := rgA 384 (r 0) (q 0) ∧ rgA 384 (r 1) (q 1) ∧ rgA 384 (r 2) (q 2) ∧ rgA 384 (r 3) (q 3) ∧ rgA 384 (r 4) (q 4) ∧ rgA 12 (r 5) (q 5) ∧ rgA 150 (r 6) (q 6) ∧ (r 7 0 = q 7 0 ∧ r 8 0 = q 8 0 ∧ r 9 0 = q 9 0) ∧ rgA 384 (r 10) (q 10) ∧ rgA 150 (r 11) (q 11) ∧ rgA 150 (r 12) (q 12) ∧ rgA 150 (r 13) (q 13)
theorem RW_cg {G : mf_G} {h : Nat} {ad : Nat → Nat} {r q : mf_V} {H : Heap} (e : rEq r q) (hP : va_P G.1 vwCl (RW G h ad r) H) : va_P G.1 vwCl (RW G h ad q) H := by
  obtain ⟨e0, e1, e2, e3, e4, e5, e6, ⟨e7, e8, e9⟩, e10, e11, e12, e13⟩ := e
  refine va_P_cg (ws := RW G h ad r) rfl (fun k x y hx hy g => ?_) hP
  match k, hx, hy with
  | 0, hx, hy =>
    cases hx; cases hy
    rw [e7, e8, e9] at g; exact g
  | 1, hx, hy => cases hx; cases hy; exact at_arr e0 g
  | 2, hx, hy => cases hx; cases hy; exact at_arr e1 g
  | 3, hx, hy => cases hx; cases hy; exact at_arr e2 g
  | 4, hx, hy => cases hx; cases hy; exact at_arr e3 g
  | 5, hx, hy => cases hx; cases hy; exact at_arr e4 g
  | 6, hx, hy => cases hx; cases hy; exact at_arr e5 g
  | 7, hx, hy => cases hx; cases hy; exact at_arr e6 g
  | 8, hx, hy => cases hx; cases hy; exact at_arr e10 g
  | 9, hx, hy => cases hx; cases hy; exact at_arr e11 g
  | 10, hx, hy => cases hx; cases hy; exact at_arr e12 g
  | 11, hx, hy => cases hx; cases hy; exact at_arr e13 g
  | k + 12, hx, hy => cases hx
theorem cpy_rg (f g : Int → Int) (n : Int) : rgA n (mf_cpy f g 0 0 n) f := fun z h0 h1 => by
  unfold mf_cpy
  rw [if_pos ⟨h0, by omega⟩]
  congr 1; omega
set_option maxHeartbeats 4000000 in
set_option maxRecDepth 100000 in
theorem c_X1_copyFrom (l : Launch) (G : mf_G) (h : Nat) (ad : Nat → Nat) (r : mf_V) (hb2 : Nat) (ad2 : Nat → Nat) (ro : mf_V)  (ok : rOK rlo rhi r) (ok2 : rOK rlo rhi ro) (sz : Nat) : Met l yX1_copyFrom wsX1_copyFrom ({ frames := 1, cells := 0, slots := 0, locals := 26 }) (va_Pc [.ref h, .ref hb2] (WrP G (RW G h ad r ++ RW G hb2 ad2 ro) sz)) (va_Qv (fun (r' : mf_V) => rOK rlo rhi r' ∧ r' = mf_sF ro 4 (fun _ => 0)) (fun (r' : mf_V) t => WrQ G (va_A (RW G h ad r ++ RW G hb2 ad2 ro) sz) (RW G h ad r' ++ RW G hb2 ad2 ro) t) (va_A (RW G h ad r ++ RW G hb2 ad2 ro) sz)) 0 0 (va_A (RW G h ad r ++ RW G hb2 ad2 ro) sz) := by
  refine Met.ofW (cc := cX1_copyFrom) (maxL := 3) (ret := none) (by decide) rfl ?_
  intro p e s m args below meth c s₁ B hml hv
  obtain ⟨rfl, hsz, hP, hK, hD0, hN⟩ := hv
  have hx := B.exec
  have hb := B.bytes
  have hr := B.returns
  have hts := atoms_spec (ws := wsX1_copyFrom) B.pre
  have hown : s.vm.findClass RX1 = some m.cls := findClass_of_methodNamed B.named
  have hlocks := B.notSynchronized
  have hinX1 : ∀ w ∈ u_ws RX1 TX1 14, w ∈ wsX1_copyFrom := fun w h => List.mem_cons_of_mem _ (List.mem_append_right _ h)
  subst hsz
  have hD := hD0.self (sz := s.heap.size)
  generalize hAe : va_A (RW G h ad r ++ RW G hb2 ad2 ro) s.heap.size = A at hD ⊢
  have hA : ∀ q : Nat, s.heap.size ≤ q → A q := fun q h => by rw [← hAe]; exact Or.inr h
  have hS : va_S A s.heap s.heap [] := va_S.rf
  have hl := lv_entry ([.ref h, .ref hb2]) (n := 3) (Nat.le_of_ble_eq_true rfl)
  rw [lg_entry_eq]
  generalize (lg_sl ([.ref h, .ref hb2]) ++ List.replicate (3 - (lg_sl ([.ref h, .ref hb2])).length) Slot.unset).toArray = ls at hl ⊢
  have hl : lv_has ls 3 [(0, .ref h), (1, .ref hb2)] := hl
  have okLr : (0 : Int) ≤ r 7 0 ∧ r 7 0 ≤ 150 := ok 7 0
  have okLro : (0 : Int) ≤ ro 7 0 ∧ ro 7 0 ≤ 150 := ok2 7 0
  refine lv_aload_n hx hb dX1_copyFrom_0 rfl (lv_at hl 1 rfl) ?_
  refine va_get (D := G.1) (ci := 1) (v := .ref (ad2 0)) (C := RX1) (T := TX1) (N := 14) hx hb hts hinX1 hown hK hP 12 rfl rfl 0 (by decide) (hts (.fieldLink RX1 9 "MeanderFarm$River" "hardness" "[I") (List.mem_of_getElem? (i := 1) rfl)) (fun _ h9 => h9) rfl dX1_copyFrom_1 ?_
  refine mf_iconst hx hb dX1_copyFrom_4 ?_
  refine lv_aload_n hx hb dX1_copyFrom_5 rfl (lv_at hl 0 rfl) ?_
  refine va_get (D := G.1) (ci := 1) (v := .ref (ad 0)) (C := RX1) (T := TX1) (N := 14) hx hb hts hinX1 hown hK hP 0 rfl rfl 0 (by decide) (hts (.fieldLink RX1 9 "MeanderFarm$River" "hardness" "[I") (List.mem_of_getElem? (i := 1) rfl)) (fun _ h9 => h9) rfl dX1_copyFrom_6 ?_
  refine mf_iconst hx hb dX1_copyFrom_9 ?_
  refine mf_sipush hx hb dX1_copyFrom_10 rfl ?_
  refine mf_copy (f := ro 0) (g := r 0) (n0 := 384) (n1 := 384) hx hb (hml.trans hl.1.symm) hown (hts (.methodLink RX1 54 arraycopyName) (List.mem_of_getElem? (i := 2) rfl)) (hts (.native arraycopyName) (List.mem_of_getElem? (i := 3) rfl)) (hts (.static arraycopyName) (List.mem_of_getElem? (i := 4) rfl)) (hts (.initialized "java/lang/System") (List.mem_of_getElem? (i := 5) rfl)) hK hP hD hS 13 1 0 0 rfl rfl rfl rfl rfl (sp := 0) (dp := 0) (n := 384) (by omega) (by omega) (by omega) (by omega) (by omega) (by decide) (by decide) (fun _ => rfl) (Nat.le_of_ble_eq_true rfl) (Nat.le_of_ble_eq_true rfl) dX1_copyFrom_13 (fun H locs hP hD hS => ?_)
  obtain ⟨r1, er1⟩ : ∃ q : mf_V, q = mf_sF r 0 (mf_cpy (ro 0) (r 0) (0) (0) (384)) := ⟨_, rfl⟩
  have hP : va_P G.1 vwCl (RW G h ad r1 ++ RW G hb2 ad2 ro) H := by rw [er1]; exact hP
  have hD : va_D A (RW G h ad r1 ++ RW G hb2 ad2 ro) := by rw [er1]; exact hD
  have okr1 : rOK rlo rhi r1 := by rw [er1]; exact rOK_cpy ok2 ok 0 _ _ _
  have f1_r1 : r1 0 = mf_cpy (ro 0) (r 0) (0) (0) (384) := by rw [er1, mf_sF_s]
  have f3_r1 : ∀ q, q ≠ 0 → r1 q = r q := fun q hq => by rw [er1, mf_sF_n hq]
  refine lv_aload_n hx hb dX1_copyFrom_16 rfl (lv_at hl 1 rfl) ?_
  refine va_get (D := G.1) (ci := 1) (v := .ref (ad2 1)) (C := RX1) (T := TX1) (N := 14) hx hb hts hinX1 hown hK hP 12 rfl rfl 1 (by decide) (hts (.fieldLink RX1 15 "MeanderFarm$River" "wear" "[I") (List.mem_of_getElem? (i := 6) rfl)) (fun _ h9 => h9) rfl dX1_copyFrom_17 ?_
  refine mf_iconst hx hb dX1_copyFrom_20 ?_
  refine lv_aload_n hx hb dX1_copyFrom_21 rfl (lv_at hl 0 rfl) ?_
  refine va_get (D := G.1) (ci := 1) (v := .ref (ad 1)) (C := RX1) (T := TX1) (N := 14) hx hb hts hinX1 hown hK hP 0 rfl rfl 1 (by decide) (hts (.fieldLink RX1 15 "MeanderFarm$River" "wear" "[I") (List.mem_of_getElem? (i := 6) rfl)) (fun _ h9 => h9) rfl dX1_copyFrom_22 ?_
  refine mf_iconst hx hb dX1_copyFrom_25 ?_
  refine mf_sipush hx hb dX1_copyFrom_26 rfl ?_
  refine mf_copy (f := ro 1) (g := r1 1) (n0 := 384) (n1 := 384) hx hb (hml.trans hl.1.symm) hown (hts (.methodLink RX1 54 arraycopyName) (List.mem_of_getElem? (i := 2) rfl)) (hts (.native arraycopyName) (List.mem_of_getElem? (i := 3) rfl)) (hts (.static arraycopyName) (List.mem_of_getElem? (i := 4) rfl)) (hts (.initialized "java/lang/System") (List.mem_of_getElem? (i := 5) rfl)) hK hP hD hS 14 2 0 0 rfl rfl rfl rfl rfl (sp := 0) (dp := 0) (n := 384) (by omega) (by omega) (by omega) (by omega) (by omega) (by decide) (by decide) (fun _ => rfl) (Nat.le_of_ble_eq_true rfl) (Nat.le_of_ble_eq_true rfl) dX1_copyFrom_29 (fun H locs hP hD hS => ?_)
  obtain ⟨r2, er2⟩ : ∃ q : mf_V, q = mf_sF r1 1 (mf_cpy (ro 1) (r1 1) (0) (0) (384)) := ⟨_, rfl⟩
  have hP : va_P G.1 vwCl (RW G h ad r2 ++ RW G hb2 ad2 ro) H := by rw [er2]; exact hP
  have hD : va_D A (RW G h ad r2 ++ RW G hb2 ad2 ro) := by rw [er2]; exact hD
  have okr2 : rOK rlo rhi r2 := by rw [er2]; exact rOK_cpy ok2 okr1 1 _ _ _
  have f1_r2 : r2 1 = mf_cpy (ro 1) (r1 1) (0) (0) (384) := by rw [er2, mf_sF_s]
  have f3_r2 : ∀ q, q ≠ 1 → r2 q = r1 q := fun q hq => by rw [er2, mf_sF_n hq]
  refine lv_aload_n hx hb dX1_copyFrom_32 rfl (lv_at hl 1 rfl) ?_
  refine va_get (D := G.1) (ci := 1) (v := .ref (ad2 2)) (C := RX1) (T := TX1) (N := 14) hx hb hts hinX1 hown hK hP 12 rfl rfl 2 (by decide) (hts (.fieldLink RX1 18 "MeanderFarm$River" "stones" "[Z") (List.mem_of_getElem? (i := 7) rfl)) (fun _ h9 => h9) rfl dX1_copyFrom_33 ?_
  refine mf_iconst hx hb dX1_copyFrom_36 ?_
  refine lv_aload_n hx hb dX1_copyFrom_37 rfl (lv_at hl 0 rfl) ?_
  refine va_get (D := G.1) (ci := 1) (v := .ref (ad 2)) (C := RX1) (T := TX1) (N := 14) hx hb hts hinX1 hown hK hP 0 rfl rfl 2 (by decide) (hts (.fieldLink RX1 18 "MeanderFarm$River" "stones" "[Z") (List.mem_of_getElem? (i := 7) rfl)) (fun _ h9 => h9) rfl dX1_copyFrom_38 ?_
  refine mf_iconst hx hb dX1_copyFrom_41 ?_
  refine mf_sipush hx hb dX1_copyFrom_42 rfl ?_
  refine mf_copy (f := ro 2) (g := r2 2) (n0 := 384) (n1 := 384) hx hb (hml.trans hl.1.symm) hown (hts (.methodLink RX1 54 arraycopyName) (List.mem_of_getElem? (i := 2) rfl)) (hts (.native arraycopyName) (List.mem_of_getElem? (i := 3) rfl)) (hts (.static arraycopyName) (List.mem_of_getElem? (i := 4) rfl)) (hts (.initialized "java/lang/System") (List.mem_of_getElem? (i := 5) rfl)) hK hP hD hS 15 3 1 1 rfl rfl rfl rfl rfl (sp := 0) (dp := 0) (n := 384) (by omega) (by omega) (by omega) (by omega) (by omega) (by decide) (by decide) (fun i => mf_fit01 (show (0 : Int) ≤ ro 2 i ∧ ro 2 i ≤ 1 from ok2 2 i)) (Nat.le_of_ble_eq_true rfl) (Nat.le_of_ble_eq_true rfl) dX1_copyFrom_45 (fun H locs hP hD hS => ?_)
  obtain ⟨r3, er3⟩ : ∃ q : mf_V, q = mf_sF r2 2 (mf_cpy (ro 2) (r2 2) (0) (0) (384)) := ⟨_, rfl⟩
  have hP : va_P G.1 vwCl (RW G h ad r3 ++ RW G hb2 ad2 ro) H := by rw [er3]; exact hP
  have hD : va_D A (RW G h ad r3 ++ RW G hb2 ad2 ro) := by rw [er3]; exact hD
  have okr3 : rOK rlo rhi r3 := by rw [er3]; exact rOK_cpy ok2 okr2 2 _ _ _
  have f1_r3 : r3 2 = mf_cpy (ro 2) (r2 2) (0) (0) (384) := by rw [er3, mf_sF_s]
  have f3_r3 : ∀ q, q ≠ 2 → r3 q = r2 q := fun q hq => by rw [er3, mf_sF_n hq]
  refine lv_aload_n hx hb dX1_copyFrom_48 rfl (lv_at hl 1 rfl) ?_
  refine va_get (D := G.1) (ci := 1) (v := .ref (ad2 3)) (C := RX1) (T := TX1) (N := 14) hx hb hts hinX1 hown hK hP 12 rfl rfl 3 (by decide) (hts (.fieldLink RX1 22 "MeanderFarm$River" "lakeEnd" "[I") (List.mem_of_getElem? (i := 8) rfl)) (fun _ h9 => h9) rfl dX1_copyFrom_49 ?_
  refine mf_iconst hx hb dX1_copyFrom_52 ?_
  refine lv_aload_n hx hb dX1_copyFrom_53 rfl (lv_at hl 0 rfl) ?_
  refine va_get (D := G.1) (ci := 1) (v := .ref (ad 3)) (C := RX1) (T := TX1) (N := 14) hx hb hts hinX1 hown hK hP 0 rfl rfl 3 (by decide) (hts (.fieldLink RX1 22 "MeanderFarm$River" "lakeEnd" "[I") (List.mem_of_getElem? (i := 8) rfl)) (fun _ h9 => h9) rfl dX1_copyFrom_54 ?_
  refine mf_iconst hx hb dX1_copyFrom_57 ?_
  refine mf_sipush hx hb dX1_copyFrom_58 rfl ?_
  refine mf_copy (f := ro 3) (g := r3 3) (n0 := 384) (n1 := 384) hx hb (hml.trans hl.1.symm) hown (hts (.methodLink RX1 54 arraycopyName) (List.mem_of_getElem? (i := 2) rfl)) (hts (.native arraycopyName) (List.mem_of_getElem? (i := 3) rfl)) (hts (.static arraycopyName) (List.mem_of_getElem? (i := 4) rfl)) (hts (.initialized "java/lang/System") (List.mem_of_getElem? (i := 5) rfl)) hK hP hD hS 16 4 0 0 rfl rfl rfl rfl rfl (sp := 0) (dp := 0) (n := 384) (by omega) (by omega) (by omega) (by omega) (by omega) (by decide) (by decide) (fun _ => rfl) (Nat.le_of_ble_eq_true rfl) (Nat.le_of_ble_eq_true rfl) dX1_copyFrom_61 (fun H locs hP hD hS => ?_)
  obtain ⟨r4, er4⟩ : ∃ q : mf_V, q = mf_sF r3 3 (mf_cpy (ro 3) (r3 3) (0) (0) (384)) := ⟨_, rfl⟩
  have hP : va_P G.1 vwCl (RW G h ad r4 ++ RW G hb2 ad2 ro) H := by rw [er4]; exact hP
  have hD : va_D A (RW G h ad r4 ++ RW G hb2 ad2 ro) := by rw [er4]; exact hD
  have okr4 : rOK rlo rhi r4 := by rw [er4]; exact rOK_cpy ok2 okr3 3 _ _ _
  have f1_r4 : r4 3 = mf_cpy (ro 3) (r3 3) (0) (0) (384) := by rw [er4, mf_sF_s]
  have f3_r4 : ∀ q, q ≠ 3 → r4 q = r3 q := fun q hq => by rw [er4, mf_sF_n hq]
  refine lv_aload_n hx hb dX1_copyFrom_64 rfl (lv_at hl 1 rfl) ?_
  refine va_get (D := G.1) (ci := 1) (v := .ref (ad2 5)) (C := RX1) (T := TX1) (N := 14) hx hb hts hinX1 hown hK hP 12 rfl rfl 5 (by decide) (hts (.fieldLink RX1 28 "MeanderFarm$River" "flow" "[I") (List.mem_of_getElem? (i := 9) rfl)) (fun _ h9 => h9) rfl dX1_copyFrom_65 ?_
  refine mf_iconst hx hb dX1_copyFrom_68 ?_
  refine lv_aload_n hx hb dX1_copyFrom_69 rfl (lv_at hl 0 rfl) ?_
  refine va_get (D := G.1) (ci := 1) (v := .ref (ad 5)) (C := RX1) (T := TX1) (N := 14) hx hb hts hinX1 hown hK hP 0 rfl rfl 5 (by decide) (hts (.fieldLink RX1 28 "MeanderFarm$River" "flow" "[I") (List.mem_of_getElem? (i := 9) rfl)) (fun _ h9 => h9) rfl dX1_copyFrom_70 ?_
  refine mf_iconst hx hb dX1_copyFrom_73 ?_
  refine mf_bipush hx hb dX1_copyFrom_74 rfl ?_
  refine mf_copy (f := ro 5) (g := r4 5) (n0 := 12) (n1 := 12) hx hb (hml.trans hl.1.symm) hown (hts (.methodLink RX1 54 arraycopyName) (List.mem_of_getElem? (i := 2) rfl)) (hts (.native arraycopyName) (List.mem_of_getElem? (i := 3) rfl)) (hts (.static arraycopyName) (List.mem_of_getElem? (i := 4) rfl)) (hts (.initialized "java/lang/System") (List.mem_of_getElem? (i := 5) rfl)) hK hP hD hS 18 6 0 0 rfl rfl rfl rfl rfl (sp := 0) (dp := 0) (n := 12) (by omega) (by omega) (by omega) (by omega) (by omega) (by decide) (by decide) (fun _ => rfl) (Nat.le_of_ble_eq_true rfl) (Nat.le_of_ble_eq_true rfl) dX1_copyFrom_76 (fun H locs hP hD hS => ?_)
  obtain ⟨r5, er5⟩ : ∃ q : mf_V, q = mf_sF r4 5 (mf_cpy (ro 5) (r4 5) (0) (0) (12)) := ⟨_, rfl⟩
  have hP : va_P G.1 vwCl (RW G h ad r5 ++ RW G hb2 ad2 ro) H := by rw [er5]; exact hP
  have hD : va_D A (RW G h ad r5 ++ RW G hb2 ad2 ro) := by rw [er5]; exact hD
  have okr5 : rOK rlo rhi r5 := by rw [er5]; exact rOK_cpy ok2 okr4 5 _ _ _
  have f1_r5 : r5 5 = mf_cpy (ro 5) (r4 5) (0) (0) (12) := by rw [er5, mf_sF_s]
  have f3_r5 : ∀ q, q ≠ 5 → r5 q = r4 q := fun q hq => by rw [er5, mf_sF_n hq]
  refine lv_aload_n hx hb dX1_copyFrom_79 rfl (lv_at hl 1 rfl) ?_
  refine va_get (D := G.1) (ci := 1) (v := .ref (ad2 6)) (C := RX1) (T := TX1) (N := 14) hx hb hts hinX1 hown hK hP 12 rfl rfl 6 (by decide) (hts (.fieldLink RX1 31 "MeanderFarm$River" "course" "[I") (List.mem_of_getElem? (i := 10) rfl)) (fun _ h9 => h9) rfl dX1_copyFrom_80 ?_
  refine mf_iconst hx hb dX1_copyFrom_83 ?_
  refine lv_aload_n hx hb dX1_copyFrom_84 rfl (lv_at hl 0 rfl) ?_
  refine va_get (D := G.1) (ci := 1) (v := .ref (ad 6)) (C := RX1) (T := TX1) (N := 14) hx hb hts hinX1 hown hK hP 0 rfl rfl 6 (by decide) (hts (.fieldLink RX1 31 "MeanderFarm$River" "course" "[I") (List.mem_of_getElem? (i := 10) rfl)) (fun _ h9 => h9) rfl dX1_copyFrom_85 ?_
  refine mf_iconst hx hb dX1_copyFrom_88 ?_
  refine mf_sipush hx hb dX1_copyFrom_89 rfl ?_
  refine mf_copy (f := ro 6) (g := r5 6) (n0 := 150) (n1 := 150) hx hb (hml.trans hl.1.symm) hown (hts (.methodLink RX1 54 arraycopyName) (List.mem_of_getElem? (i := 2) rfl)) (hts (.native arraycopyName) (List.mem_of_getElem? (i := 3) rfl)) (hts (.static arraycopyName) (List.mem_of_getElem? (i := 4) rfl)) (hts (.initialized "java/lang/System") (List.mem_of_getElem? (i := 5) rfl)) hK hP hD hS 19 7 0 0 rfl rfl rfl rfl rfl (sp := 0) (dp := 0) (n := 150) (by omega) (by omega) (by omega) (by omega) (by omega) (by decide) (by decide) (fun _ => rfl) (Nat.le_of_ble_eq_true rfl) (Nat.le_of_ble_eq_true rfl) dX1_copyFrom_92 (fun H locs hP hD hS => ?_)
  obtain ⟨r6, er6⟩ : ∃ q : mf_V, q = mf_sF r5 6 (mf_cpy (ro 6) (r5 6) (0) (0) (150)) := ⟨_, rfl⟩
  have hP : va_P G.1 vwCl (RW G h ad r6 ++ RW G hb2 ad2 ro) H := by rw [er6]; exact hP
  have hD : va_D A (RW G h ad r6 ++ RW G hb2 ad2 ro) := by rw [er6]; exact hD
  have okr6 : rOK rlo rhi r6 := by rw [er6]; exact rOK_cpy ok2 okr5 6 _ _ _
  have f1_r6 : r6 6 = mf_cpy (ro 6) (r5 6) (0) (0) (150) := by rw [er6, mf_sF_s]
  have f3_r6 : ∀ q, q ≠ 6 → r6 q = r5 q := fun q hq => by rw [er6, mf_sF_n hq]
  refine lv_aload_n hx hb dX1_copyFrom_95 rfl (lv_at hl 1 rfl) ?_
  refine va_get (D := G.1) (ci := 1) (v := .ref (ad2 10)) (C := RX1) (T := TX1) (N := 14) hx hb hts hinX1 hown hK hP 12 rfl rfl 10 (by decide) (hts (.fieldLink RX1 34 "MeanderFarm$River" "place" "[I") (List.mem_of_getElem? (i := 11) rfl)) (fun _ h9 => h9) rfl dX1_copyFrom_96 ?_
  refine mf_iconst hx hb dX1_copyFrom_99 ?_
  refine lv_aload_n hx hb dX1_copyFrom_100 rfl (lv_at hl 0 rfl) ?_
  refine va_get (D := G.1) (ci := 1) (v := .ref (ad 10)) (C := RX1) (T := TX1) (N := 14) hx hb hts hinX1 hown hK hP 0 rfl rfl 10 (by decide) (hts (.fieldLink RX1 34 "MeanderFarm$River" "place" "[I") (List.mem_of_getElem? (i := 11) rfl)) (fun _ h9 => h9) rfl dX1_copyFrom_101 ?_
  refine mf_iconst hx hb dX1_copyFrom_104 ?_
  refine mf_sipush hx hb dX1_copyFrom_105 rfl ?_
  refine mf_copy (f := ro 10) (g := r6 10) (n0 := 384) (n1 := 384) hx hb (hml.trans hl.1.symm) hown (hts (.methodLink RX1 54 arraycopyName) (List.mem_of_getElem? (i := 2) rfl)) (hts (.native arraycopyName) (List.mem_of_getElem? (i := 3) rfl)) (hts (.static arraycopyName) (List.mem_of_getElem? (i := 4) rfl)) (hts (.initialized "java/lang/System") (List.mem_of_getElem? (i := 5) rfl)) hK hP hD hS 20 8 0 0 rfl rfl rfl rfl rfl (sp := 0) (dp := 0) (n := 384) (by omega) (by omega) (by omega) (by omega) (by omega) (by decide) (by decide) (fun _ => rfl) (Nat.le_of_ble_eq_true rfl) (Nat.le_of_ble_eq_true rfl) dX1_copyFrom_108 (fun H locs hP hD hS => ?_)
  obtain ⟨r7, er7⟩ : ∃ q : mf_V, q = mf_sF r6 10 (mf_cpy (ro 10) (r6 10) (0) (0) (384)) := ⟨_, rfl⟩
  have hP : va_P G.1 vwCl (RW G h ad r7 ++ RW G hb2 ad2 ro) H := by rw [er7]; exact hP
  have hD : va_D A (RW G h ad r7 ++ RW G hb2 ad2 ro) := by rw [er7]; exact hD
  have okr7 : rOK rlo rhi r7 := by rw [er7]; exact rOK_cpy ok2 okr6 10 _ _ _
  have f1_r7 : r7 10 = mf_cpy (ro 10) (r6 10) (0) (0) (384) := by rw [er7, mf_sF_s]
  have f3_r7 : ∀ q, q ≠ 10 → r7 q = r6 q := fun q hq => by rw [er7, mf_sF_n hq]
  refine lv_aload_n hx hb dX1_copyFrom_111 rfl (lv_at hl 1 rfl) ?_
  refine va_get (D := G.1) (ci := 1) (v := .ref (ad2 11)) (C := RX1) (T := TX1) (N := 14) hx hb hts hinX1 hown hK hP 12 rfl rfl 11 (by decide) (hts (.fieldLink RX1 37 "MeanderFarm$River" "direction" "[I") (List.mem_of_getElem? (i := 12) rfl)) (fun _ h9 => h9) rfl dX1_copyFrom_112 ?_
  refine mf_iconst hx hb dX1_copyFrom_115 ?_
  refine lv_aload_n hx hb dX1_copyFrom_116 rfl (lv_at hl 0 rfl) ?_
  refine va_get (D := G.1) (ci := 1) (v := .ref (ad 11)) (C := RX1) (T := TX1) (N := 14) hx hb hts hinX1 hown hK hP 0 rfl rfl 11 (by decide) (hts (.fieldLink RX1 37 "MeanderFarm$River" "direction" "[I") (List.mem_of_getElem? (i := 12) rfl)) (fun _ h9 => h9) rfl dX1_copyFrom_117 ?_
  refine mf_iconst hx hb dX1_copyFrom_120 ?_
  refine mf_sipush hx hb dX1_copyFrom_121 rfl ?_
  refine mf_copy (f := ro 11) (g := r7 11) (n0 := 150) (n1 := 150) hx hb (hml.trans hl.1.symm) hown (hts (.methodLink RX1 54 arraycopyName) (List.mem_of_getElem? (i := 2) rfl)) (hts (.native arraycopyName) (List.mem_of_getElem? (i := 3) rfl)) (hts (.static arraycopyName) (List.mem_of_getElem? (i := 4) rfl)) (hts (.initialized "java/lang/System") (List.mem_of_getElem? (i := 5) rfl)) hK hP hD hS 21 9 0 0 rfl rfl rfl rfl rfl (sp := 0) (dp := 0) (n := 150) (by omega) (by omega) (by omega) (by omega) (by omega) (by decide) (by decide) (fun _ => rfl) (Nat.le_of_ble_eq_true rfl) (Nat.le_of_ble_eq_true rfl) dX1_copyFrom_124 (fun H locs hP hD hS => ?_)
  obtain ⟨r8, er8⟩ : ∃ q : mf_V, q = mf_sF r7 11 (mf_cpy (ro 11) (r7 11) (0) (0) (150)) := ⟨_, rfl⟩
  have hP : va_P G.1 vwCl (RW G h ad r8 ++ RW G hb2 ad2 ro) H := by rw [er8]; exact hP
  have hD : va_D A (RW G h ad r8 ++ RW G hb2 ad2 ro) := by rw [er8]; exact hD
  have okr8 : rOK rlo rhi r8 := by rw [er8]; exact rOK_cpy ok2 okr7 11 _ _ _
  have f1_r8 : r8 11 = mf_cpy (ro 11) (r7 11) (0) (0) (150) := by rw [er8, mf_sF_s]
  have f3_r8 : ∀ q, q ≠ 11 → r8 q = r7 q := fun q hq => by rw [er8, mf_sF_n hq]
  refine lv_aload_n hx hb dX1_copyFrom_127 rfl (lv_at hl 1 rfl) ?_
  refine va_get (D := G.1) (ci := 1) (v := .ref (ad2 12)) (C := RX1) (T := TX1) (N := 14) hx hb hts hinX1 hown hK hP 12 rfl rfl 12 (by decide) (hts (.fieldLink RX1 40 "MeanderFarm$River" "thrown" "[I") (List.mem_of_getElem? (i := 13) rfl)) (fun _ h9 => h9) rfl dX1_copyFrom_128 ?_
  refine mf_iconst hx hb dX1_copyFrom_131 ?_
  refine lv_aload_n hx hb dX1_copyFrom_132 rfl (lv_at hl 0 rfl) ?_
  refine va_get (D := G.1) (ci := 1) (v := .ref (ad 12)) (C := RX1) (T := TX1) (N := 14) hx hb hts hinX1 hown hK hP 0 rfl rfl 12 (by decide) (hts (.fieldLink RX1 40 "MeanderFarm$River" "thrown" "[I") (List.mem_of_getElem? (i := 13) rfl)) (fun _ h9 => h9) rfl dX1_copyFrom_133 ?_
  refine mf_iconst hx hb dX1_copyFrom_136 ?_
  refine mf_sipush hx hb dX1_copyFrom_137 rfl ?_
  refine mf_copy (f := ro 12) (g := r8 12) (n0 := 150) (n1 := 150) hx hb (hml.trans hl.1.symm) hown (hts (.methodLink RX1 54 arraycopyName) (List.mem_of_getElem? (i := 2) rfl)) (hts (.native arraycopyName) (List.mem_of_getElem? (i := 3) rfl)) (hts (.static arraycopyName) (List.mem_of_getElem? (i := 4) rfl)) (hts (.initialized "java/lang/System") (List.mem_of_getElem? (i := 5) rfl)) hK hP hD hS 22 10 0 0 rfl rfl rfl rfl rfl (sp := 0) (dp := 0) (n := 150) (by omega) (by omega) (by omega) (by omega) (by omega) (by decide) (by decide) (fun _ => rfl) (Nat.le_of_ble_eq_true rfl) (Nat.le_of_ble_eq_true rfl) dX1_copyFrom_140 (fun H locs hP hD hS => ?_)
  obtain ⟨r9, er9⟩ : ∃ q : mf_V, q = mf_sF r8 12 (mf_cpy (ro 12) (r8 12) (0) (0) (150)) := ⟨_, rfl⟩
  have hP : va_P G.1 vwCl (RW G h ad r9 ++ RW G hb2 ad2 ro) H := by rw [er9]; exact hP
  have hD : va_D A (RW G h ad r9 ++ RW G hb2 ad2 ro) := by rw [er9]; exact hD
  have okr9 : rOK rlo rhi r9 := by rw [er9]; exact rOK_cpy ok2 okr8 12 _ _ _
  have f1_r9 : r9 12 = mf_cpy (ro 12) (r8 12) (0) (0) (150) := by rw [er9, mf_sF_s]
  have f3_r9 : ∀ q, q ≠ 12 → r9 q = r8 q := fun q hq => by rw [er9, mf_sF_n hq]
  refine lv_aload_n hx hb dX1_copyFrom_143 rfl (lv_at hl 1 rfl) ?_
  refine va_get (D := G.1) (ci := 1) (v := .ref (ad2 13)) (C := RX1) (T := TX1) (N := 14) hx hb hts hinX1 hown hK hP 12 rfl rfl 13 (by decide) (hts (.fieldLink RX1 43 "MeanderFarm$River" "bank" "[I") (List.mem_of_getElem? (i := 14) rfl)) (fun _ h9 => h9) rfl dX1_copyFrom_144 ?_
  refine mf_iconst hx hb dX1_copyFrom_147 ?_
  refine lv_aload_n hx hb dX1_copyFrom_148 rfl (lv_at hl 0 rfl) ?_
  refine va_get (D := G.1) (ci := 1) (v := .ref (ad 13)) (C := RX1) (T := TX1) (N := 14) hx hb hts hinX1 hown hK hP 0 rfl rfl 13 (by decide) (hts (.fieldLink RX1 43 "MeanderFarm$River" "bank" "[I") (List.mem_of_getElem? (i := 14) rfl)) (fun _ h9 => h9) rfl dX1_copyFrom_149 ?_
  refine mf_iconst hx hb dX1_copyFrom_152 ?_
  refine mf_sipush hx hb dX1_copyFrom_153 rfl ?_
  refine mf_copy (f := ro 13) (g := r9 13) (n0 := 150) (n1 := 150) hx hb (hml.trans hl.1.symm) hown (hts (.methodLink RX1 54 arraycopyName) (List.mem_of_getElem? (i := 2) rfl)) (hts (.native arraycopyName) (List.mem_of_getElem? (i := 3) rfl)) (hts (.static arraycopyName) (List.mem_of_getElem? (i := 4) rfl)) (hts (.initialized "java/lang/System") (List.mem_of_getElem? (i := 5) rfl)) hK hP hD hS 23 11 0 0 rfl rfl rfl rfl rfl (sp := 0) (dp := 0) (n := 150) (by omega) (by omega) (by omega) (by omega) (by omega) (by decide) (by decide) (fun _ => rfl) (Nat.le_of_ble_eq_true rfl) (Nat.le_of_ble_eq_true rfl) dX1_copyFrom_156 (fun H locs hP hD hS => ?_)
  obtain ⟨r10, er10⟩ : ∃ q : mf_V, q = mf_sF r9 13 (mf_cpy (ro 13) (r9 13) (0) (0) (150)) := ⟨_, rfl⟩
  have hP : va_P G.1 vwCl (RW G h ad r10 ++ RW G hb2 ad2 ro) H := by rw [er10]; exact hP
  have hD : va_D A (RW G h ad r10 ++ RW G hb2 ad2 ro) := by rw [er10]; exact hD
  have okr10 : rOK rlo rhi r10 := by rw [er10]; exact rOK_cpy ok2 okr9 13 _ _ _
  have f1_r10 : r10 13 = mf_cpy (ro 13) (r9 13) (0) (0) (150) := by rw [er10, mf_sF_s]
  have f3_r10 : ∀ q, q ≠ 13 → r10 q = r9 q := fun q hq => by rw [er10, mf_sF_n hq]
  refine lv_aload_n hx hb dX1_copyFrom_159 rfl (lv_at hl 0 rfl) ?_
  refine lv_aload_n hx hb dX1_copyFrom_160 rfl (lv_at hl 1 rfl) ?_
  refine va_get (D := G.1) (ci := 1) (v := .int (iI (ro 7 0))) (C := RX1) (T := TX1) (N := 14) hx hb hts hinX1 hown hK hP 12 rfl rfl 7 (by decide) (hts (.fieldLink RX1 46 "MeanderFarm$River" "length" "I") (List.mem_of_getElem? (i := 15) rfl)) (fun _ h9 => h9) rfl dX1_copyFrom_161 ?_
  have b11 : (0 : Int) ≤ ro 7 0 ∧ ro 7 0 ≤ 150 := ok2 7 (0)
  refine va_put (D := G.1) (ci := 1) (v := .int (iI (ro 7 0))) (ty := .int) (C := RX1) (T := TX1) (N := 14) hx hb hts hinX1 tyX1 tyX1_ok nmX1 hown hK hP hD hS 0 rfl rfl 7 (by decide) (hts (.fieldLink RX1 46 "MeanderFarm$River" "length" "I") (List.mem_of_getElem? (i := 15) rfl)) (fun _ h9 => h9) rfl (by decide +kernel) rfl rfl (Nat.le_of_ble_eq_true rfl) dX1_copyFrom_164 (fun H locs hP hD hS => ?_)
  obtain ⟨r12, er12⟩ : ∃ q : mf_V, q = mf_sF r10 7 (fun _ => ro 7 0) := ⟨_, rfl⟩
  have hP : va_P G.1 vwCl (RW G h ad r12 ++ RW G hb2 ad2 ro) H := by rw [er12]; exact hP
  have hD : va_D A (RW G h ad r12 ++ RW G hb2 ad2 ro) := by rw [er12]; exact hD
  have okr12 : rOK rlo rhi r12 := by rw [er12]; exact rOK_set okr10 7 _ (show (0 : Int) ≤ ro 7 0 by omega) (show ro 7 0 ≤ (150 : Int) by omega)
  have f1_r12 : ∀ y, r12 7 y = ro 7 0 := fun y => by rw [er12, mf_sF_s]
  have f3_r12 : ∀ q, q ≠ 7 → r12 q = r10 q := fun q hq => by rw [er12, mf_sF_n hq]
  refine lv_aload_n hx hb dX1_copyFrom_167 rfl (lv_at hl 0 rfl) ?_
  refine lv_aload_n hx hb dX1_copyFrom_168 rfl (lv_at hl 1 rfl) ?_
  refine va_get (D := G.1) (ci := 1) (v := .int (iI (ro 8 0))) (C := RX1) (T := TX1) (N := 14) hx hb hts hinX1 hown hK hP 12 rfl rfl 8 (by decide) (hts (.fieldLink RX1 60 "MeanderFarm$River" "year" "I") (List.mem_of_getElem? (i := 16) rfl)) (fun _ h9 => h9) rfl dX1_copyFrom_169 ?_
  have b13 : (0 : Int) ≤ ro 8 0 ∧ ro 8 0 ≤ 90000 := ok2 8 (0)
  refine va_put (D := G.1) (ci := 1) (v := .int (iI (ro 8 0))) (ty := .int) (C := RX1) (T := TX1) (N := 14) hx hb hts hinX1 tyX1 tyX1_ok nmX1 hown hK hP hD hS 0 rfl rfl 8 (by decide) (hts (.fieldLink RX1 60 "MeanderFarm$River" "year" "I") (List.mem_of_getElem? (i := 16) rfl)) (fun _ h9 => h9) rfl (by decide +kernel) rfl rfl (Nat.le_of_ble_eq_true rfl) dX1_copyFrom_172 (fun H locs hP hD hS => ?_)
  obtain ⟨r14, er14⟩ : ∃ q : mf_V, q = mf_sF r12 8 (fun _ => ro 8 0) := ⟨_, rfl⟩
  have hP : va_P G.1 vwCl (RW G h ad r14 ++ RW G hb2 ad2 ro) H := by rw [er14]; exact hP
  have hD : va_D A (RW G h ad r14 ++ RW G hb2 ad2 ro) := by rw [er14]; exact hD
  have okr14 : rOK rlo rhi r14 := by rw [er14]; exact rOK_set okr12 8 _ (show (0 : Int) ≤ ro 8 0 by omega) (show ro 8 0 ≤ (90000 : Int) by omega)
  have f1_r14 : ∀ y, r14 8 y = ro 8 0 := fun y => by rw [er14, mf_sF_s]
  have f3_r14 : ∀ q, q ≠ 8 → r14 q = r12 q := fun q hq => by rw [er14, mf_sF_n hq]
  refine lv_aload_n hx hb dX1_copyFrom_175 rfl (lv_at hl 0 rfl) ?_
  refine lv_aload_n hx hb dX1_copyFrom_176 rfl (lv_at hl 1 rfl) ?_
  refine va_get (D := G.1) (ci := 1) (v := .int (iI (ro 9 0))) (C := RX1) (T := TX1) (N := 14) hx hb hts hinX1 hown hK hP 12 rfl rfl 9 (by decide) (hts (.fieldLink RX1 63 "MeanderFarm$River" "breaks" "I") (List.mem_of_getElem? (i := 17) rfl)) (fun _ h9 => h9) rfl dX1_copyFrom_177 ?_
  have b15 : (0 : Int) ≤ ro 9 0 ∧ ro 9 0 ≤ 100000000 := ok2 9 (0)
  refine va_put (D := G.1) (ci := 1) (v := .int (iI (ro 9 0))) (ty := .int) (C := RX1) (T := TX1) (N := 14) hx hb hts hinX1 tyX1 tyX1_ok nmX1 hown hK hP hD hS 0 rfl rfl 9 (by decide) (hts (.fieldLink RX1 63 "MeanderFarm$River" "breaks" "I") (List.mem_of_getElem? (i := 17) rfl)) (fun _ h9 => h9) rfl (by decide +kernel) rfl rfl (Nat.le_of_ble_eq_true rfl) dX1_copyFrom_180 (fun H locs hP hD hS => ?_)
  obtain ⟨r16, er16⟩ : ∃ q : mf_V, q = mf_sF r14 9 (fun _ => ro 9 0) := ⟨_, rfl⟩
  have hP : va_P G.1 vwCl (RW G h ad r16 ++ RW G hb2 ad2 ro) H := by rw [er16]; exact hP
  have hD : va_D A (RW G h ad r16 ++ RW G hb2 ad2 ro) := by rw [er16]; exact hD
  have okr16 : rOK rlo rhi r16 := by rw [er16]; exact rOK_set okr14 9 _ (show (0 : Int) ≤ ro 9 0 by omega) (show ro 9 0 ≤ (100000000 : Int) by omega)
  have f1_r16 : ∀ y, r16 9 y = ro 9 0 := fun y => by rw [er16, mf_sF_s]
  have f3_r16 : ∀ q, q ≠ 9 → r16 q = r14 q := fun q hq => by rw [er16, mf_sF_n hq]
  skip
  refine mf_iconst hx hb dX1_copyFrom_183 ?_
  refine lv_istore_n (lv' := [(2, .int (iI (0))), (0, .ref h), (1, .ref hb2)]) hx hb dX1_copyFrom_184 rfl hl (by decide) rfl (fun ls hl => ?_)
  have lp185 : ∀ (n : Nat) (kv : Int) (r1 : mf_V), (384 - kv).toNat < n → (0 ≤ kv ∧ kv ≤ 384) → (rOK rlo rhi r1) → (∀ q, q ≠ 4 → r1 q = r16 q) → (∀ z, 0 ≤ z → z < kv → r1 4 z = 0) → ∀ (H : Heap) (locs : List Loc), va_P G.1 vwCl (RW G h ad r1 ++ RW G hb2 ad2 ro) H → va_D A (RW G h ad r1 ++ RW G hb2 ad2 ro) → va_S A s.heap H locs → ∀ (ls : Array Slot), lv_has ls 3 [(0, .ref h), (1, .ref hb2), (2, .int (iI (kv)))] → W p l e (headSpec wsX1_copyFrom ({ frames := 1, cells := 0, slots := 0, locals := 26 })).room s m ([.ref h, .ref hb2] : List Value).toArray below meth c H locs 0 0 (MQ below (va_Qv (fun (r' : mf_V) => rOK rlo rhi r' ∧ r' = mf_sF ro 4 (fun _ => 0)) (fun (r' : mf_V) t => WrQ G A (RW G h ad r' ++ RW G hb2 ad2 ro) t) A) ([.ref h, .ref hb2] : List Value).toArray s 0 0 A) (F0 m 185 ls []) := by
    intro n
    induction n with
    | zero => intro kv r1 hn; exact absurd hn (Nat.not_lt_zero _)
    | succ n ih185 =>
      intro kv r1 hn hk okr1 hfr hz H locs hP hD hS ls hl
      refine lv_iload_n hx hb dX1_copyFrom_185 rfl (lv_at hl 2 rfl) ?_
      refine mf_sipush hx hb dX1_copyFrom_186 rfl ?_
      refine mf_icmp_ge (tgt := 205) hx hb dX1_copyFrom_189 (by decide) (i32_mk (by omega) (by omega)) (i32_mk (by decide) (by decide)) (fun c17 => ?_) (fun c17 => ?_)
      · skip
        have hE : rEq r1 (mf_sF ro 4 (fun _ => 0)) := ⟨by rw [hfr 0 (by decide), f3_r16 0 (by decide), f3_r14 0 (by decide), f3_r12 0 (by decide), f3_r10 0 (by decide), f3_r9 0 (by decide), f3_r8 0 (by decide), f3_r7 0 (by decide), f3_r6 0 (by decide), f3_r5 0 (by decide), f3_r4 0 (by decide), f3_r3 0 (by decide), f3_r2 0 (by decide), f1_r1, mf_sF_n (by decide)]; exact cpy_rg _ _ _, by rw [hfr 1 (by decide), f3_r16 1 (by decide), f3_r14 1 (by decide), f3_r12 1 (by decide), f3_r10 1 (by decide), f3_r9 1 (by decide), f3_r8 1 (by decide), f3_r7 1 (by decide), f3_r6 1 (by decide), f3_r5 1 (by decide), f3_r4 1 (by decide), f3_r3 1 (by decide), f1_r2, mf_sF_n (by decide)]; exact cpy_rg _ _ _, by rw [hfr 2 (by decide), f3_r16 2 (by decide), f3_r14 2 (by decide), f3_r12 2 (by decide), f3_r10 2 (by decide), f3_r9 2 (by decide), f3_r8 2 (by decide), f3_r7 2 (by decide), f3_r6 2 (by decide), f3_r5 2 (by decide), f3_r4 2 (by decide), f1_r3, mf_sF_n (by decide)]; exact cpy_rg _ _ _, by rw [hfr 3 (by decide), f3_r16 3 (by decide), f3_r14 3 (by decide), f3_r12 3 (by decide), f3_r10 3 (by decide), f3_r9 3 (by decide), f3_r8 3 (by decide), f3_r7 3 (by decide), f3_r6 3 (by decide), f3_r5 3 (by decide), f1_r4, mf_sF_n (by decide)]; exact cpy_rg _ _ _, fun z h0 h1 => by rw [mf_sF_s]; exact hz z h0 (by omega), by rw [hfr 5 (by decide), f3_r16 5 (by decide), f3_r14 5 (by decide), f3_r12 5 (by decide), f3_r10 5 (by decide), f3_r9 5 (by decide), f3_r8 5 (by decide), f3_r7 5 (by decide), f3_r6 5 (by decide), f1_r5, mf_sF_n (by decide)]; exact cpy_rg _ _ _, by rw [hfr 6 (by decide), f3_r16 6 (by decide), f3_r14 6 (by decide), f3_r12 6 (by decide), f3_r10 6 (by decide), f3_r9 6 (by decide), f3_r8 6 (by decide), f3_r7 6 (by decide), f1_r6, mf_sF_n (by decide)]; exact cpy_rg _ _ _, ⟨by rw [hfr 7 (by decide), f3_r16 7 (by decide), f3_r14 7 (by decide), mf_sF_n (by decide)]; exact f1_r12 0, by rw [hfr 8 (by decide), f3_r16 8 (by decide), mf_sF_n (by decide)]; exact f1_r14 0, by rw [hfr 9 (by decide), mf_sF_n (by decide)]; exact f1_r16 0⟩, by rw [hfr 10 (by decide), f3_r16 10 (by decide), f3_r14 10 (by decide), f3_r12 10 (by decide), f3_r10 10 (by decide), f3_r9 10 (by decide), f3_r8 10 (by decide), f1_r7, mf_sF_n (by decide)]; exact cpy_rg _ _ _, by rw [hfr 11 (by decide), f3_r16 11 (by decide), f3_r14 11 (by decide), f3_r12 11 (by decide), f3_r10 11 (by decide), f3_r9 11 (by decide), f1_r8, mf_sF_n (by decide)]; exact cpy_rg _ _ _, by rw [hfr 12 (by decide), f3_r16 12 (by decide), f3_r14 12 (by decide), f3_r12 12 (by decide), f3_r10 12 (by decide), f1_r9, mf_sF_n (by decide)]; exact cpy_rg _ _ _, by rw [hfr 13 (by decide), f3_r16 13 (by decide), f3_r14 13 (by decide), f3_r12 13 (by decide), f1_r10, mf_sF_n (by decide)]; exact cpy_rg _ _ _⟩
        have hPa := RW_cg hE (hP.sub (ws' := RW G h ad r1) [0, 1, 2, 3, 4, 5, 6, 7, 8, 9, 10, 11] rfl)
        have hPb := hP.sub (ws' := RW G hb2 ad2 ro) [12, 13, 14, 15, 16, 17, 18, 19, 20, 21, 22, 23] rfl
        have hP := hPa.app hPb
        have hD : va_D A (RW G h ad (mf_sF ro 4 (fun _ => 0)) ++ RW G hb2 ad2 ro) := va_D_cg (ws := RW G h ad r1 ++ RW G hb2 ad2 ro) rfl hD
        skip
        exact W.vret hx hb hr (fun t ht hW => ⟨⟨(mf_sF ro 4 (fun _ => 0)), rfl, by exact ⟨rOK_set ok2 4 0 (show (0 : Int) ≤ 0 by decide) (show (0 : Int) ≤ 1 by decide), rfl⟩, by rw [ht]; exact hP, hD⟩, hS.F ht⟩) hS.2.2 dX1_copyFrom_205
      · skip
        refine lv_aload_n hx hb dX1_copyFrom_192 rfl (lv_at hl 0 rfl) ?_
        refine va_get (D := G.1) (ci := 1) (v := .ref (ad 4)) (C := RX1) (T := TX1) (N := 14) hx hb hts hinX1 hown hK hP 0 rfl rfl 4 (by decide) (hts (.fieldLink RX1 25 "MeanderFarm$River" "bulgedInto" "[Z") (List.mem_of_getElem? (i := 18) rfl)) (fun _ h9 => h9) rfl dX1_copyFrom_193 ?_
        refine lv_iload_n hx hb dX1_copyFrom_196 rfl (lv_at hl 2 rfl) ?_
        refine mf_iconst hx hb dX1_copyFrom_197 ?_
        refine mf_zast (n := 384) (f := r1 4) hx hb hK hP hD hS 5 1 rfl rfl (z := kv) (x := 0) (by omega) (by omega) (by decide) (by omega) dX1_copyFrom_198 (fun H locs hP hD hS => ?_)
        obtain ⟨r18, er18⟩ : ∃ q : mf_V, q = mf_sF r1 4 (mf_up (r1 4) (kv) (0)) := ⟨_, rfl⟩
        have hP : va_P G.1 vwCl (RW G h ad r18 ++ RW G hb2 ad2 ro) H := by rw [er18]; exact hP
        have hD : va_D A (RW G h ad r18 ++ RW G hb2 ad2 ro) := by rw [er18]; exact hD
        have okr18 : rOK rlo rhi r18 := by rw [er18]; exact rOK_up okr1 4 _ _ (show (0 : Int) ≤ 0 by omega) (show 0 ≤ (1 : Int) by omega)
        have f1_r18 : r18 4 (kv) = 0 := by rw [er18, mf_sF_s, mf_up_s]
        have f2_r18 : ∀ y, y ≠ (kv) → r18 4 y = r1 4 y := fun y hy => by rw [er18, mf_sF_s, mf_up_n hy]
        have f3_r18 : ∀ q, q ≠ 4 → r18 q = r1 q := fun q hq => by rw [er18, mf_sF_n hq]
        refine lv_iinc (v := iI (kv + 1)) (lv' := [(2, .int (iI (kv + 1))), (0, .ref h), (1, .ref hb2)]) hx hb dX1_copyFrom_199 hl (k := 2) rfl (iI_add _ _).symm (by decide) rfl (fun ls hl => ?_)
        refine lv_goto (tgt := 185) hx hb dX1_copyFrom_202 (by decide) ?_
        exact ih185 (kv + 1) r18 (by omega) (by first | assumption | omega) (by first | assumption | omega) (by intro q hq; rw [f3_r18 q hq]; exact hfr q hq) (by intro z h0 h1; rcases (show z < kv ∨ z = kv by omega) with y | y; (rw [f2_r18 z (by omega)]; exact hz z h0 y); (rw [y]; exact f1_r18)) _ _ hP hD hS ls (lv_sub hl [1, 2, 0] rfl)
  exact lp185 (_ + 1) 0 r16 (Nat.lt_succ_self _) (by first | assumption | omega) (by first | assumption | omega) (by intro q _; rfl) (by intro z _ _; omega) _ _ hP hD hS ls (lv_sub hl [1, 2, 0] rfl)
end
