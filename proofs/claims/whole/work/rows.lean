section
-- ===== PART A: goes FIRST, ahead of the names: the tables' words, and 'selects' of the private methods out of them =====
/-- a private method of a class that the tables say can be made, by its rows of tables_1 -/
def lw_okq (q : MethodName × Nat) : Prop := (q.1.cls ≠ "java/lang/invoke/MethodHandle" ∧ q.1.cls ≠ "java/lang/invoke/VarHandle") ∧ Cond.instantiable q.1.cls q.2 ∈ tables_1 ∧ Cond.privateMethod q.1 ∈ tables_1 ∧ Cond.instanceMethod q.1 ∈ tables_1
theorem lw_p0 : lw_okq (⟨"FarCells$Board", "measure", "()V"⟩, 7) := ⟨⟨by decide +kernel, by decide +kernel⟩, List.mem_of_getElem? (i := 32) (by decide +kernel), List.mem_of_getElem? (i := 44) (by decide +kernel), List.mem_of_getElem? (i := 45) (by decide +kernel)⟩
theorem lw_p1 : lw_okq (⟨"FarCells$Board", "direct", "(II)I"⟩, 7) := ⟨⟨by decide +kernel, by decide +kernel⟩, List.mem_of_getElem? (i := 32) (by decide +kernel), List.mem_of_getElem? (i := 48) (by decide +kernel), List.mem_of_getElem? (i := 49) (by decide +kernel)⟩
theorem lw_p2 : lw_okq (⟨"FarCells$Board", "shortenOver", "(I)V"⟩, 7) := ⟨⟨by decide +kernel, by decide +kernel⟩, List.mem_of_getElem? (i := 32) (by decide +kernel), List.mem_of_getElem? (i := 62) (by decide +kernel), List.mem_of_getElem? (i := 63) (by decide +kernel)⟩
theorem lw_p3 : lw_okq (⟨"FarCells$Board", "leastHop", "(II)I"⟩, 7) := ⟨⟨by decide +kernel, by decide +kernel⟩, List.mem_of_getElem? (i := 32) (by decide +kernel), List.mem_of_getElem? (i := 70) (by decide +kernel), List.mem_of_getElem? (i := 71) (by decide +kernel)⟩
theorem lw_p4 : lw_okq (⟨"FarCells$Machine", "allHaveRoom", "()Z"⟩, 19) := ⟨⟨by decide +kernel, by decide +kernel⟩, List.mem_of_getElem? (i := 141) (by decide +kernel), List.mem_of_getElem? (i := 631) (by decide +kernel), List.mem_of_getElem? (i := 632) (by decide +kernel)⟩
theorem lw_p5 : lw_okq (⟨"FarCells$Machine", "serve", "(I)V"⟩, 19) := ⟨⟨by decide +kernel, by decide +kernel⟩, List.mem_of_getElem? (i := 141) (by decide +kernel), List.mem_of_getElem? (i := 681) (by decide +kernel), List.mem_of_getElem? (i := 682) (by decide +kernel)⟩
theorem lw_p6 : lw_okq (⟨"FarCells$Machine", "goes", "(I)Z"⟩, 19) := ⟨⟨by decide +kernel, by decide +kernel⟩, List.mem_of_getElem? (i := 141) (by decide +kernel), List.mem_of_getElem? (i := 698) (by decide +kernel), List.mem_of_getElem? (i := 699) (by decide +kernel)⟩
theorem lw_p7 : lw_okq (⟨"FarCells$Machine", "canBeReached", "()Z"⟩, 19) := ⟨⟨by decide +kernel, by decide +kernel⟩, List.mem_of_getElem? (i := 141) (by decide +kernel), List.mem_of_getElem? (i := 706) (by decide +kernel), List.mem_of_getElem? (i := 707) (by decide +kernel)⟩
theorem lw_p8 : lw_okq (⟨"FarCells$Machine", "placeByRule", "(LFarCells$Page;)Z"⟩, 19) := ⟨⟨by decide +kernel, by decide +kernel⟩, List.mem_of_getElem? (i := 141) (by decide +kernel), List.mem_of_getElem? (i := 711) (by decide +kernel), List.mem_of_getElem? (i := 712) (by decide +kernel)⟩
theorem lw_p9 : lw_okq (⟨"FarCells$Machine", "firstChoice", "()I"⟩, 19) := ⟨⟨by decide +kernel, by decide +kernel⟩, List.mem_of_getElem? (i := 141) (by decide +kernel), List.mem_of_getElem? (i := 715) (by decide +kernel), List.mem_of_getElem? (i := 716) (by decide +kernel)⟩
theorem lw_p10 : lw_okq (⟨"FarCells$Machine", "emptiest", "()I"⟩, 19) := ⟨⟨by decide +kernel, by decide +kernel⟩, List.mem_of_getElem? (i := 141) (by decide +kernel), List.mem_of_getElem? (i := 719) (by decide +kernel), List.mem_of_getElem? (i := 720) (by decide +kernel)⟩
theorem lw_p11 : lw_okq (⟨"FarCells$Machine", "nextWithRoom", "(I)I"⟩, 19) := ⟨⟨by decide +kernel, by decide +kernel⟩, List.mem_of_getElem? (i := 141) (by decide +kernel), List.mem_of_getElem? (i := 723) (by decide +kernel), List.mem_of_getElem? (i := 724) (by decide +kernel)⟩
theorem lw_p12 : lw_okq (⟨"FarCells$Machine", "takeFault", "(LFarCells$Page;)V"⟩, 19) := ⟨⟨by decide +kernel, by decide +kernel⟩, List.mem_of_getElem? (i := 141) (by decide +kernel), List.mem_of_getElem? (i := 749) (by decide +kernel), List.mem_of_getElem? (i := 750) (by decide +kernel)⟩
theorem lw_p13 : lw_okq (⟨"FarCells$Machine", "moveIfItPays", "(LFarCells$Page;)V"⟩, 19) := ⟨⟨by decide +kernel, by decide +kernel⟩, List.mem_of_getElem? (i := 141) (by decide +kernel), List.mem_of_getElem? (i := 758) (by decide +kernel), List.mem_of_getElem? (i := 759) (by decide +kernel)⟩
theorem lw_p14 : lw_okq (⟨"FarCells$Page", "faultsOf", "(I)I"⟩, 9) := ⟨⟨by decide +kernel, by decide +kernel⟩, List.mem_of_getElem? (i := 293) (by decide +kernel), List.mem_of_getElem? (i := 766) (by decide +kernel), List.mem_of_getElem? (i := 767) (by decide +kernel)⟩
theorem lw_p15 : lw_okq (⟨"FarCells$Machine", "perform", "(LFarCells$Page;LFarCells$Worker;)V"⟩, 19) := ⟨⟨by decide +kernel, by decide +kernel⟩, List.mem_of_getElem? (i := 141) (by decide +kernel), List.mem_of_getElem? (i := 776) (by decide +kernel), List.mem_of_getElem? (i := 777) (by decide +kernel)⟩
def lw_privs_1 : List (MethodName × Nat) := [(⟨"FarCells$Board", "measure", "()V"⟩, 7), (⟨"FarCells$Board", "direct", "(II)I"⟩, 7), (⟨"FarCells$Board", "shortenOver", "(I)V"⟩, 7), (⟨"FarCells$Board", "leastHop", "(II)I"⟩, 7), (⟨"FarCells$Machine", "allHaveRoom", "()Z"⟩, 19), (⟨"FarCells$Machine", "serve", "(I)V"⟩, 19), (⟨"FarCells$Machine", "goes", "(I)Z"⟩, 19), (⟨"FarCells$Machine", "canBeReached", "()Z"⟩, 19), (⟨"FarCells$Machine", "placeByRule", "(LFarCells$Page;)Z"⟩, 19), (⟨"FarCells$Machine", "firstChoice", "()I"⟩, 19), (⟨"FarCells$Machine", "emptiest", "()I"⟩, 19), (⟨"FarCells$Machine", "nextWithRoom", "(I)I"⟩, 19), (⟨"FarCells$Machine", "takeFault", "(LFarCells$Page;)V"⟩, 19), (⟨"FarCells$Machine", "moveIfItPays", "(LFarCells$Page;)V"⟩, 19), (⟨"FarCells$Page", "faultsOf", "(I)I"⟩, 9), (⟨"FarCells$Machine", "perform", "(LFarCells$Page;LFarCells$Worker;)V"⟩, 19)]
theorem lw_r1 : ∀ q ∈ lw_privs_1, lw_okq q := List.forall_mem_cons.mpr ⟨lw_p0, List.forall_mem_cons.mpr ⟨lw_p1, List.forall_mem_cons.mpr ⟨lw_p2, List.forall_mem_cons.mpr ⟨lw_p3, List.forall_mem_cons.mpr ⟨lw_p4, List.forall_mem_cons.mpr ⟨lw_p5, List.forall_mem_cons.mpr ⟨lw_p6, List.forall_mem_cons.mpr ⟨lw_p7, List.forall_mem_cons.mpr ⟨lw_p8, List.forall_mem_cons.mpr ⟨lw_p9, List.forall_mem_cons.mpr ⟨lw_p10, List.forall_mem_cons.mpr ⟨lw_p11, List.forall_mem_cons.mpr ⟨lw_p12, List.forall_mem_cons.mpr ⟨lw_p13, List.forall_mem_cons.mpr ⟨lw_p14, List.forall_mem_cons.mpr ⟨lw_p15, fun _ h => absurd h List.not_mem_nil⟩⟩⟩⟩⟩⟩⟩⟩⟩⟩⟩⟩⟩⟩⟩⟩
theorem lw_p16 : lw_okq (⟨"FarCells$Machine", "endCopies", "(LFarCells$Page;)I"⟩, 19) := ⟨⟨by decide +kernel, by decide +kernel⟩, List.mem_of_getElem? (i := 141) (by decide +kernel), List.mem_of_getElem? (i := 780) (by decide +kernel), List.mem_of_getElem? (i := 781) (by decide +kernel)⟩
theorem lw_p17 : lw_okq (⟨"FarCells$Machine", "bringCopy", "(LFarCells$Page;)I"⟩, 19) := ⟨⟨by decide +kernel, by decide +kernel⟩, List.mem_of_getElem? (i := 141) (by decide +kernel), List.mem_of_getElem? (i := 791) (by decide +kernel), List.mem_of_getElem? (i := 792) (by decide +kernel)⟩
theorem lw_p18 : lw_okq (⟨"FarCells$Machine", "enterInBills", "(LFarCells$Page;LFarCells$Worker;)V"⟩, 19) := ⟨⟨by decide +kernel, by decide +kernel⟩, List.mem_of_getElem? (i := 141) (by decide +kernel), List.mem_of_getElem? (i := 795) (by decide +kernel), List.mem_of_getElem? (i := 796) (by decide +kernel)⟩
theorem lw_p19 : lw_okq (⟨"FarCells$Machine", "finishAccesses", "()V"⟩, 19) := ⟨⟨by decide +kernel, by decide +kernel⟩, List.mem_of_getElem? (i := 141) (by decide +kernel), List.mem_of_getElem? (i := 803) (by decide +kernel), List.mem_of_getElem? (i := 804) (by decide +kernel)⟩
theorem lw_p20 : lw_okq (⟨"FarCells$Machine", "hidePages", "()V"⟩, 19) := ⟨⟨by decide +kernel, by decide +kernel⟩, List.mem_of_getElem? (i := 141) (by decide +kernel), List.mem_of_getElem? (i := 808) (by decide +kernel), List.mem_of_getElem? (i := 809) (by decide +kernel)⟩
theorem lw_p21 : lw_okq (⟨"FarCells$Journal", "addAccess", "(ILFarCells$Board;I)V"⟩, 5) := ⟨⟨by decide +kernel, by decide +kernel⟩, List.mem_of_getElem? (i := 271) (by decide +kernel), List.mem_of_getElem? (i := 853) (by decide +kernel), List.mem_of_getElem? (i := 854) (by decide +kernel)⟩
theorem lw_p22 : lw_okq (⟨"FarCells$Journal", "leastOf", "(I)I"⟩, 5) := ⟨⟨by decide +kernel, by decide +kernel⟩, List.mem_of_getElem? (i := 271) (by decide +kernel), List.mem_of_getElem? (i := 857) (by decide +kernel), List.mem_of_getElem? (i := 858) (by decide +kernel)⟩
theorem lw_p23 : lw_okq (⟨"FarCells$Journal", "replay", "()V"⟩, 5) := ⟨⟨by decide +kernel, by decide +kernel⟩, List.mem_of_getElem? (i := 271) (by decide +kernel), List.mem_of_getElem? (i := 903) (by decide +kernel), List.mem_of_getElem? (i := 904) (by decide +kernel)⟩
theorem lw_p24 : lw_okq (⟨"FarCells", "refusalOfPageOn", "(I)I"⟩, 4) := ⟨⟨by decide +kernel, by decide +kernel⟩, List.mem_of_getElem? (i := 24) (by decide +kernel), List.mem_of_getElem? (i := 963) (by decide +kernel), List.mem_of_getElem? (i := 964) (by decide +kernel)⟩
theorem lw_p25 : lw_okq (⟨"java/lang/Throwable", "fillInStackTrace", "(I)Ljava/lang/Throwable;"⟩, 6) := ⟨⟨by decide +kernel, by decide +kernel⟩, List.mem_of_getElem? (i := 1017) (by decide +kernel), List.mem_of_getElem? (i := 1015) (by decide +kernel), List.mem_of_getElem? (i := 1016) (by decide +kernel)⟩
theorem lw_p26 : lw_okq (⟨"FarCellsModel", "measure", "()V"⟩, 65) := ⟨⟨by decide +kernel, by decide +kernel⟩, List.mem_of_getElem? (i := 1092) (by decide +kernel), List.mem_of_getElem? (i := 1101) (by decide +kernel), List.mem_of_getElem? (i := 1102) (by decide +kernel)⟩
theorem lw_p27 : lw_okq (⟨"FarCellsModel", "areLinked", "(II)Z"⟩, 65) := ⟨⟨by decide +kernel, by decide +kernel⟩, List.mem_of_getElem? (i := 1092) (by decide +kernel), List.mem_of_getElem? (i := 1311) (by decide +kernel), List.mem_of_getElem? (i := 1312) (by decide +kernel)⟩
theorem lw_p28 : lw_okq (⟨"FarCellsModel", "isNode", "(I)Z"⟩, 65) := ⟨⟨by decide +kernel, by decide +kernel⟩, List.mem_of_getElem? (i := 1092) (by decide +kernel), List.mem_of_getElem? (i := 1315) (by decide +kernel), List.mem_of_getElem? (i := 1316) (by decide +kernel)⟩
theorem lw_p29 : lw_okq (⟨"FarCellsModel", "isWay", "(II)Z"⟩, 65) := ⟨⟨by decide +kernel, by decide +kernel⟩, List.mem_of_getElem? (i := 1092) (by decide +kernel), List.mem_of_getElem? (i := 1328) (by decide +kernel), List.mem_of_getElem? (i := 1329) (by decide +kernel)⟩
theorem lw_p30 : lw_okq (⟨"FarCellsModel", "behind", "(II)I"⟩, 65) := ⟨⟨by decide +kernel, by decide +kernel⟩, List.mem_of_getElem? (i := 1092) (by decide +kernel), List.mem_of_getElem? (i := 1336) (by decide +kernel), List.mem_of_getElem? (i := 1337) (by decide +kernel)⟩
theorem lw_p31 : lw_okq (⟨"FarCellsModel", "isThread", "(I)Z"⟩, 65) := ⟨⟨by decide +kernel, by decide +kernel⟩, List.mem_of_getElem? (i := 1092) (by decide +kernel), List.mem_of_getElem? (i := 1353) (by decide +kernel), List.mem_of_getElem? (i := 1354) (by decide +kernel)⟩
def lw_privs_2 : List (MethodName × Nat) := [(⟨"FarCells$Machine", "endCopies", "(LFarCells$Page;)I"⟩, 19), (⟨"FarCells$Machine", "bringCopy", "(LFarCells$Page;)I"⟩, 19), (⟨"FarCells$Machine", "enterInBills", "(LFarCells$Page;LFarCells$Worker;)V"⟩, 19), (⟨"FarCells$Machine", "finishAccesses", "()V"⟩, 19), (⟨"FarCells$Machine", "hidePages", "()V"⟩, 19), (⟨"FarCells$Journal", "addAccess", "(ILFarCells$Board;I)V"⟩, 5), (⟨"FarCells$Journal", "leastOf", "(I)I"⟩, 5), (⟨"FarCells$Journal", "replay", "()V"⟩, 5), (⟨"FarCells", "refusalOfPageOn", "(I)I"⟩, 4), (⟨"java/lang/Throwable", "fillInStackTrace", "(I)Ljava/lang/Throwable;"⟩, 6), (⟨"FarCellsModel", "measure", "()V"⟩, 65), (⟨"FarCellsModel", "areLinked", "(II)Z"⟩, 65), (⟨"FarCellsModel", "isNode", "(I)Z"⟩, 65), (⟨"FarCellsModel", "isWay", "(II)Z"⟩, 65), (⟨"FarCellsModel", "behind", "(II)I"⟩, 65), (⟨"FarCellsModel", "isThread", "(I)Z"⟩, 65)]
theorem lw_r2 : ∀ q ∈ lw_privs_2, lw_okq q := List.forall_mem_cons.mpr ⟨lw_p16, List.forall_mem_cons.mpr ⟨lw_p17, List.forall_mem_cons.mpr ⟨lw_p18, List.forall_mem_cons.mpr ⟨lw_p19, List.forall_mem_cons.mpr ⟨lw_p20, List.forall_mem_cons.mpr ⟨lw_p21, List.forall_mem_cons.mpr ⟨lw_p22, List.forall_mem_cons.mpr ⟨lw_p23, List.forall_mem_cons.mpr ⟨lw_p24, List.forall_mem_cons.mpr ⟨lw_p25, List.forall_mem_cons.mpr ⟨lw_p26, List.forall_mem_cons.mpr ⟨lw_p27, List.forall_mem_cons.mpr ⟨lw_p28, List.forall_mem_cons.mpr ⟨lw_p29, List.forall_mem_cons.mpr ⟨lw_p30, List.forall_mem_cons.mpr ⟨lw_p31, fun _ h => absurd h List.not_mem_nil⟩⟩⟩⟩⟩⟩⟩⟩⟩⟩⟩⟩⟩⟩⟩⟩
theorem lw_p32 : lw_okq (⟨"FarCellsModel", "isPage", "(I)Z"⟩, 65) := ⟨⟨by decide +kernel, by decide +kernel⟩, List.mem_of_getElem? (i := 1092) (by decide +kernel), List.mem_of_getElem? (i := 1375) (by decide +kernel), List.mem_of_getElem? (i := 1376) (by decide +kernel)⟩
theorem lw_p33 : lw_okq (⟨"FarCellsModel", "allHaveRoom", "()Z"⟩, 65) := ⟨⟨by decide +kernel, by decide +kernel⟩, List.mem_of_getElem? (i := 1092) (by decide +kernel), List.mem_of_getElem? (i := 1379) (by decide +kernel), List.mem_of_getElem? (i := 1380) (by decide +kernel)⟩
theorem lw_p34 : lw_okq (⟨"FarCellsModel", "hasRoom", "(I)Z"⟩, 65) := ⟨⟨by decide +kernel, by decide +kernel⟩, List.mem_of_getElem? (i := 1092) (by decide +kernel), List.mem_of_getElem? (i := 1383) (by decide +kernel), List.mem_of_getElem? (i := 1384) (by decide +kernel)⟩
theorem lw_p35 : lw_okq (⟨"FarCellsModel", "taken", "(I)I"⟩, 65) := ⟨⟨by decide +kernel, by decide +kernel⟩, List.mem_of_getElem? (i := 1092) (by decide +kernel), List.mem_of_getElem? (i := 1387) (by decide +kernel), List.mem_of_getElem? (i := 1388) (by decide +kernel)⟩
theorem lw_p36 : lw_okq (⟨"FarCellsModel", "oneTick", "()V"⟩, 65) := ⟨⟨by decide +kernel, by decide +kernel⟩, List.mem_of_getElem? (i := 1092) (by decide +kernel), List.mem_of_getElem? (i := 1404) (by decide +kernel), List.mem_of_getElem? (i := 1405) (by decide +kernel)⟩
theorem lw_p37 : lw_okq (⟨"FarCellsModel", "first", "(I)I"⟩, 65) := ⟨⟨by decide +kernel, by decide +kernel⟩, List.mem_of_getElem? (i := 1092) (by decide +kernel), List.mem_of_getElem? (i := 1408) (by decide +kernel), List.mem_of_getElem? (i := 1409) (by decide +kernel)⟩
theorem lw_p38 : lw_okq (⟨"FarCellsModel", "isReady", "(I)Z"⟩, 65) := ⟨⟨by decide +kernel, by decide +kernel⟩, List.mem_of_getElem? (i := 1092) (by decide +kernel), List.mem_of_getElem? (i := 1412) (by decide +kernel), List.mem_of_getElem? (i := 1413) (by decide +kernel)⟩
theorem lw_p39 : lw_okq (⟨"FarCellsModel", "underWay", "(I)I"⟩, 65) := ⟨⟨by decide +kernel, by decide +kernel⟩, List.mem_of_getElem? (i := 1092) (by decide +kernel), List.mem_of_getElem? (i := 1416) (by decide +kernel), List.mem_of_getElem? (i := 1417) (by decide +kernel)⟩
theorem lw_p40 : lw_okq (⟨"FarCellsModel", "tryNext", "(I)V"⟩, 65) := ⟨⟨by decide +kernel, by decide +kernel⟩, List.mem_of_getElem? (i := 1092) (by decide +kernel), List.mem_of_getElem? (i := 1420) (by decide +kernel), List.mem_of_getElem? (i := 1421) (by decide +kernel)⟩
theorem lw_p41 : lw_okq (⟨"FarCellsModel", "isPlaced", "(II)Z"⟩, 65) := ⟨⟨by decide +kernel, by decide +kernel⟩, List.mem_of_getElem? (i := 1092) (by decide +kernel), List.mem_of_getElem? (i := 1424) (by decide +kernel), List.mem_of_getElem? (i := 1425) (by decide +kernel)⟩
theorem lw_p42 : lw_okq (⟨"FarCellsModel", "emptiest", "()I"⟩, 65) := ⟨⟨by decide +kernel, by decide +kernel⟩, List.mem_of_getElem? (i := 1092) (by decide +kernel), List.mem_of_getElem? (i := 1428) (by decide +kernel), List.mem_of_getElem? (i := 1429) (by decide +kernel)⟩
theorem lw_p43 : lw_okq (⟨"FarCellsModel", "fail", "(I)V"⟩, 65) := ⟨⟨by decide +kernel, by decide +kernel⟩, List.mem_of_getElem? (i := 1092) (by decide +kernel), List.mem_of_getElem? (i := 1432) (by decide +kernel), List.mem_of_getElem? (i := 1433) (by decide +kernel)⟩
theorem lw_p44 : lw_okq (⟨"FarCellsModel", "where", "(III)I"⟩, 65) := ⟨⟨by decide +kernel, by decide +kernel⟩, List.mem_of_getElem? (i := 1092) (by decide +kernel), List.mem_of_getElem? (i := 1436) (by decide +kernel), List.mem_of_getElem? (i := 1437) (by decide +kernel)⟩
theorem lw_p45 : lw_okq (⟨"FarCellsModel", "crowded", "(II)I"⟩, 65) := ⟨⟨by decide +kernel, by decide +kernel⟩, List.mem_of_getElem? (i := 1092) (by decide +kernel), List.mem_of_getElem? (i := 1440) (by decide +kernel), List.mem_of_getElem? (i := 1441) (by decide +kernel)⟩
theorem lw_p46 : lw_okq (⟨"FarCellsModel", "useLinks", "(II)V"⟩, 65) := ⟨⟨by decide +kernel, by decide +kernel⟩, List.mem_of_getElem? (i := 1092) (by decide +kernel), List.mem_of_getElem? (i := 1444) (by decide +kernel), List.mem_of_getElem? (i := 1445) (by decide +kernel)⟩
theorem lw_p47 : lw_okq (⟨"FarCellsModel", "faulted", "(II)I"⟩, 65) := ⟨⟨by decide +kernel, by decide +kernel⟩, List.mem_of_getElem? (i := 1092) (by decide +kernel), List.mem_of_getElem? (i := 1448) (by decide +kernel), List.mem_of_getElem? (i := 1449) (by decide +kernel)⟩
def lw_privs_3 : List (MethodName × Nat) := [(⟨"FarCellsModel", "isPage", "(I)Z"⟩, 65), (⟨"FarCellsModel", "allHaveRoom", "()Z"⟩, 65), (⟨"FarCellsModel", "hasRoom", "(I)Z"⟩, 65), (⟨"FarCellsModel", "taken", "(I)I"⟩, 65), (⟨"FarCellsModel", "oneTick", "()V"⟩, 65), (⟨"FarCellsModel", "first", "(I)I"⟩, 65), (⟨"FarCellsModel", "isReady", "(I)Z"⟩, 65), (⟨"FarCellsModel", "underWay", "(I)I"⟩, 65), (⟨"FarCellsModel", "tryNext", "(I)V"⟩, 65), (⟨"FarCellsModel", "isPlaced", "(II)Z"⟩, 65), (⟨"FarCellsModel", "emptiest", "()I"⟩, 65), (⟨"FarCellsModel", "fail", "(I)V"⟩, 65), (⟨"FarCellsModel", "where", "(III)I"⟩, 65), (⟨"FarCellsModel", "crowded", "(II)I"⟩, 65), (⟨"FarCellsModel", "useLinks", "(II)V"⟩, 65), (⟨"FarCellsModel", "faulted", "(II)I"⟩, 65)]
theorem lw_r3 : ∀ q ∈ lw_privs_3, lw_okq q := List.forall_mem_cons.mpr ⟨lw_p32, List.forall_mem_cons.mpr ⟨lw_p33, List.forall_mem_cons.mpr ⟨lw_p34, List.forall_mem_cons.mpr ⟨lw_p35, List.forall_mem_cons.mpr ⟨lw_p36, List.forall_mem_cons.mpr ⟨lw_p37, List.forall_mem_cons.mpr ⟨lw_p38, List.forall_mem_cons.mpr ⟨lw_p39, List.forall_mem_cons.mpr ⟨lw_p40, List.forall_mem_cons.mpr ⟨lw_p41, List.forall_mem_cons.mpr ⟨lw_p42, List.forall_mem_cons.mpr ⟨lw_p43, List.forall_mem_cons.mpr ⟨lw_p44, List.forall_mem_cons.mpr ⟨lw_p45, List.forall_mem_cons.mpr ⟨lw_p46, List.forall_mem_cons.mpr ⟨lw_p47, fun _ h => absurd h List.not_mem_nil⟩⟩⟩⟩⟩⟩⟩⟩⟩⟩⟩⟩⟩⟩⟩⟩
theorem lw_p48 : lw_okq (⟨"FarCellsModel", "keepFault", "(II)V"⟩, 65) := ⟨⟨by decide +kernel, by decide +kernel⟩, List.mem_of_getElem? (i := 1092) (by decide +kernel), List.mem_of_getElem? (i := 1452) (by decide +kernel), List.mem_of_getElem? (i := 1453) (by decide +kernel)⟩
theorem lw_p49 : lw_okq (⟨"FarCellsModel", "wanted", "(I)I"⟩, 65) := ⟨⟨by decide +kernel, by decide +kernel⟩, List.mem_of_getElem? (i := 1092) (by decide +kernel), List.mem_of_getElem? (i := 1456) (by decide +kernel), List.mem_of_getElem? (i := 1457) (by decide +kernel)⟩
theorem lw_p50 : lw_okq (⟨"FarCellsModel", "pays", "(II)Z"⟩, 65) := ⟨⟨by decide +kernel, by decide +kernel⟩, List.mem_of_getElem? (i := 1092) (by decide +kernel), List.mem_of_getElem? (i := 1460) (by decide +kernel), List.mem_of_getElem? (i := 1461) (by decide +kernel)⟩
theorem lw_p51 : lw_okq (⟨"FarCellsModel", "copied", "(IIZ)I"⟩, 65) := ⟨⟨by decide +kernel, by decide +kernel⟩, List.mem_of_getElem? (i := 1092) (by decide +kernel), List.mem_of_getElem? (i := 1464) (by decide +kernel), List.mem_of_getElem? (i := 1465) (by decide +kernel)⟩
theorem lw_p52 : lw_okq (⟨"FarCellsModel", "countBits", "(I)I"⟩, 65) := ⟨⟨by decide +kernel, by decide +kernel⟩, List.mem_of_getElem? (i := 1092) (by decide +kernel), List.mem_of_getElem? (i := 1468) (by decide +kernel), List.mem_of_getElem? (i := 1469) (by decide +kernel)⟩
theorem lw_p53 : lw_okq (⟨"FarCellsModel", "note", "(IIIII)V"⟩, 65) := ⟨⟨by decide +kernel, by decide +kernel⟩, List.mem_of_getElem? (i := 1092) (by decide +kernel), List.mem_of_getElem? (i := 1472) (by decide +kernel), List.mem_of_getElem? (i := 1473) (by decide +kernel)⟩
theorem lw_p54 : lw_okq (⟨"FarCellsModel", "finish", "()V"⟩, 65) := ⟨⟨by decide +kernel, by decide +kernel⟩, List.mem_of_getElem? (i := 1092) (by decide +kernel), List.mem_of_getElem? (i := 1476) (by decide +kernel), List.mem_of_getElem? (i := 1477) (by decide +kernel)⟩
theorem lw_p55 : lw_okq (⟨"FarCellsModel", "queuePlace", "(I)I"⟩, 65) := ⟨⟨by decide +kernel, by decide +kernel⟩, List.mem_of_getElem? (i := 1092) (by decide +kernel), List.mem_of_getElem? (i := 1496) (by decide +kernel), List.mem_of_getElem? (i := 1497) (by decide +kernel)⟩
theorem lw_p56 : lw_okq (⟨"FarCellsModel", "beginOther", "()V"⟩, 65) := ⟨⟨by decide +kernel, by decide +kernel⟩, List.mem_of_getElem? (i := 1092) (by decide +kernel), List.mem_of_getElem? (i := 1529) (by decide +kernel), List.mem_of_getElem? (i := 1530) (by decide +kernel)⟩
theorem lw_p57 : lw_okq (⟨"FarCellsModel", "weightOf", "(I)I"⟩, 65) := ⟨⟨by decide +kernel, by decide +kernel⟩, List.mem_of_getElem? (i := 1092) (by decide +kernel), List.mem_of_getElem? (i := 1548) (by decide +kernel), List.mem_of_getElem? (i := 1549) (by decide +kernel)⟩
theorem lw_p58 : lw_okq (⟨"FarCellsModel", "hasPlaces", "(III)Z"⟩, 65) := ⟨⟨by decide +kernel, by decide +kernel⟩, List.mem_of_getElem? (i := 1092) (by decide +kernel), List.mem_of_getElem? (i := 1564) (by decide +kernel), List.mem_of_getElem? (i := 1565) (by decide +kernel)⟩
theorem lw_p59 : lw_okq (⟨"FarCellsModel", "denied", "(I)I"⟩, 65) := ⟨⟨by decide +kernel, by decide +kernel⟩, List.mem_of_getElem? (i := 1092) (by decide +kernel), List.mem_of_getElem? (i := 1572) (by decide +kernel), List.mem_of_getElem? (i := 1573) (by decide +kernel)⟩
def lw_privs_4 : List (MethodName × Nat) := [(⟨"FarCellsModel", "keepFault", "(II)V"⟩, 65), (⟨"FarCellsModel", "wanted", "(I)I"⟩, 65), (⟨"FarCellsModel", "pays", "(II)Z"⟩, 65), (⟨"FarCellsModel", "copied", "(IIZ)I"⟩, 65), (⟨"FarCellsModel", "countBits", "(I)I"⟩, 65), (⟨"FarCellsModel", "note", "(IIIII)V"⟩, 65), (⟨"FarCellsModel", "finish", "()V"⟩, 65), (⟨"FarCellsModel", "queuePlace", "(I)I"⟩, 65), (⟨"FarCellsModel", "beginOther", "()V"⟩, 65), (⟨"FarCellsModel", "weightOf", "(I)I"⟩, 65), (⟨"FarCellsModel", "hasPlaces", "(III)Z"⟩, 65), (⟨"FarCellsModel", "denied", "(I)I"⟩, 65)]
theorem lw_r4 : ∀ q ∈ lw_privs_4, lw_okq q := List.forall_mem_cons.mpr ⟨lw_p48, List.forall_mem_cons.mpr ⟨lw_p49, List.forall_mem_cons.mpr ⟨lw_p50, List.forall_mem_cons.mpr ⟨lw_p51, List.forall_mem_cons.mpr ⟨lw_p52, List.forall_mem_cons.mpr ⟨lw_p53, List.forall_mem_cons.mpr ⟨lw_p54, List.forall_mem_cons.mpr ⟨lw_p55, List.forall_mem_cons.mpr ⟨lw_p56, List.forall_mem_cons.mpr ⟨lw_p57, List.forall_mem_cons.mpr ⟨lw_p58, List.forall_mem_cons.mpr ⟨lw_p59, fun _ h => absurd h List.not_mem_nil⟩⟩⟩⟩⟩⟩⟩⟩⟩⟩⟩⟩
def lw_privs : List (MethodName × Nat) := lw_privs_1 ++ (lw_privs_2 ++ (lw_privs_3 ++ (lw_privs_4)))
def lw_tbl : List Cond := k2_sels lw_privs ++ tables_1
theorem lw_privs_ok : ∀ q ∈ lw_privs, lw_okq q := by
  show ∀ q ∈ lw_privs_1 ++ (lw_privs_2 ++ (lw_privs_3 ++ (lw_privs_4))), lw_okq q
  exact List.forall_mem_append.mpr ⟨lw_r1, List.forall_mem_append.mpr ⟨lw_r2, List.forall_mem_append.mpr ⟨lw_r3, lw_r4⟩⟩⟩
end
section
def RX0 : String := "FarCells$Attempt"
def TX0 : u_T := fun k => match k with
  | 0 => ("FarCells$Attempt", "thread", "I", false)
  | 1 => ("FarCells$Attempt", "node", "I", false)
  | 2 => ("FarCells$Attempt", "page", "I", false)
  | 3 => ("FarCells$Attempt", "cell", "I", false)
  | 4 => ("FarCells$Attempt", "writes", "Z", false)
  | 5 => ("FarCells$Attempt", "value", "I", false)
  | 6 => ("FarCells$Attempt", "where", "I", false)
  | 7 => ("FarCells$Attempt", "cost", "I", false)
  | 8 => ("FarCells$Attempt", "faulted", "Z", false)
  | _ => ("FarCells$Attempt", "moved", "Z", false)
def tyX0 : Nat → FieldType := fun k => match k with
  | 0 => .int
  | 1 => .int
  | 2 => .int
  | 3 => .int
  | 4 => .boolean
  | 5 => .int
  | 6 => .int
  | 7 => .int
  | 8 => .boolean
  | _ => .boolean
theorem nmX0 : ∀ a, a < 10 → ∀ b, b < 10 → a ≠ b → (TX0 a).2.1 ≠ (TX0 b).2.1 := by decide +kernel
theorem tyX0_ok : ∀ k, k < 10 → parseFieldDescriptor (TX0 k).2.2.1 = some (tyX0 k) := by decide +kernel
abbrev cX0_init : ByteArray := prog_2_method_1_code
def yX0_init : MethodName := ⟨RX0, "<init>", "()V"⟩
abbrev cX0_begin : ByteArray := prog_2_method_2_code
def yX0_begin : MethodName := ⟨RX0, "begin", "(ILFarCells$Worker;)V"⟩
def RX1 : String := "FarCells$Board"
def TX1 : u_T := fun k => match k with
  | 0 => ("FarCells$Board", "nodes", "I", true)
  | 1 => ("FarCells$Board", "processors", "I", true)
  | 2 => ("FarCells$Board", "room", "I", true)
  | 3 => ("FarCells$Board", "price", "[I", true)
  | 4 => ("FarCells$Board", "width", "[I", true)
  | 5 => ("FarCells$Board", "sums", "[I", true)
  | _ => ("FarCells$Board", "hops", "[I", true)
def tyX1 : Nat → FieldType := fun k => match k with
  | 0 => .int
  | 1 => .int
  | 2 => .int
  | 3 => .array .int
  | 4 => .array .int
  | 5 => .array .int
  | _ => .array .int
theorem nmX1 : ∀ a, a < 7 → ∀ b, b < 7 → a ≠ b → (TX1 a).2.1 ≠ (TX1 b).2.1 := by decide +kernel
theorem tyX1_ok : ∀ k, k < 7 → parseFieldDescriptor (TX1 k).2.2.1 = some (tyX1 k) := by decide +kernel
abbrev cX1_init : ByteArray := prog_3_method_1_code
def yX1_init : MethodName := ⟨RX1, "<init>", "(III)V"⟩
abbrev cX1_has : ByteArray := prog_3_method_2_code
def yX1_has : MethodName := ⟨RX1, "has", "(I)Z"⟩
abbrev cX1_joins : ByteArray := prog_3_method_3_code
def yX1_joins : MethodName := ⟨RX1, "joins", "(II)Z"⟩
abbrev cX1_edge : ByteArray := prog_3_method_4_code
def yX1_edge : MethodName := ⟨RX1, "edge", "(II)I"⟩
abbrev cX1_setLink : ByteArray := prog_3_method_5_code
def yX1_setLink : MethodName := ⟨RX1, "setLink", "(IIII)V"⟩
abbrev cX1_distance : ByteArray := prog_3_method_6_code
def yX1_distance : MethodName := ⟨RX1, "distance", "(II)I"⟩
abbrev cX1_reaches : ByteArray := prog_3_method_7_code
def yX1_reaches : MethodName := ⟨RX1, "reaches", "(II)Z"⟩
abbrev cX1_nextNode : ByteArray := prog_3_method_8_code
def yX1_nextNode : MethodName := ⟨RX1, "nextNode", "(II)I"⟩
abbrev cX1_measure : ByteArray := prog_3_method_9_code
def yX1_measure : MethodName := ⟨RX1, "measure", "()V"⟩
abbrev cX1_direct : ByteArray := prog_3_method_10_code
def yX1_direct : MethodName := ⟨RX1, "direct", "(II)I"⟩
abbrev cX1_shortenOver : ByteArray := prog_3_method_11_code
def yX1_shortenOver : MethodName := ⟨RX1, "shortenOver", "(I)V"⟩
abbrev cX1_leastHop : ByteArray := prog_3_method_12_code
def yX1_leastHop : MethodName := ⟨RX1, "leastHop", "(II)I"⟩
def RX2 : String := "FarCells$Journal"
def TX2 : u_T := fun k => match k with
  | 0 => ("FarCells$Journal", "capacity", "I", true)
  | 1 => ("FarCells$Journal", "entries", "[I", true)
  | 2 => ("FarCells$Journal", "size", "I", false)
  | 3 => ("FarCells$Journal", "sums", "[I", true)
  | _ => ("FarCells$Journal", "memory", "[I", true)
def tyX2 : Nat → FieldType := fun k => match k with
  | 0 => .int
  | 1 => .array .int
  | 2 => .int
  | 3 => .array .int
  | _ => .array .int
theorem nmX2 : ∀ a, a < 5 → ∀ b, b < 5 → a ≠ b → (TX2 a).2.1 ≠ (TX2 b).2.1 := by decide +kernel
theorem tyX2_ok : ∀ k, k < 5 → parseFieldDescriptor (TX2 k).2.2.1 = some (tyX2 k) := by decide +kernel
abbrev cX2_init : ByteArray := prog_4_method_1_code
def yX2_init : MethodName := ⟨RX2, "<init>", "(I)V"⟩
abbrev cX2_entry : ByteArray := prog_4_method_2_code
def yX2_entry : MethodName := ⟨RX2, "entry", "(II)I"⟩
abbrev cX2_note : ByteArray := prog_4_method_3_code
def yX2_note : MethodName := ⟨RX2, "note", "(ILFarCells$Attempt;)V"⟩
abbrev cX2_costAboveNearest : ByteArray := prog_4_method_4_code
def yX2_costAboveNearest : MethodName := ⟨RX2, "costAboveNearest", "(I)I"⟩
abbrev cX2_leastSum : ByteArray := prog_4_method_5_code
def yX2_leastSum : MethodName := ⟨RX2, "leastSum", "(ILFarCells$Board;I)I"⟩
abbrev cX2_addAccess : ByteArray := prog_4_method_6_code
def yX2_addAccess : MethodName := ⟨RX2, "addAccess", "(ILFarCells$Board;I)V"⟩
abbrev cX2_leastOf : ByteArray := prog_4_method_7_code
def yX2_leastOf : MethodName := ⟨RX2, "leastOf", "(I)I"⟩
abbrev cX2_endsAlike : ByteArray := prog_4_method_8_code
def yX2_endsAlike : MethodName := ⟨RX2, "endsAlike", "([LFarCells$Page;I)Z"⟩
abbrev cX2_replay : ByteArray := prog_4_method_9_code
def yX2_replay : MethodName := ⟨RX2, "replay", "()V"⟩
def RX3 : String := "FarCells$Machine"
def TX3 : u_T := fun k => match k with
  | 0 => ("FarCells$Machine", "board", "LFarCells$Board;", true)
  | 1 => ("FarCells$Machine", "traffic", "LFarCells$Traffic;", true)
  | 2 => ("FarCells$Machine", "queues", "LFarCells$Queues;", true)
  | 3 => ("FarCells$Machine", "rules", "LFarCells$Rules;", true)
  | 4 => ("FarCells$Machine", "journal", "LFarCells$Journal;", true)
  | 5 => ("FarCells$Machine", "attempt", "LFarCells$Attempt;", true)
  | 6 => ("FarCells$Machine", "pages", "[LFarCells$Page;", true)
  | 7 => ("FarCells$Machine", "workers", "[LFarCells$Worker;", true)
  | 8 => ("FarCells$Machine", "taken", "[I", true)
  | 9 => ("FarCells$Machine", "nodeBills", "[I", true)
  | 10 => ("FarCells$Machine", "pageCount", "I", false)
  | 11 => ("FarCells$Machine", "workerCount", "I", false)
  | 12 => ("FarCells$Machine", "turns", "I", false)
  | 13 => ("FarCells$Machine", "tick", "I", false)
  | 14 => ("FarCells$Machine", "went", "I", false)
  | 15 => ("FarCells$Machine", "cost", "I", false)
  | 16 => ("FarCells$Machine", "faults", "I", false)
  | 17 => ("FarCells$Machine", "moves", "I", false)
  | _ => ("FarCells$Machine", "failed", "I", false)
def tyX3 : Nat → FieldType := fun k => match k with
  | 0 => .object "FarCells$Board"
  | 1 => .object "FarCells$Traffic"
  | 2 => .object "FarCells$Queues"
  | 3 => .object "FarCells$Rules"
  | 4 => .object "FarCells$Journal"
  | 5 => .object "FarCells$Attempt"
  | 6 => .array (.object "FarCells$Page")
  | 7 => .array (.object "FarCells$Worker")
  | 8 => .array .int
  | 9 => .array .int
  | 10 => .int
  | 11 => .int
  | 12 => .int
  | 13 => .int
  | 14 => .int
  | 15 => .int
  | 16 => .int
  | 17 => .int
  | _ => .int
theorem nmX3 : ∀ a, a < 19 → ∀ b, b < 19 → a ≠ b → (TX3 a).2.1 ≠ (TX3 b).2.1 := by decide +kernel
theorem tyX3_ok : ∀ k, k < 19 → parseFieldDescriptor (TX3 k).2.2.1 = some (tyX3 k) := by decide +kernel
abbrev cX3_init : ByteArray := prog_5_method_1_code
def yX3_init : MethodName := ⟨RX3, "<init>", "(LFarCells$Board;[LFarCells$Script;I)V"⟩
abbrev cX3_beginLike : ByteArray := prog_5_method_2_code
def yX3_beginLike : MethodName := ⟨RX3, "beginLike", "(LFarCells$Machine;)V"⟩
abbrev cX3_hasPage : ByteArray := prog_5_method_3_code
def yX3_hasPage : MethodName := ⟨RX3, "hasPage", "(I)Z"⟩
abbrev cX3_hasWorker : ByteArray := prog_5_method_4_code
def yX3_hasWorker : MethodName := ⟨RX3, "hasWorker", "(I)Z"⟩
abbrev cX3_addPage : ByteArray := prog_5_method_5_code
def yX3_addPage : MethodName := ⟨RX3, "addPage", "(I)I"⟩
abbrev cX3_addWorker : ByteArray := prog_5_method_6_code
def yX3_addWorker : MethodName := ⟨RX3, "addWorker", "(I)I"⟩
abbrev cX3_freeProcessors : ByteArray := prog_5_method_7_code
def yX3_freeProcessors : MethodName := ⟨RX3, "freeProcessors", "(I)I"⟩
abbrev cX3_hasRoom : ByteArray := prog_5_method_8_code
def yX3_hasRoom : MethodName := ⟨RX3, "hasRoom", "(I)Z"⟩
abbrev cX3_fits : ByteArray := prog_5_method_9_code
def yX3_fits : MethodName := ⟨RX3, "fits", "(LFarCells$Page;I)Z"⟩
abbrev cX3_allHaveRoom : ByteArray := prog_5_method_10_code
def yX3_allHaveRoom : MethodName := ⟨RX3, "allHaveRoom", "()Z"⟩
abbrev cX3_lay : ByteArray := prog_5_method_11_code
def yX3_lay : MethodName := ⟨RX3, "lay", "(LFarCells$Page;I)V"⟩
abbrev cX3_doTick : ByteArray := prog_5_method_12_code
def yX3_doTick : MethodName := ⟨RX3, "doTick", "()V"⟩
abbrev cX3_serve : ByteArray := prog_5_method_13_code
def yX3_serve : MethodName := ⟨RX3, "serve", "(I)V"⟩
abbrev cX3_finishAccesses : ByteArray := prog_5_method_14_code
def yX3_finishAccesses : MethodName := ⟨RX3, "finishAccesses", "()V"⟩
abbrev cX3_hidePages : ByteArray := prog_5_method_15_code
def yX3_hidePages : MethodName := ⟨RX3, "hidePages", "()V"⟩
abbrev cX3_goes : ByteArray := prog_5_method_16_code
def yX3_goes : MethodName := ⟨RX3, "goes", "(I)Z"⟩
abbrev cX3_canBeReached : ByteArray := prog_5_method_17_code
def yX3_canBeReached : MethodName := ⟨RX3, "canBeReached", "()Z"⟩
abbrev cX3_placeByRule : ByteArray := prog_5_method_18_code
def yX3_placeByRule : MethodName := ⟨RX3, "placeByRule", "(LFarCells$Page;)Z"⟩
abbrev cX3_firstChoice : ByteArray := prog_5_method_19_code
def yX3_firstChoice : MethodName := ⟨RX3, "firstChoice", "()I"⟩
abbrev cX3_emptiest : ByteArray := prog_5_method_20_code
def yX3_emptiest : MethodName := ⟨RX3, "emptiest", "()I"⟩
abbrev cX3_nextWithRoom : ByteArray := prog_5_method_21_code
def yX3_nextWithRoom : MethodName := ⟨RX3, "nextWithRoom", "(I)I"⟩
abbrev cX3_perform : ByteArray := prog_5_method_22_code
def yX3_perform : MethodName := ⟨RX3, "perform", "(LFarCells$Page;LFarCells$Worker;)V"⟩
abbrev cX3_takeFault : ByteArray := prog_5_method_23_code
def yX3_takeFault : MethodName := ⟨RX3, "takeFault", "(LFarCells$Page;)V"⟩
abbrev cX3_moveIfItPays : ByteArray := prog_5_method_24_code
def yX3_moveIfItPays : MethodName := ⟨RX3, "moveIfItPays", "(LFarCells$Page;)V"⟩
abbrev cX3_bringCopy : ByteArray := prog_5_method_25_code
def yX3_bringCopy : MethodName := ⟨RX3, "bringCopy", "(LFarCells$Page;)I"⟩
abbrev cX3_endCopies : ByteArray := prog_5_method_26_code
def yX3_endCopies : MethodName := ⟨RX3, "endCopies", "(LFarCells$Page;)I"⟩
abbrev cX3_enterInBills : ByteArray := prog_5_method_27_code
def yX3_enterInBills : MethodName := ⟨RX3, "enterInBills", "(LFarCells$Page;LFarCells$Worker;)V"⟩
def RX4 : String := "FarCells$Page"
def TX4 : u_T := fun k => match k with
  | 0 => ("FarCells$Page", "cells", "[I", true)
  | 1 => ("FarCells$Page", "faults", "[I", true)
  | 2 => ("FarCells$Page", "kind", "I", false)
  | 3 => ("FarCells$Page", "home", "I", false)
  | 4 => ("FarCells$Page", "copies", "I", false)
  | 5 => ("FarCells$Page", "faultCount", "I", false)
  | 6 => ("FarCells$Page", "moves", "I", false)
  | 7 => ("FarCells$Page", "bill", "I", false)
  | _ => ("FarCells$Page", "hidden", "Z", false)
def tyX4 : Nat → FieldType := fun k => match k with
  | 0 => .array .int
  | 1 => .array .int
  | 2 => .int
  | 3 => .int
  | 4 => .int
  | 5 => .int
  | 6 => .int
  | 7 => .int
  | _ => .boolean
theorem nmX4 : ∀ a, a < 9 → ∀ b, b < 9 → a ≠ b → (TX4 a).2.1 ≠ (TX4 b).2.1 := by decide +kernel
theorem tyX4_ok : ∀ k, k < 9 → parseFieldDescriptor (TX4 k).2.2.1 = some (tyX4 k) := by decide +kernel
abbrev cX4_init : ByteArray := prog_6_method_1_code
def yX4_init : MethodName := ⟨RX4, "<init>", "()V"⟩
abbrev cX4_begin : ByteArray := prog_6_method_2_code
def yX4_begin : MethodName := ⟨RX4, "begin", "(I)V"⟩
abbrev cX4_hasCopyOn : ByteArray := prog_6_method_3_code
def yX4_hasCopyOn : MethodName := ⟨RX4, "hasCopyOn", "(I)Z"⟩
abbrev cX4_whereFor : ByteArray := prog_6_method_4_code
def yX4_whereFor : MethodName := ⟨RX4, "whereFor", "(III)I"⟩
abbrev cX4_noteFault : ByteArray := prog_6_method_5_code
def yX4_noteFault : MethodName := ⟨RX4, "noteFault", "(I)V"⟩
abbrev cX4_wanted : ByteArray := prog_6_method_6_code
def yX4_wanted : MethodName := ⟨RX4, "wanted", "()I"⟩
abbrev cX4_faultsOf : ByteArray := prog_6_method_7_code
def yX4_faultsOf : MethodName := ⟨RX4, "faultsOf", "(I)I"⟩
abbrev cX4_savingAt : ByteArray := prog_6_method_8_code
def yX4_savingAt : MethodName := ⟨RX4, "savingAt", "(ILFarCells$Board;)I"⟩
def RX5 : String := "FarCells$Queues"
def TX5 : u_T := fun k => match k with
  | 0 => ("FarCells$Queues", "order", "[I", true)
  | _ => ("FarCells$Queues", "size", "[I", true)
def tyX5 : Nat → FieldType := fun k => match k with
  | 0 => .array .int
  | _ => .array .int
theorem nmX5 : ∀ a, a < 2 → ∀ b, b < 2 → a ≠ b → (TX5 a).2.1 ≠ (TX5 b).2.1 := by decide +kernel
theorem tyX5_ok : ∀ k, k < 2 → parseFieldDescriptor (TX5 k).2.2.1 = some (tyX5 k) := by decide +kernel
abbrev cX5_init : ByteArray := prog_7_method_1_code
def yX5_init : MethodName := ⟨RX5, "<init>", "()V"⟩
abbrev cX5_begin : ByteArray := prog_7_method_2_code
def yX5_begin : MethodName := ⟨RX5, "begin", "()V"⟩
abbrev cX5_at : ByteArray := prog_7_method_3_code
def yX5_at : MethodName := ⟨RX5, "at", "(II)I"⟩
abbrev cX5_append : ByteArray := prog_7_method_4_code
def yX5_append : MethodName := ⟨RX5, "append", "(II)V"⟩
abbrev cX5_placeOf : ByteArray := prog_7_method_5_code
def yX5_placeOf : MethodName := ⟨RX5, "placeOf", "(II)I"⟩
abbrev cX5_drop : ByteArray := prog_7_method_6_code
def yX5_drop : MethodName := ⟨RX5, "drop", "(II)V"⟩
abbrev cX5_exchange : ByteArray := prog_7_method_7_code
def yX5_exchange : MethodName := ⟨RX5, "exchange", "(IIII)V"⟩
def RX6 : String := "FarCells$Rules"
def TX6 : u_T := fun k => match k with
  | 0 => ("FarCells$Rules", "placing", "I", false)
  | 1 => ("FarCells$Rules", "every", "I", false)
  | 2 => ("FarCells$Rules", "gain", "I", false)
  | 3 => ("FarCells$Rules", "faultPrice", "I", false)
  | _ => ("FarCells$Rules", "movePrice", "I", false)
def tyX6 : Nat → FieldType := fun k => match k with
  | 0 => .int
  | 1 => .int
  | 2 => .int
  | 3 => .int
  | _ => .int
theorem nmX6 : ∀ a, a < 5 → ∀ b, b < 5 → a ≠ b → (TX6 a).2.1 ≠ (TX6 b).2.1 := by decide +kernel
theorem tyX6_ok : ∀ k, k < 5 → parseFieldDescriptor (TX6 k).2.2.1 = some (tyX6 k) := by decide +kernel
abbrev cX6_init : ByteArray := prog_8_method_1_code
def yX6_init : MethodName := ⟨RX6, "<init>", "()V"⟩
abbrev cX6_choose : ByteArray := prog_8_method_2_code
def yX6_choose : MethodName := ⟨RX6, "choose", "(III)V"⟩
abbrev cX6_setPrices : ByteArray := prog_8_method_3_code
def yX6_setPrices : MethodName := ⟨RX6, "setPrices", "(II)V"⟩
def RX7 : String := "FarCells$Script"
def TX7 : u_T := fun k => match k with
  | 0 => ("FarCells$Script", "pages", "[I", true)
  | 1 => ("FarCells$Script", "cells", "[I", true)
  | 2 => ("FarCells$Script", "writes", "[Z", true)
  | 3 => ("FarCells$Script", "values", "[I", true)
  | _ => ("FarCells$Script", "told", "I", false)
def tyX7 : Nat → FieldType := fun k => match k with
  | 0 => .array .int
  | 1 => .array .int
  | 2 => .array .boolean
  | 3 => .array .int
  | _ => .int
theorem nmX7 : ∀ a, a < 5 → ∀ b, b < 5 → a ≠ b → (TX7 a).2.1 ≠ (TX7 b).2.1 := by decide +kernel
theorem tyX7_ok : ∀ k, k < 5 → parseFieldDescriptor (TX7 k).2.2.1 = some (tyX7 k) := by decide +kernel
abbrev cX7_init : ByteArray := prog_9_method_1_code
def yX7_init : MethodName := ⟨RX7, "<init>", "()V"⟩
abbrev cX7_tell : ByteArray := prog_9_method_2_code
def yX7_tell : MethodName := ⟨RX7, "tell", "(IIZI)I"⟩
def RX8 : String := "FarCells$Shelf"
def TX8 : u_T := fun k => match k with
  | 0 => ("FarCells$Shelf", "bytes", "[B", true)
  | 1 => ("FarCells$Shelf", "ints", "[I", true)
  | 2 => ("FarCells$Shelf", "what", "I", false)
  | 3 => ("FarCells$Shelf", "size", "I", false)
  | 4 => ("FarCells$Shelf", "number", "I", false)
  | 5 => ("FarCells$Shelf", "kind", "I", false)
  | 6 => ("FarCells$Shelf", "copies", "I", false)
  | _ => ("FarCells$Shelf", "home", "I", false)
def tyX8 : Nat → FieldType := fun k => match k with
  | 0 => .array .byte
  | 1 => .array .int
  | 2 => .int
  | 3 => .int
  | 4 => .int
  | 5 => .int
  | 6 => .int
  | _ => .int
theorem nmX8 : ∀ a, a < 8 → ∀ b, b < 8 → a ≠ b → (TX8 a).2.1 ≠ (TX8 b).2.1 := by decide +kernel
theorem tyX8_ok : ∀ k, k < 8 → parseFieldDescriptor (TX8 k).2.2.1 = some (tyX8 k) := by decide +kernel
abbrev cX8_init : ByteArray := prog_10_method_1_code
def yX8_init : MethodName := ⟨RX8, "<init>", "()V"⟩
abbrev cX8_holdPage : ByteArray := prog_10_method_2_code
def yX8_holdPage : MethodName := ⟨RX8, "holdPage", "(ILFarCells$Page;)V"⟩
abbrev cX8_holdNodes : ByteArray := prog_10_method_3_code
def yX8_holdNodes : MethodName := ⟨RX8, "holdNodes", "([LFarCells$Worker;I)V"⟩
abbrev cX8_holdCells : ByteArray := prog_10_method_4_code
def yX8_holdCells : MethodName := ⟨RX8, "holdCells", "(LFarCells$Page;)V"⟩
abbrev cX8_holdZeros : ByteArray := prog_10_method_5_code
def yX8_holdZeros : MethodName := ⟨RX8, "holdZeros", "(II)V"⟩
abbrev cX8_isRow : ByteArray := prog_10_method_6_code
def yX8_isRow : MethodName := ⟨RX8, "isRow", "()Z"⟩
abbrev cX8_hasStretch : ByteArray := prog_10_method_7_code
def yX8_hasStretch : MethodName := ⟨RX8, "hasStretch", "(II)Z"⟩
abbrev cX8_heaviness : ByteArray := prog_10_method_8_code
def yX8_heaviness : MethodName := ⟨RX8, "heaviness", "()I"⟩
abbrev cX8_throwFailure : ByteArray := prog_10_method_9_code
def yX8_throwFailure : MethodName := ⟨RX8, "throwFailure", "()V"⟩
def RX9 : String := "FarCells$Traffic"
def TX9 : u_T := fun k => match k with
  | 0 => ("FarCells$Traffic", "board", "LFarCells$Board;", true)
  | 1 => ("FarCells$Traffic", "carried", "[I", true)
  | 2 => ("FarCells$Traffic", "waits", "[I", true)
  | _ => ("FarCells$Traffic", "inTick", "[I", true)
def tyX9 : Nat → FieldType := fun k => match k with
  | 0 => .object "FarCells$Board"
  | 1 => .array .int
  | 2 => .array .int
  | _ => .array .int
theorem nmX9 : ∀ a, a < 4 → ∀ b, b < 4 → a ≠ b → (TX9 a).2.1 ≠ (TX9 b).2.1 := by decide +kernel
theorem tyX9_ok : ∀ k, k < 4 → parseFieldDescriptor (TX9 k).2.2.1 = some (tyX9 k) := by decide +kernel
abbrev cX9_init : ByteArray := prog_11_method_1_code
def yX9_init : MethodName := ⟨RX9, "<init>", "(LFarCells$Board;)V"⟩
abbrev cX9_begin : ByteArray := prog_11_method_2_code
def yX9_begin : MethodName := ⟨RX9, "begin", "()V"⟩
abbrev cX9_openTick : ByteArray := prog_11_method_3_code
def yX9_openTick : MethodName := ⟨RX9, "openTick", "()V"⟩
abbrev cX9_holdsUp : ByteArray := prog_11_method_4_code
def yX9_holdsUp : MethodName := ⟨RX9, "holdsUp", "(II)Z"⟩
abbrev cX9_carry : ByteArray := prog_11_method_5_code
def yX9_carry : MethodName := ⟨RX9, "carry", "(II)V"⟩
def RX10 : String := "FarCells$Worker"
def TX10 : u_T := fun k => match k with
  | 0 => ("FarCells$Worker", "script", "LFarCells$Script;", true)
  | 1 => ("FarCells$Worker", "node", "I", false)
  | 2 => ("FarCells$Worker", "gone", "I", false)
  | 3 => ("FarCells$Worker", "toGo", "I", false)
  | 4 => ("FarCells$Worker", "waits", "I", false)
  | 5 => ("FarCells$Worker", "bill", "I", false)
  | 6 => ("FarCells$Worker", "lastRead", "I", false)
  | _ => ("FarCells$Worker", "ended", "Z", false)
def tyX10 : Nat → FieldType := fun k => match k with
  | 0 => .object "FarCells$Script"
  | 1 => .int
  | 2 => .int
  | 3 => .int
  | 4 => .int
  | 5 => .int
  | 6 => .int
  | _ => .boolean
theorem nmX10 : ∀ a, a < 8 → ∀ b, b < 8 → a ≠ b → (TX10 a).2.1 ≠ (TX10 b).2.1 := by decide +kernel
theorem tyX10_ok : ∀ k, k < 8 → parseFieldDescriptor (TX10 k).2.2.1 = some (tyX10 k) := by decide +kernel
abbrev cX10_init : ByteArray := prog_12_method_1_code
def yX10_init : MethodName := ⟨RX10, "<init>", "(LFarCells$Script;)V"⟩
abbrev cX10_begin : ByteArray := prog_12_method_2_code
def yX10_begin : MethodName := ⟨RX10, "begin", "(I)V"⟩
abbrev cX10_left : ByteArray := prog_12_method_3_code
def yX10_left : MethodName := ⟨RX10, "left", "()I"⟩
abbrev cX10_isReady : ByteArray := prog_12_method_4_code
def yX10_isReady : MethodName := ⟨RX10, "isReady", "()Z"⟩
def RX11 : String := "FarCells"
def TX11 : u_T := fun k => match k with
  | 0 => ("FarCells", "board", "LFarCells$Board;", true)
  | 1 => ("FarCells", "machine", "LFarCells$Machine;", true)
  | 2 => ("FarCells", "trial", "LFarCells$Machine;", true)
  | _ => ("FarCells", "shelves", "[LFarCells$Shelf;", true)
def tyX11 : Nat → FieldType := fun k => match k with
  | 0 => .object "FarCells$Board"
  | 1 => .object "FarCells$Machine"
  | 2 => .object "FarCells$Machine"
  | _ => .array (.object "FarCells$Shelf")
theorem nmX11 : ∀ a, a < 4 → ∀ b, b < 4 → a ≠ b → (TX11 a).2.1 ≠ (TX11 b).2.1 := by decide +kernel
theorem tyX11_ok : ∀ k, k < 4 → parseFieldDescriptor (TX11 k).2.2.1 = some (tyX11 k) := by decide +kernel
abbrev cX11_init : ByteArray := prog_1_method_1_code
def yX11_init : MethodName := ⟨RX11, "<init>", "(III)V"⟩
abbrev cX11_link : ByteArray := prog_1_method_2_code
def yX11_link : MethodName := ⟨RX11, "link", "(IIII)I"⟩
abbrev cX11_far : ByteArray := prog_1_method_3_code
def yX11_far : MethodName := ⟨RX11, "far", "(II)I"⟩
abbrev cX11_way : ByteArray := prog_1_method_4_code
def yX11_way : MethodName := ⟨RX11, "way", "(III)I"⟩
abbrev cX11_page : ByteArray := prog_1_method_5_code
def yX11_page : MethodName := ⟨RX11, "page", "(I)I"⟩
abbrev cX11_thread : ByteArray := prog_1_method_6_code
def yX11_thread : MethodName := ⟨RX11, "thread", "(I)I"⟩
abbrev cX11_access : ByteArray := prog_1_method_7_code
def yX11_access : MethodName := ⟨RX11, "access", "(IIIZI)I"⟩
abbrev cX11_rule : ByteArray := prog_1_method_8_code
def yX11_rule : MethodName := ⟨RX11, "rule", "(III)I"⟩
abbrev cX11_prices : ByteArray := prog_1_method_9_code
def yX11_prices : MethodName := ⟨RX11, "prices", "(II)I"⟩
abbrev cX11_place : ByteArray := prog_1_method_10_code
def yX11_place : MethodName := ⟨RX11, "place", "(II)I"⟩
abbrev cX11_settle : ByteArray := prog_1_method_11_code
def yX11_settle : MethodName := ⟨RX11, "settle", "(II)I"⟩
abbrev cX11_swap : ByteArray := prog_1_method_12_code
def yX11_swap : MethodName := ⟨RX11, "swap", "(II)I"⟩
abbrev cX11_run : ByteArray := prog_1_method_13_code
def yX11_run : MethodName := ⟨RX11, "run", "(I)I"⟩
abbrev cX11_look : ByteArray := prog_1_method_14_code
def yX11_look : MethodName := ⟨RX11, "look", "(II)I"⟩
abbrev cX11_fault : ByteArray := prog_1_method_15_code
def yX11_fault : MethodName := ⟨RX11, "fault", "(II)I"⟩
abbrev cX11_cell : ByteArray := prog_1_method_16_code
def yX11_cell : MethodName := ⟨RX11, "cell", "(II)I"⟩
abbrev cX11_about : ByteArray := prog_1_method_17_code
def yX11_about : MethodName := ⟨RX11, "about", "(II)I"⟩
abbrev cX11_read : ByteArray := prog_1_method_18_code
def yX11_read : MethodName := ⟨RX11, "read", "(I)I"⟩
abbrev cX11_node : ByteArray := prog_1_method_19_code
def yX11_node : MethodName := ⟨RX11, "node", "(II)I"⟩
abbrev cX11_linked : ByteArray := prog_1_method_20_code
def yX11_linked : MethodName := ⟨RX11, "linked", "(III)I"⟩
abbrev cX11_log : ByteArray := prog_1_method_21_code
def yX11_log : MethodName := ⟨RX11, "log", "(II)I"⟩
abbrev cX11_best : ByteArray := prog_1_method_22_code
def yX11_best : MethodName := ⟨RX11, "best", "(I)I"⟩
abbrev cX11_gap : ByteArray := prog_1_method_23_code
def yX11_gap : MethodName := ⟨RX11, "gap", "(I)I"⟩
abbrev cX11_other : ByteArray := prog_1_method_24_code
def yX11_other : MethodName := ⟨RX11, "other", "(IIII)I"⟩
abbrev cX11_same : ByteArray := prog_1_method_25_code
def yX11_same : MethodName := ⟨RX11, "same", "()I"⟩
abbrev cX11_count : ByteArray := prog_1_method_26_code
def yX11_count : MethodName := ⟨RX11, "count", "(I)I"⟩
abbrev cX11_keep : ByteArray := prog_1_method_27_code
def yX11_keep : MethodName := ⟨RX11, "keep", "(III)I"⟩
abbrev cX11_make : ByteArray := prog_1_method_28_code
def yX11_make : MethodName := ⟨RX11, "make", "(III)I"⟩
abbrev cX11_element : ByteArray := prog_1_method_29_code
def yX11_element : MethodName := ⟨RX11, "element", "(II)J"⟩
abbrev cX11_copy : ByteArray := prog_1_method_30_code
def yX11_copy : MethodName := ⟨RX11, "copy", "(IIIII)I"⟩
abbrev cX11_weight : ByteArray := prog_1_method_31_code
def yX11_weight : MethodName := ⟨RX11, "weight", "(I)I"⟩
abbrev cX11_toss : ByteArray := prog_1_method_32_code
def yX11_toss : MethodName := ⟨RX11, "toss", "(I)I"⟩
abbrev cX11_refusalOfPageOn : ByteArray := prog_1_method_33_code
def yX11_refusalOfPageOn : MethodName := ⟨RX11, "refusalOfPageOn", "(I)I"⟩
abbrev cX11_isShelf : ByteArray := prog_1_method_34_code
def yX11_isShelf : MethodName := ⟨RX11, "isShelf", "(I)Z"⟩
abbrev cX11_ruleIsAllowed : ByteArray := prog_1_method_35_code
def yX11_ruleIsAllowed : MethodName := ⟨RX11, "ruleIsAllowed", "(III)Z"⟩
abbrev cX11_within : ByteArray := prog_1_method_36_code
def yX11_within : MethodName := ⟨RX11, "within", "(III)Z"⟩
def RX12 : String := "FarCellsModel"
def TX12 : u_T := fun k => match k with
  | 0 => ("FarCellsModel", "thrown", "I", false)
  | 1 => ("FarCellsModel", "nodes", "I", true)
  | 2 => ("FarCellsModel", "processors", "I", true)
  | 3 => ("FarCellsModel", "room", "I", true)
  | 4 => ("FarCellsModel", "price", "[I", true)
  | 5 => ("FarCellsModel", "width", "[I", true)
  | 6 => ("FarCellsModel", "far", "[I", true)
  | 7 => ("FarCellsModel", "pages", "I", false)
  | 8 => ("FarCellsModel", "kind", "[I", true)
  | 9 => ("FarCellsModel", "threads", "I", false)
  | 10 => ("FarCellsModel", "told", "[I", true)
  | 11 => ("FarCellsModel", "aPage", "[I", true)
  | 12 => ("FarCellsModel", "aCell", "[I", true)
  | 13 => ("FarCellsModel", "aWrites", "[Z", true)
  | 14 => ("FarCellsModel", "aValue", "[I", true)
  | 15 => ("FarCellsModel", "faultPrice", "I", false)
  | 16 => ("FarCellsModel", "movePrice", "I", false)
  | 17 => ("FarCellsModel", "w", "I", false)
  | 18 => ("FarCellsModel", "placing", "[I", true)
  | 19 => ("FarCellsModel", "every", "[I", true)
  | 20 => ("FarCellsModel", "gain", "[I", true)
  | 21 => ("FarCellsModel", "tick", "[I", true)
  | 22 => ("FarCellsModel", "turns", "[I", true)
  | 23 => ("FarCellsModel", "went", "[I", true)
  | 24 => ("FarCellsModel", "cost", "[J", true)
  | 25 => ("FarCellsModel", "faults", "[I", true)
  | 26 => ("FarCellsModel", "moves", "[I", true)
  | 27 => ("FarCellsModel", "failed", "[I", true)
  | 28 => ("FarCellsModel", "stamps", "[I", true)
  | 29 => ("FarCellsModel", "lies", "[I", true)
  | 30 => ("FarCellsModel", "copies", "[I", true)
  | 31 => ("FarCellsModel", "hidden", "[Z", true)
  | 32 => ("FarCellsModel", "faultMany", "[I", true)
  | 33 => ("FarCellsModel", "faultNode", "[I", true)
  | 34 => ("FarCellsModel", "moved", "[I", true)
  | 35 => ("FarCellsModel", "pageBill", "[J", true)
  | 36 => ("FarCellsModel", "cell", "[I", true)
  | 37 => ("FarCellsModel", "at", "[I", true)
  | 38 => ("FarCellsModel", "stamp", "[I", true)
  | 39 => ("FarCellsModel", "next", "[I", true)
  | 40 => ("FarCellsModel", "toGo", "[I", true)
  | 41 => ("FarCellsModel", "waits", "[I", true)
  | 42 => ("FarCellsModel", "ended", "[Z", true)
  | 43 => ("FarCellsModel", "threadWent", "[I", true)
  | 44 => ("FarCellsModel", "threadBill", "[J", true)
  | 45 => ("FarCellsModel", "lastRead", "[I", true)
  | 46 => ("FarCellsModel", "tried", "[Z", true)
  | 47 => ("FarCellsModel", "nodeBill", "[J", true)
  | 48 => ("FarCellsModel", "linkNow", "[I", true)
  | 49 => ("FarCellsModel", "linkWent", "[I", true)
  | 50 => ("FarCellsModel", "linkWaits", "[I", true)
  | 51 => ("FarCellsModel", "logged", "I", false)
  | 52 => ("FarCellsModel", "log", "[I", true)
  | 53 => ("FarCellsModel", "logValue", "[I", true)
  | 54 => ("FarCellsModel", "didFault", "Z", false)
  | 55 => ("FarCellsModel", "didMove", "Z", false)
  | 56 => ("FarCellsModel", "sum", "[J", true)
  | 57 => ("FarCellsModel", "then", "[J", true)
  | 58 => ("FarCellsModel", "plain", "[I", true)
  | 59 => ("FarCellsModel", "shelf", "[I", true)
  | 60 => ("FarCellsModel", "shelfSize", "[I", true)
  | 61 => ("FarCellsModel", "shelfWeight", "[I", true)
  | 62 => ("FarCellsModel", "shelfFailure", "[I", true)
  | 63 => ("FarCellsModel", "shelfRow", "[I", true)
  | _ => ("FarCellsModel", "between", "[I", true)
def tyX12 : Nat → FieldType := fun k => match k with
  | 0 => .int
  | 1 => .int
  | 2 => .int
  | 3 => .int
  | 4 => .array .int
  | 5 => .array .int
  | 6 => .array .int
  | 7 => .int
  | 8 => .array .int
  | 9 => .int
  | 10 => .array .int
  | 11 => .array .int
  | 12 => .array .int
  | 13 => .array .boolean
  | 14 => .array .int
  | 15 => .int
  | 16 => .int
  | 17 => .int
  | 18 => .array .int
  | 19 => .array .int
  | 20 => .array .int
  | 21 => .array .int
  | 22 => .array .int
  | 23 => .array .int
  | 24 => .array .long
  | 25 => .array .int
  | 26 => .array .int
  | 27 => .array .int
  | 28 => .array .int
  | 29 => .array .int
  | 30 => .array .int
  | 31 => .array .boolean
  | 32 => .array .int
  | 33 => .array .int
  | 34 => .array .int
  | 35 => .array .long
  | 36 => .array .int
  | 37 => .array .int
  | 38 => .array .int
  | 39 => .array .int
  | 40 => .array .int
  | 41 => .array .int
  | 42 => .array .boolean
  | 43 => .array .int
  | 44 => .array .long
  | 45 => .array .int
  | 46 => .array .boolean
  | 47 => .array .long
  | 48 => .array .int
  | 49 => .array .int
  | 50 => .array .int
  | 51 => .int
  | 52 => .array .int
  | 53 => .array .int
  | 54 => .boolean
  | 55 => .boolean
  | 56 => .array .long
  | 57 => .array .long
  | 58 => .array .int
  | 59 => .array .int
  | 60 => .array .int
  | 61 => .array .int
  | 62 => .array .int
  | 63 => .array .int
  | _ => .array .int
theorem nmX12 : ∀ a, a < 65 → ∀ b, b < 65 → a ≠ b → (TX12 a).2.1 ≠ (TX12 b).2.1 := by decide +kernel
theorem tyX12_ok : ∀ k, k < 65 → parseFieldDescriptor (TX12 k).2.2.1 = some (tyX12 k) := by decide +kernel
abbrev cX12_init : ByteArray := prog_14_method_1_code
def yX12_init : MethodName := ⟨RX12, "<init>", "(III)V"⟩
abbrev cX12_mod : ByteArray := prog_14_method_2_code
def yX12_mod : MethodName := ⟨RX12, "mod", "(II)I"⟩
abbrev cX12_thrown : ByteArray := prog_14_method_3_code
def yX12_thrown : MethodName := ⟨RX12, "thrown", "()I"⟩
abbrev cX12_isIn : ByteArray := prog_14_method_4_code
def yX12_isIn : MethodName := ⟨RX12, "isIn", "(JJJ)Z"⟩
abbrev cX12_isNode : ByteArray := prog_14_method_5_code
def yX12_isNode : MethodName := ⟨RX12, "isNode", "(I)Z"⟩
abbrev cX12_isPage : ByteArray := prog_14_method_6_code
def yX12_isPage : MethodName := ⟨RX12, "isPage", "(I)Z"⟩
abbrev cX12_isThread : ByteArray := prog_14_method_7_code
def yX12_isThread : MethodName := ⟨RX12, "isThread", "(I)Z"⟩
abbrev cX12_measure : ByteArray := prog_14_method_8_code
def yX12_measure : MethodName := ⟨RX12, "measure", "()V"⟩
abbrev cX12_areLinked : ByteArray := prog_14_method_9_code
def yX12_areLinked : MethodName := ⟨RX12, "areLinked", "(II)Z"⟩
abbrev cX12_link : ByteArray := prog_14_method_10_code
def yX12_link : MethodName := ⟨RX12, "link", "(IIII)I"⟩
abbrev cX12_isWay : ByteArray := prog_14_method_11_code
def yX12_isWay : MethodName := ⟨RX12, "isWay", "(II)Z"⟩
abbrev cX12_far : ByteArray := prog_14_method_12_code
def yX12_far : MethodName := ⟨RX12, "far", "(II)I"⟩
abbrev cX12_behind : ByteArray := prog_14_method_13_code
def yX12_behind : MethodName := ⟨RX12, "behind", "(II)I"⟩
abbrev cX12_way : ByteArray := prog_14_method_14_code
def yX12_way : MethodName := ⟨RX12, "way", "(III)I"⟩
abbrev cX12_page : ByteArray := prog_14_method_15_code
def yX12_page : MethodName := ⟨RX12, "page", "(I)I"⟩
abbrev cX12_thread : ByteArray := prog_14_method_16_code
def yX12_thread : MethodName := ⟨RX12, "thread", "(I)I"⟩
abbrev cX12_access : ByteArray := prog_14_method_17_code
def yX12_access : MethodName := ⟨RX12, "access", "(IIIZI)I"⟩
abbrev cX12_rule : ByteArray := prog_14_method_18_code
def yX12_rule : MethodName := ⟨RX12, "rule", "(III)I"⟩
abbrev cX12_prices : ByteArray := prog_14_method_19_code
def yX12_prices : MethodName := ⟨RX12, "prices", "(II)I"⟩
abbrev cX12_taken : ByteArray := prog_14_method_20_code
def yX12_taken : MethodName := ⟨RX12, "taken", "(I)I"⟩
abbrev cX12_hasRoom : ByteArray := prog_14_method_21_code
def yX12_hasRoom : MethodName := ⟨RX12, "hasRoom", "(I)Z"⟩
abbrev cX12_allHaveRoom : ByteArray := prog_14_method_22_code
def yX12_allHaveRoom : MethodName := ⟨RX12, "allHaveRoom", "()Z"⟩
abbrev cX12_place : ByteArray := prog_14_method_23_code
def yX12_place : MethodName := ⟨RX12, "place", "(II)I"⟩
abbrev cX12_settle : ByteArray := prog_14_method_24_code
def yX12_settle : MethodName := ⟨RX12, "settle", "(II)I"⟩
abbrev cX12_swap : ByteArray := prog_14_method_25_code
def yX12_swap : MethodName := ⟨RX12, "swap", "(II)I"⟩
abbrev cX12_emptiest : ByteArray := prog_14_method_26_code
def yX12_emptiest : MethodName := ⟨RX12, "emptiest", "()I"⟩
abbrev cX12_isPlaced : ByteArray := prog_14_method_27_code
def yX12_isPlaced : MethodName := ⟨RX12, "isPlaced", "(II)Z"⟩
abbrev cX12_where : ByteArray := prog_14_method_28_code
def yX12_where : MethodName := ⟨RX12, "where", "(III)I"⟩
abbrev cX12_crowded : ByteArray := prog_14_method_29_code
def yX12_crowded : MethodName := ⟨RX12, "crowded", "(II)I"⟩
abbrev cX12_useLinks : ByteArray := prog_14_method_30_code
def yX12_useLinks : MethodName := ⟨RX12, "useLinks", "(II)V"⟩
abbrev cX12_keepFault : ByteArray := prog_14_method_31_code
def yX12_keepFault : MethodName := ⟨RX12, "keepFault", "(II)V"⟩
abbrev cX12_wanted : ByteArray := prog_14_method_32_code
def yX12_wanted : MethodName := ⟨RX12, "wanted", "(I)I"⟩
abbrev cX12_pays : ByteArray := prog_14_method_33_code
def yX12_pays : MethodName := ⟨RX12, "pays", "(II)Z"⟩
abbrev cX12_faulted : ByteArray := prog_14_method_34_code
def yX12_faulted : MethodName := ⟨RX12, "faulted", "(II)I"⟩
abbrev cX12_countBits : ByteArray := prog_14_method_35_code
def yX12_countBits : MethodName := ⟨RX12, "countBits", "(I)I"⟩
abbrev cX12_copied : ByteArray := prog_14_method_36_code
def yX12_copied : MethodName := ⟨RX12, "copied", "(IIZ)I"⟩
abbrev cX12_fail : ByteArray := prog_14_method_37_code
def yX12_fail : MethodName := ⟨RX12, "fail", "(I)V"⟩
abbrev cX12_note : ByteArray := prog_14_method_38_code
def yX12_note : MethodName := ⟨RX12, "note", "(IIIII)V"⟩
abbrev cX12_tryNext : ByteArray := prog_14_method_39_code
def yX12_tryNext : MethodName := ⟨RX12, "tryNext", "(I)V"⟩
abbrev cX12_underWay : ByteArray := prog_14_method_40_code
def yX12_underWay : MethodName := ⟨RX12, "underWay", "(I)I"⟩
abbrev cX12_isReady : ByteArray := prog_14_method_41_code
def yX12_isReady : MethodName := ⟨RX12, "isReady", "(I)Z"⟩
abbrev cX12_first : ByteArray := prog_14_method_42_code
def yX12_first : MethodName := ⟨RX12, "first", "(I)I"⟩
abbrev cX12_finish : ByteArray := prog_14_method_43_code
def yX12_finish : MethodName := ⟨RX12, "finish", "()V"⟩
abbrev cX12_oneTick : ByteArray := prog_14_method_44_code
def yX12_oneTick : MethodName := ⟨RX12, "oneTick", "()V"⟩
abbrev cX12_run : ByteArray := prog_14_method_45_code
def yX12_run : MethodName := ⟨RX12, "run", "(I)I"⟩
abbrev cX12_look : ByteArray := prog_14_method_46_code
def yX12_look : MethodName := ⟨RX12, "look", "(II)I"⟩
abbrev cX12_fault : ByteArray := prog_14_method_47_code
def yX12_fault : MethodName := ⟨RX12, "fault", "(II)I"⟩
abbrev cX12_cell : ByteArray := prog_14_method_48_code
def yX12_cell : MethodName := ⟨RX12, "cell", "(II)I"⟩
abbrev cX12_queuePlace : ByteArray := prog_14_method_49_code
def yX12_queuePlace : MethodName := ⟨RX12, "queuePlace", "(I)I"⟩
abbrev cX12_about : ByteArray := prog_14_method_50_code
def yX12_about : MethodName := ⟨RX12, "about", "(II)I"⟩
abbrev cX12_read : ByteArray := prog_14_method_51_code
def yX12_read : MethodName := ⟨RX12, "read", "(I)I"⟩
abbrev cX12_node : ByteArray := prog_14_method_52_code
def yX12_node : MethodName := ⟨RX12, "node", "(II)I"⟩
abbrev cX12_linked : ByteArray := prog_14_method_53_code
def yX12_linked : MethodName := ⟨RX12, "linked", "(III)I"⟩
abbrev cX12_log : ByteArray := prog_14_method_54_code
def yX12_log : MethodName := ⟨RX12, "log", "(II)I"⟩
abbrev cX12_best : ByteArray := prog_14_method_55_code
def yX12_best : MethodName := ⟨RX12, "best", "(I)I"⟩
abbrev cX12_gap : ByteArray := prog_14_method_56_code
def yX12_gap : MethodName := ⟨RX12, "gap", "(I)I"⟩
abbrev cX12_beginOther : ByteArray := prog_14_method_57_code
def yX12_beginOther : MethodName := ⟨RX12, "beginOther", "()V"⟩
abbrev cX12_other : ByteArray := prog_14_method_58_code
def yX12_other : MethodName := ⟨RX12, "other", "(IIII)I"⟩
abbrev cX12_same : ByteArray := prog_14_method_59_code
def yX12_same : MethodName := ⟨RX12, "same", "()I"⟩
abbrev cX12_count : ByteArray := prog_14_method_60_code
def yX12_count : MethodName := ⟨RX12, "count", "(I)I"⟩
abbrev cX12_isShelf : ByteArray := prog_14_method_61_code
def yX12_isShelf : MethodName := ⟨RX12, "isShelf", "(I)Z"⟩
abbrev cX12_weightOf : ByteArray := prog_14_method_62_code
def yX12_weightOf : MethodName := ⟨RX12, "weightOf", "(I)I"⟩
abbrev cX12_keep : ByteArray := prog_14_method_63_code
def yX12_keep : MethodName := ⟨RX12, "keep", "(III)I"⟩
abbrev cX12_make : ByteArray := prog_14_method_64_code
def yX12_make : MethodName := ⟨RX12, "make", "(III)I"⟩
abbrev cX12_element : ByteArray := prog_14_method_65_code
def yX12_element : MethodName := ⟨RX12, "element", "(II)J"⟩
abbrev cX12_hasPlaces : ByteArray := prog_14_method_66_code
def yX12_hasPlaces : MethodName := ⟨RX12, "hasPlaces", "(III)Z"⟩
abbrev cX12_copy : ByteArray := prog_14_method_67_code
def yX12_copy : MethodName := ⟨RX12, "copy", "(IIIII)I"⟩
abbrev cX12_denied : ByteArray := prog_14_method_68_code
def yX12_denied : MethodName := ⟨RX12, "denied", "(I)I"⟩
abbrev cX12_weight : ByteArray := prog_14_method_69_code
def yX12_weight : MethodName := ⟨RX12, "weight", "(I)I"⟩
abbrev cX12_toss : ByteArray := prog_14_method_70_code
def yX12_toss : MethodName := ⟨RX12, "toss", "(I)I"⟩
def RJ6 : String := "java/lang/Integer"
def TJ6 : u_T := fun k => match k with
  | _ => ("", "", "", false)
def tyJ6 : Nat → FieldType := fun k => match k with
  | _ => .int
theorem nmJ6 : ∀ a, a < 0 → ∀ b, b < 0 → a ≠ b → (TJ6 a).2.1 ≠ (TJ6 b).2.1 := by decide +kernel
theorem tyJ6_ok : ∀ k, k < 0 → parseFieldDescriptor (TJ6 k).2.2.1 = some (tyJ6 k) := by decide +kernel
abbrev cJ6_bitCount_0f7a4 : ByteArray := prog_18_method_49_code
def yJ6_bitCount_0f7a4 : MethodName := ⟨RJ6, "bitCount", "(I)I"⟩
def RJ9 : String := "java/lang/Math"
def TJ9 : u_T := fun k => match k with
  | _ => ("", "", "", false)
def tyJ9 : Nat → FieldType := fun k => match k with
  | _ => .int
theorem nmJ9 : ∀ a, a < 0 → ∀ b, b < 0 → a ≠ b → (TJ9 a).2.1 ≠ (TJ9 b).2.1 := by decide +kernel
theorem tyJ9_ok : ∀ k, k < 0 → parseFieldDescriptor (TJ9 k).2.2.1 = some (tyJ9 k) := by decide +kernel
abbrev cJ9_floorMod_7cf53 : ByteArray := prog_19_method_50_code
def yJ9_floorMod_7cf53 : MethodName := ⟨RJ9, "floorMod", "(II)I"⟩
abbrev cJ9_max_7cf53 : ByteArray := prog_19_method_65_code
def yJ9_max_7cf53 : MethodName := ⟨RJ9, "max", "(II)I"⟩
abbrev cJ9_min_7cf53 : ByteArray := prog_19_method_69_code
def yJ9_min_7cf53 : MethodName := ⟨RJ9, "min", "(II)I"⟩
def RJ0 : String := "java/lang/String"
def TJ0 : u_T := fun k => match k with
  | _ => ("", "", "", false)
def tyJ0 : Nat → FieldType := fun k => match k with
  | _ => .int
theorem nmJ0 : ∀ a, a < 0 → ∀ b, b < 0 → a ≠ b → (TJ0 a).2.1 ≠ (TJ0 b).2.1 := by decide +kernel
theorem tyJ0_ok : ∀ k, k < 0 → parseFieldDescriptor (TJ0 k).2.2.1 = some (tyJ0 k) := by decide +kernel
def RJ10 : String := "java/lang/System"
def TJ10 : u_T := fun k => match k with
  | _ => ("", "", "", false)
def tyJ10 : Nat → FieldType := fun k => match k with
  | _ => .int
theorem nmJ10 : ∀ a, a < 0 → ∀ b, b < 0 → a ≠ b → (TJ10 a).2.1 ≠ (TJ10 b).2.1 := by decide +kernel
theorem tyJ10_ok : ∀ k, k < 0 → parseFieldDescriptor (TJ10 k).2.2.1 = some (tyJ10 k) := by decide +kernel
def RJ7 : String := "java/util/Arrays"
def TJ7 : u_T := fun k => match k with
  | _ => ("", "", "", false)
def tyJ7 : Nat → FieldType := fun k => match k with
  | _ => .int
theorem nmJ7 : ∀ a, a < 0 → ∀ b, b < 0 → a ≠ b → (TJ7 a).2.1 ≠ (TJ7 b).2.1 := by decide +kernel
theorem tyJ7_ok : ∀ k, k < 0 → parseFieldDescriptor (TJ7 k).2.2.1 = some (tyJ7 k) := by decide +kernel
abbrev cJ7_fill_53178 : ByteArray := prog_24_method_103_code
def yJ7_fill_53178 : MethodName := ⟨RJ7, "fill", "([II)V"⟩
abbrev cJ7_fill_031fb : ByteArray := prog_24_method_109_code
def yJ7_fill_031fb : MethodName := ⟨RJ7, "fill", "([BB)V"⟩
def RL : String := "FarCellsLaw"
abbrev cL_cell : ByteArray := method_2_code
def yL_cell : MethodName := ⟨RL, "cell", "([II)I"⟩
abbrev cL_cell_ : ByteArray := method_3_code
def yL_cell_ : MethodName := ⟨RL, "cell", "(LFarCells;II[J)I"⟩
abbrev cL_read : ByteArray := method_4_code
def yL_read : MethodName := ⟨RL, "read", "(LFarCells;I[J)I"⟩
abbrev cL_element : ByteArray := method_5_code
def yL_element : MethodName := ⟨RL, "element", "(LFarCells;II[J)I"⟩
abbrev cL_law : ByteArray := code
def yL_law : MethodName := ⟨RL, "law", "([I)Z"⟩
abbrev vwCl : List vw_C := [(RX0, TX0, 10), (RX1, TX1, 7), (RX2, TX2, 5), (RX3, TX3, 19), (RX4, TX4, 9), (RX5, TX5, 2), (RX6, TX6, 5), (RX7, TX7, 5), (RX8, TX8, 8), (RX9, TX9, 4), (RX10, TX10, 8), (RX11, TX11, 4), (RX12, TX12, 65)]
end
section
/-! The layout behind both constructors, and a judgement over it: abstract addresses are offsets from the base B; a memory is its ints (and booleans, bytes) and its longs. -/
abbrev Mm : Type := (Nat → Nat → Int32) × (Nat → Nat → Int64)
abbrev MI : Type := MethodName × ByteArray × Nat × Option FieldType × Nat × Nat
def iy (M : MI) : MethodName := M.1
def ic (M : MI) : ByteArray := M.2.1
def il (M : MI) : Nat := M.2.2.1
def ir (M : MI) : Option FieldType := M.2.2.2.1
def ifr (M : MI) : Nat := M.2.2.2.2.1
def ilw (M : MI) : Nat := M.2.2.2.2.2
def tbG : List Cond := lw_tbl.filter goodWord
theorem tbG_at {w : Cond} (i : Nat) (h : lw_tbl[i]? = some w) (hg : goodWord w = true) : w ∈ tbG := List.mem_filter.mpr ⟨List.mem_of_getElem? h, hg⟩
def wsM (M : MI) : List Cond := .code (iy M) (ic M) (il M) (ir M) :: tbG
def rmM (M : MI) : Room := { frames := ifr M, cells := 0, slots := 0, locals := ilw M }
def kdL : List (Nat × Nat) := [(11, 4), (1, 7), (20, 16), (20, 16), (20, 16), (20, 16), (25, 10), (7, 5), (20, 60), (20, 60), (22, 60), (20, 60), (7, 5), (20, 60), (20, 60), (22, 60), (20, 60), (7, 5), (20, 60), (20, 60), (22, 60), (20, 60), (7, 5), (20, 60), (20, 60), (22, 60), (20, 60), (7, 5), (20, 60), (20, 60), (22, 60), (20, 60), (7, 5), (20, 60), (20, 60), (22, 60), (20, 60), (7, 5), (20, 60), (20, 60), (22, 60), (20, 60), (7, 5), (20, 60), (20, 60), (22, 60), (20, 60), (7, 5), (20, 60), (20, 60), (22, 60), (20, 60), (7, 5), (20, 60), (20, 60), (22, 60), (20, 60), (3, 19), (5, 2), (20, 40), (20, 4), (6, 5), (0, 10), (24, 20), (27, 10), (20, 4), (20, 4), (9, 4), (20, 16), (20, 16), (20, 16), (2, 5), (20, 4), (20, 80), (20, 3300), (4, 9), (20, 4), (20, 4), (4, 9), (20, 4), (20, 4), (4, 9), (20, 4), (20, 4), (4, 9), (20, 4), (20, 4), (4, 9), (20, 4), (20, 4), (4, 9), (20, 4), (20, 4), (4, 9), (20, 4), (20, 4), (4, 9), (20, 4), (20, 4), (4, 9), (20, 4), (20, 4), (4, 9), (20, 4), (20, 4), (4, 9), (20, 4), (20, 4), (4, 9), (20, 4), (20, 4), (4, 9), (20, 4), (20, 4), (4, 9), (20, 4), (20, 4), (4, 9), (20, 4), (20, 4), (4, 9), (20, 4), (20, 4), (4, 9), (20, 4), (20, 4), (4, 9), (20, 4), (20, 4), (4, 9), (20, 4), (20, 4), (4, 9), (20, 4), (20, 4), (10, 8), (10, 8), (10, 8), (10, 8), (10, 8), (10, 8), (10, 8), (10, 8), (10, 8), (10, 8), (3, 19), (5, 2), (20, 40), (20, 4), (6, 5), (0, 10), (24, 20), (27, 10), (20, 4), (20, 4), (9, 4), (20, 16), (20, 16), (20, 16), (2, 5), (20, 4), (20, 80), (20, 0), (4, 9), (20, 4), (20, 4), (4, 9), (20, 4), (20, 4), (4, 9), (20, 4), (20, 4), (4, 9), (20, 4), (20, 4), (4, 9), (20, 4), (20, 4), (4, 9), (20, 4), (20, 4), (4, 9), (20, 4), (20, 4), (4, 9), (20, 4), (20, 4), (4, 9), (20, 4), (20, 4), (4, 9), (20, 4), (20, 4), (4, 9), (20, 4), (20, 4), (4, 9), (20, 4), (20, 4), (4, 9), (20, 4), (20, 4), (4, 9), (20, 4), (20, 4), (4, 9), (20, 4), (20, 4), (4, 9), (20, 4), (20, 4), (4, 9), (20, 4), (20, 4), (4, 9), (20, 4), (20, 4), (4, 9), (20, 4), (20, 4), (4, 9), (20, 4), (20, 4), (10, 8), (10, 8), (10, 8), (10, 8), (10, 8), (10, 8), (10, 8), (10, 8), (10, 8), (10, 8), (26, 8), (8, 8), (23, 60), (20, 60), (8, 8), (23, 60), (20, 60), (8, 8), (23, 60), (20, 60), (8, 8), (23, 60), (20, 60), (8, 8), (23, 60), (20, 60), (8, 8), (23, 60), (20, 60), (8, 8), (23, 60), (20, 60), (8, 8), (23, 60), (20, 60), (12, 65), (20, 16), (20, 16), (20, 16), (20, 20), (20, 10), (20, 600), (20, 600), (22, 600), (20, 600), (20, 2), (20, 2), (20, 2), (20, 2), (20, 2), (20, 2), (21, 2), (20, 2), (20, 2), (20, 2), (20, 2), (20, 40), (20, 40), (22, 40), (20, 40), (20, 160), (20, 40), (21, 40), (20, 160), (20, 20), (20, 20), (20, 20), (20, 20), (20, 20), (22, 20), (20, 20), (21, 20), (20, 20), (22, 20), (21, 8), (20, 32), (20, 32), (20, 32), (20, 3000), (20, 300), (21, 4), (21, 4), (20, 80), (20, 8), (20, 8), (20, 8), (20, 8), (20, 480), (20, 60)]
def N0 : Nat := 312
def kd (a : Nat) : Nat × Nat := kdL.getD a (99, 0)
def kw (Ω : Nat × Nat) (a : Nat) : Nat × Nat := if Ω.1 ≤ a ∧ a < Ω.2 then kd a else (99, 0)
def refL : List (List Nat) := [[], [3, 4, 5, 6], [1, 3, 4], [0, 1, 2, 3, 4, 5, 6, 7, 8, 9], [0, 1], [0, 1], [], [0, 1, 2, 3], [0, 1], [0, 1, 2, 3], [0], [0, 1, 2, 3], [4, 5, 6, 8, 10, 11, 12, 13, 14, 18, 19, 20, 21, 22, 23, 24, 25, 26, 27, 28, 29, 30, 31, 32, 33, 34, 35, 36, 37, 38, 39, 40, 41, 42, 43, 44, 45, 46, 47, 48, 49, 50, 52, 53, 56, 57, 58, 59, 60, 61, 62, 63, 64]]
def isR (ci k : Nat) : Bool := (refL.getD ci []).contains k
def rfMo : List Nat := [0, 0, 0, 0, 259, 260, 261, 0, 262, 0, 263, 264, 265, 266, 267, 0, 0, 0, 268, 269, 270, 271, 272, 273, 274, 275, 276, 277, 278, 279, 280, 281, 282, 283, 284, 285, 286, 287, 288, 289, 290, 291, 292, 293, 294, 295, 296, 297, 298, 299, 300, 0, 301, 302, 0, 0, 303, 304, 305, 306, 307, 308, 309, 310, 311]
/-- a machine at b: what its parts refer to -/
def rfMa (b o k : Nat) : Nat :=
  if o = 0 then ([1, b + 10, b + 1, b + 4, b + 14, b + 5, b + 6, b + 7, b + 8, b + 9].getD k 0)
  else if o = 1 then b + 2 + k
  else if o = 6 then b + 18 + 3 * k
  else if o = 7 then b + 78 + k
  else if o = 10 then (if k = 0 then 1 else b + 10 + k)
  else if o = 14 then (if k = 1 then b + 17 else if k = 3 then b + 15 else b + 16)
  else if o < 78 then b + o + 1 + k
  else 7 + 5 * (o - 78)
def rf (a k : Nat) : Nat :=
  if a = 0 then ([1, 57, 145, 233].getD k 0)
  else if a = 1 then k - 1
  else if a = 6 then 7 + 5 * k
  else if a < 57 then a + 1 + k
  else if a < 145 then rfMa 57 (a - 57) k
  else if a < 233 then rfMa 145 (a - 145) k
  else if a = 233 then 234 + 3 * k
  else if a < 258 then a + 1 + k
  else rfMo.getD k 0
def cv (B : Nat) : Value → Value
  | .ref a => .ref (B + a)
  | v => v
def fval (B : Nat) (σ : Mm) (a ci k : Nat) : Value := if isR ci k = true then .ref (B + rf a k) else .int (σ.1 a k)
def ent (B : Nat) (cA : Nat → ClassId) (σ : Mm) (a : Nat) : va_E :=
  if (kd a).1 < 20 then .inr ((kd a).1, (List.range (kd a).2).map (fval B σ a (kd a).1))
  else if (kd a).1 = 21 then .inl (cA 21, (kd a).2, .inr (.inl (σ.2 a)))
  else if (kd a).1 < 24 then .inl (cA (kd a).1, (kd a).2, .inl (σ.1 a))
  else .inl (cA (kd a).1, (kd a).2, .inr (.inr (.inr (.inr (fun i => some (B + rf a i))))))
def wld (Ω : Nat × Nat) (B : Nat) (cA : Nat → ClassId) (σ : Mm) : va_W := (List.range (Ω.2 - Ω.1)).map (fun i => (B + (Ω.1 + i), ent B cA σ (Ω.1 + i)))
def tysL (cA : Nat → ClassId) : List (ClassId × FieldType) := [(cA 20, .int), (cA 21, .long), (cA 22, .boolean), (cA 23, .byte), (cA 24, .object "FarCells$Page"), (cA 25, .object "FarCells$Script"), (cA 26, .object "FarCells$Shelf"), (cA 27, .object "FarCells$Worker")]
def wI (σ : Mm) (a j : Nat) (v : Int32) : Mm := (fun b => if b = a then upd (σ.1 a) j v else σ.1 b, σ.2)
def wL (σ : Mm) (a j : Nat) (v : Int64) : Mm := (σ.1, fun b => if b = a then vp_updL (σ.2 a) j v else σ.2 b)
theorem kw_in {Ω : Nat × Nat} {a : Nat} {q : Nat × Nat} (h : kw Ω a = q) (hq : q.1 ≠ 99) : Ω.1 ≤ a ∧ a < Ω.2 ∧ kd a = q := by
  unfold kw at h
  split at h
  · next hh => exact ⟨hh.1, hh.2, h⟩
  · exact absurd (by rw [← h]) hq
theorem wld_at {Ω : Nat × Nat} {B : Nat} {cA : Nat → ClassId} {σ : Mm} {a : Nat} (h1 : Ω.1 ≤ a) (h2 : a < Ω.2) : (wld Ω B cA σ)[a - Ω.1]? = some (B + a, ent B cA σ a) := by
  have h3 : a - Ω.1 < Ω.2 - Ω.1 := by omega
  have h4 : Ω.1 + (a - Ω.1) = a := by omega
  simp only [wld, List.getElem?_map, List.getElem?_range h3, Option.map_some, h4]
theorem wld_set {Ω : Nat × Nat} {B : Nat} {cA : Nat → ClassId} {σ σ' : Mm} {a : Nat} {e : va_E} (h1 : Ω.1 ≤ a) (h2 : a < Ω.2) (he : e = ent B cA σ' a) (ho : ∀ b, b ≠ a → ent B cA σ' b = ent B cA σ b) : (wld Ω B cA σ).set (a - Ω.1) (B + a, e) = wld Ω B cA σ' := by
  subst he
  apply List.ext_getElem?
  intro i
  rw [List.getElem?_set]
  by_cases hi : a - Ω.1 = i
  · subst hi
    have h3 : a - Ω.1 < (wld Ω B cA σ).length := by simp only [wld, List.length_map, List.length_range]; omega
    rw [if_pos rfl, if_pos h3, wld_at h1 h2]
  · rw [if_neg hi]
    by_cases hl : i < Ω.2 - Ω.1
    · simp only [wld, List.getElem?_map, List.getElem?_range hl, Option.map_some]
      rw [ho (Ω.1 + i) (by omega)]
    · have hl' : Ω.2 - Ω.1 ≤ i := by omega
      simp only [wld, List.getElem?_map, List.getElem?_eq_none (by simpa using hl' : (List.range (Ω.2 - Ω.1)).length ≤ i), Option.map_none]
theorem wld_D {Ω : Nat × Nat} {B : Nat} {cA : Nat → ClassId} {σ : Mm} : va_D (fun q => B ≤ q) (wld Ω B cA σ) := by
  refine ⟨fun i j p q hi hj he => ?_, fun k q hk => ?_⟩
  · simp only [wld, List.getElem?_map, Option.map_eq_some_iff] at hi hj
    obtain ⟨x, hx, rfl⟩ := hi
    obtain ⟨y, hy, rfl⟩ := hj
    have hi2 : x = i := by
      have := List.getElem?_eq_some_iff.mp hx
      obtain ⟨h1, h2⟩ := this
      simpa using h2.symm
    have hj2 : y = j := by
      have := List.getElem?_eq_some_iff.mp hy
      obtain ⟨h1, h2⟩ := this
      simpa using h2.symm
    subst hi2; subst hj2
    have : B + (Ω.1 + x) = B + (Ω.1 + y) := he
    omega
  · simp only [wld, List.getElem?_map, Option.map_eq_some_iff] at hk
    obtain ⟨x, hx, rfl⟩ := hk
    exact Nat.le_add_right _ _
theorem ent_obj {B : Nat} {cA : Nat → ClassId} {σ : Mm} {a ci n : Nat} (h : kd a = (ci, n)) (hc : ci < 20) : ent B cA σ a = .inr (ci, (List.range n).map (fval B σ a ci)) := by
  unfold ent; rw [h]; exact if_pos hc
theorem ent_long {B : Nat} {cA : Nat → ClassId} {σ : Mm} {a n : Nat} (h : kd a = (21, n)) : ent B cA σ a = .inl (cA 21, n, .inr (.inl (σ.2 a))) := by
  unfold ent; rw [h]; rfl
theorem ent_int {B : Nat} {cA : Nat → ClassId} {σ : Mm} {a c n : Nat} (h : kd a = (c, n)) (hc : c = 20 ∨ c = 22 ∨ c = 23) : ent B cA σ a = .inl (cA c, n, .inl (σ.1 a)) := by
  unfold ent; rw [h]
  rcases hc with rfl | rfl | rfl <;> rfl
theorem ent_ref {B : Nat} {cA : Nat → ClassId} {σ : Mm} {a c n : Nat} (h : kd a = (c, n)) (hc : 24 ≤ c) : ent B cA σ a = .inl (cA c, n, .inr (.inr (.inr (.inr (fun i => some (B + rf a i)))))) := by
  unfold ent; rw [h]
  have h1 : ¬ c < 20 := by omega
  have h2 : ¬ c = 21 := by omega
  have h3 : ¬ c < 24 := by omega
  simp only [h1, h2, h3, if_false]
theorem ent_wI {B : Nat} {cA : Nat → ClassId} {σ : Mm} {a j b : Nat} {v : Int32} (h : b ≠ a) : ent B cA (wI σ a j v) b = ent B cA σ b := by
  have h1 : (wI σ a j v).1 b = σ.1 b := if_neg h
  have h2 : (wI σ a j v).2 b = σ.2 b := rfl
  unfold ent
  rw [h1, h2]
  have h3 : fval B (wI σ a j v) b (kd b).1 = fval B σ b (kd b).1 := by
    funext k; unfold fval; rw [h1]
  rw [h3]
theorem ent_wL {B : Nat} {cA : Nat → ClassId} {σ : Mm} {a j b : Nat} {v : Int64} (h : b ≠ a) : ent B cA (wL σ a j v) b = ent B cA σ b := by
  have h1 : (wL σ a j v).2 b = σ.2 b := if_neg h
  have h2 : (wL σ a j v).1 b = σ.1 b := rfl
  unfold ent
  rw [h1, h2]
  have h3 : fval B (wL σ a j v) b (kd b).1 = fval B σ b (kd b).1 := by
    funext k; unfold fval; rw [h2]
  rw [h3]
theorem kd_small (a : Nat) : (kd a).2 ≤ 3300 := by
  by_cases h : a < 312
  · have : ∀ a, a < 312 → (kd a).2 ≤ 3300 := by decide +kernel
    exact this a h
  · unfold kd
    have hl : kdL.length ≤ a := by
      have : kdL.length = 312 := by decide +kernel
      omega
    rw [List.getD, List.getElem?_eq_none hl]
    decide
end
section
def nestL : List (String × Nat × MethodName × String) := [("FarCells", 26, ({ cls := "FarCells$Script", name := "<init>", desc := "()V" } : Jvm.MethodName), "FarCells"), ("FarCells$Machine", 11, ({ cls := "FarCells$Queues", name := "<init>", desc := "()V" } : Jvm.MethodName), "FarCells"), ("FarCells$Machine", 20, ({ cls := "FarCells$Rules", name := "<init>", desc := "()V" } : Jvm.MethodName), "FarCells"), ("FarCells$Machine", 27, ({ cls := "FarCells$Attempt", name := "<init>", desc := "()V" } : Jvm.MethodName), "FarCells"), ("FarCells$Machine", 77, ({ cls := "FarCells$Page", name := "<init>", desc := "()V" } : Jvm.MethodName), "FarCells"), ("FarCells", 45, ({ cls := "FarCells$Shelf", name := "<init>", desc := "()V" } : Jvm.MethodName), "FarCells"), ("FarCells$Board", 43, ({ cls := "FarCells", name := "within", desc := "(III)Z" } : Jvm.MethodName), "FarCells"), ("FarCells$Machine", 138, ({ cls := "FarCells", name := "within", desc := "(III)Z" } : Jvm.MethodName), "FarCells")]
/-! The judgement G: at pc, with locals ls, operand stack st and memory σ, the method comes to its end with K. -/
def lvR (B : Nat) (la : Array Slot) (n : Nat) (ls : List (Option Value)) : Prop := la.size = n ∧ lv_wf la ∧ ∀ (i : Nat) (v : Value), ls[i]? = some (some v) → la[i]? = some (.val (cv B v))
def NsK (U : State) : Prop := ∀ q ∈ nestL, va_Nw (.methodLinkNest q.1 q.2.1 q.2.2.1 q.2.2.2) U
theorem NsK.moved {s U : State} (hW : s.WarmedH U.vm) (h : NsK s) : NsK U := fun q hq => va_Nw.warmM hW (h q hq)
def KW (D : va_G) (cA : Nat → ClassId) (U : State) : Prop := va_K D vwCl (tysL cA) U ∧ NsK U
def Cx (M : MI) (D : va_G) (cA : Nat → ClassId) (p : Program) (s : State) (m : MethodId) (args : Array Value) (meth : Method) (c : Code) : Prop :=
  p.tables.exec = Jvm.exec ∧ c.code = ic M ∧ c.maxLocals = il M ∧ s.vm.findClass (iy M).cls = some m.cls ∧ meth.sig.returnType = ir M ∧ meth.locks = false ∧ (∀ w ∈ tbG, w.before args s = true) ∧ va_K D vwCl (tysL cA) s ∧ NsK s
def QK (Ω : Nat × Nat) (B : Nat) (D : va_G) (cA : Nat → ClassId) (K : Option Value → Mm → Prop) : Array Value → State → Outcome → State → Prop := fun _ st oc t =>
  (∃ (v : Option Value) (σ' : Mm), oc = .returned (v.map (cv B)) ∧ K v σ' ∧ va_P D vwCl (wld Ω B cA σ') t.heap) ∧ va_F (fun q => B ≤ q) st t
def G (Ω : Nat × Nat) (M : MI) (K : Option Value → Mm → Prop) (pc : Nat) (ls : List (Option Value)) (st : List Value) (σ : Mm) : Prop :=
  ∀ (B : Nat) (D : va_G) (cA : Nat → ClassId) (p : Program) (l : Launch) (e : Env) (s : State) (m : MethodId) (args : Array Value) (below : List Frame) (meth : Method) (c : Code) (H : Heap) (locs : List Loc) (la : Array Slot),
    Cx M D cA p s m args meth c → va_P D vwCl (wld Ω B cA σ) H → va_S (fun q => B ≤ q) s.heap H locs → lvR B la (il M) ls →
    W p l e (rmM M) s m args below meth c H locs 0 0 (MQ below (QK Ω B D cA K) args s 0 0 (fun q => B ≤ q)) (F0 m pc la (st.map (cv B)))
def MetM (Ω : Nat × Nat) (M : MI) (av : List Value) (σ : Mm) (K : Option Value → Mm → Prop) : Prop :=
  ∀ (l : Launch) (B : Nat) (D : va_G) (cA : Nat → ClassId), Met l (iy M) (wsM M) (rmM M) (va_Pc (av.map (cv B)) (fun U => va_P D vwCl (wld Ω B cA σ) U.heap ∧ KW D cA U)) (QK Ω B D cA K) 0 0 (fun q => B ≤ q)
theorem cv_cat (B : Nat) (v : Value) : (cv B v).category = v.category := by cases v <;> rfl
def so : Slot → Option Value
  | .val v => some v
  | _ => none
def cs (B : Nat) : Slot → Slot
  | .val v => .val (cv B v)
  | x => x
theorem sl_cv (B : Nat) (av : List Value) : lg_sl (av.map (cv B)) = (lg_sl av).map (cs B) := by
  induction av with
  | nil => rfl
  | cons v t ih =>
    unfold lg_sl at ih ⊢
    rw [List.map_cons, List.flatMap_cons, List.flatMap_cons, List.map_append, ih, cv_cat]
    split <;> rfl
def ls0 (av : List Value) (n : Nat) : List (Option Value) := (lg_sl av).map so ++ List.replicate (n - (lg_sl av).length) none
theorem lvR_entry {B : Nat} {av : List Value} {n : Nat} (h : (lg_sl av).length ≤ n) : lvR B ((lg_sl (av.map (cv B)) ++ List.replicate (n - (lg_sl (av.map (cv B))).length) Slot.unset).toArray) n (ls0 av n) := by
  have hlen : (lg_sl (av.map (cv B))).length = (lg_sl av).length := by rw [sl_cv, List.length_map]
  have h1 := lv_entry (av.map (cv B)) (n := n) (by rw [hlen]; exact h)
  refine ⟨h1.1, h1.2.1, fun i v hi => ?_⟩
  rw [hlen, sl_cv]
  unfold ls0 at hi
  rw [List.getElem?_append, List.length_map] at hi
  rw [List.getElem?_toArray, List.getElem?_append, List.length_map]
  split
  · next hlt =>
    rw [if_pos hlt, List.getElem?_map] at hi
    rw [List.getElem?_map]
    cases hq : (lg_sl av)[i]? with
    | none => rw [hq] at hi; cases hi
    | some x =>
      rw [hq] at hi
      cases x with
      | val u => cases hi; rfl
      | unset => cases hi
      | second => cases hi
  · next hlt =>
    rw [if_neg hlt, List.getElem?_replicate] at hi
    split at hi <;> cases hi
theorem G.met {Ω : Nat × Nat} {M : MI} {av : List Value} {σ : Mm} {K : Option Value → Mm → Prop} (hy : plainName (iy M).cls = true) (hlen : (lg_sl av).length ≤ il M) (h : G Ω M K 0 (ls0 av (il M)) [] σ) : MetM Ω M av σ K := by
  intro l B D cA
  refine Met.ofW (cc := ic M) (maxL := il M) (ret := ir M) hy rfl ?_
  intro p e s m args below meth c s₁ B0 hml hv
  obtain ⟨rfl, hP, hK, hNs⟩ := hv
  have hts := atoms_spec (ws := wsM M) B0.pre
  rw [lg_entry_eq]
  exact h B D cA p l e s m _ below meth c s.heap [] _ ⟨B0.exec, B0.bytes, hml, findClass_of_methodNamed B0.named, B0.returns, B0.notSynchronized, fun w hw => hts w (List.mem_cons_of_mem _ hw), hK, hNs⟩ hP va_S.rf (lvR_entry hlen)
-- ends
section
variable {Ω : Nat × Nat} {M : MI} {K : Option Value → Mm → Prop} {pc : Nat} {ls : List (Option Value)} {st : List Value} {σ : Mm}
theorem g_ireturn {v : Int32} (d : decode (ic M) pc = .ok (.ireturn, 1)) (hr : ir M = some .int) (k : K (some (.int v)) σ) : G Ω M K pc ls [.int v] σ := by
  intro B D cA p l e s m args below meth c H locs la C hP hS hl
  obtain ⟨hx, hb, hml, hown, hret, hlocks, hts, hK, hNs⟩ := C
  exact W.iret hx hb (hret.trans hr) (fun t ht hW => ⟨⟨some (.int v), σ, rfl, k, by rw [ht]; exact hP⟩, hS.F ht⟩) hS.2.2 d hlocks
theorem g_zreturn {v : Int32} (d : decode (ic M) pc = .ok (.ireturn, 1)) (hr : ir M = some .boolean) (hn : v = 0 ∨ v = 1) (k : K (some (.int v)) σ) : G Ω M K pc ls [.int v] σ := by
  intro B D cA p l e s m args below meth c H locs la C hP hS hl
  obtain ⟨hx, hb, hml, hown, hret, hlocks, hts, hK, hNs⟩ := C
  exact W.zret hx hb (hret.trans hr) (by rcases hn with rfl | rfl <;> decide) (fun t ht hW => ⟨⟨some (.int v), σ, rfl, k, by rw [ht]; exact hP⟩, hS.F ht⟩) hS.2.2 d hlocks
theorem g_lreturn {v : Int64} (d : decode (ic M) pc = .ok (.lreturn, 1)) (hr : ir M = some .long) (k : K (some (.long v)) σ) : G Ω M K pc ls [.long v] σ := by
  intro B D cA p l e s m args below meth c H locs la C hP hS hl
  obtain ⟨hx, hb, hml, hown, hret, hlocks, hts, hK, hNs⟩ := C
  exact W.lret hx hb (hret.trans hr) (fun t ht hW => ⟨⟨some (.long v), σ, rfl, k, by rw [ht]; exact hP⟩, hS.F ht⟩) hS.2.2 d hlocks
theorem g_return (d : decode (ic M) pc = .ok (.return_, 1)) (hr : ir M = none) (k : K none σ) : G Ω M K pc ls [] σ := by
  intro B D cA p l e s m args below meth c H locs la C hP hS hl
  obtain ⟨hx, hb, hml, hown, hret, hlocks, hts, hK, hNs⟩ := C
  exact W.vret hx hb (hret.trans hr) (fun t ht hW => ⟨⟨none, σ, rfl, k, by rw [ht]; exact hP⟩, hS.F ht⟩) hS.2.2 d hlocks
-- loads
theorem lvR.at' {B : Nat} {la : Array Slot} {n : Nat} (h : lvR B la n ls) {i : Nat} {v : Value} (hi : ls[i]? = some (some v)) : la[i]? = some (.val (cv B v)) := h.2.2 i v hi
theorem g_iconst {n : Int} {v : Int32} (d : decode (ic M) pc = .ok (.iconst n, 1)) (hv : Int32.ofInt n = v) (k : G Ω M K (pc + 1) ls (.int v :: st) σ) : G Ω M K pc ls (st) σ := by
  intro B D cA p l e s m args below meth c H locs la C hP hS hl
  obtain ⟨hx, hb, hml, hown, hret, hlocks, hts, hK, hNs⟩ := C
  exact lv_iconst hx hb d hv (k B D cA p l e s m args below meth c H locs la ⟨hx, hb, hml, hown, hret, hlocks, hts, hK, hNs⟩ hP hS hl)
theorem g_bipush {n : Int} {v : Int32} (d : decode (ic M) pc = .ok (.bipush n, 2)) (hv : (Int8.ofInt n).toInt32 = v) (k : G Ω M K (pc + 2) ls (.int v :: st) σ) : G Ω M K pc ls (st) σ := by
  intro B D cA p l e s m args below meth c H locs la C hP hS hl
  obtain ⟨hx, hb, hml, hown, hret, hlocks, hts, hK, hNs⟩ := C
  exact lv_bipush hx hb d hv (k B D cA p l e s m args below meth c H locs la ⟨hx, hb, hml, hown, hret, hlocks, hts, hK, hNs⟩ hP hS hl)
theorem g_sipush {n : Int} {v : Int32} (d : decode (ic M) pc = .ok (.sipush n, 3)) (hv : (Int16.ofInt n).toInt32 = v) (k : G Ω M K (pc + 3) ls (.int v :: st) σ) : G Ω M K pc ls (st) σ := by
  intro B D cA p l e s m args below meth c H locs la C hP hS hl
  obtain ⟨hx, hb, hml, hown, hret, hlocks, hts, hK, hNs⟩ := C
  exact lv_sipush hx hb d hv (k B D cA p l e s m args below meth c H locs la ⟨hx, hb, hml, hown, hret, hlocks, hts, hK, hNs⟩ hP hS hl)
theorem g_lconst {n : Fin 2} {v : Int64} (d : decode (ic M) pc = .ok (.lconst n, 1)) (hv : Int64.ofNat (n : Nat) = v) (k : G Ω M K (pc + 1) ls (.long v :: st) σ) : G Ω M K pc ls (st) σ := by
  intro B D cA p l e s m args below meth c H locs la C hP hS hl
  obtain ⟨hx, hb, hml, hown, hret, hlocks, hts, hK, hNs⟩ := C
  exact lv_lconst hx hb d hv (k B D cA p l e s m args below meth c H locs la ⟨hx, hb, hml, hown, hret, hlocks, hts, hK, hNs⟩ hP hS hl)
theorem g_iload_n {q : Fin 4} {x : Int32} (d : decode (ic M) pc = .ok (.iload_n q, 1)) (hl0 : ls[(q : Nat)]? = some (some (.int x))) (k : G Ω M K (pc + 1) ls (.int x :: st) σ) : G Ω M K pc ls (st) σ := by
  intro B D cA p l e s m args below meth c H locs la C hP hS hl
  obtain ⟨hx, hb, hml, hown, hret, hlocks, hts, hK, hNs⟩ := C
  exact lv_iload_n hx hb d rfl (hl.at' hl0) (k B D cA p l e s m args below meth c H locs la ⟨hx, hb, hml, hown, hret, hlocks, hts, hK, hNs⟩ hP hS hl)
theorem g_iload {i : Nat} {x : Int32} (d : decode (ic M) pc = .ok (.iload i, 2)) (hl0 : ls[i]? = some (some (.int x))) (k : G Ω M K (pc + 2) ls (.int x :: st) σ) : G Ω M K pc ls (st) σ := by
  intro B D cA p l e s m args below meth c H locs la C hP hS hl
  obtain ⟨hx, hb, hml, hown, hret, hlocks, hts, hK, hNs⟩ := C
  exact lv_iload hx hb d (hl.at' hl0) (k B D cA p l e s m args below meth c H locs la ⟨hx, hb, hml, hown, hret, hlocks, hts, hK, hNs⟩ hP hS hl)
theorem g_lload_n {q : Fin 4} {x : Int64} (d : decode (ic M) pc = .ok (.lload_n q, 1)) (hl0 : ls[(q : Nat)]? = some (some (.long x))) (k : G Ω M K (pc + 1) ls (.long x :: st) σ) : G Ω M K pc ls (st) σ := by
  intro B D cA p l e s m args below meth c H locs la C hP hS hl
  obtain ⟨hx, hb, hml, hown, hret, hlocks, hts, hK, hNs⟩ := C
  exact lv_lload_n hx hb d rfl (hl.at' hl0) (k B D cA p l e s m args below meth c H locs la ⟨hx, hb, hml, hown, hret, hlocks, hts, hK, hNs⟩ hP hS hl)
theorem g_lload {i : Nat} {x : Int64} (d : decode (ic M) pc = .ok (.lload i, 2)) (hl0 : ls[i]? = some (some (.long x))) (k : G Ω M K (pc + 2) ls (.long x :: st) σ) : G Ω M K pc ls (st) σ := by
  intro B D cA p l e s m args below meth c H locs la C hP hS hl
  obtain ⟨hx, hb, hml, hown, hret, hlocks, hts, hK, hNs⟩ := C
  exact lv_lload hx hb d (hl.at' hl0) (k B D cA p l e s m args below meth c H locs la ⟨hx, hb, hml, hown, hret, hlocks, hts, hK, hNs⟩ hP hS hl)
theorem g_aload_n {q : Fin 4} {x : Nat} (d : decode (ic M) pc = .ok (.aload_n q, 1)) (hl0 : ls[(q : Nat)]? = some (some (.ref x))) (k : G Ω M K (pc + 1) ls (.ref x :: st) σ) : G Ω M K pc ls (st) σ := by
  intro B D cA p l e s m args below meth c H locs la C hP hS hl
  obtain ⟨hx, hb, hml, hown, hret, hlocks, hts, hK, hNs⟩ := C
  exact lv_aload_n hx hb d rfl (hl.at' hl0) (k B D cA p l e s m args below meth c H locs la ⟨hx, hb, hml, hown, hret, hlocks, hts, hK, hNs⟩ hP hS hl)
theorem g_aload {i : Nat} {x : Nat} (d : decode (ic M) pc = .ok (.aload i, 2)) (hl0 : ls[i]? = some (some (.ref x))) (k : G Ω M K (pc + 2) ls (.ref x :: st) σ) : G Ω M K pc ls (st) σ := by
  intro B D cA p l e s m args below meth c H locs la C hP hS hl
  obtain ⟨hx, hb, hml, hown, hret, hlocks, hts, hK, hNs⟩ := C
  exact lv_aload hx hb d (hl.at' hl0) (k B D cA p l e s m args below meth c H locs la ⟨hx, hb, hml, hown, hret, hlocks, hts, hK, hNs⟩ hP hS hl)
def lvA (B : Nat) (ls : List (Option Value)) : List (Nat × Value) := (List.range ls.length).filterMap (fun i => match ls[i]? with
  | some (some v) => some (i, cv B v)
  | _ => none)
theorem lvA_mem {B : Nat} {i : Nat} {v : Value} (h : ls[i]? = some (some v)) : (i, cv B v) ∈ lvA B ls := by
  refine List.mem_filterMap.mpr ⟨i, List.mem_range.mpr (List.getElem?_eq_some_iff.mp h).1, ?_⟩
  rw [h]
theorem lvA_has {B : Nat} {la : Array Slot} {n : Nat} (h : lvR B la n ls) : lv_has la n (lvA B ls) := by
  refine ⟨h.1, h.2.1, fun q hq => ?_⟩
  obtain ⟨i, -, hi⟩ := List.mem_filterMap.mp hq
  split at hi
  · next v hv => cases hi; exact h.2.2 i v hv
  · cases hi
/-- nothing of category 2 ends at place i -/
def nl2 (ls : List (Option Value)) (i : Nat) : Bool := match i with
  | 0 => true
  | j + 1 => match ls[j]? with
    | some (some (.long _)) => false
    | some (some (.double _)) => false
    | _ => true
theorem nl2_spec {j : Nat} {v : Value} (h : nl2 ls (j + 1) = true) (hv : ls[j]? = some (some v)) : v.category ≠ 2 := by
  intro hc
  simp only [nl2] at h
  rw [hv] at h
  cases v <;> simp [Value.category] at hc <;> cases h
theorem lvR_st1 {B : Nat} {la : Array Slot} {n i : Nat} {x : Value} (h : nl2 ls i = true) (hl : i < ls.length) (hs : lv_has la n ((i, cv B x) :: (lvA B ls).filter (fun q => !(q.1 == i) && !(q.1 + 1 == i && q.2.category == 2)))) : lvR B la n (ls.set i (some x)) := by
  refine ⟨hs.1, hs.2.1, fun j v hj => ?_⟩
  rw [List.getElem?_set] at hj
  split at hj
  · next hij =>
    subst hij
    (try rw [if_pos hl] at hj)
    cases hj
    exact hs.2.2 _ List.mem_cons_self
  · next hij =>
    refine hs.2.2 (j, cv B v) (List.mem_cons_of_mem _ (List.mem_filter.mpr ⟨lvA_mem hj, ?_⟩))
    have h1 : (j == i) = false := by simpa using fun q => hij q.symm
    rw [h1]
    by_cases h2 : j + 1 = i
    · subst h2
      have h3 := nl2_spec h hj
      simp [cv_cat, h3]
    · have h4 : (j + 1 == i) = false := by simpa using h2
      rw [h4]; rfl
theorem lvR_st2 {B : Nat} {la : Array Slot} {n i : Nat} {x : Value} (h : nl2 ls i = true) (hl : i < ls.length) (hs : lv_has la n ((i, cv B x) :: (lvA B ls).filter (fun q => !(q.1 == i) && (!(q.1 == i + 1) && !(q.1 + 1 == i && q.2.category == 2))))) : lvR B la n ((ls.set i (some x)).set (i + 1) none) := by
  refine ⟨hs.1, hs.2.1, fun j v hj => ?_⟩
  rw [List.getElem?_set] at hj
  split at hj
  · split at hj <;> cases hj
  · next hij1 =>
    rw [List.getElem?_set] at hj
    split at hj
    · next hij =>
      subst hij
      (try rw [if_pos hl] at hj)
      cases hj
      exact hs.2.2 _ List.mem_cons_self
    · next hij =>
      refine hs.2.2 (j, cv B v) (List.mem_cons_of_mem _ (List.mem_filter.mpr ⟨lvA_mem hj, ?_⟩))
      have h1 : (j == i) = false := by simpa using fun q => hij q.symm
      have h5 : (j == i + 1) = false := by simpa using fun q => hij1 q.symm
      rw [h1, h5]
      by_cases h2 : j + 1 = i
      · subst h2
        have h3 := nl2_spec h hj
        simp [cv_cat, h3]
      · have h4 : (j + 1 == i) = false := by simpa using h2
        rw [h4]; rfl
theorem g_istore_n {q : Fin 4} {x : Int32} (d : decode (ic M) pc = .ok (.istore_n q, 1)) (hn : (q : Nat) < il M) (hc : nl2 ls (q : Nat) = true) (hle : (q : Nat) < ls.length) (k : G Ω M K (pc + 1) (ls.set (q : Nat) (some (.int x))) st σ) : G Ω M K pc ls (.int x :: st) σ := by
  intro B D cA p l e s m args below meth c H locs la C hP hS hl
  obtain ⟨hx, hb, hml, hown, hret, hlocks, hts, hK, hNs⟩ := C
  exact lv_istore_n hx hb d rfl (lvA_has hl) hn rfl (fun la2 hl2 => k B D cA p l e s m args below meth c H locs la2 ⟨hx, hb, hml, hown, hret, hlocks, hts, hK, hNs⟩ hP hS (lvR_st1 (x := .int x) hc hle hl2))
theorem g_istore {i : Nat} {x : Int32} (d : decode (ic M) pc = .ok (.istore i, 2)) (hn : i < il M) (hc : nl2 ls i = true) (hle : i < ls.length) (k : G Ω M K (pc + 2) (ls.set i (some (.int x))) st σ) : G Ω M K pc ls (.int x :: st) σ := by
  intro B D cA p l e s m args below meth c H locs la C hP hS hl
  obtain ⟨hx, hb, hml, hown, hret, hlocks, hts, hK, hNs⟩ := C
  exact lv_istore hx hb d (lvA_has hl) hn rfl (fun la2 hl2 => k B D cA p l e s m args below meth c H locs la2 ⟨hx, hb, hml, hown, hret, hlocks, hts, hK, hNs⟩ hP hS (lvR_st1 (x := .int x) hc hle hl2))
theorem g_astore_n {q : Fin 4} {x : Nat} (d : decode (ic M) pc = .ok (.astore_n q, 1)) (hn : (q : Nat) < il M) (hc : nl2 ls (q : Nat) = true) (hle : (q : Nat) < ls.length) (k : G Ω M K (pc + 1) (ls.set (q : Nat) (some (.ref x))) st σ) : G Ω M K pc ls (.ref x :: st) σ := by
  intro B D cA p l e s m args below meth c H locs la C hP hS hl
  obtain ⟨hx, hb, hml, hown, hret, hlocks, hts, hK, hNs⟩ := C
  exact lv_astore_n hx hb d rfl (lvA_has hl) hn rfl (fun la2 hl2 => k B D cA p l e s m args below meth c H locs la2 ⟨hx, hb, hml, hown, hret, hlocks, hts, hK, hNs⟩ hP hS (lvR_st1 (x := .ref x) hc hle hl2))
theorem g_astore {i : Nat} {x : Nat} (d : decode (ic M) pc = .ok (.astore i, 2)) (hn : i < il M) (hc : nl2 ls i = true) (hle : i < ls.length) (k : G Ω M K (pc + 2) (ls.set i (some (.ref x))) st σ) : G Ω M K pc ls (.ref x :: st) σ := by
  intro B D cA p l e s m args below meth c H locs la C hP hS hl
  obtain ⟨hx, hb, hml, hown, hret, hlocks, hts, hK, hNs⟩ := C
  exact lv_astore hx hb d (lvA_has hl) hn rfl (fun la2 hl2 => k B D cA p l e s m args below meth c H locs la2 ⟨hx, hb, hml, hown, hret, hlocks, hts, hK, hNs⟩ hP hS (lvR_st1 (x := .ref x) hc hle hl2))
theorem g_lstore_n {q : Fin 4} {x : Int64} (d : decode (ic M) pc = .ok (.lstore_n q, 1)) (hn : (q : Nat) + 1 < il M) (hc : nl2 ls (q : Nat) = true) (hle : (q : Nat) < ls.length) (k : G Ω M K (pc + 1) ((ls.set (q : Nat) (some (.long x))).set ((q : Nat) + 1) none) st σ) : G Ω M K pc ls (.long x :: st) σ := by
  intro B D cA p l e s m args below meth c H locs la C hP hS hl
  obtain ⟨hx, hb, hml, hown, hret, hlocks, hts, hK, hNs⟩ := C
  exact lv_lstore_n hx hb d rfl (lvA_has hl) hn rfl (fun la2 hl2 => k B D cA p l e s m args below meth c H locs la2 ⟨hx, hb, hml, hown, hret, hlocks, hts, hK, hNs⟩ hP hS (lvR_st2 (x := .long x) hc hle hl2))
theorem g_lstore {i : Nat} {x : Int64} (d : decode (ic M) pc = .ok (.lstore i, 2)) (hn : i + 1 < il M) (hc : nl2 ls i = true) (hle : i < ls.length) (k : G Ω M K (pc + 2) ((ls.set i (some (.long x))).set (i + 1) none) st σ) : G Ω M K pc ls (.long x :: st) σ := by
  intro B D cA p l e s m args below meth c H locs la C hP hS hl
  obtain ⟨hx, hb, hml, hown, hret, hlocks, hts, hK, hNs⟩ := C
  exact lv_lstore hx hb d (lvA_has hl) hn rfl (fun la2 hl2 => k B D cA p l e s m args below meth c H locs la2 ⟨hx, hb, hml, hown, hret, hlocks, hts, hK, hNs⟩ hP hS (lvR_st2 (x := .long x) hc hle hl2))
theorem g_iinc {i : Nat} {n : Int} {x v : Int32} (d : decode (ic M) pc = .ok (.iinc i n, 3)) (hl0 : ls[i]? = some (some (.int x))) (hv : x + Int32.ofInt n = v) (hn : i < il M) (hc : nl2 ls i = true) (k : G Ω M K (pc + 3) (ls.set i (some (.int v))) st σ) : G Ω M K pc ls st σ := by
  intro B D cA p l e s m args below meth c H locs la C hP hS hl
  obtain ⟨hx, hb, hml, hown, hret, hlocks, hts, hK, hNs⟩ := C
  obtain ⟨j, hj⟩ := List.getElem?_of_mem (lvA_mem (B := B) hl0)
  exact lv_iinc hx hb d (lvA_has hl) hj hv hn rfl (fun la2 hl2 => k B D cA p l e s m args below meth c H locs la2 ⟨hx, hb, hml, hown, hret, hlocks, hts, hK, hNs⟩ hP hS (lvR_st1 (x := .int v) hc (List.getElem?_eq_some_iff.mp hl0).1 hl2))
theorem g_iadd {x y v : Int32} (d : decode (ic M) pc = .ok (.iadd, 1)) (hv : x + y = v) (k : G Ω M K (pc + 1) ls (.int v :: st) σ) : G Ω M K pc ls (.int y :: .int x :: st) σ := by
  subst hv
  intro B D cA p l e s m args below meth c H locs la C hP hS hl
  obtain ⟨hx, hb, hml, hown, hret, hlocks, hts, hK, hNs⟩ := C
  exact lv_iadd hx hb d (k B D cA p l e s m args below meth c H locs la ⟨hx, hb, hml, hown, hret, hlocks, hts, hK, hNs⟩ hP hS hl)
theorem g_isub {x y v : Int32} (d : decode (ic M) pc = .ok (.isub, 1)) (hv : x - y = v) (k : G Ω M K (pc + 1) ls (.int v :: st) σ) : G Ω M K pc ls (.int y :: .int x :: st) σ := by
  subst hv
  intro B D cA p l e s m args below meth c H locs la C hP hS hl
  obtain ⟨hx, hb, hml, hown, hret, hlocks, hts, hK, hNs⟩ := C
  exact lv_isub hx hb d (k B D cA p l e s m args below meth c H locs la ⟨hx, hb, hml, hown, hret, hlocks, hts, hK, hNs⟩ hP hS hl)
theorem g_imul {x y v : Int32} (d : decode (ic M) pc = .ok (.imul, 1)) (hv : x * y = v) (k : G Ω M K (pc + 1) ls (.int v :: st) σ) : G Ω M K pc ls (.int y :: .int x :: st) σ := by
  subst hv
  intro B D cA p l e s m args below meth c H locs la C hP hS hl
  obtain ⟨hx, hb, hml, hown, hret, hlocks, hts, hK, hNs⟩ := C
  exact lv_imul hx hb d (k B D cA p l e s m args below meth c H locs la ⟨hx, hb, hml, hown, hret, hlocks, hts, hK, hNs⟩ hP hS hl)
theorem g_iand {x y v : Int32} (d : decode (ic M) pc = .ok (.iand, 1)) (hv : x &&& y = v) (k : G Ω M K (pc + 1) ls (.int v :: st) σ) : G Ω M K pc ls (.int y :: .int x :: st) σ := by
  subst hv
  intro B D cA p l e s m args below meth c H locs la C hP hS hl
  obtain ⟨hx, hb, hml, hown, hret, hlocks, hts, hK, hNs⟩ := C
  exact lv_iand hx hb d (k B D cA p l e s m args below meth c H locs la ⟨hx, hb, hml, hown, hret, hlocks, hts, hK, hNs⟩ hP hS hl)
theorem g_ior {x y v : Int32} (d : decode (ic M) pc = .ok (.ior, 1)) (hv : x ||| y = v) (k : G Ω M K (pc + 1) ls (.int v :: st) σ) : G Ω M K pc ls (.int y :: .int x :: st) σ := by
  subst hv
  intro B D cA p l e s m args below meth c H locs la C hP hS hl
  obtain ⟨hx, hb, hml, hown, hret, hlocks, hts, hK, hNs⟩ := C
  exact lv_ior hx hb d (k B D cA p l e s m args below meth c H locs la ⟨hx, hb, hml, hown, hret, hlocks, hts, hK, hNs⟩ hP hS hl)
theorem g_ixor {x y v : Int32} (d : decode (ic M) pc = .ok (.ixor, 1)) (hv : x ^^^ y = v) (k : G Ω M K (pc + 1) ls (.int v :: st) σ) : G Ω M K pc ls (.int y :: .int x :: st) σ := by
  subst hv
  intro B D cA p l e s m args below meth c H locs la C hP hS hl
  obtain ⟨hx, hb, hml, hown, hret, hlocks, hts, hK, hNs⟩ := C
  exact lv_ixor hx hb d (k B D cA p l e s m args below meth c H locs la ⟨hx, hb, hml, hown, hret, hlocks, hts, hK, hNs⟩ hP hS hl)
theorem g_ishl {x y v : Int32} (d : decode (ic M) pc = .ok (.ishl, 1)) (hv : x <<< (y &&& 31) = v) (k : G Ω M K (pc + 1) ls (.int v :: st) σ) : G Ω M K pc ls (.int y :: .int x :: st) σ := by
  subst hv
  intro B D cA p l e s m args below meth c H locs la C hP hS hl
  obtain ⟨hx, hb, hml, hown, hret, hlocks, hts, hK, hNs⟩ := C
  exact lv_ishl hx hb d (k B D cA p l e s m args below meth c H locs la ⟨hx, hb, hml, hown, hret, hlocks, hts, hK, hNs⟩ hP hS hl)
theorem g_ishr {x y v : Int32} (d : decode (ic M) pc = .ok (.ishr, 1)) (hv : x >>> (y &&& 31) = v) (k : G Ω M K (pc + 1) ls (.int v :: st) σ) : G Ω M K pc ls (.int y :: .int x :: st) σ := by
  subst hv
  intro B D cA p l e s m args below meth c H locs la C hP hS hl
  obtain ⟨hx, hb, hml, hown, hret, hlocks, hts, hK, hNs⟩ := C
  exact lv_ishr hx hb d (k B D cA p l e s m args below meth c H locs la ⟨hx, hb, hml, hown, hret, hlocks, hts, hK, hNs⟩ hP hS hl)
theorem g_idiv {x y v : Int32} (d : decode (ic M) pc = .ok (.idiv, 1)) (hy : ¬ y = 0) (hv : x / y = v) (k : G Ω M K (pc + 1) ls (.int v :: st) σ) : G Ω M K pc ls (.int y :: .int x :: st) σ := by
  subst hv
  intro B D cA p l e s m args below meth c H locs la C hP hS hl
  obtain ⟨hx, hb, hml, hown, hret, hlocks, hts, hK, hNs⟩ := C
  exact lv_idiv hx hb d hy (k B D cA p l e s m args below meth c H locs la ⟨hx, hb, hml, hown, hret, hlocks, hts, hK, hNs⟩ hP hS hl)
theorem g_irem {x y v : Int32} (d : decode (ic M) pc = .ok (.irem, 1)) (hy : ¬ y = 0) (hv : x - x / y * y = v) (k : G Ω M K (pc + 1) ls (.int v :: st) σ) : G Ω M K pc ls (.int y :: .int x :: st) σ := by
  subst hv
  intro B D cA p l e s m args below meth c H locs la C hP hS hl
  obtain ⟨hx, hb, hml, hown, hret, hlocks, hts, hK, hNs⟩ := C
  exact lv_irem hx hb d hy (k B D cA p l e s m args below meth c H locs la ⟨hx, hb, hml, hown, hret, hlocks, hts, hK, hNs⟩ hP hS hl)
theorem g_iushr {x y v : Int32} (d : decode (ic M) pc = .ok (.iushr, 1)) (hv : (x.toUInt32 >>> (y.toUInt32 &&& Int32.toUInt32 31)).toInt32 = v) (k : G Ω M K (pc + 1) ls (.int v :: st) σ) : G Ω M K pc ls (.int y :: .int x :: st) σ := by
  intro B D cA p l e s m args below meth c H locs la C hP hS hl
  obtain ⟨hx, hb, hml, hown, hret, hlocks, hts, hK, hNs⟩ := C
  exact lv_iushr hx hb d hv (k B D cA p l e s m args below meth c H locs la ⟨hx, hb, hml, hown, hret, hlocks, hts, hK, hNs⟩ hP hS hl)
theorem g_ladd {x y v : Int64} (d : decode (ic M) pc = .ok (.ladd, 1)) (hv : x + y = v) (k : G Ω M K (pc + 1) ls (.long v :: st) σ) : G Ω M K pc ls (.long y :: .long x :: st) σ := by
  subst hv
  intro B D cA p l e s m args below meth c H locs la C hP hS hl
  obtain ⟨hx, hb, hml, hown, hret, hlocks, hts, hK, hNs⟩ := C
  exact lv_ladd hx hb d (k B D cA p l e s m args below meth c H locs la ⟨hx, hb, hml, hown, hret, hlocks, hts, hK, hNs⟩ hP hS hl)
theorem g_lmul {x y v : Int64} (d : decode (ic M) pc = .ok (.lmul, 1)) (hv : x * y = v) (k : G Ω M K (pc + 1) ls (.long v :: st) σ) : G Ω M K pc ls (.long y :: .long x :: st) σ := by
  subst hv
  intro B D cA p l e s m args below meth c H locs la C hP hS hl
  obtain ⟨hx, hb, hml, hown, hret, hlocks, hts, hK, hNs⟩ := C
  exact lv_lmul hx hb d (k B D cA p l e s m args below meth c H locs la ⟨hx, hb, hml, hown, hret, hlocks, hts, hK, hNs⟩ hP hS hl)
theorem g_lcmp {x y : Int64} {v : Int32} (d : decode (ic M) pc = .ok (.lcmp, 1)) (hv : lg_cmp x y = v) (k : G Ω M K (pc + 1) ls (.int v :: st) σ) : G Ω M K pc ls (.long y :: .long x :: st) σ := by
  subst hv
  intro B D cA p l e s m args below meth c H locs la C hP hS hl
  obtain ⟨hx, hb, hml, hown, hret, hlocks, hts, hK, hNs⟩ := C
  exact W.lcmp hx hb d (k B D cA p l e s m args below meth c H locs la ⟨hx, hb, hml, hown, hret, hlocks, hts, hK, hNs⟩ hP hS hl)
theorem g_i2l {x : Int32} {v : Int64} (d : decode (ic M) pc = .ok (.i2l, 1)) (hv : x.toInt64 = v) (k : G Ω M K (pc + 1) ls (.long v :: st) σ) : G Ω M K pc ls (.int x :: st) σ := by
  intro B D cA p l e s m args below meth c H locs la C hP hS hl
  obtain ⟨hx, hb, hml, hown, hret, hlocks, hts, hK, hNs⟩ := C
  exact lv_i2l hx hb d hv (k B D cA p l e s m args below meth c H locs la ⟨hx, hb, hml, hown, hret, hlocks, hts, hK, hNs⟩ hP hS hl)
theorem g_l2i {x : Int64} {v : Int32} (d : decode (ic M) pc = .ok (.l2i, 1)) (hv : x.toInt32 = v) (k : G Ω M K (pc + 1) ls (.int v :: st) σ) : G Ω M K pc ls (.long x :: st) σ := by
  intro B D cA p l e s m args below meth c H locs la C hP hS hl
  obtain ⟨hx, hb, hml, hown, hret, hlocks, hts, hK, hNs⟩ := C
  exact lv_l2i hx hb d hv (k B D cA p l e s m args below meth c H locs la ⟨hx, hb, hml, hown, hret, hlocks, hts, hK, hNs⟩ hP hS hl)
theorem g_i2b {x : Int32} {v : Int32} (d : decode (ic M) pc = .ok (.i2b, 1)) (hv : x.toInt8.toInt32 = v) (k : G Ω M K (pc + 1) ls (.int v :: st) σ) : G Ω M K pc ls (.int x :: st) σ := by
  intro B D cA p l e s m args below meth c H locs la C hP hS hl
  obtain ⟨hx, hb, hml, hown, hret, hlocks, hts, hK, hNs⟩ := C
  exact lv_i2b hx hb d hv (k B D cA p l e s m args below meth c H locs la ⟨hx, hb, hml, hown, hret, hlocks, hts, hK, hNs⟩ hP hS hl)
theorem g_dup {x : Value} (d : decode (ic M) pc = .ok (.dup, 1)) (hx1 : x.category = 1) (k : G Ω M K (pc + 1) ls (x :: x :: st) σ) : G Ω M K pc ls (x :: st) σ := by
  intro B D cA p l e s m args below meth c H locs la C hP hS hl
  obtain ⟨hx, hb, hml, hown, hret, hlocks, hts, hK, hNs⟩ := C
  exact lv_dup hx hb d (by rw [cv_cat]; exact hx1) (k B D cA p l e s m args below meth c H locs la ⟨hx, hb, hml, hown, hret, hlocks, hts, hK, hNs⟩ hP hS hl)
theorem g_pop {x : Value} (d : decode (ic M) pc = .ok (.pop, 1)) (hx1 : x.category = 1) (k : G Ω M K (pc + 1) ls st σ) : G Ω M K pc ls (x :: st) σ := by
  intro B D cA p l e s m args below meth c H locs la C hP hS hl
  obtain ⟨hx, hb, hml, hown, hret, hlocks, hts, hK, hNs⟩ := C
  exact lv_pop hx hb d (by rw [cv_cat]; exact hx1) (k B D cA p l e s m args below meth c H locs la ⟨hx, hb, hml, hown, hret, hlocks, hts, hK, hNs⟩ hP hS hl)
theorem g_dup2 {x y : Value} (d : decode (ic M) pc = .ok (.dup2, 1)) (hx1 : x.category = 1) (hy1 : y.category = 1) (k : G Ω M K (pc + 1) ls (x :: y :: x :: y :: st) σ) : G Ω M K pc ls (x :: y :: st) σ := by
  intro B D cA p l e s m args below meth c H locs la C hP hS hl
  obtain ⟨hx, hb, hml, hown, hret, hlocks, hts, hK, hNs⟩ := C
  exact lv_dup2_11 hx hb d (by rw [cv_cat]; exact hx1) (by rw [cv_cat]; exact hy1) (k B D cA p l e s m args below meth c H locs la ⟨hx, hb, hml, hown, hret, hlocks, hts, hK, hNs⟩ hP hS hl)
theorem g_if_eq {x : Int32} {off : Int} {tgt : Nat} (d : decode (ic M) pc = .ok (.ifCond .eq off, 3)) (ht : (pc : Int) + off = (tgt : Int)) (kt : x = 0 → G Ω M K tgt ls st σ) (kf : ¬ (x = 0) → G Ω M K (pc + 3) ls st σ) : G Ω M K pc ls (.int x :: st) σ := by
  intro B D cA p l e s m args below meth c H locs la C hP hS hl
  obtain ⟨hx, hb, hml, hown, hret, hlocks, hts, hK, hNs⟩ := C
  exact lv_if_eq hx hb d ht (fun h => kt h B D cA p l e s m args below meth c H locs la ⟨hx, hb, hml, hown, hret, hlocks, hts, hK, hNs⟩ hP hS hl) (fun h => kf h B D cA p l e s m args below meth c H locs la ⟨hx, hb, hml, hown, hret, hlocks, hts, hK, hNs⟩ hP hS hl)
theorem g_icmp_eq {x y : Int32} {off : Int} {tgt : Nat} (d : decode (ic M) pc = .ok (.if_icmp .eq off, 3)) (ht : (pc : Int) + off = (tgt : Int)) (kt : x = y → G Ω M K tgt ls st σ) (kf : ¬ (x = y) → G Ω M K (pc + 3) ls st σ) : G Ω M K pc ls (.int y :: .int x :: st) σ := by
  intro B D cA p l e s m args below meth c H locs la C hP hS hl
  obtain ⟨hx, hb, hml, hown, hret, hlocks, hts, hK, hNs⟩ := C
  exact lv_icmp_eq hx hb d ht (fun h => kt h B D cA p l e s m args below meth c H locs la ⟨hx, hb, hml, hown, hret, hlocks, hts, hK, hNs⟩ hP hS hl) (fun h => kf h B D cA p l e s m args below meth c H locs la ⟨hx, hb, hml, hown, hret, hlocks, hts, hK, hNs⟩ hP hS hl)
theorem g_if_ne {x : Int32} {off : Int} {tgt : Nat} (d : decode (ic M) pc = .ok (.ifCond .ne off, 3)) (ht : (pc : Int) + off = (tgt : Int)) (kt : ¬ x = 0 → G Ω M K tgt ls st σ) (kf : x = 0 → G Ω M K (pc + 3) ls st σ) : G Ω M K pc ls (.int x :: st) σ := by
  intro B D cA p l e s m args below meth c H locs la C hP hS hl
  obtain ⟨hx, hb, hml, hown, hret, hlocks, hts, hK, hNs⟩ := C
  exact lv_if_ne hx hb d ht (fun h => kt h B D cA p l e s m args below meth c H locs la ⟨hx, hb, hml, hown, hret, hlocks, hts, hK, hNs⟩ hP hS hl) (fun h => kf h B D cA p l e s m args below meth c H locs la ⟨hx, hb, hml, hown, hret, hlocks, hts, hK, hNs⟩ hP hS hl)
theorem g_icmp_ne {x y : Int32} {off : Int} {tgt : Nat} (d : decode (ic M) pc = .ok (.if_icmp .ne off, 3)) (ht : (pc : Int) + off = (tgt : Int)) (kt : ¬ x = y → G Ω M K tgt ls st σ) (kf : x = y → G Ω M K (pc + 3) ls st σ) : G Ω M K pc ls (.int y :: .int x :: st) σ := by
  intro B D cA p l e s m args below meth c H locs la C hP hS hl
  obtain ⟨hx, hb, hml, hown, hret, hlocks, hts, hK, hNs⟩ := C
  exact lv_icmp_ne hx hb d ht (fun h => kt h B D cA p l e s m args below meth c H locs la ⟨hx, hb, hml, hown, hret, hlocks, hts, hK, hNs⟩ hP hS hl) (fun h => kf h B D cA p l e s m args below meth c H locs la ⟨hx, hb, hml, hown, hret, hlocks, hts, hK, hNs⟩ hP hS hl)
theorem g_if_lt {x : Int32} {off : Int} {tgt : Nat} (d : decode (ic M) pc = .ok (.ifCond .lt off, 3)) (ht : (pc : Int) + off = (tgt : Int)) (kt : x < 0 → G Ω M K tgt ls st σ) (kf : ¬ (x < 0) → G Ω M K (pc + 3) ls st σ) : G Ω M K pc ls (.int x :: st) σ := by
  intro B D cA p l e s m args below meth c H locs la C hP hS hl
  obtain ⟨hx, hb, hml, hown, hret, hlocks, hts, hK, hNs⟩ := C
  exact lv_if_lt hx hb d ht (fun h => kt h B D cA p l e s m args below meth c H locs la ⟨hx, hb, hml, hown, hret, hlocks, hts, hK, hNs⟩ hP hS hl) (fun h => kf h B D cA p l e s m args below meth c H locs la ⟨hx, hb, hml, hown, hret, hlocks, hts, hK, hNs⟩ hP hS hl)
theorem g_icmp_lt {x y : Int32} {off : Int} {tgt : Nat} (d : decode (ic M) pc = .ok (.if_icmp .lt off, 3)) (ht : (pc : Int) + off = (tgt : Int)) (kt : x < y → G Ω M K tgt ls st σ) (kf : ¬ (x < y) → G Ω M K (pc + 3) ls st σ) : G Ω M K pc ls (.int y :: .int x :: st) σ := by
  intro B D cA p l e s m args below meth c H locs la C hP hS hl
  obtain ⟨hx, hb, hml, hown, hret, hlocks, hts, hK, hNs⟩ := C
  exact lv_icmp_lt hx hb d ht (fun h => kt h B D cA p l e s m args below meth c H locs la ⟨hx, hb, hml, hown, hret, hlocks, hts, hK, hNs⟩ hP hS hl) (fun h => kf h B D cA p l e s m args below meth c H locs la ⟨hx, hb, hml, hown, hret, hlocks, hts, hK, hNs⟩ hP hS hl)
theorem g_if_ge {x : Int32} {off : Int} {tgt : Nat} (d : decode (ic M) pc = .ok (.ifCond .ge off, 3)) (ht : (pc : Int) + off = (tgt : Int)) (kt : 0 ≤ x → G Ω M K tgt ls st σ) (kf : ¬ (0 ≤ x) → G Ω M K (pc + 3) ls st σ) : G Ω M K pc ls (.int x :: st) σ := by
  intro B D cA p l e s m args below meth c H locs la C hP hS hl
  obtain ⟨hx, hb, hml, hown, hret, hlocks, hts, hK, hNs⟩ := C
  exact lv_if_ge hx hb d ht (fun h => kt h B D cA p l e s m args below meth c H locs la ⟨hx, hb, hml, hown, hret, hlocks, hts, hK, hNs⟩ hP hS hl) (fun h => kf h B D cA p l e s m args below meth c H locs la ⟨hx, hb, hml, hown, hret, hlocks, hts, hK, hNs⟩ hP hS hl)
theorem g_icmp_ge {x y : Int32} {off : Int} {tgt : Nat} (d : decode (ic M) pc = .ok (.if_icmp .ge off, 3)) (ht : (pc : Int) + off = (tgt : Int)) (kt : y ≤ x → G Ω M K tgt ls st σ) (kf : ¬ (y ≤ x) → G Ω M K (pc + 3) ls st σ) : G Ω M K pc ls (.int y :: .int x :: st) σ := by
  intro B D cA p l e s m args below meth c H locs la C hP hS hl
  obtain ⟨hx, hb, hml, hown, hret, hlocks, hts, hK, hNs⟩ := C
  exact lv_icmp_ge hx hb d ht (fun h => kt h B D cA p l e s m args below meth c H locs la ⟨hx, hb, hml, hown, hret, hlocks, hts, hK, hNs⟩ hP hS hl) (fun h => kf h B D cA p l e s m args below meth c H locs la ⟨hx, hb, hml, hown, hret, hlocks, hts, hK, hNs⟩ hP hS hl)
theorem g_if_gt {x : Int32} {off : Int} {tgt : Nat} (d : decode (ic M) pc = .ok (.ifCond .gt off, 3)) (ht : (pc : Int) + off = (tgt : Int)) (kt : 0 < x → G Ω M K tgt ls st σ) (kf : ¬ (0 < x) → G Ω M K (pc + 3) ls st σ) : G Ω M K pc ls (.int x :: st) σ := by
  intro B D cA p l e s m args below meth c H locs la C hP hS hl
  obtain ⟨hx, hb, hml, hown, hret, hlocks, hts, hK, hNs⟩ := C
  exact lv_if_gt hx hb d ht (fun h => kt h B D cA p l e s m args below meth c H locs la ⟨hx, hb, hml, hown, hret, hlocks, hts, hK, hNs⟩ hP hS hl) (fun h => kf h B D cA p l e s m args below meth c H locs la ⟨hx, hb, hml, hown, hret, hlocks, hts, hK, hNs⟩ hP hS hl)
theorem g_icmp_gt {x y : Int32} {off : Int} {tgt : Nat} (d : decode (ic M) pc = .ok (.if_icmp .gt off, 3)) (ht : (pc : Int) + off = (tgt : Int)) (kt : y < x → G Ω M K tgt ls st σ) (kf : ¬ (y < x) → G Ω M K (pc + 3) ls st σ) : G Ω M K pc ls (.int y :: .int x :: st) σ := by
  intro B D cA p l e s m args below meth c H locs la C hP hS hl
  obtain ⟨hx, hb, hml, hown, hret, hlocks, hts, hK, hNs⟩ := C
  exact lv_icmp_gt hx hb d ht (fun h => kt h B D cA p l e s m args below meth c H locs la ⟨hx, hb, hml, hown, hret, hlocks, hts, hK, hNs⟩ hP hS hl) (fun h => kf h B D cA p l e s m args below meth c H locs la ⟨hx, hb, hml, hown, hret, hlocks, hts, hK, hNs⟩ hP hS hl)
theorem g_if_le {x : Int32} {off : Int} {tgt : Nat} (d : decode (ic M) pc = .ok (.ifCond .le off, 3)) (ht : (pc : Int) + off = (tgt : Int)) (kt : x ≤ 0 → G Ω M K tgt ls st σ) (kf : ¬ (x ≤ 0) → G Ω M K (pc + 3) ls st σ) : G Ω M K pc ls (.int x :: st) σ := by
  intro B D cA p l e s m args below meth c H locs la C hP hS hl
  obtain ⟨hx, hb, hml, hown, hret, hlocks, hts, hK, hNs⟩ := C
  exact lv_if_le hx hb d ht (fun h => kt h B D cA p l e s m args below meth c H locs la ⟨hx, hb, hml, hown, hret, hlocks, hts, hK, hNs⟩ hP hS hl) (fun h => kf h B D cA p l e s m args below meth c H locs la ⟨hx, hb, hml, hown, hret, hlocks, hts, hK, hNs⟩ hP hS hl)
theorem g_icmp_le {x y : Int32} {off : Int} {tgt : Nat} (d : decode (ic M) pc = .ok (.if_icmp .le off, 3)) (ht : (pc : Int) + off = (tgt : Int)) (kt : x ≤ y → G Ω M K tgt ls st σ) (kf : ¬ (x ≤ y) → G Ω M K (pc + 3) ls st σ) : G Ω M K pc ls (.int y :: .int x :: st) σ := by
  intro B D cA p l e s m args below meth c H locs la C hP hS hl
  obtain ⟨hx, hb, hml, hown, hret, hlocks, hts, hK, hNs⟩ := C
  exact lv_icmp_le hx hb d ht (fun h => kt h B D cA p l e s m args below meth c H locs la ⟨hx, hb, hml, hown, hret, hlocks, hts, hK, hNs⟩ hP hS hl) (fun h => kf h B D cA p l e s m args below meth c H locs la ⟨hx, hb, hml, hown, hret, hlocks, hts, hK, hNs⟩ hP hS hl)
theorem g_goto {off : Int} {tgt : Nat} (d : decode (ic M) pc = .ok (.goto off, 3)) (ht : (pc : Int) + off = (tgt : Int)) (k : G Ω M K tgt ls st σ) : G Ω M K pc ls st σ := by
  intro B D cA p l e s m args below meth c H locs la C hP hS hl
  obtain ⟨hx, hb, hml, hown, hret, hlocks, hts, hK, hNs⟩ := C
  exact lv_goto hx hb d ht (k B D cA p l e s m args below meth c H locs la ⟨hx, hb, hml, hown, hret, hlocks, hts, hK, hNs⟩ hP hS hl)
theorem g_tableOut {dflt lo hi : Int} {offs : Array Int} {len : Nat} {x : Int32} {tgt : Nat} (d : decode (ic M) pc = .ok (.tableswitch dflt lo hi offs, len)) (h : x.toInt < lo ∨ hi < x.toInt) (ht : (pc : Int) + dflt = (tgt : Int)) (k : G Ω M K tgt ls st σ) : G Ω M K pc ls (.int x :: st) σ := by
  intro B D cA p l e s m args below meth c H locs la C hP hS hl
  obtain ⟨hx, hb, hml, hown, hret, hlocks, hts, hK, hNs⟩ := C
  exact lv_tableOut hx hb d h ht (k B D cA p l e s m args below meth c H locs la ⟨hx, hb, hml, hown, hret, hlocks, hts, hK, hNs⟩ hP hS hl)
theorem g_tableIn {dflt lo hi : Int} {offs : Array Int} {len : Nat} {x : Int32} {off : Int} {tgt : Nat} (d : decode (ic M) pc = .ok (.tableswitch dflt lo hi offs, len)) (h1 : ¬ x.toInt < lo) (h2 : ¬ hi < x.toInt) (ho : offs[(x.toInt - lo).toNat]? = some off) (ht : (pc : Int) + off = (tgt : Int)) (k : G Ω M K tgt ls st σ) : G Ω M K pc ls (.int x :: st) σ := by
  intro B D cA p l e s m args below meth c H locs la C hP hS hl
  obtain ⟨hx, hb, hml, hown, hret, hlocks, hts, hK, hNs⟩ := C
  exact lv_tableIn hx hb d h1 h2 ho ht (k B D cA p l e s m args below meth c H locs la ⟨hx, hb, hml, hown, hret, hlocks, hts, hK, hNs⟩ hP hS hl)
theorem g_lookup {dflt : Int} {ps : Array (Int × Int)} {len : Nat} {x : Int32} {off : Int} {tgt : Nat} (d : decode (ic M) pc = .ok (.lookupswitch dflt ps, len)) (hp : (ps.toList.zip (ps.toList.drop 1)).all (fun (a, next) => a.1 < next.1) = true) (ho : Op.lookupswitch.offset ps.toList dflt x.toInt = off) (ht : (pc : Int) + off = (tgt : Int)) (k : G Ω M K tgt ls st σ) : G Ω M K pc ls (.int x :: st) σ := by
  intro B D cA p l e s m args below meth c H locs la C hP hS hl
  obtain ⟨hx, hb, hml, hown, hret, hlocks, hts, hK, hNs⟩ := C
  exact lv_lookup hx hb d hp ho ht (k B D cA p l e s m args below meth c H locs la ⟨hx, hb, hml, hown, hret, hlocks, hts, hK, hNs⟩ hP hS hl)
theorem g_ldc {index : Nat} {v : Int32} (d : decode (ic M) pc = .ok (.ldc index, 2)) (hc : Cond.constant (iy M).cls index v ∈ tbG) (k : G Ω M K (pc + 2) ls (.int v :: st) σ) : G Ω M K pc ls st σ := by
  intro B D cA p l e s m args below meth c H locs la C hP hS hl
  obtain ⟨hx, hb, hml, hown, hret, hlocks, hts, hK, hNs⟩ := C
  exact lv_ldc hx hb hown (hts _ hc) d (k B D cA p l e s m args below meth c H locs la ⟨hx, hb, hml, hown, hret, hlocks, hts, hK, hNs⟩ hP hS hl)
theorem g_ldc_w {index : Nat} {v : Int32} (d : decode (ic M) pc = .ok (.ldc_w index, 3)) (hc : Cond.constant (iy M).cls index v ∈ tbG) (k : G Ω M K (pc + 3) ls (.int v :: st) σ) : G Ω M K pc ls st σ := by
  intro B D cA p l e s m args below meth c H locs la C hP hS hl
  obtain ⟨hx, hb, hml, hown, hret, hlocks, hts, hK, hNs⟩ := C
  exact lv_ldcw hx hb hown (hts _ hc) d (k B D cA p l e s m args below meth c H locs la ⟨hx, hb, hml, hown, hret, hlocks, hts, hK, hNs⟩ hP hS hl)
theorem g_ldc2 {index : Nat} {v : Int64} (d : decode (ic M) pc = .ok (.ldc2_w index, 3)) (hc : Cond.constantLong (iy M).cls index v ∈ tbG) (k : G Ω M K (pc + 3) ls (.long v :: st) σ) : G Ω M K pc ls st σ := by
  intro B D cA p l e s m args below meth c H locs la C hP hS hl
  obtain ⟨hx, hb, hml, hown, hret, hlocks, hts, hK, hNs⟩ := C
  exact lv_ldc2 hx hb hown (hts _ hc) d (k B D cA p l e s m args below meth c H locs la ⟨hx, hb, hml, hown, hret, hlocks, hts, hK, hNs⟩ hP hS hl)
end
end
section
/-! Rows over the heap: fields, arrays, calls. -/
def FL (own : String) (idx ci k : Nat) : Prop := ∃ (C : String) (T : u_T) (N : Nat), vwCl[ci]? = some (C, T, N) ∧ k < N ∧ (∀ w ∈ u_ws C T N, w ∈ tbG) ∧ Cond.fieldLink own idx (T k).1 (T k).2.1 (T k).2.2.1 ∈ tbG
def FP (own : String) (idx ci k : Nat) (ty : FieldType) : Prop := ∃ (C : String) (T : u_T) (N : Nat) (ty0 : Nat → FieldType), vwCl[ci]? = some (C, T, N) ∧ k < N ∧ (∀ w ∈ u_ws C T N, w ∈ tbG) ∧ Cond.fieldLink own idx (T k).1 (T k).2.1 (T k).2.2.1 ∈ tbG ∧ (∀ k, k < N → parseFieldDescriptor (T k).2.2.1 = some (ty0 k)) ∧ (∀ a, a < N → ∀ b, b < N → a ≠ b → (T a).2.1 ≠ (T b).2.1) ∧ (T k).2.2.2 = false ∧ parseFieldDescriptor (T k).2.2.1 = some ty
section
variable {Ω : Nat × Nat} {M : MI} {K : Option Value → Mm → Prop} {pc : Nat} {ls : List (Option Value)} {st : List Value} {σ : Mm}
theorem fval_at {B a ci n k : Nat} (hk : k < n) : ((List.range n).map (fval B σ a ci))[k]? = some (fval B σ a ci k) := by
  rw [List.getElem?_map, List.getElem?_range hk]; rfl
theorem g_getI {idx a ci n k : Nat} {v : Int32} (d : decode (ic M) pc = .ok (.getfield idx, 3)) (f : FL (iy M).cls idx ci k) (ha : kw Ω a = (ci, n)) (hq : ci < 20 ∧ k < n ∧ isR ci k = false) (hv : σ.1 a k = v) (k0 : G Ω M K (pc + 3) ls (.int v :: st) σ) : G Ω M K pc ls (.ref a :: st) σ := by
  subst hv
  intro B D cA p l e s m args below meth c H locs la C hP hS hl
  obtain ⟨hx, hb, hml, hown, hret, hlocks, hts, hK, hNs⟩ := C
  obtain ⟨C, T, N, hc, hN, hin, hlk⟩ := f
  obtain ⟨h1, h2, h3⟩ := kw_in ha (by show ci ≠ 99; omega)
  refine va_get (fs := (List.range n).map (fval B σ a ci)) hx hb hts hin hown hK hP (a - Ω.1) (by rw [wld_at h1 h2, ent_obj h3 hq.1]) hc k hN (hts _ hlk) (fun _ h9 => h9) (v := .int (σ.1 a k)) (by rw [fval_at hq.2.1]; unfold fval; rw [hq.2.2]; rfl) d ?_
  exact k0 B D cA p l e s m args below meth c H locs la ⟨hx, hb, hml, hown, hret, hlocks, hts, hK, hNs⟩ hP hS hl
theorem g_getR {idx a ci n k r : Nat} (d : decode (ic M) pc = .ok (.getfield idx, 3)) (f : FL (iy M).cls idx ci k) (ha : kw Ω a = (ci, n)) (hq : ci < 20 ∧ k < n ∧ isR ci k = true) (hv : rf a k = r) (k0 : G Ω M K (pc + 3) ls (.ref r :: st) σ) : G Ω M K pc ls (.ref a :: st) σ := by
  subst hv
  intro B D cA p l e s m args below meth c H locs la C hP hS hl
  obtain ⟨hx, hb, hml, hown, hret, hlocks, hts, hK, hNs⟩ := C
  obtain ⟨C, T, N, hc, hN, hin, hlk⟩ := f
  obtain ⟨h1, h2, h3⟩ := kw_in ha (by show ci ≠ 99; omega)
  refine va_get (fs := (List.range n).map (fval B σ a ci)) hx hb hts hin hown hK hP (a - Ω.1) (by rw [wld_at h1 h2, ent_obj h3 hq.1]) hc k hN (hts _ hlk) (fun _ h9 => h9) (v := .ref (B + rf a k)) (by rw [fval_at hq.2.1]; unfold fval; rw [hq.2.2]; rfl) d ?_
  exact k0 B D cA p l e s m args below meth c H locs la ⟨hx, hb, hml, hown, hret, hlocks, hts, hK, hNs⟩ hP hS hl
theorem fval_set {B a ci n k : Nat} {x : Int32} (hr : isR ci k = false) : ((List.range n).map (fval B σ a ci)).set k (.int x) = (List.range n).map (fval B (wI σ a k x) a ci) := by
  apply List.ext_getElem?
  intro i
  rw [List.getElem?_set, List.length_map, List.length_range]
  by_cases hi : k = i
  · subst hi
    rw [if_pos rfl]
    by_cases hk : k < n
    · rw [if_pos hk, fval_at hk]
      unfold fval wI
      rw [hr]
      simp [upd]
    · rw [if_neg hk, List.getElem?_eq_none (by simpa using hk)]
  · rw [if_neg hi]
    by_cases hk : i < n
    · rw [fval_at hk, fval_at hk]
      have hi2 : ¬ i = k := fun h => hi h.symm
      unfold fval wI
      simp [upd, hi2]
    · rw [List.getElem?_eq_none (by simpa using hk), List.getElem?_eq_none (by simpa using hk)]
theorem g_putI {idx a ci n k : Nat} {x : Int32} {ty : FieldType} (d : decode (ic M) pc = .ok (.putfield idx, 3)) (f : FP (iy M).cls idx ci k ty) (ha : kw Ω a = (ci, n)) (hq : ci < 20 ∧ k < n ∧ isR ci k = false) (hty : ty = .int ∨ (ty = .boolean ∧ (x = 0 ∨ x = 1))) (k0 : G Ω M K (pc + 3) ls st (wI σ a k x)) : G Ω M K pc ls (.int x :: .ref a :: st) σ := by
  intro B D cA p l e s m args below meth c H locs la C hP hS hl
  obtain ⟨hx, hb, hml, hown, hret, hlocks, hts, hK, hNs⟩ := C
  obtain ⟨C, T, N, ty0, hc, hN, hin, hlk, hty0, hnm, hfin, hpd⟩ := f
  obtain ⟨h1, h2, h3⟩ := kw_in ha (by show ci ≠ 99; omega)
  have hnar : narrow ty (.int x) = .int x := by rcases hty with rfl | ⟨rfl, rfl | rfl⟩ <;> first | rfl | decide
  have hfit : fits ty (.int x) = true := by rcases hty with rfl | ⟨rfl, rfl | rfl⟩ <;> first | rfl | decide
  refine va_put (fs := (List.range n).map (fval B σ a ci)) hx hb hts hin ty0 hty0 hnm hown hK hP wld_D hS (a - Ω.1) (by rw [wld_at h1 h2, ent_obj h3 hq.1]) hc k hN (hts _ hlk) (fun _ h9 => h9) hfin hpd (v := .int x) hnar hfit (by simpa using hq.2.1) d (fun H1 locs1 hP1 hD1 hS1 => ?_)
  rw [wld_set (σ' := wI σ a k x) h1 h2 (by rw [ent_obj h3 hq.1, ← fval_set hq.2.2]) (fun b hb2 => ent_wI hb2)] at hP1
  exact k0 B D cA p l e s m args below meth c H1 locs1 la ⟨hx, hb, hml, hown, hret, hlocks, hts, hK, hNs⟩ hP1 hS1 hl
theorem ix_in {a c n j : Nat} (ha : kd a = (c, n)) (hj : j < n) : vp_in (nI j) n ∧ (nI j).toNatClampNeg = j := by
  have h := kd_small a
  rw [ha] at h
  exact ⟨vp_in_nI hj (by show n < 2 ^ 31; have : n ≤ 3300 := h; omega), nI_clamp (by have : n ≤ 3300 := h; omega)⟩
theorem g_iald {a n j : Nat} {v : Int32} (d : decode (ic M) pc = .ok (.iaload, 1)) (ha : kw Ω a = (20, n)) (hj : j < n) (hv : σ.1 a j = v) (k : G Ω M K (pc + 1) ls (.int v :: st) σ) : G Ω M K pc ls (.int (nI j) :: .ref a :: st) σ := by
  subst hv
  intro B D cA p l e s m args below meth c H locs la C hP hS hl
  obtain ⟨hx, hb, hml, hown, hret, hlocks, hts, hK, hNs⟩ := C
  obtain ⟨h1, h2, h3⟩ := kw_in ha (by simp)
  obtain ⟨e1, e2⟩ := ix_in h3 hj
  refine va_iald hx hb hK hP (a - Ω.1) 0 (by rw [wld_at h1 h2, ent_int h3 (by decide)]) rfl e1 d ?_
  rw [e2]
  exact (k B D cA p l e s m args below meth c H locs la ⟨hx, hb, hml, hown, hret, hlocks, hts, hK, hNs⟩ hP hS hl)
theorem g_zald {a n j : Nat} {v : Int32} (d : decode (ic M) pc = .ok (.baload, 1)) (ha : kw Ω a = (22, n)) (hj : j < n) (hv : σ.1 a j = v) (k : G Ω M K (pc + 1) ls (.int v :: st) σ) : G Ω M K pc ls (.int (nI j) :: .ref a :: st) σ := by
  subst hv
  intro B D cA p l e s m args below meth c H locs la C hP hS hl
  obtain ⟨hx, hb, hml, hown, hret, hlocks, hts, hK, hNs⟩ := C
  obtain ⟨h1, h2, h3⟩ := kw_in ha (by simp)
  obtain ⟨e1, e2⟩ := ix_in h3 hj
  refine va_zald hx hb hK hP (a - Ω.1) 2 (by rw [wld_at h1 h2, ent_int h3 (by decide)]) rfl e1 d ?_
  rw [e2]
  exact (k B D cA p l e s m args below meth c H locs la ⟨hx, hb, hml, hown, hret, hlocks, hts, hK, hNs⟩ hP hS hl)
theorem g_bald {a n j : Nat} {v : Int32} (d : decode (ic M) pc = .ok (.baload, 1)) (ha : kw Ω a = (23, n)) (hj : j < n) (hv : σ.1 a j = v) (k : G Ω M K (pc + 1) ls (.int v :: st) σ) : G Ω M K pc ls (.int (nI j) :: .ref a :: st) σ := by
  subst hv
  intro B D cA p l e s m args below meth c H locs la C hP hS hl
  obtain ⟨hx, hb, hml, hown, hret, hlocks, hts, hK, hNs⟩ := C
  obtain ⟨h1, h2, h3⟩ := kw_in ha (by simp)
  obtain ⟨e1, e2⟩ := ix_in h3 hj
  refine va_bald hx hb hK hP (a - Ω.1) 3 (by rw [wld_at h1 h2, ent_int h3 (by decide)]) rfl e1 d ?_
  rw [e2]
  exact (k B D cA p l e s m args below meth c H locs la ⟨hx, hb, hml, hown, hret, hlocks, hts, hK, hNs⟩ hP hS hl)
theorem g_lald {a n j : Nat} {v : Int64} (d : decode (ic M) pc = .ok (.laload, 1)) (ha : kw Ω a = (21, n)) (hj : j < n) (hv : σ.2 a j = v) (k : G Ω M K (pc + 1) ls (.long v :: st) σ) : G Ω M K pc ls (.int (nI j) :: .ref a :: st) σ := by
  subst hv
  intro B D cA p l e s m args below meth c H locs la C hP hS hl
  obtain ⟨hx, hb, hml, hown, hret, hlocks, hts, hK, hNs⟩ := C
  obtain ⟨h1, h2, h3⟩ := kw_in ha (by simp)
  obtain ⟨e1, e2⟩ := ix_in h3 hj
  refine va_lald hx hb hK hP (a - Ω.1) 1 (by rw [wld_at h1 h2, ent_long h3]) rfl e1 d ?_
  rw [e2]
  exact (k B D cA p l e s m args below meth c H locs la ⟨hx, hb, hml, hown, hret, hlocks, hts, hK, hNs⟩ hP hS hl)
theorem g_aald24 {a n j r : Nat} (d : decode (ic M) pc = .ok (.aaload, 1)) (ha : kw Ω a = (24, n)) (hj : j < n) (hv : rf a j = r) (k : G Ω M K (pc + 1) ls (.ref r :: st) σ) : G Ω M K pc ls (.int (nI j) :: .ref a :: st) σ := by
  subst hv
  intro B D cA p l e s m args below meth c H locs la C hP hS hl
  obtain ⟨hx, hb, hml, hown, hret, hlocks, hts, hK, hNs⟩ := C
  obtain ⟨h1, h2, h3⟩ := kw_in ha (by simp)
  obtain ⟨e1, e2⟩ := ix_in h3 hj
  refine va_aldq (C := "FarCells$Page") hx hb hK hP (a - Ω.1) 4 (by rw [wld_at h1 h2, ent_ref h3 (by decide)]) rfl e1 d ?_
  rw [e2]
  exact (k B D cA p l e s m args below meth c H locs la ⟨hx, hb, hml, hown, hret, hlocks, hts, hK, hNs⟩ hP hS hl)
theorem g_aald25 {a n j r : Nat} (d : decode (ic M) pc = .ok (.aaload, 1)) (ha : kw Ω a = (25, n)) (hj : j < n) (hv : rf a j = r) (k : G Ω M K (pc + 1) ls (.ref r :: st) σ) : G Ω M K pc ls (.int (nI j) :: .ref a :: st) σ := by
  subst hv
  intro B D cA p l e s m args below meth c H locs la C hP hS hl
  obtain ⟨hx, hb, hml, hown, hret, hlocks, hts, hK, hNs⟩ := C
  obtain ⟨h1, h2, h3⟩ := kw_in ha (by simp)
  obtain ⟨e1, e2⟩ := ix_in h3 hj
  refine va_aldq (C := "FarCells$Script") hx hb hK hP (a - Ω.1) 5 (by rw [wld_at h1 h2, ent_ref h3 (by decide)]) rfl e1 d ?_
  rw [e2]
  exact (k B D cA p l e s m args below meth c H locs la ⟨hx, hb, hml, hown, hret, hlocks, hts, hK, hNs⟩ hP hS hl)
theorem g_aald26 {a n j r : Nat} (d : decode (ic M) pc = .ok (.aaload, 1)) (ha : kw Ω a = (26, n)) (hj : j < n) (hv : rf a j = r) (k : G Ω M K (pc + 1) ls (.ref r :: st) σ) : G Ω M K pc ls (.int (nI j) :: .ref a :: st) σ := by
  subst hv
  intro B D cA p l e s m args below meth c H locs la C hP hS hl
  obtain ⟨hx, hb, hml, hown, hret, hlocks, hts, hK, hNs⟩ := C
  obtain ⟨h1, h2, h3⟩ := kw_in ha (by simp)
  obtain ⟨e1, e2⟩ := ix_in h3 hj
  refine va_aldq (C := "FarCells$Shelf") hx hb hK hP (a - Ω.1) 6 (by rw [wld_at h1 h2, ent_ref h3 (by decide)]) rfl e1 d ?_
  rw [e2]
  exact (k B D cA p l e s m args below meth c H locs la ⟨hx, hb, hml, hown, hret, hlocks, hts, hK, hNs⟩ hP hS hl)
theorem g_aald27 {a n j r : Nat} (d : decode (ic M) pc = .ok (.aaload, 1)) (ha : kw Ω a = (27, n)) (hj : j < n) (hv : rf a j = r) (k : G Ω M K (pc + 1) ls (.ref r :: st) σ) : G Ω M K pc ls (.int (nI j) :: .ref a :: st) σ := by
  subst hv
  intro B D cA p l e s m args below meth c H locs la C hP hS hl
  obtain ⟨hx, hb, hml, hown, hret, hlocks, hts, hK, hNs⟩ := C
  obtain ⟨h1, h2, h3⟩ := kw_in ha (by simp)
  obtain ⟨e1, e2⟩ := ix_in h3 hj
  refine va_aldq (C := "FarCells$Worker") hx hb hK hP (a - Ω.1) 7 (by rw [wld_at h1 h2, ent_ref h3 (by decide)]) rfl e1 d ?_
  rw [e2]
  exact (k B D cA p l e s m args below meth c H locs la ⟨hx, hb, hml, hown, hret, hlocks, hts, hK, hNs⟩ hP hS hl)
theorem g_iast {a n j : Nat} {x : Int32} (d : decode (ic M) pc = .ok (.iastore, 1)) (ha : kw Ω a = (20, n)) (hj : j < n) (k : G Ω M K (pc + 1) ls st (wI σ a j x)) : G Ω M K pc ls (.int x :: .int (nI j) :: .ref a :: st) σ := by
  intro B D cA p l e s m args below meth c H locs la C hP hS hl
  obtain ⟨hx, hb, hml, hown, hret, hlocks, hts, hK, hNs⟩ := C
  obtain ⟨h1, h2, h3⟩ := kw_in ha (by simp)
  obtain ⟨e1, e2⟩ := ix_in h3 hj
  refine va_iast hx hb hK hP wld_D hS (a - Ω.1) 0 (by rw [wld_at h1 h2, ent_int h3 (by decide)]) rfl e1 d (fun H1 locs1 hP1 hD1 hS1 => ?_)
  rw [e2, wld_set (σ' := wI σ a j x) h1 h2 (by rw [ent_int h3 (by decide)]; simp only [wI, if_true]) (fun b hb2 => ent_wI hb2)] at hP1
  exact k B D cA p l e s m args below meth c H1 locs1 la ⟨hx, hb, hml, hown, hret, hlocks, hts, hK, hNs⟩ hP1 hS1 hl
theorem g_zast {a n j : Nat} {x : Int32} (d : decode (ic M) pc = .ok (.bastore, 1)) (ha : kw Ω a = (22, n)) (hj : j < n) (hx1 : x = 0 ∨ x = 1) (k : G Ω M K (pc + 1) ls st (wI σ a j x)) : G Ω M K pc ls (.int x :: .int (nI j) :: .ref a :: st) σ := by
  intro B D cA p l e s m args below meth c H locs la C hP hS hl
  obtain ⟨hx, hb, hml, hown, hret, hlocks, hts, hK, hNs⟩ := C
  obtain ⟨h1, h2, h3⟩ := kw_in ha (by simp)
  obtain ⟨e1, e2⟩ := ix_in h3 hj
  refine va_zast hx hb hK hP wld_D hS (a - Ω.1) 2 (by rw [wld_at h1 h2, ent_int h3 (by decide)]) rfl e1 d (fun H1 locs1 hP1 hD1 hS1 => ?_)
  rw [e2, show vp_nar .boolean x = x by rcases hx1 with rfl | rfl <;> decide, wld_set (σ' := wI σ a j x) h1 h2 (by rw [ent_int h3 (by decide)]; simp only [wI, if_true]) (fun b hb2 => ent_wI hb2)] at hP1
  exact k B D cA p l e s m args below meth c H1 locs1 la ⟨hx, hb, hml, hown, hret, hlocks, hts, hK, hNs⟩ hP1 hS1 hl
theorem g_bast {a n j : Nat} {x : Int32} (d : decode (ic M) pc = .ok (.bastore, 1)) (ha : kw Ω a = (23, n)) (hj : j < n) (hx1 : vp_nar .byte x = x) (k : G Ω M K (pc + 1) ls st (wI σ a j x)) : G Ω M K pc ls (.int x :: .int (nI j) :: .ref a :: st) σ := by
  intro B D cA p l e s m args below meth c H locs la C hP hS hl
  obtain ⟨hx, hb, hml, hown, hret, hlocks, hts, hK, hNs⟩ := C
  obtain ⟨h1, h2, h3⟩ := kw_in ha (by simp)
  obtain ⟨e1, e2⟩ := ix_in h3 hj
  refine va_bast hx hb hK hP wld_D hS (a - Ω.1) 3 (by rw [wld_at h1 h2, ent_int h3 (by decide)]) rfl e1 d (fun H1 locs1 hP1 hD1 hS1 => ?_)
  rw [e2, hx1, wld_set (σ' := wI σ a j x) h1 h2 (by rw [ent_int h3 (by decide)]; simp only [wI, if_true]) (fun b hb2 => ent_wI hb2)] at hP1
  exact k B D cA p l e s m args below meth c H1 locs1 la ⟨hx, hb, hml, hown, hret, hlocks, hts, hK, hNs⟩ hP1 hS1 hl
theorem g_last {a n j : Nat} {x : Int64} (d : decode (ic M) pc = .ok (.lastore, 1)) (ha : kw Ω a = (21, n)) (hj : j < n) (k : G Ω M K (pc + 1) ls st (wL σ a j x)) : G Ω M K pc ls (.long x :: .int (nI j) :: .ref a :: st) σ := by
  intro B D cA p l e s m args below meth c H locs la C hP hS hl
  obtain ⟨hx, hb, hml, hown, hret, hlocks, hts, hK, hNs⟩ := C
  obtain ⟨h1, h2, h3⟩ := kw_in ha (by simp)
  obtain ⟨e1, e2⟩ := ix_in h3 hj
  refine va_last hx hb hK hP wld_D hS (a - Ω.1) 1 (by rw [wld_at h1 h2, ent_long h3]) rfl e1 d (fun H1 locs1 hP1 hD1 hS1 => ?_)
  rw [e2, wld_set (σ' := wL σ a j x) h1 h2 (by rw [ent_long h3]; simp only [wL, if_true]) (fun b hb2 => ent_wL hb2)] at hP1
  exact k B D cA p l e s m args below meth c H1 locs1 la ⟨hx, hb, hml, hown, hret, hlocks, hts, hK, hNs⟩ hP1 hS1 hl
theorem g_alenI {a n : Nat} {v : Int32} (d : decode (ic M) pc = .ok (.arraylength, 1)) (ha : kw Ω a = (20, n)) (hv : nI n = v) (k : G Ω M K (pc + 1) ls (.int v :: st) σ) : G Ω M K pc ls (.ref a :: st) σ := by
  intro B D cA p l e s m args below meth c H locs la C hP hS hl
  obtain ⟨hx, hb, hml, hown, hret, hlocks, hts, hK, hNs⟩ := C
  obtain ⟨h1, h2, h3⟩ := kw_in ha (by simp)
  exact va_alen (x := (n, .inl (σ.1 a))) (ty := .int) hx hb hK hP (a - Ω.1) 0 (by rw [wld_at h1 h2, ent_int h3 (by decide)]) rfl hv d (k B D cA p l e s m args below meth c H locs la ⟨hx, hb, hml, hown, hret, hlocks, hts, hK, hNs⟩ hP hS hl)
theorem g_alenB {a n : Nat} {v : Int32} (d : decode (ic M) pc = .ok (.arraylength, 1)) (ha : kw Ω a = (23, n)) (hv : nI n = v) (k : G Ω M K (pc + 1) ls (.int v :: st) σ) : G Ω M K pc ls (.ref a :: st) σ := by
  intro B D cA p l e s m args below meth c H locs la C hP hS hl
  obtain ⟨hx, hb, hml, hown, hret, hlocks, hts, hK, hNs⟩ := C
  obtain ⟨h1, h2, h3⟩ := kw_in ha (by simp)
  exact va_alen (x := (n, .inl (σ.1 a))) (ty := .byte) hx hb hK hP (a - Ω.1) 3 (by rw [wld_at h1 h2, ent_int h3 (by decide)]) rfl hv d (k B D cA p l e s m args below meth c H locs la ⟨hx, hb, hml, hown, hret, hlocks, hts, hK, hNs⟩ hP hS hl)
end
end
section
/-! Calls: an instance method (V), a static one (S), a nest mate's private static one (N). -/
def lkC (N : MI) (n : Nat) : Prop := Cond.code (iy N) (ic N) (il N) (ir N) ∈ tbG ∧ Cond.initialized (iy N).cls ∈ tbG ∧ ((iy N).cls ≠ "java/lang/invoke/MethodHandle" ∧ (iy N).cls ≠ "java/lang/invoke/VarHandle" ∧ (parseMethodDescriptor (iy N).desc).map (fun d => d.parameters.length) = some n)
def lkV (own : String) (idx : Nat) (N : MI) (ci n : Nat) : Prop := lkC N n ∧ Cond.methodLink own idx (iy N) ∈ tbG ∧ Cond.instanceMethod (iy N) ∈ tbG ∧ Cond.selects (iy N).cls (iy N) (iy N) ∈ tbG ∧ ∃ q : vw_C, vwCl[ci]? = some q ∧ q.1 = (iy N).cls
def lkS (own : String) (idx : Nat) (N : MI) (n : Nat) : Prop := lkC N n ∧ Cond.methodLink own idx (iy N) ∈ tbG ∧ Cond.static (iy N) ∈ tbG
def lkN (own : String) (idx : Nat) (N : MI) (host : String) (n : Nat) : Prop := lkC N n ∧ (own, idx, iy N, host) ∈ nestL ∧ Cond.static (iy N) ∈ tbG
/-- room for the callee -/
def fitR (M N : MI) : Bool := decide (ifr N + 1 ≤ ifr M) && decide (8 + (il N + 11) + ilw N ≤ ilw M)
theorem fitR_spec {M N : MI} (h : fitR M N = true) : (rmM N).frames + 1 ≤ (rmM M).frames ∧ 8 + (il N + 11) + (rmM N).locals ≤ (rmM M).locals := by
  unfold fitR at h
  rw [Bool.and_eq_true] at h
  exact ⟨of_decide_eq_true h.1, of_decide_eq_true h.2⟩
theorem wsM_good {N : MI} {n : Nat} (h : lkC N n) : GoodIn tbG (wsM N) := by
  intro w hw
  have hm : w ∈ tbG := by
    rcases List.mem_cons.mp hw with rfl | h1
    · exact h.1
    · exact h1
  exact ⟨hm, good_of_word (List.mem_filter.mp hm).2⟩
section
variable {Ω : Nat × Nat} {M N : MI} {K K' : Option Value → Mm → Prop} {pc idx n : Nat} {ls : List (Option Value)} {rest As : List Value} {σ : Mm}
theorem sum_cat (B : Nat) (st : List Value) : ((st.map (cv B)).map fun v => v.category).sum = (st.map fun v => v.category).sum := by
  rw [List.map_map]
  congr 1
  exact List.map_congr_left (fun v _ => cv_cat B v)
theorem g_call {p : Program} {l : Launch} {e : Env} {s : State} {m : MethodId} {args : Array Value} {below : List Frame} {meth : Method} {c : Code} {H : Heap} {locs : List Loc} {la : Array Slot} {B : Nat} {D : va_G} {cA : Nat → ClassId} {st0 : List Value} {a : Array Value}
    (C : Cx M D cA p s m args meth c) (hS : va_S (fun q => B ≤ q) s.heap H locs) (hl : lvR B la (il M) ls)
    (hr : va_Run p l e (rmM M) s m args below meth c H locs 0 0 0 0 (F0 m pc la st0) (rest.map (cv B)) (QK Ω B D cA K' a) (fun q => B ≤ q))
    (k : ∀ v σ', K' v σ' → G Ω M K (pc + 3) ls (v.toList ++ rest) σ') : W p l e (rmM M) s m args below meth c H locs 0 0 (MQ below (QK Ω B D cA K) args s 0 0 (fun q => B ≤ q)) (F0 m pc la st0) := by
  intro T hT X
  obtain ⟨v, st₀, t, T', L, h0, X', hL, e1, e2, ⟨⟨v1, σ', hv, hk, hP1⟩, hz, hkk⟩, stp⟩ := hr T hT X
  cases hv
  rw [h0] at hz hkk
  have hS1 : va_S (fun q => B ≤ q) s.heap T'.heap (locs ++ L) := ⟨Nat.le_trans hS.1 (by rw [e1]; exact hz), fun q h1 h2 => by rw [e1, hkk q (Nat.lt_of_lt_of_le h1 hS.1) h2]; exact hS.2.1 q h1 h2, fun q hq => by
      rcases List.mem_append.mp hq with h | h
      · exact hS.2.2 q h
      · exact hL q h⟩
  obtain ⟨t2, a1, b1⟩ := k v1 σ' hk B D cA p l e s m args below meth c T'.heap (locs ++ L) la C (by rw [e1]; exact hP1) hS1 hl T' rfl X'
  refine ⟨t2, stp t2 ?_, b1⟩
  have hh : (v1.map (cv B)).toList ++ rest.map (cv B) = (v1.toList ++ rest).map (cv B) := by cases v1 <;> rfl
  rw [hh]
  exact a1
theorem pre_blind {B : Nat} {D : va_G} {cA : Nat → ClassId} {av : List Value} : FrameBlind (va_Pc (av.map (cv B)) (fun U => va_P D vwCl (wld Ω B cA σ) U.heap ∧ KW D cA U)) := by
  intro a U g mk q
  obtain ⟨q0, qP, qK, qN⟩ := q
  exact ⟨q0, qP, va_K.moved (u := U) (U := U.calling g mk a) (Vm.Alike.refl U.vm) qK, fun w hw => va_Nw.same rfl (u := U) (U := U.calling g mk a) rfl (qN w hw)⟩
theorem pre_hold {B : Nat} {D : va_G} {cA : Nat → ClassId} {av : List Value} {s : State} {H : Heap} (hP : va_P D vwCl (wld Ω B cA σ) H) (hK : va_K D vwCl (tysL cA) s) (hNs : NsK s) : ∀ U : State, U.heap = H → s.WarmedH U.vm → va_Pc (av.map (cv B)) (fun U => va_P D vwCl (wld Ω B cA σ) U.heap ∧ KW D cA U) (av.map (cv B)).toArray U :=
  fun U hU hW => ⟨rfl, by rw [hU]; exact hP, va_K.moved hW.alike hK, hNs.moved hW⟩
theorem g_callV {ci nf a : Nat} (d : decode (ic M) pc = .ok (.invokevirtual idx, 3)) (lk : lkV (iy M).cls idx N ci n) (hfit : fitR M N = true) (ha : kw Ω a = (ci, nf)) (hci : ci < 20) (hn : As.length = n) (hst : (rest.map fun v => v.category).sum ≤ 8)
    (hM : MetM Ω N (.ref a :: As) σ K') (k : ∀ v σ', K' v σ' → G Ω M K (pc + 3) ls (v.toList ++ rest) σ') : G Ω M K pc ls (As.reverse ++ .ref a :: rest) σ := by
  intro B D cA p l e s m args below meth c H locs la C hP hS hl
  have C0 := C
  obtain ⟨hx, hb, hml, hown, hret, hlocks, hts, hK, hNs⟩ := C
  obtain ⟨hlc, h1, h2, h3, q, hq, hqn⟩ := lk
  obtain ⟨g1, g2, g3⟩ := kw_in ha (by show ci ≠ 99; omega)
  have cb := callB_of (R := rmM M) (s := s) (args := args) (own := (iy M).cls) (index := idx) (rm := rmM N) (mc := 0) (ms := 0) n hts (wsM_good hlc) rfl rfl rfl (hts _ hlc.2.1) (hts _ h1) hlc.2.2 (fitR_spec hfit)
  have hrec := va_recv hK hP (ci := ci) (q0 := a - Ω.1) (a := B + a) hq (by rw [wld_at g1 g2, ent_obj g3 hci])
  rw [hqn] at hrec
  have hs : (As.reverse ++ .ref a :: rest).map (cv B) = (As.map (cv B)).reverse ++ .ref (B + a) :: rest.map (cv B) := by
    rw [List.map_append, List.map_reverse]; rfl
  rw [hs]
  exact g_call C0 hS hl (va_runV (C := (iy N).cls) (b := B + a) (As := As.map (cv B)) ⟨hx, hb, hml, hown, hts⟩ (hM l B D cA) ⟨cb, hts _ h2, hts _ h3⟩ ⟨pre_blind, hrec, pre_hold (av := .ref a :: As) hP hK hNs⟩ rfl (by rw [List.length_map]; exact hn) hl.1 rfl (lv_room (by rw [sum_cat]; exact hst)) d ⟨Nat.le_refl _, Nat.le_refl _⟩) k
theorem g_callS (d : decode (ic M) pc = .ok (.invokestatic idx, 3)) (lk : lkS (iy M).cls idx N n) (hfit : fitR M N = true) (hn : As.length = n) (hst : (rest.map fun v => v.category).sum ≤ 8)
    (hM : MetM Ω N As σ K') (k : ∀ v σ', K' v σ' → G Ω M K (pc + 3) ls (v.toList ++ rest) σ') : G Ω M K pc ls (As.reverse ++ rest) σ := by
  intro B D cA p l e s m args below meth c H locs la C hP hS hl
  have C0 := C
  obtain ⟨hx, hb, hml, hown, hret, hlocks, hts, hK, hNs⟩ := C
  obtain ⟨hlc, h1, h2⟩ := lk
  have cb := callB_of (R := rmM M) (s := s) (args := args) (own := (iy M).cls) (index := idx) (rm := rmM N) (mc := 0) (ms := 0) n hts (wsM_good hlc) rfl rfl rfl (hts _ hlc.2.1) (hts _ h1) hlc.2.2 (fitR_spec hfit)
  have hs : (As.reverse ++ rest).map (cv B) = (As.map (cv B)).reverse ++ rest.map (cv B) := by
    rw [List.map_append, List.map_reverse]
  rw [hs]
  exact g_call C0 hS hl (va_runS (As := As.map (cv B)) ⟨hx, hb, hml, hown, hts⟩ (hM l B D cA) ⟨cb, hts _ h2⟩ ⟨pre_blind, pre_hold (av := As) hP hK hNs⟩ rfl (by rw [List.length_map]; exact hn) hl.1 rfl (lv_room (by rw [sum_cat]; exact hst)) d ⟨Nat.le_refl _, Nat.le_refl _⟩) k
theorem g_callN {host : String} (d : decode (ic M) pc = .ok (.invokestatic idx, 3)) (lk : lkN (iy M).cls idx N host n) (hfit : fitR M N = true) (hn : As.length = n) (hst : (rest.map fun v => v.category).sum ≤ 8)
    (hM : MetM Ω N As σ K') (k : ∀ v σ', K' v σ' → G Ω M K (pc + 3) ls (v.toList ++ rest) σ') : G Ω M K pc ls (As.reverse ++ rest) σ := by
  intro B D cA p l e s m args below meth c H locs la C hP hS hl
  have C0 := C
  obtain ⟨hx, hb, hml, hown, hret, hlocks, hts, hK, hNs⟩ := C
  obtain ⟨hlc, h1, h2⟩ := lk
  have cb := va_cnB (R := rmM M) (s := s) (args := args) (own := (iy M).cls) (index := idx) (host := host) (rm := rmM N) (mc := 0) (ms := 0) n hts (wsM_good hlc) rfl rfl rfl (hNs _ h1) (hts _ hlc.2.1) hlc.2.2 (fitR_spec hfit)
  have hs : (As.reverse ++ rest).map (cv B) = (As.map (cv B)).reverse ++ rest.map (cv B) := by
    rw [List.map_append, List.map_reverse]
  rw [hs]
  exact g_call C0 hS hl (va_runSN (As := As.map (cv B)) ⟨hx, hb, hml, hown, hts⟩ (hM l B D cA) ⟨cb, hts _ h2, trivial⟩ ⟨pre_blind, pre_hold (av := As) hP hK hNs⟩ rfl (by rw [List.length_map]; exact hn) hl.1 rfl (lv_room (by rw [sum_cat]; exact hst)) d ⟨Nat.le_refl _, Nat.le_refl _⟩) k
end
/-- M, called so, answers an int (or nothing, or a long), and P holds of it and of the memory -/
def RI (Ω : Nat × Nat) (M : MI) (av : List Value) (σ : Mm) (P : Int32 → Mm → Prop) : Prop := MetM Ω M av σ (fun v τ => ∃ r : Int32, v = some (.int r) ∧ P r τ)
def RV (Ω : Nat × Nat) (M : MI) (av : List Value) (σ : Mm) (P : Mm → Prop) : Prop := MetM Ω M av σ (fun v τ => v = none ∧ P τ)
def RL_ (Ω : Nat × Nat) (M : MI) (av : List Value) (σ : Mm) (P : Int64 → Mm → Prop) : Prop := MetM Ω M av σ (fun v τ => ∃ r : Int64, v = some (.long r) ∧ P r τ)
section
variable {Ω : Nat × Nat} {M N : MI} {K : Option Value → Mm → Prop} {pc idx : Nat} {ls : List (Option Value)} {st : List Value} {σ : Mm}
theorem g_cVI0 {ci nf a : Nat} {P : Int32 → Mm → Prop} (d : decode (ic M) pc = .ok (.invokevirtual idx, 3)) (lk : lkV (iy M).cls idx N ci 0) (hfit : fitR M N = true) (ha : kw Ω a = (ci, nf)) (hci : ci < 20) (hst : (st.map fun v => v.category).sum ≤ 8) (hM : RI Ω N [.ref a] σ P) (k : ∀ r τ, P r τ → G Ω M K (pc + 3) ls (.int r :: st) τ) : G Ω M K pc ls (.ref a :: st) σ := g_callV (As := []) d lk hfit ha hci rfl hst hM (fun v τ h => by obtain ⟨r, rfl, h⟩ := h; exact k r τ h)
theorem g_cVV0 {ci nf a : Nat} {P : Mm → Prop} (d : decode (ic M) pc = .ok (.invokevirtual idx, 3)) (lk : lkV (iy M).cls idx N ci 0) (hfit : fitR M N = true) (ha : kw Ω a = (ci, nf)) (hci : ci < 20) (hst : (st.map fun v => v.category).sum ≤ 8) (hM : RV Ω N [.ref a] σ P) (k : ∀ τ, P τ → G Ω M K (pc + 3) ls st τ) : G Ω M K pc ls (.ref a :: st) σ := g_callV (As := []) d lk hfit ha hci rfl hst hM (fun v τ h => by obtain ⟨rfl, h⟩ := h; exact k τ h)
theorem g_cVL0 {ci nf a : Nat} {P : Int64 → Mm → Prop} (d : decode (ic M) pc = .ok (.invokevirtual idx, 3)) (lk : lkV (iy M).cls idx N ci 0) (hfit : fitR M N = true) (ha : kw Ω a = (ci, nf)) (hci : ci < 20) (hst : (st.map fun v => v.category).sum ≤ 8) (hM : RL_ Ω N [.ref a] σ P) (k : ∀ r τ, P r τ → G Ω M K (pc + 3) ls (.long r :: st) τ) : G Ω M K pc ls (.ref a :: st) σ := g_callV (As := []) d lk hfit ha hci rfl hst hM (fun v τ h => by obtain ⟨r, rfl, h⟩ := h; exact k r τ h)
theorem g_cVI1 {ci nf a : Nat} {x1 : Value} {P : Int32 → Mm → Prop} (d : decode (ic M) pc = .ok (.invokevirtual idx, 3)) (lk : lkV (iy M).cls idx N ci 1) (hfit : fitR M N = true) (ha : kw Ω a = (ci, nf)) (hci : ci < 20) (hst : (st.map fun v => v.category).sum ≤ 8) (hM : RI Ω N [.ref a, x1] σ P) (k : ∀ r τ, P r τ → G Ω M K (pc + 3) ls (.int r :: st) τ) : G Ω M K pc ls (x1 :: .ref a :: st) σ := g_callV (As := [x1]) d lk hfit ha hci rfl hst hM (fun v τ h => by obtain ⟨r, rfl, h⟩ := h; exact k r τ h)
theorem g_cVV1 {ci nf a : Nat} {x1 : Value} {P : Mm → Prop} (d : decode (ic M) pc = .ok (.invokevirtual idx, 3)) (lk : lkV (iy M).cls idx N ci 1) (hfit : fitR M N = true) (ha : kw Ω a = (ci, nf)) (hci : ci < 20) (hst : (st.map fun v => v.category).sum ≤ 8) (hM : RV Ω N [.ref a, x1] σ P) (k : ∀ τ, P τ → G Ω M K (pc + 3) ls st τ) : G Ω M K pc ls (x1 :: .ref a :: st) σ := g_callV (As := [x1]) d lk hfit ha hci rfl hst hM (fun v τ h => by obtain ⟨rfl, h⟩ := h; exact k τ h)
theorem g_cVL1 {ci nf a : Nat} {x1 : Value} {P : Int64 → Mm → Prop} (d : decode (ic M) pc = .ok (.invokevirtual idx, 3)) (lk : lkV (iy M).cls idx N ci 1) (hfit : fitR M N = true) (ha : kw Ω a = (ci, nf)) (hci : ci < 20) (hst : (st.map fun v => v.category).sum ≤ 8) (hM : RL_ Ω N [.ref a, x1] σ P) (k : ∀ r τ, P r τ → G Ω M K (pc + 3) ls (.long r :: st) τ) : G Ω M K pc ls (x1 :: .ref a :: st) σ := g_callV (As := [x1]) d lk hfit ha hci rfl hst hM (fun v τ h => by obtain ⟨r, rfl, h⟩ := h; exact k r τ h)
theorem g_cVI2 {ci nf a : Nat} {x1 x2 : Value} {P : Int32 → Mm → Prop} (d : decode (ic M) pc = .ok (.invokevirtual idx, 3)) (lk : lkV (iy M).cls idx N ci 2) (hfit : fitR M N = true) (ha : kw Ω a = (ci, nf)) (hci : ci < 20) (hst : (st.map fun v => v.category).sum ≤ 8) (hM : RI Ω N [.ref a, x1, x2] σ P) (k : ∀ r τ, P r τ → G Ω M K (pc + 3) ls (.int r :: st) τ) : G Ω M K pc ls (x2 :: x1 :: .ref a :: st) σ := g_callV (As := [x1, x2]) d lk hfit ha hci rfl hst hM (fun v τ h => by obtain ⟨r, rfl, h⟩ := h; exact k r τ h)
theorem g_cVV2 {ci nf a : Nat} {x1 x2 : Value} {P : Mm → Prop} (d : decode (ic M) pc = .ok (.invokevirtual idx, 3)) (lk : lkV (iy M).cls idx N ci 2) (hfit : fitR M N = true) (ha : kw Ω a = (ci, nf)) (hci : ci < 20) (hst : (st.map fun v => v.category).sum ≤ 8) (hM : RV Ω N [.ref a, x1, x2] σ P) (k : ∀ τ, P τ → G Ω M K (pc + 3) ls st τ) : G Ω M K pc ls (x2 :: x1 :: .ref a :: st) σ := g_callV (As := [x1, x2]) d lk hfit ha hci rfl hst hM (fun v τ h => by obtain ⟨rfl, h⟩ := h; exact k τ h)
theorem g_cVL2 {ci nf a : Nat} {x1 x2 : Value} {P : Int64 → Mm → Prop} (d : decode (ic M) pc = .ok (.invokevirtual idx, 3)) (lk : lkV (iy M).cls idx N ci 2) (hfit : fitR M N = true) (ha : kw Ω a = (ci, nf)) (hci : ci < 20) (hst : (st.map fun v => v.category).sum ≤ 8) (hM : RL_ Ω N [.ref a, x1, x2] σ P) (k : ∀ r τ, P r τ → G Ω M K (pc + 3) ls (.long r :: st) τ) : G Ω M K pc ls (x2 :: x1 :: .ref a :: st) σ := g_callV (As := [x1, x2]) d lk hfit ha hci rfl hst hM (fun v τ h => by obtain ⟨r, rfl, h⟩ := h; exact k r τ h)
theorem g_cVI3 {ci nf a : Nat} {x1 x2 x3 : Value} {P : Int32 → Mm → Prop} (d : decode (ic M) pc = .ok (.invokevirtual idx, 3)) (lk : lkV (iy M).cls idx N ci 3) (hfit : fitR M N = true) (ha : kw Ω a = (ci, nf)) (hci : ci < 20) (hst : (st.map fun v => v.category).sum ≤ 8) (hM : RI Ω N [.ref a, x1, x2, x3] σ P) (k : ∀ r τ, P r τ → G Ω M K (pc + 3) ls (.int r :: st) τ) : G Ω M K pc ls (x3 :: x2 :: x1 :: .ref a :: st) σ := g_callV (As := [x1, x2, x3]) d lk hfit ha hci rfl hst hM (fun v τ h => by obtain ⟨r, rfl, h⟩ := h; exact k r τ h)
theorem g_cVV3 {ci nf a : Nat} {x1 x2 x3 : Value} {P : Mm → Prop} (d : decode (ic M) pc = .ok (.invokevirtual idx, 3)) (lk : lkV (iy M).cls idx N ci 3) (hfit : fitR M N = true) (ha : kw Ω a = (ci, nf)) (hci : ci < 20) (hst : (st.map fun v => v.category).sum ≤ 8) (hM : RV Ω N [.ref a, x1, x2, x3] σ P) (k : ∀ τ, P τ → G Ω M K (pc + 3) ls st τ) : G Ω M K pc ls (x3 :: x2 :: x1 :: .ref a :: st) σ := g_callV (As := [x1, x2, x3]) d lk hfit ha hci rfl hst hM (fun v τ h => by obtain ⟨rfl, h⟩ := h; exact k τ h)
theorem g_cVL3 {ci nf a : Nat} {x1 x2 x3 : Value} {P : Int64 → Mm → Prop} (d : decode (ic M) pc = .ok (.invokevirtual idx, 3)) (lk : lkV (iy M).cls idx N ci 3) (hfit : fitR M N = true) (ha : kw Ω a = (ci, nf)) (hci : ci < 20) (hst : (st.map fun v => v.category).sum ≤ 8) (hM : RL_ Ω N [.ref a, x1, x2, x3] σ P) (k : ∀ r τ, P r τ → G Ω M K (pc + 3) ls (.long r :: st) τ) : G Ω M K pc ls (x3 :: x2 :: x1 :: .ref a :: st) σ := g_callV (As := [x1, x2, x3]) d lk hfit ha hci rfl hst hM (fun v τ h => by obtain ⟨r, rfl, h⟩ := h; exact k r τ h)
theorem g_cVI4 {ci nf a : Nat} {x1 x2 x3 x4 : Value} {P : Int32 → Mm → Prop} (d : decode (ic M) pc = .ok (.invokevirtual idx, 3)) (lk : lkV (iy M).cls idx N ci 4) (hfit : fitR M N = true) (ha : kw Ω a = (ci, nf)) (hci : ci < 20) (hst : (st.map fun v => v.category).sum ≤ 8) (hM : RI Ω N [.ref a, x1, x2, x3, x4] σ P) (k : ∀ r τ, P r τ → G Ω M K (pc + 3) ls (.int r :: st) τ) : G Ω M K pc ls (x4 :: x3 :: x2 :: x1 :: .ref a :: st) σ := g_callV (As := [x1, x2, x3, x4]) d lk hfit ha hci rfl hst hM (fun v τ h => by obtain ⟨r, rfl, h⟩ := h; exact k r τ h)
theorem g_cVV4 {ci nf a : Nat} {x1 x2 x3 x4 : Value} {P : Mm → Prop} (d : decode (ic M) pc = .ok (.invokevirtual idx, 3)) (lk : lkV (iy M).cls idx N ci 4) (hfit : fitR M N = true) (ha : kw Ω a = (ci, nf)) (hci : ci < 20) (hst : (st.map fun v => v.category).sum ≤ 8) (hM : RV Ω N [.ref a, x1, x2, x3, x4] σ P) (k : ∀ τ, P τ → G Ω M K (pc + 3) ls st τ) : G Ω M K pc ls (x4 :: x3 :: x2 :: x1 :: .ref a :: st) σ := g_callV (As := [x1, x2, x3, x4]) d lk hfit ha hci rfl hst hM (fun v τ h => by obtain ⟨rfl, h⟩ := h; exact k τ h)
theorem g_cVL4 {ci nf a : Nat} {x1 x2 x3 x4 : Value} {P : Int64 → Mm → Prop} (d : decode (ic M) pc = .ok (.invokevirtual idx, 3)) (lk : lkV (iy M).cls idx N ci 4) (hfit : fitR M N = true) (ha : kw Ω a = (ci, nf)) (hci : ci < 20) (hst : (st.map fun v => v.category).sum ≤ 8) (hM : RL_ Ω N [.ref a, x1, x2, x3, x4] σ P) (k : ∀ r τ, P r τ → G Ω M K (pc + 3) ls (.long r :: st) τ) : G Ω M K pc ls (x4 :: x3 :: x2 :: x1 :: .ref a :: st) σ := g_callV (As := [x1, x2, x3, x4]) d lk hfit ha hci rfl hst hM (fun v τ h => by obtain ⟨r, rfl, h⟩ := h; exact k r τ h)
theorem g_cVI5 {ci nf a : Nat} {x1 x2 x3 x4 x5 : Value} {P : Int32 → Mm → Prop} (d : decode (ic M) pc = .ok (.invokevirtual idx, 3)) (lk : lkV (iy M).cls idx N ci 5) (hfit : fitR M N = true) (ha : kw Ω a = (ci, nf)) (hci : ci < 20) (hst : (st.map fun v => v.category).sum ≤ 8) (hM : RI Ω N [.ref a, x1, x2, x3, x4, x5] σ P) (k : ∀ r τ, P r τ → G Ω M K (pc + 3) ls (.int r :: st) τ) : G Ω M K pc ls (x5 :: x4 :: x3 :: x2 :: x1 :: .ref a :: st) σ := g_callV (As := [x1, x2, x3, x4, x5]) d lk hfit ha hci rfl hst hM (fun v τ h => by obtain ⟨r, rfl, h⟩ := h; exact k r τ h)
theorem g_cVV5 {ci nf a : Nat} {x1 x2 x3 x4 x5 : Value} {P : Mm → Prop} (d : decode (ic M) pc = .ok (.invokevirtual idx, 3)) (lk : lkV (iy M).cls idx N ci 5) (hfit : fitR M N = true) (ha : kw Ω a = (ci, nf)) (hci : ci < 20) (hst : (st.map fun v => v.category).sum ≤ 8) (hM : RV Ω N [.ref a, x1, x2, x3, x4, x5] σ P) (k : ∀ τ, P τ → G Ω M K (pc + 3) ls st τ) : G Ω M K pc ls (x5 :: x4 :: x3 :: x2 :: x1 :: .ref a :: st) σ := g_callV (As := [x1, x2, x3, x4, x5]) d lk hfit ha hci rfl hst hM (fun v τ h => by obtain ⟨rfl, h⟩ := h; exact k τ h)
theorem g_cVL5 {ci nf a : Nat} {x1 x2 x3 x4 x5 : Value} {P : Int64 → Mm → Prop} (d : decode (ic M) pc = .ok (.invokevirtual idx, 3)) (lk : lkV (iy M).cls idx N ci 5) (hfit : fitR M N = true) (ha : kw Ω a = (ci, nf)) (hci : ci < 20) (hst : (st.map fun v => v.category).sum ≤ 8) (hM : RL_ Ω N [.ref a, x1, x2, x3, x4, x5] σ P) (k : ∀ r τ, P r τ → G Ω M K (pc + 3) ls (.long r :: st) τ) : G Ω M K pc ls (x5 :: x4 :: x3 :: x2 :: x1 :: .ref a :: st) σ := g_callV (As := [x1, x2, x3, x4, x5]) d lk hfit ha hci rfl hst hM (fun v τ h => by obtain ⟨r, rfl, h⟩ := h; exact k r τ h)
theorem g_cVI6 {ci nf a : Nat} {x1 x2 x3 x4 x5 x6 : Value} {P : Int32 → Mm → Prop} (d : decode (ic M) pc = .ok (.invokevirtual idx, 3)) (lk : lkV (iy M).cls idx N ci 6) (hfit : fitR M N = true) (ha : kw Ω a = (ci, nf)) (hci : ci < 20) (hst : (st.map fun v => v.category).sum ≤ 8) (hM : RI Ω N [.ref a, x1, x2, x3, x4, x5, x6] σ P) (k : ∀ r τ, P r τ → G Ω M K (pc + 3) ls (.int r :: st) τ) : G Ω M K pc ls (x6 :: x5 :: x4 :: x3 :: x2 :: x1 :: .ref a :: st) σ := g_callV (As := [x1, x2, x3, x4, x5, x6]) d lk hfit ha hci rfl hst hM (fun v τ h => by obtain ⟨r, rfl, h⟩ := h; exact k r τ h)
theorem g_cVV6 {ci nf a : Nat} {x1 x2 x3 x4 x5 x6 : Value} {P : Mm → Prop} (d : decode (ic M) pc = .ok (.invokevirtual idx, 3)) (lk : lkV (iy M).cls idx N ci 6) (hfit : fitR M N = true) (ha : kw Ω a = (ci, nf)) (hci : ci < 20) (hst : (st.map fun v => v.category).sum ≤ 8) (hM : RV Ω N [.ref a, x1, x2, x3, x4, x5, x6] σ P) (k : ∀ τ, P τ → G Ω M K (pc + 3) ls st τ) : G Ω M K pc ls (x6 :: x5 :: x4 :: x3 :: x2 :: x1 :: .ref a :: st) σ := g_callV (As := [x1, x2, x3, x4, x5, x6]) d lk hfit ha hci rfl hst hM (fun v τ h => by obtain ⟨rfl, h⟩ := h; exact k τ h)
theorem g_cVL6 {ci nf a : Nat} {x1 x2 x3 x4 x5 x6 : Value} {P : Int64 → Mm → Prop} (d : decode (ic M) pc = .ok (.invokevirtual idx, 3)) (lk : lkV (iy M).cls idx N ci 6) (hfit : fitR M N = true) (ha : kw Ω a = (ci, nf)) (hci : ci < 20) (hst : (st.map fun v => v.category).sum ≤ 8) (hM : RL_ Ω N [.ref a, x1, x2, x3, x4, x5, x6] σ P) (k : ∀ r τ, P r τ → G Ω M K (pc + 3) ls (.long r :: st) τ) : G Ω M K pc ls (x6 :: x5 :: x4 :: x3 :: x2 :: x1 :: .ref a :: st) σ := g_callV (As := [x1, x2, x3, x4, x5, x6]) d lk hfit ha hci rfl hst hM (fun v τ h => by obtain ⟨r, rfl, h⟩ := h; exact k r τ h)
theorem g_cSI0 {P : Int32 → Mm → Prop} (d : decode (ic M) pc = .ok (.invokestatic idx, 3)) (lk : lkS (iy M).cls idx N 0) (hfit : fitR M N = true) (hst : (st.map fun v => v.category).sum ≤ 8) (hM : RI Ω N [] σ P) (k : ∀ r τ, P r τ → G Ω M K (pc + 3) ls (.int r :: st) τ) : G Ω M K pc ls (st) σ := g_callS (As := []) d lk hfit rfl hst hM (fun v τ h => by obtain ⟨r, rfl, h⟩ := h; exact k r τ h)
theorem g_cSV0 {P : Mm → Prop} (d : decode (ic M) pc = .ok (.invokestatic idx, 3)) (lk : lkS (iy M).cls idx N 0) (hfit : fitR M N = true) (hst : (st.map fun v => v.category).sum ≤ 8) (hM : RV Ω N [] σ P) (k : ∀ τ, P τ → G Ω M K (pc + 3) ls st τ) : G Ω M K pc ls (st) σ := g_callS (As := []) d lk hfit rfl hst hM (fun v τ h => by obtain ⟨rfl, h⟩ := h; exact k τ h)
theorem g_cSL0 {P : Int64 → Mm → Prop} (d : decode (ic M) pc = .ok (.invokestatic idx, 3)) (lk : lkS (iy M).cls idx N 0) (hfit : fitR M N = true) (hst : (st.map fun v => v.category).sum ≤ 8) (hM : RL_ Ω N [] σ P) (k : ∀ r τ, P r τ → G Ω M K (pc + 3) ls (.long r :: st) τ) : G Ω M K pc ls (st) σ := g_callS (As := []) d lk hfit rfl hst hM (fun v τ h => by obtain ⟨r, rfl, h⟩ := h; exact k r τ h)
theorem g_cSI1 {x1 : Value} {P : Int32 → Mm → Prop} (d : decode (ic M) pc = .ok (.invokestatic idx, 3)) (lk : lkS (iy M).cls idx N 1) (hfit : fitR M N = true) (hst : (st.map fun v => v.category).sum ≤ 8) (hM : RI Ω N [x1] σ P) (k : ∀ r τ, P r τ → G Ω M K (pc + 3) ls (.int r :: st) τ) : G Ω M K pc ls (x1 :: st) σ := g_callS (As := [x1]) d lk hfit rfl hst hM (fun v τ h => by obtain ⟨r, rfl, h⟩ := h; exact k r τ h)
theorem g_cSV1 {x1 : Value} {P : Mm → Prop} (d : decode (ic M) pc = .ok (.invokestatic idx, 3)) (lk : lkS (iy M).cls idx N 1) (hfit : fitR M N = true) (hst : (st.map fun v => v.category).sum ≤ 8) (hM : RV Ω N [x1] σ P) (k : ∀ τ, P τ → G Ω M K (pc + 3) ls st τ) : G Ω M K pc ls (x1 :: st) σ := g_callS (As := [x1]) d lk hfit rfl hst hM (fun v τ h => by obtain ⟨rfl, h⟩ := h; exact k τ h)
theorem g_cSL1 {x1 : Value} {P : Int64 → Mm → Prop} (d : decode (ic M) pc = .ok (.invokestatic idx, 3)) (lk : lkS (iy M).cls idx N 1) (hfit : fitR M N = true) (hst : (st.map fun v => v.category).sum ≤ 8) (hM : RL_ Ω N [x1] σ P) (k : ∀ r τ, P r τ → G Ω M K (pc + 3) ls (.long r :: st) τ) : G Ω M K pc ls (x1 :: st) σ := g_callS (As := [x1]) d lk hfit rfl hst hM (fun v τ h => by obtain ⟨r, rfl, h⟩ := h; exact k r τ h)
theorem g_cSI2 {x1 x2 : Value} {P : Int32 → Mm → Prop} (d : decode (ic M) pc = .ok (.invokestatic idx, 3)) (lk : lkS (iy M).cls idx N 2) (hfit : fitR M N = true) (hst : (st.map fun v => v.category).sum ≤ 8) (hM : RI Ω N [x1, x2] σ P) (k : ∀ r τ, P r τ → G Ω M K (pc + 3) ls (.int r :: st) τ) : G Ω M K pc ls (x2 :: x1 :: st) σ := g_callS (As := [x1, x2]) d lk hfit rfl hst hM (fun v τ h => by obtain ⟨r, rfl, h⟩ := h; exact k r τ h)
theorem g_cSV2 {x1 x2 : Value} {P : Mm → Prop} (d : decode (ic M) pc = .ok (.invokestatic idx, 3)) (lk : lkS (iy M).cls idx N 2) (hfit : fitR M N = true) (hst : (st.map fun v => v.category).sum ≤ 8) (hM : RV Ω N [x1, x2] σ P) (k : ∀ τ, P τ → G Ω M K (pc + 3) ls st τ) : G Ω M K pc ls (x2 :: x1 :: st) σ := g_callS (As := [x1, x2]) d lk hfit rfl hst hM (fun v τ h => by obtain ⟨rfl, h⟩ := h; exact k τ h)
theorem g_cSL2 {x1 x2 : Value} {P : Int64 → Mm → Prop} (d : decode (ic M) pc = .ok (.invokestatic idx, 3)) (lk : lkS (iy M).cls idx N 2) (hfit : fitR M N = true) (hst : (st.map fun v => v.category).sum ≤ 8) (hM : RL_ Ω N [x1, x2] σ P) (k : ∀ r τ, P r τ → G Ω M K (pc + 3) ls (.long r :: st) τ) : G Ω M K pc ls (x2 :: x1 :: st) σ := g_callS (As := [x1, x2]) d lk hfit rfl hst hM (fun v τ h => by obtain ⟨r, rfl, h⟩ := h; exact k r τ h)
theorem g_cSI3 {x1 x2 x3 : Value} {P : Int32 → Mm → Prop} (d : decode (ic M) pc = .ok (.invokestatic idx, 3)) (lk : lkS (iy M).cls idx N 3) (hfit : fitR M N = true) (hst : (st.map fun v => v.category).sum ≤ 8) (hM : RI Ω N [x1, x2, x3] σ P) (k : ∀ r τ, P r τ → G Ω M K (pc + 3) ls (.int r :: st) τ) : G Ω M K pc ls (x3 :: x2 :: x1 :: st) σ := g_callS (As := [x1, x2, x3]) d lk hfit rfl hst hM (fun v τ h => by obtain ⟨r, rfl, h⟩ := h; exact k r τ h)
theorem g_cSV3 {x1 x2 x3 : Value} {P : Mm → Prop} (d : decode (ic M) pc = .ok (.invokestatic idx, 3)) (lk : lkS (iy M).cls idx N 3) (hfit : fitR M N = true) (hst : (st.map fun v => v.category).sum ≤ 8) (hM : RV Ω N [x1, x2, x3] σ P) (k : ∀ τ, P τ → G Ω M K (pc + 3) ls st τ) : G Ω M K pc ls (x3 :: x2 :: x1 :: st) σ := g_callS (As := [x1, x2, x3]) d lk hfit rfl hst hM (fun v τ h => by obtain ⟨rfl, h⟩ := h; exact k τ h)
theorem g_cSL3 {x1 x2 x3 : Value} {P : Int64 → Mm → Prop} (d : decode (ic M) pc = .ok (.invokestatic idx, 3)) (lk : lkS (iy M).cls idx N 3) (hfit : fitR M N = true) (hst : (st.map fun v => v.category).sum ≤ 8) (hM : RL_ Ω N [x1, x2, x3] σ P) (k : ∀ r τ, P r τ → G Ω M K (pc + 3) ls (.long r :: st) τ) : G Ω M K pc ls (x3 :: x2 :: x1 :: st) σ := g_callS (As := [x1, x2, x3]) d lk hfit rfl hst hM (fun v τ h => by obtain ⟨r, rfl, h⟩ := h; exact k r τ h)
theorem g_cSI4 {x1 x2 x3 x4 : Value} {P : Int32 → Mm → Prop} (d : decode (ic M) pc = .ok (.invokestatic idx, 3)) (lk : lkS (iy M).cls idx N 4) (hfit : fitR M N = true) (hst : (st.map fun v => v.category).sum ≤ 8) (hM : RI Ω N [x1, x2, x3, x4] σ P) (k : ∀ r τ, P r τ → G Ω M K (pc + 3) ls (.int r :: st) τ) : G Ω M K pc ls (x4 :: x3 :: x2 :: x1 :: st) σ := g_callS (As := [x1, x2, x3, x4]) d lk hfit rfl hst hM (fun v τ h => by obtain ⟨r, rfl, h⟩ := h; exact k r τ h)
theorem g_cSV4 {x1 x2 x3 x4 : Value} {P : Mm → Prop} (d : decode (ic M) pc = .ok (.invokestatic idx, 3)) (lk : lkS (iy M).cls idx N 4) (hfit : fitR M N = true) (hst : (st.map fun v => v.category).sum ≤ 8) (hM : RV Ω N [x1, x2, x3, x4] σ P) (k : ∀ τ, P τ → G Ω M K (pc + 3) ls st τ) : G Ω M K pc ls (x4 :: x3 :: x2 :: x1 :: st) σ := g_callS (As := [x1, x2, x3, x4]) d lk hfit rfl hst hM (fun v τ h => by obtain ⟨rfl, h⟩ := h; exact k τ h)
theorem g_cSL4 {x1 x2 x3 x4 : Value} {P : Int64 → Mm → Prop} (d : decode (ic M) pc = .ok (.invokestatic idx, 3)) (lk : lkS (iy M).cls idx N 4) (hfit : fitR M N = true) (hst : (st.map fun v => v.category).sum ≤ 8) (hM : RL_ Ω N [x1, x2, x3, x4] σ P) (k : ∀ r τ, P r τ → G Ω M K (pc + 3) ls (.long r :: st) τ) : G Ω M K pc ls (x4 :: x3 :: x2 :: x1 :: st) σ := g_callS (As := [x1, x2, x3, x4]) d lk hfit rfl hst hM (fun v τ h => by obtain ⟨r, rfl, h⟩ := h; exact k r τ h)
theorem g_cSI5 {x1 x2 x3 x4 x5 : Value} {P : Int32 → Mm → Prop} (d : decode (ic M) pc = .ok (.invokestatic idx, 3)) (lk : lkS (iy M).cls idx N 5) (hfit : fitR M N = true) (hst : (st.map fun v => v.category).sum ≤ 8) (hM : RI Ω N [x1, x2, x3, x4, x5] σ P) (k : ∀ r τ, P r τ → G Ω M K (pc + 3) ls (.int r :: st) τ) : G Ω M K pc ls (x5 :: x4 :: x3 :: x2 :: x1 :: st) σ := g_callS (As := [x1, x2, x3, x4, x5]) d lk hfit rfl hst hM (fun v τ h => by obtain ⟨r, rfl, h⟩ := h; exact k r τ h)
theorem g_cSV5 {x1 x2 x3 x4 x5 : Value} {P : Mm → Prop} (d : decode (ic M) pc = .ok (.invokestatic idx, 3)) (lk : lkS (iy M).cls idx N 5) (hfit : fitR M N = true) (hst : (st.map fun v => v.category).sum ≤ 8) (hM : RV Ω N [x1, x2, x3, x4, x5] σ P) (k : ∀ τ, P τ → G Ω M K (pc + 3) ls st τ) : G Ω M K pc ls (x5 :: x4 :: x3 :: x2 :: x1 :: st) σ := g_callS (As := [x1, x2, x3, x4, x5]) d lk hfit rfl hst hM (fun v τ h => by obtain ⟨rfl, h⟩ := h; exact k τ h)
theorem g_cSL5 {x1 x2 x3 x4 x5 : Value} {P : Int64 → Mm → Prop} (d : decode (ic M) pc = .ok (.invokestatic idx, 3)) (lk : lkS (iy M).cls idx N 5) (hfit : fitR M N = true) (hst : (st.map fun v => v.category).sum ≤ 8) (hM : RL_ Ω N [x1, x2, x3, x4, x5] σ P) (k : ∀ r τ, P r τ → G Ω M K (pc + 3) ls (.long r :: st) τ) : G Ω M K pc ls (x5 :: x4 :: x3 :: x2 :: x1 :: st) σ := g_callS (As := [x1, x2, x3, x4, x5]) d lk hfit rfl hst hM (fun v τ h => by obtain ⟨r, rfl, h⟩ := h; exact k r τ h)
theorem g_cSI6 {x1 x2 x3 x4 x5 x6 : Value} {P : Int32 → Mm → Prop} (d : decode (ic M) pc = .ok (.invokestatic idx, 3)) (lk : lkS (iy M).cls idx N 6) (hfit : fitR M N = true) (hst : (st.map fun v => v.category).sum ≤ 8) (hM : RI Ω N [x1, x2, x3, x4, x5, x6] σ P) (k : ∀ r τ, P r τ → G Ω M K (pc + 3) ls (.int r :: st) τ) : G Ω M K pc ls (x6 :: x5 :: x4 :: x3 :: x2 :: x1 :: st) σ := g_callS (As := [x1, x2, x3, x4, x5, x6]) d lk hfit rfl hst hM (fun v τ h => by obtain ⟨r, rfl, h⟩ := h; exact k r τ h)
theorem g_cSV6 {x1 x2 x3 x4 x5 x6 : Value} {P : Mm → Prop} (d : decode (ic M) pc = .ok (.invokestatic idx, 3)) (lk : lkS (iy M).cls idx N 6) (hfit : fitR M N = true) (hst : (st.map fun v => v.category).sum ≤ 8) (hM : RV Ω N [x1, x2, x3, x4, x5, x6] σ P) (k : ∀ τ, P τ → G Ω M K (pc + 3) ls st τ) : G Ω M K pc ls (x6 :: x5 :: x4 :: x3 :: x2 :: x1 :: st) σ := g_callS (As := [x1, x2, x3, x4, x5, x6]) d lk hfit rfl hst hM (fun v τ h => by obtain ⟨rfl, h⟩ := h; exact k τ h)
theorem g_cSL6 {x1 x2 x3 x4 x5 x6 : Value} {P : Int64 → Mm → Prop} (d : decode (ic M) pc = .ok (.invokestatic idx, 3)) (lk : lkS (iy M).cls idx N 6) (hfit : fitR M N = true) (hst : (st.map fun v => v.category).sum ≤ 8) (hM : RL_ Ω N [x1, x2, x3, x4, x5, x6] σ P) (k : ∀ r τ, P r τ → G Ω M K (pc + 3) ls (.long r :: st) τ) : G Ω M K pc ls (x6 :: x5 :: x4 :: x3 :: x2 :: x1 :: st) σ := g_callS (As := [x1, x2, x3, x4, x5, x6]) d lk hfit rfl hst hM (fun v τ h => by obtain ⟨r, rfl, h⟩ := h; exact k r τ h)
theorem g_cNI2 {x1 x2 : Value} {P : Int32 → Mm → Prop} {host : String} (d : decode (ic M) pc = .ok (.invokestatic idx, 3)) (lk : lkN (iy M).cls idx N host 2) (hfit : fitR M N = true) (hst : (st.map fun v => v.category).sum ≤ 8) (hM : RI Ω N [x1, x2] σ P) (k : ∀ r τ, P r τ → G Ω M K (pc + 3) ls (.int r :: st) τ) : G Ω M K pc ls (x2 :: x1 :: st) σ := g_callN (As := [x1, x2]) d lk hfit rfl hst hM (fun v τ h => by obtain ⟨r, rfl, h⟩ := h; exact k r τ h)
theorem g_cNI3 {x1 x2 x3 : Value} {P : Int32 → Mm → Prop} {host : String} (d : decode (ic M) pc = .ok (.invokestatic idx, 3)) (lk : lkN (iy M).cls idx N host 3) (hfit : fitR M N = true) (hst : (st.map fun v => v.category).sum ≤ 8) (hM : RI Ω N [x1, x2, x3] σ P) (k : ∀ r τ, P r τ → G Ω M K (pc + 3) ls (.int r :: st) τ) : G Ω M K pc ls (x3 :: x2 :: x1 :: st) σ := g_callN (As := [x1, x2, x3]) d lk hfit rfl hst hM (fun v τ h => by obtain ⟨r, rfl, h⟩ := h; exact k r τ h)
end
end
