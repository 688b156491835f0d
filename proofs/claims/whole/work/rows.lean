section
-- ===== PART A: goes FIRST, ahead of the names: the tables' words, and 'selects' of the private methods out of them =====
/-- a private method of a class that the tables say can be made, by its rows of tables_1 -/
def lw_okq (q : MethodName × Nat) : Prop := (q.1.cls ≠ "java/lang/invoke/MethodHandle" ∧ q.1.cls ≠ "java/lang/invoke/VarHandle") ∧ Cond.instantiable q.1.cls q.2 ∈ tables_1 ∧ Cond.privateMethod q.1 ∈ tables_1 ∧ Cond.instanceMethod q.1 ∈ tables_1
theorem lw_p0 : lw_okq (⟨"FarCells$Board", "measure", "()V"⟩, 7) := ⟨⟨by decide +kernel, by decide +kernel⟩, List.mem_of_getElem? (i := 32) (by decide +kernel), List.mem_of_getElem? (i := 44) (by decide +kernel), List.mem_of_getElem? (i := 45) (by decide +kernel)⟩
theorem lw_p1 : lw_okq (⟨"FarCells$Board", "direct", "(II)I"⟩, 7) := ⟨⟨by decide +kernel, by decide +kernel⟩, List.mem_of_getElem? (i := 32) (by decide +kernel), List.mem_of_getElem? (i := 48) (by decide +kernel), List.mem_of_getElem? (i := 49) (by decide +kernel)⟩
theorem lw_p2 : lw_okq (⟨"FarCells$Board", "shortenOver", "(I)V"⟩, 7) := ⟨⟨by decide +kernel, by decide +kernel⟩, List.mem_of_getElem? (i := 32) (by decide +kernel), List.mem_of_getElem? (i := 62) (by decide +kernel), List.mem_of_getElem? (i := 63) (by decide +kernel)⟩
theorem lw_p3 : lw_okq (⟨"FarCells$Board", "leastHop", "(II)I"⟩, 7) := ⟨⟨by decide +kernel, by decide +kernel⟩, List.mem_of_getElem? (i := 32) (by decide +kernel), List.mem_of_getElem? (i := 70) (by decide +kernel), List.mem_of_getElem? (i := 71) (by decide +kernel)⟩
theorem lw_p4 : lw_okq (⟨"FarCells$Machine", "allHaveRoom", "()Z"⟩, 19) := ⟨⟨by decide +kernel, by decide +kernel⟩, List.mem_of_getElem? (i := 141) (by decide +kernel), List.mem_of_getElem? (i := 631) (by decide +kernel), List.mem_of_getElem? (i := 632) (by decide +kernel)⟩
theorem lw_p5 : lw_okq (⟨"FarCells$Machine", "serve", "(I)V"⟩, 19) := ⟨⟨by decide +kernel, by decide +kernel⟩, List.mem_of_getElem? (i := 141) (by decide +kernel), List.mem_of_getElem? (i := 681) (by decide +kernel), List.mem_of_getElem? (i := 682) (by decide +kernel)⟩
theorem lw_p6 : lw_okq (⟨"FarCells$Machine", "goes", "(I)Z"⟩, 19) := ⟨⟨by decide +kernel, by decide +kernel⟩, List.mem_of_getElem? (i := 141) (by decide +kernel), List.mem_of_getElem? (i := 698) (by decide +kernel), List.mem_of_getElem? (i := 699) (by decide +kernel)⟩
theorem lw_p7 : lw_okq (⟨"FarCells$Machine", "canBeReached", "()Z"⟩, 19) := ⟨⟨by decide +kernel, by decide +kernel⟩, List.mem_of_getElem? (i := 141) (by decide +kernel), List.mem_of_getElem? (i := 706) (by decide +kernel), List.mem_of_getElem? (i := 707) (by decide +kernel)⟩
theorem lw_p8 : lw_okq (⟨"FarCells$Machine", "placeByRule", "(LFarCells$Page;)Z"⟩, 19) := ⟨⟨by decide +kernel, by decide +kernel⟩, List.mem_of_getElem? (i := 141) (by decide +kernel), List.mem_of_getElem? (i := 711) (by decide +kernel), List.mem_of_getElem? (i := 712) (by decide +kernel)⟩
theorem lw_p9 : lw_okq (⟨"FarCells$Machine", "firstChoice", "()I"⟩, 19) := ⟨⟨by decide +kernel, by decide +kernel⟩, List.mem_of_getElem? (i := 141) (by decide +kernel), List.mem_of_getElem? (i := 715) (by decide +kernel), List.mem_of_getElem? (i := 716) (by decide +kernel)⟩
theorem lw_p10 : lw_okq (⟨"FarCells$Machine", "emptiest", "()I"⟩, 19) := ⟨⟨by decide +kernel, by decide +kernel⟩, List.mem_of_getElem? (i := 141) (by decide +kernel), List.mem_of_getElem? (i := 719) (by decide +kernel), List.mem_of_getElem? (i := 720) (by decide +kernel)⟩
theorem lw_p11 : lw_okq (⟨"FarCells$Machine", "nextWithRoom", "(I)I"⟩, 19) := ⟨⟨by decide +kernel, by decide +kernel⟩, List.mem_of_getElem? (i := 141) (by decide +kernel), List.mem_of_getElem? (i := 723) (by decide +kernel), List.mem_of_getElem? (i := 724) (by decide +kernel)⟩
theorem lw_p12 : lw_okq (⟨"FarCells$Machine", "takeFault", "(LFarCells$Page;)V"⟩, 19) := ⟨⟨by decide +kernel, by decide +kernel⟩, List.mem_of_getElem? (i := 141) (by decide +kernel), List.mem_of_getElem? (i := 749) (by decide +kernel), List.mem_of_getElem? (i := 750) (by decide +kernel)⟩
theorem lw_p13 : lw_okq (⟨"FarCells$Machine", "moveIfItPays", "(LFarCells$Page;)V"⟩, 19) := ⟨⟨by decide +kernel, by decide +kernel⟩, List.mem_of_getElem? (i := 141) (by decide +kernel), List.mem_of_getElem? (i := 758) (by decide +kernel), List.mem_of_getElem? (i := 759) (by decide +kernel)⟩
theorem lw_p14 : lw_okq (⟨"FarCells$Page", "faultsOf", "(I)I"⟩, 9) := ⟨⟨by decide +kernel, by decide +kernel⟩, List.mem_of_getElem? (i := 293) (by decide +kernel), List.mem_of_getElem? (i := 766) (by decide +kernel), List.mem_of_getElem? (i := 767) (by decide +kernel)⟩
theorem lw_p15 : lw_okq (⟨"FarCells$Machine", "perform", "(LFarCells$Page;LFarCells$Worker;)V"⟩, 19) := ⟨⟨by decide +kernel, by decide +kernel⟩, List.mem_of_getElem? (i := 141) (by decide +kernel), List.mem_of_getElem? (i := 776) (by decide +kernel), List.mem_of_getElem? (i := 777) (by decide +kernel)⟩
def lw_privs_1 : List (MethodName × Nat) := [(⟨"FarCells$Board", "measure", "()V"⟩, 7), (⟨"FarCells$Board", "direct", "(II)I"⟩, 7), (⟨"FarCells$Board", "shortenOver", "(I)V"⟩, 7), (⟨"FarCells$Board", "leastHop", "(II)I"⟩, 7), (⟨"FarCells$Machine", "allHaveRoom", "()Z"⟩, 19), (⟨"FarCells$Machine", "serve", "(I)V"⟩, 19), (⟨"FarCells$Machine", "goes", "(I)Z"⟩, 19), (⟨"FarCells$Machine", "canBeReached", "()Z"⟩, 19), (⟨"FarCells$Machine", "placeByRule", "(LFarCells$Page;)Z"⟩, 19), (⟨"FarCells$Machine", "firstChoice", "()I"⟩, 19), (⟨"FarCells$Machine", "emptiest", "()I"⟩, 19), (⟨"FarCells$Machine", "nextWithRoom", "(I)I"⟩, 19), (⟨"FarCells$Machine", "takeFault", "(LFarCells$Page;)V"⟩, 19), (⟨"FarCells$Machine", "moveIfItPays", "(LFarCells$Page;)V"⟩, 19), (⟨"FarCells$Page", "faultsOf", "(I)I"⟩, 9), (⟨"FarCells$Machine", "perform", "(LFarCells$Page;LFarCells$Worker;)V"⟩, 19)]
theorem lw_r1 : ∀ q ∈ lw_privs_1, lw_okq q := List.forall_mem_cons.mpr ⟨lw_p0, List.forall_mem_cons.mpr ⟨lw_p1, List.forall_mem_cons.mpr ⟨lw_p2, List.forall_mem_cons.mpr ⟨lw_p3, List.forall_mem_cons.mpr ⟨lw_p4, List.forall_mem_cons.mpr ⟨lw_p5, List.forall_mem_cons.mpr ⟨lw_p6, List.forall_mem_cons.mpr ⟨lw_p7, List.forall_mem_cons.mpr ⟨lw_p8, List.forall_mem_cons.mpr ⟨lw_p9, List.forall_mem_cons.mpr ⟨lw_p10, List.forall_mem_cons.mpr ⟨lw_p11, List.forall_mem_cons.mpr ⟨lw_p12, List.forall_mem_cons.mpr ⟨lw_p13, List.forall_mem_cons.mpr ⟨lw_p14, List.forall_mem_cons.mpr ⟨lw_p15, fun _ h => absurd h List.not_mem_nil⟩⟩⟩⟩⟩⟩⟩⟩⟩⟩⟩⟩⟩⟩⟩⟩
theorem lw_p16 : lw_okq (⟨"FarCells$Machine", "endCopies", "(LFarCells$Page;)I"⟩, 19) := ⟨⟨by decide +kernel, by decide +kernel⟩, List.mem_of_getElem? (i := 141) (by decide +kernel), List.mem_of_getElem? (i := 780) (by decide +kernel), List.mem_of_getElem? (i := 781) (by decide +kernel)⟩
theorem lw_p17 : lw_okq (⟨"FarCells$Machine", "bringCopy", "(LFarCells$Page;)I"⟩, 19) := ⟨⟨by decide +kernel, by decide +kernel⟩, List.mem_of_getElem? (i := 141) (by decide +kernel), List.mem_of_getElem? (i := 791) (by decide +kernel), List.mem_of_getElem? (i := 792) (by decide +kernel)⟩
theorem lw_p18 : lw_okq (⟨"FarCells$Machine", "enterInBills", "(LFarCells$Page;LFarCells$Worker;)V"⟩, 19) := ⟨⟨by decide +kernel, by decide +kernel⟩, List.mem_of_getElem? (i := 141) (by decide +kernel), List.mem_of_getElem? (i := 795) (by decide +kernel), List.mem_of_getElem? (i := 796) (by decide +kernel)⟩
theorem lw_p19 : lw_okq (⟨"FarCells$Machine", "finishAccesses", "()V"⟩, 19) := ⟨⟨by decide +kernel, by decide +kernel⟩, List.mem_of_getElem? (i := 141) (by decide +kernel), List.mem_of_getElem? (i := 803) (by decide +kernel), List.mem_of_getElem? (i := 804) (by decide +kernel)⟩
theorem lw_p20 : lw_okq (⟨"FarCells$Machine", "hidePages", "()V"⟩, 19) := ⟨⟨by decide +kernel, by decide +kernel⟩, List.mem_of_getElem? (i := 141) (by decide +kernel), List.mem_of_getElem? (i := 808) (by decide +kernel), List.mem_of_getElem? (i := 809) (by decide +kernel)⟩
theorem lw_p21 : lw_okq (⟨"FarCells$Journal", "addAccess", "(ILFarCells$Board;I)V"⟩, 5) := ⟨⟨by decide +kernel, by decide +kernel⟩, List.mem_of_getElem? (i := 271) (by decide +kernel), List.mem_of_getElem? (i := 853) (by decide +kernel), List.mem_of_getElem? (i := 854) (by decide +kernel)⟩
theorem lw_p22 : lw_okq (⟨"FarCells$Journal", "leastOf", "(I)I"⟩, 5) := ⟨⟨by decide +kernel, by decide +kernel⟩, List.mem_of_getElem? (i := 271) (by decide +kernel), List.mem_of_getElem? (i := 857) (by decide +kernel), List.mem_of_getElem? (i := 858) (by decide +kernel)⟩
theorem lw_p23 : lw_okq (⟨"FarCells$Journal", "replay", "()V"⟩, 5) := ⟨⟨by decide +kernel, by decide +kernel⟩, List.mem_of_getElem? (i := 271) (by decide +kernel), List.mem_of_getElem? (i := 903) (by decide +kernel), List.mem_of_getElem? (i := 904) (by decide +kernel)⟩
theorem lw_p24 : lw_okq (⟨"FarCells", "refusalOfPageOn", "(I)I"⟩, 4) := ⟨⟨by decide +kernel, by decide +kernel⟩, List.mem_of_getElem? (i := 24) (by decide +kernel), List.mem_of_getElem? (i := 963) (by decide +kernel), List.mem_of_getElem? (i := 964) (by decide +kernel)⟩
theorem lw_p25 : lw_okq (⟨"java/lang/Throwable", "fillInStackTrace", "(I)Ljava/lang/Throwable;"⟩, 6) := ⟨⟨by decide +kernel, by decide +kernel⟩, List.mem_of_getElem? (i := 1017) (by decide +kernel), List.mem_of_getElem? (i := 1015) (by decide +kernel), List.mem_of_getElem? (i := 1016) (by decide +kernel)⟩
theorem lw_p26 : lw_okq (⟨"FarCellsModel", "measure", "()V"⟩, 65) := ⟨⟨by decide +kernel, by decide +kernel⟩, List.mem_of_getElem? (i := 1092) (by decide +kernel), List.mem_of_getElem? (i := 1101) (by decide +kernel), List.mem_of_getElem? (i := 1102) (by decide +kernel)⟩
theorem lw_p27 : lw_okq (⟨"FarCellsModel", "areLinked", "(II)Z"⟩, 65) := ⟨⟨by decide +kernel, by decide +kernel⟩, List.mem_of_getElem? (i := 1092) (by decide +kernel), List.mem_of_getElem? (i := 1311) (by decide +kernel), List.mem_of_getElem? (i := 1312) (by decide +kernel)⟩
theorem lw_p28 : lw_okq (⟨"FarCellsModel", "isNode", "(I)Z"⟩, 65) := ⟨⟨by decide +kernel, by decide +kernel⟩, List.mem_of_getElem? (i := 1092) (by decide +kernel), List.mem_of_getElem? (i := 1315) (by decide +kernel), List.mem_of_getElem? (i := 1316) (by decide +kernel)⟩
theorem lw_p29 : lw_okq (⟨"FarCellsModel", "isWay", "(II)Z"⟩, 65) := ⟨⟨by decide +kernel, by decide +kernel⟩, List.mem_of_getElem? (i := 1092) (by decide +kernel), List.mem_of_getElem? (i := 1328) (by decide +kernel), List.mem_of_getElem? (i := 1329) (by decide +kernel)⟩
theorem lw_p30 : lw_okq (⟨"FarCellsModel", "behind", "(II)I"⟩, 65) := ⟨⟨by decide +kernel, by decide +kernel⟩, List.mem_of_getElem? (i := 1092) (by decide +kernel), List.mem_of_getElem? (i := 1336) (by decide +kernel), List.mem_of_getElem? (i := 1337) (by decide +kernel)⟩
theorem lw_p31 : lw_okq (⟨"FarCellsModel", "isThread", "(I)Z"⟩, 65) := ⟨⟨by decide +kernel, by decide +kernel⟩, List.mem_of_getElem? (i := 1092) (by decide +kernel), List.mem_of_getElem? (i := 1353) (by decide +kernel), List.mem_of_getElem? (i := 1354) (by decide +kernel)⟩
def lw_privs_2 : List (MethodName × Nat) := [(⟨"FarCells$Machine", "endCopies", "(LFarCells$Page;)I"⟩, 19), (⟨"FarCells$Machine", "bringCopy", "(LFarCells$Page;)I"⟩, 19), (⟨"FarCells$Machine", "enterInBills", "(LFarCells$Page;LFarCells$Worker;)V"⟩, 19), (⟨"FarCells$Machine", "finishAccesses", "()V"⟩, 19), (⟨"FarCells$Machine", "hidePages", "()V"⟩, 19), (⟨"FarCells$Journal", "addAccess", "(ILFarCells$Board;I)V"⟩, 5), (⟨"FarCells$Journal", "leastOf", "(I)I"⟩, 5), (⟨"FarCells$Journal", "replay", "()V"⟩, 5), (⟨"FarCells", "refusalOfPageOn", "(I)I"⟩, 4), (⟨"java/lang/Throwable", "fillInStackTrace", "(I)Ljava/lang/Throwable;"⟩, 6), (⟨"FarCellsModel", "measure", "()V"⟩, 65), (⟨"FarCellsModel", "areLinked", "(II)Z"⟩, 65), (⟨"FarCellsModel", "isNode", "(I)Z"⟩, 65), (⟨"FarCellsModel", "isWay", "(II)Z"⟩, 65), (⟨"FarCellsModel", "behind", "(II)I"⟩, 65), (⟨"FarCellsModel", "isThread", "(I)Z"⟩, 65)]
theorem lw_r2 : ∀ q ∈ lw_privs_2, lw_okq q := List.forall_mem_cons.mpr ⟨lw_p16, List.forall_mem_cons.mpr ⟨lw_p17, List.forall_mem_cons.mpr ⟨lw_p18, List.forall_mem_cons.mpr ⟨lw_p19, List.forall_mem_cons.mpr ⟨lw_p20, List.forall_mem_cons.mpr ⟨lw_p21, List.forall_mem_cons.mpr ⟨lw_p22, List.forall_mem_cons.mpr ⟨lw_p23, List.forall_mem_cons.mpr ⟨lw_p24, List.forall_mem_cons.mpr ⟨lw_p25, List.forall_mem_cons.mpr ⟨lw_p26, List.forall_mem_cons.mpr ⟨lw_p27, List.forall_mem_cons.mpr ⟨lw_p28, List.forall_mem_cons.mpr ⟨lw_p29, List.forall_mem_cons.mpr ⟨lw_p30, List.forall_mem_cons.mpr ⟨lw_p31, fun _ h => absurd h List.not_mem_nil⟩⟩⟩⟩⟩⟩⟩⟩⟩⟩⟩⟩⟩⟩⟩⟩
theorem lw_p32 : lw_okq (⟨"FarCellsModel", "isPage", "(I)Z"⟩, 65) := ⟨⟨by decide +kernel, by decide +kernel⟩, List.mem_of_getElem? (i := 1092) (by decide +kernel), List.mem_of_getElem? (i := 1375) (by decide +kernel), List.mem_of_getElem? (i := 1376) (by decide +kernel)⟩
theorem lw_p33 : lw_okq (⟨"FarCellsModel", "allHaveRoom", "()Z"⟩, 65) := ⟨⟨by decide +kernel, by decide +kernel⟩, List.mem_of_getElem? (i := 1092) (by decide +kernel), List.mem_of_getElem? (i := 1379) (by decide +kernel), List.mem_of_getElem? (i := 1380) (by decide +kernel)⟩
theorem lw_p34 : lw_okq (⟨"FarCellsModel", "hasRoom", "(I)Z"⟩, 65) := ⟨⟨by decide +kernel, by decide +kernel⟩, List.mem_of_getElem? (i := 1092) (by decide +kernel), List.mem_of_getElem? (i := 1383) (by decide +kernel), List.mem_of_getElem? (i := 1384) (by decide +kernel)⟩
theorem lw_p35 : lw_okq (⟨"FarCellsModel", "taken", "(I)I"⟩, 65) := ⟨⟨by decide +kernel, by decide +kernel⟩, List.mem_of_getElem? (i := 1092) (by decide +kernel), List.mem_of_getElem? (i := 1387) (by decide +kernel), List.mem_of_getElem? (i := 1388) (by decide +kernel)⟩
theorem lw_p36 : lw_okq (⟨"FarCellsModel", "oneTick", "()V"⟩, 65) := ⟨⟨by decide +kernel, by decide +kernel⟩, List.mem_of_getElem? (i := 1092) (by decide +kernel), List.mem_of_getElem? (i := 1404) (by decide +kernel), List.mem_of_getElem? (i := 1405) (by decide +kernel)⟩
theorem lw_p37 : lw_okq (⟨"FarCellsModel", "first", "(I)I"⟩, 65) := ⟨⟨by decide +kernel, by decide +kernel⟩, List.mem_of_getElem? (i := 1092) (by decide +kernel), List.mem_of_getElem? (i := 1408) (by decide +kernel), List.mem_of_getElem? (i := 1409) (by decide +kernel)⟩
theorem lw_p38 : lw_okq (⟨"FarCellsModel", "isReady", "(I)Z"⟩, 65) := ⟨⟨by decide +kernel, by decide +kernel⟩, List.mem_of_getElem? (i := 1092) (by decide +kernel), List.mem_of_getElem? (i := 1412) (by decide +kernel), List.mem_of_getElem? (i := 1413) (by decide +kernel)⟩
theorem lw_p39 : lw_okq (⟨"FarCellsModel", "underWay", "(I)I"⟩, 65) := ⟨⟨by decide +kernel, by decide +kernel⟩, List.mem_of_getElem? (i := 1092) (by decide +kernel), List.mem_of_getElem? (i := 1416) (by decide +kernel), List.mem_of_getElem? (i := 1417) (by decide +kernel)⟩
theorem lw_p40 : lw_okq (⟨"FarCellsModel", "tryNext", "(I)V"⟩, 65) := ⟨⟨by decide +kernel, by decide +kernel⟩, List.mem_of_getElem? (i := 1092) (by decide +kernel), List.mem_of_getElem? (i := 1420) (by decide +kernel), List.mem_of_getElem? (i := 1421) (by decide +kernel)⟩
theorem lw_p41 : lw_okq (⟨"FarCellsModel", "isPlaced", "(II)Z"⟩, 65) := ⟨⟨by decide +kernel, by decide +kernel⟩, List.mem_of_getElem? (i := 1092) (by decide +kernel), List.mem_of_getElem? (i := 1424) (by decide +kernel), List.mem_of_getElem? (i := 1425) (by decide +kernel)⟩
theorem lw_p42 : lw_okq (⟨"FarCellsModel", "emptiest", "()I"⟩, 65) := ⟨⟨by decide +kernel, by decide +kernel⟩, List.mem_of_getElem? (i := 1092) (by decide +kernel), List.mem_of_getElem? (i := 1428) (by decide +kernel), List.mem_of_getElem? (i := 1429) (by decide +kernel)⟩
theorem lw_p43 : lw_okq (⟨"FarCellsModel", "fail", "(I)V"⟩, 65) := ⟨⟨by decide +kernel, by decide +kernel⟩, List.mem_of_getElem? (i := 1092) (by decide +kernel), List.mem_of_getElem? (i := 1432) (by decide +kernel), List.mem_of_getElem? (i := 1433) (by decide +kernel)⟩
theorem lw_p44 : lw_okq (⟨"FarCellsModel", "where", "(III)I"⟩, 65) := ⟨⟨by decide +kernel, by decide +kernel⟩, List.mem_of_getElem? (i := 1092) (by decide +kernel), List.mem_of_getElem? (i := 1436) (by decide +kernel), List.mem_of_getElem? (i := 1437) (by decide +kernel)⟩
theorem lw_p45 : lw_okq (⟨"FarCellsModel", "crowded", "(II)I"⟩, 65) := ⟨⟨by decide +kernel, by decide +kernel⟩, List.mem_of_getElem? (i := 1092) (by decide +kernel), List.mem_of_getElem? (i := 1440) (by decide +kernel), List.mem_of_getElem? (i := 1441) (by decide +kernel)⟩
theorem lw_p46 : lw_okq (⟨"FarCellsModel", "useLinks", "(II)V"⟩, 65) := ⟨⟨by decide +kernel, by decide +kernel⟩, List.mem_of_getElem? (i := 1092) (by decide +kernel), List.mem_of_getElem? (i := 1444) (by decide +kernel), List.mem_of_getElem? (i := 1445) (by decide +kernel)⟩
theorem lw_p47 : lw_okq (⟨"FarCellsModel", "faulted", "(II)I"⟩, 65) := ⟨⟨by decide +kernel, by decide +kernel⟩, List.mem_of_getElem? (i := 1092) (by decide +kernel), List.mem_of_getElem? (i := 1448) (by decide +kernel), List.mem_of_getElem? (i := 1449) (by decide +kernel)⟩
def lw_privs_3 : List (MethodName × Nat) := [(⟨"FarCellsModel", "isPage", "(I)Z"⟩, 65), (⟨"FarCellsModel", "allHaveRoom", "()Z"⟩, 65), (⟨"FarCellsModel", "hasRoom", "(I)Z"⟩, 65), (⟨"FarCellsModel", "taken", "(I)I"⟩, 65), (⟨"FarCellsModel", "oneTick", "()V"⟩, 65), (⟨"FarCellsModel", "first", "(I)I"⟩, 65), (⟨"FarCellsModel", "isReady", "(I)Z"⟩, 65), (⟨"FarCellsModel", "underWay", "(I)I"⟩, 65), (⟨"FarCellsModel", "tryNext", "(I)V"⟩, 65), (⟨"FarCellsModel", "isPlaced", "(II)Z"⟩, 65), (⟨"FarCellsModel", "emptiest", "()I"⟩, 65), (⟨"FarCellsModel", "fail", "(I)V"⟩, 65), (⟨"FarCellsModel", "where", "(III)I"⟩, 65), (⟨"FarCellsModel", "crowded", "(II)I"⟩, 65), (⟨"FarCellsModel", "useLinks", "(II)V"⟩, 65), (⟨"FarCellsModel", "faulted", "(II)I"⟩, 65)]
theorem lw_r3 : ∀ q ∈ lw_privs_3, lw_okq q := List.forall_mem_cons.mpr ⟨lw_p32, List.forall_mem_cons.mpr ⟨lw_p33, List.forall_mem_cons.mpr ⟨lw_p34, List.forall_mem_cons.mpr ⟨lw_p35, List.forall_mem_cons.mpr ⟨lw_p36, List.forall_mem_cons.mpr ⟨lw_p37, List.forall_mem_cons.mpr ⟨lw_p38, List.forall_mem_cons.mpr ⟨lw_p39, List.forall_mem_cons.mpr ⟨lw_p40, List.forall_mem_cons.mpr ⟨lw_p41, List.forall_mem_cons.mpr ⟨lw_p42, List.forall_mem_cons.mpr ⟨lw_p43, List.forall_mem_cons.mpr ⟨lw_p44, List.forall_mem_cons.mpr ⟨lw_p45, List.forall_mem_cons.mpr ⟨lw_p46, List.forall_mem_cons.mpr ⟨lw_p47, fun _ h => absurd h List.not_mem_nil⟩⟩⟩⟩⟩⟩⟩⟩⟩⟩⟩⟩⟩⟩⟩⟩
theorem lw_p48 : lw_okq (⟨"FarCellsModel", "keepFault", "(II)V"⟩, 65) := ⟨⟨by decide +kernel, by decide +kernel⟩, List.mem_of_getElem? (i := 1092) (by decide +kernel), List.mem_of_getElem? (i := 1452) (by decide +kernel), List.mem_of_getElem? (i := 1453) (by decide +kernel)⟩
theorem lw_p49 : lw_okq (⟨"FarCellsModel", "wanted", "(I)I"⟩, 65) := ⟨⟨by decide +kernel, by decide +kernel⟩, List.mem_of_getElem? (i := 1092) (by decide +kernel), List.mem_of_getElem? (i := 1456) (by decide +kernel), List.mem_of_getElem? (i := 1457) (by decide +kernel)⟩
theorem lw_p50 : lw_okq (⟨"FarCellsModel", "pays", "(II)Z"⟩, 65) := ⟨⟨by decide +kernel, by decide +kernel⟩, List.mem_of_getElem? (i := 1092) (by decide +kernel), List.mem_of_getElem? (i := 1460) (by decide +kernel), List.mem_of_getElem? (i := 1461) (by decide +kernel)⟩
theorem lw_p51 : lw_okq (⟨"FarCellsModel", "copied", "(IIZ)I"⟩, 65) := ⟨⟨by decide +kernel, by decide +kernel⟩, List.mem_of_getElem? (i := 1092) (by decide +kernel), List.mem_of_getElem? (i := 1464) (by decide +kernel), List.mem_of_getElem? (i := 1465) (by decide +kernel)⟩
theorem lw_p52 : lw_okq (⟨"FarCellsModel", "countBits", "(I)I"⟩, 65) := ⟨⟨by decide +kernel, by decide +kernel⟩, List.mem_of_getElem? (i := 1092) (by decide +kernel), List.mem_of_getElem? (i := 1468) (by decide +kernel), List.mem_of_getElem? (i := 1469) (by decide +kernel)⟩
theorem lw_p53 : lw_okq (⟨"FarCellsModel", "note", "(IIIII)V"⟩, 65) := ⟨⟨by decide +kernel, by decide +kernel⟩, List.mem_of_getElem? (i := 1092) (by decide +kernel), List.mem_of_getElem? (i := 1472) (by decide +kernel), List.mem_of_getElem? (i := 1473) (by decide +kernel)⟩
theorem lw_p54 : lw_okq (⟨"FarCellsModel", "finish", "()V"⟩, 65) := ⟨⟨by decide +kernel, by decide +kernel⟩, List.mem_of_getElem? (i := 1092) (by decide +kernel), List.mem_of_getElem? (i := 1476) (by decide +kernel), List.mem_of_getElem? (i := 1477) (by decide +kernel)⟩
theorem lw_p55 : lw_okq (⟨"FarCellsModel", "queuePlace", "(I)I"⟩, 65) := ⟨⟨by decide +kernel, by decide +kernel⟩, List.mem_of_getElem? (i := 1092) (by decide +kernel), List.mem_of_getElem? (i := 1496) (by decide +kernel), List.mem_of_getElem? (i := 1497) (by decide +kernel)⟩
theorem lw_p56 : lw_okq (⟨"FarCellsModel", "beginOther", "()V"⟩, 65) := ⟨⟨by decide +kernel, by decide +kernel⟩, List.mem_of_getElem? (i := 1092) (by decide +kernel), List.mem_of_getElem? (i := 1529) (by decide +kernel), List.mem_of_getElem? (i := 1530) (by decide +kernel)⟩
theorem lw_p57 : lw_okq (⟨"FarCellsModel", "weightOf", "(I)I"⟩, 65) := ⟨⟨by decide +kernel, by decide +kernel⟩, List.mem_of_getElem? (i := 1092) (by decide +kernel), List.mem_of_getElem? (i := 1548) (by decide +kernel), List.mem_of_getElem? (i := 1549) (by decide +kernel)⟩
theorem lw_p58 : lw_okq (⟨"FarCellsModel", "hasPlaces", "(III)Z"⟩, 65) := ⟨⟨by decide +kernel, by decide +kernel⟩, List.mem_of_getElem? (i := 1092) (by decide +kernel), List.mem_of_getElem? (i := 1564) (by decide +kernel), List.mem_of_getElem? (i := 1565) (by decide +kernel)⟩
theorem lw_p59 : lw_okq (⟨"FarCellsModel", "denied", "(I)I"⟩, 65) := ⟨⟨by decide +kernel, by decide +kernel⟩, List.mem_of_getElem? (i := 1092) (by decide +kernel), List.mem_of_getElem? (i := 1572) (by decide +kernel), List.mem_of_getElem? (i := 1573) (by decide +kernel)⟩
def lw_privs_4 : List (MethodName × Nat) := [(⟨"FarCellsModel", "keepFault", "(II)V"⟩, 65), (⟨"FarCellsModel", "wanted", "(I)I"⟩, 65), (⟨"FarCellsModel", "pays", "(II)Z"⟩, 65), (⟨"FarCellsModel", "copied", "(IIZ)I"⟩, 65), (⟨"FarCellsModel", "countBits", "(I)I"⟩, 65), (⟨"FarCellsModel", "note", "(IIIII)V"⟩, 65), (⟨"FarCellsModel", "finish", "()V"⟩, 65), (⟨"FarCellsModel", "queuePlace", "(I)I"⟩, 65), (⟨"FarCellsModel", "beginOther", "()V"⟩, 65), (⟨"FarCellsModel", "weightOf", "(I)I"⟩, 65), (⟨"FarCellsModel", "hasPlaces", "(III)Z"⟩, 65), (⟨"FarCellsModel", "denied", "(I)I"⟩, 65)]
theorem lw_r4 : ∀ q ∈ lw_privs_4, lw_okq q := List.forall_mem_cons.mpr ⟨lw_p48, List.forall_mem_cons.mpr ⟨lw_p49, List.forall_mem_cons.mpr ⟨lw_p50, List.forall_mem_cons.mpr ⟨lw_p51, List.forall_mem_cons.mpr ⟨lw_p52, List.forall_mem_cons.mpr ⟨lw_p53, List.forall_mem_cons.mpr ⟨lw_p54, List.forall_mem_cons.mpr ⟨lw_p55, List.forall_mem_cons.mpr ⟨lw_p56, List.forall_mem_cons.mpr ⟨lw_p57, List.forall_mem_cons.mpr ⟨lw_p58, List.forall_mem_cons.mpr ⟨lw_p59, fun _ h => absurd h List.not_mem_nil⟩⟩⟩⟩⟩⟩⟩⟩⟩⟩⟩⟩
def lw_privs : List (MethodName × Nat) := lw_privs_1 ++ (lw_privs_2 ++ (lw_privs_3 ++ (lw_privs_4)))
def lw_tbl : List Cond := k2_sels lw_privs ++ tables_1
theorem lw_privs_ok : ∀ q ∈ lw_privs, lw_okq q := by
  show ∀ q ∈ lw_privs_1 ++ (lw_privs_2 ++ (lw_privs_3 ++ (lw_privs_4))), lw_okq q
  exact List.forall_mem_append.mpr ⟨lw_r1, List.forall_mem_append.mpr ⟨lw_r2, List.forall_mem_append.mpr ⟨lw_r3, lw_r4⟩⟩⟩
end
section
def RX0 : String := "FarCells$Attempt"
def TX0 : u_T := fun k => match k with
  | 0 => ("FarCells$Attempt", "thread", "I", false)
  | 1 => ("FarCells$Attempt", "node", "I", false)
  | 2 => ("FarCells$Attempt", "page", "I", false)
  | 3 => ("FarCells$Attempt", "cell", "I", false)
  | 4 => ("FarCells$Attempt", "writes", "Z", false)
  | 5 => ("FarCells$Attempt", "value", "I", false)
  | 6 => ("FarCells$Attempt", "where", "I", false)
  | 7 => ("FarCells$Attempt", "cost", "I", false)
  | 8 => ("FarCells$Attempt", "faulted", "Z", false)
  | _ => ("FarCells$Attempt", "moved", "Z", false)
def tyX0 : Nat → FieldType := fun k => match k with
  | 0 => .int
  | 1 => .int
  | 2 => .int
  | 3 => .int
  | 4 => .boolean
  | 5 => .int
  | 6 => .int
  | 7 => .int
  | 8 => .boolean
  | _ => .boolean
theorem nmX0 : ∀ a, a < 10 → ∀ b, b < 10 → a ≠ b → (TX0 a).2.1 ≠ (TX0 b).2.1 := by decide +kernel
theorem tyX0_ok : ∀ k, k < 10 → parseFieldDescriptor (TX0 k).2.2.1 = some (tyX0 k) := by decide +kernel
abbrev cX0_init : ByteArray := prog_2_method_1_code
def yX0_init : MethodName := ⟨RX0, "<init>", "()V"⟩
abbrev cX0_begin : ByteArray := prog_2_method_2_code
def yX0_begin : MethodName := ⟨RX0, "begin", "(ILFarCells$Worker;)V"⟩
def RX1 : String := "FarCells$Board"
def TX1 : u_T := fun k => match k with
  | 0 => ("FarCells$Board", "nodes", "I", true)
  | 1 => ("FarCells$Board", "processors", "I", true)
  | 2 => ("FarCells$Board", "room", "I", true)
  | 3 => ("FarCells$Board", "price", "[I", true)
  | 4 => ("FarCells$Board", "width", "[I", true)
  | 5 => ("FarCells$Board", "sums", "[I", true)
  | _ => ("FarCells$Board", "hops", "[I", true)
def tyX1 : Nat → FieldType := fun k => match k with
  | 0 => .int
  | 1 => .int
  | 2 => .int
  | 3 => .array .int
  | 4 => .array .int
  | 5 => .array .int
  | _ => .array .int
theorem nmX1 : ∀ a, a < 7 → ∀ b, b < 7 → a ≠ b → (TX1 a).2.1 ≠ (TX1 b).2.1 := by decide +kernel
theorem tyX1_ok : ∀ k, k < 7 → parseFieldDescriptor (TX1 k).2.2.1 = some (tyX1 k) := by decide +kernel
abbrev cX1_init : ByteArray := prog_3_method_1_code
def yX1_init : MethodName := ⟨RX1, "<init>", "(III)V"⟩
abbrev cX1_has : ByteArray := prog_3_method_2_code
def yX1_has : MethodName := ⟨RX1, "has", "(I)Z"⟩
abbrev cX1_joins : ByteArray := prog_3_method_3_code
def yX1_joins : MethodName := ⟨RX1, "joins", "(II)Z"⟩
abbrev cX1_edge : ByteArray := prog_3_method_4_code
def yX1_edge : MethodName := ⟨RX1, "edge", "(II)I"⟩
abbrev cX1_setLink : ByteArray := prog_3_method_5_code
def yX1_setLink : MethodName := ⟨RX1, "setLink", "(IIII)V"⟩
abbrev cX1_distance : ByteArray := prog_3_method_6_code
def yX1_distance : MethodName := ⟨RX1, "distance", "(II)I"⟩
abbrev cX1_reaches : ByteArray := prog_3_method_7_code
def yX1_reaches : MethodName := ⟨RX1, "reaches", "(II)Z"⟩
abbrev cX1_nextNode : ByteArray := prog_3_method_8_code
def yX1_nextNode : MethodName := ⟨RX1, "nextNode", "(II)I"⟩
abbrev cX1_measure : ByteArray := prog_3_method_9_code
def yX1_measure : MethodName := ⟨RX1, "measure", "()V"⟩
abbrev cX1_direct : ByteArray := prog_3_method_10_code
def yX1_direct : MethodName := ⟨RX1, "direct", "(II)I"⟩
abbrev cX1_shortenOver : ByteArray := prog_3_method_11_code
def yX1_shortenOver : MethodName := ⟨RX1, "shortenOver", "(I)V"⟩
abbrev cX1_leastHop : ByteArray := prog_3_method_12_code
def yX1_leastHop : MethodName := ⟨RX1, "leastHop", "(II)I"⟩
def RX2 : String := "FarCells$Journal"
def TX2 : u_T := fun k => match k with
  | 0 => ("FarCells$Journal", "capacity", "I", true)
  | 1 => ("FarCells$Journal", "entries", "[I", true)
  | 2 => ("FarCells$Journal", "size", "I", false)
  | 3 => ("FarCells$Journal", "sums", "[I", true)
  | _ => ("FarCells$Journal", "memory", "[I", true)
def tyX2 : Nat → FieldType := fun k => match k with
  | 0 => .int
  | 1 => .array .int
  | 2 => .int
  | 3 => .array .int
  | _ => .array .int
theorem nmX2 : ∀ a, a < 5 → ∀ b, b < 5 → a ≠ b → (TX2 a).2.1 ≠ (TX2 b).2.1 := by decide +kernel
theorem tyX2_ok : ∀ k, k < 5 → parseFieldDescriptor (TX2 k).2.2.1 = some (tyX2 k) := by decide +kernel
abbrev cX2_init : ByteArray := prog_4_method_1_code
def yX2_init : MethodName := ⟨RX2, "<init>", "(I)V"⟩
abbrev cX2_entry : ByteArray := prog_4_method_2_code
def yX2_entry : MethodName := ⟨RX2, "entry", "(II)I"⟩
abbrev cX2_note : ByteArray := prog_4_method_3_code
def yX2_note : MethodName := ⟨RX2, "note", "(ILFarCells$Attempt;)V"⟩
abbrev cX2_costAboveNearest : ByteArray := prog_4_method_4_code
def yX2_costAboveNearest : MethodName := ⟨RX2, "costAboveNearest", "(I)I"⟩
abbrev cX2_leastSum : ByteArray := prog_4_method_5_code
def yX2_leastSum : MethodName := ⟨RX2, "leastSum", "(ILFarCells$Board;I)I"⟩
abbrev cX2_addAccess : ByteArray := prog_4_method_6_code
def yX2_addAccess : MethodName := ⟨RX2, "addAccess", "(ILFarCells$Board;I)V"⟩
abbrev cX2_leastOf : ByteArray := prog_4_method_7_code
def yX2_leastOf : MethodName := ⟨RX2, "leastOf", "(I)I"⟩
abbrev cX2_endsAlike : ByteArray := prog_4_method_8_code
def yX2_endsAlike : MethodName := ⟨RX2, "endsAlike", "([LFarCells$Page;I)Z"⟩
abbrev cX2_replay : ByteArray := prog_4_method_9_code
def yX2_replay : MethodName := ⟨RX2, "replay", "()V"⟩
def RX3 : String := "FarCells$Machine"
def TX3 : u_T := fun k => match k with
  | 0 => ("FarCells$Machine", "board", "LFarCells$Board;", true)
  | 1 => ("FarCells$Machine", "traffic", "LFarCells$Traffic;", true)
  | 2 => ("FarCells$Machine", "queues", "LFarCells$Queues;", true)
  | 3 => ("FarCells$Machine", "rules", "LFarCells$Rules;", true)
  | 4 => ("FarCells$Machine", "journal", "LFarCells$Journal;", true)
  | 5 => ("FarCells$Machine", "attempt", "LFarCells$Attempt;", true)
  | 6 => ("FarCells$Machine", "pages", "[LFarCells$Page;", true)
  | 7 => ("FarCells$Machine", "workers", "[LFarCells$Worker;", true)
  | 8 => ("FarCells$Machine", "taken", "[I", true)
  | 9 => ("FarCells$Machine", "nodeBills", "[I", true)
  | 10 => ("FarCells$Machine", "pageCount", "I", false)
  | 11 => ("FarCells$Machine", "workerCount", "I", false)
  | 12 => ("FarCells$Machine", "turns", "I", false)
  | 13 => ("FarCells$Machine", "tick", "I", false)
  | 14 => ("FarCells$Machine", "went", "I", false)
  | 15 => ("FarCells$Machine", "cost", "I", false)
  | 16 => ("FarCells$Machine", "faults", "I", false)
  | 17 => ("FarCells$Machine", "moves", "I", false)
  | _ => ("FarCells$Machine", "failed", "I", false)
def tyX3 : Nat → FieldType := fun k => match k with
  | 0 => .object "FarCells$Board"
  | 1 => .object "FarCells$Traffic"
  | 2 => .object "FarCells$Queues"
  | 3 => .object "FarCells$Rules"
  | 4 => .object "FarCells$Journal"
  | 5 => .object "FarCells$Attempt"
  | 6 => .array (.object "FarCells$Page")
  | 7 => .array (.object "FarCells$Worker")
  | 8 => .array .int
  | 9 => .array .int
  | 10 => .int
  | 11 => .int
  | 12 => .int
  | 13 => .int
  | 14 => .int
  | 15 => .int
  | 16 => .int
  | 17 => .int
  | _ => .int
theorem nmX3 : ∀ a, a < 19 → ∀ b, b < 19 → a ≠ b → (TX3 a).2.1 ≠ (TX3 b).2.1 := by decide +kernel
theorem tyX3_ok : ∀ k, k < 19 → parseFieldDescriptor (TX3 k).2.2.1 = some (tyX3 k) := by decide +kernel
abbrev cX3_init : ByteArray := prog_5_method_1_code
def yX3_init : MethodName := ⟨RX3, "<init>", "(LFarCells$Board;[LFarCells$Script;I)V"⟩
abbrev cX3_beginLike : ByteArray := prog_5_method_2_code
def yX3_beginLike : MethodName := ⟨RX3, "beginLike", "(LFarCells$Machine;)V"⟩
abbrev cX3_hasPage : ByteArray := prog_5_method_3_code
def yX3_hasPage : MethodName := ⟨RX3, "hasPage", "(I)Z"⟩
abbrev cX3_hasWorker : ByteArray := prog_5_method_4_code
def yX3_hasWorker : MethodName := ⟨RX3, "hasWorker", "(I)Z"⟩
abbrev cX3_addPage : ByteArray := prog_5_method_5_code
def yX3_addPage : MethodName := ⟨RX3, "addPage", "(I)I"⟩
abbrev cX3_addWorker : ByteArray := prog_5_method_6_code
def yX3_addWorker : MethodName := ⟨RX3, "addWorker", "(I)I"⟩
abbrev cX3_freeProcessors : ByteArray := prog_5_method_7_code
def yX3_freeProcessors : MethodName := ⟨RX3, "freeProcessors", "(I)I"⟩
abbrev cX3_hasRoom : ByteArray := prog_5_method_8_code
def yX3_hasRoom : MethodName := ⟨RX3, "hasRoom", "(I)Z"⟩
abbrev cX3_fits : ByteArray := prog_5_method_9_code
def yX3_fits : MethodName := ⟨RX3, "fits", "(LFarCells$Page;I)Z"⟩
abbrev cX3_allHaveRoom : ByteArray := prog_5_method_10_code
def yX3_allHaveRoom : MethodName := ⟨RX3, "allHaveRoom", "()Z"⟩
abbrev cX3_lay : ByteArray := prog_5_method_11_code
def yX3_lay : MethodName := ⟨RX3, "lay", "(LFarCells$Page;I)V"⟩
abbrev cX3_doTick : ByteArray := prog_5_method_12_code
def yX3_doTick : MethodName := ⟨RX3, "doTick", "()V"⟩
abbrev cX3_serve : ByteArray := prog_5_method_13_code
def yX3_serve : MethodName := ⟨RX3, "serve", "(I)V"⟩
abbrev cX3_finishAccesses : ByteArray := prog_5_method_14_code
def yX3_finishAccesses : MethodName := ⟨RX3, "finishAccesses", "()V"⟩
abbrev cX3_hidePages : ByteArray := prog_5_method_15_code
def yX3_hidePages : MethodName := ⟨RX3, "hidePages", "()V"⟩
abbrev cX3_goes : ByteArray := prog_5_method_16_code
def yX3_goes : MethodName := ⟨RX3, "goes", "(I)Z"⟩
abbrev cX3_canBeReached : ByteArray := prog_5_method_17_code
def yX3_canBeReached : MethodName := ⟨RX3, "canBeReached", "()Z"⟩
abbrev cX3_placeByRule : ByteArray := prog_5_method_18_code
def yX3_placeByRule : MethodName := ⟨RX3, "placeByRule", "(LFarCells$Page;)Z"⟩
abbrev cX3_firstChoice : ByteArray := prog_5_method_19_code
def yX3_firstChoice : MethodName := ⟨RX3, "firstChoice", "()I"⟩
abbrev cX3_emptiest : ByteArray := prog_5_method_20_code
def yX3_emptiest : MethodName := ⟨RX3, "emptiest", "()I"⟩
abbrev cX3_nextWithRoom : ByteArray := prog_5_method_21_code
def yX3_nextWithRoom : MethodName := ⟨RX3, "nextWithRoom", "(I)I"⟩
abbrev cX3_perform : ByteArray := prog_5_method_22_code
def yX3_perform : MethodName := ⟨RX3, "perform", "(LFarCells$Page;LFarCells$Worker;)V"⟩
abbrev cX3_takeFault : ByteArray := prog_5_method_23_code
def yX3_takeFault : MethodName := ⟨RX3, "takeFault", "(LFarCells$Page;)V"⟩
abbrev cX3_moveIfItPays : ByteArray := prog_5_method_24_code
def yX3_moveIfItPays : MethodName := ⟨RX3, "moveIfItPays", "(LFarCells$Page;)V"⟩
abbrev cX3_bringCopy : ByteArray := prog_5_method_25_code
def yX3_bringCopy : MethodName := ⟨RX3, "bringCopy", "(LFarCells$Page;)I"⟩
abbrev cX3_endCopies : ByteArray := prog_5_method_26_code
def yX3_endCopies : MethodName := ⟨RX3, "endCopies", "(LFarCells$Page;)I"⟩
abbrev cX3_enterInBills : ByteArray := prog_5_method_27_code
def yX3_enterInBills : MethodName := ⟨RX3, "enterInBills", "(LFarCells$Page;LFarCells$Worker;)V"⟩
def RX4 : String := "FarCells$Page"
def TX4 : u_T := fun k => match k with
  | 0 => ("FarCells$Page", "cells", "[I", true)
  | 1 => ("FarCells$Page", "faults", "[I", true)
  | 2 => ("FarCells$Page", "kind", "I", false)
  | 3 => ("FarCells$Page", "home", "I", false)
  | 4 => ("FarCells$Page", "copies", "I", false)
  | 5 => ("FarCells$Page", "faultCount", "I", false)
  | 6 => ("FarCells$Page", "moves", "I", false)
  | 7 => ("FarCells$Page", "bill", "I", false)
  | _ => ("FarCells$Page", "hidden", "Z", false)
def tyX4 : Nat → FieldType := fun k => match k with
  | 0 => .array .int
  | 1 => .array .int
  | 2 => .int
  | 3 => .int
  | 4 => .int
  | 5 => .int
  | 6 => .int
  | 7 => .int
  | _ => .boolean
theorem nmX4 : ∀ a, a < 9 → ∀ b, b < 9 → a ≠ b → (TX4 a).2.1 ≠ (TX4 b).2.1 := by decide +kernel
theorem tyX4_ok : ∀ k, k < 9 → parseFieldDescriptor (TX4 k).2.2.1 = some (tyX4 k) := by decide +kernel
abbrev cX4_init : ByteArray := prog_6_method_1_code
def yX4_init : MethodName := ⟨RX4, "<init>", "()V"⟩
abbrev cX4_begin : ByteArray := prog_6_method_2_code
def yX4_begin : MethodName := ⟨RX4, "begin", "(I)V"⟩
abbrev cX4_hasCopyOn : ByteArray := prog_6_method_3_code
def yX4_hasCopyOn : MethodName := ⟨RX4, "hasCopyOn", "(I)Z"⟩
abbrev cX4_whereFor : ByteArray := prog_6_method_4_code
def yX4_whereFor : MethodName := ⟨RX4, "whereFor", "(III)I"⟩
abbrev cX4_noteFault : ByteArray := prog_6_method_5_code
def yX4_noteFault : MethodName := ⟨RX4, "noteFault", "(I)V"⟩
abbrev cX4_wanted : ByteArray := prog_6_method_6_code
def yX4_wanted : MethodName := ⟨RX4, "wanted", "()I"⟩
abbrev cX4_faultsOf : ByteArray := prog_6_method_7_code
def yX4_faultsOf : MethodName := ⟨RX4, "faultsOf", "(I)I"⟩
abbrev cX4_savingAt : ByteArray := prog_6_method_8_code
def yX4_savingAt : MethodName := ⟨RX4, "savingAt", "(ILFarCells$Board;)I"⟩
def RX5 : String := "FarCells$Queues"
def TX5 : u_T := fun k => match k with
  | 0 => ("FarCells$Queues", "order", "[I", true)
  | _ => ("FarCells$Queues", "size", "[I", true)
def tyX5 : Nat → FieldType := fun k => match k with
  | 0 => .array .int
  | _ => .array .int
theorem nmX5 : ∀ a, a < 2 → ∀ b, b < 2 → a ≠ b → (TX5 a).2.1 ≠ (TX5 b).2.1 := by decide +kernel
theorem tyX5_ok : ∀ k, k < 2 → parseFieldDescriptor (TX5 k).2.2.1 = some (tyX5 k) := by decide +kernel
abbrev cX5_init : ByteArray := prog_7_method_1_code
def yX5_init : MethodName := ⟨RX5, "<init>", "()V"⟩
abbrev cX5_begin : ByteArray := prog_7_method_2_code
def yX5_begin : MethodName := ⟨RX5, "begin", "()V"⟩
abbrev cX5_at : ByteArray := prog_7_method_3_code
def yX5_at : MethodName := ⟨RX5, "at", "(II)I"⟩
abbrev cX5_append : ByteArray := prog_7_method_4_code
def yX5_append : MethodName := ⟨RX5, "append", "(II)V"⟩
abbrev cX5_placeOf : ByteArray := prog_7_method_5_code
def yX5_placeOf : MethodName := ⟨RX5, "placeOf", "(II)I"⟩
abbrev cX5_drop : ByteArray := prog_7_method_6_code
def yX5_drop : MethodName := ⟨RX5, "drop", "(II)V"⟩
abbrev cX5_exchange : ByteArray := prog_7_method_7_code
def yX5_exchange : MethodName := ⟨RX5, "exchange", "(IIII)V"⟩
def RX6 : String := "FarCells$Rules"
def TX6 : u_T := fun k => match k with
  | 0 => ("FarCells$Rules", "placing", "I", false)
  | 1 => ("FarCells$Rules", "every", "I", false)
  | 2 => ("FarCells$Rules", "gain", "I", false)
  | 3 => ("FarCells$Rules", "faultPrice", "I", false)
  | _ => ("FarCells$Rules", "movePrice", "I", false)
def tyX6 : Nat → FieldType := fun k => match k with
  | 0 => .int
  | 1 => .int
  | 2 => .int
  | 3 => .int
  | _ => .int
theorem nmX6 : ∀ a, a < 5 → ∀ b, b < 5 → a ≠ b → (TX6 a).2.1 ≠ (TX6 b).2.1 := by decide +kernel
theorem tyX6_ok : ∀ k, k < 5 → parseFieldDescriptor (TX6 k).2.2.1 = some (tyX6 k) := by decide +kernel
abbrev cX6_init : ByteArray := prog_8_method_1_code
def yX6_init : MethodName := ⟨RX6, "<init>", "()V"⟩
abbrev cX6_choose : ByteArray := prog_8_method_2_code
def yX6_choose : MethodName := ⟨RX6, "choose", "(III)V"⟩
abbrev cX6_setPrices : ByteArray := prog_8_method_3_code
def yX6_setPrices : MethodName := ⟨RX6, "setPrices", "(II)V"⟩
def RX7 : String := "FarCells$Script"
def TX7 : u_T := fun k => match k with
  | 0 => ("FarCells$Script", "pages", "[I", true)
  | 1 => ("FarCells$Script", "cells", "[I", true)
  | 2 => ("FarCells$Script", "writes", "[Z", true)
  | 3 => ("FarCells$Script", "values", "[I", true)
  | _ => ("FarCells$Script", "told", "I", false)
def tyX7 : Nat → FieldType := fun k => match k with
  | 0 => .array .int
  | 1 => .array .int
  | 2 => .array .boolean
  | 3 => .array .int
  | _ => .int
theorem nmX7 : ∀ a, a < 5 → ∀ b, b < 5 → a ≠ b → (TX7 a).2.1 ≠ (TX7 b).2.1 := by decide +kernel
theorem tyX7_ok : ∀ k, k < 5 → parseFieldDescriptor (TX7 k).2.2.1 = some (tyX7 k) := by decide +kernel
abbrev cX7_init : ByteArray := prog_9_method_1_code
def yX7_init : MethodName := ⟨RX7, "<init>", "()V"⟩
abbrev cX7_tell : ByteArray := prog_9_method_2_code
def yX7_tell : MethodName := ⟨RX7, "tell", "(IIZI)I"⟩
def RX8 : String := "FarCells$Shelf"
def TX8 : u_T := fun k => match k with
  | 0 => ("FarCells$Shelf", "bytes", "[B", true)
  | 1 => ("FarCells$Shelf", "ints", "[I", true)
  | 2 => ("FarCells$Shelf", "what", "I", false)
  | 3 => ("FarCells$Shelf", "size", "I", false)
  | 4 => ("FarCells$Shelf", "number", "I", false)
  | 5 => ("FarCells$Shelf", "kind", "I", false)
  | 6 => ("FarCells$Shelf", "copies", "I", false)
  | _ => ("FarCells$Shelf", "home", "I", false)
def tyX8 : Nat → FieldType := fun k => match k with
  | 0 => .array .byte
  | 1 => .array .int
  | 2 => .int
  | 3 => .int
  | 4 => .int
  | 5 => .int
  | 6 => .int
  | _ => .int
theorem nmX8 : ∀ a, a < 8 → ∀ b, b < 8 → a ≠ b → (TX8 a).2.1 ≠ (TX8 b).2.1 := by decide +kernel
theorem tyX8_ok : ∀ k, k < 8 → parseFieldDescriptor (TX8 k).2.2.1 = some (tyX8 k) := by decide +kernel
abbrev cX8_init : ByteArray := prog_10_method_1_code
def yX8_init : MethodName := ⟨RX8, "<init>", "()V"⟩
abbrev cX8_holdPage : ByteArray := prog_10_method_2_code
def yX8_holdPage : MethodName := ⟨RX8, "holdPage", "(ILFarCells$Page;)V"⟩
abbrev cX8_holdNodes : ByteArray := prog_10_method_3_code
def yX8_holdNodes : MethodName := ⟨RX8, "holdNodes", "([LFarCells$Worker;I)V"⟩
abbrev cX8_holdCells : ByteArray := prog_10_method_4_code
def yX8_holdCells : MethodName := ⟨RX8, "holdCells", "(LFarCells$Page;)V"⟩
abbrev cX8_holdZeros : ByteArray := prog_10_method_5_code
def yX8_holdZeros : MethodName := ⟨RX8, "holdZeros", "(II)V"⟩
abbrev cX8_isRow : ByteArray := prog_10_method_6_code
def yX8_isRow : MethodName := ⟨RX8, "isRow", "()Z"⟩
abbrev cX8_hasStretch : ByteArray := prog_10_method_7_code
def yX8_hasStretch : MethodName := ⟨RX8, "hasStretch", "(II)Z"⟩
abbrev cX8_heaviness : ByteArray := prog_10_method_8_code
def yX8_heaviness : MethodName := ⟨RX8, "heaviness", "()I"⟩
abbrev cX8_throwFailure : ByteArray := prog_10_method_9_code
def yX8_throwFailure : MethodName := ⟨RX8, "throwFailure", "()V"⟩
def RX9 : String := "FarCells$Traffic"
def TX9 : u_T := fun k => match k with
  | 0 => ("FarCells$Traffic", "board", "LFarCells$Board;", true)
  | 1 => ("FarCells$Traffic", "carried", "[I", true)
  | 2 => ("FarCells$Traffic", "waits", "[I", true)
  | _ => ("FarCells$Traffic", "inTick", "[I", true)
def tyX9 : Nat → FieldType := fun k => match k with
  | 0 => .object "FarCells$Board"
  | 1 => .array .int
  | 2 => .array .int
  | _ => .array .int
theorem nmX9 : ∀ a, a < 4 → ∀ b, b < 4 → a ≠ b → (TX9 a).2.1 ≠ (TX9 b).2.1 := by decide +kernel
theorem tyX9_ok : ∀ k, k < 4 → parseFieldDescriptor (TX9 k).2.2.1 = some (tyX9 k) := by decide +kernel
abbrev cX9_init : ByteArray := prog_11_method_1_code
def yX9_init : MethodName := ⟨RX9, "<init>", "(LFarCells$Board;)V"⟩
abbrev cX9_begin : ByteArray := prog_11_method_2_code
def yX9_begin : MethodName := ⟨RX9, "begin", "()V"⟩
abbrev cX9_openTick : ByteArray := prog_11_method_3_code
def yX9_openTick : MethodName := ⟨RX9, "openTick", "()V"⟩
abbrev cX9_holdsUp : ByteArray := prog_11_method_4_code
def yX9_holdsUp : MethodName := ⟨RX9, "holdsUp", "(II)Z"⟩
abbrev cX9_carry : ByteArray := prog_11_method_5_code
def yX9_carry : MethodName := ⟨RX9, "carry", "(II)V"⟩
def RX10 : String := "FarCells$Worker"
def TX10 : u_T := fun k => match k with
  | 0 => ("FarCells$Worker", "script", "LFarCells$Script;", true)
  | 1 => ("FarCells$Worker", "node", "I", false)
  | 2 => ("FarCells$Worker", "gone", "I", false)
  | 3 => ("FarCells$Worker", "toGo", "I", false)
  | 4 => ("FarCells$Worker", "waits", "I", false)
  | 5 => ("FarCells$Worker", "bill", "I", false)
  | 6 => ("FarCells$Worker", "lastRead", "I", false)
  | _ => ("FarCells$Worker", "ended", "Z", false)
def tyX10 : Nat → FieldType := fun k => match k with
  | 0 => .object "FarCells$Script"
  | 1 => .int
  | 2 => .int
  | 3 => .int
  | 4 => .int
  | 5 => .int
  | 6 => .int
  | _ => .boolean
theorem nmX10 : ∀ a, a < 8 → ∀ b, b < 8 → a ≠ b → (TX10 a).2.1 ≠ (TX10 b).2.1 := by decide +kernel
theorem tyX10_ok : ∀ k, k < 8 → parseFieldDescriptor (TX10 k).2.2.1 = some (tyX10 k) := by decide +kernel
abbrev cX10_init : ByteArray := prog_12_method_1_code
def yX10_init : MethodName := ⟨RX10, "<init>", "(LFarCells$Script;)V"⟩
abbrev cX10_begin : ByteArray := prog_12_method_2_code
def yX10_begin : MethodName := ⟨RX10, "begin", "(I)V"⟩
abbrev cX10_left : ByteArray := prog_12_method_3_code
def yX10_left : MethodName := ⟨RX10, "left", "()I"⟩
abbrev cX10_isReady : ByteArray := prog_12_method_4_code
def yX10_isReady : MethodName := ⟨RX10, "isReady", "()Z"⟩
def RX11 : String := "FarCells"
def TX11 : u_T := fun k => match k with
  | 0 => ("FarCells", "board", "LFarCells$Board;", true)
  | 1 => ("FarCells", "machine", "LFarCells$Machine;", true)
  | 2 => ("FarCells", "trial", "LFarCells$Machine;", true)
  | _ => ("FarCells", "shelves", "[LFarCells$Shelf;", true)
def tyX11 : Nat → FieldType := fun k => match k with
  | 0 => .object "FarCells$Board"
  | 1 => .object "FarCells$Machine"
  | 2 => .object "FarCells$Machine"
  | _ => .array (.object "FarCells$Shelf")
theorem nmX11 : ∀ a, a < 4 → ∀ b, b < 4 → a ≠ b → (TX11 a).2.1 ≠ (TX11 b).2.1 := by decide +kernel
theorem tyX11_ok : ∀ k, k < 4 → parseFieldDescriptor (TX11 k).2.2.1 = some (tyX11 k) := by decide +kernel
abbrev cX11_init : ByteArray := prog_1_method_1_code
def yX11_init : MethodName := ⟨RX11, "<init>", "(III)V"⟩
abbrev cX11_link : ByteArray := prog_1_method_2_code
def yX11_link : MethodName := ⟨RX11, "link", "(IIII)I"⟩
abbrev cX11_far : ByteArray := prog_1_method_3_code
def yX11_far : MethodName := ⟨RX11, "far", "(II)I"⟩
abbrev cX11_way : ByteArray := prog_1_method_4_code
def yX11_way : MethodName := ⟨RX11, "way", "(III)I"⟩
abbrev cX11_page : ByteArray := prog_1_method_5_code
def yX11_page : MethodName := ⟨RX11, "page", "(I)I"⟩
abbrev cX11_thread : ByteArray := prog_1_method_6_code
def yX11_thread : MethodName := ⟨RX11, "thread", "(I)I"⟩
abbrev cX11_access : ByteArray := prog_1_method_7_code
def yX11_access : MethodName := ⟨RX11, "access", "(IIIZI)I"⟩
abbrev cX11_rule : ByteArray := prog_1_method_8_code
def yX11_rule : MethodName := ⟨RX11, "rule", "(III)I"⟩
abbrev cX11_prices : ByteArray := prog_1_method_9_code
def yX11_prices : MethodName := ⟨RX11, "prices", "(II)I"⟩
abbrev cX11_place : ByteArray := prog_1_method_10_code
def yX11_place : MethodName := ⟨RX11, "place", "(II)I"⟩
abbrev cX11_settle : ByteArray := prog_1_method_11_code
def yX11_settle : MethodName := ⟨RX11, "settle", "(II)I"⟩
abbrev cX11_swap : ByteArray := prog_1_method_12_code
def yX11_swap : MethodName := ⟨RX11, "swap", "(II)I"⟩
abbrev cX11_run : ByteArray := prog_1_method_13_code
def yX11_run : MethodName := ⟨RX11, "run", "(I)I"⟩
abbrev cX11_look : ByteArray := prog_1_method_14_code
def yX11_look : MethodName := ⟨RX11, "look", "(II)I"⟩
abbrev cX11_fault : ByteArray := prog_1_method_15_code
def yX11_fault : MethodName := ⟨RX11, "fault", "(II)I"⟩
abbrev cX11_cell : ByteArray := prog_1_method_16_code
def yX11_cell : MethodName := ⟨RX11, "cell", "(II)I"⟩
abbrev cX11_about : ByteArray := prog_1_method_17_code
def yX11_about : MethodName := ⟨RX11, "about", "(II)I"⟩
abbrev cX11_read : ByteArray := prog_1_method_18_code
def yX11_read : MethodName := ⟨RX11, "read", "(I)I"⟩
abbrev cX11_node : ByteArray := prog_1_method_19_code
def yX11_node : MethodName := ⟨RX11, "node", "(II)I"⟩
abbrev cX11_linked : ByteArray := prog_1_method_20_code
def yX11_linked : MethodName := ⟨RX11, "linked", "(III)I"⟩
abbrev cX11_log : ByteArray := prog_1_method_21_code
def yX11_log : MethodName := ⟨RX11, "log", "(II)I"⟩
abbrev cX11_best : ByteArray := prog_1_method_22_code
def yX11_best : MethodName := ⟨RX11, "best", "(I)I"⟩
abbrev cX11_gap : ByteArray := prog_1_method_23_code
def yX11_gap : MethodName := ⟨RX11, "gap", "(I)I"⟩
abbrev cX11_other : ByteArray := prog_1_method_24_code
def yX11_other : MethodName := ⟨RX11, "other", "(IIII)I"⟩
abbrev cX11_same : ByteArray := prog_1_method_25_code
def yX11_same : MethodName := ⟨RX11, "same", "()I"⟩
abbrev cX11_count : ByteArray := prog_1_method_26_code
def yX11_count : MethodName := ⟨RX11, "count", "(I)I"⟩
abbrev cX11_keep : ByteArray := prog_1_method_27_code
def yX11_keep : MethodName := ⟨RX11, "keep", "(III)I"⟩
abbrev cX11_make : ByteArray := prog_1_method_28_code
def yX11_make : MethodName := ⟨RX11, "make", "(III)I"⟩
abbrev cX11_element : ByteArray := prog_1_method_29_code
def yX11_element : MethodName := ⟨RX11, "element", "(II)J"⟩
abbrev cX11_copy : ByteArray := prog_1_method_30_code
def yX11_copy : MethodName := ⟨RX11, "copy", "(IIIII)I"⟩
abbrev cX11_weight : ByteArray := prog_1_method_31_code
def yX11_weight : MethodName := ⟨RX11, "weight", "(I)I"⟩
abbrev cX11_toss : ByteArray := prog_1_method_32_code
def yX11_toss : MethodName := ⟨RX11, "toss", "(I)I"⟩
abbrev cX11_refusalOfPageOn : ByteArray := prog_1_method_33_code
def yX11_refusalOfPageOn : MethodName := ⟨RX11, "refusalOfPageOn", "(I)I"⟩
abbrev cX11_isShelf : ByteArray := prog_1_method_34_code
def yX11_isShelf : MethodName := ⟨RX11, "isShelf", "(I)Z"⟩
abbrev cX11_ruleIsAllowed : ByteArray := prog_1_method_35_code
def yX11_ruleIsAllowed : MethodName := ⟨RX11, "ruleIsAllowed", "(III)Z"⟩
abbrev cX11_within : ByteArray := prog_1_method_36_code
def yX11_within : MethodName := ⟨RX11, "within", "(III)Z"⟩
def RX12 : String := "FarCellsModel"
def TX12 : u_T := fun k => match k with
  | 0 => ("FarCellsModel", "thrown", "I", false)
  | 1 => ("FarCellsModel", "nodes", "I", true)
  | 2 => ("FarCellsModel", "processors", "I", true)
  | 3 => ("FarCellsModel", "room", "I", true)
  | 4 => ("FarCellsModel", "price", "[I", true)
  | 5 => ("FarCellsModel", "width", "[I", true)
  | 6 => ("FarCellsModel", "far", "[I", true)
  | 7 => ("FarCellsModel", "pages", "I", false)
  | 8 => ("FarCellsModel", "kind", "[I", true)
  | 9 => ("FarCellsModel", "threads", "I", false)
  | 10 => ("FarCellsModel", "told", "[I", true)
  | 11 => ("FarCellsModel", "aPage", "[I", true)
  | 12 => ("FarCellsModel", "aCell", "[I", true)
  | 13 => ("FarCellsModel", "aWrites", "[Z", true)
  | 14 => ("FarCellsModel", "aValue", "[I", true)
  | 15 => ("FarCellsModel", "faultPrice", "I", false)
  | 16 => ("FarCellsModel", "movePrice", "I", false)
  | 17 => ("FarCellsModel", "w", "I", false)
  | 18 => ("FarCellsModel", "placing", "[I", true)
  | 19 => ("FarCellsModel", "every", "[I", true)
  | 20 => ("FarCellsModel", "gain", "[I", true)
  | 21 => ("FarCellsModel", "tick", "[I", true)
  | 22 => ("FarCellsModel", "turns", "[I", true)
  | 23 => ("FarCellsModel", "went", "[I", true)
  | 24 => ("FarCellsModel", "cost", "[J", true)
  | 25 => ("FarCellsModel", "faults", "[I", true)
  | 26 => ("FarCellsModel", "moves", "[I", true)
  | 27 => ("FarCellsModel", "failed", "[I", true)
  | 28 => ("FarCellsModel", "stamps", "[I", true)
  | 29 => ("FarCellsModel", "lies", "[I", true)
  | 30 => ("FarCellsModel", "copies", "[I", true)
  | 31 => ("FarCellsModel", "hidden", "[Z", true)
  | 32 => ("FarCellsModel", "faultMany", "[I", true)
  | 33 => ("FarCellsModel", "faultNode", "[I", true)
  | 34 => ("FarCellsModel", "moved", "[I", true)
  | 35 => ("FarCellsModel", "pageBill", "[J", true)
  | 36 => ("FarCellsModel", "cell", "[I", true)
  | 37 => ("FarCellsModel", "at", "[I", true)
  | 38 => ("FarCellsModel", "stamp", "[I", true)
  | 39 => ("FarCellsModel", "next", "[I", true)
  | 40 => ("FarCellsModel", "toGo", "[I", true)
  | 41 => ("FarCellsModel", "waits", "[I", true)
  | 42 => ("FarCellsModel", "ended", "[Z", true)
  | 43 => ("FarCellsModel", "threadWent", "[I", true)
  | 44 => ("FarCellsModel", "threadBill", "[J", true)
  | 45 => ("FarCellsModel", "lastRead", "[I", true)
  | 46 => ("FarCellsModel", "tried", "[Z", true)
  | 47 => ("FarCellsModel", "nodeBill", "[J", true)
  | 48 => ("FarCellsModel", "linkNow", "[I", true)
  | 49 => ("FarCellsModel", "linkWent", "[I", true)
  | 50 => ("FarCellsModel", "linkWaits", "[I", true)
  | 51 => ("FarCellsModel", "logged", "I", false)
  | 52 => ("FarCellsModel", "log", "[I", true)
  | 53 => ("FarCellsModel", "logValue", "[I", true)
  | 54 => ("FarCellsModel", "didFault", "Z", false)
  | 55 => ("FarCellsModel", "didMove", "Z", false)
  | 56 => ("FarCellsModel", "sum", "[J", true)
  | 57 => ("FarCellsModel", "then", "[J", true)
  | 58 => ("FarCellsModel", "plain", "[I", true)
  | 59 => ("FarCellsModel", "shelf", "[I", true)
  | 60 => ("FarCellsModel", "shelfSize", "[I", true)
  | 61 => ("FarCellsModel", "shelfWeight", "[I", true)
  | 62 => ("FarCellsModel", "shelfFailure", "[I", true)
  | 63 => ("FarCellsModel", "shelfRow", "[I", true)
  | _ => ("FarCellsModel", "between", "[I", true)
def tyX12 : Nat → FieldType := fun k => match k with
  | 0 => .int
  | 1 => .int
  | 2 => .int
  | 3 => .int
  | 4 => .array .int
  | 5 => .array .int
  | 6 => .array .int
  | 7 => .int
  | 8 => .array .int
  | 9 => .int
  | 10 => .array .int
  | 11 => .array .int
  | 12 => .array .int
  | 13 => .array .boolean
  | 14 => .array .int
  | 15 => .int
  | 16 => .int
  | 17 => .int
  | 18 => .array .int
  | 19 => .array .int
  | 20 => .array .int
  | 21 => .array .int
  | 22 => .array .int
  | 23 => .array .int
  | 24 => .array .long
  | 25 => .array .int
  | 26 => .array .int
  | 27 => .array .int
  | 28 => .array .int
  | 29 => .array .int
  | 30 => .array .int
  | 31 => .array .boolean
  | 32 => .array .int
  | 33 => .array .int
  | 34 => .array .int
  | 35 => .array .long
  | 36 => .array .int
  | 37 => .array .int
  | 38 => .array .int
  | 39 => .array .int
  | 40 => .array .int
  | 41 => .array .int
  | 42 => .array .boolean
  | 43 => .array .int
  | 44 => .array .long
  | 45 => .array .int
  | 46 => .array .boolean
  | 47 => .array .long
  | 48 => .array .int
  | 49 => .array .int
  | 50 => .array .int
  | 51 => .int
  | 52 => .array .int
  | 53 => .array .int
  | 54 => .boolean
  | 55 => .boolean
  | 56 => .array .long
  | 57 => .array .long
  | 58 => .array .int
  | 59 => .array .int
  | 60 => .array .int
  | 61 => .array .int
  | 62 => .array .int
  | 63 => .array .int
  | _ => .array .int
theorem nmX12 : ∀ a, a < 65 → ∀ b, b < 65 → a ≠ b → (TX12 a).2.1 ≠ (TX12 b).2.1 := by decide +kernel
theorem tyX12_ok : ∀ k, k < 65 → parseFieldDescriptor (TX12 k).2.2.1 = some (tyX12 k) := by decide +kernel
abbrev cX12_init : ByteArray := prog_14_method_1_code
def yX12_init : MethodName := ⟨RX12, "<init>", "(III)V"⟩
abbrev cX12_mod : ByteArray := prog_14_method_2_code
def yX12_mod : MethodName := ⟨RX12, "mod", "(II)I"⟩
abbrev cX12_thrown : ByteArray := prog_14_method_3_code
def yX12_thrown : MethodName := ⟨RX12, "thrown", "()I"⟩
abbrev cX12_isIn : ByteArray := prog_14_method_4_code
def yX12_isIn : MethodName := ⟨RX12, "isIn", "(JJJ)Z"⟩
abbrev cX12_isNode : ByteArray := prog_14_method_5_code
def yX12_isNode : MethodName := ⟨RX12, "isNode", "(I)Z"⟩
abbrev cX12_isPage : ByteArray := prog_14_method_6_code
def yX12_isPage : MethodName := ⟨RX12, "isPage", "(I)Z"⟩
abbrev cX12_isThread : ByteArray := prog_14_method_7_code
def yX12_isThread : MethodName := ⟨RX12, "isThread", "(I)Z"⟩
abbrev cX12_measure : ByteArray := prog_14_method_8_code
def yX12_measure : MethodName := ⟨RX12, "measure", "()V"⟩
abbrev cX12_areLinked : ByteArray := prog_14_method_9_code
def yX12_areLinked : MethodName := ⟨RX12, "areLinked", "(II)Z"⟩
abbrev cX12_link : ByteArray := prog_14_method_10_code
def yX12_link : MethodName := ⟨RX12, "link", "(IIII)I"⟩
abbrev cX12_isWay : ByteArray := prog_14_method_11_code
def yX12_isWay : MethodName := ⟨RX12, "isWay", "(II)Z"⟩
abbrev cX12_far : ByteArray := prog_14_method_12_code
def yX12_far : MethodName := ⟨RX12, "far", "(II)I"⟩
abbrev cX12_behind : ByteArray := prog_14_method_13_code
def yX12_behind : MethodName := ⟨RX12, "behind", "(II)I"⟩
abbrev cX12_way : ByteArray := prog_14_method_14_code
def yX12_way : MethodName := ⟨RX12, "way", "(III)I"⟩
abbrev cX12_page : ByteArray := prog_14_method_15_code
def yX12_page : MethodName := ⟨RX12, "page", "(I)I"⟩
abbrev cX12_thread : ByteArray := prog_14_method_16_code
def yX12_thread : MethodName := ⟨RX12, "thread", "(I)I"⟩
abbrev cX12_access : ByteArray := prog_14_method_17_code
def yX12_access : MethodName := ⟨RX12, "access", "(IIIZI)I"⟩
abbrev cX12_rule : ByteArray := prog_14_method_18_code
def yX12_rule : MethodName := ⟨RX12, "rule", "(III)I"⟩
abbrev cX12_prices : ByteArray := prog_14_method_19_code
def yX12_prices : MethodName := ⟨RX12, "prices", "(II)I"⟩
abbrev cX12_taken : ByteArray := prog_14_method_20_code
def yX12_taken : MethodName := ⟨RX12, "taken", "(I)I"⟩
abbrev cX12_hasRoom : ByteArray := prog_14_method_21_code
def yX12_hasRoom : MethodName := ⟨RX12, "hasRoom", "(I)Z"⟩
abbrev cX12_allHaveRoom : ByteArray := prog_14_method_22_code
def yX12_allHaveRoom : MethodName := ⟨RX12, "allHaveRoom", "()Z"⟩
abbrev cX12_place : ByteArray := prog_14_method_23_code
def yX12_place : MethodName := ⟨RX12, "place", "(II)I"⟩
abbrev cX12_settle : ByteArray := prog_14_method_24_code
def yX12_settle : MethodName := ⟨RX12, "settle", "(II)I"⟩
abbrev cX12_swap : ByteArray := prog_14_method_25_code
def yX12_swap : MethodName := ⟨RX12, "swap", "(II)I"⟩
abbrev cX12_emptiest : ByteArray := prog_14_method_26_code
def yX12_emptiest : MethodName := ⟨RX12, "emptiest", "()I"⟩
abbrev cX12_isPlaced : ByteArray := prog_14_method_27_code
def yX12_isPlaced : MethodName := ⟨RX12, "isPlaced", "(II)Z"⟩
abbrev cX12_where : ByteArray := prog_14_method_28_code
def yX12_where : MethodName := ⟨RX12, "where", "(III)I"⟩
abbrev cX12_crowded : ByteArray := prog_14_method_29_code
def yX12_crowded : MethodName := ⟨RX12, "crowded", "(II)I"⟩
abbrev cX12_useLinks : ByteArray := prog_14_method_30_code
def yX12_useLinks : MethodName := ⟨RX12, "useLinks", "(II)V"⟩
abbrev cX12_keepFault : ByteArray := prog_14_method_31_code
def yX12_keepFault : MethodName := ⟨RX12, "keepFault", "(II)V"⟩
abbrev cX12_wanted : ByteArray := prog_14_method_32_code
def yX12_wanted : MethodName := ⟨RX12, "wanted", "(I)I"⟩
abbrev cX12_pays : ByteArray := prog_14_method_33_code
def yX12_pays : MethodName := ⟨RX12, "pays", "(II)Z"⟩
abbrev cX12_faulted : ByteArray := prog_14_method_34_code
def yX12_faulted : MethodName := ⟨RX12, "faulted", "(II)I"⟩
abbrev cX12_countBits : ByteArray := prog_14_method_35_code
def yX12_countBits : MethodName := ⟨RX12, "countBits", "(I)I"⟩
abbrev cX12_copied : ByteArray := prog_14_method_36_code
def yX12_copied : MethodName := ⟨RX12, "copied", "(IIZ)I"⟩
abbrev cX12_fail : ByteArray := prog_14_method_37_code
def yX12_fail : MethodName := ⟨RX12, "fail", "(I)V"⟩
abbrev cX12_note : ByteArray := prog_14_method_38_code
def yX12_note : MethodName := ⟨RX12, "note", "(IIIII)V"⟩
abbrev cX12_tryNext : ByteArray := prog_14_method_39_code
def yX12_tryNext : MethodName := ⟨RX12, "tryNext", "(I)V"⟩
abbrev cX12_underWay : ByteArray := prog_14_method_40_code
def yX12_underWay : MethodName := ⟨RX12, "underWay", "(I)I"⟩
abbrev cX12_isReady : ByteArray := prog_14_method_41_code
def yX12_isReady : MethodName := ⟨RX12, "isReady", "(I)Z"⟩
abbrev cX12_first : ByteArray := prog_14_method_42_code
def yX12_first : MethodName := ⟨RX12, "first", "(I)I"⟩
abbrev cX12_finish : ByteArray := prog_14_method_43_code
def yX12_finish : MethodName := ⟨RX12, "finish", "()V"⟩
abbrev cX12_oneTick : ByteArray := prog_14_method_44_code
def yX12_oneTick : MethodName := ⟨RX12, "oneTick", "()V"⟩
abbrev cX12_run : ByteArray := prog_14_method_45_code
def yX12_run : MethodName := ⟨RX12, "run", "(I)I"⟩
abbrev cX12_look : ByteArray := prog_14_method_46_code
def yX12_look : MethodName := ⟨RX12, "look", "(II)I"⟩
abbrev cX12_fault : ByteArray := prog_14_method_47_code
def yX12_fault : MethodName := ⟨RX12, "fault", "(II)I"⟩
abbrev cX12_cell : ByteArray := prog_14_method_48_code
def yX12_cell : MethodName := ⟨RX12, "cell", "(II)I"⟩
abbrev cX12_queuePlace : ByteArray := prog_14_method_49_code
def yX12_queuePlace : MethodName := ⟨RX12, "queuePlace", "(I)I"⟩
abbrev cX12_about : ByteArray := prog_14_method_50_code
def yX12_about : MethodName := ⟨RX12, "about", "(II)I"⟩
abbrev cX12_read : ByteArray := prog_14_method_51_code
def yX12_read : MethodName := ⟨RX12, "read", "(I)I"⟩
abbrev cX12_node : ByteArray := prog_14_method_52_code
def yX12_node : MethodName := ⟨RX12, "node", "(II)I"⟩
abbrev cX12_linked : ByteArray := prog_14_method_53_code
def yX12_linked : MethodName := ⟨RX12, "linked", "(III)I"⟩
abbrev cX12_log : ByteArray := prog_14_method_54_code
def yX12_log : MethodName := ⟨RX12, "log", "(II)I"⟩
abbrev cX12_best : ByteArray := prog_14_method_55_code
def yX12_best : MethodName := ⟨RX12, "best", "(I)I"⟩
abbrev cX12_gap : ByteArray := prog_14_method_56_code
def yX12_gap : MethodName := ⟨RX12, "gap", "(I)I"⟩
abbrev cX12_beginOther : ByteArray := prog_14_method_57_code
def yX12_beginOther : MethodName := ⟨RX12, "beginOther", "()V"⟩
abbrev cX12_other : ByteArray := prog_14_method_58_code
def yX12_other : MethodName := ⟨RX12, "other", "(IIII)I"⟩
abbrev cX12_same : ByteArray := prog_14_method_59_code
def yX12_same : MethodName := ⟨RX12, "same", "()I"⟩
abbrev cX12_count : ByteArray := prog_14_method_60_code
def yX12_count : MethodName := ⟨RX12, "count", "(I)I"⟩
abbrev cX12_isShelf : ByteArray := prog_14_method_61_code
def yX12_isShelf : MethodName := ⟨RX12, "isShelf", "(I)Z"⟩
abbrev cX12_weightOf : ByteArray := prog_14_method_62_code
def yX12_weightOf : MethodName := ⟨RX12, "weightOf", "(I)I"⟩
abbrev cX12_keep : ByteArray := prog_14_method_63_code
def yX12_keep : MethodName := ⟨RX12, "keep", "(III)I"⟩
abbrev cX12_make : ByteArray := prog_14_method_64_code
def yX12_make : MethodName := ⟨RX12, "make", "(III)I"⟩
abbrev cX12_element : ByteArray := prog_14_method_65_code
def yX12_element : MethodName := ⟨RX12, "element", "(II)J"⟩
abbrev cX12_hasPlaces : ByteArray := prog_14_method_66_code
def yX12_hasPlaces : MethodName := ⟨RX12, "hasPlaces", "(III)Z"⟩
abbrev cX12_copy : ByteArray := prog_14_method_67_code
def yX12_copy : MethodName := ⟨RX12, "copy", "(IIIII)I"⟩
abbrev cX12_denied : ByteArray := prog_14_method_68_code
def yX12_denied : MethodName := ⟨RX12, "denied", "(I)I"⟩
abbrev cX12_weight : ByteArray := prog_14_method_69_code
def yX12_weight : MethodName := ⟨RX12, "weight", "(I)I"⟩
abbrev cX12_toss : ByteArray := prog_14_method_70_code
def yX12_toss : MethodName := ⟨RX12, "toss", "(I)I"⟩
def RJ6 : String := "java/lang/Integer"
def TJ6 : u_T := fun k => match k with
  | _ => ("", "", "", false)
def tyJ6 : Nat → FieldType := fun k => match k with
  | _ => .int
theorem nmJ6 : ∀ a, a < 0 → ∀ b, b < 0 → a ≠ b → (TJ6 a).2.1 ≠ (TJ6 b).2.1 := by decide +kernel
theorem tyJ6_ok : ∀ k, k < 0 → parseFieldDescriptor (TJ6 k).2.2.1 = some (tyJ6 k) := by decide +kernel
abbrev cJ6_bitCount_0f7a4 : ByteArray := prog_18_method_49_code
def yJ6_bitCount_0f7a4 : MethodName := ⟨RJ6, "bitCount", "(I)I"⟩
def RJ9 : String := "java/lang/Math"
def TJ9 : u_T := fun k => match k with
  | _ => ("", "", "", false)
def tyJ9 : Nat → FieldType := fun k => match k with
  | _ => .int
theorem nmJ9 : ∀ a, a < 0 → ∀ b, b < 0 → a ≠ b → (TJ9 a).2.1 ≠ (TJ9 b).2.1 := by decide +kernel
theorem tyJ9_ok : ∀ k, k < 0 → parseFieldDescriptor (TJ9 k).2.2.1 = some (tyJ9 k) := by decide +kernel
abbrev cJ9_floorMod_7cf53 : ByteArray := prog_19_method_50_code
def yJ9_floorMod_7cf53 : MethodName := ⟨RJ9, "floorMod", "(II)I"⟩
abbrev cJ9_max_7cf53 : ByteArray := prog_19_method_65_code
def yJ9_max_7cf53 : MethodName := ⟨RJ9, "max", "(II)I"⟩
abbrev cJ9_min_7cf53 : ByteArray := prog_19_method_69_code
def yJ9_min_7cf53 : MethodName := ⟨RJ9, "min", "(II)I"⟩
def RJ0 : String := "java/lang/String"
def TJ0 : u_T := fun k => match k with
  | _ => ("", "", "", false)
def tyJ0 : Nat → FieldType := fun k => match k with
  | _ => .int
theorem nmJ0 : ∀ a, a < 0 → ∀ b, b < 0 → a ≠ b → (TJ0 a).2.1 ≠ (TJ0 b).2.1 := by decide +kernel
theorem tyJ0_ok : ∀ k, k < 0 → parseFieldDescriptor (TJ0 k).2.2.1 = some (tyJ0 k) := by decide +kernel
def RJ10 : String := "java/lang/System"
def TJ10 : u_T := fun k => match k with
  | _ => ("", "", "", false)
def tyJ10 : Nat → FieldType := fun k => match k with
  | _ => .int
theorem nmJ10 : ∀ a, a < 0 → ∀ b, b < 0 → a ≠ b → (TJ10 a).2.1 ≠ (TJ10 b).2.1 := by decide +kernel
theorem tyJ10_ok : ∀ k, k < 0 → parseFieldDescriptor (TJ10 k).2.2.1 = some (tyJ10 k) := by decide +kernel
def RJ7 : String := "java/util/Arrays"
def TJ7 : u_T := fun k => match k with
  | _ => ("", "", "", false)
def tyJ7 : Nat → FieldType := fun k => match k with
  | _ => .int
theorem nmJ7 : ∀ a, a < 0 → ∀ b, b < 0 → a ≠ b → (TJ7 a).2.1 ≠ (TJ7 b).2.1 := by decide +kernel
theorem tyJ7_ok : ∀ k, k < 0 → parseFieldDescriptor (TJ7 k).2.2.1 = some (tyJ7 k) := by decide +kernel
abbrev cJ7_fill_53178 : ByteArray := prog_24_method_103_code
def yJ7_fill_53178 : MethodName := ⟨RJ7, "fill", "([II)V"⟩
abbrev cJ7_fill_031fb : ByteArray := prog_24_method_109_code
def yJ7_fill_031fb : MethodName := ⟨RJ7, "fill", "([BB)V"⟩
def RL : String := "FarCellsLaw"
abbrev cL_cell : ByteArray := method_2_code
def yL_cell : MethodName := ⟨RL, "cell", "([II)I"⟩
abbrev cL_cell_ : ByteArray := method_3_code
def yL_cell_ : MethodName := ⟨RL, "cell", "(LFarCells;II[J)I"⟩
abbrev cL_read : ByteArray := method_4_code
def yL_read : MethodName := ⟨RL, "read", "(LFarCells;I[J)I"⟩
abbrev cL_element : ByteArray := method_5_code
def yL_element : MethodName := ⟨RL, "element", "(LFarCells;II[J)I"⟩
abbrev cL_law : ByteArray := code
def yL_law : MethodName := ⟨RL, "law", "([I)Z"⟩
abbrev vwCl : List vw_C := [(RX0, TX0, 10), (RX1, TX1, 7), (RX2, TX2, 5), (RX3, TX3, 19), (RX4, TX4, 9), (RX5, TX5, 2), (RX6, TX6, 5), (RX7, TX7, 5), (RX8, TX8, 8), (RX9, TX9, 4), (RX10, TX10, 8), (RX11, TX11, 4), (RX12, TX12, 65)]
end
section
theorem dJ6_bitCount_0f7a4_0 : decode cJ6_bitCount_0f7a4 0 = .ok (.iload_n 0, 1) := by decide +kernel
theorem dJ6_bitCount_0f7a4_1 : decode cJ6_bitCount_0f7a4 1 = .ok (.iload_n 0, 1) := by decide +kernel
theorem dJ6_bitCount_0f7a4_2 : decode cJ6_bitCount_0f7a4 2 = .ok (.iconst 1, 1) := by decide +kernel
theorem dJ6_bitCount_0f7a4_3 : decode cJ6_bitCount_0f7a4 3 = .ok (.iushr, 1) := by decide +kernel
theorem dJ6_bitCount_0f7a4_4 : decode cJ6_bitCount_0f7a4 4 = .ok (.ldc_w 265, 3) := by decide +kernel
theorem dJ6_bitCount_0f7a4_7 : decode cJ6_bitCount_0f7a4 7 = .ok (.iand, 1) := by decide +kernel
theorem dJ6_bitCount_0f7a4_8 : decode cJ6_bitCount_0f7a4 8 = .ok (.isub, 1) := by decide +kernel
theorem dJ6_bitCount_0f7a4_9 : decode cJ6_bitCount_0f7a4 9 = .ok (.istore_n 0, 1) := by decide +kernel
theorem dJ6_bitCount_0f7a4_10 : decode cJ6_bitCount_0f7a4 10 = .ok (.iload_n 0, 1) := by decide +kernel
theorem dJ6_bitCount_0f7a4_11 : decode cJ6_bitCount_0f7a4 11 = .ok (.ldc_w 266, 3) := by decide +kernel
theorem dJ6_bitCount_0f7a4_14 : decode cJ6_bitCount_0f7a4 14 = .ok (.iand, 1) := by decide +kernel
theorem dJ6_bitCount_0f7a4_15 : decode cJ6_bitCount_0f7a4 15 = .ok (.iload_n 0, 1) := by decide +kernel
theorem dJ6_bitCount_0f7a4_16 : decode cJ6_bitCount_0f7a4 16 = .ok (.iconst 2, 1) := by decide +kernel
theorem dJ6_bitCount_0f7a4_17 : decode cJ6_bitCount_0f7a4 17 = .ok (.iushr, 1) := by decide +kernel
theorem dJ6_bitCount_0f7a4_18 : decode cJ6_bitCount_0f7a4 18 = .ok (.ldc_w 266, 3) := by decide +kernel
theorem dJ6_bitCount_0f7a4_21 : decode cJ6_bitCount_0f7a4 21 = .ok (.iand, 1) := by decide +kernel
theorem dJ6_bitCount_0f7a4_22 : decode cJ6_bitCount_0f7a4 22 = .ok (.iadd, 1) := by decide +kernel
theorem dJ6_bitCount_0f7a4_23 : decode cJ6_bitCount_0f7a4 23 = .ok (.istore_n 0, 1) := by decide +kernel
theorem dJ6_bitCount_0f7a4_24 : decode cJ6_bitCount_0f7a4 24 = .ok (.iload_n 0, 1) := by decide +kernel
theorem dJ6_bitCount_0f7a4_25 : decode cJ6_bitCount_0f7a4 25 = .ok (.iload_n 0, 1) := by decide +kernel
theorem dJ6_bitCount_0f7a4_26 : decode cJ6_bitCount_0f7a4 26 = .ok (.iconst 4, 1) := by decide +kernel
theorem dJ6_bitCount_0f7a4_27 : decode cJ6_bitCount_0f7a4 27 = .ok (.iushr, 1) := by decide +kernel
theorem dJ6_bitCount_0f7a4_28 : decode cJ6_bitCount_0f7a4 28 = .ok (.iadd, 1) := by decide +kernel
theorem dJ6_bitCount_0f7a4_29 : decode cJ6_bitCount_0f7a4 29 = .ok (.ldc_w 267, 3) := by decide +kernel
theorem dJ6_bitCount_0f7a4_32 : decode cJ6_bitCount_0f7a4 32 = .ok (.iand, 1) := by decide +kernel
theorem dJ6_bitCount_0f7a4_33 : decode cJ6_bitCount_0f7a4 33 = .ok (.istore_n 0, 1) := by decide +kernel
theorem dJ6_bitCount_0f7a4_34 : decode cJ6_bitCount_0f7a4 34 = .ok (.iload_n 0, 1) := by decide +kernel
theorem dJ6_bitCount_0f7a4_35 : decode cJ6_bitCount_0f7a4 35 = .ok (.iload_n 0, 1) := by decide +kernel
theorem dJ6_bitCount_0f7a4_36 : decode cJ6_bitCount_0f7a4 36 = .ok (.bipush 8, 2) := by decide +kernel
theorem dJ6_bitCount_0f7a4_38 : decode cJ6_bitCount_0f7a4 38 = .ok (.iushr, 1) := by decide +kernel
theorem dJ6_bitCount_0f7a4_39 : decode cJ6_bitCount_0f7a4 39 = .ok (.iadd, 1) := by decide +kernel
theorem dJ6_bitCount_0f7a4_40 : decode cJ6_bitCount_0f7a4 40 = .ok (.istore_n 0, 1) := by decide +kernel
theorem dJ6_bitCount_0f7a4_41 : decode cJ6_bitCount_0f7a4 41 = .ok (.iload_n 0, 1) := by decide +kernel
theorem dJ6_bitCount_0f7a4_42 : decode cJ6_bitCount_0f7a4 42 = .ok (.iload_n 0, 1) := by decide +kernel
theorem dJ6_bitCount_0f7a4_43 : decode cJ6_bitCount_0f7a4 43 = .ok (.bipush 16, 2) := by decide +kernel
theorem dJ6_bitCount_0f7a4_45 : decode cJ6_bitCount_0f7a4 45 = .ok (.iushr, 1) := by decide +kernel
theorem dJ6_bitCount_0f7a4_46 : decode cJ6_bitCount_0f7a4 46 = .ok (.iadd, 1) := by decide +kernel
theorem dJ6_bitCount_0f7a4_47 : decode cJ6_bitCount_0f7a4 47 = .ok (.istore_n 0, 1) := by decide +kernel
theorem dJ6_bitCount_0f7a4_48 : decode cJ6_bitCount_0f7a4 48 = .ok (.iload_n 0, 1) := by decide +kernel
theorem dJ6_bitCount_0f7a4_49 : decode cJ6_bitCount_0f7a4 49 = .ok (.bipush 63, 2) := by decide +kernel
theorem dJ6_bitCount_0f7a4_51 : decode cJ6_bitCount_0f7a4 51 = .ok (.iand, 1) := by decide +kernel
theorem dJ6_bitCount_0f7a4_52 : decode cJ6_bitCount_0f7a4 52 = .ok (.ireturn, 1) := by decide +kernel
theorem dJ9_floorMod_7cf53_0 : decode cJ9_floorMod_7cf53 0 = .ok (.iload_n 0, 1) := by decide +kernel
theorem dJ9_floorMod_7cf53_1 : decode cJ9_floorMod_7cf53 1 = .ok (.iload_n 1, 1) := by decide +kernel
theorem dJ9_floorMod_7cf53_2 : decode cJ9_floorMod_7cf53 2 = .ok (.irem, 1) := by decide +kernel
theorem dJ9_floorMod_7cf53_3 : decode cJ9_floorMod_7cf53 3 = .ok (.istore_n 2, 1) := by decide +kernel
theorem dJ9_floorMod_7cf53_4 : decode cJ9_floorMod_7cf53 4 = .ok (.iload_n 0, 1) := by decide +kernel
theorem dJ9_floorMod_7cf53_5 : decode cJ9_floorMod_7cf53 5 = .ok (.iload_n 1, 1) := by decide +kernel
theorem dJ9_floorMod_7cf53_6 : decode cJ9_floorMod_7cf53 6 = .ok (.ixor, 1) := by decide +kernel
theorem dJ9_floorMod_7cf53_7 : decode cJ9_floorMod_7cf53 7 = .ok (.ifCond .ge 11, 3) := by decide +kernel
theorem dJ9_floorMod_7cf53_10 : decode cJ9_floorMod_7cf53 10 = .ok (.iload_n 2, 1) := by decide +kernel
theorem dJ9_floorMod_7cf53_11 : decode cJ9_floorMod_7cf53 11 = .ok (.ifCond .eq 7, 3) := by decide +kernel
theorem dJ9_floorMod_7cf53_14 : decode cJ9_floorMod_7cf53 14 = .ok (.iload_n 2, 1) := by decide +kernel
theorem dJ9_floorMod_7cf53_15 : decode cJ9_floorMod_7cf53 15 = .ok (.iload_n 1, 1) := by decide +kernel
theorem dJ9_floorMod_7cf53_16 : decode cJ9_floorMod_7cf53 16 = .ok (.iadd, 1) := by decide +kernel
theorem dJ9_floorMod_7cf53_17 : decode cJ9_floorMod_7cf53 17 = .ok (.ireturn, 1) := by decide +kernel
theorem dJ9_floorMod_7cf53_18 : decode cJ9_floorMod_7cf53 18 = .ok (.iload_n 2, 1) := by decide +kernel
theorem dJ9_floorMod_7cf53_19 : decode cJ9_floorMod_7cf53 19 = .ok (.ireturn, 1) := by decide +kernel
theorem dJ9_max_7cf53_0 : decode cJ9_max_7cf53 0 = .ok (.iload_n 0, 1) := by decide +kernel
theorem dJ9_max_7cf53_1 : decode cJ9_max_7cf53 1 = .ok (.iload_n 1, 1) := by decide +kernel
theorem dJ9_max_7cf53_2 : decode cJ9_max_7cf53 2 = .ok (.if_icmp .lt 7, 3) := by decide +kernel
theorem dJ9_max_7cf53_5 : decode cJ9_max_7cf53 5 = .ok (.iload_n 0, 1) := by decide +kernel
theorem dJ9_max_7cf53_6 : decode cJ9_max_7cf53 6 = .ok (.goto 4, 3) := by decide +kernel
theorem dJ9_max_7cf53_9 : decode cJ9_max_7cf53 9 = .ok (.iload_n 1, 1) := by decide +kernel
theorem dJ9_max_7cf53_10 : decode cJ9_max_7cf53 10 = .ok (.ireturn, 1) := by decide +kernel
theorem dJ9_min_7cf53_0 : decode cJ9_min_7cf53 0 = .ok (.iload_n 0, 1) := by decide +kernel
theorem dJ9_min_7cf53_1 : decode cJ9_min_7cf53 1 = .ok (.iload_n 1, 1) := by decide +kernel
theorem dJ9_min_7cf53_2 : decode cJ9_min_7cf53 2 = .ok (.if_icmp .gt 7, 3) := by decide +kernel
theorem dJ9_min_7cf53_5 : decode cJ9_min_7cf53 5 = .ok (.iload_n 0, 1) := by decide +kernel
theorem dJ9_min_7cf53_6 : decode cJ9_min_7cf53 6 = .ok (.goto 4, 3) := by decide +kernel
theorem dJ9_min_7cf53_9 : decode cJ9_min_7cf53 9 = .ok (.iload_n 1, 1) := by decide +kernel
theorem dJ9_min_7cf53_10 : decode cJ9_min_7cf53 10 = .ok (.ireturn, 1) := by decide +kernel
theorem dJ7_fill_53178_0 : decode cJ7_fill_53178 0 = .ok (.iconst 0, 1) := by decide +kernel
theorem dJ7_fill_53178_1 : decode cJ7_fill_53178 1 = .ok (.istore_n 2, 1) := by decide +kernel
theorem dJ7_fill_53178_2 : decode cJ7_fill_53178 2 = .ok (.aload_n 0, 1) := by decide +kernel
theorem dJ7_fill_53178_3 : decode cJ7_fill_53178 3 = .ok (.arraylength, 1) := by decide +kernel
theorem dJ7_fill_53178_4 : decode cJ7_fill_53178 4 = .ok (.istore_n 3, 1) := by decide +kernel
theorem dJ7_fill_53178_5 : decode cJ7_fill_53178 5 = .ok (.iload_n 2, 1) := by decide +kernel
theorem dJ7_fill_53178_6 : decode cJ7_fill_53178 6 = .ok (.iload_n 3, 1) := by decide +kernel
theorem dJ7_fill_53178_7 : decode cJ7_fill_53178 7 = .ok (.if_icmp .ge 13, 3) := by decide +kernel
theorem dJ7_fill_53178_10 : decode cJ7_fill_53178 10 = .ok (.aload_n 0, 1) := by decide +kernel
theorem dJ7_fill_53178_11 : decode cJ7_fill_53178 11 = .ok (.iload_n 2, 1) := by decide +kernel
theorem dJ7_fill_53178_12 : decode cJ7_fill_53178 12 = .ok (.iload_n 1, 1) := by decide +kernel
theorem dJ7_fill_53178_13 : decode cJ7_fill_53178 13 = .ok (.iastore, 1) := by decide +kernel
theorem dJ7_fill_53178_14 : decode cJ7_fill_53178 14 = .ok (.iinc 2 1, 3) := by decide +kernel
theorem dJ7_fill_53178_17 : decode cJ7_fill_53178 17 = .ok (.goto (-12), 3) := by decide +kernel
theorem dJ7_fill_53178_20 : decode cJ7_fill_53178 20 = .ok (.return_, 1) := by decide +kernel
theorem dJ7_fill_031fb_0 : decode cJ7_fill_031fb 0 = .ok (.iconst 0, 1) := by decide +kernel
theorem dJ7_fill_031fb_1 : decode cJ7_fill_031fb 1 = .ok (.istore_n 2, 1) := by decide +kernel
theorem dJ7_fill_031fb_2 : decode cJ7_fill_031fb 2 = .ok (.aload_n 0, 1) := by decide +kernel
theorem dJ7_fill_031fb_3 : decode cJ7_fill_031fb 3 = .ok (.arraylength, 1) := by decide +kernel
theorem dJ7_fill_031fb_4 : decode cJ7_fill_031fb 4 = .ok (.istore_n 3, 1) := by decide +kernel
theorem dJ7_fill_031fb_5 : decode cJ7_fill_031fb 5 = .ok (.iload_n 2, 1) := by decide +kernel
theorem dJ7_fill_031fb_6 : decode cJ7_fill_031fb 6 = .ok (.iload_n 3, 1) := by decide +kernel
theorem dJ7_fill_031fb_7 : decode cJ7_fill_031fb 7 = .ok (.if_icmp .ge 13, 3) := by decide +kernel
theorem dJ7_fill_031fb_10 : decode cJ7_fill_031fb 10 = .ok (.aload_n 0, 1) := by decide +kernel
theorem dJ7_fill_031fb_11 : decode cJ7_fill_031fb 11 = .ok (.iload_n 2, 1) := by decide +kernel
theorem dJ7_fill_031fb_12 : decode cJ7_fill_031fb 12 = .ok (.iload_n 1, 1) := by decide +kernel
theorem dJ7_fill_031fb_13 : decode cJ7_fill_031fb 13 = .ok (.bastore, 1) := by decide +kernel
theorem dJ7_fill_031fb_14 : decode cJ7_fill_031fb 14 = .ok (.iinc 2 1, 3) := by decide +kernel
theorem dJ7_fill_031fb_17 : decode cJ7_fill_031fb 17 = .ok (.goto (-12), 3) := by decide +kernel
theorem dJ7_fill_031fb_20 : decode cJ7_fill_031fb 20 = .ok (.return_, 1) := by decide +kernel
theorem dX0_init_0 : decode cX0_init 0 = .ok (.aload_n 0, 1) := by decide +kernel
theorem dX0_init_1 : decode cX0_init 1 = .ok (.invokespecial 3, 3) := by decide +kernel
theorem dX0_init_4 : decode cX0_init 4 = .ok (.return_, 1) := by decide +kernel
theorem dX0_begin_0 : decode cX0_begin 0 = .ok (.aload_n 2, 1) := by decide +kernel
theorem dX0_begin_1 : decode cX0_begin 1 = .ok (.getfield 9, 3) := by decide +kernel
theorem dX0_begin_4 : decode cX0_begin 4 = .ok (.astore_n 3, 1) := by decide +kernel
theorem dX0_begin_5 : decode cX0_begin 5 = .ok (.aload_n 0, 1) := by decide +kernel
theorem dX0_begin_6 : decode cX0_begin 6 = .ok (.iload_n 1, 1) := by decide +kernel
theorem dX0_begin_7 : decode cX0_begin 7 = .ok (.putfield 15, 3) := by decide +kernel
theorem dX0_begin_10 : decode cX0_begin 10 = .ok (.aload_n 0, 1) := by decide +kernel
theorem dX0_begin_11 : decode cX0_begin 11 = .ok (.aload_n 2, 1) := by decide +kernel
theorem dX0_begin_12 : decode cX0_begin 12 = .ok (.getfield 21, 3) := by decide +kernel
theorem dX0_begin_15 : decode cX0_begin 15 = .ok (.putfield 24, 3) := by decide +kernel
theorem dX0_begin_18 : decode cX0_begin 18 = .ok (.aload_n 0, 1) := by decide +kernel
theorem dX0_begin_19 : decode cX0_begin 19 = .ok (.aload_n 3, 1) := by decide +kernel
theorem dX0_begin_20 : decode cX0_begin 20 = .ok (.getfield 25, 3) := by decide +kernel
theorem dX0_begin_23 : decode cX0_begin 23 = .ok (.aload_n 2, 1) := by decide +kernel
theorem dX0_begin_24 : decode cX0_begin 24 = .ok (.getfield 31, 3) := by decide +kernel
theorem dX0_begin_27 : decode cX0_begin 27 = .ok (.iaload, 1) := by decide +kernel
theorem dX0_begin_28 : decode cX0_begin 28 = .ok (.putfield 34, 3) := by decide +kernel
theorem dX0_begin_31 : decode cX0_begin 31 = .ok (.aload_n 0, 1) := by decide +kernel
theorem dX0_begin_32 : decode cX0_begin 32 = .ok (.aload_n 3, 1) := by decide +kernel
theorem dX0_begin_33 : decode cX0_begin 33 = .ok (.getfield 37, 3) := by decide +kernel
theorem dX0_begin_36 : decode cX0_begin 36 = .ok (.aload_n 2, 1) := by decide +kernel
theorem dX0_begin_37 : decode cX0_begin 37 = .ok (.getfield 31, 3) := by decide +kernel
theorem dX0_begin_40 : decode cX0_begin 40 = .ok (.iaload, 1) := by decide +kernel
theorem dX0_begin_41 : decode cX0_begin 41 = .ok (.putfield 40, 3) := by decide +kernel
theorem dX0_begin_44 : decode cX0_begin 44 = .ok (.aload_n 0, 1) := by decide +kernel
theorem dX0_begin_45 : decode cX0_begin 45 = .ok (.aload_n 3, 1) := by decide +kernel
theorem dX0_begin_46 : decode cX0_begin 46 = .ok (.getfield 43, 3) := by decide +kernel
theorem dX0_begin_49 : decode cX0_begin 49 = .ok (.aload_n 2, 1) := by decide +kernel
theorem dX0_begin_50 : decode cX0_begin 50 = .ok (.getfield 31, 3) := by decide +kernel
theorem dX0_begin_53 : decode cX0_begin 53 = .ok (.baload, 1) := by decide +kernel
theorem dX0_begin_54 : decode cX0_begin 54 = .ok (.putfield 47, 3) := by decide +kernel
theorem dX0_begin_57 : decode cX0_begin 57 = .ok (.aload_n 0, 1) := by decide +kernel
theorem dX0_begin_58 : decode cX0_begin 58 = .ok (.aload_n 3, 1) := by decide +kernel
theorem dX0_begin_59 : decode cX0_begin 59 = .ok (.getfield 50, 3) := by decide +kernel
theorem dX0_begin_62 : decode cX0_begin 62 = .ok (.aload_n 2, 1) := by decide +kernel
theorem dX0_begin_63 : decode cX0_begin 63 = .ok (.getfield 31, 3) := by decide +kernel
theorem dX0_begin_66 : decode cX0_begin 66 = .ok (.iaload, 1) := by decide +kernel
theorem dX0_begin_67 : decode cX0_begin 67 = .ok (.putfield 53, 3) := by decide +kernel
theorem dX0_begin_70 : decode cX0_begin 70 = .ok (.aload_n 0, 1) := by decide +kernel
theorem dX0_begin_71 : decode cX0_begin 71 = .ok (.iconst (-1), 1) := by decide +kernel
theorem dX0_begin_72 : decode cX0_begin 72 = .ok (.putfield 56, 3) := by decide +kernel
theorem dX0_begin_75 : decode cX0_begin 75 = .ok (.aload_n 0, 1) := by decide +kernel
theorem dX0_begin_76 : decode cX0_begin 76 = .ok (.iconst 0, 1) := by decide +kernel
theorem dX0_begin_77 : decode cX0_begin 77 = .ok (.putfield 59, 3) := by decide +kernel
theorem dX0_begin_80 : decode cX0_begin 80 = .ok (.aload_n 0, 1) := by decide +kernel
theorem dX0_begin_81 : decode cX0_begin 81 = .ok (.iconst 0, 1) := by decide +kernel
theorem dX0_begin_82 : decode cX0_begin 82 = .ok (.putfield 62, 3) := by decide +kernel
theorem dX0_begin_85 : decode cX0_begin 85 = .ok (.aload_n 0, 1) := by decide +kernel
theorem dX0_begin_86 : decode cX0_begin 86 = .ok (.iconst 0, 1) := by decide +kernel
theorem dX0_begin_87 : decode cX0_begin 87 = .ok (.putfield 65, 3) := by decide +kernel
theorem dX0_begin_90 : decode cX0_begin 90 = .ok (.return_, 1) := by decide +kernel
theorem dX1_init_0 : decode cX1_init 0 = .ok (.aload_n 0, 1) := by decide +kernel
theorem dX1_init_1 : decode cX1_init 1 = .ok (.invokespecial 3, 3) := by decide +kernel
theorem dX1_init_4 : decode cX1_init 4 = .ok (.aload_n 0, 1) := by decide +kernel
theorem dX1_init_5 : decode cX1_init 5 = .ok (.bipush 16, 2) := by decide +kernel
theorem dX1_init_7 : decode cX1_init 7 = .ok (.newarray .int, 2) := by decide +kernel
theorem dX1_init_9 : decode cX1_init 9 = .ok (.putfield 9, 3) := by decide +kernel
theorem dX1_init_12 : decode cX1_init 12 = .ok (.aload_n 0, 1) := by decide +kernel
theorem dX1_init_13 : decode cX1_init 13 = .ok (.bipush 16, 2) := by decide +kernel
theorem dX1_init_15 : decode cX1_init 15 = .ok (.newarray .int, 2) := by decide +kernel
theorem dX1_init_17 : decode cX1_init 17 = .ok (.putfield 15, 3) := by decide +kernel
theorem dX1_init_20 : decode cX1_init 20 = .ok (.aload_n 0, 1) := by decide +kernel
theorem dX1_init_21 : decode cX1_init 21 = .ok (.bipush 16, 2) := by decide +kernel
theorem dX1_init_23 : decode cX1_init 23 = .ok (.newarray .int, 2) := by decide +kernel
theorem dX1_init_25 : decode cX1_init 25 = .ok (.putfield 18, 3) := by decide +kernel
theorem dX1_init_28 : decode cX1_init 28 = .ok (.aload_n 0, 1) := by decide +kernel
theorem dX1_init_29 : decode cX1_init 29 = .ok (.bipush 16, 2) := by decide +kernel
theorem dX1_init_31 : decode cX1_init 31 = .ok (.newarray .int, 2) := by decide +kernel
theorem dX1_init_33 : decode cX1_init 33 = .ok (.putfield 21, 3) := by decide +kernel
theorem dX1_init_36 : decode cX1_init 36 = .ok (.aload_n 0, 1) := by decide +kernel
theorem dX1_init_37 : decode cX1_init 37 = .ok (.iload_n 1, 1) := by decide +kernel
theorem dX1_init_38 : decode cX1_init 38 = .ok (.putfield 24, 3) := by decide +kernel
theorem dX1_init_41 : decode cX1_init 41 = .ok (.aload_n 0, 1) := by decide +kernel
theorem dX1_init_42 : decode cX1_init 42 = .ok (.iload_n 2, 1) := by decide +kernel
theorem dX1_init_43 : decode cX1_init 43 = .ok (.putfield 28, 3) := by decide +kernel
theorem dX1_init_46 : decode cX1_init 46 = .ok (.aload_n 0, 1) := by decide +kernel
theorem dX1_init_47 : decode cX1_init 47 = .ok (.iload_n 3, 1) := by decide +kernel
theorem dX1_init_48 : decode cX1_init 48 = .ok (.putfield 31, 3) := by decide +kernel
theorem dX1_init_51 : decode cX1_init 51 = .ok (.aload_n 0, 1) := by decide +kernel
theorem dX1_init_52 : decode cX1_init 52 = .ok (.getfield 9, 3) := by decide +kernel
theorem dX1_init_55 : decode cX1_init 55 = .ok (.iconst 2, 1) := by decide +kernel
theorem dX1_init_56 : decode cX1_init 56 = .ok (.invokestatic 34, 3) := by decide +kernel
theorem dX1_init_59 : decode cX1_init 59 = .ok (.aload_n 0, 1) := by decide +kernel
theorem dX1_init_60 : decode cX1_init 60 = .ok (.getfield 15, 3) := by decide +kernel
theorem dX1_init_63 : decode cX1_init 63 = .ok (.iconst 2, 1) := by decide +kernel
theorem dX1_init_64 : decode cX1_init 64 = .ok (.invokestatic 34, 3) := by decide +kernel
theorem dX1_init_67 : decode cX1_init 67 = .ok (.aload_n 0, 1) := by decide +kernel
theorem dX1_init_68 : decode cX1_init 68 = .ok (.invokevirtual 40, 3) := by decide +kernel
theorem dX1_init_71 : decode cX1_init 71 = .ok (.return_, 1) := by decide +kernel
theorem dX1_has_0 : decode cX1_has 0 = .ok (.iload_n 1, 1) := by decide +kernel
theorem dX1_has_1 : decode cX1_has 1 = .ok (.iconst 0, 1) := by decide +kernel
theorem dX1_has_2 : decode cX1_has 2 = .ok (.aload_n 0, 1) := by decide +kernel
theorem dX1_has_3 : decode cX1_has 3 = .ok (.getfield 24, 3) := by decide +kernel
theorem dX1_has_6 : decode cX1_has 6 = .ok (.iconst 1, 1) := by decide +kernel
theorem dX1_has_7 : decode cX1_has 7 = .ok (.isub, 1) := by decide +kernel
theorem dX1_has_8 : decode cX1_has 8 = .ok (.invokestatic 43, 3) := by decide +kernel
theorem dX1_has_11 : decode cX1_has 11 = .ok (.ireturn, 1) := by decide +kernel
theorem dX1_joins_0 : decode cX1_joins 0 = .ok (.aload_n 0, 1) := by decide +kernel
theorem dX1_joins_1 : decode cX1_joins 1 = .ok (.iload_n 1, 1) := by decide +kernel
theorem dX1_joins_2 : decode cX1_joins 2 = .ok (.invokevirtual 47, 3) := by decide +kernel
theorem dX1_joins_5 : decode cX1_joins 5 = .ok (.ifCond .eq 20, 3) := by decide +kernel
theorem dX1_joins_8 : decode cX1_joins 8 = .ok (.aload_n 0, 1) := by decide +kernel
theorem dX1_joins_9 : decode cX1_joins 9 = .ok (.iload_n 2, 1) := by decide +kernel
theorem dX1_joins_10 : decode cX1_joins 10 = .ok (.invokevirtual 47, 3) := by decide +kernel
theorem dX1_joins_13 : decode cX1_joins 13 = .ok (.ifCond .eq 12, 3) := by decide +kernel
theorem dX1_joins_16 : decode cX1_joins 16 = .ok (.iload_n 1, 1) := by decide +kernel
theorem dX1_joins_17 : decode cX1_joins 17 = .ok (.iload_n 2, 1) := by decide +kernel
theorem dX1_joins_18 : decode cX1_joins 18 = .ok (.if_icmp .eq 7, 3) := by decide +kernel
theorem dX1_joins_21 : decode cX1_joins 21 = .ok (.iconst 1, 1) := by decide +kernel
theorem dX1_joins_22 : decode cX1_joins 22 = .ok (.goto 4, 3) := by decide +kernel
theorem dX1_joins_25 : decode cX1_joins 25 = .ok (.iconst 0, 1) := by decide +kernel
theorem dX1_joins_26 : decode cX1_joins 26 = .ok (.ireturn, 1) := by decide +kernel
theorem dX1_edge_0 : decode cX1_edge 0 = .ok (.iload_n 1, 1) := by decide +kernel
theorem dX1_edge_1 : decode cX1_edge 1 = .ok (.iload_n 2, 1) := by decide +kernel
theorem dX1_edge_2 : decode cX1_edge 2 = .ok (.invokestatic 51, 3) := by decide +kernel
theorem dX1_edge_5 : decode cX1_edge 5 = .ok (.iconst 4, 1) := by decide +kernel
theorem dX1_edge_6 : decode cX1_edge 6 = .ok (.imul, 1) := by decide +kernel
theorem dX1_edge_7 : decode cX1_edge 7 = .ok (.iload_n 1, 1) := by decide +kernel
theorem dX1_edge_8 : decode cX1_edge 8 = .ok (.iload_n 2, 1) := by decide +kernel
theorem dX1_edge_9 : decode cX1_edge 9 = .ok (.invokestatic 57, 3) := by decide +kernel
theorem dX1_edge_12 : decode cX1_edge 12 = .ok (.iadd, 1) := by decide +kernel
theorem dX1_edge_13 : decode cX1_edge 13 = .ok (.ireturn, 1) := by decide +kernel
theorem dX1_setLink_0 : decode cX1_setLink 0 = .ok (.aload_n 0, 1) := by decide +kernel
theorem dX1_setLink_1 : decode cX1_setLink 1 = .ok (.getfield 9, 3) := by decide +kernel
theorem dX1_setLink_4 : decode cX1_setLink 4 = .ok (.aload_n 0, 1) := by decide +kernel
theorem dX1_setLink_5 : decode cX1_setLink 5 = .ok (.iload_n 1, 1) := by decide +kernel
theorem dX1_setLink_6 : decode cX1_setLink 6 = .ok (.iload_n 2, 1) := by decide +kernel
theorem dX1_setLink_7 : decode cX1_setLink 7 = .ok (.invokevirtual 60, 3) := by decide +kernel
theorem dX1_setLink_10 : decode cX1_setLink 10 = .ok (.iload_n 3, 1) := by decide +kernel
theorem dX1_setLink_11 : decode cX1_setLink 11 = .ok (.iastore, 1) := by decide +kernel
theorem dX1_setLink_12 : decode cX1_setLink 12 = .ok (.aload_n 0, 1) := by decide +kernel
theorem dX1_setLink_13 : decode cX1_setLink 13 = .ok (.getfield 15, 3) := by decide +kernel
theorem dX1_setLink_16 : decode cX1_setLink 16 = .ok (.aload_n 0, 1) := by decide +kernel
theorem dX1_setLink_17 : decode cX1_setLink 17 = .ok (.iload_n 1, 1) := by decide +kernel
theorem dX1_setLink_18 : decode cX1_setLink 18 = .ok (.iload_n 2, 1) := by decide +kernel
theorem dX1_setLink_19 : decode cX1_setLink 19 = .ok (.invokevirtual 60, 3) := by decide +kernel
theorem dX1_setLink_22 : decode cX1_setLink 22 = .ok (.iload 4, 2) := by decide +kernel
theorem dX1_setLink_24 : decode cX1_setLink 24 = .ok (.iastore, 1) := by decide +kernel
theorem dX1_setLink_25 : decode cX1_setLink 25 = .ok (.aload_n 0, 1) := by decide +kernel
theorem dX1_setLink_26 : decode cX1_setLink 26 = .ok (.invokevirtual 40, 3) := by decide +kernel
theorem dX1_setLink_29 : decode cX1_setLink 29 = .ok (.return_, 1) := by decide +kernel
theorem dX1_distance_0 : decode cX1_distance 0 = .ok (.aload_n 0, 1) := by decide +kernel
theorem dX1_distance_1 : decode cX1_distance 1 = .ok (.getfield 18, 3) := by decide +kernel
theorem dX1_distance_4 : decode cX1_distance 4 = .ok (.iload_n 1, 1) := by decide +kernel
theorem dX1_distance_5 : decode cX1_distance 5 = .ok (.iconst 4, 1) := by decide +kernel
theorem dX1_distance_6 : decode cX1_distance 6 = .ok (.imul, 1) := by decide +kernel
theorem dX1_distance_7 : decode cX1_distance 7 = .ok (.iload_n 2, 1) := by decide +kernel
theorem dX1_distance_8 : decode cX1_distance 8 = .ok (.iadd, 1) := by decide +kernel
theorem dX1_distance_9 : decode cX1_distance 9 = .ok (.iaload, 1) := by decide +kernel
theorem dX1_distance_10 : decode cX1_distance 10 = .ok (.ireturn, 1) := by decide +kernel
theorem dX1_reaches_0 : decode cX1_reaches 0 = .ok (.aload_n 0, 1) := by decide +kernel
theorem dX1_reaches_1 : decode cX1_reaches 1 = .ok (.getfield 18, 3) := by decide +kernel
theorem dX1_reaches_4 : decode cX1_reaches 4 = .ok (.iload_n 1, 1) := by decide +kernel
theorem dX1_reaches_5 : decode cX1_reaches 5 = .ok (.iconst 4, 1) := by decide +kernel
theorem dX1_reaches_6 : decode cX1_reaches 6 = .ok (.imul, 1) := by decide +kernel
theorem dX1_reaches_7 : decode cX1_reaches 7 = .ok (.iload_n 2, 1) := by decide +kernel
theorem dX1_reaches_8 : decode cX1_reaches 8 = .ok (.iadd, 1) := by decide +kernel
theorem dX1_reaches_9 : decode cX1_reaches 9 = .ok (.iaload, 1) := by decide +kernel
theorem dX1_reaches_10 : decode cX1_reaches 10 = .ok (.sipush 1000, 3) := by decide +kernel
theorem dX1_reaches_13 : decode cX1_reaches 13 = .ok (.if_icmp .ge 7, 3) := by decide +kernel
theorem dX1_reaches_16 : decode cX1_reaches 16 = .ok (.iconst 1, 1) := by decide +kernel
theorem dX1_reaches_17 : decode cX1_reaches 17 = .ok (.goto 4, 3) := by decide +kernel
theorem dX1_reaches_20 : decode cX1_reaches 20 = .ok (.iconst 0, 1) := by decide +kernel
theorem dX1_reaches_21 : decode cX1_reaches 21 = .ok (.ireturn, 1) := by decide +kernel
theorem dX1_nextNode_0 : decode cX1_nextNode 0 = .ok (.aload_n 0, 1) := by decide +kernel
theorem dX1_nextNode_1 : decode cX1_nextNode 1 = .ok (.getfield 21, 3) := by decide +kernel
theorem dX1_nextNode_4 : decode cX1_nextNode 4 = .ok (.iload_n 1, 1) := by decide +kernel
theorem dX1_nextNode_5 : decode cX1_nextNode 5 = .ok (.iconst 4, 1) := by decide +kernel
theorem dX1_nextNode_6 : decode cX1_nextNode 6 = .ok (.imul, 1) := by decide +kernel
theorem dX1_nextNode_7 : decode cX1_nextNode 7 = .ok (.iload_n 2, 1) := by decide +kernel
theorem dX1_nextNode_8 : decode cX1_nextNode 8 = .ok (.iadd, 1) := by decide +kernel
theorem dX1_nextNode_9 : decode cX1_nextNode 9 = .ok (.iaload, 1) := by decide +kernel
theorem dX1_nextNode_10 : decode cX1_nextNode 10 = .ok (.ireturn, 1) := by decide +kernel
theorem dX1_measure_0 : decode cX1_measure 0 = .ok (.iconst 0, 1) := by decide +kernel
theorem dX1_measure_1 : decode cX1_measure 1 = .ok (.istore_n 1, 1) := by decide +kernel
theorem dX1_measure_2 : decode cX1_measure 2 = .ok (.iload_n 1, 1) := by decide +kernel
theorem dX1_measure_3 : decode cX1_measure 3 = .ok (.aload_n 0, 1) := by decide +kernel
theorem dX1_measure_4 : decode cX1_measure 4 = .ok (.getfield 24, 3) := by decide +kernel
theorem dX1_measure_7 : decode cX1_measure 7 = .ok (.if_icmp .ge 41, 3) := by decide +kernel
theorem dX1_measure_10 : decode cX1_measure 10 = .ok (.iconst 0, 1) := by decide +kernel
theorem dX1_measure_11 : decode cX1_measure 11 = .ok (.istore_n 2, 1) := by decide +kernel
theorem dX1_measure_12 : decode cX1_measure 12 = .ok (.iload_n 2, 1) := by decide +kernel
theorem dX1_measure_13 : decode cX1_measure 13 = .ok (.aload_n 0, 1) := by decide +kernel
theorem dX1_measure_14 : decode cX1_measure 14 = .ok (.getfield 24, 3) := by decide +kernel
theorem dX1_measure_17 : decode cX1_measure 17 = .ok (.if_icmp .ge 25, 3) := by decide +kernel
theorem dX1_measure_20 : decode cX1_measure 20 = .ok (.aload_n 0, 1) := by decide +kernel
theorem dX1_measure_21 : decode cX1_measure 21 = .ok (.getfield 18, 3) := by decide +kernel
theorem dX1_measure_24 : decode cX1_measure 24 = .ok (.iload_n 1, 1) := by decide +kernel
theorem dX1_measure_25 : decode cX1_measure 25 = .ok (.iconst 4, 1) := by decide +kernel
theorem dX1_measure_26 : decode cX1_measure 26 = .ok (.imul, 1) := by decide +kernel
theorem dX1_measure_27 : decode cX1_measure 27 = .ok (.iload_n 2, 1) := by decide +kernel
theorem dX1_measure_28 : decode cX1_measure 28 = .ok (.iadd, 1) := by decide +kernel
theorem dX1_measure_29 : decode cX1_measure 29 = .ok (.aload_n 0, 1) := by decide +kernel
theorem dX1_measure_30 : decode cX1_measure 30 = .ok (.iload_n 1, 1) := by decide +kernel
theorem dX1_measure_31 : decode cX1_measure 31 = .ok (.iload_n 2, 1) := by decide +kernel
theorem dX1_measure_32 : decode cX1_measure 32 = .ok (.invokevirtual 63, 3) := by decide +kernel
theorem dX1_measure_35 : decode cX1_measure 35 = .ok (.iastore, 1) := by decide +kernel
theorem dX1_measure_36 : decode cX1_measure 36 = .ok (.iinc 2 1, 3) := by decide +kernel
theorem dX1_measure_39 : decode cX1_measure 39 = .ok (.goto (-27), 3) := by decide +kernel
theorem dX1_measure_42 : decode cX1_measure 42 = .ok (.iinc 1 1, 3) := by decide +kernel
theorem dX1_measure_45 : decode cX1_measure 45 = .ok (.goto (-43), 3) := by decide +kernel
theorem dX1_measure_48 : decode cX1_measure 48 = .ok (.iconst 0, 1) := by decide +kernel
theorem dX1_measure_49 : decode cX1_measure 49 = .ok (.istore_n 1, 1) := by decide +kernel
theorem dX1_measure_50 : decode cX1_measure 50 = .ok (.iload_n 1, 1) := by decide +kernel
theorem dX1_measure_51 : decode cX1_measure 51 = .ok (.aload_n 0, 1) := by decide +kernel
theorem dX1_measure_52 : decode cX1_measure 52 = .ok (.getfield 24, 3) := by decide +kernel
theorem dX1_measure_55 : decode cX1_measure 55 = .ok (.if_icmp .ge 14, 3) := by decide +kernel
theorem dX1_measure_58 : decode cX1_measure 58 = .ok (.aload_n 0, 1) := by decide +kernel
theorem dX1_measure_59 : decode cX1_measure 59 = .ok (.iload_n 1, 1) := by decide +kernel
theorem dX1_measure_60 : decode cX1_measure 60 = .ok (.invokevirtual 66, 3) := by decide +kernel
theorem dX1_measure_63 : decode cX1_measure 63 = .ok (.iinc 1 1, 3) := by decide +kernel
theorem dX1_measure_66 : decode cX1_measure 66 = .ok (.goto (-16), 3) := by decide +kernel
theorem dX1_measure_69 : decode cX1_measure 69 = .ok (.iconst 0, 1) := by decide +kernel
theorem dX1_measure_70 : decode cX1_measure 70 = .ok (.istore_n 1, 1) := by decide +kernel
theorem dX1_measure_71 : decode cX1_measure 71 = .ok (.iload_n 1, 1) := by decide +kernel
theorem dX1_measure_72 : decode cX1_measure 72 = .ok (.aload_n 0, 1) := by decide +kernel
theorem dX1_measure_73 : decode cX1_measure 73 = .ok (.getfield 24, 3) := by decide +kernel
theorem dX1_measure_76 : decode cX1_measure 76 = .ok (.if_icmp .ge 41, 3) := by decide +kernel
theorem dX1_measure_79 : decode cX1_measure 79 = .ok (.iconst 0, 1) := by decide +kernel
theorem dX1_measure_80 : decode cX1_measure 80 = .ok (.istore_n 2, 1) := by decide +kernel
theorem dX1_measure_81 : decode cX1_measure 81 = .ok (.iload_n 2, 1) := by decide +kernel
theorem dX1_measure_82 : decode cX1_measure 82 = .ok (.aload_n 0, 1) := by decide +kernel
theorem dX1_measure_83 : decode cX1_measure 83 = .ok (.getfield 24, 3) := by decide +kernel
theorem dX1_measure_86 : decode cX1_measure 86 = .ok (.if_icmp .ge 25, 3) := by decide +kernel
theorem dX1_measure_89 : decode cX1_measure 89 = .ok (.aload_n 0, 1) := by decide +kernel
theorem dX1_measure_90 : decode cX1_measure 90 = .ok (.getfield 21, 3) := by decide +kernel
theorem dX1_measure_93 : decode cX1_measure 93 = .ok (.iload_n 1, 1) := by decide +kernel
theorem dX1_measure_94 : decode cX1_measure 94 = .ok (.iconst 4, 1) := by decide +kernel
theorem dX1_measure_95 : decode cX1_measure 95 = .ok (.imul, 1) := by decide +kernel
theorem dX1_measure_96 : decode cX1_measure 96 = .ok (.iload_n 2, 1) := by decide +kernel
theorem dX1_measure_97 : decode cX1_measure 97 = .ok (.iadd, 1) := by decide +kernel
theorem dX1_measure_98 : decode cX1_measure 98 = .ok (.aload_n 0, 1) := by decide +kernel
theorem dX1_measure_99 : decode cX1_measure 99 = .ok (.iload_n 1, 1) := by decide +kernel
theorem dX1_measure_100 : decode cX1_measure 100 = .ok (.iload_n 2, 1) := by decide +kernel
theorem dX1_measure_101 : decode cX1_measure 101 = .ok (.invokevirtual 70, 3) := by decide +kernel
theorem dX1_measure_104 : decode cX1_measure 104 = .ok (.iastore, 1) := by decide +kernel
theorem dX1_measure_105 : decode cX1_measure 105 = .ok (.iinc 2 1, 3) := by decide +kernel
theorem dX1_measure_108 : decode cX1_measure 108 = .ok (.goto (-27), 3) := by decide +kernel
theorem dX1_measure_111 : decode cX1_measure 111 = .ok (.iinc 1 1, 3) := by decide +kernel
theorem dX1_measure_114 : decode cX1_measure 114 = .ok (.goto (-43), 3) := by decide +kernel
theorem dX1_measure_117 : decode cX1_measure 117 = .ok (.return_, 1) := by decide +kernel
theorem dX1_direct_0 : decode cX1_direct 0 = .ok (.iload_n 1, 1) := by decide +kernel
theorem dX1_direct_1 : decode cX1_direct 1 = .ok (.iload_n 2, 1) := by decide +kernel
theorem dX1_direct_2 : decode cX1_direct 2 = .ok (.if_icmp .ne 5, 3) := by decide +kernel
theorem dX1_direct_5 : decode cX1_direct 5 = .ok (.iconst 0, 1) := by decide +kernel
theorem dX1_direct_6 : decode cX1_direct 6 = .ok (.ireturn, 1) := by decide +kernel
theorem dX1_direct_7 : decode cX1_direct 7 = .ok (.aload_n 0, 1) := by decide +kernel
theorem dX1_direct_8 : decode cX1_direct 8 = .ok (.getfield 9, 3) := by decide +kernel
theorem dX1_direct_11 : decode cX1_direct 11 = .ok (.aload_n 0, 1) := by decide +kernel
theorem dX1_direct_12 : decode cX1_direct 12 = .ok (.iload_n 1, 1) := by decide +kernel
theorem dX1_direct_13 : decode cX1_direct 13 = .ok (.iload_n 2, 1) := by decide +kernel
theorem dX1_direct_14 : decode cX1_direct 14 = .ok (.invokevirtual 60, 3) := by decide +kernel
theorem dX1_direct_17 : decode cX1_direct 17 = .ok (.iaload, 1) := by decide +kernel
theorem dX1_direct_18 : decode cX1_direct 18 = .ok (.istore_n 3, 1) := by decide +kernel
theorem dX1_direct_19 : decode cX1_direct 19 = .ok (.iload_n 3, 1) := by decide +kernel
theorem dX1_direct_20 : decode cX1_direct 20 = .ok (.ifCond .ne 9, 3) := by decide +kernel
theorem dX1_direct_23 : decode cX1_direct 23 = .ok (.sipush 1000, 3) := by decide +kernel
theorem dX1_direct_26 : decode cX1_direct 26 = .ok (.goto 4, 3) := by decide +kernel
theorem dX1_direct_29 : decode cX1_direct 29 = .ok (.iload_n 3, 1) := by decide +kernel
theorem dX1_direct_30 : decode cX1_direct 30 = .ok (.ireturn, 1) := by decide +kernel
theorem dX1_shortenOver_0 : decode cX1_shortenOver 0 = .ok (.iconst 0, 1) := by decide +kernel
theorem dX1_shortenOver_1 : decode cX1_shortenOver 1 = .ok (.istore_n 2, 1) := by decide +kernel
theorem dX1_shortenOver_2 : decode cX1_shortenOver 2 = .ok (.iload_n 2, 1) := by decide +kernel
theorem dX1_shortenOver_3 : decode cX1_shortenOver 3 = .ok (.aload_n 0, 1) := by decide +kernel
theorem dX1_shortenOver_4 : decode cX1_shortenOver 4 = .ok (.getfield 24, 3) := by decide +kernel
theorem dX1_shortenOver_7 : decode cX1_shortenOver 7 = .ok (.if_icmp .ge 63, 3) := by decide +kernel
theorem dX1_shortenOver_10 : decode cX1_shortenOver 10 = .ok (.iconst 0, 1) := by decide +kernel
theorem dX1_shortenOver_11 : decode cX1_shortenOver 11 = .ok (.istore_n 3, 1) := by decide +kernel
theorem dX1_shortenOver_12 : decode cX1_shortenOver 12 = .ok (.iload_n 3, 1) := by decide +kernel
theorem dX1_shortenOver_13 : decode cX1_shortenOver 13 = .ok (.aload_n 0, 1) := by decide +kernel
theorem dX1_shortenOver_14 : decode cX1_shortenOver 14 = .ok (.getfield 24, 3) := by decide +kernel
theorem dX1_shortenOver_17 : decode cX1_shortenOver 17 = .ok (.if_icmp .ge 47, 3) := by decide +kernel
theorem dX1_shortenOver_20 : decode cX1_shortenOver 20 = .ok (.aload_n 0, 1) := by decide +kernel
theorem dX1_shortenOver_21 : decode cX1_shortenOver 21 = .ok (.iload_n 2, 1) := by decide +kernel
theorem dX1_shortenOver_22 : decode cX1_shortenOver 22 = .ok (.iload_n 1, 1) := by decide +kernel
theorem dX1_shortenOver_23 : decode cX1_shortenOver 23 = .ok (.invokevirtual 73, 3) := by decide +kernel
theorem dX1_shortenOver_26 : decode cX1_shortenOver 26 = .ok (.aload_n 0, 1) := by decide +kernel
theorem dX1_shortenOver_27 : decode cX1_shortenOver 27 = .ok (.iload_n 1, 1) := by decide +kernel
theorem dX1_shortenOver_28 : decode cX1_shortenOver 28 = .ok (.iload_n 3, 1) := by decide +kernel
theorem dX1_shortenOver_29 : decode cX1_shortenOver 29 = .ok (.invokevirtual 73, 3) := by decide +kernel
theorem dX1_shortenOver_32 : decode cX1_shortenOver 32 = .ok (.iadd, 1) := by decide +kernel
theorem dX1_shortenOver_33 : decode cX1_shortenOver 33 = .ok (.istore 4, 2) := by decide +kernel
theorem dX1_shortenOver_35 : decode cX1_shortenOver 35 = .ok (.iload 4, 2) := by decide +kernel
theorem dX1_shortenOver_37 : decode cX1_shortenOver 37 = .ok (.aload_n 0, 1) := by decide +kernel
theorem dX1_shortenOver_38 : decode cX1_shortenOver 38 = .ok (.iload_n 2, 1) := by decide +kernel
theorem dX1_shortenOver_39 : decode cX1_shortenOver 39 = .ok (.iload_n 3, 1) := by decide +kernel
theorem dX1_shortenOver_40 : decode cX1_shortenOver 40 = .ok (.invokevirtual 73, 3) := by decide +kernel
theorem dX1_shortenOver_43 : decode cX1_shortenOver 43 = .ok (.if_icmp .ge 15, 3) := by decide +kernel
theorem dX1_shortenOver_46 : decode cX1_shortenOver 46 = .ok (.aload_n 0, 1) := by decide +kernel
theorem dX1_shortenOver_47 : decode cX1_shortenOver 47 = .ok (.getfield 18, 3) := by decide +kernel
theorem dX1_shortenOver_50 : decode cX1_shortenOver 50 = .ok (.iload_n 2, 1) := by decide +kernel
theorem dX1_shortenOver_51 : decode cX1_shortenOver 51 = .ok (.iconst 4, 1) := by decide +kernel
theorem dX1_shortenOver_52 : decode cX1_shortenOver 52 = .ok (.imul, 1) := by decide +kernel
theorem dX1_shortenOver_53 : decode cX1_shortenOver 53 = .ok (.iload_n 3, 1) := by decide +kernel
theorem dX1_shortenOver_54 : decode cX1_shortenOver 54 = .ok (.iadd, 1) := by decide +kernel
theorem dX1_shortenOver_55 : decode cX1_shortenOver 55 = .ok (.iload 4, 2) := by decide +kernel
theorem dX1_shortenOver_57 : decode cX1_shortenOver 57 = .ok (.iastore, 1) := by decide +kernel
theorem dX1_shortenOver_58 : decode cX1_shortenOver 58 = .ok (.iinc 3 1, 3) := by decide +kernel
theorem dX1_shortenOver_61 : decode cX1_shortenOver 61 = .ok (.goto (-49), 3) := by decide +kernel
theorem dX1_shortenOver_64 : decode cX1_shortenOver 64 = .ok (.iinc 2 1, 3) := by decide +kernel
theorem dX1_shortenOver_67 : decode cX1_shortenOver 67 = .ok (.goto (-65), 3) := by decide +kernel
theorem dX1_shortenOver_70 : decode cX1_shortenOver 70 = .ok (.return_, 1) := by decide +kernel
theorem dX1_leastHop_0 : decode cX1_leastHop 0 = .ok (.iconst 0, 1) := by decide +kernel
theorem dX1_leastHop_1 : decode cX1_leastHop 1 = .ok (.istore_n 3, 1) := by decide +kernel
theorem dX1_leastHop_2 : decode cX1_leastHop 2 = .ok (.iload_n 3, 1) := by decide +kernel
theorem dX1_leastHop_3 : decode cX1_leastHop 3 = .ok (.aload_n 0, 1) := by decide +kernel
theorem dX1_leastHop_4 : decode cX1_leastHop 4 = .ok (.getfield 24, 3) := by decide +kernel
theorem dX1_leastHop_7 : decode cX1_leastHop 7 = .ok (.if_icmp .ge 52, 3) := by decide +kernel
theorem dX1_leastHop_10 : decode cX1_leastHop 10 = .ok (.iload_n 1, 1) := by decide +kernel
theorem dX1_leastHop_11 : decode cX1_leastHop 11 = .ok (.iload_n 2, 1) := by decide +kernel
theorem dX1_leastHop_12 : decode cX1_leastHop 12 = .ok (.if_icmp .eq 47, 3) := by decide +kernel
theorem dX1_leastHop_15 : decode cX1_leastHop 15 = .ok (.aload_n 0, 1) := by decide +kernel
theorem dX1_leastHop_16 : decode cX1_leastHop 16 = .ok (.iload_n 1, 1) := by decide +kernel
theorem dX1_leastHop_17 : decode cX1_leastHop 17 = .ok (.iload_n 2, 1) := by decide +kernel
theorem dX1_leastHop_18 : decode cX1_leastHop 18 = .ok (.invokevirtual 76, 3) := by decide +kernel
theorem dX1_leastHop_21 : decode cX1_leastHop 21 = .ok (.ifCond .eq 38, 3) := by decide +kernel
theorem dX1_leastHop_24 : decode cX1_leastHop 24 = .ok (.iload_n 3, 1) := by decide +kernel
theorem dX1_leastHop_25 : decode cX1_leastHop 25 = .ok (.iload_n 1, 1) := by decide +kernel
theorem dX1_leastHop_26 : decode cX1_leastHop 26 = .ok (.if_icmp .eq 27, 3) := by decide +kernel
theorem dX1_leastHop_29 : decode cX1_leastHop 29 = .ok (.aload_n 0, 1) := by decide +kernel
theorem dX1_leastHop_30 : decode cX1_leastHop 30 = .ok (.iload_n 1, 1) := by decide +kernel
theorem dX1_leastHop_31 : decode cX1_leastHop 31 = .ok (.iload_n 3, 1) := by decide +kernel
theorem dX1_leastHop_32 : decode cX1_leastHop 32 = .ok (.invokevirtual 63, 3) := by decide +kernel
theorem dX1_leastHop_35 : decode cX1_leastHop 35 = .ok (.aload_n 0, 1) := by decide +kernel
theorem dX1_leastHop_36 : decode cX1_leastHop 36 = .ok (.iload_n 3, 1) := by decide +kernel
theorem dX1_leastHop_37 : decode cX1_leastHop 37 = .ok (.iload_n 2, 1) := by decide +kernel
theorem dX1_leastHop_38 : decode cX1_leastHop 38 = .ok (.invokevirtual 73, 3) := by decide +kernel
theorem dX1_leastHop_41 : decode cX1_leastHop 41 = .ok (.iadd, 1) := by decide +kernel
theorem dX1_leastHop_42 : decode cX1_leastHop 42 = .ok (.aload_n 0, 1) := by decide +kernel
theorem dX1_leastHop_43 : decode cX1_leastHop 43 = .ok (.iload_n 1, 1) := by decide +kernel
theorem dX1_leastHop_44 : decode cX1_leastHop 44 = .ok (.iload_n 2, 1) := by decide +kernel
theorem dX1_leastHop_45 : decode cX1_leastHop 45 = .ok (.invokevirtual 73, 3) := by decide +kernel
theorem dX1_leastHop_48 : decode cX1_leastHop 48 = .ok (.if_icmp .ne 5, 3) := by decide +kernel
theorem dX1_leastHop_51 : decode cX1_leastHop 51 = .ok (.iload_n 3, 1) := by decide +kernel
theorem dX1_leastHop_52 : decode cX1_leastHop 52 = .ok (.ireturn, 1) := by decide +kernel
theorem dX1_leastHop_53 : decode cX1_leastHop 53 = .ok (.iinc 3 1, 3) := by decide +kernel
theorem dX1_leastHop_56 : decode cX1_leastHop 56 = .ok (.goto (-54), 3) := by decide +kernel
theorem dX1_leastHop_59 : decode cX1_leastHop 59 = .ok (.iload_n 2, 1) := by decide +kernel
theorem dX1_leastHop_60 : decode cX1_leastHop 60 = .ok (.ireturn, 1) := by decide +kernel
theorem dX2_init_0 : decode cX2_init 0 = .ok (.aload_n 0, 1) := by decide +kernel
theorem dX2_init_1 : decode cX2_init 1 = .ok (.invokespecial 3, 3) := by decide +kernel
theorem dX2_init_4 : decode cX2_init 4 = .ok (.aload_n 0, 1) := by decide +kernel
theorem dX2_init_5 : decode cX2_init 5 = .ok (.iconst 4, 1) := by decide +kernel
theorem dX2_init_6 : decode cX2_init 6 = .ok (.newarray .int, 2) := by decide +kernel
theorem dX2_init_8 : decode cX2_init 8 = .ok (.putfield 9, 3) := by decide +kernel
theorem dX2_init_11 : decode cX2_init 11 = .ok (.aload_n 0, 1) := by decide +kernel
theorem dX2_init_12 : decode cX2_init 12 = .ok (.bipush 80, 2) := by decide +kernel
theorem dX2_init_14 : decode cX2_init 14 = .ok (.newarray .int, 2) := by decide +kernel
theorem dX2_init_16 : decode cX2_init 16 = .ok (.putfield 15, 3) := by decide +kernel
theorem dX2_init_19 : decode cX2_init 19 = .ok (.aload_n 0, 1) := by decide +kernel
theorem dX2_init_20 : decode cX2_init 20 = .ok (.iload_n 1, 1) := by decide +kernel
theorem dX2_init_21 : decode cX2_init 21 = .ok (.putfield 18, 3) := by decide +kernel
theorem dX2_init_24 : decode cX2_init 24 = .ok (.aload_n 0, 1) := by decide +kernel
theorem dX2_init_25 : decode cX2_init 25 = .ok (.iload_n 1, 1) := by decide +kernel
theorem dX2_init_26 : decode cX2_init 26 = .ok (.bipush 11, 2) := by decide +kernel
theorem dX2_init_28 : decode cX2_init 28 = .ok (.imul, 1) := by decide +kernel
theorem dX2_init_29 : decode cX2_init 29 = .ok (.newarray .int, 2) := by decide +kernel
theorem dX2_init_31 : decode cX2_init 31 = .ok (.putfield 22, 3) := by decide +kernel
theorem dX2_init_34 : decode cX2_init 34 = .ok (.return_, 1) := by decide +kernel
theorem dX2_entry_0 : decode cX2_entry 0 = .ok (.aload_n 0, 1) := by decide +kernel
theorem dX2_entry_1 : decode cX2_entry 1 = .ok (.getfield 22, 3) := by decide +kernel
theorem dX2_entry_4 : decode cX2_entry 4 = .ok (.iload_n 1, 1) := by decide +kernel
theorem dX2_entry_5 : decode cX2_entry 5 = .ok (.bipush 11, 2) := by decide +kernel
theorem dX2_entry_7 : decode cX2_entry 7 = .ok (.imul, 1) := by decide +kernel
theorem dX2_entry_8 : decode cX2_entry 8 = .ok (.iload_n 2, 1) := by decide +kernel
theorem dX2_entry_9 : decode cX2_entry 9 = .ok (.iadd, 1) := by decide +kernel
theorem dX2_entry_10 : decode cX2_entry 10 = .ok (.iaload, 1) := by decide +kernel
theorem dX2_entry_11 : decode cX2_entry 11 = .ok (.ireturn, 1) := by decide +kernel
theorem dX2_note_0 : decode cX2_note 0 = .ok (.aload_n 0, 1) := by decide +kernel
theorem dX2_note_1 : decode cX2_note 1 = .ok (.getfield 25, 3) := by decide +kernel
theorem dX2_note_4 : decode cX2_note 4 = .ok (.aload_n 0, 1) := by decide +kernel
theorem dX2_note_5 : decode cX2_note 5 = .ok (.getfield 18, 3) := by decide +kernel
theorem dX2_note_8 : decode cX2_note 8 = .ok (.if_icmp .ne 4, 3) := by decide +kernel
theorem dX2_note_11 : decode cX2_note 11 = .ok (.return_, 1) := by decide +kernel
theorem dX2_note_12 : decode cX2_note 12 = .ok (.aload_n 0, 1) := by decide +kernel
theorem dX2_note_13 : decode cX2_note 13 = .ok (.getfield 25, 3) := by decide +kernel
theorem dX2_note_16 : decode cX2_note 16 = .ok (.bipush 11, 2) := by decide +kernel
theorem dX2_note_18 : decode cX2_note 18 = .ok (.imul, 1) := by decide +kernel
theorem dX2_note_19 : decode cX2_note 19 = .ok (.istore_n 3, 1) := by decide +kernel
theorem dX2_note_20 : decode cX2_note 20 = .ok (.aload_n 0, 1) := by decide +kernel
theorem dX2_note_21 : decode cX2_note 21 = .ok (.getfield 22, 3) := by decide +kernel
theorem dX2_note_24 : decode cX2_note 24 = .ok (.iload_n 3, 1) := by decide +kernel
theorem dX2_note_25 : decode cX2_note 25 = .ok (.iconst 0, 1) := by decide +kernel
theorem dX2_note_26 : decode cX2_note 26 = .ok (.iadd, 1) := by decide +kernel
theorem dX2_note_27 : decode cX2_note 27 = .ok (.iload_n 1, 1) := by decide +kernel
theorem dX2_note_28 : decode cX2_note 28 = .ok (.iastore, 1) := by decide +kernel
theorem dX2_note_29 : decode cX2_note 29 = .ok (.aload_n 0, 1) := by decide +kernel
theorem dX2_note_30 : decode cX2_note 30 = .ok (.getfield 22, 3) := by decide +kernel
theorem dX2_note_33 : decode cX2_note 33 = .ok (.iload_n 3, 1) := by decide +kernel
theorem dX2_note_34 : decode cX2_note 34 = .ok (.iconst 1, 1) := by decide +kernel
theorem dX2_note_35 : decode cX2_note 35 = .ok (.iadd, 1) := by decide +kernel
theorem dX2_note_36 : decode cX2_note 36 = .ok (.aload_n 2, 1) := by decide +kernel
theorem dX2_note_37 : decode cX2_note 37 = .ok (.getfield 28, 3) := by decide +kernel
theorem dX2_note_40 : decode cX2_note 40 = .ok (.iastore, 1) := by decide +kernel
theorem dX2_note_41 : decode cX2_note 41 = .ok (.aload_n 0, 1) := by decide +kernel
theorem dX2_note_42 : decode cX2_note 42 = .ok (.getfield 22, 3) := by decide +kernel
theorem dX2_note_45 : decode cX2_note 45 = .ok (.iload_n 3, 1) := by decide +kernel
theorem dX2_note_46 : decode cX2_note 46 = .ok (.iconst 2, 1) := by decide +kernel
theorem dX2_note_47 : decode cX2_note 47 = .ok (.iadd, 1) := by decide +kernel
theorem dX2_note_48 : decode cX2_note 48 = .ok (.aload_n 2, 1) := by decide +kernel
theorem dX2_note_49 : decode cX2_note 49 = .ok (.getfield 33, 3) := by decide +kernel
theorem dX2_note_52 : decode cX2_note 52 = .ok (.iastore, 1) := by decide +kernel
theorem dX2_note_53 : decode cX2_note 53 = .ok (.aload_n 0, 1) := by decide +kernel
theorem dX2_note_54 : decode cX2_note 54 = .ok (.getfield 22, 3) := by decide +kernel
theorem dX2_note_57 : decode cX2_note 57 = .ok (.iload_n 3, 1) := by decide +kernel
theorem dX2_note_58 : decode cX2_note 58 = .ok (.iconst 3, 1) := by decide +kernel
theorem dX2_note_59 : decode cX2_note 59 = .ok (.iadd, 1) := by decide +kernel
theorem dX2_note_60 : decode cX2_note 60 = .ok (.aload_n 2, 1) := by decide +kernel
theorem dX2_note_61 : decode cX2_note 61 = .ok (.getfield 36, 3) := by decide +kernel
theorem dX2_note_64 : decode cX2_note 64 = .ok (.iastore, 1) := by decide +kernel
theorem dX2_note_65 : decode cX2_note 65 = .ok (.aload_n 0, 1) := by decide +kernel
theorem dX2_note_66 : decode cX2_note 66 = .ok (.getfield 22, 3) := by decide +kernel
theorem dX2_note_69 : decode cX2_note 69 = .ok (.iload_n 3, 1) := by decide +kernel
theorem dX2_note_70 : decode cX2_note 70 = .ok (.iconst 4, 1) := by decide +kernel
theorem dX2_note_71 : decode cX2_note 71 = .ok (.iadd, 1) := by decide +kernel
theorem dX2_note_72 : decode cX2_note 72 = .ok (.aload_n 2, 1) := by decide +kernel
theorem dX2_note_73 : decode cX2_note 73 = .ok (.getfield 39, 3) := by decide +kernel
theorem dX2_note_76 : decode cX2_note 76 = .ok (.iastore, 1) := by decide +kernel
theorem dX2_note_77 : decode cX2_note 77 = .ok (.aload_n 0, 1) := by decide +kernel
theorem dX2_note_78 : decode cX2_note 78 = .ok (.getfield 22, 3) := by decide +kernel
theorem dX2_note_81 : decode cX2_note 81 = .ok (.iload_n 3, 1) := by decide +kernel
theorem dX2_note_82 : decode cX2_note 82 = .ok (.iconst 5, 1) := by decide +kernel
theorem dX2_note_83 : decode cX2_note 83 = .ok (.iadd, 1) := by decide +kernel
theorem dX2_note_84 : decode cX2_note 84 = .ok (.aload_n 2, 1) := by decide +kernel
theorem dX2_note_85 : decode cX2_note 85 = .ok (.getfield 42, 3) := by decide +kernel
theorem dX2_note_88 : decode cX2_note 88 = .ok (.ifCond .eq 7, 3) := by decide +kernel
theorem dX2_note_91 : decode cX2_note 91 = .ok (.iconst 1, 1) := by decide +kernel
theorem dX2_note_92 : decode cX2_note 92 = .ok (.goto 4, 3) := by decide +kernel
theorem dX2_note_95 : decode cX2_note 95 = .ok (.iconst 0, 1) := by decide +kernel
theorem dX2_note_96 : decode cX2_note 96 = .ok (.iastore, 1) := by decide +kernel
theorem dX2_note_97 : decode cX2_note 97 = .ok (.aload_n 0, 1) := by decide +kernel
theorem dX2_note_98 : decode cX2_note 98 = .ok (.getfield 22, 3) := by decide +kernel
theorem dX2_note_101 : decode cX2_note 101 = .ok (.iload_n 3, 1) := by decide +kernel
theorem dX2_note_102 : decode cX2_note 102 = .ok (.bipush 6, 2) := by decide +kernel
theorem dX2_note_104 : decode cX2_note 104 = .ok (.iadd, 1) := by decide +kernel
theorem dX2_note_105 : decode cX2_note 105 = .ok (.aload_n 2, 1) := by decide +kernel
theorem dX2_note_106 : decode cX2_note 106 = .ok (.getfield 46, 3) := by decide +kernel
theorem dX2_note_109 : decode cX2_note 109 = .ok (.iastore, 1) := by decide +kernel
theorem dX2_note_110 : decode cX2_note 110 = .ok (.aload_n 0, 1) := by decide +kernel
theorem dX2_note_111 : decode cX2_note 111 = .ok (.getfield 22, 3) := by decide +kernel
theorem dX2_note_114 : decode cX2_note 114 = .ok (.iload_n 3, 1) := by decide +kernel
theorem dX2_note_115 : decode cX2_note 115 = .ok (.bipush 7, 2) := by decide +kernel
theorem dX2_note_117 : decode cX2_note 117 = .ok (.iadd, 1) := by decide +kernel
theorem dX2_note_118 : decode cX2_note 118 = .ok (.aload_n 2, 1) := by decide +kernel
theorem dX2_note_119 : decode cX2_note 119 = .ok (.getfield 49, 3) := by decide +kernel
theorem dX2_note_122 : decode cX2_note 122 = .ok (.iastore, 1) := by decide +kernel
theorem dX2_note_123 : decode cX2_note 123 = .ok (.aload_n 0, 1) := by decide +kernel
theorem dX2_note_124 : decode cX2_note 124 = .ok (.getfield 22, 3) := by decide +kernel
theorem dX2_note_127 : decode cX2_note 127 = .ok (.iload_n 3, 1) := by decide +kernel
theorem dX2_note_128 : decode cX2_note 128 = .ok (.bipush 8, 2) := by decide +kernel
theorem dX2_note_130 : decode cX2_note 130 = .ok (.iadd, 1) := by decide +kernel
theorem dX2_note_131 : decode cX2_note 131 = .ok (.aload_n 2, 1) := by decide +kernel
theorem dX2_note_132 : decode cX2_note 132 = .ok (.getfield 52, 3) := by decide +kernel
theorem dX2_note_135 : decode cX2_note 135 = .ok (.ifCond .eq 7, 3) := by decide +kernel
theorem dX2_note_138 : decode cX2_note 138 = .ok (.iconst 1, 1) := by decide +kernel
theorem dX2_note_139 : decode cX2_note 139 = .ok (.goto 4, 3) := by decide +kernel
theorem dX2_note_142 : decode cX2_note 142 = .ok (.iconst 0, 1) := by decide +kernel
theorem dX2_note_143 : decode cX2_note 143 = .ok (.iastore, 1) := by decide +kernel
theorem dX2_note_144 : decode cX2_note 144 = .ok (.aload_n 0, 1) := by decide +kernel
theorem dX2_note_145 : decode cX2_note 145 = .ok (.getfield 22, 3) := by decide +kernel
theorem dX2_note_148 : decode cX2_note 148 = .ok (.iload_n 3, 1) := by decide +kernel
theorem dX2_note_149 : decode cX2_note 149 = .ok (.bipush 9, 2) := by decide +kernel
theorem dX2_note_151 : decode cX2_note 151 = .ok (.iadd, 1) := by decide +kernel
theorem dX2_note_152 : decode cX2_note 152 = .ok (.aload_n 2, 1) := by decide +kernel
theorem dX2_note_153 : decode cX2_note 153 = .ok (.getfield 55, 3) := by decide +kernel
theorem dX2_note_156 : decode cX2_note 156 = .ok (.ifCond .eq 7, 3) := by decide +kernel
theorem dX2_note_159 : decode cX2_note 159 = .ok (.iconst 1, 1) := by decide +kernel
theorem dX2_note_160 : decode cX2_note 160 = .ok (.goto 4, 3) := by decide +kernel
theorem dX2_note_163 : decode cX2_note 163 = .ok (.iconst 0, 1) := by decide +kernel
theorem dX2_note_164 : decode cX2_note 164 = .ok (.iastore, 1) := by decide +kernel
theorem dX2_note_165 : decode cX2_note 165 = .ok (.aload_n 0, 1) := by decide +kernel
theorem dX2_note_166 : decode cX2_note 166 = .ok (.getfield 22, 3) := by decide +kernel
theorem dX2_note_169 : decode cX2_note 169 = .ok (.iload_n 3, 1) := by decide +kernel
theorem dX2_note_170 : decode cX2_note 170 = .ok (.bipush 10, 2) := by decide +kernel
theorem dX2_note_172 : decode cX2_note 172 = .ok (.iadd, 1) := by decide +kernel
theorem dX2_note_173 : decode cX2_note 173 = .ok (.aload_n 2, 1) := by decide +kernel
theorem dX2_note_174 : decode cX2_note 174 = .ok (.getfield 58, 3) := by decide +kernel
theorem dX2_note_177 : decode cX2_note 177 = .ok (.iastore, 1) := by decide +kernel
theorem dX2_note_178 : decode cX2_note 178 = .ok (.aload_n 0, 1) := by decide +kernel
theorem dX2_note_179 : decode cX2_note 179 = .ok (.dup, 1) := by decide +kernel
theorem dX2_note_180 : decode cX2_note 180 = .ok (.getfield 25, 3) := by decide +kernel
theorem dX2_note_183 : decode cX2_note 183 = .ok (.iconst 1, 1) := by decide +kernel
theorem dX2_note_184 : decode cX2_note 184 = .ok (.iadd, 1) := by decide +kernel
theorem dX2_note_185 : decode cX2_note 185 = .ok (.putfield 25, 3) := by decide +kernel
theorem dX2_note_188 : decode cX2_note 188 = .ok (.return_, 1) := by decide +kernel
theorem dX2_costAboveNearest_0 : decode cX2_costAboveNearest 0 = .ok (.iconst 0, 1) := by decide +kernel
theorem dX2_costAboveNearest_1 : decode cX2_costAboveNearest 1 = .ok (.istore_n 2, 1) := by decide +kernel
theorem dX2_costAboveNearest_2 : decode cX2_costAboveNearest 2 = .ok (.iconst 0, 1) := by decide +kernel
theorem dX2_costAboveNearest_3 : decode cX2_costAboveNearest 3 = .ok (.istore_n 3, 1) := by decide +kernel
theorem dX2_costAboveNearest_4 : decode cX2_costAboveNearest 4 = .ok (.iload_n 3, 1) := by decide +kernel
theorem dX2_costAboveNearest_5 : decode cX2_costAboveNearest 5 = .ok (.aload_n 0, 1) := by decide +kernel
theorem dX2_costAboveNearest_6 : decode cX2_costAboveNearest 6 = .ok (.getfield 25, 3) := by decide +kernel
theorem dX2_costAboveNearest_9 : decode cX2_costAboveNearest 9 = .ok (.if_icmp .ge 31, 3) := by decide +kernel
theorem dX2_costAboveNearest_12 : decode cX2_costAboveNearest 12 = .ok (.aload_n 0, 1) := by decide +kernel
theorem dX2_costAboveNearest_13 : decode cX2_costAboveNearest 13 = .ok (.iload_n 3, 1) := by decide +kernel
theorem dX2_costAboveNearest_14 : decode cX2_costAboveNearest 14 = .ok (.iconst 3, 1) := by decide +kernel
theorem dX2_costAboveNearest_15 : decode cX2_costAboveNearest 15 = .ok (.invokevirtual 61, 3) := by decide +kernel
theorem dX2_costAboveNearest_18 : decode cX2_costAboveNearest 18 = .ok (.iload_n 1, 1) := by decide +kernel
theorem dX2_costAboveNearest_19 : decode cX2_costAboveNearest 19 = .ok (.if_icmp .ne 15, 3) := by decide +kernel
theorem dX2_costAboveNearest_22 : decode cX2_costAboveNearest 22 = .ok (.iload_n 2, 1) := by decide +kernel
theorem dX2_costAboveNearest_23 : decode cX2_costAboveNearest 23 = .ok (.aload_n 0, 1) := by decide +kernel
theorem dX2_costAboveNearest_24 : decode cX2_costAboveNearest 24 = .ok (.iload_n 3, 1) := by decide +kernel
theorem dX2_costAboveNearest_25 : decode cX2_costAboveNearest 25 = .ok (.bipush 7, 2) := by decide +kernel
theorem dX2_costAboveNearest_27 : decode cX2_costAboveNearest 27 = .ok (.invokevirtual 61, 3) := by decide +kernel
theorem dX2_costAboveNearest_30 : decode cX2_costAboveNearest 30 = .ok (.iconst 1, 1) := by decide +kernel
theorem dX2_costAboveNearest_31 : decode cX2_costAboveNearest 31 = .ok (.isub, 1) := by decide +kernel
theorem dX2_costAboveNearest_32 : decode cX2_costAboveNearest 32 = .ok (.iadd, 1) := by decide +kernel
theorem dX2_costAboveNearest_33 : decode cX2_costAboveNearest 33 = .ok (.istore_n 2, 1) := by decide +kernel
theorem dX2_costAboveNearest_34 : decode cX2_costAboveNearest 34 = .ok (.iinc 3 1, 3) := by decide +kernel
theorem dX2_costAboveNearest_37 : decode cX2_costAboveNearest 37 = .ok (.goto (-33), 3) := by decide +kernel
theorem dX2_costAboveNearest_40 : decode cX2_costAboveNearest 40 = .ok (.iload_n 2, 1) := by decide +kernel
theorem dX2_costAboveNearest_41 : decode cX2_costAboveNearest 41 = .ok (.ireturn, 1) := by decide +kernel
theorem dX2_leastSum_0 : decode cX2_leastSum 0 = .ok (.aload_n 0, 1) := by decide +kernel
theorem dX2_leastSum_1 : decode cX2_leastSum 1 = .ok (.getfield 9, 3) := by decide +kernel
theorem dX2_leastSum_4 : decode cX2_leastSum 4 = .ok (.iconst 0, 1) := by decide +kernel
theorem dX2_leastSum_5 : decode cX2_leastSum 5 = .ok (.invokestatic 65, 3) := by decide +kernel
theorem dX2_leastSum_8 : decode cX2_leastSum 8 = .ok (.iconst 0, 1) := by decide +kernel
theorem dX2_leastSum_9 : decode cX2_leastSum 9 = .ok (.istore 4, 2) := by decide +kernel
theorem dX2_leastSum_11 : decode cX2_leastSum 11 = .ok (.iload 4, 2) := by decide +kernel
theorem dX2_leastSum_13 : decode cX2_leastSum 13 = .ok (.aload_n 0, 1) := by decide +kernel
theorem dX2_leastSum_14 : decode cX2_leastSum 14 = .ok (.getfield 25, 3) := by decide +kernel
theorem dX2_leastSum_17 : decode cX2_leastSum 17 = .ok (.if_icmp .ge 33, 3) := by decide +kernel
theorem dX2_leastSum_20 : decode cX2_leastSum 20 = .ok (.aload_n 0, 1) := by decide +kernel
theorem dX2_leastSum_21 : decode cX2_leastSum 21 = .ok (.iload 4, 2) := by decide +kernel
theorem dX2_leastSum_23 : decode cX2_leastSum 23 = .ok (.iconst 3, 1) := by decide +kernel
theorem dX2_leastSum_24 : decode cX2_leastSum 24 = .ok (.invokevirtual 61, 3) := by decide +kernel
theorem dX2_leastSum_27 : decode cX2_leastSum 27 = .ok (.iload_n 1, 1) := by decide +kernel
theorem dX2_leastSum_28 : decode cX2_leastSum 28 = .ok (.if_icmp .ne 16, 3) := by decide +kernel
theorem dX2_leastSum_31 : decode cX2_leastSum 31 = .ok (.aload_n 0, 1) := by decide +kernel
theorem dX2_leastSum_32 : decode cX2_leastSum 32 = .ok (.aload_n 0, 1) := by decide +kernel
theorem dX2_leastSum_33 : decode cX2_leastSum 33 = .ok (.iload 4, 2) := by decide +kernel
theorem dX2_leastSum_35 : decode cX2_leastSum 35 = .ok (.iconst 2, 1) := by decide +kernel
theorem dX2_leastSum_36 : decode cX2_leastSum 36 = .ok (.invokevirtual 61, 3) := by decide +kernel
theorem dX2_leastSum_39 : decode cX2_leastSum 39 = .ok (.aload_n 2, 1) := by decide +kernel
theorem dX2_leastSum_40 : decode cX2_leastSum 40 = .ok (.iload_n 3, 1) := by decide +kernel
theorem dX2_leastSum_41 : decode cX2_leastSum 41 = .ok (.invokevirtual 71, 3) := by decide +kernel
theorem dX2_leastSum_44 : decode cX2_leastSum 44 = .ok (.iinc 4 1, 3) := by decide +kernel
theorem dX2_leastSum_47 : decode cX2_leastSum 47 = .ok (.goto (-36), 3) := by decide +kernel
theorem dX2_leastSum_50 : decode cX2_leastSum 50 = .ok (.aload_n 0, 1) := by decide +kernel
theorem dX2_leastSum_51 : decode cX2_leastSum 51 = .ok (.aload_n 2, 1) := by decide +kernel
theorem dX2_leastSum_52 : decode cX2_leastSum 52 = .ok (.getfield 75, 3) := by decide +kernel
theorem dX2_leastSum_55 : decode cX2_leastSum 55 = .ok (.invokevirtual 80, 3) := by decide +kernel
theorem dX2_leastSum_58 : decode cX2_leastSum 58 = .ok (.ireturn, 1) := by decide +kernel
theorem dX2_addAccess_0 : decode cX2_addAccess 0 = .ok (.aload_n 0, 1) := by decide +kernel
theorem dX2_addAccess_1 : decode cX2_addAccess 1 = .ok (.aload_n 2, 1) := by decide +kernel
theorem dX2_addAccess_2 : decode cX2_addAccess 2 = .ok (.getfield 75, 3) := by decide +kernel
theorem dX2_addAccess_5 : decode cX2_addAccess 5 = .ok (.invokevirtual 80, 3) := by decide +kernel
theorem dX2_addAccess_8 : decode cX2_addAccess 8 = .ok (.iload_n 3, 1) := by decide +kernel
theorem dX2_addAccess_9 : decode cX2_addAccess 9 = .ok (.iadd, 1) := by decide +kernel
theorem dX2_addAccess_10 : decode cX2_addAccess 10 = .ok (.istore 4, 2) := by decide +kernel
theorem dX2_addAccess_12 : decode cX2_addAccess 12 = .ok (.iconst 0, 1) := by decide +kernel
theorem dX2_addAccess_13 : decode cX2_addAccess 13 = .ok (.istore 5, 2) := by decide +kernel
theorem dX2_addAccess_15 : decode cX2_addAccess 15 = .ok (.iload 5, 2) := by decide +kernel
theorem dX2_addAccess_17 : decode cX2_addAccess 17 = .ok (.aload_n 2, 1) := by decide +kernel
theorem dX2_addAccess_18 : decode cX2_addAccess 18 = .ok (.getfield 75, 3) := by decide +kernel
theorem dX2_addAccess_21 : decode cX2_addAccess 21 = .ok (.if_icmp .ge 78, 3) := by decide +kernel
theorem dX2_addAccess_24 : decode cX2_addAccess 24 = .ok (.aload_n 0, 1) := by decide +kernel
theorem dX2_addAccess_25 : decode cX2_addAccess 25 = .ok (.getfield 9, 3) := by decide +kernel
theorem dX2_addAccess_28 : decode cX2_addAccess 28 = .ok (.iload 5, 2) := by decide +kernel
theorem dX2_addAccess_30 : decode cX2_addAccess 30 = .ok (.iaload, 1) := by decide +kernel
theorem dX2_addAccess_31 : decode cX2_addAccess 31 = .ok (.iload 4, 2) := by decide +kernel
theorem dX2_addAccess_33 : decode cX2_addAccess 33 = .ok (.invokestatic 84, 3) := by decide +kernel
theorem dX2_addAccess_36 : decode cX2_addAccess 36 = .ok (.istore 6, 2) := by decide +kernel
theorem dX2_addAccess_38 : decode cX2_addAccess 38 = .ok (.aload_n 2, 1) := by decide +kernel
theorem dX2_addAccess_39 : decode cX2_addAccess 39 = .ok (.iload_n 1, 1) := by decide +kernel
theorem dX2_addAccess_40 : decode cX2_addAccess 40 = .ok (.iload 5, 2) := by decide +kernel
theorem dX2_addAccess_42 : decode cX2_addAccess 42 = .ok (.invokevirtual 89, 3) := by decide +kernel
theorem dX2_addAccess_45 : decode cX2_addAccess 45 = .ok (.ifCond .eq 14, 3) := by decide +kernel
theorem dX2_addAccess_48 : decode cX2_addAccess 48 = .ok (.iload 6, 2) := by decide +kernel
theorem dX2_addAccess_50 : decode cX2_addAccess 50 = .ok (.ldc 93, 2) := by decide +kernel
theorem dX2_addAccess_52 : decode cX2_addAccess 52 = .ok (.if_icmp .ge 7, 3) := by decide +kernel
theorem dX2_addAccess_55 : decode cX2_addAccess 55 = .ok (.iconst 1, 1) := by decide +kernel
theorem dX2_addAccess_56 : decode cX2_addAccess 56 = .ok (.goto 4, 3) := by decide +kernel
theorem dX2_addAccess_59 : decode cX2_addAccess 59 = .ok (.iconst 0, 1) := by decide +kernel
theorem dX2_addAccess_60 : decode cX2_addAccess 60 = .ok (.istore 7, 2) := by decide +kernel
theorem dX2_addAccess_62 : decode cX2_addAccess 62 = .ok (.aload_n 0, 1) := by decide +kernel
theorem dX2_addAccess_63 : decode cX2_addAccess 63 = .ok (.getfield 9, 3) := by decide +kernel
theorem dX2_addAccess_66 : decode cX2_addAccess 66 = .ok (.iload 5, 2) := by decide +kernel
theorem dX2_addAccess_68 : decode cX2_addAccess 68 = .ok (.iload 7, 2) := by decide +kernel
theorem dX2_addAccess_70 : decode cX2_addAccess 70 = .ok (.ifCond .eq 20, 3) := by decide +kernel
theorem dX2_addAccess_73 : decode cX2_addAccess 73 = .ok (.iload 6, 2) := by decide +kernel
theorem dX2_addAccess_75 : decode cX2_addAccess 75 = .ok (.iconst 1, 1) := by decide +kernel
theorem dX2_addAccess_76 : decode cX2_addAccess 76 = .ok (.iadd, 1) := by decide +kernel
theorem dX2_addAccess_77 : decode cX2_addAccess 77 = .ok (.iconst 2, 1) := by decide +kernel
theorem dX2_addAccess_78 : decode cX2_addAccess 78 = .ok (.aload_n 2, 1) := by decide +kernel
theorem dX2_addAccess_79 : decode cX2_addAccess 79 = .ok (.iload_n 1, 1) := by decide +kernel
theorem dX2_addAccess_80 : decode cX2_addAccess 80 = .ok (.iload 5, 2) := by decide +kernel
theorem dX2_addAccess_82 : decode cX2_addAccess 82 = .ok (.invokevirtual 94, 3) := by decide +kernel
theorem dX2_addAccess_85 : decode cX2_addAccess 85 = .ok (.imul, 1) := by decide +kernel
theorem dX2_addAccess_86 : decode cX2_addAccess 86 = .ok (.iadd, 1) := by decide +kernel
theorem dX2_addAccess_87 : decode cX2_addAccess 87 = .ok (.goto 5, 3) := by decide +kernel
theorem dX2_addAccess_90 : decode cX2_addAccess 90 = .ok (.ldc 93, 2) := by decide +kernel
theorem dX2_addAccess_92 : decode cX2_addAccess 92 = .ok (.iastore, 1) := by decide +kernel
theorem dX2_addAccess_93 : decode cX2_addAccess 93 = .ok (.iinc 5 1, 3) := by decide +kernel
theorem dX2_addAccess_96 : decode cX2_addAccess 96 = .ok (.goto (-81), 3) := by decide +kernel
theorem dX2_addAccess_99 : decode cX2_addAccess 99 = .ok (.return_, 1) := by decide +kernel
theorem dX2_leastOf_0 : decode cX2_leastOf 0 = .ok (.ldc 93, 2) := by decide +kernel
theorem dX2_leastOf_2 : decode cX2_leastOf 2 = .ok (.istore_n 2, 1) := by decide +kernel
theorem dX2_leastOf_3 : decode cX2_leastOf 3 = .ok (.iconst 0, 1) := by decide +kernel
theorem dX2_leastOf_4 : decode cX2_leastOf 4 = .ok (.istore_n 3, 1) := by decide +kernel
theorem dX2_leastOf_5 : decode cX2_leastOf 5 = .ok (.iload_n 3, 1) := by decide +kernel
theorem dX2_leastOf_6 : decode cX2_leastOf 6 = .ok (.iload_n 1, 1) := by decide +kernel
theorem dX2_leastOf_7 : decode cX2_leastOf 7 = .ok (.if_icmp .ge 20, 3) := by decide +kernel
theorem dX2_leastOf_10 : decode cX2_leastOf 10 = .ok (.iload_n 2, 1) := by decide +kernel
theorem dX2_leastOf_11 : decode cX2_leastOf 11 = .ok (.aload_n 0, 1) := by decide +kernel
theorem dX2_leastOf_12 : decode cX2_leastOf 12 = .ok (.getfield 9, 3) := by decide +kernel
theorem dX2_leastOf_15 : decode cX2_leastOf 15 = .ok (.iload_n 3, 1) := by decide +kernel
theorem dX2_leastOf_16 : decode cX2_leastOf 16 = .ok (.iaload, 1) := by decide +kernel
theorem dX2_leastOf_17 : decode cX2_leastOf 17 = .ok (.invokestatic 84, 3) := by decide +kernel
theorem dX2_leastOf_20 : decode cX2_leastOf 20 = .ok (.istore_n 2, 1) := by decide +kernel
theorem dX2_leastOf_21 : decode cX2_leastOf 21 = .ok (.iinc 3 1, 3) := by decide +kernel
theorem dX2_leastOf_24 : decode cX2_leastOf 24 = .ok (.goto (-19), 3) := by decide +kernel
theorem dX2_leastOf_27 : decode cX2_leastOf 27 = .ok (.iload_n 2, 1) := by decide +kernel
theorem dX2_leastOf_28 : decode cX2_leastOf 28 = .ok (.ireturn, 1) := by decide +kernel
theorem dX2_endsAlike_0 : decode cX2_endsAlike 0 = .ok (.aload_n 0, 1) := by decide +kernel
theorem dX2_endsAlike_1 : decode cX2_endsAlike 1 = .ok (.invokevirtual 97, 3) := by decide +kernel
theorem dX2_endsAlike_4 : decode cX2_endsAlike 4 = .ok (.iconst 0, 1) := by decide +kernel
theorem dX2_endsAlike_5 : decode cX2_endsAlike 5 = .ok (.istore_n 3, 1) := by decide +kernel
theorem dX2_endsAlike_6 : decode cX2_endsAlike 6 = .ok (.iload_n 3, 1) := by decide +kernel
theorem dX2_endsAlike_7 : decode cX2_endsAlike 7 = .ok (.iload_n 2, 1) := by decide +kernel
theorem dX2_endsAlike_8 : decode cX2_endsAlike 8 = .ok (.if_icmp .ge 49, 3) := by decide +kernel
theorem dX2_endsAlike_11 : decode cX2_endsAlike 11 = .ok (.iconst 0, 1) := by decide +kernel
theorem dX2_endsAlike_12 : decode cX2_endsAlike 12 = .ok (.istore 4, 2) := by decide +kernel
theorem dX2_endsAlike_14 : decode cX2_endsAlike 14 = .ok (.iload 4, 2) := by decide +kernel
theorem dX2_endsAlike_16 : decode cX2_endsAlike 16 = .ok (.iconst 4, 1) := by decide +kernel
theorem dX2_endsAlike_17 : decode cX2_endsAlike 17 = .ok (.if_icmp .ge 34, 3) := by decide +kernel
theorem dX2_endsAlike_20 : decode cX2_endsAlike 20 = .ok (.aload_n 0, 1) := by decide +kernel
theorem dX2_endsAlike_21 : decode cX2_endsAlike 21 = .ok (.getfield 15, 3) := by decide +kernel
theorem dX2_endsAlike_24 : decode cX2_endsAlike 24 = .ok (.iload_n 3, 1) := by decide +kernel
theorem dX2_endsAlike_25 : decode cX2_endsAlike 25 = .ok (.iconst 4, 1) := by decide +kernel
theorem dX2_endsAlike_26 : decode cX2_endsAlike 26 = .ok (.imul, 1) := by decide +kernel
theorem dX2_endsAlike_27 : decode cX2_endsAlike 27 = .ok (.iload 4, 2) := by decide +kernel
theorem dX2_endsAlike_29 : decode cX2_endsAlike 29 = .ok (.iadd, 1) := by decide +kernel
theorem dX2_endsAlike_30 : decode cX2_endsAlike 30 = .ok (.iaload, 1) := by decide +kernel
theorem dX2_endsAlike_31 : decode cX2_endsAlike 31 = .ok (.aload_n 1, 1) := by decide +kernel
theorem dX2_endsAlike_32 : decode cX2_endsAlike 32 = .ok (.iload_n 3, 1) := by decide +kernel
theorem dX2_endsAlike_33 : decode cX2_endsAlike 33 = .ok (.aaload, 1) := by decide +kernel
theorem dX2_endsAlike_34 : decode cX2_endsAlike 34 = .ok (.getfield 100, 3) := by decide +kernel
theorem dX2_endsAlike_37 : decode cX2_endsAlike 37 = .ok (.iload 4, 2) := by decide +kernel
theorem dX2_endsAlike_39 : decode cX2_endsAlike 39 = .ok (.iaload, 1) := by decide +kernel
theorem dX2_endsAlike_40 : decode cX2_endsAlike 40 = .ok (.if_icmp .eq 5, 3) := by decide +kernel
theorem dX2_endsAlike_43 : decode cX2_endsAlike 43 = .ok (.iconst 0, 1) := by decide +kernel
theorem dX2_endsAlike_44 : decode cX2_endsAlike 44 = .ok (.ireturn, 1) := by decide +kernel
theorem dX2_endsAlike_45 : decode cX2_endsAlike 45 = .ok (.iinc 4 1, 3) := by decide +kernel
theorem dX2_endsAlike_48 : decode cX2_endsAlike 48 = .ok (.goto (-34), 3) := by decide +kernel
theorem dX2_endsAlike_51 : decode cX2_endsAlike 51 = .ok (.iinc 3 1, 3) := by decide +kernel
theorem dX2_endsAlike_54 : decode cX2_endsAlike 54 = .ok (.goto (-48), 3) := by decide +kernel
theorem dX2_endsAlike_57 : decode cX2_endsAlike 57 = .ok (.iconst 1, 1) := by decide +kernel
theorem dX2_endsAlike_58 : decode cX2_endsAlike 58 = .ok (.ireturn, 1) := by decide +kernel
theorem dX2_replay_0 : decode cX2_replay 0 = .ok (.aload_n 0, 1) := by decide +kernel
theorem dX2_replay_1 : decode cX2_replay 1 = .ok (.getfield 15, 3) := by decide +kernel
theorem dX2_replay_4 : decode cX2_replay 4 = .ok (.iconst 0, 1) := by decide +kernel
theorem dX2_replay_5 : decode cX2_replay 5 = .ok (.invokestatic 65, 3) := by decide +kernel
theorem dX2_replay_8 : decode cX2_replay 8 = .ok (.iconst 0, 1) := by decide +kernel
theorem dX2_replay_9 : decode cX2_replay 9 = .ok (.istore_n 1, 1) := by decide +kernel
theorem dX2_replay_10 : decode cX2_replay 10 = .ok (.iload_n 1, 1) := by decide +kernel
theorem dX2_replay_11 : decode cX2_replay 11 = .ok (.aload_n 0, 1) := by decide +kernel
theorem dX2_replay_12 : decode cX2_replay 12 = .ok (.getfield 25, 3) := by decide +kernel
theorem dX2_replay_15 : decode cX2_replay 15 = .ok (.if_icmp .ge 46, 3) := by decide +kernel
theorem dX2_replay_18 : decode cX2_replay 18 = .ok (.aload_n 0, 1) := by decide +kernel
theorem dX2_replay_19 : decode cX2_replay 19 = .ok (.iload_n 1, 1) := by decide +kernel
theorem dX2_replay_20 : decode cX2_replay 20 = .ok (.iconst 5, 1) := by decide +kernel
theorem dX2_replay_21 : decode cX2_replay 21 = .ok (.invokevirtual 61, 3) := by decide +kernel
theorem dX2_replay_24 : decode cX2_replay 24 = .ok (.iconst 1, 1) := by decide +kernel
theorem dX2_replay_25 : decode cX2_replay 25 = .ok (.if_icmp .ne 30, 3) := by decide +kernel
theorem dX2_replay_28 : decode cX2_replay 28 = .ok (.aload_n 0, 1) := by decide +kernel
theorem dX2_replay_29 : decode cX2_replay 29 = .ok (.getfield 15, 3) := by decide +kernel
theorem dX2_replay_32 : decode cX2_replay 32 = .ok (.aload_n 0, 1) := by decide +kernel
theorem dX2_replay_33 : decode cX2_replay 33 = .ok (.iload_n 1, 1) := by decide +kernel
theorem dX2_replay_34 : decode cX2_replay 34 = .ok (.iconst 3, 1) := by decide +kernel
theorem dX2_replay_35 : decode cX2_replay 35 = .ok (.invokevirtual 61, 3) := by decide +kernel
theorem dX2_replay_38 : decode cX2_replay 38 = .ok (.iconst 4, 1) := by decide +kernel
theorem dX2_replay_39 : decode cX2_replay 39 = .ok (.imul, 1) := by decide +kernel
theorem dX2_replay_40 : decode cX2_replay 40 = .ok (.aload_n 0, 1) := by decide +kernel
theorem dX2_replay_41 : decode cX2_replay 41 = .ok (.iload_n 1, 1) := by decide +kernel
theorem dX2_replay_42 : decode cX2_replay 42 = .ok (.iconst 4, 1) := by decide +kernel
theorem dX2_replay_43 : decode cX2_replay 43 = .ok (.invokevirtual 61, 3) := by decide +kernel
theorem dX2_replay_46 : decode cX2_replay 46 = .ok (.iadd, 1) := by decide +kernel
theorem dX2_replay_47 : decode cX2_replay 47 = .ok (.aload_n 0, 1) := by decide +kernel
theorem dX2_replay_48 : decode cX2_replay 48 = .ok (.iload_n 1, 1) := by decide +kernel
theorem dX2_replay_49 : decode cX2_replay 49 = .ok (.bipush 10, 2) := by decide +kernel
theorem dX2_replay_51 : decode cX2_replay 51 = .ok (.invokevirtual 61, 3) := by decide +kernel
theorem dX2_replay_54 : decode cX2_replay 54 = .ok (.iastore, 1) := by decide +kernel
theorem dX2_replay_55 : decode cX2_replay 55 = .ok (.iinc 1 1, 3) := by decide +kernel
theorem dX2_replay_58 : decode cX2_replay 58 = .ok (.goto (-48), 3) := by decide +kernel
theorem dX2_replay_61 : decode cX2_replay 61 = .ok (.return_, 1) := by decide +kernel
theorem dX4_init_0 : decode cX4_init 0 = .ok (.aload_n 0, 1) := by decide +kernel
theorem dX4_init_1 : decode cX4_init 1 = .ok (.invokespecial 3, 3) := by decide +kernel
theorem dX4_init_4 : decode cX4_init 4 = .ok (.aload_n 0, 1) := by decide +kernel
theorem dX4_init_5 : decode cX4_init 5 = .ok (.iconst 4, 1) := by decide +kernel
theorem dX4_init_6 : decode cX4_init 6 = .ok (.newarray .int, 2) := by decide +kernel
theorem dX4_init_8 : decode cX4_init 8 = .ok (.putfield 9, 3) := by decide +kernel
theorem dX4_init_11 : decode cX4_init 11 = .ok (.aload_n 0, 1) := by decide +kernel
theorem dX4_init_12 : decode cX4_init 12 = .ok (.iconst 4, 1) := by decide +kernel
theorem dX4_init_13 : decode cX4_init 13 = .ok (.newarray .int, 2) := by decide +kernel
theorem dX4_init_15 : decode cX4_init 15 = .ok (.putfield 15, 3) := by decide +kernel
theorem dX4_init_18 : decode cX4_init 18 = .ok (.aload_n 0, 1) := by decide +kernel
theorem dX4_init_19 : decode cX4_init 19 = .ok (.iconst (-1), 1) := by decide +kernel
theorem dX4_init_20 : decode cX4_init 20 = .ok (.putfield 18, 3) := by decide +kernel
theorem dX4_init_23 : decode cX4_init 23 = .ok (.return_, 1) := by decide +kernel
theorem dX4_begin_0 : decode cX4_begin 0 = .ok (.aload_n 0, 1) := by decide +kernel
theorem dX4_begin_1 : decode cX4_begin 1 = .ok (.getfield 9, 3) := by decide +kernel
theorem dX4_begin_4 : decode cX4_begin 4 = .ok (.iconst 0, 1) := by decide +kernel
theorem dX4_begin_5 : decode cX4_begin 5 = .ok (.invokestatic 22, 3) := by decide +kernel
theorem dX4_begin_8 : decode cX4_begin 8 = .ok (.aload_n 0, 1) := by decide +kernel
theorem dX4_begin_9 : decode cX4_begin 9 = .ok (.iload_n 1, 1) := by decide +kernel
theorem dX4_begin_10 : decode cX4_begin 10 = .ok (.putfield 28, 3) := by decide +kernel
theorem dX4_begin_13 : decode cX4_begin 13 = .ok (.aload_n 0, 1) := by decide +kernel
theorem dX4_begin_14 : decode cX4_begin 14 = .ok (.iconst (-1), 1) := by decide +kernel
theorem dX4_begin_15 : decode cX4_begin 15 = .ok (.putfield 18, 3) := by decide +kernel
theorem dX4_begin_18 : decode cX4_begin 18 = .ok (.aload_n 0, 1) := by decide +kernel
theorem dX4_begin_19 : decode cX4_begin 19 = .ok (.iconst 0, 1) := by decide +kernel
theorem dX4_begin_20 : decode cX4_begin 20 = .ok (.putfield 31, 3) := by decide +kernel
theorem dX4_begin_23 : decode cX4_begin 23 = .ok (.aload_n 0, 1) := by decide +kernel
theorem dX4_begin_24 : decode cX4_begin 24 = .ok (.iconst 0, 1) := by decide +kernel
theorem dX4_begin_25 : decode cX4_begin 25 = .ok (.putfield 34, 3) := by decide +kernel
theorem dX4_begin_28 : decode cX4_begin 28 = .ok (.aload_n 0, 1) := by decide +kernel
theorem dX4_begin_29 : decode cX4_begin 29 = .ok (.iconst 0, 1) := by decide +kernel
theorem dX4_begin_30 : decode cX4_begin 30 = .ok (.putfield 37, 3) := by decide +kernel
theorem dX4_begin_33 : decode cX4_begin 33 = .ok (.aload_n 0, 1) := by decide +kernel
theorem dX4_begin_34 : decode cX4_begin 34 = .ok (.iconst 0, 1) := by decide +kernel
theorem dX4_begin_35 : decode cX4_begin 35 = .ok (.putfield 40, 3) := by decide +kernel
theorem dX4_begin_38 : decode cX4_begin 38 = .ok (.aload_n 0, 1) := by decide +kernel
theorem dX4_begin_39 : decode cX4_begin 39 = .ok (.iconst 0, 1) := by decide +kernel
theorem dX4_begin_40 : decode cX4_begin 40 = .ok (.putfield 43, 3) := by decide +kernel
theorem dX4_begin_43 : decode cX4_begin 43 = .ok (.return_, 1) := by decide +kernel
theorem dX4_hasCopyOn_0 : decode cX4_hasCopyOn 0 = .ok (.aload_n 0, 1) := by decide +kernel
theorem dX4_hasCopyOn_1 : decode cX4_hasCopyOn 1 = .ok (.getfield 31, 3) := by decide +kernel
theorem dX4_hasCopyOn_4 : decode cX4_hasCopyOn 4 = .ok (.iconst 1, 1) := by decide +kernel
theorem dX4_hasCopyOn_5 : decode cX4_hasCopyOn 5 = .ok (.iload_n 1, 1) := by decide +kernel
theorem dX4_hasCopyOn_6 : decode cX4_hasCopyOn 6 = .ok (.ishl, 1) := by decide +kernel
theorem dX4_hasCopyOn_7 : decode cX4_hasCopyOn 7 = .ok (.iand, 1) := by decide +kernel
theorem dX4_hasCopyOn_8 : decode cX4_hasCopyOn 8 = .ok (.ifCond .eq 7, 3) := by decide +kernel
theorem dX4_hasCopyOn_11 : decode cX4_hasCopyOn 11 = .ok (.iconst 1, 1) := by decide +kernel
theorem dX4_hasCopyOn_12 : decode cX4_hasCopyOn 12 = .ok (.goto 4, 3) := by decide +kernel
theorem dX4_hasCopyOn_15 : decode cX4_hasCopyOn 15 = .ok (.iconst 0, 1) := by decide +kernel
theorem dX4_hasCopyOn_16 : decode cX4_hasCopyOn 16 = .ok (.ireturn, 1) := by decide +kernel
theorem dX4_whereFor_0 : decode cX4_whereFor 0 = .ok (.aload_n 0, 1) := by decide +kernel
theorem dX4_whereFor_1 : decode cX4_whereFor 1 = .ok (.getfield 28, 3) := by decide +kernel
theorem dX4_whereFor_4 : decode cX4_whereFor 4 = .ok (.iconst 2, 1) := by decide +kernel
theorem dX4_whereFor_5 : decode cX4_whereFor 5 = .ok (.if_icmp .ne 12, 3) := by decide +kernel
theorem dX4_whereFor_8 : decode cX4_whereFor 8 = .ok (.iload_n 2, 1) := by decide +kernel
theorem dX4_whereFor_9 : decode cX4_whereFor 9 = .ok (.aload_n 0, 1) := by decide +kernel
theorem dX4_whereFor_10 : decode cX4_whereFor 10 = .ok (.getfield 18, 3) := by decide +kernel
theorem dX4_whereFor_13 : decode cX4_whereFor 13 = .ok (.iadd, 1) := by decide +kernel
theorem dX4_whereFor_14 : decode cX4_whereFor 14 = .ok (.iload_n 3, 1) := by decide +kernel
theorem dX4_whereFor_15 : decode cX4_whereFor 15 = .ok (.irem, 1) := by decide +kernel
theorem dX4_whereFor_16 : decode cX4_whereFor 16 = .ok (.ireturn, 1) := by decide +kernel
theorem dX4_whereFor_17 : decode cX4_whereFor 17 = .ok (.aload_n 0, 1) := by decide +kernel
theorem dX4_whereFor_18 : decode cX4_whereFor 18 = .ok (.iload_n 1, 1) := by decide +kernel
theorem dX4_whereFor_19 : decode cX4_whereFor 19 = .ok (.invokevirtual 47, 3) := by decide +kernel
theorem dX4_whereFor_22 : decode cX4_whereFor 22 = .ok (.ifCond .eq 7, 3) := by decide +kernel
theorem dX4_whereFor_25 : decode cX4_whereFor 25 = .ok (.iload_n 1, 1) := by decide +kernel
theorem dX4_whereFor_26 : decode cX4_whereFor 26 = .ok (.goto 7, 3) := by decide +kernel
theorem dX4_whereFor_29 : decode cX4_whereFor 29 = .ok (.aload_n 0, 1) := by decide +kernel
theorem dX4_whereFor_30 : decode cX4_whereFor 30 = .ok (.getfield 18, 3) := by decide +kernel
theorem dX4_whereFor_33 : decode cX4_whereFor 33 = .ok (.ireturn, 1) := by decide +kernel
theorem dX4_noteFault_0 : decode cX4_noteFault 0 = .ok (.iconst 3, 1) := by decide +kernel
theorem dX4_noteFault_1 : decode cX4_noteFault 1 = .ok (.istore_n 2, 1) := by decide +kernel
theorem dX4_noteFault_2 : decode cX4_noteFault 2 = .ok (.iload_n 2, 1) := by decide +kernel
theorem dX4_noteFault_3 : decode cX4_noteFault 3 = .ok (.ifCond .le 23, 3) := by decide +kernel
theorem dX4_noteFault_6 : decode cX4_noteFault 6 = .ok (.aload_n 0, 1) := by decide +kernel
theorem dX4_noteFault_7 : decode cX4_noteFault 7 = .ok (.getfield 15, 3) := by decide +kernel
theorem dX4_noteFault_10 : decode cX4_noteFault 10 = .ok (.iload_n 2, 1) := by decide +kernel
theorem dX4_noteFault_11 : decode cX4_noteFault 11 = .ok (.aload_n 0, 1) := by decide +kernel
theorem dX4_noteFault_12 : decode cX4_noteFault 12 = .ok (.getfield 15, 3) := by decide +kernel
theorem dX4_noteFault_15 : decode cX4_noteFault 15 = .ok (.iload_n 2, 1) := by decide +kernel
theorem dX4_noteFault_16 : decode cX4_noteFault 16 = .ok (.iconst 1, 1) := by decide +kernel
theorem dX4_noteFault_17 : decode cX4_noteFault 17 = .ok (.isub, 1) := by decide +kernel
theorem dX4_noteFault_18 : decode cX4_noteFault 18 = .ok (.iaload, 1) := by decide +kernel
theorem dX4_noteFault_19 : decode cX4_noteFault 19 = .ok (.iastore, 1) := by decide +kernel
theorem dX4_noteFault_20 : decode cX4_noteFault 20 = .ok (.iinc 2 (-1), 3) := by decide +kernel
theorem dX4_noteFault_23 : decode cX4_noteFault 23 = .ok (.goto (-21), 3) := by decide +kernel
theorem dX4_noteFault_26 : decode cX4_noteFault 26 = .ok (.aload_n 0, 1) := by decide +kernel
theorem dX4_noteFault_27 : decode cX4_noteFault 27 = .ok (.getfield 15, 3) := by decide +kernel
theorem dX4_noteFault_30 : decode cX4_noteFault 30 = .ok (.iconst 0, 1) := by decide +kernel
theorem dX4_noteFault_31 : decode cX4_noteFault 31 = .ok (.iload_n 1, 1) := by decide +kernel
theorem dX4_noteFault_32 : decode cX4_noteFault 32 = .ok (.iastore, 1) := by decide +kernel
theorem dX4_noteFault_33 : decode cX4_noteFault 33 = .ok (.aload_n 0, 1) := by decide +kernel
theorem dX4_noteFault_34 : decode cX4_noteFault 34 = .ok (.aload_n 0, 1) := by decide +kernel
theorem dX4_noteFault_35 : decode cX4_noteFault 35 = .ok (.getfield 34, 3) := by decide +kernel
theorem dX4_noteFault_38 : decode cX4_noteFault 38 = .ok (.iconst 1, 1) := by decide +kernel
theorem dX4_noteFault_39 : decode cX4_noteFault 39 = .ok (.iadd, 1) := by decide +kernel
theorem dX4_noteFault_40 : decode cX4_noteFault 40 = .ok (.iconst 4, 1) := by decide +kernel
theorem dX4_noteFault_41 : decode cX4_noteFault 41 = .ok (.invokestatic 51, 3) := by decide +kernel
theorem dX4_noteFault_44 : decode cX4_noteFault 44 = .ok (.putfield 34, 3) := by decide +kernel
theorem dX4_noteFault_47 : decode cX4_noteFault 47 = .ok (.return_, 1) := by decide +kernel
theorem dX4_wanted_0 : decode cX4_wanted 0 = .ok (.aload_n 0, 1) := by decide +kernel
theorem dX4_wanted_1 : decode cX4_wanted 1 = .ok (.getfield 18, 3) := by decide +kernel
theorem dX4_wanted_4 : decode cX4_wanted 4 = .ok (.istore_n 1, 1) := by decide +kernel
theorem dX4_wanted_5 : decode cX4_wanted 5 = .ok (.iconst 0, 1) := by decide +kernel
theorem dX4_wanted_6 : decode cX4_wanted 6 = .ok (.istore_n 2, 1) := by decide +kernel
theorem dX4_wanted_7 : decode cX4_wanted 7 = .ok (.iconst 0, 1) := by decide +kernel
theorem dX4_wanted_8 : decode cX4_wanted 8 = .ok (.istore_n 3, 1) := by decide +kernel
theorem dX4_wanted_9 : decode cX4_wanted 9 = .ok (.iload_n 3, 1) := by decide +kernel
theorem dX4_wanted_10 : decode cX4_wanted 10 = .ok (.iconst 4, 1) := by decide +kernel
theorem dX4_wanted_11 : decode cX4_wanted 11 = .ok (.if_icmp .ge 27, 3) := by decide +kernel
theorem dX4_wanted_14 : decode cX4_wanted 14 = .ok (.aload_n 0, 1) := by decide +kernel
theorem dX4_wanted_15 : decode cX4_wanted 15 = .ok (.iload_n 3, 1) := by decide +kernel
theorem dX4_wanted_16 : decode cX4_wanted 16 = .ok (.invokevirtual 57, 3) := by decide +kernel
theorem dX4_wanted_19 : decode cX4_wanted 19 = .ok (.istore 4, 2) := by decide +kernel
theorem dX4_wanted_21 : decode cX4_wanted 21 = .ok (.iload 4, 2) := by decide +kernel
theorem dX4_wanted_23 : decode cX4_wanted 23 = .ok (.iload_n 2, 1) := by decide +kernel
theorem dX4_wanted_24 : decode cX4_wanted 24 = .ok (.if_icmp .le 8, 3) := by decide +kernel
theorem dX4_wanted_27 : decode cX4_wanted 27 = .ok (.iload 4, 2) := by decide +kernel
theorem dX4_wanted_29 : decode cX4_wanted 29 = .ok (.istore_n 2, 1) := by decide +kernel
theorem dX4_wanted_30 : decode cX4_wanted 30 = .ok (.iload_n 3, 1) := by decide +kernel
theorem dX4_wanted_31 : decode cX4_wanted 31 = .ok (.istore_n 1, 1) := by decide +kernel
theorem dX4_wanted_32 : decode cX4_wanted 32 = .ok (.iinc 3 1, 3) := by decide +kernel
theorem dX4_wanted_35 : decode cX4_wanted 35 = .ok (.goto (-26), 3) := by decide +kernel
theorem dX4_wanted_38 : decode cX4_wanted 38 = .ok (.iload_n 1, 1) := by decide +kernel
theorem dX4_wanted_39 : decode cX4_wanted 39 = .ok (.ireturn, 1) := by decide +kernel
theorem dX4_faultsOf_0 : decode cX4_faultsOf 0 = .ok (.iconst 0, 1) := by decide +kernel
theorem dX4_faultsOf_1 : decode cX4_faultsOf 1 = .ok (.istore_n 2, 1) := by decide +kernel
theorem dX4_faultsOf_2 : decode cX4_faultsOf 2 = .ok (.iconst 0, 1) := by decide +kernel
theorem dX4_faultsOf_3 : decode cX4_faultsOf 3 = .ok (.istore_n 3, 1) := by decide +kernel
theorem dX4_faultsOf_4 : decode cX4_faultsOf 4 = .ok (.iload_n 3, 1) := by decide +kernel
theorem dX4_faultsOf_5 : decode cX4_faultsOf 5 = .ok (.aload_n 0, 1) := by decide +kernel
theorem dX4_faultsOf_6 : decode cX4_faultsOf 6 = .ok (.getfield 34, 3) := by decide +kernel
theorem dX4_faultsOf_9 : decode cX4_faultsOf 9 = .ok (.if_icmp .ge 22, 3) := by decide +kernel
theorem dX4_faultsOf_12 : decode cX4_faultsOf 12 = .ok (.aload_n 0, 1) := by decide +kernel
theorem dX4_faultsOf_13 : decode cX4_faultsOf 13 = .ok (.getfield 15, 3) := by decide +kernel
theorem dX4_faultsOf_16 : decode cX4_faultsOf 16 = .ok (.iload_n 3, 1) := by decide +kernel
theorem dX4_faultsOf_17 : decode cX4_faultsOf 17 = .ok (.iaload, 1) := by decide +kernel
theorem dX4_faultsOf_18 : decode cX4_faultsOf 18 = .ok (.iload_n 1, 1) := by decide +kernel
theorem dX4_faultsOf_19 : decode cX4_faultsOf 19 = .ok (.if_icmp .ne 6, 3) := by decide +kernel
theorem dX4_faultsOf_22 : decode cX4_faultsOf 22 = .ok (.iinc 2 1, 3) := by decide +kernel
theorem dX4_faultsOf_25 : decode cX4_faultsOf 25 = .ok (.iinc 3 1, 3) := by decide +kernel
theorem dX4_faultsOf_28 : decode cX4_faultsOf 28 = .ok (.goto (-24), 3) := by decide +kernel
theorem dX4_faultsOf_31 : decode cX4_faultsOf 31 = .ok (.iload_n 2, 1) := by decide +kernel
theorem dX4_faultsOf_32 : decode cX4_faultsOf 32 = .ok (.ireturn, 1) := by decide +kernel
theorem dX4_savingAt_0 : decode cX4_savingAt 0 = .ok (.iconst 0, 1) := by decide +kernel
theorem dX4_savingAt_1 : decode cX4_savingAt 1 = .ok (.istore_n 3, 1) := by decide +kernel
theorem dX4_savingAt_2 : decode cX4_savingAt 2 = .ok (.iconst 0, 1) := by decide +kernel
theorem dX4_savingAt_3 : decode cX4_savingAt 3 = .ok (.istore 4, 2) := by decide +kernel
theorem dX4_savingAt_5 : decode cX4_savingAt 5 = .ok (.iload 4, 2) := by decide +kernel
theorem dX4_savingAt_7 : decode cX4_savingAt 7 = .ok (.aload_n 0, 1) := by decide +kernel
theorem dX4_savingAt_8 : decode cX4_savingAt 8 = .ok (.getfield 34, 3) := by decide +kernel
theorem dX4_savingAt_11 : decode cX4_savingAt 11 = .ok (.if_icmp .ge 75, 3) := by decide +kernel
theorem dX4_savingAt_14 : decode cX4_savingAt 14 = .ok (.aload_n 2, 1) := by decide +kernel
theorem dX4_savingAt_15 : decode cX4_savingAt 15 = .ok (.aload_n 0, 1) := by decide +kernel
theorem dX4_savingAt_16 : decode cX4_savingAt 16 = .ok (.getfield 15, 3) := by decide +kernel
theorem dX4_savingAt_19 : decode cX4_savingAt 19 = .ok (.iload 4, 2) := by decide +kernel
theorem dX4_savingAt_21 : decode cX4_savingAt 21 = .ok (.iaload, 1) := by decide +kernel
theorem dX4_savingAt_22 : decode cX4_savingAt 22 = .ok (.aload_n 0, 1) := by decide +kernel
theorem dX4_savingAt_23 : decode cX4_savingAt 23 = .ok (.getfield 18, 3) := by decide +kernel
theorem dX4_savingAt_26 : decode cX4_savingAt 26 = .ok (.invokevirtual 61, 3) := by decide +kernel
theorem dX4_savingAt_29 : decode cX4_savingAt 29 = .ok (.ifCond .eq 18, 3) := by decide +kernel
theorem dX4_savingAt_32 : decode cX4_savingAt 32 = .ok (.aload_n 2, 1) := by decide +kernel
theorem dX4_savingAt_33 : decode cX4_savingAt 33 = .ok (.aload_n 0, 1) := by decide +kernel
theorem dX4_savingAt_34 : decode cX4_savingAt 34 = .ok (.getfield 15, 3) := by decide +kernel
theorem dX4_savingAt_37 : decode cX4_savingAt 37 = .ok (.iload 4, 2) := by decide +kernel
theorem dX4_savingAt_39 : decode cX4_savingAt 39 = .ok (.iaload, 1) := by decide +kernel
theorem dX4_savingAt_40 : decode cX4_savingAt 40 = .ok (.iload_n 1, 1) := by decide +kernel
theorem dX4_savingAt_41 : decode cX4_savingAt 41 = .ok (.invokevirtual 61, 3) := by decide +kernel
theorem dX4_savingAt_44 : decode cX4_savingAt 44 = .ok (.ifCond .ne 5, 3) := by decide +kernel
theorem dX4_savingAt_47 : decode cX4_savingAt 47 = .ok (.iconst 0, 1) := by decide +kernel
theorem dX4_savingAt_48 : decode cX4_savingAt 48 = .ok (.ireturn, 1) := by decide +kernel
theorem dX4_savingAt_49 : decode cX4_savingAt 49 = .ok (.iload_n 3, 1) := by decide +kernel
theorem dX4_savingAt_50 : decode cX4_savingAt 50 = .ok (.aload_n 2, 1) := by decide +kernel
theorem dX4_savingAt_51 : decode cX4_savingAt 51 = .ok (.aload_n 0, 1) := by decide +kernel
theorem dX4_savingAt_52 : decode cX4_savingAt 52 = .ok (.getfield 15, 3) := by decide +kernel
theorem dX4_savingAt_55 : decode cX4_savingAt 55 = .ok (.iload 4, 2) := by decide +kernel
theorem dX4_savingAt_57 : decode cX4_savingAt 57 = .ok (.iaload, 1) := by decide +kernel
theorem dX4_savingAt_58 : decode cX4_savingAt 58 = .ok (.aload_n 0, 1) := by decide +kernel
theorem dX4_savingAt_59 : decode cX4_savingAt 59 = .ok (.getfield 18, 3) := by decide +kernel
theorem dX4_savingAt_62 : decode cX4_savingAt 62 = .ok (.invokevirtual 67, 3) := by decide +kernel
theorem dX4_savingAt_65 : decode cX4_savingAt 65 = .ok (.aload_n 2, 1) := by decide +kernel
theorem dX4_savingAt_66 : decode cX4_savingAt 66 = .ok (.aload_n 0, 1) := by decide +kernel
theorem dX4_savingAt_67 : decode cX4_savingAt 67 = .ok (.getfield 15, 3) := by decide +kernel
theorem dX4_savingAt_70 : decode cX4_savingAt 70 = .ok (.iload 4, 2) := by decide +kernel
theorem dX4_savingAt_72 : decode cX4_savingAt 72 = .ok (.iaload, 1) := by decide +kernel
theorem dX4_savingAt_73 : decode cX4_savingAt 73 = .ok (.iload_n 1, 1) := by decide +kernel
theorem dX4_savingAt_74 : decode cX4_savingAt 74 = .ok (.invokevirtual 67, 3) := by decide +kernel
theorem dX4_savingAt_77 : decode cX4_savingAt 77 = .ok (.isub, 1) := by decide +kernel
theorem dX4_savingAt_78 : decode cX4_savingAt 78 = .ok (.iadd, 1) := by decide +kernel
theorem dX4_savingAt_79 : decode cX4_savingAt 79 = .ok (.istore_n 3, 1) := by decide +kernel
theorem dX4_savingAt_80 : decode cX4_savingAt 80 = .ok (.iinc 4 1, 3) := by decide +kernel
theorem dX4_savingAt_83 : decode cX4_savingAt 83 = .ok (.goto (-78), 3) := by decide +kernel
theorem dX4_savingAt_86 : decode cX4_savingAt 86 = .ok (.iload_n 3, 1) := by decide +kernel
theorem dX4_savingAt_87 : decode cX4_savingAt 87 = .ok (.ireturn, 1) := by decide +kernel
theorem dX5_init_0 : decode cX5_init 0 = .ok (.aload_n 0, 1) := by decide +kernel
theorem dX5_init_1 : decode cX5_init 1 = .ok (.invokespecial 3, 3) := by decide +kernel
theorem dX5_init_4 : decode cX5_init 4 = .ok (.aload_n 0, 1) := by decide +kernel
theorem dX5_init_5 : decode cX5_init 5 = .ok (.bipush 40, 2) := by decide +kernel
theorem dX5_init_7 : decode cX5_init 7 = .ok (.newarray .int, 2) := by decide +kernel
theorem dX5_init_9 : decode cX5_init 9 = .ok (.putfield 9, 3) := by decide +kernel
theorem dX5_init_12 : decode cX5_init 12 = .ok (.aload_n 0, 1) := by decide +kernel
theorem dX5_init_13 : decode cX5_init 13 = .ok (.iconst 4, 1) := by decide +kernel
theorem dX5_init_14 : decode cX5_init 14 = .ok (.newarray .int, 2) := by decide +kernel
theorem dX5_init_16 : decode cX5_init 16 = .ok (.putfield 15, 3) := by decide +kernel
theorem dX5_init_19 : decode cX5_init 19 = .ok (.return_, 1) := by decide +kernel
theorem dX5_begin_0 : decode cX5_begin 0 = .ok (.aload_n 0, 1) := by decide +kernel
theorem dX5_begin_1 : decode cX5_begin 1 = .ok (.getfield 15, 3) := by decide +kernel
theorem dX5_begin_4 : decode cX5_begin 4 = .ok (.iconst 0, 1) := by decide +kernel
theorem dX5_begin_5 : decode cX5_begin 5 = .ok (.invokestatic 18, 3) := by decide +kernel
theorem dX5_begin_8 : decode cX5_begin 8 = .ok (.return_, 1) := by decide +kernel
theorem dX5_at_0 : decode cX5_at 0 = .ok (.aload_n 0, 1) := by decide +kernel
theorem dX5_at_1 : decode cX5_at 1 = .ok (.getfield 9, 3) := by decide +kernel
theorem dX5_at_4 : decode cX5_at 4 = .ok (.iload_n 1, 1) := by decide +kernel
theorem dX5_at_5 : decode cX5_at 5 = .ok (.bipush 10, 2) := by decide +kernel
theorem dX5_at_7 : decode cX5_at 7 = .ok (.imul, 1) := by decide +kernel
theorem dX5_at_8 : decode cX5_at 8 = .ok (.iload_n 2, 1) := by decide +kernel
theorem dX5_at_9 : decode cX5_at 9 = .ok (.iadd, 1) := by decide +kernel
theorem dX5_at_10 : decode cX5_at 10 = .ok (.iaload, 1) := by decide +kernel
theorem dX5_at_11 : decode cX5_at 11 = .ok (.ireturn, 1) := by decide +kernel
theorem dX5_append_0 : decode cX5_append 0 = .ok (.aload_n 0, 1) := by decide +kernel
theorem dX5_append_1 : decode cX5_append 1 = .ok (.getfield 9, 3) := by decide +kernel
theorem dX5_append_4 : decode cX5_append 4 = .ok (.iload_n 1, 1) := by decide +kernel
theorem dX5_append_5 : decode cX5_append 5 = .ok (.bipush 10, 2) := by decide +kernel
theorem dX5_append_7 : decode cX5_append 7 = .ok (.imul, 1) := by decide +kernel
theorem dX5_append_8 : decode cX5_append 8 = .ok (.aload_n 0, 1) := by decide +kernel
theorem dX5_append_9 : decode cX5_append 9 = .ok (.getfield 15, 3) := by decide +kernel
theorem dX5_append_12 : decode cX5_append 12 = .ok (.iload_n 1, 1) := by decide +kernel
theorem dX5_append_13 : decode cX5_append 13 = .ok (.iaload, 1) := by decide +kernel
theorem dX5_append_14 : decode cX5_append 14 = .ok (.iadd, 1) := by decide +kernel
theorem dX5_append_15 : decode cX5_append 15 = .ok (.iload_n 2, 1) := by decide +kernel
theorem dX5_append_16 : decode cX5_append 16 = .ok (.iastore, 1) := by decide +kernel
theorem dX5_append_17 : decode cX5_append 17 = .ok (.aload_n 0, 1) := by decide +kernel
theorem dX5_append_18 : decode cX5_append 18 = .ok (.getfield 15, 3) := by decide +kernel
theorem dX5_append_21 : decode cX5_append 21 = .ok (.iload_n 1, 1) := by decide +kernel
theorem dX5_append_22 : decode cX5_append 22 = .ok (.dup2, 1) := by decide +kernel
theorem dX5_append_23 : decode cX5_append 23 = .ok (.iaload, 1) := by decide +kernel
theorem dX5_append_24 : decode cX5_append 24 = .ok (.iconst 1, 1) := by decide +kernel
theorem dX5_append_25 : decode cX5_append 25 = .ok (.iadd, 1) := by decide +kernel
theorem dX5_append_26 : decode cX5_append 26 = .ok (.iastore, 1) := by decide +kernel
theorem dX5_append_27 : decode cX5_append 27 = .ok (.return_, 1) := by decide +kernel
theorem dX5_placeOf_0 : decode cX5_placeOf 0 = .ok (.iconst 0, 1) := by decide +kernel
theorem dX5_placeOf_1 : decode cX5_placeOf 1 = .ok (.istore_n 3, 1) := by decide +kernel
theorem dX5_placeOf_2 : decode cX5_placeOf 2 = .ok (.iload_n 3, 1) := by decide +kernel
theorem dX5_placeOf_3 : decode cX5_placeOf 3 = .ok (.aload_n 0, 1) := by decide +kernel
theorem dX5_placeOf_4 : decode cX5_placeOf 4 = .ok (.getfield 15, 3) := by decide +kernel
theorem dX5_placeOf_7 : decode cX5_placeOf 7 = .ok (.iload_n 1, 1) := by decide +kernel
theorem dX5_placeOf_8 : decode cX5_placeOf 8 = .ok (.iaload, 1) := by decide +kernel
theorem dX5_placeOf_9 : decode cX5_placeOf 9 = .ok (.if_icmp .ge 21, 3) := by decide +kernel
theorem dX5_placeOf_12 : decode cX5_placeOf 12 = .ok (.aload_n 0, 1) := by decide +kernel
theorem dX5_placeOf_13 : decode cX5_placeOf 13 = .ok (.iload_n 1, 1) := by decide +kernel
theorem dX5_placeOf_14 : decode cX5_placeOf 14 = .ok (.iload_n 3, 1) := by decide +kernel
theorem dX5_placeOf_15 : decode cX5_placeOf 15 = .ok (.invokevirtual 24, 3) := by decide +kernel
theorem dX5_placeOf_18 : decode cX5_placeOf 18 = .ok (.iload_n 2, 1) := by decide +kernel
theorem dX5_placeOf_19 : decode cX5_placeOf 19 = .ok (.if_icmp .ne 5, 3) := by decide +kernel
theorem dX5_placeOf_22 : decode cX5_placeOf 22 = .ok (.iload_n 3, 1) := by decide +kernel
theorem dX5_placeOf_23 : decode cX5_placeOf 23 = .ok (.ireturn, 1) := by decide +kernel
theorem dX5_placeOf_24 : decode cX5_placeOf 24 = .ok (.iinc 3 1, 3) := by decide +kernel
theorem dX5_placeOf_27 : decode cX5_placeOf 27 = .ok (.goto (-25), 3) := by decide +kernel
theorem dX5_placeOf_30 : decode cX5_placeOf 30 = .ok (.iconst (-1), 1) := by decide +kernel
theorem dX5_placeOf_31 : decode cX5_placeOf 31 = .ok (.ireturn, 1) := by decide +kernel
theorem dX5_drop_0 : decode cX5_drop 0 = .ok (.aload_n 0, 1) := by decide +kernel
theorem dX5_drop_1 : decode cX5_drop 1 = .ok (.iload_n 1, 1) := by decide +kernel
theorem dX5_drop_2 : decode cX5_drop 2 = .ok (.iload_n 2, 1) := by decide +kernel
theorem dX5_drop_3 : decode cX5_drop 3 = .ok (.invokevirtual 28, 3) := by decide +kernel
theorem dX5_drop_6 : decode cX5_drop 6 = .ok (.istore_n 3, 1) := by decide +kernel
theorem dX5_drop_7 : decode cX5_drop 7 = .ok (.iload_n 3, 1) := by decide +kernel
theorem dX5_drop_8 : decode cX5_drop 8 = .ok (.iconst (-1), 1) := by decide +kernel
theorem dX5_drop_9 : decode cX5_drop 9 = .ok (.if_icmp .ne 4, 3) := by decide +kernel
theorem dX5_drop_12 : decode cX5_drop 12 = .ok (.return_, 1) := by decide +kernel
theorem dX5_drop_13 : decode cX5_drop 13 = .ok (.aload_n 0, 1) := by decide +kernel
theorem dX5_drop_14 : decode cX5_drop 14 = .ok (.getfield 15, 3) := by decide +kernel
theorem dX5_drop_17 : decode cX5_drop 17 = .ok (.iload_n 1, 1) := by decide +kernel
theorem dX5_drop_18 : decode cX5_drop 18 = .ok (.dup2, 1) := by decide +kernel
theorem dX5_drop_19 : decode cX5_drop 19 = .ok (.iaload, 1) := by decide +kernel
theorem dX5_drop_20 : decode cX5_drop 20 = .ok (.iconst 1, 1) := by decide +kernel
theorem dX5_drop_21 : decode cX5_drop 21 = .ok (.isub, 1) := by decide +kernel
theorem dX5_drop_22 : decode cX5_drop 22 = .ok (.iastore, 1) := by decide +kernel
theorem dX5_drop_23 : decode cX5_drop 23 = .ok (.iload_n 3, 1) := by decide +kernel
theorem dX5_drop_24 : decode cX5_drop 24 = .ok (.istore 4, 2) := by decide +kernel
theorem dX5_drop_26 : decode cX5_drop 26 = .ok (.iload 4, 2) := by decide +kernel
theorem dX5_drop_28 : decode cX5_drop 28 = .ok (.aload_n 0, 1) := by decide +kernel
theorem dX5_drop_29 : decode cX5_drop 29 = .ok (.getfield 15, 3) := by decide +kernel
theorem dX5_drop_32 : decode cX5_drop 32 = .ok (.iload_n 1, 1) := by decide +kernel
theorem dX5_drop_33 : decode cX5_drop 33 = .ok (.iaload, 1) := by decide +kernel
theorem dX5_drop_34 : decode cX5_drop 34 = .ok (.if_icmp .ge 30, 3) := by decide +kernel
theorem dX5_drop_37 : decode cX5_drop 37 = .ok (.aload_n 0, 1) := by decide +kernel
theorem dX5_drop_38 : decode cX5_drop 38 = .ok (.getfield 9, 3) := by decide +kernel
theorem dX5_drop_41 : decode cX5_drop 41 = .ok (.iload_n 1, 1) := by decide +kernel
theorem dX5_drop_42 : decode cX5_drop 42 = .ok (.bipush 10, 2) := by decide +kernel
theorem dX5_drop_44 : decode cX5_drop 44 = .ok (.imul, 1) := by decide +kernel
theorem dX5_drop_45 : decode cX5_drop 45 = .ok (.iload 4, 2) := by decide +kernel
theorem dX5_drop_47 : decode cX5_drop 47 = .ok (.iadd, 1) := by decide +kernel
theorem dX5_drop_48 : decode cX5_drop 48 = .ok (.aload_n 0, 1) := by decide +kernel
theorem dX5_drop_49 : decode cX5_drop 49 = .ok (.iload_n 1, 1) := by decide +kernel
theorem dX5_drop_50 : decode cX5_drop 50 = .ok (.iload 4, 2) := by decide +kernel
theorem dX5_drop_52 : decode cX5_drop 52 = .ok (.iconst 1, 1) := by decide +kernel
theorem dX5_drop_53 : decode cX5_drop 53 = .ok (.iadd, 1) := by decide +kernel
theorem dX5_drop_54 : decode cX5_drop 54 = .ok (.invokevirtual 24, 3) := by decide +kernel
theorem dX5_drop_57 : decode cX5_drop 57 = .ok (.iastore, 1) := by decide +kernel
theorem dX5_drop_58 : decode cX5_drop 58 = .ok (.iinc 4 1, 3) := by decide +kernel
theorem dX5_drop_61 : decode cX5_drop 61 = .ok (.goto (-35), 3) := by decide +kernel
theorem dX5_drop_64 : decode cX5_drop 64 = .ok (.return_, 1) := by decide +kernel
theorem dX5_exchange_0 : decode cX5_exchange 0 = .ok (.aload_n 0, 1) := by decide +kernel
theorem dX5_exchange_1 : decode cX5_exchange 1 = .ok (.iload_n 1, 1) := by decide +kernel
theorem dX5_exchange_2 : decode cX5_exchange 2 = .ok (.iload_n 2, 1) := by decide +kernel
theorem dX5_exchange_3 : decode cX5_exchange 3 = .ok (.invokevirtual 28, 3) := by decide +kernel
theorem dX5_exchange_6 : decode cX5_exchange 6 = .ok (.istore 5, 2) := by decide +kernel
theorem dX5_exchange_8 : decode cX5_exchange 8 = .ok (.aload_n 0, 1) := by decide +kernel
theorem dX5_exchange_9 : decode cX5_exchange 9 = .ok (.iload_n 3, 1) := by decide +kernel
theorem dX5_exchange_10 : decode cX5_exchange 10 = .ok (.iload 4, 2) := by decide +kernel
theorem dX5_exchange_12 : decode cX5_exchange 12 = .ok (.invokevirtual 28, 3) := by decide +kernel
theorem dX5_exchange_15 : decode cX5_exchange 15 = .ok (.istore 6, 2) := by decide +kernel
theorem dX5_exchange_17 : decode cX5_exchange 17 = .ok (.iload 5, 2) := by decide +kernel
theorem dX5_exchange_19 : decode cX5_exchange 19 = .ok (.iconst (-1), 1) := by decide +kernel
theorem dX5_exchange_20 : decode cX5_exchange 20 = .ok (.if_icmp .eq 9, 3) := by decide +kernel
theorem dX5_exchange_23 : decode cX5_exchange 23 = .ok (.iload 6, 2) := by decide +kernel
theorem dX5_exchange_25 : decode cX5_exchange 25 = .ok (.iconst (-1), 1) := by decide +kernel
theorem dX5_exchange_26 : decode cX5_exchange 26 = .ok (.if_icmp .ne 4, 3) := by decide +kernel
theorem dX5_exchange_29 : decode cX5_exchange 29 = .ok (.return_, 1) := by decide +kernel
theorem dX5_exchange_30 : decode cX5_exchange 30 = .ok (.aload_n 0, 1) := by decide +kernel
theorem dX5_exchange_31 : decode cX5_exchange 31 = .ok (.getfield 9, 3) := by decide +kernel
theorem dX5_exchange_34 : decode cX5_exchange 34 = .ok (.iload_n 1, 1) := by decide +kernel
theorem dX5_exchange_35 : decode cX5_exchange 35 = .ok (.bipush 10, 2) := by decide +kernel
theorem dX5_exchange_37 : decode cX5_exchange 37 = .ok (.imul, 1) := by decide +kernel
theorem dX5_exchange_38 : decode cX5_exchange 38 = .ok (.iload 5, 2) := by decide +kernel
theorem dX5_exchange_40 : decode cX5_exchange 40 = .ok (.iadd, 1) := by decide +kernel
theorem dX5_exchange_41 : decode cX5_exchange 41 = .ok (.iload 4, 2) := by decide +kernel
theorem dX5_exchange_43 : decode cX5_exchange 43 = .ok (.iastore, 1) := by decide +kernel
theorem dX5_exchange_44 : decode cX5_exchange 44 = .ok (.aload_n 0, 1) := by decide +kernel
theorem dX5_exchange_45 : decode cX5_exchange 45 = .ok (.getfield 9, 3) := by decide +kernel
theorem dX5_exchange_48 : decode cX5_exchange 48 = .ok (.iload_n 3, 1) := by decide +kernel
theorem dX5_exchange_49 : decode cX5_exchange 49 = .ok (.bipush 10, 2) := by decide +kernel
theorem dX5_exchange_51 : decode cX5_exchange 51 = .ok (.imul, 1) := by decide +kernel
theorem dX5_exchange_52 : decode cX5_exchange 52 = .ok (.iload 6, 2) := by decide +kernel
theorem dX5_exchange_54 : decode cX5_exchange 54 = .ok (.iadd, 1) := by decide +kernel
theorem dX5_exchange_55 : decode cX5_exchange 55 = .ok (.iload_n 2, 1) := by decide +kernel
theorem dX5_exchange_56 : decode cX5_exchange 56 = .ok (.iastore, 1) := by decide +kernel
theorem dX5_exchange_57 : decode cX5_exchange 57 = .ok (.return_, 1) := by decide +kernel
theorem dX6_init_0 : decode cX6_init 0 = .ok (.aload_n 0, 1) := by decide +kernel
theorem dX6_init_1 : decode cX6_init 1 = .ok (.invokespecial 3, 3) := by decide +kernel
theorem dX6_init_4 : decode cX6_init 4 = .ok (.aload_n 0, 1) := by decide +kernel
theorem dX6_init_5 : decode cX6_init 5 = .ok (.iconst 0, 1) := by decide +kernel
theorem dX6_init_6 : decode cX6_init 6 = .ok (.putfield 9, 3) := by decide +kernel
theorem dX6_init_9 : decode cX6_init 9 = .ok (.aload_n 0, 1) := by decide +kernel
theorem dX6_init_10 : decode cX6_init 10 = .ok (.iconst 0, 1) := by decide +kernel
theorem dX6_init_11 : decode cX6_init 11 = .ok (.putfield 15, 3) := by decide +kernel
theorem dX6_init_14 : decode cX6_init 14 = .ok (.aload_n 0, 1) := by decide +kernel
theorem dX6_init_15 : decode cX6_init 15 = .ok (.iconst 1, 1) := by decide +kernel
theorem dX6_init_16 : decode cX6_init 16 = .ok (.putfield 18, 3) := by decide +kernel
theorem dX6_init_19 : decode cX6_init 19 = .ok (.aload_n 0, 1) := by decide +kernel
theorem dX6_init_20 : decode cX6_init 20 = .ok (.iconst 2, 1) := by decide +kernel
theorem dX6_init_21 : decode cX6_init 21 = .ok (.putfield 21, 3) := by decide +kernel
theorem dX6_init_24 : decode cX6_init 24 = .ok (.aload_n 0, 1) := by decide +kernel
theorem dX6_init_25 : decode cX6_init 25 = .ok (.bipush 6, 2) := by decide +kernel
theorem dX6_init_27 : decode cX6_init 27 = .ok (.putfield 24, 3) := by decide +kernel
theorem dX6_init_30 : decode cX6_init 30 = .ok (.return_, 1) := by decide +kernel
theorem dX6_choose_0 : decode cX6_choose 0 = .ok (.aload_n 0, 1) := by decide +kernel
theorem dX6_choose_1 : decode cX6_choose 1 = .ok (.iload_n 1, 1) := by decide +kernel
theorem dX6_choose_2 : decode cX6_choose 2 = .ok (.putfield 9, 3) := by decide +kernel
theorem dX6_choose_5 : decode cX6_choose 5 = .ok (.aload_n 0, 1) := by decide +kernel
theorem dX6_choose_6 : decode cX6_choose 6 = .ok (.iload_n 2, 1) := by decide +kernel
theorem dX6_choose_7 : decode cX6_choose 7 = .ok (.putfield 15, 3) := by decide +kernel
theorem dX6_choose_10 : decode cX6_choose 10 = .ok (.aload_n 0, 1) := by decide +kernel
theorem dX6_choose_11 : decode cX6_choose 11 = .ok (.iload_n 3, 1) := by decide +kernel
theorem dX6_choose_12 : decode cX6_choose 12 = .ok (.putfield 18, 3) := by decide +kernel
theorem dX6_choose_15 : decode cX6_choose 15 = .ok (.return_, 1) := by decide +kernel
theorem dX6_setPrices_0 : decode cX6_setPrices 0 = .ok (.aload_n 0, 1) := by decide +kernel
theorem dX6_setPrices_1 : decode cX6_setPrices 1 = .ok (.iload_n 1, 1) := by decide +kernel
theorem dX6_setPrices_2 : decode cX6_setPrices 2 = .ok (.putfield 21, 3) := by decide +kernel
theorem dX6_setPrices_5 : decode cX6_setPrices 5 = .ok (.aload_n 0, 1) := by decide +kernel
theorem dX6_setPrices_6 : decode cX6_setPrices 6 = .ok (.iload_n 2, 1) := by decide +kernel
theorem dX6_setPrices_7 : decode cX6_setPrices 7 = .ok (.putfield 24, 3) := by decide +kernel
theorem dX6_setPrices_10 : decode cX6_setPrices 10 = .ok (.return_, 1) := by decide +kernel
theorem dX7_init_0 : decode cX7_init 0 = .ok (.aload_n 0, 1) := by decide +kernel
theorem dX7_init_1 : decode cX7_init 1 = .ok (.invokespecial 3, 3) := by decide +kernel
theorem dX7_init_4 : decode cX7_init 4 = .ok (.aload_n 0, 1) := by decide +kernel
theorem dX7_init_5 : decode cX7_init 5 = .ok (.bipush 60, 2) := by decide +kernel
theorem dX7_init_7 : decode cX7_init 7 = .ok (.newarray .int, 2) := by decide +kernel
theorem dX7_init_9 : decode cX7_init 9 = .ok (.putfield 9, 3) := by decide +kernel
theorem dX7_init_12 : decode cX7_init 12 = .ok (.aload_n 0, 1) := by decide +kernel
theorem dX7_init_13 : decode cX7_init 13 = .ok (.bipush 60, 2) := by decide +kernel
theorem dX7_init_15 : decode cX7_init 15 = .ok (.newarray .int, 2) := by decide +kernel
theorem dX7_init_17 : decode cX7_init 17 = .ok (.putfield 15, 3) := by decide +kernel
theorem dX7_init_20 : decode cX7_init 20 = .ok (.aload_n 0, 1) := by decide +kernel
theorem dX7_init_21 : decode cX7_init 21 = .ok (.bipush 60, 2) := by decide +kernel
theorem dX7_init_23 : decode cX7_init 23 = .ok (.newarray .boolean, 2) := by decide +kernel
theorem dX7_init_25 : decode cX7_init 25 = .ok (.putfield 18, 3) := by decide +kernel
theorem dX7_init_28 : decode cX7_init 28 = .ok (.aload_n 0, 1) := by decide +kernel
theorem dX7_init_29 : decode cX7_init 29 = .ok (.bipush 60, 2) := by decide +kernel
theorem dX7_init_31 : decode cX7_init 31 = .ok (.newarray .int, 2) := by decide +kernel
theorem dX7_init_33 : decode cX7_init 33 = .ok (.putfield 22, 3) := by decide +kernel
theorem dX7_init_36 : decode cX7_init 36 = .ok (.return_, 1) := by decide +kernel
theorem dX7_tell_0 : decode cX7_tell 0 = .ok (.aload_n 0, 1) := by decide +kernel
theorem dX7_tell_1 : decode cX7_tell 1 = .ok (.getfield 9, 3) := by decide +kernel
theorem dX7_tell_4 : decode cX7_tell 4 = .ok (.aload_n 0, 1) := by decide +kernel
theorem dX7_tell_5 : decode cX7_tell 5 = .ok (.getfield 25, 3) := by decide +kernel
theorem dX7_tell_8 : decode cX7_tell 8 = .ok (.iload_n 1, 1) := by decide +kernel
theorem dX7_tell_9 : decode cX7_tell 9 = .ok (.iastore, 1) := by decide +kernel
theorem dX7_tell_10 : decode cX7_tell 10 = .ok (.aload_n 0, 1) := by decide +kernel
theorem dX7_tell_11 : decode cX7_tell 11 = .ok (.getfield 15, 3) := by decide +kernel
theorem dX7_tell_14 : decode cX7_tell 14 = .ok (.aload_n 0, 1) := by decide +kernel
theorem dX7_tell_15 : decode cX7_tell 15 = .ok (.getfield 25, 3) := by decide +kernel
theorem dX7_tell_18 : decode cX7_tell 18 = .ok (.iload_n 2, 1) := by decide +kernel
theorem dX7_tell_19 : decode cX7_tell 19 = .ok (.iastore, 1) := by decide +kernel
theorem dX7_tell_20 : decode cX7_tell 20 = .ok (.aload_n 0, 1) := by decide +kernel
theorem dX7_tell_21 : decode cX7_tell 21 = .ok (.getfield 18, 3) := by decide +kernel
theorem dX7_tell_24 : decode cX7_tell 24 = .ok (.aload_n 0, 1) := by decide +kernel
theorem dX7_tell_25 : decode cX7_tell 25 = .ok (.getfield 25, 3) := by decide +kernel
theorem dX7_tell_28 : decode cX7_tell 28 = .ok (.iload_n 3, 1) := by decide +kernel
theorem dX7_tell_29 : decode cX7_tell 29 = .ok (.bastore, 1) := by decide +kernel
theorem dX7_tell_30 : decode cX7_tell 30 = .ok (.aload_n 0, 1) := by decide +kernel
theorem dX7_tell_31 : decode cX7_tell 31 = .ok (.getfield 22, 3) := by decide +kernel
theorem dX7_tell_34 : decode cX7_tell 34 = .ok (.aload_n 0, 1) := by decide +kernel
theorem dX7_tell_35 : decode cX7_tell 35 = .ok (.getfield 25, 3) := by decide +kernel
theorem dX7_tell_38 : decode cX7_tell 38 = .ok (.iload 4, 2) := by decide +kernel
theorem dX7_tell_40 : decode cX7_tell 40 = .ok (.iastore, 1) := by decide +kernel
theorem dX7_tell_41 : decode cX7_tell 41 = .ok (.aload_n 0, 1) := by decide +kernel
theorem dX7_tell_42 : decode cX7_tell 42 = .ok (.dup, 1) := by decide +kernel
theorem dX7_tell_43 : decode cX7_tell 43 = .ok (.getfield 25, 3) := by decide +kernel
theorem dX7_tell_46 : decode cX7_tell 46 = .ok (.iconst 1, 1) := by decide +kernel
theorem dX7_tell_47 : decode cX7_tell 47 = .ok (.iadd, 1) := by decide +kernel
theorem dX7_tell_48 : decode cX7_tell 48 = .ok (.putfield 25, 3) := by decide +kernel
theorem dX7_tell_51 : decode cX7_tell 51 = .ok (.aload_n 0, 1) := by decide +kernel
theorem dX7_tell_52 : decode cX7_tell 52 = .ok (.getfield 25, 3) := by decide +kernel
theorem dX7_tell_55 : decode cX7_tell 55 = .ok (.ireturn, 1) := by decide +kernel
theorem dX8_init_0 : decode cX8_init 0 = .ok (.aload_n 0, 1) := by decide +kernel
theorem dX8_init_1 : decode cX8_init 1 = .ok (.invokespecial 3, 3) := by decide +kernel
theorem dX8_init_4 : decode cX8_init 4 = .ok (.aload_n 0, 1) := by decide +kernel
theorem dX8_init_5 : decode cX8_init 5 = .ok (.bipush 60, 2) := by decide +kernel
theorem dX8_init_7 : decode cX8_init 7 = .ok (.newarray .byte, 2) := by decide +kernel
theorem dX8_init_9 : decode cX8_init 9 = .ok (.putfield 9, 3) := by decide +kernel
theorem dX8_init_12 : decode cX8_init 12 = .ok (.aload_n 0, 1) := by decide +kernel
theorem dX8_init_13 : decode cX8_init 13 = .ok (.bipush 60, 2) := by decide +kernel
theorem dX8_init_15 : decode cX8_init 15 = .ok (.newarray .int, 2) := by decide +kernel
theorem dX8_init_17 : decode cX8_init 17 = .ok (.putfield 15, 3) := by decide +kernel
theorem dX8_init_20 : decode cX8_init 20 = .ok (.aload_n 0, 1) := by decide +kernel
theorem dX8_init_21 : decode cX8_init 21 = .ok (.iconst 0, 1) := by decide +kernel
theorem dX8_init_22 : decode cX8_init 22 = .ok (.putfield 19, 3) := by decide +kernel
theorem dX8_init_25 : decode cX8_init 25 = .ok (.return_, 1) := by decide +kernel
theorem dX8_holdPage_0 : decode cX8_holdPage 0 = .ok (.aload_n 0, 1) := by decide +kernel
theorem dX8_holdPage_1 : decode cX8_holdPage 1 = .ok (.iconst 1, 1) := by decide +kernel
theorem dX8_holdPage_2 : decode cX8_holdPage 2 = .ok (.putfield 19, 3) := by decide +kernel
theorem dX8_holdPage_5 : decode cX8_holdPage 5 = .ok (.aload_n 0, 1) := by decide +kernel
theorem dX8_holdPage_6 : decode cX8_holdPage 6 = .ok (.iload_n 1, 1) := by decide +kernel
theorem dX8_holdPage_7 : decode cX8_holdPage 7 = .ok (.putfield 23, 3) := by decide +kernel
theorem dX8_holdPage_10 : decode cX8_holdPage 10 = .ok (.aload_n 0, 1) := by decide +kernel
theorem dX8_holdPage_11 : decode cX8_holdPage 11 = .ok (.aload_n 2, 1) := by decide +kernel
theorem dX8_holdPage_12 : decode cX8_holdPage 12 = .ok (.getfield 26, 3) := by decide +kernel
theorem dX8_holdPage_15 : decode cX8_holdPage 15 = .ok (.putfield 31, 3) := by decide +kernel
theorem dX8_holdPage_18 : decode cX8_holdPage 18 = .ok (.aload_n 0, 1) := by decide +kernel
theorem dX8_holdPage_19 : decode cX8_holdPage 19 = .ok (.aload_n 2, 1) := by decide +kernel
theorem dX8_holdPage_20 : decode cX8_holdPage 20 = .ok (.getfield 32, 3) := by decide +kernel
theorem dX8_holdPage_23 : decode cX8_holdPage 23 = .ok (.invokestatic 35, 3) := by decide +kernel
theorem dX8_holdPage_26 : decode cX8_holdPage 26 = .ok (.putfield 41, 3) := by decide +kernel
theorem dX8_holdPage_29 : decode cX8_holdPage 29 = .ok (.aload_n 0, 1) := by decide +kernel
theorem dX8_holdPage_30 : decode cX8_holdPage 30 = .ok (.aload_n 2, 1) := by decide +kernel
theorem dX8_holdPage_31 : decode cX8_holdPage 31 = .ok (.getfield 42, 3) := by decide +kernel
theorem dX8_holdPage_34 : decode cX8_holdPage 34 = .ok (.putfield 45, 3) := by decide +kernel
theorem dX8_holdPage_37 : decode cX8_holdPage 37 = .ok (.return_, 1) := by decide +kernel
theorem dX8_holdNodes_0 : decode cX8_holdNodes 0 = .ok (.aload_n 0, 1) := by decide +kernel
theorem dX8_holdNodes_1 : decode cX8_holdNodes 1 = .ok (.iconst 3, 1) := by decide +kernel
theorem dX8_holdNodes_2 : decode cX8_holdNodes 2 = .ok (.putfield 19, 3) := by decide +kernel
theorem dX8_holdNodes_5 : decode cX8_holdNodes 5 = .ok (.aload_n 0, 1) := by decide +kernel
theorem dX8_holdNodes_6 : decode cX8_holdNodes 6 = .ok (.iload_n 2, 1) := by decide +kernel
theorem dX8_holdNodes_7 : decode cX8_holdNodes 7 = .ok (.putfield 46, 3) := by decide +kernel
theorem dX8_holdNodes_10 : decode cX8_holdNodes 10 = .ok (.iconst 0, 1) := by decide +kernel
theorem dX8_holdNodes_11 : decode cX8_holdNodes 11 = .ok (.istore_n 3, 1) := by decide +kernel
theorem dX8_holdNodes_12 : decode cX8_holdNodes 12 = .ok (.iload_n 3, 1) := by decide +kernel
theorem dX8_holdNodes_13 : decode cX8_holdNodes 13 = .ok (.iload_n 2, 1) := by decide +kernel
theorem dX8_holdNodes_14 : decode cX8_holdNodes 14 = .ok (.if_icmp .ge 22, 3) := by decide +kernel
theorem dX8_holdNodes_17 : decode cX8_holdNodes 17 = .ok (.aload_n 0, 1) := by decide +kernel
theorem dX8_holdNodes_18 : decode cX8_holdNodes 18 = .ok (.getfield 9, 3) := by decide +kernel
theorem dX8_holdNodes_21 : decode cX8_holdNodes 21 = .ok (.iload_n 3, 1) := by decide +kernel
theorem dX8_holdNodes_22 : decode cX8_holdNodes 22 = .ok (.aload_n 1, 1) := by decide +kernel
theorem dX8_holdNodes_23 : decode cX8_holdNodes 23 = .ok (.iload_n 3, 1) := by decide +kernel
theorem dX8_holdNodes_24 : decode cX8_holdNodes 24 = .ok (.aaload, 1) := by decide +kernel
theorem dX8_holdNodes_25 : decode cX8_holdNodes 25 = .ok (.getfield 49, 3) := by decide +kernel
theorem dX8_holdNodes_28 : decode cX8_holdNodes 28 = .ok (.i2b, 1) := by decide +kernel
theorem dX8_holdNodes_29 : decode cX8_holdNodes 29 = .ok (.bastore, 1) := by decide +kernel
theorem dX8_holdNodes_30 : decode cX8_holdNodes 30 = .ok (.iinc 3 1, 3) := by decide +kernel
theorem dX8_holdNodes_33 : decode cX8_holdNodes 33 = .ok (.goto (-21), 3) := by decide +kernel
theorem dX8_holdNodes_36 : decode cX8_holdNodes 36 = .ok (.return_, 1) := by decide +kernel
theorem dX8_holdCells_0 : decode cX8_holdCells 0 = .ok (.aload_n 0, 1) := by decide +kernel
theorem dX8_holdCells_1 : decode cX8_holdCells 1 = .ok (.iconst 4, 1) := by decide +kernel
theorem dX8_holdCells_2 : decode cX8_holdCells 2 = .ok (.putfield 19, 3) := by decide +kernel
theorem dX8_holdCells_5 : decode cX8_holdCells 5 = .ok (.aload_n 0, 1) := by decide +kernel
theorem dX8_holdCells_6 : decode cX8_holdCells 6 = .ok (.iconst 4, 1) := by decide +kernel
theorem dX8_holdCells_7 : decode cX8_holdCells 7 = .ok (.putfield 46, 3) := by decide +kernel
theorem dX8_holdCells_10 : decode cX8_holdCells 10 = .ok (.aload_n 1, 1) := by decide +kernel
theorem dX8_holdCells_11 : decode cX8_holdCells 11 = .ok (.getfield 54, 3) := by decide +kernel
theorem dX8_holdCells_14 : decode cX8_holdCells 14 = .ok (.iconst 0, 1) := by decide +kernel
theorem dX8_holdCells_15 : decode cX8_holdCells 15 = .ok (.aload_n 0, 1) := by decide +kernel
theorem dX8_holdCells_16 : decode cX8_holdCells 16 = .ok (.getfield 15, 3) := by decide +kernel
theorem dX8_holdCells_19 : decode cX8_holdCells 19 = .ok (.iconst 0, 1) := by decide +kernel
theorem dX8_holdCells_20 : decode cX8_holdCells 20 = .ok (.iconst 4, 1) := by decide +kernel
theorem dX8_holdCells_21 : decode cX8_holdCells 21 = .ok (.invokestatic 57, 3) := by decide +kernel
theorem dX8_holdCells_24 : decode cX8_holdCells 24 = .ok (.return_, 1) := by decide +kernel
theorem dX8_holdZeros_0 : decode cX8_holdZeros 0 = .ok (.aload_n 0, 1) := by decide +kernel
theorem dX8_holdZeros_1 : decode cX8_holdZeros 1 = .ok (.iload_n 1, 1) := by decide +kernel
theorem dX8_holdZeros_2 : decode cX8_holdZeros 2 = .ok (.putfield 19, 3) := by decide +kernel
theorem dX8_holdZeros_5 : decode cX8_holdZeros 5 = .ok (.aload_n 0, 1) := by decide +kernel
theorem dX8_holdZeros_6 : decode cX8_holdZeros 6 = .ok (.iload_n 2, 1) := by decide +kernel
theorem dX8_holdZeros_7 : decode cX8_holdZeros 7 = .ok (.putfield 46, 3) := by decide +kernel
theorem dX8_holdZeros_10 : decode cX8_holdZeros 10 = .ok (.aload_n 0, 1) := by decide +kernel
theorem dX8_holdZeros_11 : decode cX8_holdZeros 11 = .ok (.getfield 9, 3) := by decide +kernel
theorem dX8_holdZeros_14 : decode cX8_holdZeros 14 = .ok (.iconst 0, 1) := by decide +kernel
theorem dX8_holdZeros_15 : decode cX8_holdZeros 15 = .ok (.invokestatic 63, 3) := by decide +kernel
theorem dX8_holdZeros_18 : decode cX8_holdZeros 18 = .ok (.aload_n 0, 1) := by decide +kernel
theorem dX8_holdZeros_19 : decode cX8_holdZeros 19 = .ok (.getfield 15, 3) := by decide +kernel
theorem dX8_holdZeros_22 : decode cX8_holdZeros 22 = .ok (.iconst 0, 1) := by decide +kernel
theorem dX8_holdZeros_23 : decode cX8_holdZeros 23 = .ok (.invokestatic 69, 3) := by decide +kernel
theorem dX8_holdZeros_26 : decode cX8_holdZeros 26 = .ok (.return_, 1) := by decide +kernel
theorem dX8_isRow_0 : decode cX8_isRow 0 = .ok (.aload_n 0, 1) := by decide +kernel
theorem dX8_isRow_1 : decode cX8_isRow 1 = .ok (.getfield 19, 3) := by decide +kernel
theorem dX8_isRow_4 : decode cX8_isRow 4 = .ok (.iconst 3, 1) := by decide +kernel
theorem dX8_isRow_5 : decode cX8_isRow 5 = .ok (.if_icmp .eq 11, 3) := by decide +kernel
theorem dX8_isRow_8 : decode cX8_isRow 8 = .ok (.aload_n 0, 1) := by decide +kernel
theorem dX8_isRow_9 : decode cX8_isRow 9 = .ok (.getfield 19, 3) := by decide +kernel
theorem dX8_isRow_12 : decode cX8_isRow 12 = .ok (.iconst 4, 1) := by decide +kernel
theorem dX8_isRow_13 : decode cX8_isRow 13 = .ok (.if_icmp .ne 7, 3) := by decide +kernel
theorem dX8_isRow_16 : decode cX8_isRow 16 = .ok (.iconst 1, 1) := by decide +kernel
theorem dX8_isRow_17 : decode cX8_isRow 17 = .ok (.goto 4, 3) := by decide +kernel
theorem dX8_isRow_20 : decode cX8_isRow 20 = .ok (.iconst 0, 1) := by decide +kernel
theorem dX8_isRow_21 : decode cX8_isRow 21 = .ok (.ireturn, 1) := by decide +kernel
theorem dX8_hasStretch_0 : decode cX8_hasStretch 0 = .ok (.iload_n 1, 1) := by decide +kernel
theorem dX8_hasStretch_1 : decode cX8_hasStretch 1 = .ok (.ifCond .lt 21, 3) := by decide +kernel
theorem dX8_hasStretch_4 : decode cX8_hasStretch 4 = .ok (.iload_n 2, 1) := by decide +kernel
theorem dX8_hasStretch_5 : decode cX8_hasStretch 5 = .ok (.ifCond .lt 17, 3) := by decide +kernel
theorem dX8_hasStretch_8 : decode cX8_hasStretch 8 = .ok (.iload_n 1, 1) := by decide +kernel
theorem dX8_hasStretch_9 : decode cX8_hasStretch 9 = .ok (.aload_n 0, 1) := by decide +kernel
theorem dX8_hasStretch_10 : decode cX8_hasStretch 10 = .ok (.getfield 46, 3) := by decide +kernel
theorem dX8_hasStretch_13 : decode cX8_hasStretch 13 = .ok (.iload_n 2, 1) := by decide +kernel
theorem dX8_hasStretch_14 : decode cX8_hasStretch 14 = .ok (.isub, 1) := by decide +kernel
theorem dX8_hasStretch_15 : decode cX8_hasStretch 15 = .ok (.if_icmp .gt 7, 3) := by decide +kernel
theorem dX8_hasStretch_18 : decode cX8_hasStretch 18 = .ok (.iconst 1, 1) := by decide +kernel
theorem dX8_hasStretch_19 : decode cX8_hasStretch 19 = .ok (.goto 4, 3) := by decide +kernel
theorem dX8_hasStretch_22 : decode cX8_hasStretch 22 = .ok (.iconst 0, 1) := by decide +kernel
theorem dX8_hasStretch_23 : decode cX8_hasStretch 23 = .ok (.ireturn, 1) := by decide +kernel
theorem dX8_heaviness_0 : decode cX8_heaviness 0 = .ok (.aload_n 0, 1) := by decide +kernel
theorem dX8_heaviness_1 : decode cX8_heaviness 1 = .ok (.getfield 23, 3) := by decide +kernel
theorem dX8_heaviness_4 : decode cX8_heaviness 4 = .ok (.iconst 1, 1) := by decide +kernel
theorem dX8_heaviness_5 : decode cX8_heaviness 5 = .ok (.iadd, 1) := by decide +kernel
theorem dX8_heaviness_6 : decode cX8_heaviness 6 = .ok (.istore_n 1, 1) := by decide +kernel
theorem dX8_heaviness_7 : decode cX8_heaviness 7 = .ok (.aload_n 0, 1) := by decide +kernel
theorem dX8_heaviness_8 : decode cX8_heaviness 8 = .ok (.getfield 31, 3) := by decide +kernel
theorem dX8_heaviness_11 : decode cX8_heaviness 11 = .ok (.tableswitch 62 1 3 #[25, 35, 56], 25) := by decide +kernel
theorem dX8_heaviness_36 : decode cX8_heaviness 36 = .ok (.iload_n 1, 1) := by decide +kernel
theorem dX8_heaviness_37 : decode cX8_heaviness 37 = .ok (.bipush 10, 2) := by decide +kernel
theorem dX8_heaviness_39 : decode cX8_heaviness 39 = .ok (.aload_n 0, 1) := by decide +kernel
theorem dX8_heaviness_40 : decode cX8_heaviness 40 = .ok (.getfield 41, 3) := by decide +kernel
theorem dX8_heaviness_43 : decode cX8_heaviness 43 = .ok (.imul, 1) := by decide +kernel
theorem dX8_heaviness_44 : decode cX8_heaviness 44 = .ok (.iadd, 1) := by decide +kernel
theorem dX8_heaviness_45 : decode cX8_heaviness 45 = .ok (.ireturn, 1) := by decide +kernel
theorem dX8_heaviness_46 : decode cX8_heaviness 46 = .ok (.iconst 2, 1) := by decide +kernel
theorem dX8_heaviness_47 : decode cX8_heaviness 47 = .ok (.iload_n 1, 1) := by decide +kernel
theorem dX8_heaviness_48 : decode cX8_heaviness 48 = .ok (.imul, 1) := by decide +kernel
theorem dX8_heaviness_49 : decode cX8_heaviness 49 = .ok (.aload_n 0, 1) := by decide +kernel
theorem dX8_heaviness_50 : decode cX8_heaviness 50 = .ok (.getfield 45, 3) := by decide +kernel
theorem dX8_heaviness_53 : decode cX8_heaviness 53 = .ok (.iconst (-1), 1) := by decide +kernel
theorem dX8_heaviness_54 : decode cX8_heaviness 54 = .ok (.if_icmp .ne 7, 3) := by decide +kernel
theorem dX8_heaviness_57 : decode cX8_heaviness 57 = .ok (.iconst 0, 1) := by decide +kernel
theorem dX8_heaviness_58 : decode cX8_heaviness 58 = .ok (.goto 7, 3) := by decide +kernel
theorem dX8_heaviness_61 : decode cX8_heaviness 61 = .ok (.aload_n 0, 1) := by decide +kernel
theorem dX8_heaviness_62 : decode cX8_heaviness 62 = .ok (.getfield 45, 3) := by decide +kernel
theorem dX8_heaviness_65 : decode cX8_heaviness 65 = .ok (.iadd, 1) := by decide +kernel
theorem dX8_heaviness_66 : decode cX8_heaviness 66 = .ok (.ireturn, 1) := by decide +kernel
theorem dX8_heaviness_67 : decode cX8_heaviness 67 = .ok (.iload_n 1, 1) := by decide +kernel
theorem dX8_heaviness_68 : decode cX8_heaviness 68 = .ok (.sipush 300, 3) := by decide +kernel
theorem dX8_heaviness_71 : decode cX8_heaviness 71 = .ok (.iadd, 1) := by decide +kernel
theorem dX8_heaviness_72 : decode cX8_heaviness 72 = .ok (.ireturn, 1) := by decide +kernel
theorem dX8_heaviness_73 : decode cX8_heaviness 73 = .ok (.iload_n 1, 1) := by decide +kernel
theorem dX8_heaviness_74 : decode cX8_heaviness 74 = .ok (.ireturn, 1) := by decide +kernel
theorem dX8_throwFailure_0 : decode cX8_throwFailure 0 = .ok (.aload_n 0, 1) := by decide +kernel
theorem dX8_throwFailure_1 : decode cX8_throwFailure 1 = .ok (.getfield 31, 3) := by decide +kernel
theorem dX8_throwFailure_4 : decode cX8_throwFailure 4 = .ok (.ifCond .eq 13, 3) := by decide +kernel
theorem dX8_throwFailure_7 : decode cX8_throwFailure 7 = .ok (.new 72, 3) := by decide +kernel
theorem dX8_throwFailure_10 : decode cX8_throwFailure 10 = .ok (.dup, 1) := by decide +kernel
theorem dX8_throwFailure_11 : decode cX8_throwFailure 11 = .ok (.ldc 74, 2) := by decide +kernel
theorem dX8_throwFailure_13 : decode cX8_throwFailure 13 = .ok (.invokespecial 76, 3) := by decide +kernel
theorem dX8_throwFailure_16 : decode cX8_throwFailure 16 = .ok (.athrow, 1) := by decide +kernel
theorem dX8_throwFailure_17 : decode cX8_throwFailure 17 = .ok (.return_, 1) := by decide +kernel
theorem dX9_init_0 : decode cX9_init 0 = .ok (.aload_n 0, 1) := by decide +kernel
theorem dX9_init_1 : decode cX9_init 1 = .ok (.invokespecial 3, 3) := by decide +kernel
theorem dX9_init_4 : decode cX9_init 4 = .ok (.aload_n 0, 1) := by decide +kernel
theorem dX9_init_5 : decode cX9_init 5 = .ok (.bipush 16, 2) := by decide +kernel
theorem dX9_init_7 : decode cX9_init 7 = .ok (.newarray .int, 2) := by decide +kernel
theorem dX9_init_9 : decode cX9_init 9 = .ok (.putfield 9, 3) := by decide +kernel
theorem dX9_init_12 : decode cX9_init 12 = .ok (.aload_n 0, 1) := by decide +kernel
theorem dX9_init_13 : decode cX9_init 13 = .ok (.bipush 16, 2) := by decide +kernel
theorem dX9_init_15 : decode cX9_init 15 = .ok (.newarray .int, 2) := by decide +kernel
theorem dX9_init_17 : decode cX9_init 17 = .ok (.putfield 15, 3) := by decide +kernel
theorem dX9_init_20 : decode cX9_init 20 = .ok (.aload_n 0, 1) := by decide +kernel
theorem dX9_init_21 : decode cX9_init 21 = .ok (.bipush 16, 2) := by decide +kernel
theorem dX9_init_23 : decode cX9_init 23 = .ok (.newarray .int, 2) := by decide +kernel
theorem dX9_init_25 : decode cX9_init 25 = .ok (.putfield 18, 3) := by decide +kernel
theorem dX9_init_28 : decode cX9_init 28 = .ok (.aload_n 0, 1) := by decide +kernel
theorem dX9_init_29 : decode cX9_init 29 = .ok (.aload_n 1, 1) := by decide +kernel
theorem dX9_init_30 : decode cX9_init 30 = .ok (.putfield 21, 3) := by decide +kernel
theorem dX9_init_33 : decode cX9_init 33 = .ok (.return_, 1) := by decide +kernel
theorem dX9_begin_0 : decode cX9_begin 0 = .ok (.aload_n 0, 1) := by decide +kernel
theorem dX9_begin_1 : decode cX9_begin 1 = .ok (.getfield 9, 3) := by decide +kernel
theorem dX9_begin_4 : decode cX9_begin 4 = .ok (.iconst 0, 1) := by decide +kernel
theorem dX9_begin_5 : decode cX9_begin 5 = .ok (.invokestatic 25, 3) := by decide +kernel
theorem dX9_begin_8 : decode cX9_begin 8 = .ok (.aload_n 0, 1) := by decide +kernel
theorem dX9_begin_9 : decode cX9_begin 9 = .ok (.getfield 15, 3) := by decide +kernel
theorem dX9_begin_12 : decode cX9_begin 12 = .ok (.iconst 0, 1) := by decide +kernel
theorem dX9_begin_13 : decode cX9_begin 13 = .ok (.invokestatic 25, 3) := by decide +kernel
theorem dX9_begin_16 : decode cX9_begin 16 = .ok (.aload_n 0, 1) := by decide +kernel
theorem dX9_begin_17 : decode cX9_begin 17 = .ok (.getfield 18, 3) := by decide +kernel
theorem dX9_begin_20 : decode cX9_begin 20 = .ok (.iconst 0, 1) := by decide +kernel
theorem dX9_begin_21 : decode cX9_begin 21 = .ok (.invokestatic 25, 3) := by decide +kernel
theorem dX9_begin_24 : decode cX9_begin 24 = .ok (.return_, 1) := by decide +kernel
theorem dX9_openTick_0 : decode cX9_openTick 0 = .ok (.aload_n 0, 1) := by decide +kernel
theorem dX9_openTick_1 : decode cX9_openTick 1 = .ok (.getfield 18, 3) := by decide +kernel
theorem dX9_openTick_4 : decode cX9_openTick 4 = .ok (.iconst 0, 1) := by decide +kernel
theorem dX9_openTick_5 : decode cX9_openTick 5 = .ok (.invokestatic 25, 3) := by decide +kernel
theorem dX9_openTick_8 : decode cX9_openTick 8 = .ok (.return_, 1) := by decide +kernel
theorem dX9_holdsUp_0 : decode cX9_holdsUp 0 = .ok (.iload_n 1, 1) := by decide +kernel
theorem dX9_holdsUp_1 : decode cX9_holdsUp 1 = .ok (.istore_n 3, 1) := by decide +kernel
theorem dX9_holdsUp_2 : decode cX9_holdsUp 2 = .ok (.iconst 0, 1) := by decide +kernel
theorem dX9_holdsUp_3 : decode cX9_holdsUp 3 = .ok (.istore 4, 2) := by decide +kernel
theorem dX9_holdsUp_5 : decode cX9_holdsUp 5 = .ok (.iload 4, 2) := by decide +kernel
theorem dX9_holdsUp_7 : decode cX9_holdsUp 7 = .ok (.iconst 4, 1) := by decide +kernel
theorem dX9_holdsUp_8 : decode cX9_holdsUp 8 = .ok (.if_icmp .ge 73, 3) := by decide +kernel
theorem dX9_holdsUp_11 : decode cX9_holdsUp 11 = .ok (.iload_n 3, 1) := by decide +kernel
theorem dX9_holdsUp_12 : decode cX9_holdsUp 12 = .ok (.iload_n 2, 1) := by decide +kernel
theorem dX9_holdsUp_13 : decode cX9_holdsUp 13 = .ok (.if_icmp .eq 68, 3) := by decide +kernel
theorem dX9_holdsUp_16 : decode cX9_holdsUp 16 = .ok (.aload_n 0, 1) := by decide +kernel
theorem dX9_holdsUp_17 : decode cX9_holdsUp 17 = .ok (.getfield 21, 3) := by decide +kernel
theorem dX9_holdsUp_20 : decode cX9_holdsUp 20 = .ok (.iload_n 3, 1) := by decide +kernel
theorem dX9_holdsUp_21 : decode cX9_holdsUp 21 = .ok (.iload_n 2, 1) := by decide +kernel
theorem dX9_holdsUp_22 : decode cX9_holdsUp 22 = .ok (.invokevirtual 31, 3) := by decide +kernel
theorem dX9_holdsUp_25 : decode cX9_holdsUp 25 = .ok (.istore 5, 2) := by decide +kernel
theorem dX9_holdsUp_27 : decode cX9_holdsUp 27 = .ok (.aload_n 0, 1) := by decide +kernel
theorem dX9_holdsUp_28 : decode cX9_holdsUp 28 = .ok (.getfield 21, 3) := by decide +kernel
theorem dX9_holdsUp_31 : decode cX9_holdsUp 31 = .ok (.iload_n 3, 1) := by decide +kernel
theorem dX9_holdsUp_32 : decode cX9_holdsUp 32 = .ok (.iload 5, 2) := by decide +kernel
theorem dX9_holdsUp_34 : decode cX9_holdsUp 34 = .ok (.invokevirtual 37, 3) := by decide +kernel
theorem dX9_holdsUp_37 : decode cX9_holdsUp 37 = .ok (.istore 6, 2) := by decide +kernel
theorem dX9_holdsUp_39 : decode cX9_holdsUp 39 = .ok (.aload_n 0, 1) := by decide +kernel
theorem dX9_holdsUp_40 : decode cX9_holdsUp 40 = .ok (.getfield 18, 3) := by decide +kernel
theorem dX9_holdsUp_43 : decode cX9_holdsUp 43 = .ok (.iload 6, 2) := by decide +kernel
theorem dX9_holdsUp_45 : decode cX9_holdsUp 45 = .ok (.iaload, 1) := by decide +kernel
theorem dX9_holdsUp_46 : decode cX9_holdsUp 46 = .ok (.aload_n 0, 1) := by decide +kernel
theorem dX9_holdsUp_47 : decode cX9_holdsUp 47 = .ok (.getfield 21, 3) := by decide +kernel
theorem dX9_holdsUp_50 : decode cX9_holdsUp 50 = .ok (.getfield 40, 3) := by decide +kernel
theorem dX9_holdsUp_53 : decode cX9_holdsUp 53 = .ok (.iload 6, 2) := by decide +kernel
theorem dX9_holdsUp_55 : decode cX9_holdsUp 55 = .ok (.iaload, 1) := by decide +kernel
theorem dX9_holdsUp_56 : decode cX9_holdsUp 56 = .ok (.if_icmp .lt 16, 3) := by decide +kernel
theorem dX9_holdsUp_59 : decode cX9_holdsUp 59 = .ok (.aload_n 0, 1) := by decide +kernel
theorem dX9_holdsUp_60 : decode cX9_holdsUp 60 = .ok (.getfield 15, 3) := by decide +kernel
theorem dX9_holdsUp_63 : decode cX9_holdsUp 63 = .ok (.iload 6, 2) := by decide +kernel
theorem dX9_holdsUp_65 : decode cX9_holdsUp 65 = .ok (.dup2, 1) := by decide +kernel
theorem dX9_holdsUp_66 : decode cX9_holdsUp 66 = .ok (.iaload, 1) := by decide +kernel
theorem dX9_holdsUp_67 : decode cX9_holdsUp 67 = .ok (.iconst 1, 1) := by decide +kernel
theorem dX9_holdsUp_68 : decode cX9_holdsUp 68 = .ok (.iadd, 1) := by decide +kernel
theorem dX9_holdsUp_69 : decode cX9_holdsUp 69 = .ok (.iastore, 1) := by decide +kernel
theorem dX9_holdsUp_70 : decode cX9_holdsUp 70 = .ok (.iconst 1, 1) := by decide +kernel
theorem dX9_holdsUp_71 : decode cX9_holdsUp 71 = .ok (.ireturn, 1) := by decide +kernel
theorem dX9_holdsUp_72 : decode cX9_holdsUp 72 = .ok (.iload 5, 2) := by decide +kernel
theorem dX9_holdsUp_74 : decode cX9_holdsUp 74 = .ok (.istore_n 3, 1) := by decide +kernel
theorem dX9_holdsUp_75 : decode cX9_holdsUp 75 = .ok (.iinc 4 1, 3) := by decide +kernel
theorem dX9_holdsUp_78 : decode cX9_holdsUp 78 = .ok (.goto (-73), 3) := by decide +kernel
theorem dX9_holdsUp_81 : decode cX9_holdsUp 81 = .ok (.iconst 0, 1) := by decide +kernel
theorem dX9_holdsUp_82 : decode cX9_holdsUp 82 = .ok (.ireturn, 1) := by decide +kernel
theorem dX9_carry_0 : decode cX9_carry 0 = .ok (.iload_n 1, 1) := by decide +kernel
theorem dX9_carry_1 : decode cX9_carry 1 = .ok (.istore_n 3, 1) := by decide +kernel
theorem dX9_carry_2 : decode cX9_carry 2 = .ok (.iconst 0, 1) := by decide +kernel
theorem dX9_carry_3 : decode cX9_carry 3 = .ok (.istore 4, 2) := by decide +kernel
theorem dX9_carry_5 : decode cX9_carry 5 = .ok (.iload 4, 2) := by decide +kernel
theorem dX9_carry_7 : decode cX9_carry 7 = .ok (.iconst 4, 1) := by decide +kernel
theorem dX9_carry_8 : decode cX9_carry 8 = .ok (.if_icmp .ge 62, 3) := by decide +kernel
theorem dX9_carry_11 : decode cX9_carry 11 = .ok (.iload_n 3, 1) := by decide +kernel
theorem dX9_carry_12 : decode cX9_carry 12 = .ok (.iload_n 2, 1) := by decide +kernel
theorem dX9_carry_13 : decode cX9_carry 13 = .ok (.if_icmp .eq 57, 3) := by decide +kernel
theorem dX9_carry_16 : decode cX9_carry 16 = .ok (.aload_n 0, 1) := by decide +kernel
theorem dX9_carry_17 : decode cX9_carry 17 = .ok (.getfield 21, 3) := by decide +kernel
theorem dX9_carry_20 : decode cX9_carry 20 = .ok (.iload_n 3, 1) := by decide +kernel
theorem dX9_carry_21 : decode cX9_carry 21 = .ok (.iload_n 2, 1) := by decide +kernel
theorem dX9_carry_22 : decode cX9_carry 22 = .ok (.invokevirtual 31, 3) := by decide +kernel
theorem dX9_carry_25 : decode cX9_carry 25 = .ok (.istore 5, 2) := by decide +kernel
theorem dX9_carry_27 : decode cX9_carry 27 = .ok (.aload_n 0, 1) := by decide +kernel
theorem dX9_carry_28 : decode cX9_carry 28 = .ok (.getfield 21, 3) := by decide +kernel
theorem dX9_carry_31 : decode cX9_carry 31 = .ok (.iload_n 3, 1) := by decide +kernel
theorem dX9_carry_32 : decode cX9_carry 32 = .ok (.iload 5, 2) := by decide +kernel
theorem dX9_carry_34 : decode cX9_carry 34 = .ok (.invokevirtual 37, 3) := by decide +kernel
theorem dX9_carry_37 : decode cX9_carry 37 = .ok (.istore 6, 2) := by decide +kernel
theorem dX9_carry_39 : decode cX9_carry 39 = .ok (.aload_n 0, 1) := by decide +kernel
theorem dX9_carry_40 : decode cX9_carry 40 = .ok (.getfield 18, 3) := by decide +kernel
theorem dX9_carry_43 : decode cX9_carry 43 = .ok (.iload 6, 2) := by decide +kernel
theorem dX9_carry_45 : decode cX9_carry 45 = .ok (.dup2, 1) := by decide +kernel
theorem dX9_carry_46 : decode cX9_carry 46 = .ok (.iaload, 1) := by decide +kernel
theorem dX9_carry_47 : decode cX9_carry 47 = .ok (.iconst 1, 1) := by decide +kernel
theorem dX9_carry_48 : decode cX9_carry 48 = .ok (.iadd, 1) := by decide +kernel
theorem dX9_carry_49 : decode cX9_carry 49 = .ok (.iastore, 1) := by decide +kernel
theorem dX9_carry_50 : decode cX9_carry 50 = .ok (.aload_n 0, 1) := by decide +kernel
theorem dX9_carry_51 : decode cX9_carry 51 = .ok (.getfield 9, 3) := by decide +kernel
theorem dX9_carry_54 : decode cX9_carry 54 = .ok (.iload 6, 2) := by decide +kernel
theorem dX9_carry_56 : decode cX9_carry 56 = .ok (.dup2, 1) := by decide +kernel
theorem dX9_carry_57 : decode cX9_carry 57 = .ok (.iaload, 1) := by decide +kernel
theorem dX9_carry_58 : decode cX9_carry 58 = .ok (.iconst 1, 1) := by decide +kernel
theorem dX9_carry_59 : decode cX9_carry 59 = .ok (.iadd, 1) := by decide +kernel
theorem dX9_carry_60 : decode cX9_carry 60 = .ok (.iastore, 1) := by decide +kernel
theorem dX9_carry_61 : decode cX9_carry 61 = .ok (.iload 5, 2) := by decide +kernel
theorem dX9_carry_63 : decode cX9_carry 63 = .ok (.istore_n 3, 1) := by decide +kernel
theorem dX9_carry_64 : decode cX9_carry 64 = .ok (.iinc 4 1, 3) := by decide +kernel
theorem dX9_carry_67 : decode cX9_carry 67 = .ok (.goto (-62), 3) := by decide +kernel
theorem dX9_carry_70 : decode cX9_carry 70 = .ok (.return_, 1) := by decide +kernel
theorem dX10_init_0 : decode cX10_init 0 = .ok (.aload_n 0, 1) := by decide +kernel
theorem dX10_init_1 : decode cX10_init 1 = .ok (.invokespecial 1, 3) := by decide +kernel
theorem dX10_init_4 : decode cX10_init 4 = .ok (.aload_n 0, 1) := by decide +kernel
theorem dX10_init_5 : decode cX10_init 5 = .ok (.aload_n 1, 1) := by decide +kernel
theorem dX10_init_6 : decode cX10_init 6 = .ok (.putfield 7, 3) := by decide +kernel
theorem dX10_init_9 : decode cX10_init 9 = .ok (.return_, 1) := by decide +kernel
theorem dX10_begin_0 : decode cX10_begin 0 = .ok (.aload_n 0, 1) := by decide +kernel
theorem dX10_begin_1 : decode cX10_begin 1 = .ok (.iload_n 1, 1) := by decide +kernel
theorem dX10_begin_2 : decode cX10_begin 2 = .ok (.putfield 13, 3) := by decide +kernel
theorem dX10_begin_5 : decode cX10_begin 5 = .ok (.aload_n 0, 1) := by decide +kernel
theorem dX10_begin_6 : decode cX10_begin 6 = .ok (.iconst 0, 1) := by decide +kernel
theorem dX10_begin_7 : decode cX10_begin 7 = .ok (.putfield 17, 3) := by decide +kernel
theorem dX10_begin_10 : decode cX10_begin 10 = .ok (.aload_n 0, 1) := by decide +kernel
theorem dX10_begin_11 : decode cX10_begin 11 = .ok (.iconst 0, 1) := by decide +kernel
theorem dX10_begin_12 : decode cX10_begin 12 = .ok (.putfield 20, 3) := by decide +kernel
theorem dX10_begin_15 : decode cX10_begin 15 = .ok (.aload_n 0, 1) := by decide +kernel
theorem dX10_begin_16 : decode cX10_begin 16 = .ok (.iconst 0, 1) := by decide +kernel
theorem dX10_begin_17 : decode cX10_begin 17 = .ok (.putfield 23, 3) := by decide +kernel
theorem dX10_begin_20 : decode cX10_begin 20 = .ok (.aload_n 0, 1) := by decide +kernel
theorem dX10_begin_21 : decode cX10_begin 21 = .ok (.iconst 0, 1) := by decide +kernel
theorem dX10_begin_22 : decode cX10_begin 22 = .ok (.putfield 26, 3) := by decide +kernel
theorem dX10_begin_25 : decode cX10_begin 25 = .ok (.aload_n 0, 1) := by decide +kernel
theorem dX10_begin_26 : decode cX10_begin 26 = .ok (.iconst 0, 1) := by decide +kernel
theorem dX10_begin_27 : decode cX10_begin 27 = .ok (.putfield 29, 3) := by decide +kernel
theorem dX10_begin_30 : decode cX10_begin 30 = .ok (.aload_n 0, 1) := by decide +kernel
theorem dX10_begin_31 : decode cX10_begin 31 = .ok (.iconst 0, 1) := by decide +kernel
theorem dX10_begin_32 : decode cX10_begin 32 = .ok (.putfield 32, 3) := by decide +kernel
theorem dX10_begin_35 : decode cX10_begin 35 = .ok (.return_, 1) := by decide +kernel
theorem dX10_left_0 : decode cX10_left 0 = .ok (.aload_n 0, 1) := by decide +kernel
theorem dX10_left_1 : decode cX10_left 1 = .ok (.getfield 32, 3) := by decide +kernel
theorem dX10_left_4 : decode cX10_left 4 = .ok (.ifCond .eq 7, 3) := by decide +kernel
theorem dX10_left_7 : decode cX10_left 7 = .ok (.iconst 0, 1) := by decide +kernel
theorem dX10_left_8 : decode cX10_left 8 = .ok (.goto 15, 3) := by decide +kernel
theorem dX10_left_11 : decode cX10_left 11 = .ok (.aload_n 0, 1) := by decide +kernel
theorem dX10_left_12 : decode cX10_left 12 = .ok (.getfield 7, 3) := by decide +kernel
theorem dX10_left_15 : decode cX10_left 15 = .ok (.getfield 36, 3) := by decide +kernel
theorem dX10_left_18 : decode cX10_left 18 = .ok (.aload_n 0, 1) := by decide +kernel
theorem dX10_left_19 : decode cX10_left 19 = .ok (.getfield 17, 3) := by decide +kernel
theorem dX10_left_22 : decode cX10_left 22 = .ok (.isub, 1) := by decide +kernel
theorem dX10_left_23 : decode cX10_left 23 = .ok (.ireturn, 1) := by decide +kernel
theorem dX10_isReady_0 : decode cX10_isReady 0 = .ok (.aload_n 0, 1) := by decide +kernel
theorem dX10_isReady_1 : decode cX10_isReady 1 = .ok (.getfield 20, 3) := by decide +kernel
theorem dX10_isReady_4 : decode cX10_isReady 4 = .ok (.ifCond .ne 14, 3) := by decide +kernel
theorem dX10_isReady_7 : decode cX10_isReady 7 = .ok (.aload_n 0, 1) := by decide +kernel
theorem dX10_isReady_8 : decode cX10_isReady 8 = .ok (.invokevirtual 41, 3) := by decide +kernel
theorem dX10_isReady_11 : decode cX10_isReady 11 = .ok (.ifCond .le 7, 3) := by decide +kernel
theorem dX10_isReady_14 : decode cX10_isReady 14 = .ok (.iconst 1, 1) := by decide +kernel
theorem dX10_isReady_15 : decode cX10_isReady 15 = .ok (.goto 4, 3) := by decide +kernel
theorem dX10_isReady_18 : decode cX10_isReady 18 = .ok (.iconst 0, 1) := by decide +kernel
theorem dX10_isReady_19 : decode cX10_isReady 19 = .ok (.ireturn, 1) := by decide +kernel
end
section
theorem dX3_init_0 : decode cX3_init 0 = .ok (.aload_n 0, 1) := by decide +kernel
theorem dX3_init_1 : decode cX3_init 1 = .ok (.invokespecial 3, 3) := by decide +kernel
theorem dX3_init_4 : decode cX3_init 4 = .ok (.aload_n 0, 1) := by decide +kernel
theorem dX3_init_5 : decode cX3_init 5 = .ok (.new 9, 3) := by decide +kernel
theorem dX3_init_8 : decode cX3_init 8 = .ok (.dup, 1) := by decide +kernel
theorem dX3_init_9 : decode cX3_init 9 = .ok (.invokespecial 11, 3) := by decide +kernel
theorem dX3_init_12 : decode cX3_init 12 = .ok (.putfield 12, 3) := by decide +kernel
theorem dX3_init_15 : decode cX3_init 15 = .ok (.aload_n 0, 1) := by decide +kernel
theorem dX3_init_16 : decode cX3_init 16 = .ok (.new 18, 3) := by decide +kernel
theorem dX3_init_19 : decode cX3_init 19 = .ok (.dup, 1) := by decide +kernel
theorem dX3_init_20 : decode cX3_init 20 = .ok (.invokespecial 20, 3) := by decide +kernel
theorem dX3_init_23 : decode cX3_init 23 = .ok (.putfield 21, 3) := by decide +kernel
theorem dX3_init_26 : decode cX3_init 26 = .ok (.aload_n 0, 1) := by decide +kernel
theorem dX3_init_27 : decode cX3_init 27 = .ok (.new 25, 3) := by decide +kernel
theorem dX3_init_30 : decode cX3_init 30 = .ok (.dup, 1) := by decide +kernel
theorem dX3_init_31 : decode cX3_init 31 = .ok (.invokespecial 27, 3) := by decide +kernel
theorem dX3_init_34 : decode cX3_init 34 = .ok (.putfield 28, 3) := by decide +kernel
theorem dX3_init_37 : decode cX3_init 37 = .ok (.aload_n 0, 1) := by decide +kernel
theorem dX3_init_38 : decode cX3_init 38 = .ok (.bipush 20, 2) := by decide +kernel
theorem dX3_init_40 : decode cX3_init 40 = .ok (.anewarray 32, 3) := by decide +kernel
theorem dX3_init_43 : decode cX3_init 43 = .ok (.putfield 34, 3) := by decide +kernel
theorem dX3_init_46 : decode cX3_init 46 = .ok (.aload_n 0, 1) := by decide +kernel
theorem dX3_init_47 : decode cX3_init 47 = .ok (.bipush 10, 2) := by decide +kernel
theorem dX3_init_49 : decode cX3_init 49 = .ok (.anewarray 38, 3) := by decide +kernel
theorem dX3_init_52 : decode cX3_init 52 = .ok (.putfield 40, 3) := by decide +kernel
theorem dX3_init_55 : decode cX3_init 55 = .ok (.aload_n 0, 1) := by decide +kernel
theorem dX3_init_56 : decode cX3_init 56 = .ok (.iconst 4, 1) := by decide +kernel
theorem dX3_init_57 : decode cX3_init 57 = .ok (.newarray .int, 2) := by decide +kernel
theorem dX3_init_59 : decode cX3_init 59 = .ok (.putfield 44, 3) := by decide +kernel
theorem dX3_init_62 : decode cX3_init 62 = .ok (.aload_n 0, 1) := by decide +kernel
theorem dX3_init_63 : decode cX3_init 63 = .ok (.iconst 4, 1) := by decide +kernel
theorem dX3_init_64 : decode cX3_init 64 = .ok (.newarray .int, 2) := by decide +kernel
theorem dX3_init_66 : decode cX3_init 66 = .ok (.putfield 48, 3) := by decide +kernel
theorem dX3_init_69 : decode cX3_init 69 = .ok (.aload_n 0, 1) := by decide +kernel
theorem dX3_init_70 : decode cX3_init 70 = .ok (.iconst 1, 1) := by decide +kernel
theorem dX3_init_71 : decode cX3_init 71 = .ok (.putfield 51, 3) := by decide +kernel
theorem dX3_init_74 : decode cX3_init 74 = .ok (.aload_n 0, 1) := by decide +kernel
theorem dX3_init_75 : decode cX3_init 75 = .ok (.aload_n 1, 1) := by decide +kernel
theorem dX3_init_76 : decode cX3_init 76 = .ok (.putfield 55, 3) := by decide +kernel
theorem dX3_init_79 : decode cX3_init 79 = .ok (.aload_n 0, 1) := by decide +kernel
theorem dX3_init_80 : decode cX3_init 80 = .ok (.new 59, 3) := by decide +kernel
theorem dX3_init_83 : decode cX3_init 83 = .ok (.dup, 1) := by decide +kernel
theorem dX3_init_84 : decode cX3_init 84 = .ok (.aload_n 1, 1) := by decide +kernel
theorem dX3_init_85 : decode cX3_init 85 = .ok (.invokespecial 61, 3) := by decide +kernel
theorem dX3_init_88 : decode cX3_init 88 = .ok (.putfield 64, 3) := by decide +kernel
theorem dX3_init_91 : decode cX3_init 91 = .ok (.aload_n 0, 1) := by decide +kernel
theorem dX3_init_92 : decode cX3_init 92 = .ok (.new 68, 3) := by decide +kernel
theorem dX3_init_95 : decode cX3_init 95 = .ok (.dup, 1) := by decide +kernel
theorem dX3_init_96 : decode cX3_init 96 = .ok (.iload_n 3, 1) := by decide +kernel
theorem dX3_init_97 : decode cX3_init 97 = .ok (.invokespecial 70, 3) := by decide +kernel
theorem dX3_init_100 : decode cX3_init 100 = .ok (.putfield 73, 3) := by decide +kernel
theorem dX3_init_103 : decode cX3_init 103 = .ok (.iconst 0, 1) := by decide +kernel
theorem dX3_init_104 : decode cX3_init 104 = .ok (.istore 4, 2) := by decide +kernel
theorem dX3_init_106 : decode cX3_init 106 = .ok (.iload 4, 2) := by decide +kernel
theorem dX3_init_108 : decode cX3_init 108 = .ok (.bipush 20, 2) := by decide +kernel
theorem dX3_init_110 : decode cX3_init 110 = .ok (.if_icmp .ge 23, 3) := by decide +kernel
theorem dX3_init_113 : decode cX3_init 113 = .ok (.aload_n 0, 1) := by decide +kernel
theorem dX3_init_114 : decode cX3_init 114 = .ok (.getfield 34, 3) := by decide +kernel
theorem dX3_init_117 : decode cX3_init 117 = .ok (.iload 4, 2) := by decide +kernel
theorem dX3_init_119 : decode cX3_init 119 = .ok (.new 32, 3) := by decide +kernel
theorem dX3_init_122 : decode cX3_init 122 = .ok (.dup, 1) := by decide +kernel
theorem dX3_init_123 : decode cX3_init 123 = .ok (.invokespecial 77, 3) := by decide +kernel
theorem dX3_init_126 : decode cX3_init 126 = .ok (.aastore, 1) := by decide +kernel
theorem dX3_init_127 : decode cX3_init 127 = .ok (.iinc 4 1, 3) := by decide +kernel
theorem dX3_init_130 : decode cX3_init 130 = .ok (.goto (-24), 3) := by decide +kernel
theorem dX3_init_133 : decode cX3_init 133 = .ok (.iconst 0, 1) := by decide +kernel
theorem dX3_init_134 : decode cX3_init 134 = .ok (.istore 4, 2) := by decide +kernel
theorem dX3_init_136 : decode cX3_init 136 = .ok (.iload 4, 2) := by decide +kernel
theorem dX3_init_138 : decode cX3_init 138 = .ok (.bipush 10, 2) := by decide +kernel
theorem dX3_init_140 : decode cX3_init 140 = .ok (.if_icmp .ge 27, 3) := by decide +kernel
theorem dX3_init_143 : decode cX3_init 143 = .ok (.aload_n 0, 1) := by decide +kernel
theorem dX3_init_144 : decode cX3_init 144 = .ok (.getfield 40, 3) := by decide +kernel
theorem dX3_init_147 : decode cX3_init 147 = .ok (.iload 4, 2) := by decide +kernel
theorem dX3_init_149 : decode cX3_init 149 = .ok (.new 38, 3) := by decide +kernel
theorem dX3_init_152 : decode cX3_init 152 = .ok (.dup, 1) := by decide +kernel
theorem dX3_init_153 : decode cX3_init 153 = .ok (.aload_n 2, 1) := by decide +kernel
theorem dX3_init_154 : decode cX3_init 154 = .ok (.iload 4, 2) := by decide +kernel
theorem dX3_init_156 : decode cX3_init 156 = .ok (.aaload, 1) := by decide +kernel
theorem dX3_init_157 : decode cX3_init 157 = .ok (.invokespecial 78, 3) := by decide +kernel
theorem dX3_init_160 : decode cX3_init 160 = .ok (.aastore, 1) := by decide +kernel
theorem dX3_init_161 : decode cX3_init 161 = .ok (.iinc 4 1, 3) := by decide +kernel
theorem dX3_init_164 : decode cX3_init 164 = .ok (.goto (-28), 3) := by decide +kernel
theorem dX3_init_167 : decode cX3_init 167 = .ok (.return_, 1) := by decide +kernel
theorem dX3_beginLike_0 : decode cX3_beginLike 0 = .ok (.aload_n 0, 1) := by decide +kernel
theorem dX3_beginLike_1 : decode cX3_beginLike 1 = .ok (.getfield 64, 3) := by decide +kernel
theorem dX3_beginLike_4 : decode cX3_beginLike 4 = .ok (.invokevirtual 81, 3) := by decide +kernel
theorem dX3_beginLike_7 : decode cX3_beginLike 7 = .ok (.aload_n 0, 1) := by decide +kernel
theorem dX3_beginLike_8 : decode cX3_beginLike 8 = .ok (.getfield 12, 3) := by decide +kernel
theorem dX3_beginLike_11 : decode cX3_beginLike 11 = .ok (.invokevirtual 84, 3) := by decide +kernel
theorem dX3_beginLike_14 : decode cX3_beginLike 14 = .ok (.aload_n 0, 1) := by decide +kernel
theorem dX3_beginLike_15 : decode cX3_beginLike 15 = .ok (.getfield 44, 3) := by decide +kernel
theorem dX3_beginLike_18 : decode cX3_beginLike 18 = .ok (.iconst 0, 1) := by decide +kernel
theorem dX3_beginLike_19 : decode cX3_beginLike 19 = .ok (.invokestatic 85, 3) := by decide +kernel
theorem dX3_beginLike_22 : decode cX3_beginLike 22 = .ok (.aload_n 0, 1) := by decide +kernel
theorem dX3_beginLike_23 : decode cX3_beginLike 23 = .ok (.getfield 48, 3) := by decide +kernel
theorem dX3_beginLike_26 : decode cX3_beginLike 26 = .ok (.iconst 0, 1) := by decide +kernel
theorem dX3_beginLike_27 : decode cX3_beginLike 27 = .ok (.invokestatic 85, 3) := by decide +kernel
theorem dX3_beginLike_30 : decode cX3_beginLike 30 = .ok (.aload_n 0, 1) := by decide +kernel
theorem dX3_beginLike_31 : decode cX3_beginLike 31 = .ok (.iconst 0, 1) := by decide +kernel
theorem dX3_beginLike_32 : decode cX3_beginLike 32 = .ok (.putfield 91, 3) := by decide +kernel
theorem dX3_beginLike_35 : decode cX3_beginLike 35 = .ok (.aload_n 0, 1) := by decide +kernel
theorem dX3_beginLike_36 : decode cX3_beginLike 36 = .ok (.iconst 0, 1) := by decide +kernel
theorem dX3_beginLike_37 : decode cX3_beginLike 37 = .ok (.putfield 94, 3) := by decide +kernel
theorem dX3_beginLike_40 : decode cX3_beginLike 40 = .ok (.aload_n 0, 1) := by decide +kernel
theorem dX3_beginLike_41 : decode cX3_beginLike 41 = .ok (.iconst 0, 1) := by decide +kernel
theorem dX3_beginLike_42 : decode cX3_beginLike 42 = .ok (.putfield 97, 3) := by decide +kernel
theorem dX3_beginLike_45 : decode cX3_beginLike 45 = .ok (.aload_n 0, 1) := by decide +kernel
theorem dX3_beginLike_46 : decode cX3_beginLike 46 = .ok (.iconst 1, 1) := by decide +kernel
theorem dX3_beginLike_47 : decode cX3_beginLike 47 = .ok (.putfield 51, 3) := by decide +kernel
theorem dX3_beginLike_50 : decode cX3_beginLike 50 = .ok (.aload_n 0, 1) := by decide +kernel
theorem dX3_beginLike_51 : decode cX3_beginLike 51 = .ok (.iconst 0, 1) := by decide +kernel
theorem dX3_beginLike_52 : decode cX3_beginLike 52 = .ok (.putfield 100, 3) := by decide +kernel
theorem dX3_beginLike_55 : decode cX3_beginLike 55 = .ok (.aload_n 0, 1) := by decide +kernel
theorem dX3_beginLike_56 : decode cX3_beginLike 56 = .ok (.iconst 0, 1) := by decide +kernel
theorem dX3_beginLike_57 : decode cX3_beginLike 57 = .ok (.putfield 103, 3) := by decide +kernel
theorem dX3_beginLike_60 : decode cX3_beginLike 60 = .ok (.aload_n 0, 1) := by decide +kernel
theorem dX3_beginLike_61 : decode cX3_beginLike 61 = .ok (.iconst 0, 1) := by decide +kernel
theorem dX3_beginLike_62 : decode cX3_beginLike 62 = .ok (.putfield 106, 3) := by decide +kernel
theorem dX3_beginLike_65 : decode cX3_beginLike 65 = .ok (.aload_n 0, 1) := by decide +kernel
theorem dX3_beginLike_66 : decode cX3_beginLike 66 = .ok (.iconst 0, 1) := by decide +kernel
theorem dX3_beginLike_67 : decode cX3_beginLike 67 = .ok (.putfield 109, 3) := by decide +kernel
theorem dX3_beginLike_70 : decode cX3_beginLike 70 = .ok (.aload_n 0, 1) := by decide +kernel
theorem dX3_beginLike_71 : decode cX3_beginLike 71 = .ok (.iconst 0, 1) := by decide +kernel
theorem dX3_beginLike_72 : decode cX3_beginLike 72 = .ok (.putfield 112, 3) := by decide +kernel
theorem dX3_beginLike_75 : decode cX3_beginLike 75 = .ok (.iconst 0, 1) := by decide +kernel
theorem dX3_beginLike_76 : decode cX3_beginLike 76 = .ok (.istore_n 2, 1) := by decide +kernel
theorem dX3_beginLike_77 : decode cX3_beginLike 77 = .ok (.iload_n 2, 1) := by decide +kernel
theorem dX3_beginLike_78 : decode cX3_beginLike 78 = .ok (.aload_n 1, 1) := by decide +kernel
theorem dX3_beginLike_79 : decode cX3_beginLike 79 = .ok (.getfield 91, 3) := by decide +kernel
theorem dX3_beginLike_82 : decode cX3_beginLike 82 = .ok (.if_icmp .ge 23, 3) := by decide +kernel
theorem dX3_beginLike_85 : decode cX3_beginLike 85 = .ok (.aload_n 0, 1) := by decide +kernel
theorem dX3_beginLike_86 : decode cX3_beginLike 86 = .ok (.aload_n 1, 1) := by decide +kernel
theorem dX3_beginLike_87 : decode cX3_beginLike 87 = .ok (.getfield 34, 3) := by decide +kernel
theorem dX3_beginLike_90 : decode cX3_beginLike 90 = .ok (.iload_n 2, 1) := by decide +kernel
theorem dX3_beginLike_91 : decode cX3_beginLike 91 = .ok (.aaload, 1) := by decide +kernel
theorem dX3_beginLike_92 : decode cX3_beginLike 92 = .ok (.getfield 115, 3) := by decide +kernel
theorem dX3_beginLike_95 : decode cX3_beginLike 95 = .ok (.invokevirtual 118, 3) := by decide +kernel
theorem dX3_beginLike_98 : decode cX3_beginLike 98 = .ok (.pop, 1) := by decide +kernel
theorem dX3_beginLike_99 : decode cX3_beginLike 99 = .ok (.iinc 2 1, 3) := by decide +kernel
theorem dX3_beginLike_102 : decode cX3_beginLike 102 = .ok (.goto (-25), 3) := by decide +kernel
theorem dX3_beginLike_105 : decode cX3_beginLike 105 = .ok (.iconst 0, 1) := by decide +kernel
theorem dX3_beginLike_106 : decode cX3_beginLike 106 = .ok (.istore_n 2, 1) := by decide +kernel
theorem dX3_beginLike_107 : decode cX3_beginLike 107 = .ok (.iload_n 2, 1) := by decide +kernel
theorem dX3_beginLike_108 : decode cX3_beginLike 108 = .ok (.aload_n 1, 1) := by decide +kernel
theorem dX3_beginLike_109 : decode cX3_beginLike 109 = .ok (.getfield 94, 3) := by decide +kernel
theorem dX3_beginLike_112 : decode cX3_beginLike 112 = .ok (.if_icmp .ge 23, 3) := by decide +kernel
theorem dX3_beginLike_115 : decode cX3_beginLike 115 = .ok (.aload_n 0, 1) := by decide +kernel
theorem dX3_beginLike_116 : decode cX3_beginLike 116 = .ok (.aload_n 1, 1) := by decide +kernel
theorem dX3_beginLike_117 : decode cX3_beginLike 117 = .ok (.getfield 40, 3) := by decide +kernel
theorem dX3_beginLike_120 : decode cX3_beginLike 120 = .ok (.iload_n 2, 1) := by decide +kernel
theorem dX3_beginLike_121 : decode cX3_beginLike 121 = .ok (.aaload, 1) := by decide +kernel
theorem dX3_beginLike_122 : decode cX3_beginLike 122 = .ok (.getfield 122, 3) := by decide +kernel
theorem dX3_beginLike_125 : decode cX3_beginLike 125 = .ok (.invokevirtual 125, 3) := by decide +kernel
theorem dX3_beginLike_128 : decode cX3_beginLike 128 = .ok (.pop, 1) := by decide +kernel
theorem dX3_beginLike_129 : decode cX3_beginLike 129 = .ok (.iinc 2 1, 3) := by decide +kernel
theorem dX3_beginLike_132 : decode cX3_beginLike 132 = .ok (.goto (-25), 3) := by decide +kernel
theorem dX3_beginLike_135 : decode cX3_beginLike 135 = .ok (.aload_n 0, 1) := by decide +kernel
theorem dX3_beginLike_136 : decode cX3_beginLike 136 = .ok (.getfield 21, 3) := by decide +kernel
theorem dX3_beginLike_139 : decode cX3_beginLike 139 = .ok (.aload_n 1, 1) := by decide +kernel
theorem dX3_beginLike_140 : decode cX3_beginLike 140 = .ok (.getfield 21, 3) := by decide +kernel
theorem dX3_beginLike_143 : decode cX3_beginLike 143 = .ok (.getfield 128, 3) := by decide +kernel
theorem dX3_beginLike_146 : decode cX3_beginLike 146 = .ok (.aload_n 1, 1) := by decide +kernel
theorem dX3_beginLike_147 : decode cX3_beginLike 147 = .ok (.getfield 21, 3) := by decide +kernel
theorem dX3_beginLike_150 : decode cX3_beginLike 150 = .ok (.getfield 131, 3) := by decide +kernel
theorem dX3_beginLike_153 : decode cX3_beginLike 153 = .ok (.invokevirtual 134, 3) := by decide +kernel
theorem dX3_beginLike_156 : decode cX3_beginLike 156 = .ok (.return_, 1) := by decide +kernel
theorem dX3_hasPage_0 : decode cX3_hasPage 0 = .ok (.iload_n 1, 1) := by decide +kernel
theorem dX3_hasPage_1 : decode cX3_hasPage 1 = .ok (.iconst 0, 1) := by decide +kernel
theorem dX3_hasPage_2 : decode cX3_hasPage 2 = .ok (.aload_n 0, 1) := by decide +kernel
theorem dX3_hasPage_3 : decode cX3_hasPage 3 = .ok (.getfield 91, 3) := by decide +kernel
theorem dX3_hasPage_6 : decode cX3_hasPage 6 = .ok (.iconst 1, 1) := by decide +kernel
theorem dX3_hasPage_7 : decode cX3_hasPage 7 = .ok (.isub, 1) := by decide +kernel
theorem dX3_hasPage_8 : decode cX3_hasPage 8 = .ok (.invokestatic 138, 3) := by decide +kernel
theorem dX3_hasPage_11 : decode cX3_hasPage 11 = .ok (.ireturn, 1) := by decide +kernel
theorem dX3_hasWorker_0 : decode cX3_hasWorker 0 = .ok (.iload_n 1, 1) := by decide +kernel
theorem dX3_hasWorker_1 : decode cX3_hasWorker 1 = .ok (.iconst 0, 1) := by decide +kernel
theorem dX3_hasWorker_2 : decode cX3_hasWorker 2 = .ok (.aload_n 0, 1) := by decide +kernel
theorem dX3_hasWorker_3 : decode cX3_hasWorker 3 = .ok (.getfield 94, 3) := by decide +kernel
theorem dX3_hasWorker_6 : decode cX3_hasWorker 6 = .ok (.iconst 1, 1) := by decide +kernel
theorem dX3_hasWorker_7 : decode cX3_hasWorker 7 = .ok (.isub, 1) := by decide +kernel
theorem dX3_hasWorker_8 : decode cX3_hasWorker 8 = .ok (.invokestatic 138, 3) := by decide +kernel
theorem dX3_hasWorker_11 : decode cX3_hasWorker 11 = .ok (.ireturn, 1) := by decide +kernel
theorem dX3_addPage_0 : decode cX3_addPage 0 = .ok (.aload_n 0, 1) := by decide +kernel
theorem dX3_addPage_1 : decode cX3_addPage 1 = .ok (.getfield 91, 3) := by decide +kernel
theorem dX3_addPage_4 : decode cX3_addPage 4 = .ok (.istore_n 2, 1) := by decide +kernel
theorem dX3_addPage_5 : decode cX3_addPage 5 = .ok (.aload_n 0, 1) := by decide +kernel
theorem dX3_addPage_6 : decode cX3_addPage 6 = .ok (.getfield 34, 3) := by decide +kernel
theorem dX3_addPage_9 : decode cX3_addPage 9 = .ok (.iload_n 2, 1) := by decide +kernel
theorem dX3_addPage_10 : decode cX3_addPage 10 = .ok (.aaload, 1) := by decide +kernel
theorem dX3_addPage_11 : decode cX3_addPage 11 = .ok (.iload_n 1, 1) := by decide +kernel
theorem dX3_addPage_12 : decode cX3_addPage 12 = .ok (.invokevirtual 142, 3) := by decide +kernel
theorem dX3_addPage_15 : decode cX3_addPage 15 = .ok (.aload_n 0, 1) := by decide +kernel
theorem dX3_addPage_16 : decode cX3_addPage 16 = .ok (.dup, 1) := by decide +kernel
theorem dX3_addPage_17 : decode cX3_addPage 17 = .ok (.getfield 91, 3) := by decide +kernel
theorem dX3_addPage_20 : decode cX3_addPage 20 = .ok (.iconst 1, 1) := by decide +kernel
theorem dX3_addPage_21 : decode cX3_addPage 21 = .ok (.iadd, 1) := by decide +kernel
theorem dX3_addPage_22 : decode cX3_addPage 22 = .ok (.putfield 91, 3) := by decide +kernel
theorem dX3_addPage_25 : decode cX3_addPage 25 = .ok (.iload_n 2, 1) := by decide +kernel
theorem dX3_addPage_26 : decode cX3_addPage 26 = .ok (.ireturn, 1) := by decide +kernel
theorem dX3_addWorker_0 : decode cX3_addWorker 0 = .ok (.aload_n 0, 1) := by decide +kernel
theorem dX3_addWorker_1 : decode cX3_addWorker 1 = .ok (.getfield 94, 3) := by decide +kernel
theorem dX3_addWorker_4 : decode cX3_addWorker 4 = .ok (.istore_n 2, 1) := by decide +kernel
theorem dX3_addWorker_5 : decode cX3_addWorker 5 = .ok (.aload_n 0, 1) := by decide +kernel
theorem dX3_addWorker_6 : decode cX3_addWorker 6 = .ok (.getfield 40, 3) := by decide +kernel
theorem dX3_addWorker_9 : decode cX3_addWorker 9 = .ok (.iload_n 2, 1) := by decide +kernel
theorem dX3_addWorker_10 : decode cX3_addWorker 10 = .ok (.aaload, 1) := by decide +kernel
theorem dX3_addWorker_11 : decode cX3_addWorker 11 = .ok (.iload_n 1, 1) := by decide +kernel
theorem dX3_addWorker_12 : decode cX3_addWorker 12 = .ok (.invokevirtual 144, 3) := by decide +kernel
theorem dX3_addWorker_15 : decode cX3_addWorker 15 = .ok (.aload_n 0, 1) := by decide +kernel
theorem dX3_addWorker_16 : decode cX3_addWorker 16 = .ok (.getfield 12, 3) := by decide +kernel
theorem dX3_addWorker_19 : decode cX3_addWorker 19 = .ok (.iload_n 1, 1) := by decide +kernel
theorem dX3_addWorker_20 : decode cX3_addWorker 20 = .ok (.iload_n 2, 1) := by decide +kernel
theorem dX3_addWorker_21 : decode cX3_addWorker 21 = .ok (.invokevirtual 145, 3) := by decide +kernel
theorem dX3_addWorker_24 : decode cX3_addWorker 24 = .ok (.aload_n 0, 1) := by decide +kernel
theorem dX3_addWorker_25 : decode cX3_addWorker 25 = .ok (.dup, 1) := by decide +kernel
theorem dX3_addWorker_26 : decode cX3_addWorker 26 = .ok (.getfield 94, 3) := by decide +kernel
theorem dX3_addWorker_29 : decode cX3_addWorker 29 = .ok (.iconst 1, 1) := by decide +kernel
theorem dX3_addWorker_30 : decode cX3_addWorker 30 = .ok (.iadd, 1) := by decide +kernel
theorem dX3_addWorker_31 : decode cX3_addWorker 31 = .ok (.putfield 94, 3) := by decide +kernel
theorem dX3_addWorker_34 : decode cX3_addWorker 34 = .ok (.iload_n 2, 1) := by decide +kernel
theorem dX3_addWorker_35 : decode cX3_addWorker 35 = .ok (.ireturn, 1) := by decide +kernel
theorem dX3_freeProcessors_0 : decode cX3_freeProcessors 0 = .ok (.aload_n 0, 1) := by decide +kernel
theorem dX3_freeProcessors_1 : decode cX3_freeProcessors 1 = .ok (.getfield 55, 3) := by decide +kernel
theorem dX3_freeProcessors_4 : decode cX3_freeProcessors 4 = .ok (.getfield 148, 3) := by decide +kernel
theorem dX3_freeProcessors_7 : decode cX3_freeProcessors 7 = .ok (.istore_n 2, 1) := by decide +kernel
theorem dX3_freeProcessors_8 : decode cX3_freeProcessors 8 = .ok (.iconst 0, 1) := by decide +kernel
theorem dX3_freeProcessors_9 : decode cX3_freeProcessors 9 = .ok (.istore_n 3, 1) := by decide +kernel
theorem dX3_freeProcessors_10 : decode cX3_freeProcessors 10 = .ok (.iload_n 3, 1) := by decide +kernel
theorem dX3_freeProcessors_11 : decode cX3_freeProcessors 11 = .ok (.aload_n 0, 1) := by decide +kernel
theorem dX3_freeProcessors_12 : decode cX3_freeProcessors 12 = .ok (.getfield 94, 3) := by decide +kernel
theorem dX3_freeProcessors_15 : decode cX3_freeProcessors 15 = .ok (.if_icmp .ge 37, 3) := by decide +kernel
theorem dX3_freeProcessors_18 : decode cX3_freeProcessors 18 = .ok (.aload_n 0, 1) := by decide +kernel
theorem dX3_freeProcessors_19 : decode cX3_freeProcessors 19 = .ok (.getfield 40, 3) := by decide +kernel
theorem dX3_freeProcessors_22 : decode cX3_freeProcessors 22 = .ok (.iload_n 3, 1) := by decide +kernel
theorem dX3_freeProcessors_23 : decode cX3_freeProcessors 23 = .ok (.aaload, 1) := by decide +kernel
theorem dX3_freeProcessors_24 : decode cX3_freeProcessors 24 = .ok (.getfield 122, 3) := by decide +kernel
theorem dX3_freeProcessors_27 : decode cX3_freeProcessors 27 = .ok (.iload_n 1, 1) := by decide +kernel
theorem dX3_freeProcessors_28 : decode cX3_freeProcessors 28 = .ok (.if_icmp .ne 18, 3) := by decide +kernel
theorem dX3_freeProcessors_31 : decode cX3_freeProcessors 31 = .ok (.aload_n 0, 1) := by decide +kernel
theorem dX3_freeProcessors_32 : decode cX3_freeProcessors 32 = .ok (.getfield 40, 3) := by decide +kernel
theorem dX3_freeProcessors_35 : decode cX3_freeProcessors 35 = .ok (.iload_n 3, 1) := by decide +kernel
theorem dX3_freeProcessors_36 : decode cX3_freeProcessors 36 = .ok (.aaload, 1) := by decide +kernel
theorem dX3_freeProcessors_37 : decode cX3_freeProcessors 37 = .ok (.getfield 153, 3) := by decide +kernel
theorem dX3_freeProcessors_40 : decode cX3_freeProcessors 40 = .ok (.ifCond .le 6, 3) := by decide +kernel
theorem dX3_freeProcessors_43 : decode cX3_freeProcessors 43 = .ok (.iinc 2 (-1), 3) := by decide +kernel
theorem dX3_freeProcessors_46 : decode cX3_freeProcessors 46 = .ok (.iinc 3 1, 3) := by decide +kernel
theorem dX3_freeProcessors_49 : decode cX3_freeProcessors 49 = .ok (.goto (-39), 3) := by decide +kernel
theorem dX3_freeProcessors_52 : decode cX3_freeProcessors 52 = .ok (.iload_n 2, 1) := by decide +kernel
theorem dX3_freeProcessors_53 : decode cX3_freeProcessors 53 = .ok (.ireturn, 1) := by decide +kernel
theorem dX3_hasRoom_0 : decode cX3_hasRoom 0 = .ok (.aload_n 0, 1) := by decide +kernel
theorem dX3_hasRoom_1 : decode cX3_hasRoom 1 = .ok (.getfield 44, 3) := by decide +kernel
theorem dX3_hasRoom_4 : decode cX3_hasRoom 4 = .ok (.iload_n 1, 1) := by decide +kernel
theorem dX3_hasRoom_5 : decode cX3_hasRoom 5 = .ok (.iaload, 1) := by decide +kernel
theorem dX3_hasRoom_6 : decode cX3_hasRoom 6 = .ok (.aload_n 0, 1) := by decide +kernel
theorem dX3_hasRoom_7 : decode cX3_hasRoom 7 = .ok (.getfield 55, 3) := by decide +kernel
theorem dX3_hasRoom_10 : decode cX3_hasRoom 10 = .ok (.getfield 156, 3) := by decide +kernel
theorem dX3_hasRoom_13 : decode cX3_hasRoom 13 = .ok (.if_icmp .ge 7, 3) := by decide +kernel
theorem dX3_hasRoom_16 : decode cX3_hasRoom 16 = .ok (.iconst 1, 1) := by decide +kernel
theorem dX3_hasRoom_17 : decode cX3_hasRoom 17 = .ok (.goto 4, 3) := by decide +kernel
theorem dX3_hasRoom_20 : decode cX3_hasRoom 20 = .ok (.iconst 0, 1) := by decide +kernel
theorem dX3_hasRoom_21 : decode cX3_hasRoom 21 = .ok (.ireturn, 1) := by decide +kernel
theorem dX3_fits_0 : decode cX3_fits 0 = .ok (.aload_n 1, 1) := by decide +kernel
theorem dX3_fits_1 : decode cX3_fits 1 = .ok (.getfield 115, 3) := by decide +kernel
theorem dX3_fits_4 : decode cX3_fits 4 = .ok (.iconst 2, 1) := by decide +kernel
theorem dX3_fits_5 : decode cX3_fits 5 = .ok (.if_icmp .ne 10, 3) := by decide +kernel
theorem dX3_fits_8 : decode cX3_fits 8 = .ok (.aload_n 0, 1) := by decide +kernel
theorem dX3_fits_9 : decode cX3_fits 9 = .ok (.invokevirtual 159, 3) := by decide +kernel
theorem dX3_fits_12 : decode cX3_fits 12 = .ok (.goto 8, 3) := by decide +kernel
theorem dX3_fits_15 : decode cX3_fits 15 = .ok (.aload_n 0, 1) := by decide +kernel
theorem dX3_fits_16 : decode cX3_fits 16 = .ok (.iload_n 2, 1) := by decide +kernel
theorem dX3_fits_17 : decode cX3_fits 17 = .ok (.invokevirtual 163, 3) := by decide +kernel
theorem dX3_fits_20 : decode cX3_fits 20 = .ok (.ireturn, 1) := by decide +kernel
theorem dX3_allHaveRoom_0 : decode cX3_allHaveRoom 0 = .ok (.iconst 0, 1) := by decide +kernel
theorem dX3_allHaveRoom_1 : decode cX3_allHaveRoom 1 = .ok (.istore_n 1, 1) := by decide +kernel
theorem dX3_allHaveRoom_2 : decode cX3_allHaveRoom 2 = .ok (.iload_n 1, 1) := by decide +kernel
theorem dX3_allHaveRoom_3 : decode cX3_allHaveRoom 3 = .ok (.aload_n 0, 1) := by decide +kernel
theorem dX3_allHaveRoom_4 : decode cX3_allHaveRoom 4 = .ok (.getfield 55, 3) := by decide +kernel
theorem dX3_allHaveRoom_7 : decode cX3_allHaveRoom 7 = .ok (.getfield 167, 3) := by decide +kernel
theorem dX3_allHaveRoom_10 : decode cX3_allHaveRoom 10 = .ok (.if_icmp .ge 27, 3) := by decide +kernel
theorem dX3_allHaveRoom_13 : decode cX3_allHaveRoom 13 = .ok (.aload_n 0, 1) := by decide +kernel
theorem dX3_allHaveRoom_14 : decode cX3_allHaveRoom 14 = .ok (.getfield 44, 3) := by decide +kernel
theorem dX3_allHaveRoom_17 : decode cX3_allHaveRoom 17 = .ok (.iload_n 1, 1) := by decide +kernel
theorem dX3_allHaveRoom_18 : decode cX3_allHaveRoom 18 = .ok (.iaload, 1) := by decide +kernel
theorem dX3_allHaveRoom_19 : decode cX3_allHaveRoom 19 = .ok (.aload_n 0, 1) := by decide +kernel
theorem dX3_allHaveRoom_20 : decode cX3_allHaveRoom 20 = .ok (.getfield 55, 3) := by decide +kernel
theorem dX3_allHaveRoom_23 : decode cX3_allHaveRoom 23 = .ok (.getfield 156, 3) := by decide +kernel
theorem dX3_allHaveRoom_26 : decode cX3_allHaveRoom 26 = .ok (.if_icmp .lt 5, 3) := by decide +kernel
theorem dX3_allHaveRoom_29 : decode cX3_allHaveRoom 29 = .ok (.iconst 0, 1) := by decide +kernel
theorem dX3_allHaveRoom_30 : decode cX3_allHaveRoom 30 = .ok (.ireturn, 1) := by decide +kernel
theorem dX3_allHaveRoom_31 : decode cX3_allHaveRoom 31 = .ok (.iinc 1 1, 3) := by decide +kernel
theorem dX3_allHaveRoom_34 : decode cX3_allHaveRoom 34 = .ok (.goto (-32), 3) := by decide +kernel
theorem dX3_allHaveRoom_37 : decode cX3_allHaveRoom 37 = .ok (.iconst 1, 1) := by decide +kernel
theorem dX3_allHaveRoom_38 : decode cX3_allHaveRoom 38 = .ok (.ireturn, 1) := by decide +kernel
theorem dX3_lay_0 : decode cX3_lay 0 = .ok (.aload_n 1, 1) := by decide +kernel
theorem dX3_lay_1 : decode cX3_lay 1 = .ok (.iload_n 2, 1) := by decide +kernel
theorem dX3_lay_2 : decode cX3_lay 2 = .ok (.putfield 170, 3) := by decide +kernel
theorem dX3_lay_5 : decode cX3_lay 5 = .ok (.aload_n 1, 1) := by decide +kernel
theorem dX3_lay_6 : decode cX3_lay 6 = .ok (.getfield 115, 3) := by decide +kernel
theorem dX3_lay_9 : decode cX3_lay 9 = .ok (.iconst 2, 1) := by decide +kernel
theorem dX3_lay_10 : decode cX3_lay 10 = .ok (.if_icmp .eq 14, 3) := by decide +kernel
theorem dX3_lay_13 : decode cX3_lay 13 = .ok (.aload_n 0, 1) := by decide +kernel
theorem dX3_lay_14 : decode cX3_lay 14 = .ok (.getfield 44, 3) := by decide +kernel
theorem dX3_lay_17 : decode cX3_lay 17 = .ok (.iload_n 2, 1) := by decide +kernel
theorem dX3_lay_18 : decode cX3_lay 18 = .ok (.dup2, 1) := by decide +kernel
theorem dX3_lay_19 : decode cX3_lay 19 = .ok (.iaload, 1) := by decide +kernel
theorem dX3_lay_20 : decode cX3_lay 20 = .ok (.iconst 1, 1) := by decide +kernel
theorem dX3_lay_21 : decode cX3_lay 21 = .ok (.iadd, 1) := by decide +kernel
theorem dX3_lay_22 : decode cX3_lay 22 = .ok (.iastore, 1) := by decide +kernel
theorem dX3_lay_23 : decode cX3_lay 23 = .ok (.return_, 1) := by decide +kernel
theorem dX3_lay_24 : decode cX3_lay 24 = .ok (.iconst 0, 1) := by decide +kernel
theorem dX3_lay_25 : decode cX3_lay 25 = .ok (.istore_n 3, 1) := by decide +kernel
theorem dX3_lay_26 : decode cX3_lay 26 = .ok (.iload_n 3, 1) := by decide +kernel
theorem dX3_lay_27 : decode cX3_lay 27 = .ok (.aload_n 0, 1) := by decide +kernel
theorem dX3_lay_28 : decode cX3_lay 28 = .ok (.getfield 55, 3) := by decide +kernel
theorem dX3_lay_31 : decode cX3_lay 31 = .ok (.getfield 167, 3) := by decide +kernel
theorem dX3_lay_34 : decode cX3_lay 34 = .ok (.if_icmp .ge 19, 3) := by decide +kernel
theorem dX3_lay_37 : decode cX3_lay 37 = .ok (.aload_n 0, 1) := by decide +kernel
theorem dX3_lay_38 : decode cX3_lay 38 = .ok (.getfield 44, 3) := by decide +kernel
theorem dX3_lay_41 : decode cX3_lay 41 = .ok (.iload_n 3, 1) := by decide +kernel
theorem dX3_lay_42 : decode cX3_lay 42 = .ok (.dup2, 1) := by decide +kernel
theorem dX3_lay_43 : decode cX3_lay 43 = .ok (.iaload, 1) := by decide +kernel
theorem dX3_lay_44 : decode cX3_lay 44 = .ok (.iconst 1, 1) := by decide +kernel
theorem dX3_lay_45 : decode cX3_lay 45 = .ok (.iadd, 1) := by decide +kernel
theorem dX3_lay_46 : decode cX3_lay 46 = .ok (.iastore, 1) := by decide +kernel
theorem dX3_lay_47 : decode cX3_lay 47 = .ok (.iinc 3 1, 3) := by decide +kernel
theorem dX3_lay_50 : decode cX3_lay 50 = .ok (.goto (-24), 3) := by decide +kernel
theorem dX3_lay_53 : decode cX3_lay 53 = .ok (.return_, 1) := by decide +kernel
theorem dX3_doTick_0 : decode cX3_doTick 0 = .ok (.aload_n 0, 1) := by decide +kernel
theorem dX3_doTick_1 : decode cX3_doTick 1 = .ok (.getfield 64, 3) := by decide +kernel
theorem dX3_doTick_4 : decode cX3_doTick 4 = .ok (.invokevirtual 173, 3) := by decide +kernel
theorem dX3_doTick_7 : decode cX3_doTick 7 = .ok (.iconst 0, 1) := by decide +kernel
theorem dX3_doTick_8 : decode cX3_doTick 8 = .ok (.istore_n 1, 1) := by decide +kernel
theorem dX3_doTick_9 : decode cX3_doTick 9 = .ok (.iload_n 1, 1) := by decide +kernel
theorem dX3_doTick_10 : decode cX3_doTick 10 = .ok (.aload_n 0, 1) := by decide +kernel
theorem dX3_doTick_11 : decode cX3_doTick 11 = .ok (.getfield 55, 3) := by decide +kernel
theorem dX3_doTick_14 : decode cX3_doTick 14 = .ok (.getfield 167, 3) := by decide +kernel
theorem dX3_doTick_17 : decode cX3_doTick 17 = .ok (.if_icmp .ge 14, 3) := by decide +kernel
theorem dX3_doTick_20 : decode cX3_doTick 20 = .ok (.aload_n 0, 1) := by decide +kernel
theorem dX3_doTick_21 : decode cX3_doTick 21 = .ok (.iload_n 1, 1) := by decide +kernel
theorem dX3_doTick_22 : decode cX3_doTick 22 = .ok (.invokevirtual 176, 3) := by decide +kernel
theorem dX3_doTick_25 : decode cX3_doTick 25 = .ok (.iinc 1 1, 3) := by decide +kernel
theorem dX3_doTick_28 : decode cX3_doTick 28 = .ok (.goto (-19), 3) := by decide +kernel
theorem dX3_doTick_31 : decode cX3_doTick 31 = .ok (.aload_n 0, 1) := by decide +kernel
theorem dX3_doTick_32 : decode cX3_doTick 32 = .ok (.invokevirtual 179, 3) := by decide +kernel
theorem dX3_doTick_35 : decode cX3_doTick 35 = .ok (.aload_n 0, 1) := by decide +kernel
theorem dX3_doTick_36 : decode cX3_doTick 36 = .ok (.getfield 21, 3) := by decide +kernel
theorem dX3_doTick_39 : decode cX3_doTick 39 = .ok (.getfield 182, 3) := by decide +kernel
theorem dX3_doTick_42 : decode cX3_doTick 42 = .ok (.ifCond .le 22, 3) := by decide +kernel
theorem dX3_doTick_45 : decode cX3_doTick 45 = .ok (.aload_n 0, 1) := by decide +kernel
theorem dX3_doTick_46 : decode cX3_doTick 46 = .ok (.getfield 51, 3) := by decide +kernel
theorem dX3_doTick_49 : decode cX3_doTick 49 = .ok (.aload_n 0, 1) := by decide +kernel
theorem dX3_doTick_50 : decode cX3_doTick 50 = .ok (.getfield 21, 3) := by decide +kernel
theorem dX3_doTick_53 : decode cX3_doTick 53 = .ok (.getfield 182, 3) := by decide +kernel
theorem dX3_doTick_56 : decode cX3_doTick 56 = .ok (.irem, 1) := by decide +kernel
theorem dX3_doTick_57 : decode cX3_doTick 57 = .ok (.ifCond .ne 7, 3) := by decide +kernel
theorem dX3_doTick_60 : decode cX3_doTick 60 = .ok (.aload_n 0, 1) := by decide +kernel
theorem dX3_doTick_61 : decode cX3_doTick 61 = .ok (.invokevirtual 185, 3) := by decide +kernel
theorem dX3_doTick_64 : decode cX3_doTick 64 = .ok (.aload_n 0, 1) := by decide +kernel
theorem dX3_doTick_65 : decode cX3_doTick 65 = .ok (.dup, 1) := by decide +kernel
theorem dX3_doTick_66 : decode cX3_doTick 66 = .ok (.getfield 51, 3) := by decide +kernel
theorem dX3_doTick_69 : decode cX3_doTick 69 = .ok (.iconst 1, 1) := by decide +kernel
theorem dX3_doTick_70 : decode cX3_doTick 70 = .ok (.iadd, 1) := by decide +kernel
theorem dX3_doTick_71 : decode cX3_doTick 71 = .ok (.putfield 51, 3) := by decide +kernel
theorem dX3_doTick_74 : decode cX3_doTick 74 = .ok (.return_, 1) := by decide +kernel
theorem dX3_serve_0 : decode cX3_serve 0 = .ok (.aload_n 0, 1) := by decide +kernel
theorem dX3_serve_1 : decode cX3_serve 1 = .ok (.iload_n 1, 1) := by decide +kernel
theorem dX3_serve_2 : decode cX3_serve 2 = .ok (.invokevirtual 188, 3) := by decide +kernel
theorem dX3_serve_5 : decode cX3_serve 5 = .ok (.istore_n 2, 1) := by decide +kernel
theorem dX3_serve_6 : decode cX3_serve 6 = .ok (.iconst 0, 1) := by decide +kernel
theorem dX3_serve_7 : decode cX3_serve 7 = .ok (.istore_n 3, 1) := by decide +kernel
theorem dX3_serve_8 : decode cX3_serve 8 = .ok (.iload_n 3, 1) := by decide +kernel
theorem dX3_serve_9 : decode cX3_serve 9 = .ok (.aload_n 0, 1) := by decide +kernel
theorem dX3_serve_10 : decode cX3_serve 10 = .ok (.getfield 12, 3) := by decide +kernel
theorem dX3_serve_13 : decode cX3_serve 13 = .ok (.getfield 191, 3) := by decide +kernel
theorem dX3_serve_16 : decode cX3_serve 16 = .ok (.iload_n 1, 1) := by decide +kernel
theorem dX3_serve_17 : decode cX3_serve 17 = .ok (.iaload, 1) := by decide +kernel
theorem dX3_serve_18 : decode cX3_serve 18 = .ok (.if_icmp .ge 49, 3) := by decide +kernel
theorem dX3_serve_21 : decode cX3_serve 21 = .ok (.iload_n 2, 1) := by decide +kernel
theorem dX3_serve_22 : decode cX3_serve 22 = .ok (.ifCond .le 45, 3) := by decide +kernel
theorem dX3_serve_25 : decode cX3_serve 25 = .ok (.aload_n 0, 1) := by decide +kernel
theorem dX3_serve_26 : decode cX3_serve 26 = .ok (.getfield 12, 3) := by decide +kernel
theorem dX3_serve_29 : decode cX3_serve 29 = .ok (.iload_n 1, 1) := by decide +kernel
theorem dX3_serve_30 : decode cX3_serve 30 = .ok (.iload_n 3, 1) := by decide +kernel
theorem dX3_serve_31 : decode cX3_serve 31 = .ok (.invokevirtual 194, 3) := by decide +kernel
theorem dX3_serve_34 : decode cX3_serve 34 = .ok (.istore 4, 2) := by decide +kernel
theorem dX3_serve_36 : decode cX3_serve 36 = .ok (.aload_n 0, 1) := by decide +kernel
theorem dX3_serve_37 : decode cX3_serve 37 = .ok (.getfield 40, 3) := by decide +kernel
theorem dX3_serve_40 : decode cX3_serve 40 = .ok (.iload 4, 2) := by decide +kernel
theorem dX3_serve_42 : decode cX3_serve 42 = .ok (.aaload, 1) := by decide +kernel
theorem dX3_serve_43 : decode cX3_serve 43 = .ok (.invokevirtual 198, 3) := by decide +kernel
theorem dX3_serve_46 : decode cX3_serve 46 = .ok (.ifCond .eq 15, 3) := by decide +kernel
theorem dX3_serve_49 : decode cX3_serve 49 = .ok (.aload_n 0, 1) := by decide +kernel
theorem dX3_serve_50 : decode cX3_serve 50 = .ok (.iload 4, 2) := by decide +kernel
theorem dX3_serve_52 : decode cX3_serve 52 = .ok (.invokevirtual 201, 3) := by decide +kernel
theorem dX3_serve_55 : decode cX3_serve 55 = .ok (.ifCond .eq 6, 3) := by decide +kernel
theorem dX3_serve_58 : decode cX3_serve 58 = .ok (.iinc 2 (-1), 3) := by decide +kernel
theorem dX3_serve_61 : decode cX3_serve 61 = .ok (.iinc 3 1, 3) := by decide +kernel
theorem dX3_serve_64 : decode cX3_serve 64 = .ok (.goto (-56), 3) := by decide +kernel
theorem dX3_serve_67 : decode cX3_serve 67 = .ok (.return_, 1) := by decide +kernel
theorem dX3_finishAccesses_0 : decode cX3_finishAccesses 0 = .ok (.iconst 0, 1) := by decide +kernel
theorem dX3_finishAccesses_1 : decode cX3_finishAccesses 1 = .ok (.istore_n 1, 1) := by decide +kernel
theorem dX3_finishAccesses_2 : decode cX3_finishAccesses 2 = .ok (.iload_n 1, 1) := by decide +kernel
theorem dX3_finishAccesses_3 : decode cX3_finishAccesses 3 = .ok (.aload_n 0, 1) := by decide +kernel
theorem dX3_finishAccesses_4 : decode cX3_finishAccesses 4 = .ok (.getfield 94, 3) := by decide +kernel
theorem dX3_finishAccesses_7 : decode cX3_finishAccesses 7 = .ok (.if_icmp .ge 64, 3) := by decide +kernel
theorem dX3_finishAccesses_10 : decode cX3_finishAccesses 10 = .ok (.aload_n 0, 1) := by decide +kernel
theorem dX3_finishAccesses_11 : decode cX3_finishAccesses 11 = .ok (.getfield 40, 3) := by decide +kernel
theorem dX3_finishAccesses_14 : decode cX3_finishAccesses 14 = .ok (.iload_n 1, 1) := by decide +kernel
theorem dX3_finishAccesses_15 : decode cX3_finishAccesses 15 = .ok (.aaload, 1) := by decide +kernel
theorem dX3_finishAccesses_16 : decode cX3_finishAccesses 16 = .ok (.astore_n 2, 1) := by decide +kernel
theorem dX3_finishAccesses_17 : decode cX3_finishAccesses 17 = .ok (.aload_n 2, 1) := by decide +kernel
theorem dX3_finishAccesses_18 : decode cX3_finishAccesses 18 = .ok (.getfield 153, 3) := by decide +kernel
theorem dX3_finishAccesses_21 : decode cX3_finishAccesses 21 = .ok (.ifCond .le 44, 3) := by decide +kernel
theorem dX3_finishAccesses_24 : decode cX3_finishAccesses 24 = .ok (.aload_n 2, 1) := by decide +kernel
theorem dX3_finishAccesses_25 : decode cX3_finishAccesses 25 = .ok (.dup, 1) := by decide +kernel
theorem dX3_finishAccesses_26 : decode cX3_finishAccesses 26 = .ok (.getfield 153, 3) := by decide +kernel
theorem dX3_finishAccesses_29 : decode cX3_finishAccesses 29 = .ok (.iconst 1, 1) := by decide +kernel
theorem dX3_finishAccesses_30 : decode cX3_finishAccesses 30 = .ok (.isub, 1) := by decide +kernel
theorem dX3_finishAccesses_31 : decode cX3_finishAccesses 31 = .ok (.putfield 153, 3) := by decide +kernel
theorem dX3_finishAccesses_34 : decode cX3_finishAccesses 34 = .ok (.aload_n 2, 1) := by decide +kernel
theorem dX3_finishAccesses_35 : decode cX3_finishAccesses 35 = .ok (.getfield 153, 3) := by decide +kernel
theorem dX3_finishAccesses_38 : decode cX3_finishAccesses 38 = .ok (.ifCond .ne 27, 3) := by decide +kernel
theorem dX3_finishAccesses_41 : decode cX3_finishAccesses 41 = .ok (.aload_n 0, 1) := by decide +kernel
theorem dX3_finishAccesses_42 : decode cX3_finishAccesses 42 = .ok (.getfield 12, 3) := by decide +kernel
theorem dX3_finishAccesses_45 : decode cX3_finishAccesses 45 = .ok (.aload_n 2, 1) := by decide +kernel
theorem dX3_finishAccesses_46 : decode cX3_finishAccesses 46 = .ok (.getfield 122, 3) := by decide +kernel
theorem dX3_finishAccesses_49 : decode cX3_finishAccesses 49 = .ok (.iload_n 1, 1) := by decide +kernel
theorem dX3_finishAccesses_50 : decode cX3_finishAccesses 50 = .ok (.invokevirtual 204, 3) := by decide +kernel
theorem dX3_finishAccesses_53 : decode cX3_finishAccesses 53 = .ok (.aload_n 0, 1) := by decide +kernel
theorem dX3_finishAccesses_54 : decode cX3_finishAccesses 54 = .ok (.getfield 12, 3) := by decide +kernel
theorem dX3_finishAccesses_57 : decode cX3_finishAccesses 57 = .ok (.aload_n 2, 1) := by decide +kernel
theorem dX3_finishAccesses_58 : decode cX3_finishAccesses 58 = .ok (.getfield 122, 3) := by decide +kernel
theorem dX3_finishAccesses_61 : decode cX3_finishAccesses 61 = .ok (.iload_n 1, 1) := by decide +kernel
theorem dX3_finishAccesses_62 : decode cX3_finishAccesses 62 = .ok (.invokevirtual 145, 3) := by decide +kernel
theorem dX3_finishAccesses_65 : decode cX3_finishAccesses 65 = .ok (.iinc 1 1, 3) := by decide +kernel
theorem dX3_finishAccesses_68 : decode cX3_finishAccesses 68 = .ok (.goto (-66), 3) := by decide +kernel
theorem dX3_finishAccesses_71 : decode cX3_finishAccesses 71 = .ok (.return_, 1) := by decide +kernel
theorem dX3_hidePages_0 : decode cX3_hidePages 0 = .ok (.iconst 0, 1) := by decide +kernel
theorem dX3_hidePages_1 : decode cX3_hidePages 1 = .ok (.istore_n 1, 1) := by decide +kernel
theorem dX3_hidePages_2 : decode cX3_hidePages 2 = .ok (.iload_n 1, 1) := by decide +kernel
theorem dX3_hidePages_3 : decode cX3_hidePages 3 = .ok (.aload_n 0, 1) := by decide +kernel
theorem dX3_hidePages_4 : decode cX3_hidePages 4 = .ok (.getfield 91, 3) := by decide +kernel
theorem dX3_hidePages_7 : decode cX3_hidePages 7 = .ok (.if_icmp .ge 32, 3) := by decide +kernel
theorem dX3_hidePages_10 : decode cX3_hidePages 10 = .ok (.aload_n 0, 1) := by decide +kernel
theorem dX3_hidePages_11 : decode cX3_hidePages 11 = .ok (.getfield 34, 3) := by decide +kernel
theorem dX3_hidePages_14 : decode cX3_hidePages 14 = .ok (.iload_n 1, 1) := by decide +kernel
theorem dX3_hidePages_15 : decode cX3_hidePages 15 = .ok (.aaload, 1) := by decide +kernel
theorem dX3_hidePages_16 : decode cX3_hidePages 16 = .ok (.getfield 170, 3) := by decide +kernel
theorem dX3_hidePages_19 : decode cX3_hidePages 19 = .ok (.iconst (-1), 1) := by decide +kernel
theorem dX3_hidePages_20 : decode cX3_hidePages 20 = .ok (.if_icmp .eq 13, 3) := by decide +kernel
theorem dX3_hidePages_23 : decode cX3_hidePages 23 = .ok (.aload_n 0, 1) := by decide +kernel
theorem dX3_hidePages_24 : decode cX3_hidePages 24 = .ok (.getfield 34, 3) := by decide +kernel
theorem dX3_hidePages_27 : decode cX3_hidePages 27 = .ok (.iload_n 1, 1) := by decide +kernel
theorem dX3_hidePages_28 : decode cX3_hidePages 28 = .ok (.aaload, 1) := by decide +kernel
theorem dX3_hidePages_29 : decode cX3_hidePages 29 = .ok (.iconst 1, 1) := by decide +kernel
theorem dX3_hidePages_30 : decode cX3_hidePages 30 = .ok (.putfield 207, 3) := by decide +kernel
theorem dX3_hidePages_33 : decode cX3_hidePages 33 = .ok (.iinc 1 1, 3) := by decide +kernel
theorem dX3_hidePages_36 : decode cX3_hidePages 36 = .ok (.goto (-34), 3) := by decide +kernel
theorem dX3_hidePages_39 : decode cX3_hidePages 39 = .ok (.return_, 1) := by decide +kernel
theorem dX3_goes_0 : decode cX3_goes 0 = .ok (.aload_n 0, 1) := by decide +kernel
theorem dX3_goes_1 : decode cX3_goes 1 = .ok (.getfield 40, 3) := by decide +kernel
theorem dX3_goes_4 : decode cX3_goes 4 = .ok (.iload_n 1, 1) := by decide +kernel
theorem dX3_goes_5 : decode cX3_goes 5 = .ok (.aaload, 1) := by decide +kernel
theorem dX3_goes_6 : decode cX3_goes 6 = .ok (.astore_n 2, 1) := by decide +kernel
theorem dX3_goes_7 : decode cX3_goes 7 = .ok (.aload_n 0, 1) := by decide +kernel
theorem dX3_goes_8 : decode cX3_goes 8 = .ok (.getfield 28, 3) := by decide +kernel
theorem dX3_goes_11 : decode cX3_goes 11 = .ok (.iload_n 1, 1) := by decide +kernel
theorem dX3_goes_12 : decode cX3_goes 12 = .ok (.aload_n 2, 1) := by decide +kernel
theorem dX3_goes_13 : decode cX3_goes 13 = .ok (.invokevirtual 211, 3) := by decide +kernel
theorem dX3_goes_16 : decode cX3_goes 16 = .ok (.aload_n 0, 1) := by decide +kernel
theorem dX3_goes_17 : decode cX3_goes 17 = .ok (.invokevirtual 214, 3) := by decide +kernel
theorem dX3_goes_20 : decode cX3_goes 20 = .ok (.ifCond .ne 20, 3) := by decide +kernel
theorem dX3_goes_23 : decode cX3_goes 23 = .ok (.aload_n 2, 1) := by decide +kernel
theorem dX3_goes_24 : decode cX3_goes 24 = .ok (.iconst 1, 1) := by decide +kernel
theorem dX3_goes_25 : decode cX3_goes 25 = .ok (.putfield 217, 3) := by decide +kernel
theorem dX3_goes_28 : decode cX3_goes 28 = .ok (.aload_n 0, 1) := by decide +kernel
theorem dX3_goes_29 : decode cX3_goes 29 = .ok (.dup, 1) := by decide +kernel
theorem dX3_goes_30 : decode cX3_goes 30 = .ok (.getfield 112, 3) := by decide +kernel
theorem dX3_goes_33 : decode cX3_goes 33 = .ok (.iconst 1, 1) := by decide +kernel
theorem dX3_goes_34 : decode cX3_goes 34 = .ok (.iadd, 1) := by decide +kernel
theorem dX3_goes_35 : decode cX3_goes 35 = .ok (.putfield 112, 3) := by decide +kernel
theorem dX3_goes_38 : decode cX3_goes 38 = .ok (.iconst 0, 1) := by decide +kernel
theorem dX3_goes_39 : decode cX3_goes 39 = .ok (.ireturn, 1) := by decide +kernel
theorem dX3_goes_40 : decode cX3_goes 40 = .ok (.aload_n 0, 1) := by decide +kernel
theorem dX3_goes_41 : decode cX3_goes 41 = .ok (.getfield 64, 3) := by decide +kernel
theorem dX3_goes_44 : decode cX3_goes 44 = .ok (.aload_n 0, 1) := by decide +kernel
theorem dX3_goes_45 : decode cX3_goes 45 = .ok (.getfield 28, 3) := by decide +kernel
theorem dX3_goes_48 : decode cX3_goes 48 = .ok (.getfield 220, 3) := by decide +kernel
theorem dX3_goes_51 : decode cX3_goes 51 = .ok (.aload_n 0, 1) := by decide +kernel
theorem dX3_goes_52 : decode cX3_goes 52 = .ok (.getfield 28, 3) := by decide +kernel
theorem dX3_goes_55 : decode cX3_goes 55 = .ok (.getfield 221, 3) := by decide +kernel
theorem dX3_goes_58 : decode cX3_goes 58 = .ok (.invokevirtual 224, 3) := by decide +kernel
theorem dX3_goes_61 : decode cX3_goes 61 = .ok (.ifCond .eq 15, 3) := by decide +kernel
theorem dX3_goes_64 : decode cX3_goes 64 = .ok (.aload_n 2, 1) := by decide +kernel
theorem dX3_goes_65 : decode cX3_goes 65 = .ok (.dup, 1) := by decide +kernel
theorem dX3_goes_66 : decode cX3_goes 66 = .ok (.getfield 228, 3) := by decide +kernel
theorem dX3_goes_69 : decode cX3_goes 69 = .ok (.iconst 1, 1) := by decide +kernel
theorem dX3_goes_70 : decode cX3_goes 70 = .ok (.iadd, 1) := by decide +kernel
theorem dX3_goes_71 : decode cX3_goes 71 = .ok (.putfield 228, 3) := by decide +kernel
theorem dX3_goes_74 : decode cX3_goes 74 = .ok (.iconst 0, 1) := by decide +kernel
theorem dX3_goes_75 : decode cX3_goes 75 = .ok (.ireturn, 1) := by decide +kernel
theorem dX3_goes_76 : decode cX3_goes 76 = .ok (.aload_n 0, 1) := by decide +kernel
theorem dX3_goes_77 : decode cX3_goes 77 = .ok (.getfield 34, 3) := by decide +kernel
theorem dX3_goes_80 : decode cX3_goes 80 = .ok (.aload_n 0, 1) := by decide +kernel
theorem dX3_goes_81 : decode cX3_goes 81 = .ok (.getfield 28, 3) := by decide +kernel
theorem dX3_goes_84 : decode cX3_goes 84 = .ok (.getfield 231, 3) := by decide +kernel
theorem dX3_goes_87 : decode cX3_goes 87 = .ok (.aaload, 1) := by decide +kernel
theorem dX3_goes_88 : decode cX3_goes 88 = .ok (.astore_n 3, 1) := by decide +kernel
theorem dX3_goes_89 : decode cX3_goes 89 = .ok (.aload_n 0, 1) := by decide +kernel
theorem dX3_goes_90 : decode cX3_goes 90 = .ok (.getfield 64, 3) := by decide +kernel
theorem dX3_goes_93 : decode cX3_goes 93 = .ok (.aload_n 0, 1) := by decide +kernel
theorem dX3_goes_94 : decode cX3_goes 94 = .ok (.getfield 28, 3) := by decide +kernel
theorem dX3_goes_97 : decode cX3_goes 97 = .ok (.getfield 220, 3) := by decide +kernel
theorem dX3_goes_100 : decode cX3_goes 100 = .ok (.aload_n 0, 1) := by decide +kernel
theorem dX3_goes_101 : decode cX3_goes 101 = .ok (.getfield 28, 3) := by decide +kernel
theorem dX3_goes_104 : decode cX3_goes 104 = .ok (.getfield 221, 3) := by decide +kernel
theorem dX3_goes_107 : decode cX3_goes 107 = .ok (.invokevirtual 234, 3) := by decide +kernel
theorem dX3_goes_110 : decode cX3_goes 110 = .ok (.aload_n 0, 1) := by decide +kernel
theorem dX3_goes_111 : decode cX3_goes 111 = .ok (.getfield 28, 3) := by decide +kernel
theorem dX3_goes_114 : decode cX3_goes 114 = .ok (.iconst 1, 1) := by decide +kernel
theorem dX3_goes_115 : decode cX3_goes 115 = .ok (.iconst 2, 1) := by decide +kernel
theorem dX3_goes_116 : decode cX3_goes 116 = .ok (.aload_n 0, 1) := by decide +kernel
theorem dX3_goes_117 : decode cX3_goes 117 = .ok (.getfield 55, 3) := by decide +kernel
theorem dX3_goes_120 : decode cX3_goes 120 = .ok (.aload_n 0, 1) := by decide +kernel
theorem dX3_goes_121 : decode cX3_goes 121 = .ok (.getfield 28, 3) := by decide +kernel
theorem dX3_goes_124 : decode cX3_goes 124 = .ok (.getfield 220, 3) := by decide +kernel
theorem dX3_goes_127 : decode cX3_goes 127 = .ok (.aload_n 0, 1) := by decide +kernel
theorem dX3_goes_128 : decode cX3_goes 128 = .ok (.getfield 28, 3) := by decide +kernel
theorem dX3_goes_131 : decode cX3_goes 131 = .ok (.getfield 221, 3) := by decide +kernel
theorem dX3_goes_134 : decode cX3_goes 134 = .ok (.invokevirtual 237, 3) := by decide +kernel
theorem dX3_goes_137 : decode cX3_goes 137 = .ok (.imul, 1) := by decide +kernel
theorem dX3_goes_138 : decode cX3_goes 138 = .ok (.iadd, 1) := by decide +kernel
theorem dX3_goes_139 : decode cX3_goes 139 = .ok (.putfield 240, 3) := by decide +kernel
theorem dX3_goes_142 : decode cX3_goes 142 = .ok (.aload_n 3, 1) := by decide +kernel
theorem dX3_goes_143 : decode cX3_goes 143 = .ok (.getfield 207, 3) := by decide +kernel
theorem dX3_goes_146 : decode cX3_goes 146 = .ok (.ifCond .eq 8, 3) := by decide +kernel
theorem dX3_goes_149 : decode cX3_goes 149 = .ok (.aload_n 0, 1) := by decide +kernel
theorem dX3_goes_150 : decode cX3_goes 150 = .ok (.aload_n 3, 1) := by decide +kernel
theorem dX3_goes_151 : decode cX3_goes 151 = .ok (.invokevirtual 241, 3) := by decide +kernel
theorem dX3_goes_154 : decode cX3_goes 154 = .ok (.aload_n 0, 1) := by decide +kernel
theorem dX3_goes_155 : decode cX3_goes 155 = .ok (.aload_n 3, 1) := by decide +kernel
theorem dX3_goes_156 : decode cX3_goes 156 = .ok (.aload_n 2, 1) := by decide +kernel
theorem dX3_goes_157 : decode cX3_goes 157 = .ok (.invokevirtual 245, 3) := by decide +kernel
theorem dX3_goes_160 : decode cX3_goes 160 = .ok (.iconst 1, 1) := by decide +kernel
theorem dX3_goes_161 : decode cX3_goes 161 = .ok (.ireturn, 1) := by decide +kernel
theorem dX3_canBeReached_0 : decode cX3_canBeReached 0 = .ok (.aload_n 0, 1) := by decide +kernel
theorem dX3_canBeReached_1 : decode cX3_canBeReached 1 = .ok (.aload_n 0, 1) := by decide +kernel
theorem dX3_canBeReached_2 : decode cX3_canBeReached 2 = .ok (.getfield 28, 3) := by decide +kernel
theorem dX3_canBeReached_5 : decode cX3_canBeReached 5 = .ok (.getfield 231, 3) := by decide +kernel
theorem dX3_canBeReached_8 : decode cX3_canBeReached 8 = .ok (.invokevirtual 249, 3) := by decide +kernel
theorem dX3_canBeReached_11 : decode cX3_canBeReached 11 = .ok (.ifCond .eq 18, 3) := by decide +kernel
theorem dX3_canBeReached_14 : decode cX3_canBeReached 14 = .ok (.aload_n 0, 1) := by decide +kernel
theorem dX3_canBeReached_15 : decode cX3_canBeReached 15 = .ok (.getfield 28, 3) := by decide +kernel
theorem dX3_canBeReached_18 : decode cX3_canBeReached 18 = .ok (.getfield 252, 3) := by decide +kernel
theorem dX3_canBeReached_21 : decode cX3_canBeReached 21 = .ok (.iconst 0, 1) := by decide +kernel
theorem dX3_canBeReached_22 : decode cX3_canBeReached 22 = .ok (.iconst 3, 1) := by decide +kernel
theorem dX3_canBeReached_23 : decode cX3_canBeReached 23 = .ok (.invokestatic 138, 3) := by decide +kernel
theorem dX3_canBeReached_26 : decode cX3_canBeReached 26 = .ok (.ifCond .ne 5, 3) := by decide +kernel
theorem dX3_canBeReached_29 : decode cX3_canBeReached 29 = .ok (.iconst 0, 1) := by decide +kernel
theorem dX3_canBeReached_30 : decode cX3_canBeReached 30 = .ok (.ireturn, 1) := by decide +kernel
theorem dX3_canBeReached_31 : decode cX3_canBeReached 31 = .ok (.aload_n 0, 1) := by decide +kernel
theorem dX3_canBeReached_32 : decode cX3_canBeReached 32 = .ok (.getfield 34, 3) := by decide +kernel
theorem dX3_canBeReached_35 : decode cX3_canBeReached 35 = .ok (.aload_n 0, 1) := by decide +kernel
theorem dX3_canBeReached_36 : decode cX3_canBeReached 36 = .ok (.getfield 28, 3) := by decide +kernel
theorem dX3_canBeReached_39 : decode cX3_canBeReached 39 = .ok (.getfield 231, 3) := by decide +kernel
theorem dX3_canBeReached_42 : decode cX3_canBeReached 42 = .ok (.aaload, 1) := by decide +kernel
theorem dX3_canBeReached_43 : decode cX3_canBeReached 43 = .ok (.astore_n 1, 1) := by decide +kernel
theorem dX3_canBeReached_44 : decode cX3_canBeReached 44 = .ok (.aload_n 1, 1) := by decide +kernel
theorem dX3_canBeReached_45 : decode cX3_canBeReached 45 = .ok (.getfield 170, 3) := by decide +kernel
theorem dX3_canBeReached_48 : decode cX3_canBeReached 48 = .ok (.iconst (-1), 1) := by decide +kernel
theorem dX3_canBeReached_49 : decode cX3_canBeReached 49 = .ok (.if_icmp .ne 13, 3) := by decide +kernel
theorem dX3_canBeReached_52 : decode cX3_canBeReached 52 = .ok (.aload_n 0, 1) := by decide +kernel
theorem dX3_canBeReached_53 : decode cX3_canBeReached 53 = .ok (.aload_n 1, 1) := by decide +kernel
theorem dX3_canBeReached_54 : decode cX3_canBeReached 54 = .ok (.invokevirtual 255, 3) := by decide +kernel
theorem dX3_canBeReached_57 : decode cX3_canBeReached 57 = .ok (.ifCond .ne 5, 3) := by decide +kernel
theorem dX3_canBeReached_60 : decode cX3_canBeReached 60 = .ok (.iconst 0, 1) := by decide +kernel
theorem dX3_canBeReached_61 : decode cX3_canBeReached 61 = .ok (.ireturn, 1) := by decide +kernel
theorem dX3_canBeReached_62 : decode cX3_canBeReached 62 = .ok (.aload_n 0, 1) := by decide +kernel
theorem dX3_canBeReached_63 : decode cX3_canBeReached 63 = .ok (.getfield 28, 3) := by decide +kernel
theorem dX3_canBeReached_66 : decode cX3_canBeReached 66 = .ok (.aload_n 1, 1) := by decide +kernel
theorem dX3_canBeReached_67 : decode cX3_canBeReached 67 = .ok (.aload_n 0, 1) := by decide +kernel
theorem dX3_canBeReached_68 : decode cX3_canBeReached 68 = .ok (.getfield 28, 3) := by decide +kernel
theorem dX3_canBeReached_71 : decode cX3_canBeReached 71 = .ok (.getfield 220, 3) := by decide +kernel
theorem dX3_canBeReached_74 : decode cX3_canBeReached 74 = .ok (.aload_n 0, 1) := by decide +kernel
theorem dX3_canBeReached_75 : decode cX3_canBeReached 75 = .ok (.getfield 28, 3) := by decide +kernel
theorem dX3_canBeReached_78 : decode cX3_canBeReached 78 = .ok (.getfield 252, 3) := by decide +kernel
theorem dX3_canBeReached_81 : decode cX3_canBeReached 81 = .ok (.aload_n 0, 1) := by decide +kernel
theorem dX3_canBeReached_82 : decode cX3_canBeReached 82 = .ok (.getfield 55, 3) := by decide +kernel
theorem dX3_canBeReached_85 : decode cX3_canBeReached 85 = .ok (.getfield 167, 3) := by decide +kernel
theorem dX3_canBeReached_88 : decode cX3_canBeReached 88 = .ok (.invokevirtual 259, 3) := by decide +kernel
theorem dX3_canBeReached_91 : decode cX3_canBeReached 91 = .ok (.putfield 221, 3) := by decide +kernel
theorem dX3_canBeReached_94 : decode cX3_canBeReached 94 = .ok (.aload_n 0, 1) := by decide +kernel
theorem dX3_canBeReached_95 : decode cX3_canBeReached 95 = .ok (.getfield 55, 3) := by decide +kernel
theorem dX3_canBeReached_98 : decode cX3_canBeReached 98 = .ok (.aload_n 0, 1) := by decide +kernel
theorem dX3_canBeReached_99 : decode cX3_canBeReached 99 = .ok (.getfield 28, 3) := by decide +kernel
theorem dX3_canBeReached_102 : decode cX3_canBeReached 102 = .ok (.getfield 220, 3) := by decide +kernel
theorem dX3_canBeReached_105 : decode cX3_canBeReached 105 = .ok (.aload_n 0, 1) := by decide +kernel
theorem dX3_canBeReached_106 : decode cX3_canBeReached 106 = .ok (.getfield 28, 3) := by decide +kernel
theorem dX3_canBeReached_109 : decode cX3_canBeReached 109 = .ok (.getfield 221, 3) := by decide +kernel
theorem dX3_canBeReached_112 : decode cX3_canBeReached 112 = .ok (.invokevirtual 263, 3) := by decide +kernel
theorem dX3_canBeReached_115 : decode cX3_canBeReached 115 = .ok (.ireturn, 1) := by decide +kernel
theorem dX3_placeByRule_0 : decode cX3_placeByRule 0 = .ok (.aload_n 1, 1) := by decide +kernel
theorem dX3_placeByRule_1 : decode cX3_placeByRule 1 = .ok (.getfield 115, 3) := by decide +kernel
theorem dX3_placeByRule_4 : decode cX3_placeByRule 4 = .ok (.iconst 2, 1) := by decide +kernel
theorem dX3_placeByRule_5 : decode cX3_placeByRule 5 = .ok (.if_icmp .ne 10, 3) := by decide +kernel
theorem dX3_placeByRule_8 : decode cX3_placeByRule 8 = .ok (.aload_n 0, 1) := by decide +kernel
theorem dX3_placeByRule_9 : decode cX3_placeByRule 9 = .ok (.invokevirtual 266, 3) := by decide +kernel
theorem dX3_placeByRule_12 : decode cX3_placeByRule 12 = .ok (.goto 11, 3) := by decide +kernel
theorem dX3_placeByRule_15 : decode cX3_placeByRule 15 = .ok (.aload_n 0, 1) := by decide +kernel
theorem dX3_placeByRule_16 : decode cX3_placeByRule 16 = .ok (.aload_n 0, 1) := by decide +kernel
theorem dX3_placeByRule_17 : decode cX3_placeByRule 17 = .ok (.invokevirtual 266, 3) := by decide +kernel
theorem dX3_placeByRule_20 : decode cX3_placeByRule 20 = .ok (.invokevirtual 270, 3) := by decide +kernel
theorem dX3_placeByRule_23 : decode cX3_placeByRule 23 = .ok (.istore_n 2, 1) := by decide +kernel
theorem dX3_placeByRule_24 : decode cX3_placeByRule 24 = .ok (.aload_n 0, 1) := by decide +kernel
theorem dX3_placeByRule_25 : decode cX3_placeByRule 25 = .ok (.aload_n 1, 1) := by decide +kernel
theorem dX3_placeByRule_26 : decode cX3_placeByRule 26 = .ok (.iload_n 2, 1) := by decide +kernel
theorem dX3_placeByRule_27 : decode cX3_placeByRule 27 = .ok (.invokevirtual 273, 3) := by decide +kernel
theorem dX3_placeByRule_30 : decode cX3_placeByRule 30 = .ok (.ifCond .ne 5, 3) := by decide +kernel
theorem dX3_placeByRule_33 : decode cX3_placeByRule 33 = .ok (.iconst 0, 1) := by decide +kernel
theorem dX3_placeByRule_34 : decode cX3_placeByRule 34 = .ok (.ireturn, 1) := by decide +kernel
theorem dX3_placeByRule_35 : decode cX3_placeByRule 35 = .ok (.aload_n 0, 1) := by decide +kernel
theorem dX3_placeByRule_36 : decode cX3_placeByRule 36 = .ok (.aload_n 1, 1) := by decide +kernel
theorem dX3_placeByRule_37 : decode cX3_placeByRule 37 = .ok (.iload_n 2, 1) := by decide +kernel
theorem dX3_placeByRule_38 : decode cX3_placeByRule 38 = .ok (.invokevirtual 277, 3) := by decide +kernel
theorem dX3_placeByRule_41 : decode cX3_placeByRule 41 = .ok (.aload_n 0, 1) := by decide +kernel
theorem dX3_placeByRule_42 : decode cX3_placeByRule 42 = .ok (.getfield 21, 3) := by decide +kernel
theorem dX3_placeByRule_45 : decode cX3_placeByRule 45 = .ok (.getfield 281, 3) := by decide +kernel
theorem dX3_placeByRule_48 : decode cX3_placeByRule 48 = .ok (.iconst 1, 1) := by decide +kernel
theorem dX3_placeByRule_49 : decode cX3_placeByRule 49 = .ok (.if_icmp .ne 13, 3) := by decide +kernel
theorem dX3_placeByRule_52 : decode cX3_placeByRule 52 = .ok (.aload_n 0, 1) := by decide +kernel
theorem dX3_placeByRule_53 : decode cX3_placeByRule 53 = .ok (.dup, 1) := by decide +kernel
theorem dX3_placeByRule_54 : decode cX3_placeByRule 54 = .ok (.getfield 97, 3) := by decide +kernel
theorem dX3_placeByRule_57 : decode cX3_placeByRule 57 = .ok (.iconst 1, 1) := by decide +kernel
theorem dX3_placeByRule_58 : decode cX3_placeByRule 58 = .ok (.iadd, 1) := by decide +kernel
theorem dX3_placeByRule_59 : decode cX3_placeByRule 59 = .ok (.putfield 97, 3) := by decide +kernel
theorem dX3_placeByRule_62 : decode cX3_placeByRule 62 = .ok (.iconst 1, 1) := by decide +kernel
theorem dX3_placeByRule_63 : decode cX3_placeByRule 63 = .ok (.ireturn, 1) := by decide +kernel
theorem dX3_firstChoice_0 : decode cX3_firstChoice 0 = .ok (.aload_n 0, 1) := by decide +kernel
theorem dX3_firstChoice_1 : decode cX3_firstChoice 1 = .ok (.getfield 21, 3) := by decide +kernel
theorem dX3_firstChoice_4 : decode cX3_firstChoice 4 = .ok (.getfield 281, 3) := by decide +kernel
theorem dX3_firstChoice_7 : decode cX3_firstChoice 7 = .ok (.lookupswitch 43 #[(1, 25), (2, 38)], 25) := by decide +kernel
theorem dX3_firstChoice_32 : decode cX3_firstChoice 32 = .ok (.aload_n 0, 1) := by decide +kernel
theorem dX3_firstChoice_33 : decode cX3_firstChoice 33 = .ok (.getfield 97, 3) := by decide +kernel
theorem dX3_firstChoice_36 : decode cX3_firstChoice 36 = .ok (.aload_n 0, 1) := by decide +kernel
theorem dX3_firstChoice_37 : decode cX3_firstChoice 37 = .ok (.getfield 55, 3) := by decide +kernel
theorem dX3_firstChoice_40 : decode cX3_firstChoice 40 = .ok (.getfield 167, 3) := by decide +kernel
theorem dX3_firstChoice_43 : decode cX3_firstChoice 43 = .ok (.irem, 1) := by decide +kernel
theorem dX3_firstChoice_44 : decode cX3_firstChoice 44 = .ok (.ireturn, 1) := by decide +kernel
theorem dX3_firstChoice_45 : decode cX3_firstChoice 45 = .ok (.aload_n 0, 1) := by decide +kernel
theorem dX3_firstChoice_46 : decode cX3_firstChoice 46 = .ok (.invokevirtual 284, 3) := by decide +kernel
theorem dX3_firstChoice_49 : decode cX3_firstChoice 49 = .ok (.ireturn, 1) := by decide +kernel
theorem dX3_firstChoice_50 : decode cX3_firstChoice 50 = .ok (.aload_n 0, 1) := by decide +kernel
theorem dX3_firstChoice_51 : decode cX3_firstChoice 51 = .ok (.getfield 28, 3) := by decide +kernel
theorem dX3_firstChoice_54 : decode cX3_firstChoice 54 = .ok (.getfield 220, 3) := by decide +kernel
theorem dX3_firstChoice_57 : decode cX3_firstChoice 57 = .ok (.ireturn, 1) := by decide +kernel
theorem dX3_emptiest_0 : decode cX3_emptiest 0 = .ok (.iconst 0, 1) := by decide +kernel
theorem dX3_emptiest_1 : decode cX3_emptiest 1 = .ok (.istore_n 1, 1) := by decide +kernel
theorem dX3_emptiest_2 : decode cX3_emptiest 2 = .ok (.iconst 1, 1) := by decide +kernel
theorem dX3_emptiest_3 : decode cX3_emptiest 3 = .ok (.istore_n 2, 1) := by decide +kernel
theorem dX3_emptiest_4 : decode cX3_emptiest 4 = .ok (.iload_n 2, 1) := by decide +kernel
theorem dX3_emptiest_5 : decode cX3_emptiest 5 = .ok (.aload_n 0, 1) := by decide +kernel
theorem dX3_emptiest_6 : decode cX3_emptiest 6 = .ok (.getfield 55, 3) := by decide +kernel
theorem dX3_emptiest_9 : decode cX3_emptiest 9 = .ok (.getfield 167, 3) := by decide +kernel
theorem dX3_emptiest_12 : decode cX3_emptiest 12 = .ok (.if_icmp .ge 26, 3) := by decide +kernel
theorem dX3_emptiest_15 : decode cX3_emptiest 15 = .ok (.aload_n 0, 1) := by decide +kernel
theorem dX3_emptiest_16 : decode cX3_emptiest 16 = .ok (.getfield 44, 3) := by decide +kernel
theorem dX3_emptiest_19 : decode cX3_emptiest 19 = .ok (.iload_n 2, 1) := by decide +kernel
theorem dX3_emptiest_20 : decode cX3_emptiest 20 = .ok (.iaload, 1) := by decide +kernel
theorem dX3_emptiest_21 : decode cX3_emptiest 21 = .ok (.aload_n 0, 1) := by decide +kernel
theorem dX3_emptiest_22 : decode cX3_emptiest 22 = .ok (.getfield 44, 3) := by decide +kernel
theorem dX3_emptiest_25 : decode cX3_emptiest 25 = .ok (.iload_n 1, 1) := by decide +kernel
theorem dX3_emptiest_26 : decode cX3_emptiest 26 = .ok (.iaload, 1) := by decide +kernel
theorem dX3_emptiest_27 : decode cX3_emptiest 27 = .ok (.if_icmp .ge 5, 3) := by decide +kernel
theorem dX3_emptiest_30 : decode cX3_emptiest 30 = .ok (.iload_n 2, 1) := by decide +kernel
theorem dX3_emptiest_31 : decode cX3_emptiest 31 = .ok (.istore_n 1, 1) := by decide +kernel
theorem dX3_emptiest_32 : decode cX3_emptiest 32 = .ok (.iinc 2 1, 3) := by decide +kernel
theorem dX3_emptiest_35 : decode cX3_emptiest 35 = .ok (.goto (-31), 3) := by decide +kernel
theorem dX3_emptiest_38 : decode cX3_emptiest 38 = .ok (.iload_n 1, 1) := by decide +kernel
theorem dX3_emptiest_39 : decode cX3_emptiest 39 = .ok (.ireturn, 1) := by decide +kernel
theorem dX3_nextWithRoom_0 : decode cX3_nextWithRoom 0 = .ok (.iconst 0, 1) := by decide +kernel
theorem dX3_nextWithRoom_1 : decode cX3_nextWithRoom 1 = .ok (.istore_n 2, 1) := by decide +kernel
theorem dX3_nextWithRoom_2 : decode cX3_nextWithRoom 2 = .ok (.iload_n 2, 1) := by decide +kernel
theorem dX3_nextWithRoom_3 : decode cX3_nextWithRoom 3 = .ok (.aload_n 0, 1) := by decide +kernel
theorem dX3_nextWithRoom_4 : decode cX3_nextWithRoom 4 = .ok (.getfield 55, 3) := by decide +kernel
theorem dX3_nextWithRoom_7 : decode cX3_nextWithRoom 7 = .ok (.getfield 167, 3) := by decide +kernel
theorem dX3_nextWithRoom_10 : decode cX3_nextWithRoom 10 = .ok (.if_icmp .ge 31, 3) := by decide +kernel
theorem dX3_nextWithRoom_13 : decode cX3_nextWithRoom 13 = .ok (.iload_n 1, 1) := by decide +kernel
theorem dX3_nextWithRoom_14 : decode cX3_nextWithRoom 14 = .ok (.iload_n 2, 1) := by decide +kernel
theorem dX3_nextWithRoom_15 : decode cX3_nextWithRoom 15 = .ok (.iadd, 1) := by decide +kernel
theorem dX3_nextWithRoom_16 : decode cX3_nextWithRoom 16 = .ok (.aload_n 0, 1) := by decide +kernel
theorem dX3_nextWithRoom_17 : decode cX3_nextWithRoom 17 = .ok (.getfield 55, 3) := by decide +kernel
theorem dX3_nextWithRoom_20 : decode cX3_nextWithRoom 20 = .ok (.getfield 167, 3) := by decide +kernel
theorem dX3_nextWithRoom_23 : decode cX3_nextWithRoom 23 = .ok (.irem, 1) := by decide +kernel
theorem dX3_nextWithRoom_24 : decode cX3_nextWithRoom 24 = .ok (.istore_n 3, 1) := by decide +kernel
theorem dX3_nextWithRoom_25 : decode cX3_nextWithRoom 25 = .ok (.aload_n 0, 1) := by decide +kernel
theorem dX3_nextWithRoom_26 : decode cX3_nextWithRoom 26 = .ok (.iload_n 3, 1) := by decide +kernel
theorem dX3_nextWithRoom_27 : decode cX3_nextWithRoom 27 = .ok (.invokevirtual 163, 3) := by decide +kernel
theorem dX3_nextWithRoom_30 : decode cX3_nextWithRoom 30 = .ok (.ifCond .eq 5, 3) := by decide +kernel
theorem dX3_nextWithRoom_33 : decode cX3_nextWithRoom 33 = .ok (.iload_n 3, 1) := by decide +kernel
theorem dX3_nextWithRoom_34 : decode cX3_nextWithRoom 34 = .ok (.ireturn, 1) := by decide +kernel
theorem dX3_nextWithRoom_35 : decode cX3_nextWithRoom 35 = .ok (.iinc 2 1, 3) := by decide +kernel
theorem dX3_nextWithRoom_38 : decode cX3_nextWithRoom 38 = .ok (.goto (-36), 3) := by decide +kernel
theorem dX3_nextWithRoom_41 : decode cX3_nextWithRoom 41 = .ok (.iload_n 1, 1) := by decide +kernel
theorem dX3_nextWithRoom_42 : decode cX3_nextWithRoom 42 = .ok (.ireturn, 1) := by decide +kernel
theorem dX3_perform_0 : decode cX3_perform 0 = .ok (.aload_n 0, 1) := by decide +kernel
theorem dX3_perform_1 : decode cX3_perform 1 = .ok (.getfield 28, 3) := by decide +kernel
theorem dX3_perform_4 : decode cX3_perform 4 = .ok (.getfield 287, 3) := by decide +kernel
theorem dX3_perform_7 : decode cX3_perform 7 = .ok (.ifCond .eq 42, 3) := by decide +kernel
theorem dX3_perform_10 : decode cX3_perform 10 = .ok (.aload_n 1, 1) := by decide +kernel
theorem dX3_perform_11 : decode cX3_perform 11 = .ok (.getfield 290, 3) := by decide +kernel
theorem dX3_perform_14 : decode cX3_perform 14 = .ok (.aload_n 0, 1) := by decide +kernel
theorem dX3_perform_15 : decode cX3_perform 15 = .ok (.getfield 28, 3) := by decide +kernel
theorem dX3_perform_18 : decode cX3_perform 18 = .ok (.getfield 252, 3) := by decide +kernel
theorem dX3_perform_21 : decode cX3_perform 21 = .ok (.aload_n 0, 1) := by decide +kernel
theorem dX3_perform_22 : decode cX3_perform 22 = .ok (.getfield 28, 3) := by decide +kernel
theorem dX3_perform_25 : decode cX3_perform 25 = .ok (.getfield 293, 3) := by decide +kernel
theorem dX3_perform_28 : decode cX3_perform 28 = .ok (.iastore, 1) := by decide +kernel
theorem dX3_perform_29 : decode cX3_perform 29 = .ok (.aload_n 0, 1) := by decide +kernel
theorem dX3_perform_30 : decode cX3_perform 30 = .ok (.getfield 28, 3) := by decide +kernel
theorem dX3_perform_33 : decode cX3_perform 33 = .ok (.dup, 1) := by decide +kernel
theorem dX3_perform_34 : decode cX3_perform 34 = .ok (.getfield 240, 3) := by decide +kernel
theorem dX3_perform_37 : decode cX3_perform 37 = .ok (.aload_n 0, 1) := by decide +kernel
theorem dX3_perform_38 : decode cX3_perform 38 = .ok (.aload_n 1, 1) := by decide +kernel
theorem dX3_perform_39 : decode cX3_perform 39 = .ok (.invokevirtual 296, 3) := by decide +kernel
theorem dX3_perform_42 : decode cX3_perform 42 = .ok (.iadd, 1) := by decide +kernel
theorem dX3_perform_43 : decode cX3_perform 43 = .ok (.putfield 240, 3) := by decide +kernel
theorem dX3_perform_46 : decode cX3_perform 46 = .ok (.goto 36, 3) := by decide +kernel
theorem dX3_perform_49 : decode cX3_perform 49 = .ok (.aload_n 2, 1) := by decide +kernel
theorem dX3_perform_50 : decode cX3_perform 50 = .ok (.aload_n 1, 1) := by decide +kernel
theorem dX3_perform_51 : decode cX3_perform 51 = .ok (.getfield 290, 3) := by decide +kernel
theorem dX3_perform_54 : decode cX3_perform 54 = .ok (.aload_n 0, 1) := by decide +kernel
theorem dX3_perform_55 : decode cX3_perform 55 = .ok (.getfield 28, 3) := by decide +kernel
theorem dX3_perform_58 : decode cX3_perform 58 = .ok (.getfield 252, 3) := by decide +kernel
theorem dX3_perform_61 : decode cX3_perform 61 = .ok (.iaload, 1) := by decide +kernel
theorem dX3_perform_62 : decode cX3_perform 62 = .ok (.putfield 300, 3) := by decide +kernel
theorem dX3_perform_65 : decode cX3_perform 65 = .ok (.aload_n 0, 1) := by decide +kernel
theorem dX3_perform_66 : decode cX3_perform 66 = .ok (.getfield 28, 3) := by decide +kernel
theorem dX3_perform_69 : decode cX3_perform 69 = .ok (.dup, 1) := by decide +kernel
theorem dX3_perform_70 : decode cX3_perform 70 = .ok (.getfield 240, 3) := by decide +kernel
theorem dX3_perform_73 : decode cX3_perform 73 = .ok (.aload_n 0, 1) := by decide +kernel
theorem dX3_perform_74 : decode cX3_perform 74 = .ok (.aload_n 1, 1) := by decide +kernel
theorem dX3_perform_75 : decode cX3_perform 75 = .ok (.invokevirtual 303, 3) := by decide +kernel
theorem dX3_perform_78 : decode cX3_perform 78 = .ok (.iadd, 1) := by decide +kernel
theorem dX3_perform_79 : decode cX3_perform 79 = .ok (.putfield 240, 3) := by decide +kernel
theorem dX3_perform_82 : decode cX3_perform 82 = .ok (.aload_n 2, 1) := by decide +kernel
theorem dX3_perform_83 : decode cX3_perform 83 = .ok (.dup, 1) := by decide +kernel
theorem dX3_perform_84 : decode cX3_perform 84 = .ok (.getfield 306, 3) := by decide +kernel
theorem dX3_perform_87 : decode cX3_perform 87 = .ok (.iconst 1, 1) := by decide +kernel
theorem dX3_perform_88 : decode cX3_perform 88 = .ok (.iadd, 1) := by decide +kernel
theorem dX3_perform_89 : decode cX3_perform 89 = .ok (.putfield 306, 3) := by decide +kernel
theorem dX3_perform_92 : decode cX3_perform 92 = .ok (.aload_n 2, 1) := by decide +kernel
theorem dX3_perform_93 : decode cX3_perform 93 = .ok (.aload_n 0, 1) := by decide +kernel
theorem dX3_perform_94 : decode cX3_perform 94 = .ok (.getfield 28, 3) := by decide +kernel
theorem dX3_perform_97 : decode cX3_perform 97 = .ok (.getfield 240, 3) := by decide +kernel
theorem dX3_perform_100 : decode cX3_perform 100 = .ok (.putfield 153, 3) := by decide +kernel
theorem dX3_perform_103 : decode cX3_perform 103 = .ok (.aload_n 0, 1) := by decide +kernel
theorem dX3_perform_104 : decode cX3_perform 104 = .ok (.aload_n 1, 1) := by decide +kernel
theorem dX3_perform_105 : decode cX3_perform 105 = .ok (.aload_n 2, 1) := by decide +kernel
theorem dX3_perform_106 : decode cX3_perform 106 = .ok (.invokevirtual 309, 3) := by decide +kernel
theorem dX3_perform_109 : decode cX3_perform 109 = .ok (.return_, 1) := by decide +kernel
theorem dX3_takeFault_0 : decode cX3_takeFault 0 = .ok (.aload_n 1, 1) := by decide +kernel
theorem dX3_takeFault_1 : decode cX3_takeFault 1 = .ok (.iconst 0, 1) := by decide +kernel
theorem dX3_takeFault_2 : decode cX3_takeFault 2 = .ok (.putfield 207, 3) := by decide +kernel
theorem dX3_takeFault_5 : decode cX3_takeFault 5 = .ok (.aload_n 1, 1) := by decide +kernel
theorem dX3_takeFault_6 : decode cX3_takeFault 6 = .ok (.aload_n 0, 1) := by decide +kernel
theorem dX3_takeFault_7 : decode cX3_takeFault 7 = .ok (.getfield 28, 3) := by decide +kernel
theorem dX3_takeFault_10 : decode cX3_takeFault 10 = .ok (.getfield 220, 3) := by decide +kernel
theorem dX3_takeFault_13 : decode cX3_takeFault 13 = .ok (.invokevirtual 312, 3) := by decide +kernel
theorem dX3_takeFault_16 : decode cX3_takeFault 16 = .ok (.aload_n 0, 1) := by decide +kernel
theorem dX3_takeFault_17 : decode cX3_takeFault 17 = .ok (.getfield 28, 3) := by decide +kernel
theorem dX3_takeFault_20 : decode cX3_takeFault 20 = .ok (.iconst 1, 1) := by decide +kernel
theorem dX3_takeFault_21 : decode cX3_takeFault 21 = .ok (.putfield 315, 3) := by decide +kernel
theorem dX3_takeFault_24 : decode cX3_takeFault 24 = .ok (.aload_n 0, 1) := by decide +kernel
theorem dX3_takeFault_25 : decode cX3_takeFault 25 = .ok (.getfield 28, 3) := by decide +kernel
theorem dX3_takeFault_28 : decode cX3_takeFault 28 = .ok (.dup, 1) := by decide +kernel
theorem dX3_takeFault_29 : decode cX3_takeFault 29 = .ok (.getfield 240, 3) := by decide +kernel
theorem dX3_takeFault_32 : decode cX3_takeFault 32 = .ok (.aload_n 0, 1) := by decide +kernel
theorem dX3_takeFault_33 : decode cX3_takeFault 33 = .ok (.getfield 21, 3) := by decide +kernel
theorem dX3_takeFault_36 : decode cX3_takeFault 36 = .ok (.getfield 128, 3) := by decide +kernel
theorem dX3_takeFault_39 : decode cX3_takeFault 39 = .ok (.iadd, 1) := by decide +kernel
theorem dX3_takeFault_40 : decode cX3_takeFault 40 = .ok (.putfield 240, 3) := by decide +kernel
theorem dX3_takeFault_43 : decode cX3_takeFault 43 = .ok (.aload_n 0, 1) := by decide +kernel
theorem dX3_takeFault_44 : decode cX3_takeFault 44 = .ok (.dup, 1) := by decide +kernel
theorem dX3_takeFault_45 : decode cX3_takeFault 45 = .ok (.getfield 106, 3) := by decide +kernel
theorem dX3_takeFault_48 : decode cX3_takeFault 48 = .ok (.iconst 1, 1) := by decide +kernel
theorem dX3_takeFault_49 : decode cX3_takeFault 49 = .ok (.iadd, 1) := by decide +kernel
theorem dX3_takeFault_50 : decode cX3_takeFault 50 = .ok (.putfield 106, 3) := by decide +kernel
theorem dX3_takeFault_53 : decode cX3_takeFault 53 = .ok (.aload_n 1, 1) := by decide +kernel
theorem dX3_takeFault_54 : decode cX3_takeFault 54 = .ok (.getfield 115, 3) := by decide +kernel
theorem dX3_takeFault_57 : decode cX3_takeFault 57 = .ok (.ifCond .ne 8, 3) := by decide +kernel
theorem dX3_takeFault_60 : decode cX3_takeFault 60 = .ok (.aload_n 0, 1) := by decide +kernel
theorem dX3_takeFault_61 : decode cX3_takeFault 61 = .ok (.aload_n 1, 1) := by decide +kernel
theorem dX3_takeFault_62 : decode cX3_takeFault 62 = .ok (.invokevirtual 318, 3) := by decide +kernel
theorem dX3_takeFault_65 : decode cX3_takeFault 65 = .ok (.return_, 1) := by decide +kernel
theorem dX3_moveIfItPays_0 : decode cX3_moveIfItPays 0 = .ok (.aload_n 1, 1) := by decide +kernel
theorem dX3_moveIfItPays_1 : decode cX3_moveIfItPays 1 = .ok (.invokevirtual 321, 3) := by decide +kernel
theorem dX3_moveIfItPays_4 : decode cX3_moveIfItPays 4 = .ok (.istore_n 2, 1) := by decide +kernel
theorem dX3_moveIfItPays_5 : decode cX3_moveIfItPays 5 = .ok (.iload_n 2, 1) := by decide +kernel
theorem dX3_moveIfItPays_6 : decode cX3_moveIfItPays 6 = .ok (.aload_n 1, 1) := by decide +kernel
theorem dX3_moveIfItPays_7 : decode cX3_moveIfItPays 7 = .ok (.getfield 170, 3) := by decide +kernel
theorem dX3_moveIfItPays_10 : decode cX3_moveIfItPays 10 = .ok (.if_icmp .eq 11, 3) := by decide +kernel
theorem dX3_moveIfItPays_13 : decode cX3_moveIfItPays 13 = .ok (.aload_n 0, 1) := by decide +kernel
theorem dX3_moveIfItPays_14 : decode cX3_moveIfItPays 14 = .ok (.iload_n 2, 1) := by decide +kernel
theorem dX3_moveIfItPays_15 : decode cX3_moveIfItPays 15 = .ok (.invokevirtual 163, 3) := by decide +kernel
theorem dX3_moveIfItPays_18 : decode cX3_moveIfItPays 18 = .ok (.ifCond .ne 4, 3) := by decide +kernel
theorem dX3_moveIfItPays_21 : decode cX3_moveIfItPays 21 = .ok (.return_, 1) := by decide +kernel
theorem dX3_moveIfItPays_22 : decode cX3_moveIfItPays 22 = .ok (.aload_n 1, 1) := by decide +kernel
theorem dX3_moveIfItPays_23 : decode cX3_moveIfItPays 23 = .ok (.iload_n 2, 1) := by decide +kernel
theorem dX3_moveIfItPays_24 : decode cX3_moveIfItPays 24 = .ok (.aload_n 0, 1) := by decide +kernel
theorem dX3_moveIfItPays_25 : decode cX3_moveIfItPays 25 = .ok (.getfield 55, 3) := by decide +kernel
theorem dX3_moveIfItPays_28 : decode cX3_moveIfItPays 28 = .ok (.invokevirtual 324, 3) := by decide +kernel
theorem dX3_moveIfItPays_31 : decode cX3_moveIfItPays 31 = .ok (.aload_n 0, 1) := by decide +kernel
theorem dX3_moveIfItPays_32 : decode cX3_moveIfItPays 32 = .ok (.getfield 21, 3) := by decide +kernel
theorem dX3_moveIfItPays_35 : decode cX3_moveIfItPays 35 = .ok (.getfield 328, 3) := by decide +kernel
theorem dX3_moveIfItPays_38 : decode cX3_moveIfItPays 38 = .ok (.imul, 1) := by decide +kernel
theorem dX3_moveIfItPays_39 : decode cX3_moveIfItPays 39 = .ok (.aload_n 0, 1) := by decide +kernel
theorem dX3_moveIfItPays_40 : decode cX3_moveIfItPays 40 = .ok (.getfield 21, 3) := by decide +kernel
theorem dX3_moveIfItPays_43 : decode cX3_moveIfItPays 43 = .ok (.getfield 131, 3) := by decide +kernel
theorem dX3_moveIfItPays_46 : decode cX3_moveIfItPays 46 = .ok (.if_icmp .gt 4, 3) := by decide +kernel
theorem dX3_moveIfItPays_49 : decode cX3_moveIfItPays 49 = .ok (.return_, 1) := by decide +kernel
theorem dX3_moveIfItPays_50 : decode cX3_moveIfItPays 50 = .ok (.aload_n 0, 1) := by decide +kernel
theorem dX3_moveIfItPays_51 : decode cX3_moveIfItPays 51 = .ok (.getfield 44, 3) := by decide +kernel
theorem dX3_moveIfItPays_54 : decode cX3_moveIfItPays 54 = .ok (.aload_n 1, 1) := by decide +kernel
theorem dX3_moveIfItPays_55 : decode cX3_moveIfItPays 55 = .ok (.getfield 170, 3) := by decide +kernel
theorem dX3_moveIfItPays_58 : decode cX3_moveIfItPays 58 = .ok (.dup2, 1) := by decide +kernel
theorem dX3_moveIfItPays_59 : decode cX3_moveIfItPays 59 = .ok (.iaload, 1) := by decide +kernel
theorem dX3_moveIfItPays_60 : decode cX3_moveIfItPays 60 = .ok (.iconst 1, 1) := by decide +kernel
theorem dX3_moveIfItPays_61 : decode cX3_moveIfItPays 61 = .ok (.isub, 1) := by decide +kernel
theorem dX3_moveIfItPays_62 : decode cX3_moveIfItPays 62 = .ok (.iastore, 1) := by decide +kernel
theorem dX3_moveIfItPays_63 : decode cX3_moveIfItPays 63 = .ok (.aload_n 0, 1) := by decide +kernel
theorem dX3_moveIfItPays_64 : decode cX3_moveIfItPays 64 = .ok (.getfield 44, 3) := by decide +kernel
theorem dX3_moveIfItPays_67 : decode cX3_moveIfItPays 67 = .ok (.iload_n 2, 1) := by decide +kernel
theorem dX3_moveIfItPays_68 : decode cX3_moveIfItPays 68 = .ok (.dup2, 1) := by decide +kernel
theorem dX3_moveIfItPays_69 : decode cX3_moveIfItPays 69 = .ok (.iaload, 1) := by decide +kernel
theorem dX3_moveIfItPays_70 : decode cX3_moveIfItPays 70 = .ok (.iconst 1, 1) := by decide +kernel
theorem dX3_moveIfItPays_71 : decode cX3_moveIfItPays 71 = .ok (.iadd, 1) := by decide +kernel
theorem dX3_moveIfItPays_72 : decode cX3_moveIfItPays 72 = .ok (.iastore, 1) := by decide +kernel
theorem dX3_moveIfItPays_73 : decode cX3_moveIfItPays 73 = .ok (.aload_n 1, 1) := by decide +kernel
theorem dX3_moveIfItPays_74 : decode cX3_moveIfItPays 74 = .ok (.iload_n 2, 1) := by decide +kernel
theorem dX3_moveIfItPays_75 : decode cX3_moveIfItPays 75 = .ok (.putfield 170, 3) := by decide +kernel
theorem dX3_moveIfItPays_78 : decode cX3_moveIfItPays 78 = .ok (.aload_n 1, 1) := by decide +kernel
theorem dX3_moveIfItPays_79 : decode cX3_moveIfItPays 79 = .ok (.dup, 1) := by decide +kernel
theorem dX3_moveIfItPays_80 : decode cX3_moveIfItPays 80 = .ok (.getfield 331, 3) := by decide +kernel
theorem dX3_moveIfItPays_83 : decode cX3_moveIfItPays 83 = .ok (.iconst 1, 1) := by decide +kernel
theorem dX3_moveIfItPays_84 : decode cX3_moveIfItPays 84 = .ok (.iadd, 1) := by decide +kernel
theorem dX3_moveIfItPays_85 : decode cX3_moveIfItPays 85 = .ok (.putfield 331, 3) := by decide +kernel
theorem dX3_moveIfItPays_88 : decode cX3_moveIfItPays 88 = .ok (.aload_n 0, 1) := by decide +kernel
theorem dX3_moveIfItPays_89 : decode cX3_moveIfItPays 89 = .ok (.getfield 28, 3) := by decide +kernel
theorem dX3_moveIfItPays_92 : decode cX3_moveIfItPays 92 = .ok (.iconst 1, 1) := by decide +kernel
theorem dX3_moveIfItPays_93 : decode cX3_moveIfItPays 93 = .ok (.putfield 332, 3) := by decide +kernel
theorem dX3_moveIfItPays_96 : decode cX3_moveIfItPays 96 = .ok (.aload_n 0, 1) := by decide +kernel
theorem dX3_moveIfItPays_97 : decode cX3_moveIfItPays 97 = .ok (.getfield 28, 3) := by decide +kernel
theorem dX3_moveIfItPays_100 : decode cX3_moveIfItPays 100 = .ok (.dup, 1) := by decide +kernel
theorem dX3_moveIfItPays_101 : decode cX3_moveIfItPays 101 = .ok (.getfield 240, 3) := by decide +kernel
theorem dX3_moveIfItPays_104 : decode cX3_moveIfItPays 104 = .ok (.aload_n 0, 1) := by decide +kernel
theorem dX3_moveIfItPays_105 : decode cX3_moveIfItPays 105 = .ok (.getfield 21, 3) := by decide +kernel
theorem dX3_moveIfItPays_108 : decode cX3_moveIfItPays 108 = .ok (.getfield 131, 3) := by decide +kernel
theorem dX3_moveIfItPays_111 : decode cX3_moveIfItPays 111 = .ok (.iadd, 1) := by decide +kernel
theorem dX3_moveIfItPays_112 : decode cX3_moveIfItPays 112 = .ok (.putfield 240, 3) := by decide +kernel
theorem dX3_moveIfItPays_115 : decode cX3_moveIfItPays 115 = .ok (.aload_n 0, 1) := by decide +kernel
theorem dX3_moveIfItPays_116 : decode cX3_moveIfItPays 116 = .ok (.dup, 1) := by decide +kernel
theorem dX3_moveIfItPays_117 : decode cX3_moveIfItPays 117 = .ok (.getfield 109, 3) := by decide +kernel
theorem dX3_moveIfItPays_120 : decode cX3_moveIfItPays 120 = .ok (.iconst 1, 1) := by decide +kernel
theorem dX3_moveIfItPays_121 : decode cX3_moveIfItPays 121 = .ok (.iadd, 1) := by decide +kernel
theorem dX3_moveIfItPays_122 : decode cX3_moveIfItPays 122 = .ok (.putfield 109, 3) := by decide +kernel
theorem dX3_moveIfItPays_125 : decode cX3_moveIfItPays 125 = .ok (.return_, 1) := by decide +kernel
theorem dX3_bringCopy_0 : decode cX3_bringCopy 0 = .ok (.aload_n 0, 1) := by decide +kernel
theorem dX3_bringCopy_1 : decode cX3_bringCopy 1 = .ok (.getfield 28, 3) := by decide +kernel
theorem dX3_bringCopy_4 : decode cX3_bringCopy 4 = .ok (.getfield 220, 3) := by decide +kernel
theorem dX3_bringCopy_7 : decode cX3_bringCopy 7 = .ok (.istore_n 2, 1) := by decide +kernel
theorem dX3_bringCopy_8 : decode cX3_bringCopy 8 = .ok (.aload_n 1, 1) := by decide +kernel
theorem dX3_bringCopy_9 : decode cX3_bringCopy 9 = .ok (.getfield 115, 3) := by decide +kernel
theorem dX3_bringCopy_12 : decode cX3_bringCopy 12 = .ok (.iconst 1, 1) := by decide +kernel
theorem dX3_bringCopy_13 : decode cX3_bringCopy 13 = .ok (.if_icmp .ne 27, 3) := by decide +kernel
theorem dX3_bringCopy_16 : decode cX3_bringCopy 16 = .ok (.aload_n 1, 1) := by decide +kernel
theorem dX3_bringCopy_17 : decode cX3_bringCopy 17 = .ok (.getfield 170, 3) := by decide +kernel
theorem dX3_bringCopy_20 : decode cX3_bringCopy 20 = .ok (.iload_n 2, 1) := by decide +kernel
theorem dX3_bringCopy_21 : decode cX3_bringCopy 21 = .ok (.if_icmp .eq 19, 3) := by decide +kernel
theorem dX3_bringCopy_24 : decode cX3_bringCopy 24 = .ok (.aload_n 1, 1) := by decide +kernel
theorem dX3_bringCopy_25 : decode cX3_bringCopy 25 = .ok (.iload_n 2, 1) := by decide +kernel
theorem dX3_bringCopy_26 : decode cX3_bringCopy 26 = .ok (.invokevirtual 335, 3) := by decide +kernel
theorem dX3_bringCopy_29 : decode cX3_bringCopy 29 = .ok (.ifCond .ne 11, 3) := by decide +kernel
theorem dX3_bringCopy_32 : decode cX3_bringCopy 32 = .ok (.aload_n 0, 1) := by decide +kernel
theorem dX3_bringCopy_33 : decode cX3_bringCopy 33 = .ok (.iload_n 2, 1) := by decide +kernel
theorem dX3_bringCopy_34 : decode cX3_bringCopy 34 = .ok (.invokevirtual 163, 3) := by decide +kernel
theorem dX3_bringCopy_37 : decode cX3_bringCopy 37 = .ok (.ifCond .ne 5, 3) := by decide +kernel
theorem dX3_bringCopy_40 : decode cX3_bringCopy 40 = .ok (.iconst 0, 1) := by decide +kernel
theorem dX3_bringCopy_41 : decode cX3_bringCopy 41 = .ok (.ireturn, 1) := by decide +kernel
theorem dX3_bringCopy_42 : decode cX3_bringCopy 42 = .ok (.aload_n 1, 1) := by decide +kernel
theorem dX3_bringCopy_43 : decode cX3_bringCopy 43 = .ok (.dup, 1) := by decide +kernel
theorem dX3_bringCopy_44 : decode cX3_bringCopy 44 = .ok (.getfield 338, 3) := by decide +kernel
theorem dX3_bringCopy_47 : decode cX3_bringCopy 47 = .ok (.iconst 1, 1) := by decide +kernel
theorem dX3_bringCopy_48 : decode cX3_bringCopy 48 = .ok (.iload_n 2, 1) := by decide +kernel
theorem dX3_bringCopy_49 : decode cX3_bringCopy 49 = .ok (.ishl, 1) := by decide +kernel
theorem dX3_bringCopy_50 : decode cX3_bringCopy 50 = .ok (.ior, 1) := by decide +kernel
theorem dX3_bringCopy_51 : decode cX3_bringCopy 51 = .ok (.putfield 338, 3) := by decide +kernel
theorem dX3_bringCopy_54 : decode cX3_bringCopy 54 = .ok (.aload_n 0, 1) := by decide +kernel
theorem dX3_bringCopy_55 : decode cX3_bringCopy 55 = .ok (.getfield 44, 3) := by decide +kernel
theorem dX3_bringCopy_58 : decode cX3_bringCopy 58 = .ok (.iload_n 2, 1) := by decide +kernel
theorem dX3_bringCopy_59 : decode cX3_bringCopy 59 = .ok (.dup2, 1) := by decide +kernel
theorem dX3_bringCopy_60 : decode cX3_bringCopy 60 = .ok (.iaload, 1) := by decide +kernel
theorem dX3_bringCopy_61 : decode cX3_bringCopy 61 = .ok (.iconst 1, 1) := by decide +kernel
theorem dX3_bringCopy_62 : decode cX3_bringCopy 62 = .ok (.iadd, 1) := by decide +kernel
theorem dX3_bringCopy_63 : decode cX3_bringCopy 63 = .ok (.iastore, 1) := by decide +kernel
theorem dX3_bringCopy_64 : decode cX3_bringCopy 64 = .ok (.iconst 1, 1) := by decide +kernel
theorem dX3_bringCopy_65 : decode cX3_bringCopy 65 = .ok (.ireturn, 1) := by decide +kernel
theorem dX3_endCopies_0 : decode cX3_endCopies 0 = .ok (.aload_n 1, 1) := by decide +kernel
theorem dX3_endCopies_1 : decode cX3_endCopies 1 = .ok (.getfield 338, 3) := by decide +kernel
theorem dX3_endCopies_4 : decode cX3_endCopies 4 = .ok (.invokestatic 341, 3) := by decide +kernel
theorem dX3_endCopies_7 : decode cX3_endCopies 7 = .ok (.istore_n 2, 1) := by decide +kernel
theorem dX3_endCopies_8 : decode cX3_endCopies 8 = .ok (.aload_n 1, 1) := by decide +kernel
theorem dX3_endCopies_9 : decode cX3_endCopies 9 = .ok (.aload_n 0, 1) := by decide +kernel
theorem dX3_endCopies_10 : decode cX3_endCopies 10 = .ok (.getfield 28, 3) := by decide +kernel
theorem dX3_endCopies_13 : decode cX3_endCopies 13 = .ok (.getfield 220, 3) := by decide +kernel
theorem dX3_endCopies_16 : decode cX3_endCopies 16 = .ok (.invokevirtual 335, 3) := by decide +kernel
theorem dX3_endCopies_19 : decode cX3_endCopies 19 = .ok (.ifCond .eq 49, 3) := by decide +kernel
theorem dX3_endCopies_22 : decode cX3_endCopies 22 = .ok (.aload_n 1, 1) := by decide +kernel
theorem dX3_endCopies_23 : decode cX3_endCopies 23 = .ok (.dup, 1) := by decide +kernel
theorem dX3_endCopies_24 : decode cX3_endCopies 24 = .ok (.getfield 338, 3) := by decide +kernel
theorem dX3_endCopies_27 : decode cX3_endCopies 27 = .ok (.iconst 1, 1) := by decide +kernel
theorem dX3_endCopies_28 : decode cX3_endCopies 28 = .ok (.aload_n 1, 1) := by decide +kernel
theorem dX3_endCopies_29 : decode cX3_endCopies 29 = .ok (.getfield 170, 3) := by decide +kernel
theorem dX3_endCopies_32 : decode cX3_endCopies 32 = .ok (.ishl, 1) := by decide +kernel
theorem dX3_endCopies_33 : decode cX3_endCopies 33 = .ok (.ior, 1) := by decide +kernel
theorem dX3_endCopies_34 : decode cX3_endCopies 34 = .ok (.putfield 338, 3) := by decide +kernel
theorem dX3_endCopies_37 : decode cX3_endCopies 37 = .ok (.aload_n 1, 1) := by decide +kernel
theorem dX3_endCopies_38 : decode cX3_endCopies 38 = .ok (.dup, 1) := by decide +kernel
theorem dX3_endCopies_39 : decode cX3_endCopies 39 = .ok (.getfield 338, 3) := by decide +kernel
theorem dX3_endCopies_42 : decode cX3_endCopies 42 = .ok (.iconst 1, 1) := by decide +kernel
theorem dX3_endCopies_43 : decode cX3_endCopies 43 = .ok (.aload_n 0, 1) := by decide +kernel
theorem dX3_endCopies_44 : decode cX3_endCopies 44 = .ok (.getfield 28, 3) := by decide +kernel
theorem dX3_endCopies_47 : decode cX3_endCopies 47 = .ok (.getfield 220, 3) := by decide +kernel
theorem dX3_endCopies_50 : decode cX3_endCopies 50 = .ok (.ishl, 1) := by decide +kernel
theorem dX3_endCopies_51 : decode cX3_endCopies 51 = .ok (.iconst (-1), 1) := by decide +kernel
theorem dX3_endCopies_52 : decode cX3_endCopies 52 = .ok (.ixor, 1) := by decide +kernel
theorem dX3_endCopies_53 : decode cX3_endCopies 53 = .ok (.iand, 1) := by decide +kernel
theorem dX3_endCopies_54 : decode cX3_endCopies 54 = .ok (.putfield 338, 3) := by decide +kernel
theorem dX3_endCopies_57 : decode cX3_endCopies 57 = .ok (.aload_n 1, 1) := by decide +kernel
theorem dX3_endCopies_58 : decode cX3_endCopies 58 = .ok (.aload_n 0, 1) := by decide +kernel
theorem dX3_endCopies_59 : decode cX3_endCopies 59 = .ok (.getfield 28, 3) := by decide +kernel
theorem dX3_endCopies_62 : decode cX3_endCopies 62 = .ok (.getfield 220, 3) := by decide +kernel
theorem dX3_endCopies_65 : decode cX3_endCopies 65 = .ok (.putfield 170, 3) := by decide +kernel
theorem dX3_endCopies_68 : decode cX3_endCopies 68 = .ok (.iconst 0, 1) := by decide +kernel
theorem dX3_endCopies_69 : decode cX3_endCopies 69 = .ok (.istore_n 3, 1) := by decide +kernel
theorem dX3_endCopies_70 : decode cX3_endCopies 70 = .ok (.iload_n 3, 1) := by decide +kernel
theorem dX3_endCopies_71 : decode cX3_endCopies 71 = .ok (.aload_n 0, 1) := by decide +kernel
theorem dX3_endCopies_72 : decode cX3_endCopies 72 = .ok (.getfield 55, 3) := by decide +kernel
theorem dX3_endCopies_75 : decode cX3_endCopies 75 = .ok (.getfield 167, 3) := by decide +kernel
theorem dX3_endCopies_78 : decode cX3_endCopies 78 = .ok (.if_icmp .ge 27, 3) := by decide +kernel
theorem dX3_endCopies_81 : decode cX3_endCopies 81 = .ok (.aload_n 1, 1) := by decide +kernel
theorem dX3_endCopies_82 : decode cX3_endCopies 82 = .ok (.iload_n 3, 1) := by decide +kernel
theorem dX3_endCopies_83 : decode cX3_endCopies 83 = .ok (.invokevirtual 335, 3) := by decide +kernel
theorem dX3_endCopies_86 : decode cX3_endCopies 86 = .ok (.ifCond .eq 13, 3) := by decide +kernel
theorem dX3_endCopies_89 : decode cX3_endCopies 89 = .ok (.aload_n 0, 1) := by decide +kernel
theorem dX3_endCopies_90 : decode cX3_endCopies 90 = .ok (.getfield 44, 3) := by decide +kernel
theorem dX3_endCopies_93 : decode cX3_endCopies 93 = .ok (.iload_n 3, 1) := by decide +kernel
theorem dX3_endCopies_94 : decode cX3_endCopies 94 = .ok (.dup2, 1) := by decide +kernel
theorem dX3_endCopies_95 : decode cX3_endCopies 95 = .ok (.iaload, 1) := by decide +kernel
theorem dX3_endCopies_96 : decode cX3_endCopies 96 = .ok (.iconst 1, 1) := by decide +kernel
theorem dX3_endCopies_97 : decode cX3_endCopies 97 = .ok (.isub, 1) := by decide +kernel
theorem dX3_endCopies_98 : decode cX3_endCopies 98 = .ok (.iastore, 1) := by decide +kernel
theorem dX3_endCopies_99 : decode cX3_endCopies 99 = .ok (.iinc 3 1, 3) := by decide +kernel
theorem dX3_endCopies_102 : decode cX3_endCopies 102 = .ok (.goto (-32), 3) := by decide +kernel
theorem dX3_endCopies_105 : decode cX3_endCopies 105 = .ok (.aload_n 1, 1) := by decide +kernel
theorem dX3_endCopies_106 : decode cX3_endCopies 106 = .ok (.iconst 0, 1) := by decide +kernel
theorem dX3_endCopies_107 : decode cX3_endCopies 107 = .ok (.putfield 338, 3) := by decide +kernel
theorem dX3_endCopies_110 : decode cX3_endCopies 110 = .ok (.iload_n 2, 1) := by decide +kernel
theorem dX3_endCopies_111 : decode cX3_endCopies 111 = .ok (.ireturn, 1) := by decide +kernel
theorem dX3_enterInBills_0 : decode cX3_enterInBills 0 = .ok (.aload_n 2, 1) := by decide +kernel
theorem dX3_enterInBills_1 : decode cX3_enterInBills 1 = .ok (.dup, 1) := by decide +kernel
theorem dX3_enterInBills_2 : decode cX3_enterInBills 2 = .ok (.getfield 346, 3) := by decide +kernel
theorem dX3_enterInBills_5 : decode cX3_enterInBills 5 = .ok (.aload_n 0, 1) := by decide +kernel
theorem dX3_enterInBills_6 : decode cX3_enterInBills 6 = .ok (.getfield 28, 3) := by decide +kernel
theorem dX3_enterInBills_9 : decode cX3_enterInBills 9 = .ok (.getfield 240, 3) := by decide +kernel
theorem dX3_enterInBills_12 : decode cX3_enterInBills 12 = .ok (.iadd, 1) := by decide +kernel
theorem dX3_enterInBills_13 : decode cX3_enterInBills 13 = .ok (.putfield 346, 3) := by decide +kernel
theorem dX3_enterInBills_16 : decode cX3_enterInBills 16 = .ok (.aload_n 1, 1) := by decide +kernel
theorem dX3_enterInBills_17 : decode cX3_enterInBills 17 = .ok (.dup, 1) := by decide +kernel
theorem dX3_enterInBills_18 : decode cX3_enterInBills 18 = .ok (.getfield 349, 3) := by decide +kernel
theorem dX3_enterInBills_21 : decode cX3_enterInBills 21 = .ok (.aload_n 0, 1) := by decide +kernel
theorem dX3_enterInBills_22 : decode cX3_enterInBills 22 = .ok (.getfield 28, 3) := by decide +kernel
theorem dX3_enterInBills_25 : decode cX3_enterInBills 25 = .ok (.getfield 240, 3) := by decide +kernel
theorem dX3_enterInBills_28 : decode cX3_enterInBills 28 = .ok (.iadd, 1) := by decide +kernel
theorem dX3_enterInBills_29 : decode cX3_enterInBills 29 = .ok (.putfield 349, 3) := by decide +kernel
theorem dX3_enterInBills_32 : decode cX3_enterInBills 32 = .ok (.aload_n 0, 1) := by decide +kernel
theorem dX3_enterInBills_33 : decode cX3_enterInBills 33 = .ok (.getfield 48, 3) := by decide +kernel
theorem dX3_enterInBills_36 : decode cX3_enterInBills 36 = .ok (.aload_n 0, 1) := by decide +kernel
theorem dX3_enterInBills_37 : decode cX3_enterInBills 37 = .ok (.getfield 28, 3) := by decide +kernel
theorem dX3_enterInBills_40 : decode cX3_enterInBills 40 = .ok (.getfield 220, 3) := by decide +kernel
theorem dX3_enterInBills_43 : decode cX3_enterInBills 43 = .ok (.dup2, 1) := by decide +kernel
theorem dX3_enterInBills_44 : decode cX3_enterInBills 44 = .ok (.iaload, 1) := by decide +kernel
theorem dX3_enterInBills_45 : decode cX3_enterInBills 45 = .ok (.aload_n 0, 1) := by decide +kernel
theorem dX3_enterInBills_46 : decode cX3_enterInBills 46 = .ok (.getfield 28, 3) := by decide +kernel
theorem dX3_enterInBills_49 : decode cX3_enterInBills 49 = .ok (.getfield 240, 3) := by decide +kernel
theorem dX3_enterInBills_52 : decode cX3_enterInBills 52 = .ok (.iadd, 1) := by decide +kernel
theorem dX3_enterInBills_53 : decode cX3_enterInBills 53 = .ok (.iastore, 1) := by decide +kernel
theorem dX3_enterInBills_54 : decode cX3_enterInBills 54 = .ok (.aload_n 0, 1) := by decide +kernel
theorem dX3_enterInBills_55 : decode cX3_enterInBills 55 = .ok (.dup, 1) := by decide +kernel
theorem dX3_enterInBills_56 : decode cX3_enterInBills 56 = .ok (.getfield 103, 3) := by decide +kernel
theorem dX3_enterInBills_59 : decode cX3_enterInBills 59 = .ok (.aload_n 0, 1) := by decide +kernel
theorem dX3_enterInBills_60 : decode cX3_enterInBills 60 = .ok (.getfield 28, 3) := by decide +kernel
theorem dX3_enterInBills_63 : decode cX3_enterInBills 63 = .ok (.getfield 240, 3) := by decide +kernel
theorem dX3_enterInBills_66 : decode cX3_enterInBills 66 = .ok (.iadd, 1) := by decide +kernel
theorem dX3_enterInBills_67 : decode cX3_enterInBills 67 = .ok (.putfield 103, 3) := by decide +kernel
theorem dX3_enterInBills_70 : decode cX3_enterInBills 70 = .ok (.aload_n 0, 1) := by decide +kernel
theorem dX3_enterInBills_71 : decode cX3_enterInBills 71 = .ok (.dup, 1) := by decide +kernel
theorem dX3_enterInBills_72 : decode cX3_enterInBills 72 = .ok (.getfield 100, 3) := by decide +kernel
theorem dX3_enterInBills_75 : decode cX3_enterInBills 75 = .ok (.iconst 1, 1) := by decide +kernel
theorem dX3_enterInBills_76 : decode cX3_enterInBills 76 = .ok (.iadd, 1) := by decide +kernel
theorem dX3_enterInBills_77 : decode cX3_enterInBills 77 = .ok (.putfield 100, 3) := by decide +kernel
theorem dX3_enterInBills_80 : decode cX3_enterInBills 80 = .ok (.aload_n 0, 1) := by decide +kernel
theorem dX3_enterInBills_81 : decode cX3_enterInBills 81 = .ok (.getfield 73, 3) := by decide +kernel
theorem dX3_enterInBills_84 : decode cX3_enterInBills 84 = .ok (.aload_n 0, 1) := by decide +kernel
theorem dX3_enterInBills_85 : decode cX3_enterInBills 85 = .ok (.getfield 51, 3) := by decide +kernel
theorem dX3_enterInBills_88 : decode cX3_enterInBills 88 = .ok (.aload_n 0, 1) := by decide +kernel
theorem dX3_enterInBills_89 : decode cX3_enterInBills 89 = .ok (.getfield 28, 3) := by decide +kernel
theorem dX3_enterInBills_92 : decode cX3_enterInBills 92 = .ok (.invokevirtual 350, 3) := by decide +kernel
theorem dX3_enterInBills_95 : decode cX3_enterInBills 95 = .ok (.return_, 1) := by decide +kernel
end
section
theorem dX11_init_0 : decode cX11_init 0 = .ok (.aload_n 0, 1) := by decide +kernel
theorem dX11_init_1 : decode cX11_init 1 = .ok (.invokespecial 1, 3) := by decide +kernel
theorem dX11_init_4 : decode cX11_init 4 = .ok (.aload_n 0, 1) := by decide +kernel
theorem dX11_init_5 : decode cX11_init 5 = .ok (.new 7, 3) := by decide +kernel
theorem dX11_init_8 : decode cX11_init 8 = .ok (.dup, 1) := by decide +kernel
theorem dX11_init_9 : decode cX11_init 9 = .ok (.iconst 2, 1) := by decide +kernel
theorem dX11_init_10 : decode cX11_init 10 = .ok (.iload_n 1, 1) := by decide +kernel
theorem dX11_init_11 : decode cX11_init 11 = .ok (.iconst 3, 1) := by decide +kernel
theorem dX11_init_12 : decode cX11_init 12 = .ok (.invokestatic 9, 3) := by decide +kernel
theorem dX11_init_15 : decode cX11_init 15 = .ok (.iadd, 1) := by decide +kernel
theorem dX11_init_16 : decode cX11_init 16 = .ok (.iconst 1, 1) := by decide +kernel
theorem dX11_init_17 : decode cX11_init 17 = .ok (.iload_n 2, 1) := by decide +kernel
theorem dX11_init_18 : decode cX11_init 18 = .ok (.iconst 3, 1) := by decide +kernel
theorem dX11_init_19 : decode cX11_init 19 = .ok (.invokestatic 9, 3) := by decide +kernel
theorem dX11_init_22 : decode cX11_init 22 = .ok (.iadd, 1) := by decide +kernel
theorem dX11_init_23 : decode cX11_init 23 = .ok (.iconst 4, 1) := by decide +kernel
theorem dX11_init_24 : decode cX11_init 24 = .ok (.iload_n 3, 1) := by decide +kernel
theorem dX11_init_25 : decode cX11_init 25 = .ok (.bipush 9, 2) := by decide +kernel
theorem dX11_init_27 : decode cX11_init 27 = .ok (.invokestatic 9, 3) := by decide +kernel
theorem dX11_init_30 : decode cX11_init 30 = .ok (.iadd, 1) := by decide +kernel
theorem dX11_init_31 : decode cX11_init 31 = .ok (.invokespecial 15, 3) := by decide +kernel
theorem dX11_init_34 : decode cX11_init 34 = .ok (.putfield 18, 3) := by decide +kernel
theorem dX11_init_37 : decode cX11_init 37 = .ok (.bipush 10, 2) := by decide +kernel
theorem dX11_init_39 : decode cX11_init 39 = .ok (.anewarray 24, 3) := by decide +kernel
theorem dX11_init_42 : decode cX11_init 42 = .ok (.astore 4, 2) := by decide +kernel
theorem dX11_init_44 : decode cX11_init 44 = .ok (.iconst 0, 1) := by decide +kernel
theorem dX11_init_45 : decode cX11_init 45 = .ok (.istore 5, 2) := by decide +kernel
theorem dX11_init_47 : decode cX11_init 47 = .ok (.iload 5, 2) := by decide +kernel
theorem dX11_init_49 : decode cX11_init 49 = .ok (.bipush 10, 2) := by decide +kernel
theorem dX11_init_51 : decode cX11_init 51 = .ok (.if_icmp .ge 21, 3) := by decide +kernel
theorem dX11_init_54 : decode cX11_init 54 = .ok (.aload 4, 2) := by decide +kernel
theorem dX11_init_56 : decode cX11_init 56 = .ok (.iload 5, 2) := by decide +kernel
theorem dX11_init_58 : decode cX11_init 58 = .ok (.new 24, 3) := by decide +kernel
theorem dX11_init_61 : decode cX11_init 61 = .ok (.dup, 1) := by decide +kernel
theorem dX11_init_62 : decode cX11_init 62 = .ok (.invokespecial 26, 3) := by decide +kernel
theorem dX11_init_65 : decode cX11_init 65 = .ok (.aastore, 1) := by decide +kernel
theorem dX11_init_66 : decode cX11_init 66 = .ok (.iinc 5 1, 3) := by decide +kernel
theorem dX11_init_69 : decode cX11_init 69 = .ok (.goto (-22), 3) := by decide +kernel
theorem dX11_init_72 : decode cX11_init 72 = .ok (.aload_n 0, 1) := by decide +kernel
theorem dX11_init_73 : decode cX11_init 73 = .ok (.new 27, 3) := by decide +kernel
theorem dX11_init_76 : decode cX11_init 76 = .ok (.dup, 1) := by decide +kernel
theorem dX11_init_77 : decode cX11_init 77 = .ok (.aload_n 0, 1) := by decide +kernel
theorem dX11_init_78 : decode cX11_init 78 = .ok (.getfield 18, 3) := by decide +kernel
theorem dX11_init_81 : decode cX11_init 81 = .ok (.aload 4, 2) := by decide +kernel
theorem dX11_init_83 : decode cX11_init 83 = .ok (.sipush 300, 3) := by decide +kernel
theorem dX11_init_86 : decode cX11_init 86 = .ok (.invokespecial 29, 3) := by decide +kernel
theorem dX11_init_89 : decode cX11_init 89 = .ok (.putfield 32, 3) := by decide +kernel
theorem dX11_init_92 : decode cX11_init 92 = .ok (.aload_n 0, 1) := by decide +kernel
theorem dX11_init_93 : decode cX11_init 93 = .ok (.new 27, 3) := by decide +kernel
theorem dX11_init_96 : decode cX11_init 96 = .ok (.dup, 1) := by decide +kernel
theorem dX11_init_97 : decode cX11_init 97 = .ok (.aload_n 0, 1) := by decide +kernel
theorem dX11_init_98 : decode cX11_init 98 = .ok (.getfield 18, 3) := by decide +kernel
theorem dX11_init_101 : decode cX11_init 101 = .ok (.aload 4, 2) := by decide +kernel
theorem dX11_init_103 : decode cX11_init 103 = .ok (.iconst 0, 1) := by decide +kernel
theorem dX11_init_104 : decode cX11_init 104 = .ok (.invokespecial 29, 3) := by decide +kernel
theorem dX11_init_107 : decode cX11_init 107 = .ok (.putfield 36, 3) := by decide +kernel
theorem dX11_init_110 : decode cX11_init 110 = .ok (.aload_n 0, 1) := by decide +kernel
theorem dX11_init_111 : decode cX11_init 111 = .ok (.bipush 8, 2) := by decide +kernel
theorem dX11_init_113 : decode cX11_init 113 = .ok (.anewarray 39, 3) := by decide +kernel
theorem dX11_init_116 : decode cX11_init 116 = .ok (.putfield 41, 3) := by decide +kernel
theorem dX11_init_119 : decode cX11_init 119 = .ok (.iconst 0, 1) := by decide +kernel
theorem dX11_init_120 : decode cX11_init 120 = .ok (.istore 5, 2) := by decide +kernel
theorem dX11_init_122 : decode cX11_init 122 = .ok (.iload 5, 2) := by decide +kernel
theorem dX11_init_124 : decode cX11_init 124 = .ok (.bipush 8, 2) := by decide +kernel
theorem dX11_init_126 : decode cX11_init 126 = .ok (.if_icmp .ge 23, 3) := by decide +kernel
theorem dX11_init_129 : decode cX11_init 129 = .ok (.aload_n 0, 1) := by decide +kernel
theorem dX11_init_130 : decode cX11_init 130 = .ok (.getfield 41, 3) := by decide +kernel
theorem dX11_init_133 : decode cX11_init 133 = .ok (.iload 5, 2) := by decide +kernel
theorem dX11_init_135 : decode cX11_init 135 = .ok (.new 39, 3) := by decide +kernel
theorem dX11_init_138 : decode cX11_init 138 = .ok (.dup, 1) := by decide +kernel
theorem dX11_init_139 : decode cX11_init 139 = .ok (.invokespecial 45, 3) := by decide +kernel
theorem dX11_init_142 : decode cX11_init 142 = .ok (.aastore, 1) := by decide +kernel
theorem dX11_init_143 : decode cX11_init 143 = .ok (.iinc 5 1, 3) := by decide +kernel
theorem dX11_init_146 : decode cX11_init 146 = .ok (.goto (-24), 3) := by decide +kernel
theorem dX11_init_149 : decode cX11_init 149 = .ok (.return_, 1) := by decide +kernel
theorem dX11_link_0 : decode cX11_link 0 = .ok (.aload_n 0, 1) := by decide +kernel
theorem dX11_link_1 : decode cX11_link 1 = .ok (.getfield 18, 3) := by decide +kernel
theorem dX11_link_4 : decode cX11_link 4 = .ok (.iload_n 1, 1) := by decide +kernel
theorem dX11_link_5 : decode cX11_link 5 = .ok (.iload_n 2, 1) := by decide +kernel
theorem dX11_link_6 : decode cX11_link 6 = .ok (.invokevirtual 46, 3) := by decide +kernel
theorem dX11_link_9 : decode cX11_link 9 = .ok (.ifCond .eq 23, 3) := by decide +kernel
theorem dX11_link_12 : decode cX11_link 12 = .ok (.iload_n 3, 1) := by decide +kernel
theorem dX11_link_13 : decode cX11_link 13 = .ok (.iconst 0, 1) := by decide +kernel
theorem dX11_link_14 : decode cX11_link 14 = .ok (.bipush 9, 2) := by decide +kernel
theorem dX11_link_16 : decode cX11_link 16 = .ok (.invokestatic 50, 3) := by decide +kernel
theorem dX11_link_19 : decode cX11_link 19 = .ok (.ifCond .eq 13, 3) := by decide +kernel
theorem dX11_link_22 : decode cX11_link 22 = .ok (.iload 4, 2) := by decide +kernel
theorem dX11_link_24 : decode cX11_link 24 = .ok (.iconst 1, 1) := by decide +kernel
theorem dX11_link_25 : decode cX11_link 25 = .ok (.iconst 4, 1) := by decide +kernel
theorem dX11_link_26 : decode cX11_link 26 = .ok (.invokestatic 50, 3) := by decide +kernel
theorem dX11_link_29 : decode cX11_link 29 = .ok (.ifCond .ne 5, 3) := by decide +kernel
theorem dX11_link_32 : decode cX11_link 32 = .ok (.iconst (-1), 1) := by decide +kernel
theorem dX11_link_33 : decode cX11_link 33 = .ok (.ireturn, 1) := by decide +kernel
theorem dX11_link_34 : decode cX11_link 34 = .ok (.aload_n 0, 1) := by decide +kernel
theorem dX11_link_35 : decode cX11_link 35 = .ok (.getfield 32, 3) := by decide +kernel
theorem dX11_link_38 : decode cX11_link 38 = .ok (.getfield 54, 3) := by decide +kernel
theorem dX11_link_41 : decode cX11_link 41 = .ok (.iconst 1, 1) := by decide +kernel
theorem dX11_link_42 : decode cX11_link 42 = .ok (.if_icmp .le 6, 3) := by decide +kernel
theorem dX11_link_45 : decode cX11_link 45 = .ok (.bipush (-3), 2) := by decide +kernel
theorem dX11_link_47 : decode cX11_link 47 = .ok (.ireturn, 1) := by decide +kernel
theorem dX11_link_48 : decode cX11_link 48 = .ok (.aload_n 0, 1) := by decide +kernel
theorem dX11_link_49 : decode cX11_link 49 = .ok (.getfield 18, 3) := by decide +kernel
theorem dX11_link_52 : decode cX11_link 52 = .ok (.getfield 58, 3) := by decide +kernel
theorem dX11_link_55 : decode cX11_link 55 = .ok (.aload_n 0, 1) := by decide +kernel
theorem dX11_link_56 : decode cX11_link 56 = .ok (.getfield 18, 3) := by decide +kernel
theorem dX11_link_59 : decode cX11_link 59 = .ok (.iload_n 1, 1) := by decide +kernel
theorem dX11_link_60 : decode cX11_link 60 = .ok (.iload_n 2, 1) := by decide +kernel
theorem dX11_link_61 : decode cX11_link 61 = .ok (.invokevirtual 62, 3) := by decide +kernel
theorem dX11_link_64 : decode cX11_link 64 = .ok (.iaload, 1) := by decide +kernel
theorem dX11_link_65 : decode cX11_link 65 = .ok (.istore 5, 2) := by decide +kernel
theorem dX11_link_67 : decode cX11_link 67 = .ok (.aload_n 0, 1) := by decide +kernel
theorem dX11_link_68 : decode cX11_link 68 = .ok (.getfield 18, 3) := by decide +kernel
theorem dX11_link_71 : decode cX11_link 71 = .ok (.iload_n 1, 1) := by decide +kernel
theorem dX11_link_72 : decode cX11_link 72 = .ok (.iload_n 2, 1) := by decide +kernel
theorem dX11_link_73 : decode cX11_link 73 = .ok (.iload_n 3, 1) := by decide +kernel
theorem dX11_link_74 : decode cX11_link 74 = .ok (.iload 4, 2) := by decide +kernel
theorem dX11_link_76 : decode cX11_link 76 = .ok (.invokevirtual 65, 3) := by decide +kernel
theorem dX11_link_79 : decode cX11_link 79 = .ok (.iload 5, 2) := by decide +kernel
theorem dX11_link_81 : decode cX11_link 81 = .ok (.ireturn, 1) := by decide +kernel
theorem dX11_far_0 : decode cX11_far 0 = .ok (.aload_n 0, 1) := by decide +kernel
theorem dX11_far_1 : decode cX11_far 1 = .ok (.getfield 18, 3) := by decide +kernel
theorem dX11_far_4 : decode cX11_far 4 = .ok (.iload_n 1, 1) := by decide +kernel
theorem dX11_far_5 : decode cX11_far 5 = .ok (.invokevirtual 69, 3) := by decide +kernel
theorem dX11_far_8 : decode cX11_far 8 = .ok (.ifCond .eq 14, 3) := by decide +kernel
theorem dX11_far_11 : decode cX11_far 11 = .ok (.aload_n 0, 1) := by decide +kernel
theorem dX11_far_12 : decode cX11_far 12 = .ok (.getfield 18, 3) := by decide +kernel
theorem dX11_far_15 : decode cX11_far 15 = .ok (.iload_n 2, 1) := by decide +kernel
theorem dX11_far_16 : decode cX11_far 16 = .ok (.invokevirtual 69, 3) := by decide +kernel
theorem dX11_far_19 : decode cX11_far 19 = .ok (.ifCond .ne 5, 3) := by decide +kernel
theorem dX11_far_22 : decode cX11_far 22 = .ok (.iconst (-1), 1) := by decide +kernel
theorem dX11_far_23 : decode cX11_far 23 = .ok (.ireturn, 1) := by decide +kernel
theorem dX11_far_24 : decode cX11_far 24 = .ok (.aload_n 0, 1) := by decide +kernel
theorem dX11_far_25 : decode cX11_far 25 = .ok (.getfield 18, 3) := by decide +kernel
theorem dX11_far_28 : decode cX11_far 28 = .ok (.iload_n 1, 1) := by decide +kernel
theorem dX11_far_29 : decode cX11_far 29 = .ok (.iload_n 2, 1) := by decide +kernel
theorem dX11_far_30 : decode cX11_far 30 = .ok (.invokevirtual 73, 3) := by decide +kernel
theorem dX11_far_33 : decode cX11_far 33 = .ok (.ifCond .eq 15, 3) := by decide +kernel
theorem dX11_far_36 : decode cX11_far 36 = .ok (.aload_n 0, 1) := by decide +kernel
theorem dX11_far_37 : decode cX11_far 37 = .ok (.getfield 18, 3) := by decide +kernel
theorem dX11_far_40 : decode cX11_far 40 = .ok (.iload_n 1, 1) := by decide +kernel
theorem dX11_far_41 : decode cX11_far 41 = .ok (.iload_n 2, 1) := by decide +kernel
theorem dX11_far_42 : decode cX11_far 42 = .ok (.invokevirtual 76, 3) := by decide +kernel
theorem dX11_far_45 : decode cX11_far 45 = .ok (.goto 5, 3) := by decide +kernel
theorem dX11_far_48 : decode cX11_far 48 = .ok (.bipush (-2), 2) := by decide +kernel
theorem dX11_far_50 : decode cX11_far 50 = .ok (.ireturn, 1) := by decide +kernel
theorem dX11_way_0 : decode cX11_way 0 = .ok (.aload_n 0, 1) := by decide +kernel
theorem dX11_way_1 : decode cX11_way 1 = .ok (.getfield 18, 3) := by decide +kernel
theorem dX11_way_4 : decode cX11_way 4 = .ok (.iload_n 1, 1) := by decide +kernel
theorem dX11_way_5 : decode cX11_way 5 = .ok (.invokevirtual 69, 3) := by decide +kernel
theorem dX11_way_8 : decode cX11_way 8 = .ok (.ifCond .eq 18, 3) := by decide +kernel
theorem dX11_way_11 : decode cX11_way 11 = .ok (.aload_n 0, 1) := by decide +kernel
theorem dX11_way_12 : decode cX11_way 12 = .ok (.getfield 18, 3) := by decide +kernel
theorem dX11_way_15 : decode cX11_way 15 = .ok (.iload_n 2, 1) := by decide +kernel
theorem dX11_way_16 : decode cX11_way 16 = .ok (.invokevirtual 69, 3) := by decide +kernel
theorem dX11_way_19 : decode cX11_way 19 = .ok (.ifCond .eq 7, 3) := by decide +kernel
theorem dX11_way_22 : decode cX11_way 22 = .ok (.iload_n 3, 1) := by decide +kernel
theorem dX11_way_23 : decode cX11_way 23 = .ok (.ifCond .ge 5, 3) := by decide +kernel
theorem dX11_way_26 : decode cX11_way 26 = .ok (.iconst (-1), 1) := by decide +kernel
theorem dX11_way_27 : decode cX11_way 27 = .ok (.ireturn, 1) := by decide +kernel
theorem dX11_way_28 : decode cX11_way 28 = .ok (.aload_n 0, 1) := by decide +kernel
theorem dX11_way_29 : decode cX11_way 29 = .ok (.getfield 18, 3) := by decide +kernel
theorem dX11_way_32 : decode cX11_way 32 = .ok (.iload_n 1, 1) := by decide +kernel
theorem dX11_way_33 : decode cX11_way 33 = .ok (.iload_n 2, 1) := by decide +kernel
theorem dX11_way_34 : decode cX11_way 34 = .ok (.invokevirtual 73, 3) := by decide +kernel
theorem dX11_way_37 : decode cX11_way 37 = .ok (.ifCond .ne 6, 3) := by decide +kernel
theorem dX11_way_40 : decode cX11_way 40 = .ok (.bipush (-2), 2) := by decide +kernel
theorem dX11_way_42 : decode cX11_way 42 = .ok (.ireturn, 1) := by decide +kernel
theorem dX11_way_43 : decode cX11_way 43 = .ok (.iload_n 3, 1) := by decide +kernel
theorem dX11_way_44 : decode cX11_way 44 = .ok (.aload_n 0, 1) := by decide +kernel
theorem dX11_way_45 : decode cX11_way 45 = .ok (.getfield 18, 3) := by decide +kernel
theorem dX11_way_48 : decode cX11_way 48 = .ok (.getfield 79, 3) := by decide +kernel
theorem dX11_way_51 : decode cX11_way 51 = .ok (.if_icmp .lt 5, 3) := by decide +kernel
theorem dX11_way_54 : decode cX11_way 54 = .ok (.iconst (-1), 1) := by decide +kernel
theorem dX11_way_55 : decode cX11_way 55 = .ok (.ireturn, 1) := by decide +kernel
theorem dX11_way_56 : decode cX11_way 56 = .ok (.iload_n 1, 1) := by decide +kernel
theorem dX11_way_57 : decode cX11_way 57 = .ok (.istore 4, 2) := by decide +kernel
theorem dX11_way_59 : decode cX11_way 59 = .ok (.iconst 0, 1) := by decide +kernel
theorem dX11_way_60 : decode cX11_way 60 = .ok (.istore 5, 2) := by decide +kernel
theorem dX11_way_62 : decode cX11_way 62 = .ok (.iload 5, 2) := by decide +kernel
theorem dX11_way_64 : decode cX11_way 64 = .ok (.iload_n 3, 1) := by decide +kernel
theorem dX11_way_65 : decode cX11_way 65 = .ok (.if_icmp .ge 29, 3) := by decide +kernel
theorem dX11_way_68 : decode cX11_way 68 = .ok (.iload 4, 2) := by decide +kernel
theorem dX11_way_70 : decode cX11_way 70 = .ok (.iload_n 2, 1) := by decide +kernel
theorem dX11_way_71 : decode cX11_way 71 = .ok (.if_icmp .ne 5, 3) := by decide +kernel
theorem dX11_way_74 : decode cX11_way 74 = .ok (.iconst (-1), 1) := by decide +kernel
theorem dX11_way_75 : decode cX11_way 75 = .ok (.ireturn, 1) := by decide +kernel
theorem dX11_way_76 : decode cX11_way 76 = .ok (.aload_n 0, 1) := by decide +kernel
theorem dX11_way_77 : decode cX11_way 77 = .ok (.getfield 18, 3) := by decide +kernel
theorem dX11_way_80 : decode cX11_way 80 = .ok (.iload 4, 2) := by decide +kernel
theorem dX11_way_82 : decode cX11_way 82 = .ok (.iload_n 2, 1) := by decide +kernel
theorem dX11_way_83 : decode cX11_way 83 = .ok (.invokevirtual 82, 3) := by decide +kernel
theorem dX11_way_86 : decode cX11_way 86 = .ok (.istore 4, 2) := by decide +kernel
theorem dX11_way_88 : decode cX11_way 88 = .ok (.iinc 5 1, 3) := by decide +kernel
theorem dX11_way_91 : decode cX11_way 91 = .ok (.goto (-29), 3) := by decide +kernel
theorem dX11_way_94 : decode cX11_way 94 = .ok (.iload 4, 2) := by decide +kernel
theorem dX11_way_96 : decode cX11_way 96 = .ok (.ireturn, 1) := by decide +kernel
theorem dX11_page_0 : decode cX11_page 0 = .ok (.iload_n 1, 1) := by decide +kernel
theorem dX11_page_1 : decode cX11_page 1 = .ok (.iconst 0, 1) := by decide +kernel
theorem dX11_page_2 : decode cX11_page 2 = .ok (.iconst 3, 1) := by decide +kernel
theorem dX11_page_3 : decode cX11_page 3 = .ok (.invokestatic 50, 3) := by decide +kernel
theorem dX11_page_6 : decode cX11_page 6 = .ok (.ifCond .ne 5, 3) := by decide +kernel
theorem dX11_page_9 : decode cX11_page 9 = .ok (.iconst (-1), 1) := by decide +kernel
theorem dX11_page_10 : decode cX11_page 10 = .ok (.ireturn, 1) := by decide +kernel
theorem dX11_page_11 : decode cX11_page 11 = .ok (.aload_n 0, 1) := by decide +kernel
theorem dX11_page_12 : decode cX11_page 12 = .ok (.getfield 32, 3) := by decide +kernel
theorem dX11_page_15 : decode cX11_page 15 = .ok (.getfield 85, 3) := by decide +kernel
theorem dX11_page_18 : decode cX11_page 18 = .ok (.bipush 20, 2) := by decide +kernel
theorem dX11_page_20 : decode cX11_page 20 = .ok (.if_icmp .ne 8, 3) := by decide +kernel
theorem dX11_page_23 : decode cX11_page 23 = .ok (.bipush (-2), 2) := by decide +kernel
theorem dX11_page_25 : decode cX11_page 25 = .ok (.goto 11, 3) := by decide +kernel
theorem dX11_page_28 : decode cX11_page 28 = .ok (.aload_n 0, 1) := by decide +kernel
theorem dX11_page_29 : decode cX11_page 29 = .ok (.getfield 32, 3) := by decide +kernel
theorem dX11_page_32 : decode cX11_page 32 = .ok (.iload_n 1, 1) := by decide +kernel
theorem dX11_page_33 : decode cX11_page 33 = .ok (.invokevirtual 88, 3) := by decide +kernel
theorem dX11_page_36 : decode cX11_page 36 = .ok (.ireturn, 1) := by decide +kernel
theorem dX11_thread_0 : decode cX11_thread 0 = .ok (.aload_n 0, 1) := by decide +kernel
theorem dX11_thread_1 : decode cX11_thread 1 = .ok (.getfield 18, 3) := by decide +kernel
theorem dX11_thread_4 : decode cX11_thread 4 = .ok (.iload_n 1, 1) := by decide +kernel
theorem dX11_thread_5 : decode cX11_thread 5 = .ok (.invokevirtual 69, 3) := by decide +kernel
theorem dX11_thread_8 : decode cX11_thread 8 = .ok (.ifCond .ne 5, 3) := by decide +kernel
theorem dX11_thread_11 : decode cX11_thread 11 = .ok (.iconst (-1), 1) := by decide +kernel
theorem dX11_thread_12 : decode cX11_thread 12 = .ok (.ireturn, 1) := by decide +kernel
theorem dX11_thread_13 : decode cX11_thread 13 = .ok (.aload_n 0, 1) := by decide +kernel
theorem dX11_thread_14 : decode cX11_thread 14 = .ok (.getfield 32, 3) := by decide +kernel
theorem dX11_thread_17 : decode cX11_thread 17 = .ok (.getfield 92, 3) := by decide +kernel
theorem dX11_thread_20 : decode cX11_thread 20 = .ok (.bipush 10, 2) := by decide +kernel
theorem dX11_thread_22 : decode cX11_thread 22 = .ok (.if_icmp .ne 8, 3) := by decide +kernel
theorem dX11_thread_25 : decode cX11_thread 25 = .ok (.bipush (-2), 2) := by decide +kernel
theorem dX11_thread_27 : decode cX11_thread 27 = .ok (.goto 11, 3) := by decide +kernel
theorem dX11_thread_30 : decode cX11_thread 30 = .ok (.aload_n 0, 1) := by decide +kernel
theorem dX11_thread_31 : decode cX11_thread 31 = .ok (.getfield 32, 3) := by decide +kernel
theorem dX11_thread_34 : decode cX11_thread 34 = .ok (.iload_n 1, 1) := by decide +kernel
theorem dX11_thread_35 : decode cX11_thread 35 = .ok (.invokevirtual 95, 3) := by decide +kernel
theorem dX11_thread_38 : decode cX11_thread 38 = .ok (.ireturn, 1) := by decide +kernel
theorem dX11_access_0 : decode cX11_access 0 = .ok (.aload_n 0, 1) := by decide +kernel
theorem dX11_access_1 : decode cX11_access 1 = .ok (.getfield 32, 3) := by decide +kernel
theorem dX11_access_4 : decode cX11_access 4 = .ok (.iload_n 1, 1) := by decide +kernel
theorem dX11_access_5 : decode cX11_access 5 = .ok (.invokevirtual 98, 3) := by decide +kernel
theorem dX11_access_8 : decode cX11_access 8 = .ok (.ifCond .eq 23, 3) := by decide +kernel
theorem dX11_access_11 : decode cX11_access 11 = .ok (.iload_n 2, 1) := by decide +kernel
theorem dX11_access_12 : decode cX11_access 12 = .ok (.iconst 0, 1) := by decide +kernel
theorem dX11_access_13 : decode cX11_access 13 = .ok (.bipush 30, 2) := by decide +kernel
theorem dX11_access_15 : decode cX11_access 15 = .ok (.invokestatic 50, 3) := by decide +kernel
theorem dX11_access_18 : decode cX11_access 18 = .ok (.ifCond .eq 13, 3) := by decide +kernel
theorem dX11_access_21 : decode cX11_access 21 = .ok (.iload_n 3, 1) := by decide +kernel
theorem dX11_access_22 : decode cX11_access 22 = .ok (.iconst 0, 1) := by decide +kernel
theorem dX11_access_23 : decode cX11_access 23 = .ok (.bipush 7, 2) := by decide +kernel
theorem dX11_access_25 : decode cX11_access 25 = .ok (.invokestatic 50, 3) := by decide +kernel
theorem dX11_access_28 : decode cX11_access 28 = .ok (.ifCond .ne 5, 3) := by decide +kernel
theorem dX11_access_31 : decode cX11_access 31 = .ok (.iconst (-1), 1) := by decide +kernel
theorem dX11_access_32 : decode cX11_access 32 = .ok (.ireturn, 1) := by decide +kernel
theorem dX11_access_33 : decode cX11_access 33 = .ok (.aload_n 0, 1) := by decide +kernel
theorem dX11_access_34 : decode cX11_access 34 = .ok (.getfield 32, 3) := by decide +kernel
theorem dX11_access_37 : decode cX11_access 37 = .ok (.getfield 101, 3) := by decide +kernel
theorem dX11_access_40 : decode cX11_access 40 = .ok (.iload_n 1, 1) := by decide +kernel
theorem dX11_access_41 : decode cX11_access 41 = .ok (.aaload, 1) := by decide +kernel
theorem dX11_access_42 : decode cX11_access 42 = .ok (.astore 6, 2) := by decide +kernel
theorem dX11_access_44 : decode cX11_access 44 = .ok (.aload 6, 2) := by decide +kernel
theorem dX11_access_46 : decode cX11_access 46 = .ok (.getfield 105, 3) := by decide +kernel
theorem dX11_access_49 : decode cX11_access 49 = .ok (.ifCond .eq 5, 3) := by decide +kernel
theorem dX11_access_52 : decode cX11_access 52 = .ok (.iconst (-1), 1) := by decide +kernel
theorem dX11_access_53 : decode cX11_access 53 = .ok (.ireturn, 1) := by decide +kernel
theorem dX11_access_54 : decode cX11_access 54 = .ok (.aload 6, 2) := by decide +kernel
theorem dX11_access_56 : decode cX11_access 56 = .ok (.getfield 111, 3) := by decide +kernel
theorem dX11_access_59 : decode cX11_access 59 = .ok (.getfield 115, 3) := by decide +kernel
theorem dX11_access_62 : decode cX11_access 62 = .ok (.bipush 60, 2) := by decide +kernel
theorem dX11_access_64 : decode cX11_access 64 = .ok (.if_icmp .ne 6, 3) := by decide +kernel
theorem dX11_access_67 : decode cX11_access 67 = .ok (.bipush (-2), 2) := by decide +kernel
theorem dX11_access_69 : decode cX11_access 69 = .ok (.ireturn, 1) := by decide +kernel
theorem dX11_access_70 : decode cX11_access 70 = .ok (.aload 6, 2) := by decide +kernel
theorem dX11_access_72 : decode cX11_access 72 = .ok (.getfield 111, 3) := by decide +kernel
theorem dX11_access_75 : decode cX11_access 75 = .ok (.iload_n 2, 1) := by decide +kernel
theorem dX11_access_76 : decode cX11_access 76 = .ok (.iload_n 3, 1) := by decide +kernel
theorem dX11_access_77 : decode cX11_access 77 = .ok (.iload 4, 2) := by decide +kernel
theorem dX11_access_79 : decode cX11_access 79 = .ok (.iload 5, 2) := by decide +kernel
theorem dX11_access_81 : decode cX11_access 81 = .ok (.invokevirtual 118, 3) := by decide +kernel
theorem dX11_access_84 : decode cX11_access 84 = .ok (.ireturn, 1) := by decide +kernel
theorem dX11_rule_0 : decode cX11_rule 0 = .ok (.iload_n 1, 1) := by decide +kernel
theorem dX11_rule_1 : decode cX11_rule 1 = .ok (.iload_n 2, 1) := by decide +kernel
theorem dX11_rule_2 : decode cX11_rule 2 = .ok (.iload_n 3, 1) := by decide +kernel
theorem dX11_rule_3 : decode cX11_rule 3 = .ok (.invokestatic 122, 3) := by decide +kernel
theorem dX11_rule_6 : decode cX11_rule 6 = .ok (.ifCond .ne 5, 3) := by decide +kernel
theorem dX11_rule_9 : decode cX11_rule 9 = .ok (.iconst (-1), 1) := by decide +kernel
theorem dX11_rule_10 : decode cX11_rule 10 = .ok (.ireturn, 1) := by decide +kernel
theorem dX11_rule_11 : decode cX11_rule 11 = .ok (.aload_n 0, 1) := by decide +kernel
theorem dX11_rule_12 : decode cX11_rule 12 = .ok (.getfield 32, 3) := by decide +kernel
theorem dX11_rule_15 : decode cX11_rule 15 = .ok (.getfield 125, 3) := by decide +kernel
theorem dX11_rule_18 : decode cX11_rule 18 = .ok (.iload_n 1, 1) := by decide +kernel
theorem dX11_rule_19 : decode cX11_rule 19 = .ok (.iload_n 2, 1) := by decide +kernel
theorem dX11_rule_20 : decode cX11_rule 20 = .ok (.iload_n 3, 1) := by decide +kernel
theorem dX11_rule_21 : decode cX11_rule 21 = .ok (.invokevirtual 129, 3) := by decide +kernel
theorem dX11_rule_24 : decode cX11_rule 24 = .ok (.iconst 0, 1) := by decide +kernel
theorem dX11_rule_25 : decode cX11_rule 25 = .ok (.ireturn, 1) := by decide +kernel
theorem dX11_prices_0 : decode cX11_prices 0 = .ok (.iload_n 1, 1) := by decide +kernel
theorem dX11_prices_1 : decode cX11_prices 1 = .ok (.iconst 0, 1) := by decide +kernel
theorem dX11_prices_2 : decode cX11_prices 2 = .ok (.bipush 20, 2) := by decide +kernel
theorem dX11_prices_4 : decode cX11_prices 4 = .ok (.invokestatic 50, 3) := by decide +kernel
theorem dX11_prices_7 : decode cX11_prices 7 = .ok (.ifCond .eq 13, 3) := by decide +kernel
theorem dX11_prices_10 : decode cX11_prices 10 = .ok (.iload_n 2, 1) := by decide +kernel
theorem dX11_prices_11 : decode cX11_prices 11 = .ok (.iconst 0, 1) := by decide +kernel
theorem dX11_prices_12 : decode cX11_prices 12 = .ok (.bipush 50, 2) := by decide +kernel
theorem dX11_prices_14 : decode cX11_prices 14 = .ok (.invokestatic 50, 3) := by decide +kernel
theorem dX11_prices_17 : decode cX11_prices 17 = .ok (.ifCond .ne 5, 3) := by decide +kernel
theorem dX11_prices_20 : decode cX11_prices 20 = .ok (.iconst (-1), 1) := by decide +kernel
theorem dX11_prices_21 : decode cX11_prices 21 = .ok (.ireturn, 1) := by decide +kernel
theorem dX11_prices_22 : decode cX11_prices 22 = .ok (.aload_n 0, 1) := by decide +kernel
theorem dX11_prices_23 : decode cX11_prices 23 = .ok (.getfield 32, 3) := by decide +kernel
theorem dX11_prices_26 : decode cX11_prices 26 = .ok (.getfield 125, 3) := by decide +kernel
theorem dX11_prices_29 : decode cX11_prices 29 = .ok (.iload_n 1, 1) := by decide +kernel
theorem dX11_prices_30 : decode cX11_prices 30 = .ok (.iload_n 2, 1) := by decide +kernel
theorem dX11_prices_31 : decode cX11_prices 31 = .ok (.invokevirtual 134, 3) := by decide +kernel
theorem dX11_prices_34 : decode cX11_prices 34 = .ok (.iconst 0, 1) := by decide +kernel
theorem dX11_prices_35 : decode cX11_prices 35 = .ok (.ireturn, 1) := by decide +kernel
theorem dX11_place_0 : decode cX11_place 0 = .ok (.aload_n 0, 1) := by decide +kernel
theorem dX11_place_1 : decode cX11_place 1 = .ok (.getfield 32, 3) := by decide +kernel
theorem dX11_place_4 : decode cX11_place 4 = .ok (.iload_n 1, 1) := by decide +kernel
theorem dX11_place_5 : decode cX11_place 5 = .ok (.invokevirtual 138, 3) := by decide +kernel
theorem dX11_place_8 : decode cX11_place 8 = .ok (.ifCond .eq 14, 3) := by decide +kernel
theorem dX11_place_11 : decode cX11_place 11 = .ok (.aload_n 0, 1) := by decide +kernel
theorem dX11_place_12 : decode cX11_place 12 = .ok (.getfield 18, 3) := by decide +kernel
theorem dX11_place_15 : decode cX11_place 15 = .ok (.iload_n 2, 1) := by decide +kernel
theorem dX11_place_16 : decode cX11_place 16 = .ok (.invokevirtual 69, 3) := by decide +kernel
theorem dX11_place_19 : decode cX11_place 19 = .ok (.ifCond .ne 5, 3) := by decide +kernel
theorem dX11_place_22 : decode cX11_place 22 = .ok (.iconst (-1), 1) := by decide +kernel
theorem dX11_place_23 : decode cX11_place 23 = .ok (.ireturn, 1) := by decide +kernel
theorem dX11_place_24 : decode cX11_place 24 = .ok (.aload_n 0, 1) := by decide +kernel
theorem dX11_place_25 : decode cX11_place 25 = .ok (.getfield 32, 3) := by decide +kernel
theorem dX11_place_28 : decode cX11_place 28 = .ok (.getfield 141, 3) := by decide +kernel
theorem dX11_place_31 : decode cX11_place 31 = .ok (.iload_n 1, 1) := by decide +kernel
theorem dX11_place_32 : decode cX11_place 32 = .ok (.aaload, 1) := by decide +kernel
theorem dX11_place_33 : decode cX11_place 33 = .ok (.astore_n 3, 1) := by decide +kernel
theorem dX11_place_34 : decode cX11_place 34 = .ok (.aload_n 0, 1) := by decide +kernel
theorem dX11_place_35 : decode cX11_place 35 = .ok (.getfield 32, 3) := by decide +kernel
theorem dX11_place_38 : decode cX11_place 38 = .ok (.aload_n 3, 1) := by decide +kernel
theorem dX11_place_39 : decode cX11_place 39 = .ok (.iload_n 2, 1) := by decide +kernel
theorem dX11_place_40 : decode cX11_place 40 = .ok (.invokevirtual 145, 3) := by decide +kernel
theorem dX11_place_43 : decode cX11_place 43 = .ok (.ifCond .ne 6, 3) := by decide +kernel
theorem dX11_place_46 : decode cX11_place 46 = .ok (.bipush (-2), 2) := by decide +kernel
theorem dX11_place_48 : decode cX11_place 48 = .ok (.ireturn, 1) := by decide +kernel
theorem dX11_place_49 : decode cX11_place 49 = .ok (.aload_n 3, 1) := by decide +kernel
theorem dX11_place_50 : decode cX11_place 50 = .ok (.getfield 149, 3) := by decide +kernel
theorem dX11_place_53 : decode cX11_place 53 = .ok (.iconst (-1), 1) := by decide +kernel
theorem dX11_place_54 : decode cX11_place 54 = .ok (.if_icmp .eq 6, 3) := by decide +kernel
theorem dX11_place_57 : decode cX11_place 57 = .ok (.bipush (-3), 2) := by decide +kernel
theorem dX11_place_59 : decode cX11_place 59 = .ok (.ireturn, 1) := by decide +kernel
theorem dX11_place_60 : decode cX11_place 60 = .ok (.aload_n 0, 1) := by decide +kernel
theorem dX11_place_61 : decode cX11_place 61 = .ok (.getfield 32, 3) := by decide +kernel
theorem dX11_place_64 : decode cX11_place 64 = .ok (.aload_n 3, 1) := by decide +kernel
theorem dX11_place_65 : decode cX11_place 65 = .ok (.iload_n 2, 1) := by decide +kernel
theorem dX11_place_66 : decode cX11_place 66 = .ok (.invokevirtual 154, 3) := by decide +kernel
theorem dX11_place_69 : decode cX11_place 69 = .ok (.iconst 0, 1) := by decide +kernel
theorem dX11_place_70 : decode cX11_place 70 = .ok (.ireturn, 1) := by decide +kernel
theorem dX11_settle_0 : decode cX11_settle 0 = .ok (.aload_n 0, 1) := by decide +kernel
theorem dX11_settle_1 : decode cX11_settle 1 = .ok (.getfield 32, 3) := by decide +kernel
theorem dX11_settle_4 : decode cX11_settle 4 = .ok (.iload_n 1, 1) := by decide +kernel
theorem dX11_settle_5 : decode cX11_settle 5 = .ok (.invokevirtual 98, 3) := by decide +kernel
theorem dX11_settle_8 : decode cX11_settle 8 = .ok (.ifCond .eq 14, 3) := by decide +kernel
theorem dX11_settle_11 : decode cX11_settle 11 = .ok (.aload_n 0, 1) := by decide +kernel
theorem dX11_settle_12 : decode cX11_settle 12 = .ok (.getfield 18, 3) := by decide +kernel
theorem dX11_settle_15 : decode cX11_settle 15 = .ok (.iload_n 2, 1) := by decide +kernel
theorem dX11_settle_16 : decode cX11_settle 16 = .ok (.invokevirtual 69, 3) := by decide +kernel
theorem dX11_settle_19 : decode cX11_settle 19 = .ok (.ifCond .ne 5, 3) := by decide +kernel
theorem dX11_settle_22 : decode cX11_settle 22 = .ok (.iconst (-1), 1) := by decide +kernel
theorem dX11_settle_23 : decode cX11_settle 23 = .ok (.ireturn, 1) := by decide +kernel
theorem dX11_settle_24 : decode cX11_settle 24 = .ok (.aload_n 0, 1) := by decide +kernel
theorem dX11_settle_25 : decode cX11_settle 25 = .ok (.getfield 32, 3) := by decide +kernel
theorem dX11_settle_28 : decode cX11_settle 28 = .ok (.getfield 101, 3) := by decide +kernel
theorem dX11_settle_31 : decode cX11_settle 31 = .ok (.iload_n 1, 1) := by decide +kernel
theorem dX11_settle_32 : decode cX11_settle 32 = .ok (.aaload, 1) := by decide +kernel
theorem dX11_settle_33 : decode cX11_settle 33 = .ok (.astore_n 3, 1) := by decide +kernel
theorem dX11_settle_34 : decode cX11_settle 34 = .ok (.aload_n 3, 1) := by decide +kernel
theorem dX11_settle_35 : decode cX11_settle 35 = .ok (.getfield 158, 3) := by decide +kernel
theorem dX11_settle_38 : decode cX11_settle 38 = .ok (.ifCond .le 6, 3) := by decide +kernel
theorem dX11_settle_41 : decode cX11_settle 41 = .ok (.bipush (-3), 2) := by decide +kernel
theorem dX11_settle_43 : decode cX11_settle 43 = .ok (.ireturn, 1) := by decide +kernel
theorem dX11_settle_44 : decode cX11_settle 44 = .ok (.aload_n 3, 1) := by decide +kernel
theorem dX11_settle_45 : decode cX11_settle 45 = .ok (.getfield 161, 3) := by decide +kernel
theorem dX11_settle_48 : decode cX11_settle 48 = .ok (.istore 4, 2) := by decide +kernel
theorem dX11_settle_50 : decode cX11_settle 50 = .ok (.aload_n 0, 1) := by decide +kernel
theorem dX11_settle_51 : decode cX11_settle 51 = .ok (.getfield 32, 3) := by decide +kernel
theorem dX11_settle_54 : decode cX11_settle 54 = .ok (.getfield 164, 3) := by decide +kernel
theorem dX11_settle_57 : decode cX11_settle 57 = .ok (.iload 4, 2) := by decide +kernel
theorem dX11_settle_59 : decode cX11_settle 59 = .ok (.iload_n 1, 1) := by decide +kernel
theorem dX11_settle_60 : decode cX11_settle 60 = .ok (.invokevirtual 168, 3) := by decide +kernel
theorem dX11_settle_63 : decode cX11_settle 63 = .ok (.aload_n 0, 1) := by decide +kernel
theorem dX11_settle_64 : decode cX11_settle 64 = .ok (.getfield 32, 3) := by decide +kernel
theorem dX11_settle_67 : decode cX11_settle 67 = .ok (.getfield 164, 3) := by decide +kernel
theorem dX11_settle_70 : decode cX11_settle 70 = .ok (.iload_n 2, 1) := by decide +kernel
theorem dX11_settle_71 : decode cX11_settle 71 = .ok (.iload_n 1, 1) := by decide +kernel
theorem dX11_settle_72 : decode cX11_settle 72 = .ok (.invokevirtual 173, 3) := by decide +kernel
theorem dX11_settle_75 : decode cX11_settle 75 = .ok (.aload_n 3, 1) := by decide +kernel
theorem dX11_settle_76 : decode cX11_settle 76 = .ok (.iload_n 2, 1) := by decide +kernel
theorem dX11_settle_77 : decode cX11_settle 77 = .ok (.putfield 161, 3) := by decide +kernel
theorem dX11_settle_80 : decode cX11_settle 80 = .ok (.iload 4, 2) := by decide +kernel
theorem dX11_settle_82 : decode cX11_settle 82 = .ok (.ireturn, 1) := by decide +kernel
theorem dX11_swap_0 : decode cX11_swap 0 = .ok (.aload_n 0, 1) := by decide +kernel
theorem dX11_swap_1 : decode cX11_swap 1 = .ok (.getfield 32, 3) := by decide +kernel
theorem dX11_swap_4 : decode cX11_swap 4 = .ok (.iload_n 1, 1) := by decide +kernel
theorem dX11_swap_5 : decode cX11_swap 5 = .ok (.invokevirtual 98, 3) := by decide +kernel
theorem dX11_swap_8 : decode cX11_swap 8 = .ok (.ifCond .eq 19, 3) := by decide +kernel
theorem dX11_swap_11 : decode cX11_swap 11 = .ok (.aload_n 0, 1) := by decide +kernel
theorem dX11_swap_12 : decode cX11_swap 12 = .ok (.getfield 32, 3) := by decide +kernel
theorem dX11_swap_15 : decode cX11_swap 15 = .ok (.iload_n 2, 1) := by decide +kernel
theorem dX11_swap_16 : decode cX11_swap 16 = .ok (.invokevirtual 98, 3) := by decide +kernel
theorem dX11_swap_19 : decode cX11_swap 19 = .ok (.ifCond .eq 8, 3) := by decide +kernel
theorem dX11_swap_22 : decode cX11_swap 22 = .ok (.iload_n 1, 1) := by decide +kernel
theorem dX11_swap_23 : decode cX11_swap 23 = .ok (.iload_n 2, 1) := by decide +kernel
theorem dX11_swap_24 : decode cX11_swap 24 = .ok (.if_icmp .ne 5, 3) := by decide +kernel
theorem dX11_swap_27 : decode cX11_swap 27 = .ok (.iconst (-1), 1) := by decide +kernel
theorem dX11_swap_28 : decode cX11_swap 28 = .ok (.ireturn, 1) := by decide +kernel
theorem dX11_swap_29 : decode cX11_swap 29 = .ok (.aload_n 0, 1) := by decide +kernel
theorem dX11_swap_30 : decode cX11_swap 30 = .ok (.getfield 32, 3) := by decide +kernel
theorem dX11_swap_33 : decode cX11_swap 33 = .ok (.getfield 101, 3) := by decide +kernel
theorem dX11_swap_36 : decode cX11_swap 36 = .ok (.iload_n 1, 1) := by decide +kernel
theorem dX11_swap_37 : decode cX11_swap 37 = .ok (.aaload, 1) := by decide +kernel
theorem dX11_swap_38 : decode cX11_swap 38 = .ok (.astore_n 3, 1) := by decide +kernel
theorem dX11_swap_39 : decode cX11_swap 39 = .ok (.aload_n 0, 1) := by decide +kernel
theorem dX11_swap_40 : decode cX11_swap 40 = .ok (.getfield 32, 3) := by decide +kernel
theorem dX11_swap_43 : decode cX11_swap 43 = .ok (.getfield 101, 3) := by decide +kernel
theorem dX11_swap_46 : decode cX11_swap 46 = .ok (.iload_n 2, 1) := by decide +kernel
theorem dX11_swap_47 : decode cX11_swap 47 = .ok (.aaload, 1) := by decide +kernel
theorem dX11_swap_48 : decode cX11_swap 48 = .ok (.astore 4, 2) := by decide +kernel
theorem dX11_swap_50 : decode cX11_swap 50 = .ok (.aload_n 3, 1) := by decide +kernel
theorem dX11_swap_51 : decode cX11_swap 51 = .ok (.getfield 158, 3) := by decide +kernel
theorem dX11_swap_54 : decode cX11_swap 54 = .ok (.ifCond .gt 11, 3) := by decide +kernel
theorem dX11_swap_57 : decode cX11_swap 57 = .ok (.aload 4, 2) := by decide +kernel
theorem dX11_swap_59 : decode cX11_swap 59 = .ok (.getfield 158, 3) := by decide +kernel
theorem dX11_swap_62 : decode cX11_swap 62 = .ok (.ifCond .le 6, 3) := by decide +kernel
theorem dX11_swap_65 : decode cX11_swap 65 = .ok (.bipush (-3), 2) := by decide +kernel
theorem dX11_swap_67 : decode cX11_swap 67 = .ok (.ireturn, 1) := by decide +kernel
theorem dX11_swap_68 : decode cX11_swap 68 = .ok (.aload_n 0, 1) := by decide +kernel
theorem dX11_swap_69 : decode cX11_swap 69 = .ok (.getfield 32, 3) := by decide +kernel
theorem dX11_swap_72 : decode cX11_swap 72 = .ok (.getfield 164, 3) := by decide +kernel
theorem dX11_swap_75 : decode cX11_swap 75 = .ok (.aload_n 3, 1) := by decide +kernel
theorem dX11_swap_76 : decode cX11_swap 76 = .ok (.getfield 161, 3) := by decide +kernel
theorem dX11_swap_79 : decode cX11_swap 79 = .ok (.iload_n 1, 1) := by decide +kernel
theorem dX11_swap_80 : decode cX11_swap 80 = .ok (.aload 4, 2) := by decide +kernel
theorem dX11_swap_82 : decode cX11_swap 82 = .ok (.getfield 161, 3) := by decide +kernel
theorem dX11_swap_85 : decode cX11_swap 85 = .ok (.iload_n 2, 1) := by decide +kernel
theorem dX11_swap_86 : decode cX11_swap 86 = .ok (.invokevirtual 176, 3) := by decide +kernel
theorem dX11_swap_89 : decode cX11_swap 89 = .ok (.aload_n 3, 1) := by decide +kernel
theorem dX11_swap_90 : decode cX11_swap 90 = .ok (.getfield 161, 3) := by decide +kernel
theorem dX11_swap_93 : decode cX11_swap 93 = .ok (.istore 5, 2) := by decide +kernel
theorem dX11_swap_95 : decode cX11_swap 95 = .ok (.aload_n 3, 1) := by decide +kernel
theorem dX11_swap_96 : decode cX11_swap 96 = .ok (.aload 4, 2) := by decide +kernel
theorem dX11_swap_98 : decode cX11_swap 98 = .ok (.getfield 161, 3) := by decide +kernel
theorem dX11_swap_101 : decode cX11_swap 101 = .ok (.putfield 161, 3) := by decide +kernel
theorem dX11_swap_104 : decode cX11_swap 104 = .ok (.aload 4, 2) := by decide +kernel
theorem dX11_swap_106 : decode cX11_swap 106 = .ok (.iload 5, 2) := by decide +kernel
theorem dX11_swap_108 : decode cX11_swap 108 = .ok (.putfield 161, 3) := by decide +kernel
theorem dX11_swap_111 : decode cX11_swap 111 = .ok (.iconst 0, 1) := by decide +kernel
theorem dX11_swap_112 : decode cX11_swap 112 = .ok (.ireturn, 1) := by decide +kernel
theorem dX11_run_0 : decode cX11_run 0 = .ok (.iload_n 1, 1) := by decide +kernel
theorem dX11_run_1 : decode cX11_run 1 = .ok (.iconst 1, 1) := by decide +kernel
theorem dX11_run_2 : decode cX11_run 2 = .ok (.sipush 200, 3) := by decide +kernel
theorem dX11_run_5 : decode cX11_run 5 = .ok (.invokestatic 50, 3) := by decide +kernel
theorem dX11_run_8 : decode cX11_run 8 = .ok (.ifCond .ne 5, 3) := by decide +kernel
theorem dX11_run_11 : decode cX11_run 11 = .ok (.iconst (-1), 1) := by decide +kernel
theorem dX11_run_12 : decode cX11_run 12 = .ok (.ireturn, 1) := by decide +kernel
theorem dX11_run_13 : decode cX11_run 13 = .ok (.aload_n 0, 1) := by decide +kernel
theorem dX11_run_14 : decode cX11_run 14 = .ok (.getfield 32, 3) := by decide +kernel
theorem dX11_run_17 : decode cX11_run 17 = .ok (.getfield 179, 3) := by decide +kernel
theorem dX11_run_20 : decode cX11_run 20 = .ok (.istore_n 2, 1) := by decide +kernel
theorem dX11_run_21 : decode cX11_run 21 = .ok (.iconst 0, 1) := by decide +kernel
theorem dX11_run_22 : decode cX11_run 22 = .ok (.istore_n 3, 1) := by decide +kernel
theorem dX11_run_23 : decode cX11_run 23 = .ok (.iload_n 3, 1) := by decide +kernel
theorem dX11_run_24 : decode cX11_run 24 = .ok (.iload_n 1, 1) := by decide +kernel
theorem dX11_run_25 : decode cX11_run 25 = .ok (.if_icmp .ge 16, 3) := by decide +kernel
theorem dX11_run_28 : decode cX11_run 28 = .ok (.aload_n 0, 1) := by decide +kernel
theorem dX11_run_29 : decode cX11_run 29 = .ok (.getfield 32, 3) := by decide +kernel
theorem dX11_run_32 : decode cX11_run 32 = .ok (.invokevirtual 182, 3) := by decide +kernel
theorem dX11_run_35 : decode cX11_run 35 = .ok (.iinc 3 1, 3) := by decide +kernel
theorem dX11_run_38 : decode cX11_run 38 = .ok (.goto (-15), 3) := by decide +kernel
theorem dX11_run_41 : decode cX11_run 41 = .ok (.aload_n 0, 1) := by decide +kernel
theorem dX11_run_42 : decode cX11_run 42 = .ok (.getfield 32, 3) := by decide +kernel
theorem dX11_run_45 : decode cX11_run 45 = .ok (.getfield 179, 3) := by decide +kernel
theorem dX11_run_48 : decode cX11_run 48 = .ok (.iload_n 2, 1) := by decide +kernel
theorem dX11_run_49 : decode cX11_run 49 = .ok (.isub, 1) := by decide +kernel
theorem dX11_run_50 : decode cX11_run 50 = .ok (.ireturn, 1) := by decide +kernel
theorem dX11_look_0 : decode cX11_look 0 = .ok (.aload_n 0, 1) := by decide +kernel
theorem dX11_look_1 : decode cX11_look 1 = .ok (.getfield 32, 3) := by decide +kernel
theorem dX11_look_4 : decode cX11_look 4 = .ok (.iload_n 1, 1) := by decide +kernel
theorem dX11_look_5 : decode cX11_look 5 = .ok (.invokevirtual 138, 3) := by decide +kernel
theorem dX11_look_8 : decode cX11_look 8 = .ok (.ifCond .ne 5, 3) := by decide +kernel
theorem dX11_look_11 : decode cX11_look 11 = .ok (.iconst (-1), 1) := by decide +kernel
theorem dX11_look_12 : decode cX11_look 12 = .ok (.ireturn, 1) := by decide +kernel
theorem dX11_look_13 : decode cX11_look 13 = .ok (.aload_n 0, 1) := by decide +kernel
theorem dX11_look_14 : decode cX11_look 14 = .ok (.getfield 32, 3) := by decide +kernel
theorem dX11_look_17 : decode cX11_look 17 = .ok (.getfield 141, 3) := by decide +kernel
theorem dX11_look_20 : decode cX11_look 20 = .ok (.iload_n 1, 1) := by decide +kernel
theorem dX11_look_21 : decode cX11_look 21 = .ok (.aaload, 1) := by decide +kernel
theorem dX11_look_22 : decode cX11_look 22 = .ok (.astore_n 3, 1) := by decide +kernel
theorem dX11_look_23 : decode cX11_look 23 = .ok (.iload_n 2, 1) := by decide +kernel
theorem dX11_look_24 : decode cX11_look 24 = .ok (.tableswitch 100 0 6 #[44, 49, 67, 72, 85, 90, 95], 44) := by decide +kernel
theorem dX11_look_68 : decode cX11_look 68 = .ok (.aload_n 3, 1) := by decide +kernel
theorem dX11_look_69 : decode cX11_look 69 = .ok (.getfield 185, 3) := by decide +kernel
theorem dX11_look_72 : decode cX11_look 72 = .ok (.ireturn, 1) := by decide +kernel
theorem dX11_look_73 : decode cX11_look 73 = .ok (.aload_n 3, 1) := by decide +kernel
theorem dX11_look_74 : decode cX11_look 74 = .ok (.getfield 149, 3) := by decide +kernel
theorem dX11_look_77 : decode cX11_look 77 = .ok (.iconst (-1), 1) := by decide +kernel
theorem dX11_look_78 : decode cX11_look 78 = .ok (.if_icmp .ne 8, 3) := by decide +kernel
theorem dX11_look_81 : decode cX11_look 81 = .ok (.bipush (-2), 2) := by decide +kernel
theorem dX11_look_83 : decode cX11_look 83 = .ok (.goto 7, 3) := by decide +kernel
theorem dX11_look_86 : decode cX11_look 86 = .ok (.aload_n 3, 1) := by decide +kernel
theorem dX11_look_87 : decode cX11_look 87 = .ok (.getfield 149, 3) := by decide +kernel
theorem dX11_look_90 : decode cX11_look 90 = .ok (.ireturn, 1) := by decide +kernel
theorem dX11_look_91 : decode cX11_look 91 = .ok (.aload_n 3, 1) := by decide +kernel
theorem dX11_look_92 : decode cX11_look 92 = .ok (.getfield 188, 3) := by decide +kernel
theorem dX11_look_95 : decode cX11_look 95 = .ok (.ireturn, 1) := by decide +kernel
theorem dX11_look_96 : decode cX11_look 96 = .ok (.aload_n 3, 1) := by decide +kernel
theorem dX11_look_97 : decode cX11_look 97 = .ok (.getfield 191, 3) := by decide +kernel
theorem dX11_look_100 : decode cX11_look 100 = .ok (.ifCond .eq 7, 3) := by decide +kernel
theorem dX11_look_103 : decode cX11_look 103 = .ok (.iconst 1, 1) := by decide +kernel
theorem dX11_look_104 : decode cX11_look 104 = .ok (.goto 4, 3) := by decide +kernel
theorem dX11_look_107 : decode cX11_look 107 = .ok (.iconst 0, 1) := by decide +kernel
theorem dX11_look_108 : decode cX11_look 108 = .ok (.ireturn, 1) := by decide +kernel
theorem dX11_look_109 : decode cX11_look 109 = .ok (.aload_n 3, 1) := by decide +kernel
theorem dX11_look_110 : decode cX11_look 110 = .ok (.getfield 194, 3) := by decide +kernel
theorem dX11_look_113 : decode cX11_look 113 = .ok (.ireturn, 1) := by decide +kernel
theorem dX11_look_114 : decode cX11_look 114 = .ok (.aload_n 3, 1) := by decide +kernel
theorem dX11_look_115 : decode cX11_look 115 = .ok (.getfield 197, 3) := by decide +kernel
theorem dX11_look_118 : decode cX11_look 118 = .ok (.ireturn, 1) := by decide +kernel
theorem dX11_look_119 : decode cX11_look 119 = .ok (.aload_n 3, 1) := by decide +kernel
theorem dX11_look_120 : decode cX11_look 120 = .ok (.getfield 200, 3) := by decide +kernel
theorem dX11_look_123 : decode cX11_look 123 = .ok (.ireturn, 1) := by decide +kernel
theorem dX11_look_124 : decode cX11_look 124 = .ok (.iconst (-1), 1) := by decide +kernel
theorem dX11_look_125 : decode cX11_look 125 = .ok (.ireturn, 1) := by decide +kernel
theorem dX11_fault_0 : decode cX11_fault 0 = .ok (.aload_n 0, 1) := by decide +kernel
theorem dX11_fault_1 : decode cX11_fault 1 = .ok (.getfield 32, 3) := by decide +kernel
theorem dX11_fault_4 : decode cX11_fault 4 = .ok (.iload_n 1, 1) := by decide +kernel
theorem dX11_fault_5 : decode cX11_fault 5 = .ok (.invokevirtual 138, 3) := by decide +kernel
theorem dX11_fault_8 : decode cX11_fault 8 = .ok (.ifCond .ne 5, 3) := by decide +kernel
theorem dX11_fault_11 : decode cX11_fault 11 = .ok (.iconst (-1), 1) := by decide +kernel
theorem dX11_fault_12 : decode cX11_fault 12 = .ok (.ireturn, 1) := by decide +kernel
theorem dX11_fault_13 : decode cX11_fault 13 = .ok (.aload_n 0, 1) := by decide +kernel
theorem dX11_fault_14 : decode cX11_fault 14 = .ok (.getfield 32, 3) := by decide +kernel
theorem dX11_fault_17 : decode cX11_fault 17 = .ok (.getfield 141, 3) := by decide +kernel
theorem dX11_fault_20 : decode cX11_fault 20 = .ok (.iload_n 1, 1) := by decide +kernel
theorem dX11_fault_21 : decode cX11_fault 21 = .ok (.aaload, 1) := by decide +kernel
theorem dX11_fault_22 : decode cX11_fault 22 = .ok (.astore_n 3, 1) := by decide +kernel
theorem dX11_fault_23 : decode cX11_fault 23 = .ok (.iload_n 2, 1) := by decide +kernel
theorem dX11_fault_24 : decode cX11_fault 24 = .ok (.iconst 0, 1) := by decide +kernel
theorem dX11_fault_25 : decode cX11_fault 25 = .ok (.aload_n 3, 1) := by decide +kernel
theorem dX11_fault_26 : decode cX11_fault 26 = .ok (.getfield 194, 3) := by decide +kernel
theorem dX11_fault_29 : decode cX11_fault 29 = .ok (.iconst 1, 1) := by decide +kernel
theorem dX11_fault_30 : decode cX11_fault 30 = .ok (.isub, 1) := by decide +kernel
theorem dX11_fault_31 : decode cX11_fault 31 = .ok (.invokestatic 50, 3) := by decide +kernel
theorem dX11_fault_34 : decode cX11_fault 34 = .ok (.ifCond .eq 12, 3) := by decide +kernel
theorem dX11_fault_37 : decode cX11_fault 37 = .ok (.aload_n 3, 1) := by decide +kernel
theorem dX11_fault_38 : decode cX11_fault 38 = .ok (.getfield 203, 3) := by decide +kernel
theorem dX11_fault_41 : decode cX11_fault 41 = .ok (.iload_n 2, 1) := by decide +kernel
theorem dX11_fault_42 : decode cX11_fault 42 = .ok (.iaload, 1) := by decide +kernel
theorem dX11_fault_43 : decode cX11_fault 43 = .ok (.goto 4, 3) := by decide +kernel
theorem dX11_fault_46 : decode cX11_fault 46 = .ok (.iconst (-1), 1) := by decide +kernel
theorem dX11_fault_47 : decode cX11_fault 47 = .ok (.ireturn, 1) := by decide +kernel
theorem dX11_cell_0 : decode cX11_cell 0 = .ok (.aload_n 0, 1) := by decide +kernel
theorem dX11_cell_1 : decode cX11_cell 1 = .ok (.getfield 32, 3) := by decide +kernel
theorem dX11_cell_4 : decode cX11_cell 4 = .ok (.iload_n 1, 1) := by decide +kernel
theorem dX11_cell_5 : decode cX11_cell 5 = .ok (.invokevirtual 138, 3) := by decide +kernel
theorem dX11_cell_8 : decode cX11_cell 8 = .ok (.ifCond .eq 12, 3) := by decide +kernel
theorem dX11_cell_11 : decode cX11_cell 11 = .ok (.iload_n 2, 1) := by decide +kernel
theorem dX11_cell_12 : decode cX11_cell 12 = .ok (.iconst 0, 1) := by decide +kernel
theorem dX11_cell_13 : decode cX11_cell 13 = .ok (.iconst 3, 1) := by decide +kernel
theorem dX11_cell_14 : decode cX11_cell 14 = .ok (.invokestatic 50, 3) := by decide +kernel
theorem dX11_cell_17 : decode cX11_cell 17 = .ok (.ifCond .ne 13, 3) := by decide +kernel
theorem dX11_cell_20 : decode cX11_cell 20 = .ok (.new 206, 3) := by decide +kernel
theorem dX11_cell_23 : decode cX11_cell 23 = .ok (.dup, 1) := by decide +kernel
theorem dX11_cell_24 : decode cX11_cell 24 = .ok (.ldc 208, 2) := by decide +kernel
theorem dX11_cell_26 : decode cX11_cell 26 = .ok (.invokespecial 210, 3) := by decide +kernel
theorem dX11_cell_29 : decode cX11_cell 29 = .ok (.athrow, 1) := by decide +kernel
theorem dX11_cell_30 : decode cX11_cell 30 = .ok (.aload_n 0, 1) := by decide +kernel
theorem dX11_cell_31 : decode cX11_cell 31 = .ok (.getfield 32, 3) := by decide +kernel
theorem dX11_cell_34 : decode cX11_cell 34 = .ok (.getfield 141, 3) := by decide +kernel
theorem dX11_cell_37 : decode cX11_cell 37 = .ok (.iload_n 1, 1) := by decide +kernel
theorem dX11_cell_38 : decode cX11_cell 38 = .ok (.aaload, 1) := by decide +kernel
theorem dX11_cell_39 : decode cX11_cell 39 = .ok (.getfield 213, 3) := by decide +kernel
theorem dX11_cell_42 : decode cX11_cell 42 = .ok (.iload_n 2, 1) := by decide +kernel
theorem dX11_cell_43 : decode cX11_cell 43 = .ok (.iaload, 1) := by decide +kernel
theorem dX11_cell_44 : decode cX11_cell 44 = .ok (.ireturn, 1) := by decide +kernel
theorem dX11_about_0 : decode cX11_about 0 = .ok (.aload_n 0, 1) := by decide +kernel
theorem dX11_about_1 : decode cX11_about 1 = .ok (.getfield 32, 3) := by decide +kernel
theorem dX11_about_4 : decode cX11_about 4 = .ok (.iload_n 1, 1) := by decide +kernel
theorem dX11_about_5 : decode cX11_about 5 = .ok (.invokevirtual 98, 3) := by decide +kernel
theorem dX11_about_8 : decode cX11_about 8 = .ok (.ifCond .ne 5, 3) := by decide +kernel
theorem dX11_about_11 : decode cX11_about 11 = .ok (.iconst (-1), 1) := by decide +kernel
theorem dX11_about_12 : decode cX11_about 12 = .ok (.ireturn, 1) := by decide +kernel
theorem dX11_about_13 : decode cX11_about 13 = .ok (.aload_n 0, 1) := by decide +kernel
theorem dX11_about_14 : decode cX11_about 14 = .ok (.getfield 32, 3) := by decide +kernel
theorem dX11_about_17 : decode cX11_about 17 = .ok (.getfield 101, 3) := by decide +kernel
theorem dX11_about_20 : decode cX11_about 20 = .ok (.iload_n 1, 1) := by decide +kernel
theorem dX11_about_21 : decode cX11_about 21 = .ok (.aaload, 1) := by decide +kernel
theorem dX11_about_22 : decode cX11_about 22 = .ok (.astore_n 3, 1) := by decide +kernel
theorem dX11_about_23 : decode cX11_about 23 = .ok (.iload_n 2, 1) := by decide +kernel
theorem dX11_about_24 : decode cX11_about 24 = .ok (.tableswitch 107 0 7 #[48, 53, 58, 63, 68, 73, 86, 91], 48) := by decide +kernel
theorem dX11_about_72 : decode cX11_about 72 = .ok (.aload_n 3, 1) := by decide +kernel
theorem dX11_about_73 : decode cX11_about 73 = .ok (.getfield 161, 3) := by decide +kernel
theorem dX11_about_76 : decode cX11_about 76 = .ok (.ireturn, 1) := by decide +kernel
theorem dX11_about_77 : decode cX11_about 77 = .ok (.aload_n 3, 1) := by decide +kernel
theorem dX11_about_78 : decode cX11_about 78 = .ok (.getfield 216, 3) := by decide +kernel
theorem dX11_about_81 : decode cX11_about 81 = .ok (.ireturn, 1) := by decide +kernel
theorem dX11_about_82 : decode cX11_about 82 = .ok (.aload_n 3, 1) := by decide +kernel
theorem dX11_about_83 : decode cX11_about 83 = .ok (.invokevirtual 219, 3) := by decide +kernel
theorem dX11_about_86 : decode cX11_about 86 = .ok (.ireturn, 1) := by decide +kernel
theorem dX11_about_87 : decode cX11_about 87 = .ok (.aload_n 3, 1) := by decide +kernel
theorem dX11_about_88 : decode cX11_about 88 = .ok (.getfield 158, 3) := by decide +kernel
theorem dX11_about_91 : decode cX11_about 91 = .ok (.ireturn, 1) := by decide +kernel
theorem dX11_about_92 : decode cX11_about 92 = .ok (.aload_n 3, 1) := by decide +kernel
theorem dX11_about_93 : decode cX11_about 93 = .ok (.getfield 223, 3) := by decide +kernel
theorem dX11_about_96 : decode cX11_about 96 = .ok (.ireturn, 1) := by decide +kernel
theorem dX11_about_97 : decode cX11_about 97 = .ok (.aload_n 3, 1) := by decide +kernel
theorem dX11_about_98 : decode cX11_about 98 = .ok (.getfield 105, 3) := by decide +kernel
theorem dX11_about_101 : decode cX11_about 101 = .ok (.ifCond .eq 7, 3) := by decide +kernel
theorem dX11_about_104 : decode cX11_about 104 = .ok (.iconst 1, 1) := by decide +kernel
theorem dX11_about_105 : decode cX11_about 105 = .ok (.goto 4, 3) := by decide +kernel
theorem dX11_about_108 : decode cX11_about 108 = .ok (.iconst 0, 1) := by decide +kernel
theorem dX11_about_109 : decode cX11_about 109 = .ok (.ireturn, 1) := by decide +kernel
theorem dX11_about_110 : decode cX11_about 110 = .ok (.aload_n 3, 1) := by decide +kernel
theorem dX11_about_111 : decode cX11_about 111 = .ok (.getfield 226, 3) := by decide +kernel
theorem dX11_about_114 : decode cX11_about 114 = .ok (.ireturn, 1) := by decide +kernel
theorem dX11_about_115 : decode cX11_about 115 = .ok (.aload_n 0, 1) := by decide +kernel
theorem dX11_about_116 : decode cX11_about 116 = .ok (.getfield 32, 3) := by decide +kernel
theorem dX11_about_119 : decode cX11_about 119 = .ok (.getfield 164, 3) := by decide +kernel
theorem dX11_about_122 : decode cX11_about 122 = .ok (.aload_n 3, 1) := by decide +kernel
theorem dX11_about_123 : decode cX11_about 123 = .ok (.getfield 161, 3) := by decide +kernel
theorem dX11_about_126 : decode cX11_about 126 = .ok (.iload_n 1, 1) := by decide +kernel
theorem dX11_about_127 : decode cX11_about 127 = .ok (.invokevirtual 227, 3) := by decide +kernel
theorem dX11_about_130 : decode cX11_about 130 = .ok (.ireturn, 1) := by decide +kernel
theorem dX11_about_131 : decode cX11_about 131 = .ok (.iconst (-1), 1) := by decide +kernel
theorem dX11_about_132 : decode cX11_about 132 = .ok (.ireturn, 1) := by decide +kernel
theorem dX11_read_0 : decode cX11_read 0 = .ok (.aload_n 0, 1) := by decide +kernel
theorem dX11_read_1 : decode cX11_read 1 = .ok (.getfield 32, 3) := by decide +kernel
theorem dX11_read_4 : decode cX11_read 4 = .ok (.iload_n 1, 1) := by decide +kernel
theorem dX11_read_5 : decode cX11_read 5 = .ok (.invokevirtual 98, 3) := by decide +kernel
theorem dX11_read_8 : decode cX11_read 8 = .ok (.ifCond .ne 13, 3) := by decide +kernel
theorem dX11_read_11 : decode cX11_read 11 = .ok (.new 206, 3) := by decide +kernel
theorem dX11_read_14 : decode cX11_read 14 = .ok (.dup, 1) := by decide +kernel
theorem dX11_read_15 : decode cX11_read 15 = .ok (.ldc 230, 2) := by decide +kernel
theorem dX11_read_17 : decode cX11_read 17 = .ok (.invokespecial 210, 3) := by decide +kernel
theorem dX11_read_20 : decode cX11_read 20 = .ok (.athrow, 1) := by decide +kernel
theorem dX11_read_21 : decode cX11_read 21 = .ok (.aload_n 0, 1) := by decide +kernel
theorem dX11_read_22 : decode cX11_read 22 = .ok (.getfield 32, 3) := by decide +kernel
theorem dX11_read_25 : decode cX11_read 25 = .ok (.getfield 101, 3) := by decide +kernel
theorem dX11_read_28 : decode cX11_read 28 = .ok (.iload_n 1, 1) := by decide +kernel
theorem dX11_read_29 : decode cX11_read 29 = .ok (.aaload, 1) := by decide +kernel
theorem dX11_read_30 : decode cX11_read 30 = .ok (.getfield 232, 3) := by decide +kernel
theorem dX11_read_33 : decode cX11_read 33 = .ok (.ireturn, 1) := by decide +kernel
theorem dX11_node_0 : decode cX11_node 0 = .ok (.aload_n 0, 1) := by decide +kernel
theorem dX11_node_1 : decode cX11_node 1 = .ok (.getfield 18, 3) := by decide +kernel
theorem dX11_node_4 : decode cX11_node 4 = .ok (.iload_n 1, 1) := by decide +kernel
theorem dX11_node_5 : decode cX11_node 5 = .ok (.invokevirtual 69, 3) := by decide +kernel
theorem dX11_node_8 : decode cX11_node 8 = .ok (.ifCond .ne 5, 3) := by decide +kernel
theorem dX11_node_11 : decode cX11_node 11 = .ok (.iconst (-1), 1) := by decide +kernel
theorem dX11_node_12 : decode cX11_node 12 = .ok (.ireturn, 1) := by decide +kernel
theorem dX11_node_13 : decode cX11_node 13 = .ok (.iload_n 2, 1) := by decide +kernel
theorem dX11_node_14 : decode cX11_node 14 = .ok (.tableswitch 72 0 3 #[30, 40, 50, 59], 30) := by decide +kernel
theorem dX11_node_44 : decode cX11_node 44 = .ok (.aload_n 0, 1) := by decide +kernel
theorem dX11_node_45 : decode cX11_node 45 = .ok (.getfield 32, 3) := by decide +kernel
theorem dX11_node_48 : decode cX11_node 48 = .ok (.getfield 235, 3) := by decide +kernel
theorem dX11_node_51 : decode cX11_node 51 = .ok (.iload_n 1, 1) := by decide +kernel
theorem dX11_node_52 : decode cX11_node 52 = .ok (.iaload, 1) := by decide +kernel
theorem dX11_node_53 : decode cX11_node 53 = .ok (.ireturn, 1) := by decide +kernel
theorem dX11_node_54 : decode cX11_node 54 = .ok (.aload_n 0, 1) := by decide +kernel
theorem dX11_node_55 : decode cX11_node 55 = .ok (.getfield 32, 3) := by decide +kernel
theorem dX11_node_58 : decode cX11_node 58 = .ok (.getfield 238, 3) := by decide +kernel
theorem dX11_node_61 : decode cX11_node 61 = .ok (.iload_n 1, 1) := by decide +kernel
theorem dX11_node_62 : decode cX11_node 62 = .ok (.iaload, 1) := by decide +kernel
theorem dX11_node_63 : decode cX11_node 63 = .ok (.ireturn, 1) := by decide +kernel
theorem dX11_node_64 : decode cX11_node 64 = .ok (.aload_n 0, 1) := by decide +kernel
theorem dX11_node_65 : decode cX11_node 65 = .ok (.getfield 32, 3) := by decide +kernel
theorem dX11_node_68 : decode cX11_node 68 = .ok (.iload_n 1, 1) := by decide +kernel
theorem dX11_node_69 : decode cX11_node 69 = .ok (.invokevirtual 241, 3) := by decide +kernel
theorem dX11_node_72 : decode cX11_node 72 = .ok (.ireturn, 1) := by decide +kernel
theorem dX11_node_73 : decode cX11_node 73 = .ok (.aload_n 0, 1) := by decide +kernel
theorem dX11_node_74 : decode cX11_node 74 = .ok (.getfield 32, 3) := by decide +kernel
theorem dX11_node_77 : decode cX11_node 77 = .ok (.getfield 164, 3) := by decide +kernel
theorem dX11_node_80 : decode cX11_node 80 = .ok (.getfield 244, 3) := by decide +kernel
theorem dX11_node_83 : decode cX11_node 83 = .ok (.iload_n 1, 1) := by decide +kernel
theorem dX11_node_84 : decode cX11_node 84 = .ok (.iaload, 1) := by decide +kernel
theorem dX11_node_85 : decode cX11_node 85 = .ok (.ireturn, 1) := by decide +kernel
theorem dX11_node_86 : decode cX11_node 86 = .ok (.iconst (-1), 1) := by decide +kernel
theorem dX11_node_87 : decode cX11_node 87 = .ok (.ireturn, 1) := by decide +kernel
theorem dX11_linked_0 : decode cX11_linked 0 = .ok (.aload_n 0, 1) := by decide +kernel
theorem dX11_linked_1 : decode cX11_linked 1 = .ok (.getfield 18, 3) := by decide +kernel
theorem dX11_linked_4 : decode cX11_linked 4 = .ok (.iload_n 1, 1) := by decide +kernel
theorem dX11_linked_5 : decode cX11_linked 5 = .ok (.iload_n 2, 1) := by decide +kernel
theorem dX11_linked_6 : decode cX11_linked 6 = .ok (.invokevirtual 46, 3) := by decide +kernel
theorem dX11_linked_9 : decode cX11_linked 9 = .ok (.ifCond .ne 5, 3) := by decide +kernel
theorem dX11_linked_12 : decode cX11_linked 12 = .ok (.iconst (-1), 1) := by decide +kernel
theorem dX11_linked_13 : decode cX11_linked 13 = .ok (.ireturn, 1) := by decide +kernel
theorem dX11_linked_14 : decode cX11_linked 14 = .ok (.aload_n 0, 1) := by decide +kernel
theorem dX11_linked_15 : decode cX11_linked 15 = .ok (.getfield 18, 3) := by decide +kernel
theorem dX11_linked_18 : decode cX11_linked 18 = .ok (.iload_n 1, 1) := by decide +kernel
theorem dX11_linked_19 : decode cX11_linked 19 = .ok (.iload_n 2, 1) := by decide +kernel
theorem dX11_linked_20 : decode cX11_linked 20 = .ok (.invokevirtual 62, 3) := by decide +kernel
theorem dX11_linked_23 : decode cX11_linked 23 = .ok (.istore 4, 2) := by decide +kernel
theorem dX11_linked_25 : decode cX11_linked 25 = .ok (.iload_n 3, 1) := by decide +kernel
theorem dX11_linked_26 : decode cX11_linked 26 = .ok (.tableswitch 80 0 3 #[30, 41, 52, 66], 30) := by decide +kernel
theorem dX11_linked_56 : decode cX11_linked 56 = .ok (.aload_n 0, 1) := by decide +kernel
theorem dX11_linked_57 : decode cX11_linked 57 = .ok (.getfield 18, 3) := by decide +kernel
theorem dX11_linked_60 : decode cX11_linked 60 = .ok (.getfield 58, 3) := by decide +kernel
theorem dX11_linked_63 : decode cX11_linked 63 = .ok (.iload 4, 2) := by decide +kernel
theorem dX11_linked_65 : decode cX11_linked 65 = .ok (.iaload, 1) := by decide +kernel
theorem dX11_linked_66 : decode cX11_linked 66 = .ok (.ireturn, 1) := by decide +kernel
theorem dX11_linked_67 : decode cX11_linked 67 = .ok (.aload_n 0, 1) := by decide +kernel
theorem dX11_linked_68 : decode cX11_linked 68 = .ok (.getfield 18, 3) := by decide +kernel
theorem dX11_linked_71 : decode cX11_linked 71 = .ok (.getfield 247, 3) := by decide +kernel
theorem dX11_linked_74 : decode cX11_linked 74 = .ok (.iload 4, 2) := by decide +kernel
theorem dX11_linked_76 : decode cX11_linked 76 = .ok (.iaload, 1) := by decide +kernel
theorem dX11_linked_77 : decode cX11_linked 77 = .ok (.ireturn, 1) := by decide +kernel
theorem dX11_linked_78 : decode cX11_linked 78 = .ok (.aload_n 0, 1) := by decide +kernel
theorem dX11_linked_79 : decode cX11_linked 79 = .ok (.getfield 32, 3) := by decide +kernel
theorem dX11_linked_82 : decode cX11_linked 82 = .ok (.getfield 250, 3) := by decide +kernel
theorem dX11_linked_85 : decode cX11_linked 85 = .ok (.getfield 254, 3) := by decide +kernel
theorem dX11_linked_88 : decode cX11_linked 88 = .ok (.iload 4, 2) := by decide +kernel
theorem dX11_linked_90 : decode cX11_linked 90 = .ok (.iaload, 1) := by decide +kernel
theorem dX11_linked_91 : decode cX11_linked 91 = .ok (.ireturn, 1) := by decide +kernel
theorem dX11_linked_92 : decode cX11_linked 92 = .ok (.aload_n 0, 1) := by decide +kernel
theorem dX11_linked_93 : decode cX11_linked 93 = .ok (.getfield 32, 3) := by decide +kernel
theorem dX11_linked_96 : decode cX11_linked 96 = .ok (.getfield 250, 3) := by decide +kernel
theorem dX11_linked_99 : decode cX11_linked 99 = .ok (.getfield 259, 3) := by decide +kernel
theorem dX11_linked_102 : decode cX11_linked 102 = .ok (.iload 4, 2) := by decide +kernel
theorem dX11_linked_104 : decode cX11_linked 104 = .ok (.iaload, 1) := by decide +kernel
theorem dX11_linked_105 : decode cX11_linked 105 = .ok (.ireturn, 1) := by decide +kernel
theorem dX11_linked_106 : decode cX11_linked 106 = .ok (.iconst (-1), 1) := by decide +kernel
theorem dX11_linked_107 : decode cX11_linked 107 = .ok (.ireturn, 1) := by decide +kernel
theorem dX11_log_0 : decode cX11_log 0 = .ok (.iload_n 1, 1) := by decide +kernel
theorem dX11_log_1 : decode cX11_log 1 = .ok (.iconst 0, 1) := by decide +kernel
theorem dX11_log_2 : decode cX11_log 2 = .ok (.aload_n 0, 1) := by decide +kernel
theorem dX11_log_3 : decode cX11_log 3 = .ok (.getfield 32, 3) := by decide +kernel
theorem dX11_log_6 : decode cX11_log 6 = .ok (.getfield 261, 3) := by decide +kernel
theorem dX11_log_9 : decode cX11_log 9 = .ok (.getfield 265, 3) := by decide +kernel
theorem dX11_log_12 : decode cX11_log 12 = .ok (.iconst 1, 1) := by decide +kernel
theorem dX11_log_13 : decode cX11_log 13 = .ok (.isub, 1) := by decide +kernel
theorem dX11_log_14 : decode cX11_log 14 = .ok (.invokestatic 50, 3) := by decide +kernel
theorem dX11_log_17 : decode cX11_log 17 = .ok (.ifCond .eq 13, 3) := by decide +kernel
theorem dX11_log_20 : decode cX11_log 20 = .ok (.iload_n 2, 1) := by decide +kernel
theorem dX11_log_21 : decode cX11_log 21 = .ok (.iconst 0, 1) := by decide +kernel
theorem dX11_log_22 : decode cX11_log 22 = .ok (.bipush 9, 2) := by decide +kernel
theorem dX11_log_24 : decode cX11_log 24 = .ok (.invokestatic 50, 3) := by decide +kernel
theorem dX11_log_27 : decode cX11_log 27 = .ok (.ifCond .ne 5, 3) := by decide +kernel
theorem dX11_log_30 : decode cX11_log 30 = .ok (.iconst (-1), 1) := by decide +kernel
theorem dX11_log_31 : decode cX11_log 31 = .ok (.ireturn, 1) := by decide +kernel
theorem dX11_log_32 : decode cX11_log 32 = .ok (.aload_n 0, 1) := by decide +kernel
theorem dX11_log_33 : decode cX11_log 33 = .ok (.getfield 32, 3) := by decide +kernel
theorem dX11_log_36 : decode cX11_log 36 = .ok (.getfield 261, 3) := by decide +kernel
theorem dX11_log_39 : decode cX11_log 39 = .ok (.iload_n 1, 1) := by decide +kernel
theorem dX11_log_40 : decode cX11_log 40 = .ok (.iload_n 2, 1) := by decide +kernel
theorem dX11_log_41 : decode cX11_log 41 = .ok (.invokevirtual 269, 3) := by decide +kernel
theorem dX11_log_44 : decode cX11_log 44 = .ok (.ireturn, 1) := by decide +kernel
theorem dX11_best_0 : decode cX11_best 0 = .ok (.aload_n 0, 1) := by decide +kernel
theorem dX11_best_1 : decode cX11_best 1 = .ok (.getfield 32, 3) := by decide +kernel
theorem dX11_best_4 : decode cX11_best 4 = .ok (.iload_n 1, 1) := by decide +kernel
theorem dX11_best_5 : decode cX11_best 5 = .ok (.invokevirtual 138, 3) := by decide +kernel
theorem dX11_best_8 : decode cX11_best 8 = .ok (.ifCond .ne 5, 3) := by decide +kernel
theorem dX11_best_11 : decode cX11_best 11 = .ok (.iconst (-1), 1) := by decide +kernel
theorem dX11_best_12 : decode cX11_best 12 = .ok (.ireturn, 1) := by decide +kernel
theorem dX11_best_13 : decode cX11_best 13 = .ok (.aload_n 0, 1) := by decide +kernel
theorem dX11_best_14 : decode cX11_best 14 = .ok (.getfield 32, 3) := by decide +kernel
theorem dX11_best_17 : decode cX11_best 17 = .ok (.getfield 261, 3) := by decide +kernel
theorem dX11_best_20 : decode cX11_best 20 = .ok (.iload_n 1, 1) := by decide +kernel
theorem dX11_best_21 : decode cX11_best 21 = .ok (.aload_n 0, 1) := by decide +kernel
theorem dX11_best_22 : decode cX11_best 22 = .ok (.getfield 18, 3) := by decide +kernel
theorem dX11_best_25 : decode cX11_best 25 = .ok (.aload_n 0, 1) := by decide +kernel
theorem dX11_best_26 : decode cX11_best 26 = .ok (.getfield 32, 3) := by decide +kernel
theorem dX11_best_29 : decode cX11_best 29 = .ok (.getfield 125, 3) := by decide +kernel
theorem dX11_best_32 : decode cX11_best 32 = .ok (.getfield 272, 3) := by decide +kernel
theorem dX11_best_35 : decode cX11_best 35 = .ok (.invokevirtual 275, 3) := by decide +kernel
theorem dX11_best_38 : decode cX11_best 38 = .ok (.istore_n 2, 1) := by decide +kernel
theorem dX11_best_39 : decode cX11_best 39 = .ok (.iload_n 2, 1) := by decide +kernel
theorem dX11_best_40 : decode cX11_best 40 = .ok (.ldc_w 279, 3) := by decide +kernel
theorem dX11_best_43 : decode cX11_best 43 = .ok (.if_icmp .ge 7, 3) := by decide +kernel
theorem dX11_best_46 : decode cX11_best 46 = .ok (.iload_n 2, 1) := by decide +kernel
theorem dX11_best_47 : decode cX11_best 47 = .ok (.goto 5, 3) := by decide +kernel
theorem dX11_best_50 : decode cX11_best 50 = .ok (.bipush (-2), 2) := by decide +kernel
theorem dX11_best_52 : decode cX11_best 52 = .ok (.ireturn, 1) := by decide +kernel
theorem dX11_gap_0 : decode cX11_gap 0 = .ok (.aload_n 0, 1) := by decide +kernel
theorem dX11_gap_1 : decode cX11_gap 1 = .ok (.getfield 32, 3) := by decide +kernel
theorem dX11_gap_4 : decode cX11_gap 4 = .ok (.iload_n 1, 1) := by decide +kernel
theorem dX11_gap_5 : decode cX11_gap 5 = .ok (.invokevirtual 138, 3) := by decide +kernel
theorem dX11_gap_8 : decode cX11_gap 8 = .ok (.ifCond .eq 17, 3) := by decide +kernel
theorem dX11_gap_11 : decode cX11_gap 11 = .ok (.aload_n 0, 1) := by decide +kernel
theorem dX11_gap_12 : decode cX11_gap 12 = .ok (.getfield 32, 3) := by decide +kernel
theorem dX11_gap_15 : decode cX11_gap 15 = .ok (.getfield 261, 3) := by decide +kernel
theorem dX11_gap_18 : decode cX11_gap 18 = .ok (.iload_n 1, 1) := by decide +kernel
theorem dX11_gap_19 : decode cX11_gap 19 = .ok (.invokevirtual 280, 3) := by decide +kernel
theorem dX11_gap_22 : decode cX11_gap 22 = .ok (.goto 4, 3) := by decide +kernel
theorem dX11_gap_25 : decode cX11_gap 25 = .ok (.iconst (-1), 1) := by decide +kernel
theorem dX11_gap_26 : decode cX11_gap 26 = .ok (.ireturn, 1) := by decide +kernel
theorem dX11_other_0 : decode cX11_other 0 = .ok (.iload_n 1, 1) := by decide +kernel
theorem dX11_other_1 : decode cX11_other 1 = .ok (.iload_n 2, 1) := by decide +kernel
theorem dX11_other_2 : decode cX11_other 2 = .ok (.iload_n 3, 1) := by decide +kernel
theorem dX11_other_3 : decode cX11_other 3 = .ok (.invokestatic 122, 3) := by decide +kernel
theorem dX11_other_6 : decode cX11_other 6 = .ok (.ifCond .eq 15, 3) := by decide +kernel
theorem dX11_other_9 : decode cX11_other 9 = .ok (.iload 4, 2) := by decide +kernel
theorem dX11_other_11 : decode cX11_other 11 = .ok (.iconst 1, 1) := by decide +kernel
theorem dX11_other_12 : decode cX11_other 12 = .ok (.sipush 200, 3) := by decide +kernel
theorem dX11_other_15 : decode cX11_other 15 = .ok (.invokestatic 50, 3) := by decide +kernel
theorem dX11_other_18 : decode cX11_other 18 = .ok (.ifCond .ne 5, 3) := by decide +kernel
theorem dX11_other_21 : decode cX11_other 21 = .ok (.iconst (-1), 1) := by decide +kernel
theorem dX11_other_22 : decode cX11_other 22 = .ok (.ireturn, 1) := by decide +kernel
theorem dX11_other_23 : decode cX11_other 23 = .ok (.aload_n 0, 1) := by decide +kernel
theorem dX11_other_24 : decode cX11_other 24 = .ok (.getfield 36, 3) := by decide +kernel
theorem dX11_other_27 : decode cX11_other 27 = .ok (.aload_n 0, 1) := by decide +kernel
theorem dX11_other_28 : decode cX11_other 28 = .ok (.getfield 32, 3) := by decide +kernel
theorem dX11_other_31 : decode cX11_other 31 = .ok (.invokevirtual 283, 3) := by decide +kernel
theorem dX11_other_34 : decode cX11_other 34 = .ok (.aload_n 0, 1) := by decide +kernel
theorem dX11_other_35 : decode cX11_other 35 = .ok (.getfield 36, 3) := by decide +kernel
theorem dX11_other_38 : decode cX11_other 38 = .ok (.getfield 125, 3) := by decide +kernel
theorem dX11_other_41 : decode cX11_other 41 = .ok (.iload_n 1, 1) := by decide +kernel
theorem dX11_other_42 : decode cX11_other 42 = .ok (.iload_n 2, 1) := by decide +kernel
theorem dX11_other_43 : decode cX11_other 43 = .ok (.iload_n 3, 1) := by decide +kernel
theorem dX11_other_44 : decode cX11_other 44 = .ok (.invokevirtual 129, 3) := by decide +kernel
theorem dX11_other_47 : decode cX11_other 47 = .ok (.iconst 0, 1) := by decide +kernel
theorem dX11_other_48 : decode cX11_other 48 = .ok (.istore 5, 2) := by decide +kernel
theorem dX11_other_50 : decode cX11_other 50 = .ok (.iload 5, 2) := by decide +kernel
theorem dX11_other_52 : decode cX11_other 52 = .ok (.iload 4, 2) := by decide +kernel
theorem dX11_other_54 : decode cX11_other 54 = .ok (.if_icmp .ge 16, 3) := by decide +kernel
theorem dX11_other_57 : decode cX11_other 57 = .ok (.aload_n 0, 1) := by decide +kernel
theorem dX11_other_58 : decode cX11_other 58 = .ok (.getfield 36, 3) := by decide +kernel
theorem dX11_other_61 : decode cX11_other 61 = .ok (.invokevirtual 182, 3) := by decide +kernel
theorem dX11_other_64 : decode cX11_other 64 = .ok (.iinc 5 1, 3) := by decide +kernel
theorem dX11_other_67 : decode cX11_other 67 = .ok (.goto (-17), 3) := by decide +kernel
theorem dX11_other_70 : decode cX11_other 70 = .ok (.aload_n 0, 1) := by decide +kernel
theorem dX11_other_71 : decode cX11_other 71 = .ok (.getfield 36, 3) := by decide +kernel
theorem dX11_other_74 : decode cX11_other 74 = .ok (.getfield 287, 3) := by decide +kernel
theorem dX11_other_77 : decode cX11_other 77 = .ok (.ireturn, 1) := by decide +kernel
theorem dX11_same_0 : decode cX11_same 0 = .ok (.aload_n 0, 1) := by decide +kernel
theorem dX11_same_1 : decode cX11_same 1 = .ok (.getfield 32, 3) := by decide +kernel
theorem dX11_same_4 : decode cX11_same 4 = .ok (.getfield 179, 3) := by decide +kernel
theorem dX11_same_7 : decode cX11_same 7 = .ok (.aload_n 0, 1) := by decide +kernel
theorem dX11_same_8 : decode cX11_same 8 = .ok (.getfield 32, 3) := by decide +kernel
theorem dX11_same_11 : decode cX11_same 11 = .ok (.getfield 261, 3) := by decide +kernel
theorem dX11_same_14 : decode cX11_same 14 = .ok (.getfield 265, 3) := by decide +kernel
theorem dX11_same_17 : decode cX11_same 17 = .ok (.if_icmp .le 6, 3) := by decide +kernel
theorem dX11_same_20 : decode cX11_same 20 = .ok (.bipush (-2), 2) := by decide +kernel
theorem dX11_same_22 : decode cX11_same 22 = .ok (.ireturn, 1) := by decide +kernel
theorem dX11_same_23 : decode cX11_same 23 = .ok (.aload_n 0, 1) := by decide +kernel
theorem dX11_same_24 : decode cX11_same 24 = .ok (.getfield 32, 3) := by decide +kernel
theorem dX11_same_27 : decode cX11_same 27 = .ok (.getfield 261, 3) := by decide +kernel
theorem dX11_same_30 : decode cX11_same 30 = .ok (.aload_n 0, 1) := by decide +kernel
theorem dX11_same_31 : decode cX11_same 31 = .ok (.getfield 32, 3) := by decide +kernel
theorem dX11_same_34 : decode cX11_same 34 = .ok (.getfield 141, 3) := by decide +kernel
theorem dX11_same_37 : decode cX11_same 37 = .ok (.aload_n 0, 1) := by decide +kernel
theorem dX11_same_38 : decode cX11_same 38 = .ok (.getfield 32, 3) := by decide +kernel
theorem dX11_same_41 : decode cX11_same 41 = .ok (.getfield 85, 3) := by decide +kernel
theorem dX11_same_44 : decode cX11_same 44 = .ok (.invokevirtual 290, 3) := by decide +kernel
theorem dX11_same_47 : decode cX11_same 47 = .ok (.ifCond .eq 7, 3) := by decide +kernel
theorem dX11_same_50 : decode cX11_same 50 = .ok (.iconst 1, 1) := by decide +kernel
theorem dX11_same_51 : decode cX11_same 51 = .ok (.goto 4, 3) := by decide +kernel
theorem dX11_same_54 : decode cX11_same 54 = .ok (.iconst 0, 1) := by decide +kernel
theorem dX11_same_55 : decode cX11_same 55 = .ok (.ireturn, 1) := by decide +kernel
theorem dX11_count_0 : decode cX11_count 0 = .ok (.iload_n 1, 1) := by decide +kernel
theorem dX11_count_1 : decode cX11_count 1 = .ok (.tableswitch 147 0 10 #[59, 67, 75, 83, 91, 99, 107, 115, 123, 131, 139], 59) := by decide +kernel
theorem dX11_count_60 : decode cX11_count 60 = .ok (.aload_n 0, 1) := by decide +kernel
theorem dX11_count_61 : decode cX11_count 61 = .ok (.getfield 32, 3) := by decide +kernel
theorem dX11_count_64 : decode cX11_count 64 = .ok (.getfield 54, 3) := by decide +kernel
theorem dX11_count_67 : decode cX11_count 67 = .ok (.ireturn, 1) := by decide +kernel
theorem dX11_count_68 : decode cX11_count 68 = .ok (.aload_n 0, 1) := by decide +kernel
theorem dX11_count_69 : decode cX11_count 69 = .ok (.getfield 18, 3) := by decide +kernel
theorem dX11_count_72 : decode cX11_count 72 = .ok (.getfield 79, 3) := by decide +kernel
theorem dX11_count_75 : decode cX11_count 75 = .ok (.ireturn, 1) := by decide +kernel
theorem dX11_count_76 : decode cX11_count 76 = .ok (.aload_n 0, 1) := by decide +kernel
theorem dX11_count_77 : decode cX11_count 77 = .ok (.getfield 18, 3) := by decide +kernel
theorem dX11_count_80 : decode cX11_count 80 = .ok (.getfield 294, 3) := by decide +kernel
theorem dX11_count_83 : decode cX11_count 83 = .ok (.ireturn, 1) := by decide +kernel
theorem dX11_count_84 : decode cX11_count 84 = .ok (.aload_n 0, 1) := by decide +kernel
theorem dX11_count_85 : decode cX11_count 85 = .ok (.getfield 18, 3) := by decide +kernel
theorem dX11_count_88 : decode cX11_count 88 = .ok (.getfield 297, 3) := by decide +kernel
theorem dX11_count_91 : decode cX11_count 91 = .ok (.ireturn, 1) := by decide +kernel
theorem dX11_count_92 : decode cX11_count 92 = .ok (.aload_n 0, 1) := by decide +kernel
theorem dX11_count_93 : decode cX11_count 93 = .ok (.getfield 32, 3) := by decide +kernel
theorem dX11_count_96 : decode cX11_count 96 = .ok (.getfield 85, 3) := by decide +kernel
theorem dX11_count_99 : decode cX11_count 99 = .ok (.ireturn, 1) := by decide +kernel
theorem dX11_count_100 : decode cX11_count 100 = .ok (.aload_n 0, 1) := by decide +kernel
theorem dX11_count_101 : decode cX11_count 101 = .ok (.getfield 32, 3) := by decide +kernel
theorem dX11_count_104 : decode cX11_count 104 = .ok (.getfield 92, 3) := by decide +kernel
theorem dX11_count_107 : decode cX11_count 107 = .ok (.ireturn, 1) := by decide +kernel
theorem dX11_count_108 : decode cX11_count 108 = .ok (.aload_n 0, 1) := by decide +kernel
theorem dX11_count_109 : decode cX11_count 109 = .ok (.getfield 32, 3) := by decide +kernel
theorem dX11_count_112 : decode cX11_count 112 = .ok (.getfield 179, 3) := by decide +kernel
theorem dX11_count_115 : decode cX11_count 115 = .ok (.ireturn, 1) := by decide +kernel
theorem dX11_count_116 : decode cX11_count 116 = .ok (.aload_n 0, 1) := by decide +kernel
theorem dX11_count_117 : decode cX11_count 117 = .ok (.getfield 32, 3) := by decide +kernel
theorem dX11_count_120 : decode cX11_count 120 = .ok (.getfield 287, 3) := by decide +kernel
theorem dX11_count_123 : decode cX11_count 123 = .ok (.ireturn, 1) := by decide +kernel
theorem dX11_count_124 : decode cX11_count 124 = .ok (.aload_n 0, 1) := by decide +kernel
theorem dX11_count_125 : decode cX11_count 125 = .ok (.getfield 32, 3) := by decide +kernel
theorem dX11_count_128 : decode cX11_count 128 = .ok (.getfield 300, 3) := by decide +kernel
theorem dX11_count_131 : decode cX11_count 131 = .ok (.ireturn, 1) := by decide +kernel
theorem dX11_count_132 : decode cX11_count 132 = .ok (.aload_n 0, 1) := by decide +kernel
theorem dX11_count_133 : decode cX11_count 133 = .ok (.getfield 32, 3) := by decide +kernel
theorem dX11_count_136 : decode cX11_count 136 = .ok (.getfield 302, 3) := by decide +kernel
theorem dX11_count_139 : decode cX11_count 139 = .ok (.ireturn, 1) := by decide +kernel
theorem dX11_count_140 : decode cX11_count 140 = .ok (.aload_n 0, 1) := by decide +kernel
theorem dX11_count_141 : decode cX11_count 141 = .ok (.getfield 32, 3) := by decide +kernel
theorem dX11_count_144 : decode cX11_count 144 = .ok (.getfield 303, 3) := by decide +kernel
theorem dX11_count_147 : decode cX11_count 147 = .ok (.ireturn, 1) := by decide +kernel
theorem dX11_count_148 : decode cX11_count 148 = .ok (.iconst (-1), 1) := by decide +kernel
theorem dX11_count_149 : decode cX11_count 149 = .ok (.ireturn, 1) := by decide +kernel
theorem dX11_keep_0 : decode cX11_keep 0 = .ok (.iload_n 1, 1) := by decide +kernel
theorem dX11_keep_1 : decode cX11_keep 1 = .ok (.invokestatic 306, 3) := by decide +kernel
theorem dX11_keep_4 : decode cX11_keep 4 = .ok (.ifCond .ne 5, 3) := by decide +kernel
theorem dX11_keep_7 : decode cX11_keep 7 = .ok (.iconst (-1), 1) := by decide +kernel
theorem dX11_keep_8 : decode cX11_keep 8 = .ok (.ireturn, 1) := by decide +kernel
theorem dX11_keep_9 : decode cX11_keep 9 = .ok (.iload_n 2, 1) := by decide +kernel
theorem dX11_keep_10 : decode cX11_keep 10 = .ok (.iconst 1, 1) := by decide +kernel
theorem dX11_keep_11 : decode cX11_keep 11 = .ok (.if_icmp .eq 8, 3) := by decide +kernel
theorem dX11_keep_14 : decode cX11_keep 14 = .ok (.iload_n 2, 1) := by decide +kernel
theorem dX11_keep_15 : decode cX11_keep 15 = .ok (.iconst 4, 1) := by decide +kernel
theorem dX11_keep_16 : decode cX11_keep 16 = .ok (.if_icmp .ne 16, 3) := by decide +kernel
theorem dX11_keep_19 : decode cX11_keep 19 = .ok (.aload_n 0, 1) := by decide +kernel
theorem dX11_keep_20 : decode cX11_keep 20 = .ok (.getfield 32, 3) := by decide +kernel
theorem dX11_keep_23 : decode cX11_keep 23 = .ok (.iload_n 3, 1) := by decide +kernel
theorem dX11_keep_24 : decode cX11_keep 24 = .ok (.invokevirtual 138, 3) := by decide +kernel
theorem dX11_keep_27 : decode cX11_keep 27 = .ok (.ifCond .ne 5, 3) := by decide +kernel
theorem dX11_keep_30 : decode cX11_keep 30 = .ok (.iconst (-1), 1) := by decide +kernel
theorem dX11_keep_31 : decode cX11_keep 31 = .ok (.ireturn, 1) := by decide +kernel
theorem dX11_keep_32 : decode cX11_keep 32 = .ok (.iload_n 2, 1) := by decide +kernel
theorem dX11_keep_33 : decode cX11_keep 33 = .ok (.tableswitch 113 0 4 #[35, 47, 113, 68, 93], 35) := by decide +kernel
theorem dX11_keep_68 : decode cX11_keep 68 = .ok (.aload_n 0, 1) := by decide +kernel
theorem dX11_keep_69 : decode cX11_keep 69 = .ok (.getfield 41, 3) := by decide +kernel
theorem dX11_keep_72 : decode cX11_keep 72 = .ok (.iload_n 1, 1) := by decide +kernel
theorem dX11_keep_73 : decode cX11_keep 73 = .ok (.aaload, 1) := by decide +kernel
theorem dX11_keep_74 : decode cX11_keep 74 = .ok (.iconst 0, 1) := by decide +kernel
theorem dX11_keep_75 : decode cX11_keep 75 = .ok (.putfield 309, 3) := by decide +kernel
theorem dX11_keep_78 : decode cX11_keep 78 = .ok (.iconst 0, 1) := by decide +kernel
theorem dX11_keep_79 : decode cX11_keep 79 = .ok (.ireturn, 1) := by decide +kernel
theorem dX11_keep_80 : decode cX11_keep 80 = .ok (.aload_n 0, 1) := by decide +kernel
theorem dX11_keep_81 : decode cX11_keep 81 = .ok (.getfield 41, 3) := by decide +kernel
theorem dX11_keep_84 : decode cX11_keep 84 = .ok (.iload_n 1, 1) := by decide +kernel
theorem dX11_keep_85 : decode cX11_keep 85 = .ok (.aaload, 1) := by decide +kernel
theorem dX11_keep_86 : decode cX11_keep 86 = .ok (.iload_n 3, 1) := by decide +kernel
theorem dX11_keep_87 : decode cX11_keep 87 = .ok (.aload_n 0, 1) := by decide +kernel
theorem dX11_keep_88 : decode cX11_keep 88 = .ok (.getfield 32, 3) := by decide +kernel
theorem dX11_keep_91 : decode cX11_keep 91 = .ok (.getfield 141, 3) := by decide +kernel
theorem dX11_keep_94 : decode cX11_keep 94 = .ok (.iload_n 3, 1) := by decide +kernel
theorem dX11_keep_95 : decode cX11_keep 95 = .ok (.aaload, 1) := by decide +kernel
theorem dX11_keep_96 : decode cX11_keep 96 = .ok (.invokevirtual 312, 3) := by decide +kernel
theorem dX11_keep_99 : decode cX11_keep 99 = .ok (.iconst 0, 1) := by decide +kernel
theorem dX11_keep_100 : decode cX11_keep 100 = .ok (.ireturn, 1) := by decide +kernel
theorem dX11_keep_101 : decode cX11_keep 101 = .ok (.aload_n 0, 1) := by decide +kernel
theorem dX11_keep_102 : decode cX11_keep 102 = .ok (.getfield 41, 3) := by decide +kernel
theorem dX11_keep_105 : decode cX11_keep 105 = .ok (.iload_n 1, 1) := by decide +kernel
theorem dX11_keep_106 : decode cX11_keep 106 = .ok (.aaload, 1) := by decide +kernel
theorem dX11_keep_107 : decode cX11_keep 107 = .ok (.aload_n 0, 1) := by decide +kernel
theorem dX11_keep_108 : decode cX11_keep 108 = .ok (.getfield 32, 3) := by decide +kernel
theorem dX11_keep_111 : decode cX11_keep 111 = .ok (.getfield 101, 3) := by decide +kernel
theorem dX11_keep_114 : decode cX11_keep 114 = .ok (.aload_n 0, 1) := by decide +kernel
theorem dX11_keep_115 : decode cX11_keep 115 = .ok (.getfield 32, 3) := by decide +kernel
theorem dX11_keep_118 : decode cX11_keep 118 = .ok (.getfield 92, 3) := by decide +kernel
theorem dX11_keep_121 : decode cX11_keep 121 = .ok (.invokevirtual 316, 3) := by decide +kernel
theorem dX11_keep_124 : decode cX11_keep 124 = .ok (.iconst 0, 1) := by decide +kernel
theorem dX11_keep_125 : decode cX11_keep 125 = .ok (.ireturn, 1) := by decide +kernel
theorem dX11_keep_126 : decode cX11_keep 126 = .ok (.aload_n 0, 1) := by decide +kernel
theorem dX11_keep_127 : decode cX11_keep 127 = .ok (.getfield 41, 3) := by decide +kernel
theorem dX11_keep_130 : decode cX11_keep 130 = .ok (.iload_n 1, 1) := by decide +kernel
theorem dX11_keep_131 : decode cX11_keep 131 = .ok (.aaload, 1) := by decide +kernel
theorem dX11_keep_132 : decode cX11_keep 132 = .ok (.aload_n 0, 1) := by decide +kernel
theorem dX11_keep_133 : decode cX11_keep 133 = .ok (.getfield 32, 3) := by decide +kernel
theorem dX11_keep_136 : decode cX11_keep 136 = .ok (.getfield 141, 3) := by decide +kernel
theorem dX11_keep_139 : decode cX11_keep 139 = .ok (.iload_n 3, 1) := by decide +kernel
theorem dX11_keep_140 : decode cX11_keep 140 = .ok (.aaload, 1) := by decide +kernel
theorem dX11_keep_141 : decode cX11_keep 141 = .ok (.invokevirtual 320, 3) := by decide +kernel
theorem dX11_keep_144 : decode cX11_keep 144 = .ok (.iconst 0, 1) := by decide +kernel
theorem dX11_keep_145 : decode cX11_keep 145 = .ok (.ireturn, 1) := by decide +kernel
theorem dX11_keep_146 : decode cX11_keep 146 = .ok (.iconst (-1), 1) := by decide +kernel
theorem dX11_keep_147 : decode cX11_keep 147 = .ok (.ireturn, 1) := by decide +kernel
theorem dX11_make_0 : decode cX11_make 0 = .ok (.iload_n 1, 1) := by decide +kernel
theorem dX11_make_1 : decode cX11_make 1 = .ok (.invokestatic 306, 3) := by decide +kernel
theorem dX11_make_4 : decode cX11_make 4 = .ok (.ifCond .eq 19, 3) := by decide +kernel
theorem dX11_make_7 : decode cX11_make 7 = .ok (.iload_n 2, 1) := by decide +kernel
theorem dX11_make_8 : decode cX11_make 8 = .ok (.iconst 3, 1) := by decide +kernel
theorem dX11_make_9 : decode cX11_make 9 = .ok (.if_icmp .eq 8, 3) := by decide +kernel
theorem dX11_make_12 : decode cX11_make 12 = .ok (.iload_n 2, 1) := by decide +kernel
theorem dX11_make_13 : decode cX11_make 13 = .ok (.iconst 4, 1) := by decide +kernel
theorem dX11_make_14 : decode cX11_make 14 = .ok (.if_icmp .ne 9, 3) := by decide +kernel
theorem dX11_make_17 : decode cX11_make 17 = .ok (.iload_n 3, 1) := by decide +kernel
theorem dX11_make_18 : decode cX11_make 18 = .ok (.bipush 60, 2) := by decide +kernel
theorem dX11_make_20 : decode cX11_make 20 = .ok (.if_icmp .le 5, 3) := by decide +kernel
theorem dX11_make_23 : decode cX11_make 23 = .ok (.iconst (-1), 1) := by decide +kernel
theorem dX11_make_24 : decode cX11_make 24 = .ok (.ireturn, 1) := by decide +kernel
theorem dX11_make_25 : decode cX11_make 25 = .ok (.iload_n 3, 1) := by decide +kernel
theorem dX11_make_26 : decode cX11_make 26 = .ok (.ifCond .ge 6, 3) := by decide +kernel
theorem dX11_make_29 : decode cX11_make 29 = .ok (.bipush (-14), 2) := by decide +kernel
theorem dX11_make_31 : decode cX11_make 31 = .ok (.ireturn, 1) := by decide +kernel
theorem dX11_make_32 : decode cX11_make 32 = .ok (.aload_n 0, 1) := by decide +kernel
theorem dX11_make_33 : decode cX11_make 33 = .ok (.getfield 41, 3) := by decide +kernel
theorem dX11_make_36 : decode cX11_make 36 = .ok (.iload_n 1, 1) := by decide +kernel
theorem dX11_make_37 : decode cX11_make 37 = .ok (.aaload, 1) := by decide +kernel
theorem dX11_make_38 : decode cX11_make 38 = .ok (.iload_n 2, 1) := by decide +kernel
theorem dX11_make_39 : decode cX11_make 39 = .ok (.iload_n 3, 1) := by decide +kernel
theorem dX11_make_40 : decode cX11_make 40 = .ok (.invokevirtual 324, 3) := by decide +kernel
theorem dX11_make_43 : decode cX11_make 43 = .ok (.iconst 0, 1) := by decide +kernel
theorem dX11_make_44 : decode cX11_make 44 = .ok (.ireturn, 1) := by decide +kernel
theorem dX11_element_0 : decode cX11_element 0 = .ok (.iload_n 1, 1) := by decide +kernel
theorem dX11_element_1 : decode cX11_element 1 = .ok (.invokestatic 306, 3) := by decide +kernel
theorem dX11_element_4 : decode cX11_element 4 = .ok (.ifCond .ne 14, 3) := by decide +kernel
theorem dX11_element_7 : decode cX11_element 7 = .ok (.new 206, 3) := by decide +kernel
theorem dX11_element_10 : decode cX11_element 10 = .ok (.dup, 1) := by decide +kernel
theorem dX11_element_11 : decode cX11_element 11 = .ok (.ldc_w 327, 3) := by decide +kernel
theorem dX11_element_14 : decode cX11_element 14 = .ok (.invokespecial 210, 3) := by decide +kernel
theorem dX11_element_17 : decode cX11_element 17 = .ok (.athrow, 1) := by decide +kernel
theorem dX11_element_18 : decode cX11_element 18 = .ok (.aload_n 0, 1) := by decide +kernel
theorem dX11_element_19 : decode cX11_element 19 = .ok (.getfield 41, 3) := by decide +kernel
theorem dX11_element_22 : decode cX11_element 22 = .ok (.iload_n 1, 1) := by decide +kernel
theorem dX11_element_23 : decode cX11_element 23 = .ok (.aaload, 1) := by decide +kernel
theorem dX11_element_24 : decode cX11_element 24 = .ok (.astore_n 3, 1) := by decide +kernel
theorem dX11_element_25 : decode cX11_element 25 = .ok (.aload_n 3, 1) := by decide +kernel
theorem dX11_element_26 : decode cX11_element 26 = .ok (.invokevirtual 329, 3) := by decide +kernel
theorem dX11_element_29 : decode cX11_element 29 = .ok (.ifCond .eq 17, 3) := by decide +kernel
theorem dX11_element_32 : decode cX11_element 32 = .ok (.iload_n 2, 1) := by decide +kernel
theorem dX11_element_33 : decode cX11_element 33 = .ok (.iconst 0, 1) := by decide +kernel
theorem dX11_element_34 : decode cX11_element 34 = .ok (.aload_n 3, 1) := by decide +kernel
theorem dX11_element_35 : decode cX11_element 35 = .ok (.getfield 333, 3) := by decide +kernel
theorem dX11_element_38 : decode cX11_element 38 = .ok (.iconst 1, 1) := by decide +kernel
theorem dX11_element_39 : decode cX11_element 39 = .ok (.isub, 1) := by decide +kernel
theorem dX11_element_40 : decode cX11_element 40 = .ok (.invokestatic 50, 3) := by decide +kernel
theorem dX11_element_43 : decode cX11_element 43 = .ok (.ifCond .ne 14, 3) := by decide +kernel
theorem dX11_element_46 : decode cX11_element 46 = .ok (.new 334, 3) := by decide +kernel
theorem dX11_element_49 : decode cX11_element 49 = .ok (.dup, 1) := by decide +kernel
theorem dX11_element_50 : decode cX11_element 50 = .ok (.ldc_w 336, 3) := by decide +kernel
theorem dX11_element_53 : decode cX11_element 53 = .ok (.invokespecial 338, 3) := by decide +kernel
theorem dX11_element_56 : decode cX11_element 56 = .ok (.athrow, 1) := by decide +kernel
theorem dX11_element_57 : decode cX11_element 57 = .ok (.aload_n 3, 1) := by decide +kernel
theorem dX11_element_58 : decode cX11_element 58 = .ok (.getfield 309, 3) := by decide +kernel
theorem dX11_element_61 : decode cX11_element 61 = .ok (.iconst 3, 1) := by decide +kernel
theorem dX11_element_62 : decode cX11_element 62 = .ok (.if_icmp .ne 13, 3) := by decide +kernel
theorem dX11_element_65 : decode cX11_element 65 = .ok (.aload_n 3, 1) := by decide +kernel
theorem dX11_element_66 : decode cX11_element 66 = .ok (.getfield 339, 3) := by decide +kernel
theorem dX11_element_69 : decode cX11_element 69 = .ok (.iload_n 2, 1) := by decide +kernel
theorem dX11_element_70 : decode cX11_element 70 = .ok (.baload, 1) := by decide +kernel
theorem dX11_element_71 : decode cX11_element 71 = .ok (.i2l, 1) := by decide +kernel
theorem dX11_element_72 : decode cX11_element 72 = .ok (.goto 10, 3) := by decide +kernel
theorem dX11_element_75 : decode cX11_element 75 = .ok (.aload_n 3, 1) := by decide +kernel
theorem dX11_element_76 : decode cX11_element 76 = .ok (.getfield 343, 3) := by decide +kernel
theorem dX11_element_79 : decode cX11_element 79 = .ok (.iload_n 2, 1) := by decide +kernel
theorem dX11_element_80 : decode cX11_element 80 = .ok (.iaload, 1) := by decide +kernel
theorem dX11_element_81 : decode cX11_element 81 = .ok (.i2l, 1) := by decide +kernel
theorem dX11_element_82 : decode cX11_element 82 = .ok (.lreturn, 1) := by decide +kernel
theorem dX11_copy_0 : decode cX11_copy 0 = .ok (.iload_n 1, 1) := by decide +kernel
theorem dX11_copy_1 : decode cX11_copy 1 = .ok (.invokestatic 306, 3) := by decide +kernel
theorem dX11_copy_4 : decode cX11_copy 4 = .ok (.ifCond .eq 10, 3) := by decide +kernel
theorem dX11_copy_7 : decode cX11_copy 7 = .ok (.iload_n 3, 1) := by decide +kernel
theorem dX11_copy_8 : decode cX11_copy 8 = .ok (.invokestatic 306, 3) := by decide +kernel
theorem dX11_copy_11 : decode cX11_copy 11 = .ok (.ifCond .ne 5, 3) := by decide +kernel
theorem dX11_copy_14 : decode cX11_copy 14 = .ok (.iconst (-1), 1) := by decide +kernel
theorem dX11_copy_15 : decode cX11_copy 15 = .ok (.ireturn, 1) := by decide +kernel
theorem dX11_copy_16 : decode cX11_copy 16 = .ok (.aload_n 0, 1) := by decide +kernel
theorem dX11_copy_17 : decode cX11_copy 17 = .ok (.getfield 41, 3) := by decide +kernel
theorem dX11_copy_20 : decode cX11_copy 20 = .ok (.iload_n 1, 1) := by decide +kernel
theorem dX11_copy_21 : decode cX11_copy 21 = .ok (.aaload, 1) := by decide +kernel
theorem dX11_copy_22 : decode cX11_copy 22 = .ok (.astore 6, 2) := by decide +kernel
theorem dX11_copy_24 : decode cX11_copy 24 = .ok (.aload_n 0, 1) := by decide +kernel
theorem dX11_copy_25 : decode cX11_copy 25 = .ok (.getfield 41, 3) := by decide +kernel
theorem dX11_copy_28 : decode cX11_copy 28 = .ok (.iload_n 3, 1) := by decide +kernel
theorem dX11_copy_29 : decode cX11_copy 29 = .ok (.aaload, 1) := by decide +kernel
theorem dX11_copy_30 : decode cX11_copy 30 = .ok (.astore 7, 2) := by decide +kernel
theorem dX11_copy_32 : decode cX11_copy 32 = .ok (.aload 6, 2) := by decide +kernel
theorem dX11_copy_34 : decode cX11_copy 34 = .ok (.getfield 309, 3) := by decide +kernel
theorem dX11_copy_37 : decode cX11_copy 37 = .ok (.ifCond .eq 11, 3) := by decide +kernel
theorem dX11_copy_40 : decode cX11_copy 40 = .ok (.aload 7, 2) := by decide +kernel
theorem dX11_copy_42 : decode cX11_copy 42 = .ok (.getfield 309, 3) := by decide +kernel
theorem dX11_copy_45 : decode cX11_copy 45 = .ok (.ifCond .ne 6, 3) := by decide +kernel
theorem dX11_copy_48 : decode cX11_copy 48 = .ok (.bipush (-11), 2) := by decide +kernel
theorem dX11_copy_50 : decode cX11_copy 50 = .ok (.ireturn, 1) := by decide +kernel
theorem dX11_copy_51 : decode cX11_copy 51 = .ok (.aload 6, 2) := by decide +kernel
theorem dX11_copy_53 : decode cX11_copy 53 = .ok (.invokevirtual 329, 3) := by decide +kernel
theorem dX11_copy_56 : decode cX11_copy 56 = .ok (.ifCond .eq 16, 3) := by decide +kernel
theorem dX11_copy_59 : decode cX11_copy 59 = .ok (.aload 6, 2) := by decide +kernel
theorem dX11_copy_61 : decode cX11_copy 61 = .ok (.getfield 309, 3) := by decide +kernel
theorem dX11_copy_64 : decode cX11_copy 64 = .ok (.aload 7, 2) := by decide +kernel
theorem dX11_copy_66 : decode cX11_copy 66 = .ok (.getfield 309, 3) := by decide +kernel
theorem dX11_copy_69 : decode cX11_copy 69 = .ok (.if_icmp .eq 6, 3) := by decide +kernel
theorem dX11_copy_72 : decode cX11_copy 72 = .ok (.bipush (-12), 2) := by decide +kernel
theorem dX11_copy_74 : decode cX11_copy 74 = .ok (.ireturn, 1) := by decide +kernel
theorem dX11_copy_75 : decode cX11_copy 75 = .ok (.aload 6, 2) := by decide +kernel
theorem dX11_copy_77 : decode cX11_copy 77 = .ok (.iload_n 2, 1) := by decide +kernel
theorem dX11_copy_78 : decode cX11_copy 78 = .ok (.iload 5, 2) := by decide +kernel
theorem dX11_copy_80 : decode cX11_copy 80 = .ok (.invokevirtual 346, 3) := by decide +kernel
theorem dX11_copy_83 : decode cX11_copy 83 = .ok (.ifCond .eq 15, 3) := by decide +kernel
theorem dX11_copy_86 : decode cX11_copy 86 = .ok (.aload 7, 2) := by decide +kernel
theorem dX11_copy_88 : decode cX11_copy 88 = .ok (.iload 4, 2) := by decide +kernel
theorem dX11_copy_90 : decode cX11_copy 90 = .ok (.iload 5, 2) := by decide +kernel
theorem dX11_copy_92 : decode cX11_copy 92 = .ok (.invokevirtual 346, 3) := by decide +kernel
theorem dX11_copy_95 : decode cX11_copy 95 = .ok (.ifCond .ne 6, 3) := by decide +kernel
theorem dX11_copy_98 : decode cX11_copy 98 = .ok (.bipush (-13), 2) := by decide +kernel
theorem dX11_copy_100 : decode cX11_copy 100 = .ok (.ireturn, 1) := by decide +kernel
theorem dX11_copy_101 : decode cX11_copy 101 = .ok (.aload 6, 2) := by decide +kernel
theorem dX11_copy_103 : decode cX11_copy 103 = .ok (.getfield 309, 3) := by decide +kernel
theorem dX11_copy_106 : decode cX11_copy 106 = .ok (.iconst 3, 1) := by decide +kernel
theorem dX11_copy_107 : decode cX11_copy 107 = .ok (.if_icmp .ne 24, 3) := by decide +kernel
theorem dX11_copy_110 : decode cX11_copy 110 = .ok (.aload 6, 2) := by decide +kernel
theorem dX11_copy_112 : decode cX11_copy 112 = .ok (.getfield 339, 3) := by decide +kernel
theorem dX11_copy_115 : decode cX11_copy 115 = .ok (.iload_n 2, 1) := by decide +kernel
theorem dX11_copy_116 : decode cX11_copy 116 = .ok (.aload 7, 2) := by decide +kernel
theorem dX11_copy_118 : decode cX11_copy 118 = .ok (.getfield 339, 3) := by decide +kernel
theorem dX11_copy_121 : decode cX11_copy 121 = .ok (.iload 4, 2) := by decide +kernel
theorem dX11_copy_123 : decode cX11_copy 123 = .ok (.iload 5, 2) := by decide +kernel
theorem dX11_copy_125 : decode cX11_copy 125 = .ok (.invokestatic 349, 3) := by decide +kernel
theorem dX11_copy_128 : decode cX11_copy 128 = .ok (.goto 21, 3) := by decide +kernel
theorem dX11_copy_131 : decode cX11_copy 131 = .ok (.aload 6, 2) := by decide +kernel
theorem dX11_copy_133 : decode cX11_copy 133 = .ok (.getfield 343, 3) := by decide +kernel
theorem dX11_copy_136 : decode cX11_copy 136 = .ok (.iload_n 2, 1) := by decide +kernel
theorem dX11_copy_137 : decode cX11_copy 137 = .ok (.aload 7, 2) := by decide +kernel
theorem dX11_copy_139 : decode cX11_copy 139 = .ok (.getfield 343, 3) := by decide +kernel
theorem dX11_copy_142 : decode cX11_copy 142 = .ok (.iload 4, 2) := by decide +kernel
theorem dX11_copy_144 : decode cX11_copy 144 = .ok (.iload 5, 2) := by decide +kernel
theorem dX11_copy_146 : decode cX11_copy 146 = .ok (.invokestatic 349, 3) := by decide +kernel
theorem dX11_copy_149 : decode cX11_copy 149 = .ok (.iload 5, 2) := by decide +kernel
theorem dX11_copy_151 : decode cX11_copy 151 = .ok (.ireturn, 1) := by decide +kernel
theorem dX11_weight_0 : decode cX11_weight 0 = .ok (.aload_n 0, 1) := by decide +kernel
theorem dX11_weight_1 : decode cX11_weight 1 = .ok (.iload_n 1, 1) := by decide +kernel
theorem dX11_weight_2 : decode cX11_weight 2 = .ok (.invokevirtual 355, 3) := by decide +kernel
theorem dX11_weight_5 : decode cX11_weight 5 = .ok (.istore_n 2, 1) := by decide +kernel
theorem dX11_weight_6 : decode cX11_weight 6 = .ok (.iload_n 2, 1) := by decide +kernel
theorem dX11_weight_7 : decode cX11_weight 7 = .ok (.ifCond .eq 7, 3) := by decide +kernel
theorem dX11_weight_10 : decode cX11_weight 10 = .ok (.iload_n 2, 1) := by decide +kernel
theorem dX11_weight_11 : decode cX11_weight 11 = .ok (.goto 12, 3) := by decide +kernel
theorem dX11_weight_14 : decode cX11_weight 14 = .ok (.aload_n 0, 1) := by decide +kernel
theorem dX11_weight_15 : decode cX11_weight 15 = .ok (.getfield 41, 3) := by decide +kernel
theorem dX11_weight_18 : decode cX11_weight 18 = .ok (.iload_n 1, 1) := by decide +kernel
theorem dX11_weight_19 : decode cX11_weight 19 = .ok (.aaload, 1) := by decide +kernel
theorem dX11_weight_20 : decode cX11_weight 20 = .ok (.invokevirtual 358, 3) := by decide +kernel
theorem dX11_weight_23 : decode cX11_weight 23 = .ok (.ireturn, 1) := by decide +kernel
theorem dX11_toss_0 : decode cX11_toss 0 = .ok (.aload_n 0, 1) := by decide +kernel
theorem dX11_toss_1 : decode cX11_toss 1 = .ok (.iload_n 1, 1) := by decide +kernel
theorem dX11_toss_2 : decode cX11_toss 2 = .ok (.invokevirtual 355, 3) := by decide +kernel
theorem dX11_toss_5 : decode cX11_toss 5 = .ok (.istore_n 2, 1) := by decide +kernel
theorem dX11_toss_6 : decode cX11_toss 6 = .ok (.iload_n 2, 1) := by decide +kernel
theorem dX11_toss_7 : decode cX11_toss 7 = .ok (.ifCond .eq 5, 3) := by decide +kernel
theorem dX11_toss_10 : decode cX11_toss 10 = .ok (.iload_n 2, 1) := by decide +kernel
theorem dX11_toss_11 : decode cX11_toss 11 = .ok (.ireturn, 1) := by decide +kernel
theorem dX11_toss_12 : decode cX11_toss 12 = .ok (.aload_n 0, 1) := by decide +kernel
theorem dX11_toss_13 : decode cX11_toss 13 = .ok (.getfield 41, 3) := by decide +kernel
theorem dX11_toss_16 : decode cX11_toss 16 = .ok (.iload_n 1, 1) := by decide +kernel
theorem dX11_toss_17 : decode cX11_toss 17 = .ok (.aaload, 1) := by decide +kernel
theorem dX11_toss_18 : decode cX11_toss 18 = .ok (.astore_n 3, 1) := by decide +kernel
theorem dX11_toss_19 : decode cX11_toss 19 = .ok (.aload_n 3, 1) := by decide +kernel
theorem dX11_toss_20 : decode cX11_toss 20 = .ok (.invokevirtual 361, 3) := by decide +kernel
theorem dX11_toss_23 : decode cX11_toss 23 = .ok (.goto 10, 3) := by decide +kernel
theorem dX11_toss_26 : decode cX11_toss 26 = .ok (.astore 4, 2) := by decide +kernel
theorem dX11_toss_28 : decode cX11_toss 28 = .ok (.aload_n 3, 1) := by decide +kernel
theorem dX11_toss_29 : decode cX11_toss 29 = .ok (.getfield 364, 3) := by decide +kernel
theorem dX11_toss_32 : decode cX11_toss 32 = .ok (.ireturn, 1) := by decide +kernel
theorem dX11_toss_33 : decode cX11_toss 33 = .ok (.bipush (-15), 2) := by decide +kernel
theorem dX11_toss_35 : decode cX11_toss 35 = .ok (.ireturn, 1) := by decide +kernel
theorem dX11_refusalOfPageOn_0 : decode cX11_refusalOfPageOn 0 = .ok (.iload_n 1, 1) := by decide +kernel
theorem dX11_refusalOfPageOn_1 : decode cX11_refusalOfPageOn 1 = .ok (.invokestatic 306, 3) := by decide +kernel
theorem dX11_refusalOfPageOn_4 : decode cX11_refusalOfPageOn 4 = .ok (.ifCond .ne 5, 3) := by decide +kernel
theorem dX11_refusalOfPageOn_7 : decode cX11_refusalOfPageOn 7 = .ok (.iconst (-1), 1) := by decide +kernel
theorem dX11_refusalOfPageOn_8 : decode cX11_refusalOfPageOn 8 = .ok (.ireturn, 1) := by decide +kernel
theorem dX11_refusalOfPageOn_9 : decode cX11_refusalOfPageOn 9 = .ok (.aload_n 0, 1) := by decide +kernel
theorem dX11_refusalOfPageOn_10 : decode cX11_refusalOfPageOn 10 = .ok (.getfield 41, 3) := by decide +kernel
theorem dX11_refusalOfPageOn_13 : decode cX11_refusalOfPageOn 13 = .ok (.iload_n 1, 1) := by decide +kernel
theorem dX11_refusalOfPageOn_14 : decode cX11_refusalOfPageOn 14 = .ok (.aaload, 1) := by decide +kernel
theorem dX11_refusalOfPageOn_15 : decode cX11_refusalOfPageOn 15 = .ok (.getfield 309, 3) := by decide +kernel
theorem dX11_refusalOfPageOn_18 : decode cX11_refusalOfPageOn 18 = .ok (.ifCond .ne 6, 3) := by decide +kernel
theorem dX11_refusalOfPageOn_21 : decode cX11_refusalOfPageOn 21 = .ok (.bipush (-11), 2) := by decide +kernel
theorem dX11_refusalOfPageOn_23 : decode cX11_refusalOfPageOn 23 = .ok (.ireturn, 1) := by decide +kernel
theorem dX11_refusalOfPageOn_24 : decode cX11_refusalOfPageOn 24 = .ok (.aload_n 0, 1) := by decide +kernel
theorem dX11_refusalOfPageOn_25 : decode cX11_refusalOfPageOn 25 = .ok (.getfield 41, 3) := by decide +kernel
theorem dX11_refusalOfPageOn_28 : decode cX11_refusalOfPageOn 28 = .ok (.iload_n 1, 1) := by decide +kernel
theorem dX11_refusalOfPageOn_29 : decode cX11_refusalOfPageOn 29 = .ok (.aaload, 1) := by decide +kernel
theorem dX11_refusalOfPageOn_30 : decode cX11_refusalOfPageOn 30 = .ok (.getfield 309, 3) := by decide +kernel
theorem dX11_refusalOfPageOn_33 : decode cX11_refusalOfPageOn 33 = .ok (.iconst 1, 1) := by decide +kernel
theorem dX11_refusalOfPageOn_34 : decode cX11_refusalOfPageOn 34 = .ok (.if_icmp .ne 7, 3) := by decide +kernel
theorem dX11_refusalOfPageOn_37 : decode cX11_refusalOfPageOn 37 = .ok (.iconst 0, 1) := by decide +kernel
theorem dX11_refusalOfPageOn_38 : decode cX11_refusalOfPageOn 38 = .ok (.goto 5, 3) := by decide +kernel
theorem dX11_refusalOfPageOn_41 : decode cX11_refusalOfPageOn 41 = .ok (.bipush (-12), 2) := by decide +kernel
theorem dX11_refusalOfPageOn_43 : decode cX11_refusalOfPageOn 43 = .ok (.ireturn, 1) := by decide +kernel
theorem dX11_isShelf_0 : decode cX11_isShelf 0 = .ok (.iload_n 0, 1) := by decide +kernel
theorem dX11_isShelf_1 : decode cX11_isShelf 1 = .ok (.iconst 0, 1) := by decide +kernel
theorem dX11_isShelf_2 : decode cX11_isShelf 2 = .ok (.bipush 7, 2) := by decide +kernel
theorem dX11_isShelf_4 : decode cX11_isShelf 4 = .ok (.invokestatic 50, 3) := by decide +kernel
theorem dX11_isShelf_7 : decode cX11_isShelf 7 = .ok (.ireturn, 1) := by decide +kernel
theorem dX11_ruleIsAllowed_0 : decode cX11_ruleIsAllowed 0 = .ok (.iload_n 0, 1) := by decide +kernel
theorem dX11_ruleIsAllowed_1 : decode cX11_ruleIsAllowed 1 = .ok (.iconst 0, 1) := by decide +kernel
theorem dX11_ruleIsAllowed_2 : decode cX11_ruleIsAllowed 2 = .ok (.iconst 2, 1) := by decide +kernel
theorem dX11_ruleIsAllowed_3 : decode cX11_ruleIsAllowed 3 = .ok (.invokestatic 50, 3) := by decide +kernel
theorem dX11_ruleIsAllowed_6 : decode cX11_ruleIsAllowed 6 = .ok (.ifCond .eq 27, 3) := by decide +kernel
theorem dX11_ruleIsAllowed_9 : decode cX11_ruleIsAllowed 9 = .ok (.iload_n 1, 1) := by decide +kernel
theorem dX11_ruleIsAllowed_10 : decode cX11_ruleIsAllowed 10 = .ok (.iconst 0, 1) := by decide +kernel
theorem dX11_ruleIsAllowed_11 : decode cX11_ruleIsAllowed 11 = .ok (.bipush 50, 2) := by decide +kernel
theorem dX11_ruleIsAllowed_13 : decode cX11_ruleIsAllowed 13 = .ok (.invokestatic 50, 3) := by decide +kernel
theorem dX11_ruleIsAllowed_16 : decode cX11_ruleIsAllowed 16 = .ok (.ifCond .eq 17, 3) := by decide +kernel
theorem dX11_ruleIsAllowed_19 : decode cX11_ruleIsAllowed 19 = .ok (.iload_n 2, 1) := by decide +kernel
theorem dX11_ruleIsAllowed_20 : decode cX11_ruleIsAllowed 20 = .ok (.iconst 1, 1) := by decide +kernel
theorem dX11_ruleIsAllowed_21 : decode cX11_ruleIsAllowed 21 = .ok (.bipush 10, 2) := by decide +kernel
theorem dX11_ruleIsAllowed_23 : decode cX11_ruleIsAllowed 23 = .ok (.invokestatic 50, 3) := by decide +kernel
theorem dX11_ruleIsAllowed_26 : decode cX11_ruleIsAllowed 26 = .ok (.ifCond .eq 7, 3) := by decide +kernel
theorem dX11_ruleIsAllowed_29 : decode cX11_ruleIsAllowed 29 = .ok (.iconst 1, 1) := by decide +kernel
theorem dX11_ruleIsAllowed_30 : decode cX11_ruleIsAllowed 30 = .ok (.goto 4, 3) := by decide +kernel
theorem dX11_ruleIsAllowed_33 : decode cX11_ruleIsAllowed 33 = .ok (.iconst 0, 1) := by decide +kernel
theorem dX11_ruleIsAllowed_34 : decode cX11_ruleIsAllowed 34 = .ok (.ireturn, 1) := by decide +kernel
theorem dX11_within_0 : decode cX11_within 0 = .ok (.iload_n 1, 1) := by decide +kernel
theorem dX11_within_1 : decode cX11_within 1 = .ok (.iload_n 0, 1) := by decide +kernel
theorem dX11_within_2 : decode cX11_within 2 = .ok (.if_icmp .gt 12, 3) := by decide +kernel
theorem dX11_within_5 : decode cX11_within 5 = .ok (.iload_n 0, 1) := by decide +kernel
theorem dX11_within_6 : decode cX11_within 6 = .ok (.iload_n 2, 1) := by decide +kernel
theorem dX11_within_7 : decode cX11_within 7 = .ok (.if_icmp .gt 7, 3) := by decide +kernel
theorem dX11_within_10 : decode cX11_within 10 = .ok (.iconst 1, 1) := by decide +kernel
theorem dX11_within_11 : decode cX11_within 11 = .ok (.goto 4, 3) := by decide +kernel
theorem dX11_within_14 : decode cX11_within 14 = .ok (.iconst 0, 1) := by decide +kernel
theorem dX11_within_15 : decode cX11_within 15 = .ok (.ireturn, 1) := by decide +kernel
end
section
theorem dX12_init_0 : decode cX12_init 0 = .ok (.aload_n 0, 1) := by decide +kernel
theorem dX12_init_1 : decode cX12_init 1 = .ok (.invokespecial 1, 3) := by decide +kernel
theorem dX12_init_4 : decode cX12_init 4 = .ok (.aload_n 0, 1) := by decide +kernel
theorem dX12_init_5 : decode cX12_init 5 = .ok (.bipush 16, 2) := by decide +kernel
theorem dX12_init_7 : decode cX12_init 7 = .ok (.newarray .int, 2) := by decide +kernel
theorem dX12_init_9 : decode cX12_init 9 = .ok (.putfield 7, 3) := by decide +kernel
theorem dX12_init_12 : decode cX12_init 12 = .ok (.aload_n 0, 1) := by decide +kernel
theorem dX12_init_13 : decode cX12_init 13 = .ok (.bipush 16, 2) := by decide +kernel
theorem dX12_init_15 : decode cX12_init 15 = .ok (.newarray .int, 2) := by decide +kernel
theorem dX12_init_17 : decode cX12_init 17 = .ok (.putfield 13, 3) := by decide +kernel
theorem dX12_init_20 : decode cX12_init 20 = .ok (.aload_n 0, 1) := by decide +kernel
theorem dX12_init_21 : decode cX12_init 21 = .ok (.bipush 16, 2) := by decide +kernel
theorem dX12_init_23 : decode cX12_init 23 = .ok (.newarray .int, 2) := by decide +kernel
theorem dX12_init_25 : decode cX12_init 25 = .ok (.putfield 16, 3) := by decide +kernel
theorem dX12_init_28 : decode cX12_init 28 = .ok (.aload_n 0, 1) := by decide +kernel
theorem dX12_init_29 : decode cX12_init 29 = .ok (.bipush 20, 2) := by decide +kernel
theorem dX12_init_31 : decode cX12_init 31 = .ok (.newarray .int, 2) := by decide +kernel
theorem dX12_init_33 : decode cX12_init 33 = .ok (.putfield 19, 3) := by decide +kernel
theorem dX12_init_36 : decode cX12_init 36 = .ok (.aload_n 0, 1) := by decide +kernel
theorem dX12_init_37 : decode cX12_init 37 = .ok (.bipush 10, 2) := by decide +kernel
theorem dX12_init_39 : decode cX12_init 39 = .ok (.newarray .int, 2) := by decide +kernel
theorem dX12_init_41 : decode cX12_init 41 = .ok (.putfield 22, 3) := by decide +kernel
theorem dX12_init_44 : decode cX12_init 44 = .ok (.aload_n 0, 1) := by decide +kernel
theorem dX12_init_45 : decode cX12_init 45 = .ok (.sipush 600, 3) := by decide +kernel
theorem dX12_init_48 : decode cX12_init 48 = .ok (.newarray .int, 2) := by decide +kernel
theorem dX12_init_50 : decode cX12_init 50 = .ok (.putfield 25, 3) := by decide +kernel
theorem dX12_init_53 : decode cX12_init 53 = .ok (.aload_n 0, 1) := by decide +kernel
theorem dX12_init_54 : decode cX12_init 54 = .ok (.sipush 600, 3) := by decide +kernel
theorem dX12_init_57 : decode cX12_init 57 = .ok (.newarray .int, 2) := by decide +kernel
theorem dX12_init_59 : decode cX12_init 59 = .ok (.putfield 28, 3) := by decide +kernel
theorem dX12_init_62 : decode cX12_init 62 = .ok (.aload_n 0, 1) := by decide +kernel
theorem dX12_init_63 : decode cX12_init 63 = .ok (.sipush 600, 3) := by decide +kernel
theorem dX12_init_66 : decode cX12_init 66 = .ok (.newarray .boolean, 2) := by decide +kernel
theorem dX12_init_68 : decode cX12_init 68 = .ok (.putfield 31, 3) := by decide +kernel
theorem dX12_init_71 : decode cX12_init 71 = .ok (.aload_n 0, 1) := by decide +kernel
theorem dX12_init_72 : decode cX12_init 72 = .ok (.sipush 600, 3) := by decide +kernel
theorem dX12_init_75 : decode cX12_init 75 = .ok (.newarray .int, 2) := by decide +kernel
theorem dX12_init_77 : decode cX12_init 77 = .ok (.putfield 35, 3) := by decide +kernel
theorem dX12_init_80 : decode cX12_init 80 = .ok (.aload_n 0, 1) := by decide +kernel
theorem dX12_init_81 : decode cX12_init 81 = .ok (.iconst 2, 1) := by decide +kernel
theorem dX12_init_82 : decode cX12_init 82 = .ok (.putfield 38, 3) := by decide +kernel
theorem dX12_init_85 : decode cX12_init 85 = .ok (.aload_n 0, 1) := by decide +kernel
theorem dX12_init_86 : decode cX12_init 86 = .ok (.bipush 6, 2) := by decide +kernel
theorem dX12_init_88 : decode cX12_init 88 = .ok (.putfield 42, 3) := by decide +kernel
theorem dX12_init_91 : decode cX12_init 91 = .ok (.aload_n 0, 1) := by decide +kernel
theorem dX12_init_92 : decode cX12_init 92 = .ok (.iconst 2, 1) := by decide +kernel
theorem dX12_init_93 : decode cX12_init 93 = .ok (.newarray .int, 2) := by decide +kernel
theorem dX12_init_95 : decode cX12_init 95 = .ok (.putfield 45, 3) := by decide +kernel
theorem dX12_init_98 : decode cX12_init 98 = .ok (.aload_n 0, 1) := by decide +kernel
theorem dX12_init_99 : decode cX12_init 99 = .ok (.iconst 2, 1) := by decide +kernel
theorem dX12_init_100 : decode cX12_init 100 = .ok (.newarray .int, 2) := by decide +kernel
theorem dX12_init_102 : decode cX12_init 102 = .ok (.putfield 48, 3) := by decide +kernel
theorem dX12_init_105 : decode cX12_init 105 = .ok (.aload_n 0, 1) := by decide +kernel
theorem dX12_init_106 : decode cX12_init 106 = .ok (.iconst 2, 1) := by decide +kernel
theorem dX12_init_107 : decode cX12_init 107 = .ok (.newarray .int, 2) := by decide +kernel
theorem dX12_init_109 : decode cX12_init 109 = .ok (.dup, 1) := by decide +kernel
theorem dX12_init_110 : decode cX12_init 110 = .ok (.iconst 0, 1) := by decide +kernel
theorem dX12_init_111 : decode cX12_init 111 = .ok (.iconst 1, 1) := by decide +kernel
theorem dX12_init_112 : decode cX12_init 112 = .ok (.iastore, 1) := by decide +kernel
theorem dX12_init_113 : decode cX12_init 113 = .ok (.dup, 1) := by decide +kernel
theorem dX12_init_114 : decode cX12_init 114 = .ok (.iconst 1, 1) := by decide +kernel
theorem dX12_init_115 : decode cX12_init 115 = .ok (.iconst 1, 1) := by decide +kernel
theorem dX12_init_116 : decode cX12_init 116 = .ok (.iastore, 1) := by decide +kernel
theorem dX12_init_117 : decode cX12_init 117 = .ok (.putfield 51, 3) := by decide +kernel
theorem dX12_init_120 : decode cX12_init 120 = .ok (.aload_n 0, 1) := by decide +kernel
theorem dX12_init_121 : decode cX12_init 121 = .ok (.iconst 2, 1) := by decide +kernel
theorem dX12_init_122 : decode cX12_init 122 = .ok (.newarray .int, 2) := by decide +kernel
theorem dX12_init_124 : decode cX12_init 124 = .ok (.dup, 1) := by decide +kernel
theorem dX12_init_125 : decode cX12_init 125 = .ok (.iconst 0, 1) := by decide +kernel
theorem dX12_init_126 : decode cX12_init 126 = .ok (.iconst 1, 1) := by decide +kernel
theorem dX12_init_127 : decode cX12_init 127 = .ok (.iastore, 1) := by decide +kernel
theorem dX12_init_128 : decode cX12_init 128 = .ok (.dup, 1) := by decide +kernel
theorem dX12_init_129 : decode cX12_init 129 = .ok (.iconst 1, 1) := by decide +kernel
theorem dX12_init_130 : decode cX12_init 130 = .ok (.iconst 1, 1) := by decide +kernel
theorem dX12_init_131 : decode cX12_init 131 = .ok (.iastore, 1) := by decide +kernel
theorem dX12_init_132 : decode cX12_init 132 = .ok (.putfield 54, 3) := by decide +kernel
theorem dX12_init_135 : decode cX12_init 135 = .ok (.aload_n 0, 1) := by decide +kernel
theorem dX12_init_136 : decode cX12_init 136 = .ok (.iconst 2, 1) := by decide +kernel
theorem dX12_init_137 : decode cX12_init 137 = .ok (.newarray .int, 2) := by decide +kernel
theorem dX12_init_139 : decode cX12_init 139 = .ok (.putfield 57, 3) := by decide +kernel
theorem dX12_init_142 : decode cX12_init 142 = .ok (.aload_n 0, 1) := by decide +kernel
theorem dX12_init_143 : decode cX12_init 143 = .ok (.iconst 2, 1) := by decide +kernel
theorem dX12_init_144 : decode cX12_init 144 = .ok (.newarray .int, 2) := by decide +kernel
theorem dX12_init_146 : decode cX12_init 146 = .ok (.putfield 60, 3) := by decide +kernel
theorem dX12_init_149 : decode cX12_init 149 = .ok (.aload_n 0, 1) := by decide +kernel
theorem dX12_init_150 : decode cX12_init 150 = .ok (.iconst 2, 1) := by decide +kernel
theorem dX12_init_151 : decode cX12_init 151 = .ok (.newarray .long, 2) := by decide +kernel
theorem dX12_init_153 : decode cX12_init 153 = .ok (.putfield 63, 3) := by decide +kernel
theorem dX12_init_156 : decode cX12_init 156 = .ok (.aload_n 0, 1) := by decide +kernel
theorem dX12_init_157 : decode cX12_init 157 = .ok (.iconst 2, 1) := by decide +kernel
theorem dX12_init_158 : decode cX12_init 158 = .ok (.newarray .int, 2) := by decide +kernel
theorem dX12_init_160 : decode cX12_init 160 = .ok (.putfield 67, 3) := by decide +kernel
theorem dX12_init_163 : decode cX12_init 163 = .ok (.aload_n 0, 1) := by decide +kernel
theorem dX12_init_164 : decode cX12_init 164 = .ok (.iconst 2, 1) := by decide +kernel
theorem dX12_init_165 : decode cX12_init 165 = .ok (.newarray .int, 2) := by decide +kernel
theorem dX12_init_167 : decode cX12_init 167 = .ok (.putfield 70, 3) := by decide +kernel
theorem dX12_init_170 : decode cX12_init 170 = .ok (.aload_n 0, 1) := by decide +kernel
theorem dX12_init_171 : decode cX12_init 171 = .ok (.iconst 2, 1) := by decide +kernel
theorem dX12_init_172 : decode cX12_init 172 = .ok (.newarray .int, 2) := by decide +kernel
theorem dX12_init_174 : decode cX12_init 174 = .ok (.putfield 73, 3) := by decide +kernel
theorem dX12_init_177 : decode cX12_init 177 = .ok (.aload_n 0, 1) := by decide +kernel
theorem dX12_init_178 : decode cX12_init 178 = .ok (.iconst 2, 1) := by decide +kernel
theorem dX12_init_179 : decode cX12_init 179 = .ok (.newarray .int, 2) := by decide +kernel
theorem dX12_init_181 : decode cX12_init 181 = .ok (.putfield 76, 3) := by decide +kernel
theorem dX12_init_184 : decode cX12_init 184 = .ok (.aload_n 0, 1) := by decide +kernel
theorem dX12_init_185 : decode cX12_init 185 = .ok (.bipush 40, 2) := by decide +kernel
theorem dX12_init_187 : decode cX12_init 187 = .ok (.newarray .int, 2) := by decide +kernel
theorem dX12_init_189 : decode cX12_init 189 = .ok (.putfield 79, 3) := by decide +kernel
theorem dX12_init_192 : decode cX12_init 192 = .ok (.aload_n 0, 1) := by decide +kernel
theorem dX12_init_193 : decode cX12_init 193 = .ok (.bipush 40, 2) := by decide +kernel
theorem dX12_init_195 : decode cX12_init 195 = .ok (.newarray .int, 2) := by decide +kernel
theorem dX12_init_197 : decode cX12_init 197 = .ok (.putfield 82, 3) := by decide +kernel
theorem dX12_init_200 : decode cX12_init 200 = .ok (.aload_n 0, 1) := by decide +kernel
theorem dX12_init_201 : decode cX12_init 201 = .ok (.bipush 40, 2) := by decide +kernel
theorem dX12_init_203 : decode cX12_init 203 = .ok (.newarray .boolean, 2) := by decide +kernel
theorem dX12_init_205 : decode cX12_init 205 = .ok (.putfield 85, 3) := by decide +kernel
theorem dX12_init_208 : decode cX12_init 208 = .ok (.aload_n 0, 1) := by decide +kernel
theorem dX12_init_209 : decode cX12_init 209 = .ok (.bipush 40, 2) := by decide +kernel
theorem dX12_init_211 : decode cX12_init 211 = .ok (.newarray .int, 2) := by decide +kernel
theorem dX12_init_213 : decode cX12_init 213 = .ok (.putfield 88, 3) := by decide +kernel
theorem dX12_init_216 : decode cX12_init 216 = .ok (.aload_n 0, 1) := by decide +kernel
theorem dX12_init_217 : decode cX12_init 217 = .ok (.sipush 160, 3) := by decide +kernel
theorem dX12_init_220 : decode cX12_init 220 = .ok (.newarray .int, 2) := by decide +kernel
theorem dX12_init_222 : decode cX12_init 222 = .ok (.putfield 91, 3) := by decide +kernel
theorem dX12_init_225 : decode cX12_init 225 = .ok (.aload_n 0, 1) := by decide +kernel
theorem dX12_init_226 : decode cX12_init 226 = .ok (.bipush 40, 2) := by decide +kernel
theorem dX12_init_228 : decode cX12_init 228 = .ok (.newarray .int, 2) := by decide +kernel
theorem dX12_init_230 : decode cX12_init 230 = .ok (.putfield 94, 3) := by decide +kernel
theorem dX12_init_233 : decode cX12_init 233 = .ok (.aload_n 0, 1) := by decide +kernel
theorem dX12_init_234 : decode cX12_init 234 = .ok (.bipush 40, 2) := by decide +kernel
theorem dX12_init_236 : decode cX12_init 236 = .ok (.newarray .long, 2) := by decide +kernel
theorem dX12_init_238 : decode cX12_init 238 = .ok (.putfield 97, 3) := by decide +kernel
theorem dX12_init_241 : decode cX12_init 241 = .ok (.aload_n 0, 1) := by decide +kernel
theorem dX12_init_242 : decode cX12_init 242 = .ok (.sipush 160, 3) := by decide +kernel
theorem dX12_init_245 : decode cX12_init 245 = .ok (.newarray .int, 2) := by decide +kernel
theorem dX12_init_247 : decode cX12_init 247 = .ok (.putfield 100, 3) := by decide +kernel
theorem dX12_init_250 : decode cX12_init 250 = .ok (.aload_n 0, 1) := by decide +kernel
theorem dX12_init_251 : decode cX12_init 251 = .ok (.bipush 20, 2) := by decide +kernel
theorem dX12_init_253 : decode cX12_init 253 = .ok (.newarray .int, 2) := by decide +kernel
theorem dX12_init_255 : decode cX12_init 255 = .ok (.putfield 103, 3) := by decide +kernel
theorem dX12_init_258 : decode cX12_init 258 = .ok (.aload_n 0, 1) := by decide +kernel
theorem dX12_init_259 : decode cX12_init 259 = .ok (.bipush 20, 2) := by decide +kernel
theorem dX12_init_261 : decode cX12_init 261 = .ok (.newarray .int, 2) := by decide +kernel
theorem dX12_init_263 : decode cX12_init 263 = .ok (.putfield 106, 3) := by decide +kernel
theorem dX12_init_266 : decode cX12_init 266 = .ok (.aload_n 0, 1) := by decide +kernel
theorem dX12_init_267 : decode cX12_init 267 = .ok (.bipush 20, 2) := by decide +kernel
theorem dX12_init_269 : decode cX12_init 269 = .ok (.newarray .int, 2) := by decide +kernel
theorem dX12_init_271 : decode cX12_init 271 = .ok (.putfield 109, 3) := by decide +kernel
theorem dX12_init_274 : decode cX12_init 274 = .ok (.aload_n 0, 1) := by decide +kernel
theorem dX12_init_275 : decode cX12_init 275 = .ok (.bipush 20, 2) := by decide +kernel
theorem dX12_init_277 : decode cX12_init 277 = .ok (.newarray .int, 2) := by decide +kernel
theorem dX12_init_279 : decode cX12_init 279 = .ok (.putfield 112, 3) := by decide +kernel
theorem dX12_init_282 : decode cX12_init 282 = .ok (.aload_n 0, 1) := by decide +kernel
theorem dX12_init_283 : decode cX12_init 283 = .ok (.bipush 20, 2) := by decide +kernel
theorem dX12_init_285 : decode cX12_init 285 = .ok (.newarray .int, 2) := by decide +kernel
theorem dX12_init_287 : decode cX12_init 287 = .ok (.putfield 115, 3) := by decide +kernel
theorem dX12_init_290 : decode cX12_init 290 = .ok (.aload_n 0, 1) := by decide +kernel
theorem dX12_init_291 : decode cX12_init 291 = .ok (.bipush 20, 2) := by decide +kernel
theorem dX12_init_293 : decode cX12_init 293 = .ok (.newarray .boolean, 2) := by decide +kernel
theorem dX12_init_295 : decode cX12_init 295 = .ok (.putfield 118, 3) := by decide +kernel
theorem dX12_init_298 : decode cX12_init 298 = .ok (.aload_n 0, 1) := by decide +kernel
theorem dX12_init_299 : decode cX12_init 299 = .ok (.bipush 20, 2) := by decide +kernel
theorem dX12_init_301 : decode cX12_init 301 = .ok (.newarray .int, 2) := by decide +kernel
theorem dX12_init_303 : decode cX12_init 303 = .ok (.putfield 121, 3) := by decide +kernel
theorem dX12_init_306 : decode cX12_init 306 = .ok (.aload_n 0, 1) := by decide +kernel
theorem dX12_init_307 : decode cX12_init 307 = .ok (.bipush 20, 2) := by decide +kernel
theorem dX12_init_309 : decode cX12_init 309 = .ok (.newarray .long, 2) := by decide +kernel
theorem dX12_init_311 : decode cX12_init 311 = .ok (.putfield 124, 3) := by decide +kernel
theorem dX12_init_314 : decode cX12_init 314 = .ok (.aload_n 0, 1) := by decide +kernel
theorem dX12_init_315 : decode cX12_init 315 = .ok (.bipush 20, 2) := by decide +kernel
theorem dX12_init_317 : decode cX12_init 317 = .ok (.newarray .int, 2) := by decide +kernel
theorem dX12_init_319 : decode cX12_init 319 = .ok (.putfield 127, 3) := by decide +kernel
theorem dX12_init_322 : decode cX12_init 322 = .ok (.aload_n 0, 1) := by decide +kernel
theorem dX12_init_323 : decode cX12_init 323 = .ok (.bipush 20, 2) := by decide +kernel
theorem dX12_init_325 : decode cX12_init 325 = .ok (.newarray .boolean, 2) := by decide +kernel
theorem dX12_init_327 : decode cX12_init 327 = .ok (.putfield 130, 3) := by decide +kernel
theorem dX12_init_330 : decode cX12_init 330 = .ok (.aload_n 0, 1) := by decide +kernel
theorem dX12_init_331 : decode cX12_init 331 = .ok (.bipush 8, 2) := by decide +kernel
theorem dX12_init_333 : decode cX12_init 333 = .ok (.newarray .long, 2) := by decide +kernel
theorem dX12_init_335 : decode cX12_init 335 = .ok (.putfield 133, 3) := by decide +kernel
theorem dX12_init_338 : decode cX12_init 338 = .ok (.aload_n 0, 1) := by decide +kernel
theorem dX12_init_339 : decode cX12_init 339 = .ok (.bipush 32, 2) := by decide +kernel
theorem dX12_init_341 : decode cX12_init 341 = .ok (.newarray .int, 2) := by decide +kernel
theorem dX12_init_343 : decode cX12_init 343 = .ok (.putfield 136, 3) := by decide +kernel
theorem dX12_init_346 : decode cX12_init 346 = .ok (.aload_n 0, 1) := by decide +kernel
theorem dX12_init_347 : decode cX12_init 347 = .ok (.bipush 32, 2) := by decide +kernel
theorem dX12_init_349 : decode cX12_init 349 = .ok (.newarray .int, 2) := by decide +kernel
theorem dX12_init_351 : decode cX12_init 351 = .ok (.putfield 139, 3) := by decide +kernel
theorem dX12_init_354 : decode cX12_init 354 = .ok (.aload_n 0, 1) := by decide +kernel
theorem dX12_init_355 : decode cX12_init 355 = .ok (.bipush 32, 2) := by decide +kernel
theorem dX12_init_357 : decode cX12_init 357 = .ok (.newarray .int, 2) := by decide +kernel
theorem dX12_init_359 : decode cX12_init 359 = .ok (.putfield 142, 3) := by decide +kernel
theorem dX12_init_362 : decode cX12_init 362 = .ok (.aload_n 0, 1) := by decide +kernel
theorem dX12_init_363 : decode cX12_init 363 = .ok (.sipush 3000, 3) := by decide +kernel
theorem dX12_init_366 : decode cX12_init 366 = .ok (.newarray .int, 2) := by decide +kernel
theorem dX12_init_368 : decode cX12_init 368 = .ok (.putfield 145, 3) := by decide +kernel
theorem dX12_init_371 : decode cX12_init 371 = .ok (.aload_n 0, 1) := by decide +kernel
theorem dX12_init_372 : decode cX12_init 372 = .ok (.sipush 300, 3) := by decide +kernel
theorem dX12_init_375 : decode cX12_init 375 = .ok (.newarray .int, 2) := by decide +kernel
theorem dX12_init_377 : decode cX12_init 377 = .ok (.putfield 148, 3) := by decide +kernel
theorem dX12_init_380 : decode cX12_init 380 = .ok (.aload_n 0, 1) := by decide +kernel
theorem dX12_init_381 : decode cX12_init 381 = .ok (.iconst 4, 1) := by decide +kernel
theorem dX12_init_382 : decode cX12_init 382 = .ok (.newarray .long, 2) := by decide +kernel
theorem dX12_init_384 : decode cX12_init 384 = .ok (.putfield 151, 3) := by decide +kernel
theorem dX12_init_387 : decode cX12_init 387 = .ok (.aload_n 0, 1) := by decide +kernel
theorem dX12_init_388 : decode cX12_init 388 = .ok (.iconst 4, 1) := by decide +kernel
theorem dX12_init_389 : decode cX12_init 389 = .ok (.newarray .long, 2) := by decide +kernel
theorem dX12_init_391 : decode cX12_init 391 = .ok (.putfield 154, 3) := by decide +kernel
theorem dX12_init_394 : decode cX12_init 394 = .ok (.aload_n 0, 1) := by decide +kernel
theorem dX12_init_395 : decode cX12_init 395 = .ok (.bipush 80, 2) := by decide +kernel
theorem dX12_init_397 : decode cX12_init 397 = .ok (.newarray .int, 2) := by decide +kernel
theorem dX12_init_399 : decode cX12_init 399 = .ok (.putfield 157, 3) := by decide +kernel
theorem dX12_init_402 : decode cX12_init 402 = .ok (.aload_n 0, 1) := by decide +kernel
theorem dX12_init_403 : decode cX12_init 403 = .ok (.bipush 8, 2) := by decide +kernel
theorem dX12_init_405 : decode cX12_init 405 = .ok (.newarray .int, 2) := by decide +kernel
theorem dX12_init_407 : decode cX12_init 407 = .ok (.putfield 160, 3) := by decide +kernel
theorem dX12_init_410 : decode cX12_init 410 = .ok (.aload_n 0, 1) := by decide +kernel
theorem dX12_init_411 : decode cX12_init 411 = .ok (.bipush 8, 2) := by decide +kernel
theorem dX12_init_413 : decode cX12_init 413 = .ok (.newarray .int, 2) := by decide +kernel
theorem dX12_init_415 : decode cX12_init 415 = .ok (.putfield 163, 3) := by decide +kernel
theorem dX12_init_418 : decode cX12_init 418 = .ok (.aload_n 0, 1) := by decide +kernel
theorem dX12_init_419 : decode cX12_init 419 = .ok (.bipush 8, 2) := by decide +kernel
theorem dX12_init_421 : decode cX12_init 421 = .ok (.newarray .int, 2) := by decide +kernel
theorem dX12_init_423 : decode cX12_init 423 = .ok (.putfield 166, 3) := by decide +kernel
theorem dX12_init_426 : decode cX12_init 426 = .ok (.aload_n 0, 1) := by decide +kernel
theorem dX12_init_427 : decode cX12_init 427 = .ok (.bipush 8, 2) := by decide +kernel
theorem dX12_init_429 : decode cX12_init 429 = .ok (.newarray .int, 2) := by decide +kernel
theorem dX12_init_431 : decode cX12_init 431 = .ok (.putfield 169, 3) := by decide +kernel
theorem dX12_init_434 : decode cX12_init 434 = .ok (.aload_n 0, 1) := by decide +kernel
theorem dX12_init_435 : decode cX12_init 435 = .ok (.sipush 480, 3) := by decide +kernel
theorem dX12_init_438 : decode cX12_init 438 = .ok (.newarray .int, 2) := by decide +kernel
theorem dX12_init_440 : decode cX12_init 440 = .ok (.putfield 172, 3) := by decide +kernel
theorem dX12_init_443 : decode cX12_init 443 = .ok (.aload_n 0, 1) := by decide +kernel
theorem dX12_init_444 : decode cX12_init 444 = .ok (.bipush 60, 2) := by decide +kernel
theorem dX12_init_446 : decode cX12_init 446 = .ok (.newarray .int, 2) := by decide +kernel
theorem dX12_init_448 : decode cX12_init 448 = .ok (.putfield 175, 3) := by decide +kernel
theorem dX12_init_451 : decode cX12_init 451 = .ok (.aload_n 0, 1) := by decide +kernel
theorem dX12_init_452 : decode cX12_init 452 = .ok (.iconst 2, 1) := by decide +kernel
theorem dX12_init_453 : decode cX12_init 453 = .ok (.iload_n 1, 1) := by decide +kernel
theorem dX12_init_454 : decode cX12_init 454 = .ok (.iconst 3, 1) := by decide +kernel
theorem dX12_init_455 : decode cX12_init 455 = .ok (.invokestatic 178, 3) := by decide +kernel
theorem dX12_init_458 : decode cX12_init 458 = .ok (.iadd, 1) := by decide +kernel
theorem dX12_init_459 : decode cX12_init 459 = .ok (.putfield 182, 3) := by decide +kernel
theorem dX12_init_462 : decode cX12_init 462 = .ok (.aload_n 0, 1) := by decide +kernel
theorem dX12_init_463 : decode cX12_init 463 = .ok (.iconst 1, 1) := by decide +kernel
theorem dX12_init_464 : decode cX12_init 464 = .ok (.iload_n 2, 1) := by decide +kernel
theorem dX12_init_465 : decode cX12_init 465 = .ok (.iconst 3, 1) := by decide +kernel
theorem dX12_init_466 : decode cX12_init 466 = .ok (.invokestatic 178, 3) := by decide +kernel
theorem dX12_init_469 : decode cX12_init 469 = .ok (.iadd, 1) := by decide +kernel
theorem dX12_init_470 : decode cX12_init 470 = .ok (.putfield 185, 3) := by decide +kernel
theorem dX12_init_473 : decode cX12_init 473 = .ok (.aload_n 0, 1) := by decide +kernel
theorem dX12_init_474 : decode cX12_init 474 = .ok (.iconst 4, 1) := by decide +kernel
theorem dX12_init_475 : decode cX12_init 475 = .ok (.iload_n 3, 1) := by decide +kernel
theorem dX12_init_476 : decode cX12_init 476 = .ok (.bipush 9, 2) := by decide +kernel
theorem dX12_init_478 : decode cX12_init 478 = .ok (.invokestatic 178, 3) := by decide +kernel
theorem dX12_init_481 : decode cX12_init 481 = .ok (.iadd, 1) := by decide +kernel
theorem dX12_init_482 : decode cX12_init 482 = .ok (.putfield 188, 3) := by decide +kernel
theorem dX12_init_485 : decode cX12_init 485 = .ok (.iconst 0, 1) := by decide +kernel
theorem dX12_init_486 : decode cX12_init 486 = .ok (.istore 4, 2) := by decide +kernel
theorem dX12_init_488 : decode cX12_init 488 = .ok (.iload 4, 2) := by decide +kernel
theorem dX12_init_490 : decode cX12_init 490 = .ok (.bipush 16, 2) := by decide +kernel
theorem dX12_init_492 : decode cX12_init 492 = .ok (.if_icmp .ge 40, 3) := by decide +kernel
theorem dX12_init_495 : decode cX12_init 495 = .ok (.aload_n 0, 1) := by decide +kernel
theorem dX12_init_496 : decode cX12_init 496 = .ok (.getfield 7, 3) := by decide +kernel
theorem dX12_init_499 : decode cX12_init 499 = .ok (.iload 4, 2) := by decide +kernel
theorem dX12_init_501 : decode cX12_init 501 = .ok (.iload 4, 2) := by decide +kernel
theorem dX12_init_503 : decode cX12_init 503 = .ok (.iconst 4, 1) := by decide +kernel
theorem dX12_init_504 : decode cX12_init 504 = .ok (.idiv, 1) := by decide +kernel
theorem dX12_init_505 : decode cX12_init 505 = .ok (.iload 4, 2) := by decide +kernel
theorem dX12_init_507 : decode cX12_init 507 = .ok (.iconst 4, 1) := by decide +kernel
theorem dX12_init_508 : decode cX12_init 508 = .ok (.irem, 1) := by decide +kernel
theorem dX12_init_509 : decode cX12_init 509 = .ok (.if_icmp .ne 7, 3) := by decide +kernel
theorem dX12_init_512 : decode cX12_init 512 = .ok (.iconst 0, 1) := by decide +kernel
theorem dX12_init_513 : decode cX12_init 513 = .ok (.goto 4, 3) := by decide +kernel
theorem dX12_init_516 : decode cX12_init 516 = .ok (.iconst 2, 1) := by decide +kernel
theorem dX12_init_517 : decode cX12_init 517 = .ok (.iastore, 1) := by decide +kernel
theorem dX12_init_518 : decode cX12_init 518 = .ok (.aload_n 0, 1) := by decide +kernel
theorem dX12_init_519 : decode cX12_init 519 = .ok (.getfield 13, 3) := by decide +kernel
theorem dX12_init_522 : decode cX12_init 522 = .ok (.iload 4, 2) := by decide +kernel
theorem dX12_init_524 : decode cX12_init 524 = .ok (.iconst 2, 1) := by decide +kernel
theorem dX12_init_525 : decode cX12_init 525 = .ok (.iastore, 1) := by decide +kernel
theorem dX12_init_526 : decode cX12_init 526 = .ok (.iinc 4 1, 3) := by decide +kernel
theorem dX12_init_529 : decode cX12_init 529 = .ok (.goto (-41), 3) := by decide +kernel
theorem dX12_init_532 : decode cX12_init 532 = .ok (.aload_n 0, 1) := by decide +kernel
theorem dX12_init_533 : decode cX12_init 533 = .ok (.invokevirtual 191, 3) := by decide +kernel
theorem dX12_init_536 : decode cX12_init 536 = .ok (.return_, 1) := by decide +kernel
theorem dX12_mod_0 : decode cX12_mod 0 = .ok (.iload_n 0, 1) := by decide +kernel
theorem dX12_mod_1 : decode cX12_mod 1 = .ok (.iload_n 1, 1) := by decide +kernel
theorem dX12_mod_2 : decode cX12_mod 2 = .ok (.irem, 1) := by decide +kernel
theorem dX12_mod_3 : decode cX12_mod 3 = .ok (.istore_n 2, 1) := by decide +kernel
theorem dX12_mod_4 : decode cX12_mod 4 = .ok (.iload_n 2, 1) := by decide +kernel
theorem dX12_mod_5 : decode cX12_mod 5 = .ok (.ifCond .ge 9, 3) := by decide +kernel
theorem dX12_mod_8 : decode cX12_mod 8 = .ok (.iload_n 2, 1) := by decide +kernel
theorem dX12_mod_9 : decode cX12_mod 9 = .ok (.iload_n 1, 1) := by decide +kernel
theorem dX12_mod_10 : decode cX12_mod 10 = .ok (.iadd, 1) := by decide +kernel
theorem dX12_mod_11 : decode cX12_mod 11 = .ok (.goto 4, 3) := by decide +kernel
theorem dX12_mod_14 : decode cX12_mod 14 = .ok (.iload_n 2, 1) := by decide +kernel
theorem dX12_mod_15 : decode cX12_mod 15 = .ok (.ireturn, 1) := by decide +kernel
theorem dX12_thrown_0 : decode cX12_thrown 0 = .ok (.aload_n 0, 1) := by decide +kernel
theorem dX12_thrown_1 : decode cX12_thrown 1 = .ok (.getfield 194, 3) := by decide +kernel
theorem dX12_thrown_4 : decode cX12_thrown 4 = .ok (.ireturn, 1) := by decide +kernel
theorem dX12_isIn_0 : decode cX12_isIn 0 = .ok (.lload_n 0, 1) := by decide +kernel
theorem dX12_isIn_1 : decode cX12_isIn 1 = .ok (.lload_n 2, 1) := by decide +kernel
theorem dX12_isIn_2 : decode cX12_isIn 2 = .ok (.lcmp, 1) := by decide +kernel
theorem dX12_isIn_3 : decode cX12_isIn 3 = .ok (.ifCond .lt 14, 3) := by decide +kernel
theorem dX12_isIn_6 : decode cX12_isIn 6 = .ok (.lload_n 0, 1) := by decide +kernel
theorem dX12_isIn_7 : decode cX12_isIn 7 = .ok (.lload 4, 2) := by decide +kernel
theorem dX12_isIn_9 : decode cX12_isIn 9 = .ok (.lcmp, 1) := by decide +kernel
theorem dX12_isIn_10 : decode cX12_isIn 10 = .ok (.ifCond .gt 7, 3) := by decide +kernel
theorem dX12_isIn_13 : decode cX12_isIn 13 = .ok (.iconst 1, 1) := by decide +kernel
theorem dX12_isIn_14 : decode cX12_isIn 14 = .ok (.goto 4, 3) := by decide +kernel
theorem dX12_isIn_17 : decode cX12_isIn 17 = .ok (.iconst 0, 1) := by decide +kernel
theorem dX12_isIn_18 : decode cX12_isIn 18 = .ok (.ireturn, 1) := by decide +kernel
theorem dX12_isNode_0 : decode cX12_isNode 0 = .ok (.iload_n 1, 1) := by decide +kernel
theorem dX12_isNode_1 : decode cX12_isNode 1 = .ok (.ifCond .lt 15, 3) := by decide +kernel
theorem dX12_isNode_4 : decode cX12_isNode 4 = .ok (.iload_n 1, 1) := by decide +kernel
theorem dX12_isNode_5 : decode cX12_isNode 5 = .ok (.aload_n 0, 1) := by decide +kernel
theorem dX12_isNode_6 : decode cX12_isNode 6 = .ok (.getfield 182, 3) := by decide +kernel
theorem dX12_isNode_9 : decode cX12_isNode 9 = .ok (.if_icmp .ge 7, 3) := by decide +kernel
theorem dX12_isNode_12 : decode cX12_isNode 12 = .ok (.iconst 1, 1) := by decide +kernel
theorem dX12_isNode_13 : decode cX12_isNode 13 = .ok (.goto 4, 3) := by decide +kernel
theorem dX12_isNode_16 : decode cX12_isNode 16 = .ok (.iconst 0, 1) := by decide +kernel
theorem dX12_isNode_17 : decode cX12_isNode 17 = .ok (.ireturn, 1) := by decide +kernel
theorem dX12_isPage_0 : decode cX12_isPage 0 = .ok (.iload_n 1, 1) := by decide +kernel
theorem dX12_isPage_1 : decode cX12_isPage 1 = .ok (.ifCond .lt 15, 3) := by decide +kernel
theorem dX12_isPage_4 : decode cX12_isPage 4 = .ok (.iload_n 1, 1) := by decide +kernel
theorem dX12_isPage_5 : decode cX12_isPage 5 = .ok (.aload_n 0, 1) := by decide +kernel
theorem dX12_isPage_6 : decode cX12_isPage 6 = .ok (.getfield 197, 3) := by decide +kernel
theorem dX12_isPage_9 : decode cX12_isPage 9 = .ok (.if_icmp .ge 7, 3) := by decide +kernel
theorem dX12_isPage_12 : decode cX12_isPage 12 = .ok (.iconst 1, 1) := by decide +kernel
theorem dX12_isPage_13 : decode cX12_isPage 13 = .ok (.goto 4, 3) := by decide +kernel
theorem dX12_isPage_16 : decode cX12_isPage 16 = .ok (.iconst 0, 1) := by decide +kernel
theorem dX12_isPage_17 : decode cX12_isPage 17 = .ok (.ireturn, 1) := by decide +kernel
theorem dX12_isThread_0 : decode cX12_isThread 0 = .ok (.iload_n 1, 1) := by decide +kernel
theorem dX12_isThread_1 : decode cX12_isThread 1 = .ok (.ifCond .lt 15, 3) := by decide +kernel
theorem dX12_isThread_4 : decode cX12_isThread 4 = .ok (.iload_n 1, 1) := by decide +kernel
theorem dX12_isThread_5 : decode cX12_isThread 5 = .ok (.aload_n 0, 1) := by decide +kernel
theorem dX12_isThread_6 : decode cX12_isThread 6 = .ok (.getfield 200, 3) := by decide +kernel
theorem dX12_isThread_9 : decode cX12_isThread 9 = .ok (.if_icmp .ge 7, 3) := by decide +kernel
theorem dX12_isThread_12 : decode cX12_isThread 12 = .ok (.iconst 1, 1) := by decide +kernel
theorem dX12_isThread_13 : decode cX12_isThread 13 = .ok (.goto 4, 3) := by decide +kernel
theorem dX12_isThread_16 : decode cX12_isThread 16 = .ok (.iconst 0, 1) := by decide +kernel
theorem dX12_isThread_17 : decode cX12_isThread 17 = .ok (.ireturn, 1) := by decide +kernel
theorem dX12_measure_0 : decode cX12_measure 0 = .ok (.iconst 0, 1) := by decide +kernel
theorem dX12_measure_1 : decode cX12_measure 1 = .ok (.istore_n 1, 1) := by decide +kernel
theorem dX12_measure_2 : decode cX12_measure 2 = .ok (.iload_n 1, 1) := by decide +kernel
theorem dX12_measure_3 : decode cX12_measure 3 = .ok (.bipush 16, 2) := by decide +kernel
theorem dX12_measure_5 : decode cX12_measure 5 = .ok (.if_icmp .ge 48, 3) := by decide +kernel
theorem dX12_measure_8 : decode cX12_measure 8 = .ok (.aload_n 0, 1) := by decide +kernel
theorem dX12_measure_9 : decode cX12_measure 9 = .ok (.getfield 16, 3) := by decide +kernel
theorem dX12_measure_12 : decode cX12_measure 12 = .ok (.iload_n 1, 1) := by decide +kernel
theorem dX12_measure_13 : decode cX12_measure 13 = .ok (.iload_n 1, 1) := by decide +kernel
theorem dX12_measure_14 : decode cX12_measure 14 = .ok (.iconst 4, 1) := by decide +kernel
theorem dX12_measure_15 : decode cX12_measure 15 = .ok (.idiv, 1) := by decide +kernel
theorem dX12_measure_16 : decode cX12_measure 16 = .ok (.iload_n 1, 1) := by decide +kernel
theorem dX12_measure_17 : decode cX12_measure 17 = .ok (.iconst 4, 1) := by decide +kernel
theorem dX12_measure_18 : decode cX12_measure 18 = .ok (.irem, 1) := by decide +kernel
theorem dX12_measure_19 : decode cX12_measure 19 = .ok (.if_icmp .ne 7, 3) := by decide +kernel
theorem dX12_measure_22 : decode cX12_measure 22 = .ok (.iconst 0, 1) := by decide +kernel
theorem dX12_measure_23 : decode cX12_measure 23 = .ok (.goto 23, 3) := by decide +kernel
theorem dX12_measure_26 : decode cX12_measure 26 = .ok (.aload_n 0, 1) := by decide +kernel
theorem dX12_measure_27 : decode cX12_measure 27 = .ok (.getfield 7, 3) := by decide +kernel
theorem dX12_measure_30 : decode cX12_measure 30 = .ok (.iload_n 1, 1) := by decide +kernel
theorem dX12_measure_31 : decode cX12_measure 31 = .ok (.iaload, 1) := by decide +kernel
theorem dX12_measure_32 : decode cX12_measure 32 = .ok (.ifCond .le 12, 3) := by decide +kernel
theorem dX12_measure_35 : decode cX12_measure 35 = .ok (.aload_n 0, 1) := by decide +kernel
theorem dX12_measure_36 : decode cX12_measure 36 = .ok (.getfield 7, 3) := by decide +kernel
theorem dX12_measure_39 : decode cX12_measure 39 = .ok (.iload_n 1, 1) := by decide +kernel
theorem dX12_measure_40 : decode cX12_measure 40 = .ok (.iaload, 1) := by decide +kernel
theorem dX12_measure_41 : decode cX12_measure 41 = .ok (.goto 5, 3) := by decide +kernel
theorem dX12_measure_44 : decode cX12_measure 44 = .ok (.ldc 203, 2) := by decide +kernel
theorem dX12_measure_46 : decode cX12_measure 46 = .ok (.iastore, 1) := by decide +kernel
theorem dX12_measure_47 : decode cX12_measure 47 = .ok (.iinc 1 1, 3) := by decide +kernel
theorem dX12_measure_50 : decode cX12_measure 50 = .ok (.goto (-48), 3) := by decide +kernel
theorem dX12_measure_53 : decode cX12_measure 53 = .ok (.iconst 0, 1) := by decide +kernel
theorem dX12_measure_54 : decode cX12_measure 54 = .ok (.istore_n 1, 1) := by decide +kernel
theorem dX12_measure_55 : decode cX12_measure 55 = .ok (.iload_n 1, 1) := by decide +kernel
theorem dX12_measure_56 : decode cX12_measure 56 = .ok (.aload_n 0, 1) := by decide +kernel
theorem dX12_measure_57 : decode cX12_measure 57 = .ok (.getfield 182, 3) := by decide +kernel
theorem dX12_measure_60 : decode cX12_measure 60 = .ok (.if_icmp .ge 104, 3) := by decide +kernel
theorem dX12_measure_63 : decode cX12_measure 63 = .ok (.iconst 0, 1) := by decide +kernel
theorem dX12_measure_64 : decode cX12_measure 64 = .ok (.istore_n 2, 1) := by decide +kernel
theorem dX12_measure_65 : decode cX12_measure 65 = .ok (.iload_n 2, 1) := by decide +kernel
theorem dX12_measure_66 : decode cX12_measure 66 = .ok (.aload_n 0, 1) := by decide +kernel
theorem dX12_measure_67 : decode cX12_measure 67 = .ok (.getfield 182, 3) := by decide +kernel
theorem dX12_measure_70 : decode cX12_measure 70 = .ok (.if_icmp .ge 88, 3) := by decide +kernel
theorem dX12_measure_73 : decode cX12_measure 73 = .ok (.iconst 0, 1) := by decide +kernel
theorem dX12_measure_74 : decode cX12_measure 74 = .ok (.istore_n 3, 1) := by decide +kernel
theorem dX12_measure_75 : decode cX12_measure 75 = .ok (.iload_n 3, 1) := by decide +kernel
theorem dX12_measure_76 : decode cX12_measure 76 = .ok (.aload_n 0, 1) := by decide +kernel
theorem dX12_measure_77 : decode cX12_measure 77 = .ok (.getfield 182, 3) := by decide +kernel
theorem dX12_measure_80 : decode cX12_measure 80 = .ok (.if_icmp .ge 72, 3) := by decide +kernel
theorem dX12_measure_83 : decode cX12_measure 83 = .ok (.aload_n 0, 1) := by decide +kernel
theorem dX12_measure_84 : decode cX12_measure 84 = .ok (.getfield 16, 3) := by decide +kernel
theorem dX12_measure_87 : decode cX12_measure 87 = .ok (.iconst 4, 1) := by decide +kernel
theorem dX12_measure_88 : decode cX12_measure 88 = .ok (.iload_n 2, 1) := by decide +kernel
theorem dX12_measure_89 : decode cX12_measure 89 = .ok (.imul, 1) := by decide +kernel
theorem dX12_measure_90 : decode cX12_measure 90 = .ok (.iload_n 1, 1) := by decide +kernel
theorem dX12_measure_91 : decode cX12_measure 91 = .ok (.iadd, 1) := by decide +kernel
theorem dX12_measure_92 : decode cX12_measure 92 = .ok (.iaload, 1) := by decide +kernel
theorem dX12_measure_93 : decode cX12_measure 93 = .ok (.aload_n 0, 1) := by decide +kernel
theorem dX12_measure_94 : decode cX12_measure 94 = .ok (.getfield 16, 3) := by decide +kernel
theorem dX12_measure_97 : decode cX12_measure 97 = .ok (.iconst 4, 1) := by decide +kernel
theorem dX12_measure_98 : decode cX12_measure 98 = .ok (.iload_n 1, 1) := by decide +kernel
theorem dX12_measure_99 : decode cX12_measure 99 = .ok (.imul, 1) := by decide +kernel
theorem dX12_measure_100 : decode cX12_measure 100 = .ok (.iload_n 3, 1) := by decide +kernel
theorem dX12_measure_101 : decode cX12_measure 101 = .ok (.iadd, 1) := by decide +kernel
theorem dX12_measure_102 : decode cX12_measure 102 = .ok (.iaload, 1) := by decide +kernel
theorem dX12_measure_103 : decode cX12_measure 103 = .ok (.iadd, 1) := by decide +kernel
theorem dX12_measure_104 : decode cX12_measure 104 = .ok (.istore 4, 2) := by decide +kernel
theorem dX12_measure_106 : decode cX12_measure 106 = .ok (.aload_n 0, 1) := by decide +kernel
theorem dX12_measure_107 : decode cX12_measure 107 = .ok (.getfield 16, 3) := by decide +kernel
theorem dX12_measure_110 : decode cX12_measure 110 = .ok (.iconst 4, 1) := by decide +kernel
theorem dX12_measure_111 : decode cX12_measure 111 = .ok (.iload_n 2, 1) := by decide +kernel
theorem dX12_measure_112 : decode cX12_measure 112 = .ok (.imul, 1) := by decide +kernel
theorem dX12_measure_113 : decode cX12_measure 113 = .ok (.iload_n 3, 1) := by decide +kernel
theorem dX12_measure_114 : decode cX12_measure 114 = .ok (.iadd, 1) := by decide +kernel
theorem dX12_measure_115 : decode cX12_measure 115 = .ok (.iload 4, 2) := by decide +kernel
theorem dX12_measure_117 : decode cX12_measure 117 = .ok (.aload_n 0, 1) := by decide +kernel
theorem dX12_measure_118 : decode cX12_measure 118 = .ok (.getfield 16, 3) := by decide +kernel
theorem dX12_measure_121 : decode cX12_measure 121 = .ok (.iconst 4, 1) := by decide +kernel
theorem dX12_measure_122 : decode cX12_measure 122 = .ok (.iload_n 2, 1) := by decide +kernel
theorem dX12_measure_123 : decode cX12_measure 123 = .ok (.imul, 1) := by decide +kernel
theorem dX12_measure_124 : decode cX12_measure 124 = .ok (.iload_n 3, 1) := by decide +kernel
theorem dX12_measure_125 : decode cX12_measure 125 = .ok (.iadd, 1) := by decide +kernel
theorem dX12_measure_126 : decode cX12_measure 126 = .ok (.iaload, 1) := by decide +kernel
theorem dX12_measure_127 : decode cX12_measure 127 = .ok (.if_icmp .ge 8, 3) := by decide +kernel
theorem dX12_measure_130 : decode cX12_measure 130 = .ok (.iload 4, 2) := by decide +kernel
theorem dX12_measure_132 : decode cX12_measure 132 = .ok (.goto 13, 3) := by decide +kernel
theorem dX12_measure_135 : decode cX12_measure 135 = .ok (.aload_n 0, 1) := by decide +kernel
theorem dX12_measure_136 : decode cX12_measure 136 = .ok (.getfield 16, 3) := by decide +kernel
theorem dX12_measure_139 : decode cX12_measure 139 = .ok (.iconst 4, 1) := by decide +kernel
theorem dX12_measure_140 : decode cX12_measure 140 = .ok (.iload_n 2, 1) := by decide +kernel
theorem dX12_measure_141 : decode cX12_measure 141 = .ok (.imul, 1) := by decide +kernel
theorem dX12_measure_142 : decode cX12_measure 142 = .ok (.iload_n 3, 1) := by decide +kernel
theorem dX12_measure_143 : decode cX12_measure 143 = .ok (.iadd, 1) := by decide +kernel
theorem dX12_measure_144 : decode cX12_measure 144 = .ok (.iaload, 1) := by decide +kernel
theorem dX12_measure_145 : decode cX12_measure 145 = .ok (.iastore, 1) := by decide +kernel
theorem dX12_measure_146 : decode cX12_measure 146 = .ok (.iinc 3 1, 3) := by decide +kernel
theorem dX12_measure_149 : decode cX12_measure 149 = .ok (.goto (-74), 3) := by decide +kernel
theorem dX12_measure_152 : decode cX12_measure 152 = .ok (.iinc 2 1, 3) := by decide +kernel
theorem dX12_measure_155 : decode cX12_measure 155 = .ok (.goto (-90), 3) := by decide +kernel
theorem dX12_measure_158 : decode cX12_measure 158 = .ok (.iinc 1 1, 3) := by decide +kernel
theorem dX12_measure_161 : decode cX12_measure 161 = .ok (.goto (-106), 3) := by decide +kernel
theorem dX12_measure_164 : decode cX12_measure 164 = .ok (.return_, 1) := by decide +kernel
theorem dX12_areLinked_0 : decode cX12_areLinked 0 = .ok (.aload_n 0, 1) := by decide +kernel
theorem dX12_areLinked_1 : decode cX12_areLinked 1 = .ok (.iload_n 1, 1) := by decide +kernel
theorem dX12_areLinked_2 : decode cX12_areLinked 2 = .ok (.invokevirtual 204, 3) := by decide +kernel
theorem dX12_areLinked_5 : decode cX12_areLinked 5 = .ok (.ifCond .eq 20, 3) := by decide +kernel
theorem dX12_areLinked_8 : decode cX12_areLinked 8 = .ok (.aload_n 0, 1) := by decide +kernel
theorem dX12_areLinked_9 : decode cX12_areLinked 9 = .ok (.iload_n 2, 1) := by decide +kernel
theorem dX12_areLinked_10 : decode cX12_areLinked 10 = .ok (.invokevirtual 204, 3) := by decide +kernel
theorem dX12_areLinked_13 : decode cX12_areLinked 13 = .ok (.ifCond .eq 12, 3) := by decide +kernel
theorem dX12_areLinked_16 : decode cX12_areLinked 16 = .ok (.iload_n 1, 1) := by decide +kernel
theorem dX12_areLinked_17 : decode cX12_areLinked 17 = .ok (.iload_n 2, 1) := by decide +kernel
theorem dX12_areLinked_18 : decode cX12_areLinked 18 = .ok (.if_icmp .eq 7, 3) := by decide +kernel
theorem dX12_areLinked_21 : decode cX12_areLinked 21 = .ok (.iconst 1, 1) := by decide +kernel
theorem dX12_areLinked_22 : decode cX12_areLinked 22 = .ok (.goto 4, 3) := by decide +kernel
theorem dX12_areLinked_25 : decode cX12_areLinked 25 = .ok (.iconst 0, 1) := by decide +kernel
theorem dX12_areLinked_26 : decode cX12_areLinked 26 = .ok (.ireturn, 1) := by decide +kernel
theorem dX12_link_0 : decode cX12_link 0 = .ok (.aload_n 0, 1) := by decide +kernel
theorem dX12_link_1 : decode cX12_link 1 = .ok (.iconst 0, 1) := by decide +kernel
theorem dX12_link_2 : decode cX12_link 2 = .ok (.putfield 194, 3) := by decide +kernel
theorem dX12_link_5 : decode cX12_link 5 = .ok (.aload_n 0, 1) := by decide +kernel
theorem dX12_link_6 : decode cX12_link 6 = .ok (.iload_n 1, 1) := by decide +kernel
theorem dX12_link_7 : decode cX12_link 7 = .ok (.iload_n 2, 1) := by decide +kernel
theorem dX12_link_8 : decode cX12_link 8 = .ok (.invokevirtual 208, 3) := by decide +kernel
theorem dX12_link_11 : decode cX12_link 11 = .ok (.ifCond .eq 28, 3) := by decide +kernel
theorem dX12_link_14 : decode cX12_link 14 = .ok (.iload_n 3, 1) := by decide +kernel
theorem dX12_link_15 : decode cX12_link 15 = .ok (.i2l, 1) := by decide +kernel
theorem dX12_link_16 : decode cX12_link 16 = .ok (.lconst 0, 1) := by decide +kernel
theorem dX12_link_17 : decode cX12_link 17 = .ok (.ldc2_w 212, 3) := by decide +kernel
theorem dX12_link_20 : decode cX12_link 20 = .ok (.invokestatic 214, 3) := by decide +kernel
theorem dX12_link_23 : decode cX12_link 23 = .ok (.ifCond .eq 16, 3) := by decide +kernel
theorem dX12_link_26 : decode cX12_link 26 = .ok (.iload 4, 2) := by decide +kernel
theorem dX12_link_28 : decode cX12_link 28 = .ok (.i2l, 1) := by decide +kernel
theorem dX12_link_29 : decode cX12_link 29 = .ok (.lconst 1, 1) := by decide +kernel
theorem dX12_link_30 : decode cX12_link 30 = .ok (.ldc2_w 218, 3) := by decide +kernel
theorem dX12_link_33 : decode cX12_link 33 = .ok (.invokestatic 214, 3) := by decide +kernel
theorem dX12_link_36 : decode cX12_link 36 = .ok (.ifCond .ne 5, 3) := by decide +kernel
theorem dX12_link_39 : decode cX12_link 39 = .ok (.iconst (-1), 1) := by decide +kernel
theorem dX12_link_40 : decode cX12_link 40 = .ok (.ireturn, 1) := by decide +kernel
theorem dX12_link_41 : decode cX12_link 41 = .ok (.aload_n 0, 1) := by decide +kernel
theorem dX12_link_42 : decode cX12_link 42 = .ok (.getfield 54, 3) := by decide +kernel
theorem dX12_link_45 : decode cX12_link 45 = .ok (.iconst 0, 1) := by decide +kernel
theorem dX12_link_46 : decode cX12_link 46 = .ok (.iaload, 1) := by decide +kernel
theorem dX12_link_47 : decode cX12_link 47 = .ok (.iconst 1, 1) := by decide +kernel
theorem dX12_link_48 : decode cX12_link 48 = .ok (.if_icmp .le 6, 3) := by decide +kernel
theorem dX12_link_51 : decode cX12_link 51 = .ok (.bipush (-3), 2) := by decide +kernel
theorem dX12_link_53 : decode cX12_link 53 = .ok (.ireturn, 1) := by decide +kernel
theorem dX12_link_54 : decode cX12_link 54 = .ok (.aload_n 0, 1) := by decide +kernel
theorem dX12_link_55 : decode cX12_link 55 = .ok (.getfield 7, 3) := by decide +kernel
theorem dX12_link_58 : decode cX12_link 58 = .ok (.iconst 4, 1) := by decide +kernel
theorem dX12_link_59 : decode cX12_link 59 = .ok (.iload_n 1, 1) := by decide +kernel
theorem dX12_link_60 : decode cX12_link 60 = .ok (.imul, 1) := by decide +kernel
theorem dX12_link_61 : decode cX12_link 61 = .ok (.iload_n 2, 1) := by decide +kernel
theorem dX12_link_62 : decode cX12_link 62 = .ok (.iadd, 1) := by decide +kernel
theorem dX12_link_63 : decode cX12_link 63 = .ok (.iaload, 1) := by decide +kernel
theorem dX12_link_64 : decode cX12_link 64 = .ok (.istore 5, 2) := by decide +kernel
theorem dX12_link_66 : decode cX12_link 66 = .ok (.aload_n 0, 1) := by decide +kernel
theorem dX12_link_67 : decode cX12_link 67 = .ok (.getfield 7, 3) := by decide +kernel
theorem dX12_link_70 : decode cX12_link 70 = .ok (.iconst 4, 1) := by decide +kernel
theorem dX12_link_71 : decode cX12_link 71 = .ok (.iload_n 1, 1) := by decide +kernel
theorem dX12_link_72 : decode cX12_link 72 = .ok (.imul, 1) := by decide +kernel
theorem dX12_link_73 : decode cX12_link 73 = .ok (.iload_n 2, 1) := by decide +kernel
theorem dX12_link_74 : decode cX12_link 74 = .ok (.iadd, 1) := by decide +kernel
theorem dX12_link_75 : decode cX12_link 75 = .ok (.iload_n 3, 1) := by decide +kernel
theorem dX12_link_76 : decode cX12_link 76 = .ok (.iastore, 1) := by decide +kernel
theorem dX12_link_77 : decode cX12_link 77 = .ok (.aload_n 0, 1) := by decide +kernel
theorem dX12_link_78 : decode cX12_link 78 = .ok (.getfield 7, 3) := by decide +kernel
theorem dX12_link_81 : decode cX12_link 81 = .ok (.iconst 4, 1) := by decide +kernel
theorem dX12_link_82 : decode cX12_link 82 = .ok (.iload_n 2, 1) := by decide +kernel
theorem dX12_link_83 : decode cX12_link 83 = .ok (.imul, 1) := by decide +kernel
theorem dX12_link_84 : decode cX12_link 84 = .ok (.iload_n 1, 1) := by decide +kernel
theorem dX12_link_85 : decode cX12_link 85 = .ok (.iadd, 1) := by decide +kernel
theorem dX12_link_86 : decode cX12_link 86 = .ok (.iload_n 3, 1) := by decide +kernel
theorem dX12_link_87 : decode cX12_link 87 = .ok (.iastore, 1) := by decide +kernel
theorem dX12_link_88 : decode cX12_link 88 = .ok (.aload_n 0, 1) := by decide +kernel
theorem dX12_link_89 : decode cX12_link 89 = .ok (.getfield 13, 3) := by decide +kernel
theorem dX12_link_92 : decode cX12_link 92 = .ok (.iconst 4, 1) := by decide +kernel
theorem dX12_link_93 : decode cX12_link 93 = .ok (.iload_n 1, 1) := by decide +kernel
theorem dX12_link_94 : decode cX12_link 94 = .ok (.imul, 1) := by decide +kernel
theorem dX12_link_95 : decode cX12_link 95 = .ok (.iload_n 2, 1) := by decide +kernel
theorem dX12_link_96 : decode cX12_link 96 = .ok (.iadd, 1) := by decide +kernel
theorem dX12_link_97 : decode cX12_link 97 = .ok (.iload 4, 2) := by decide +kernel
theorem dX12_link_99 : decode cX12_link 99 = .ok (.iastore, 1) := by decide +kernel
theorem dX12_link_100 : decode cX12_link 100 = .ok (.aload_n 0, 1) := by decide +kernel
theorem dX12_link_101 : decode cX12_link 101 = .ok (.getfield 13, 3) := by decide +kernel
theorem dX12_link_104 : decode cX12_link 104 = .ok (.iconst 4, 1) := by decide +kernel
theorem dX12_link_105 : decode cX12_link 105 = .ok (.iload_n 2, 1) := by decide +kernel
theorem dX12_link_106 : decode cX12_link 106 = .ok (.imul, 1) := by decide +kernel
theorem dX12_link_107 : decode cX12_link 107 = .ok (.iload_n 1, 1) := by decide +kernel
theorem dX12_link_108 : decode cX12_link 108 = .ok (.iadd, 1) := by decide +kernel
theorem dX12_link_109 : decode cX12_link 109 = .ok (.iload 4, 2) := by decide +kernel
theorem dX12_link_111 : decode cX12_link 111 = .ok (.iastore, 1) := by decide +kernel
theorem dX12_link_112 : decode cX12_link 112 = .ok (.aload_n 0, 1) := by decide +kernel
theorem dX12_link_113 : decode cX12_link 113 = .ok (.invokevirtual 191, 3) := by decide +kernel
theorem dX12_link_116 : decode cX12_link 116 = .ok (.iload 5, 2) := by decide +kernel
theorem dX12_link_118 : decode cX12_link 118 = .ok (.ireturn, 1) := by decide +kernel
theorem dX12_isWay_0 : decode cX12_isWay 0 = .ok (.aload_n 0, 1) := by decide +kernel
theorem dX12_isWay_1 : decode cX12_isWay 1 = .ok (.getfield 16, 3) := by decide +kernel
theorem dX12_isWay_4 : decode cX12_isWay 4 = .ok (.iconst 4, 1) := by decide +kernel
theorem dX12_isWay_5 : decode cX12_isWay 5 = .ok (.iload_n 1, 1) := by decide +kernel
theorem dX12_isWay_6 : decode cX12_isWay 6 = .ok (.imul, 1) := by decide +kernel
theorem dX12_isWay_7 : decode cX12_isWay 7 = .ok (.iload_n 2, 1) := by decide +kernel
theorem dX12_isWay_8 : decode cX12_isWay 8 = .ok (.iadd, 1) := by decide +kernel
theorem dX12_isWay_9 : decode cX12_isWay 9 = .ok (.iaload, 1) := by decide +kernel
theorem dX12_isWay_10 : decode cX12_isWay 10 = .ok (.ldc 203, 2) := by decide +kernel
theorem dX12_isWay_12 : decode cX12_isWay 12 = .ok (.if_icmp .ge 7, 3) := by decide +kernel
theorem dX12_isWay_15 : decode cX12_isWay 15 = .ok (.iconst 1, 1) := by decide +kernel
theorem dX12_isWay_16 : decode cX12_isWay 16 = .ok (.goto 4, 3) := by decide +kernel
theorem dX12_isWay_19 : decode cX12_isWay 19 = .ok (.iconst 0, 1) := by decide +kernel
theorem dX12_isWay_20 : decode cX12_isWay 20 = .ok (.ireturn, 1) := by decide +kernel
theorem dX12_far_0 : decode cX12_far 0 = .ok (.aload_n 0, 1) := by decide +kernel
theorem dX12_far_1 : decode cX12_far 1 = .ok (.iconst 0, 1) := by decide +kernel
theorem dX12_far_2 : decode cX12_far 2 = .ok (.putfield 194, 3) := by decide +kernel
theorem dX12_far_5 : decode cX12_far 5 = .ok (.aload_n 0, 1) := by decide +kernel
theorem dX12_far_6 : decode cX12_far 6 = .ok (.iload_n 1, 1) := by decide +kernel
theorem dX12_far_7 : decode cX12_far 7 = .ok (.invokevirtual 204, 3) := by decide +kernel
theorem dX12_far_10 : decode cX12_far 10 = .ok (.ifCond .eq 11, 3) := by decide +kernel
theorem dX12_far_13 : decode cX12_far 13 = .ok (.aload_n 0, 1) := by decide +kernel
theorem dX12_far_14 : decode cX12_far 14 = .ok (.iload_n 2, 1) := by decide +kernel
theorem dX12_far_15 : decode cX12_far 15 = .ok (.invokevirtual 204, 3) := by decide +kernel
theorem dX12_far_18 : decode cX12_far 18 = .ok (.ifCond .ne 7, 3) := by decide +kernel
theorem dX12_far_21 : decode cX12_far 21 = .ok (.iconst (-1), 1) := by decide +kernel
theorem dX12_far_22 : decode cX12_far 22 = .ok (.goto 27, 3) := by decide +kernel
theorem dX12_far_25 : decode cX12_far 25 = .ok (.aload_n 0, 1) := by decide +kernel
theorem dX12_far_26 : decode cX12_far 26 = .ok (.iload_n 1, 1) := by decide +kernel
theorem dX12_far_27 : decode cX12_far 27 = .ok (.iload_n 2, 1) := by decide +kernel
theorem dX12_far_28 : decode cX12_far 28 = .ok (.invokevirtual 220, 3) := by decide +kernel
theorem dX12_far_31 : decode cX12_far 31 = .ok (.ifCond .eq 16, 3) := by decide +kernel
theorem dX12_far_34 : decode cX12_far 34 = .ok (.aload_n 0, 1) := by decide +kernel
theorem dX12_far_35 : decode cX12_far 35 = .ok (.getfield 16, 3) := by decide +kernel
theorem dX12_far_38 : decode cX12_far 38 = .ok (.iconst 4, 1) := by decide +kernel
theorem dX12_far_39 : decode cX12_far 39 = .ok (.iload_n 1, 1) := by decide +kernel
theorem dX12_far_40 : decode cX12_far 40 = .ok (.imul, 1) := by decide +kernel
theorem dX12_far_41 : decode cX12_far 41 = .ok (.iload_n 2, 1) := by decide +kernel
theorem dX12_far_42 : decode cX12_far 42 = .ok (.iadd, 1) := by decide +kernel
theorem dX12_far_43 : decode cX12_far 43 = .ok (.iaload, 1) := by decide +kernel
theorem dX12_far_44 : decode cX12_far 44 = .ok (.goto 5, 3) := by decide +kernel
theorem dX12_far_47 : decode cX12_far 47 = .ok (.bipush (-2), 2) := by decide +kernel
theorem dX12_far_49 : decode cX12_far 49 = .ok (.ireturn, 1) := by decide +kernel
theorem dX12_behind_0 : decode cX12_behind 0 = .ok (.iconst 0, 1) := by decide +kernel
theorem dX12_behind_1 : decode cX12_behind 1 = .ok (.istore_n 3, 1) := by decide +kernel
theorem dX12_behind_2 : decode cX12_behind 2 = .ok (.iload_n 3, 1) := by decide +kernel
theorem dX12_behind_3 : decode cX12_behind 3 = .ok (.aload_n 0, 1) := by decide +kernel
theorem dX12_behind_4 : decode cX12_behind 4 = .ok (.getfield 182, 3) := by decide +kernel
theorem dX12_behind_7 : decode cX12_behind 7 = .ok (.if_icmp .ge 63, 3) := by decide +kernel
theorem dX12_behind_10 : decode cX12_behind 10 = .ok (.iload_n 3, 1) := by decide +kernel
theorem dX12_behind_11 : decode cX12_behind 11 = .ok (.iload_n 1, 1) := by decide +kernel
theorem dX12_behind_12 : decode cX12_behind 12 = .ok (.if_icmp .eq 52, 3) := by decide +kernel
theorem dX12_behind_15 : decode cX12_behind 15 = .ok (.aload_n 0, 1) := by decide +kernel
theorem dX12_behind_16 : decode cX12_behind 16 = .ok (.getfield 7, 3) := by decide +kernel
theorem dX12_behind_19 : decode cX12_behind 19 = .ok (.iconst 4, 1) := by decide +kernel
theorem dX12_behind_20 : decode cX12_behind 20 = .ok (.iload_n 1, 1) := by decide +kernel
theorem dX12_behind_21 : decode cX12_behind 21 = .ok (.imul, 1) := by decide +kernel
theorem dX12_behind_22 : decode cX12_behind 22 = .ok (.iload_n 3, 1) := by decide +kernel
theorem dX12_behind_23 : decode cX12_behind 23 = .ok (.iadd, 1) := by decide +kernel
theorem dX12_behind_24 : decode cX12_behind 24 = .ok (.iaload, 1) := by decide +kernel
theorem dX12_behind_25 : decode cX12_behind 25 = .ok (.ifCond .le 39, 3) := by decide +kernel
theorem dX12_behind_28 : decode cX12_behind 28 = .ok (.aload_n 0, 1) := by decide +kernel
theorem dX12_behind_29 : decode cX12_behind 29 = .ok (.getfield 7, 3) := by decide +kernel
theorem dX12_behind_32 : decode cX12_behind 32 = .ok (.iconst 4, 1) := by decide +kernel
theorem dX12_behind_33 : decode cX12_behind 33 = .ok (.iload_n 1, 1) := by decide +kernel
theorem dX12_behind_34 : decode cX12_behind 34 = .ok (.imul, 1) := by decide +kernel
theorem dX12_behind_35 : decode cX12_behind 35 = .ok (.iload_n 3, 1) := by decide +kernel
theorem dX12_behind_36 : decode cX12_behind 36 = .ok (.iadd, 1) := by decide +kernel
theorem dX12_behind_37 : decode cX12_behind 37 = .ok (.iaload, 1) := by decide +kernel
theorem dX12_behind_38 : decode cX12_behind 38 = .ok (.aload_n 0, 1) := by decide +kernel
theorem dX12_behind_39 : decode cX12_behind 39 = .ok (.getfield 16, 3) := by decide +kernel
theorem dX12_behind_42 : decode cX12_behind 42 = .ok (.iconst 4, 1) := by decide +kernel
theorem dX12_behind_43 : decode cX12_behind 43 = .ok (.iload_n 3, 1) := by decide +kernel
theorem dX12_behind_44 : decode cX12_behind 44 = .ok (.imul, 1) := by decide +kernel
theorem dX12_behind_45 : decode cX12_behind 45 = .ok (.iload_n 2, 1) := by decide +kernel
theorem dX12_behind_46 : decode cX12_behind 46 = .ok (.iadd, 1) := by decide +kernel
theorem dX12_behind_47 : decode cX12_behind 47 = .ok (.iaload, 1) := by decide +kernel
theorem dX12_behind_48 : decode cX12_behind 48 = .ok (.iadd, 1) := by decide +kernel
theorem dX12_behind_49 : decode cX12_behind 49 = .ok (.aload_n 0, 1) := by decide +kernel
theorem dX12_behind_50 : decode cX12_behind 50 = .ok (.getfield 16, 3) := by decide +kernel
theorem dX12_behind_53 : decode cX12_behind 53 = .ok (.iconst 4, 1) := by decide +kernel
theorem dX12_behind_54 : decode cX12_behind 54 = .ok (.iload_n 1, 1) := by decide +kernel
theorem dX12_behind_55 : decode cX12_behind 55 = .ok (.imul, 1) := by decide +kernel
theorem dX12_behind_56 : decode cX12_behind 56 = .ok (.iload_n 2, 1) := by decide +kernel
theorem dX12_behind_57 : decode cX12_behind 57 = .ok (.iadd, 1) := by decide +kernel
theorem dX12_behind_58 : decode cX12_behind 58 = .ok (.iaload, 1) := by decide +kernel
theorem dX12_behind_59 : decode cX12_behind 59 = .ok (.if_icmp .ne 5, 3) := by decide +kernel
theorem dX12_behind_62 : decode cX12_behind 62 = .ok (.iload_n 3, 1) := by decide +kernel
theorem dX12_behind_63 : decode cX12_behind 63 = .ok (.ireturn, 1) := by decide +kernel
theorem dX12_behind_64 : decode cX12_behind 64 = .ok (.iinc 3 1, 3) := by decide +kernel
theorem dX12_behind_67 : decode cX12_behind 67 = .ok (.goto (-65), 3) := by decide +kernel
theorem dX12_behind_70 : decode cX12_behind 70 = .ok (.iload_n 2, 1) := by decide +kernel
theorem dX12_behind_71 : decode cX12_behind 71 = .ok (.ireturn, 1) := by decide +kernel
theorem dX12_way_0 : decode cX12_way 0 = .ok (.aload_n 0, 1) := by decide +kernel
theorem dX12_way_1 : decode cX12_way 1 = .ok (.iconst 0, 1) := by decide +kernel
theorem dX12_way_2 : decode cX12_way 2 = .ok (.putfield 194, 3) := by decide +kernel
theorem dX12_way_5 : decode cX12_way 5 = .ok (.aload_n 0, 1) := by decide +kernel
theorem dX12_way_6 : decode cX12_way 6 = .ok (.iload_n 1, 1) := by decide +kernel
theorem dX12_way_7 : decode cX12_way 7 = .ok (.invokevirtual 204, 3) := by decide +kernel
theorem dX12_way_10 : decode cX12_way 10 = .ok (.ifCond .eq 15, 3) := by decide +kernel
theorem dX12_way_13 : decode cX12_way 13 = .ok (.aload_n 0, 1) := by decide +kernel
theorem dX12_way_14 : decode cX12_way 14 = .ok (.iload_n 2, 1) := by decide +kernel
theorem dX12_way_15 : decode cX12_way 15 = .ok (.invokevirtual 204, 3) := by decide +kernel
theorem dX12_way_18 : decode cX12_way 18 = .ok (.ifCond .eq 7, 3) := by decide +kernel
theorem dX12_way_21 : decode cX12_way 21 = .ok (.iload_n 3, 1) := by decide +kernel
theorem dX12_way_22 : decode cX12_way 22 = .ok (.ifCond .ge 5, 3) := by decide +kernel
theorem dX12_way_25 : decode cX12_way 25 = .ok (.iconst (-1), 1) := by decide +kernel
theorem dX12_way_26 : decode cX12_way 26 = .ok (.ireturn, 1) := by decide +kernel
theorem dX12_way_27 : decode cX12_way 27 = .ok (.aload_n 0, 1) := by decide +kernel
theorem dX12_way_28 : decode cX12_way 28 = .ok (.iload_n 1, 1) := by decide +kernel
theorem dX12_way_29 : decode cX12_way 29 = .ok (.iload_n 2, 1) := by decide +kernel
theorem dX12_way_30 : decode cX12_way 30 = .ok (.invokevirtual 220, 3) := by decide +kernel
theorem dX12_way_33 : decode cX12_way 33 = .ok (.ifCond .ne 6, 3) := by decide +kernel
theorem dX12_way_36 : decode cX12_way 36 = .ok (.bipush (-2), 2) := by decide +kernel
theorem dX12_way_38 : decode cX12_way 38 = .ok (.ireturn, 1) := by decide +kernel
theorem dX12_way_39 : decode cX12_way 39 = .ok (.iload_n 1, 1) := by decide +kernel
theorem dX12_way_40 : decode cX12_way 40 = .ok (.istore 4, 2) := by decide +kernel
theorem dX12_way_42 : decode cX12_way 42 = .ok (.iconst 0, 1) := by decide +kernel
theorem dX12_way_43 : decode cX12_way 43 = .ok (.istore 5, 2) := by decide +kernel
theorem dX12_way_45 : decode cX12_way 45 = .ok (.iload 5, 2) := by decide +kernel
theorem dX12_way_47 : decode cX12_way 47 = .ok (.iload_n 3, 1) := by decide +kernel
theorem dX12_way_48 : decode cX12_way 48 = .ok (.if_icmp .ge 26, 3) := by decide +kernel
theorem dX12_way_51 : decode cX12_way 51 = .ok (.iload 4, 2) := by decide +kernel
theorem dX12_way_53 : decode cX12_way 53 = .ok (.iload_n 2, 1) := by decide +kernel
theorem dX12_way_54 : decode cX12_way 54 = .ok (.if_icmp .ne 5, 3) := by decide +kernel
theorem dX12_way_57 : decode cX12_way 57 = .ok (.iconst (-1), 1) := by decide +kernel
theorem dX12_way_58 : decode cX12_way 58 = .ok (.ireturn, 1) := by decide +kernel
theorem dX12_way_59 : decode cX12_way 59 = .ok (.aload_n 0, 1) := by decide +kernel
theorem dX12_way_60 : decode cX12_way 60 = .ok (.iload 4, 2) := by decide +kernel
theorem dX12_way_62 : decode cX12_way 62 = .ok (.iload_n 2, 1) := by decide +kernel
theorem dX12_way_63 : decode cX12_way 63 = .ok (.invokevirtual 223, 3) := by decide +kernel
theorem dX12_way_66 : decode cX12_way 66 = .ok (.istore 4, 2) := by decide +kernel
theorem dX12_way_68 : decode cX12_way 68 = .ok (.iinc 5 1, 3) := by decide +kernel
theorem dX12_way_71 : decode cX12_way 71 = .ok (.goto (-26), 3) := by decide +kernel
theorem dX12_way_74 : decode cX12_way 74 = .ok (.iload 4, 2) := by decide +kernel
theorem dX12_way_76 : decode cX12_way 76 = .ok (.ireturn, 1) := by decide +kernel
theorem dX12_page_0 : decode cX12_page 0 = .ok (.aload_n 0, 1) := by decide +kernel
theorem dX12_page_1 : decode cX12_page 1 = .ok (.iconst 0, 1) := by decide +kernel
theorem dX12_page_2 : decode cX12_page 2 = .ok (.putfield 194, 3) := by decide +kernel
theorem dX12_page_5 : decode cX12_page 5 = .ok (.iload_n 1, 1) := by decide +kernel
theorem dX12_page_6 : decode cX12_page 6 = .ok (.i2l, 1) := by decide +kernel
theorem dX12_page_7 : decode cX12_page 7 = .ok (.lconst 0, 1) := by decide +kernel
theorem dX12_page_8 : decode cX12_page 8 = .ok (.ldc2_w 226, 3) := by decide +kernel
theorem dX12_page_11 : decode cX12_page 11 = .ok (.invokestatic 214, 3) := by decide +kernel
theorem dX12_page_14 : decode cX12_page 14 = .ok (.ifCond .ne 5, 3) := by decide +kernel
theorem dX12_page_17 : decode cX12_page 17 = .ok (.iconst (-1), 1) := by decide +kernel
theorem dX12_page_18 : decode cX12_page 18 = .ok (.ireturn, 1) := by decide +kernel
theorem dX12_page_19 : decode cX12_page 19 = .ok (.aload_n 0, 1) := by decide +kernel
theorem dX12_page_20 : decode cX12_page 20 = .ok (.getfield 197, 3) := by decide +kernel
theorem dX12_page_23 : decode cX12_page 23 = .ok (.bipush 20, 2) := by decide +kernel
theorem dX12_page_25 : decode cX12_page 25 = .ok (.if_icmp .ne 6, 3) := by decide +kernel
theorem dX12_page_28 : decode cX12_page 28 = .ok (.bipush (-2), 2) := by decide +kernel
theorem dX12_page_30 : decode cX12_page 30 = .ok (.ireturn, 1) := by decide +kernel
theorem dX12_page_31 : decode cX12_page 31 = .ok (.aload_n 0, 1) := by decide +kernel
theorem dX12_page_32 : decode cX12_page 32 = .ok (.getfield 19, 3) := by decide +kernel
theorem dX12_page_35 : decode cX12_page 35 = .ok (.aload_n 0, 1) := by decide +kernel
theorem dX12_page_36 : decode cX12_page 36 = .ok (.getfield 197, 3) := by decide +kernel
theorem dX12_page_39 : decode cX12_page 39 = .ok (.iload_n 1, 1) := by decide +kernel
theorem dX12_page_40 : decode cX12_page 40 = .ok (.iastore, 1) := by decide +kernel
theorem dX12_page_41 : decode cX12_page 41 = .ok (.aload_n 0, 1) := by decide +kernel
theorem dX12_page_42 : decode cX12_page 42 = .ok (.getfield 79, 3) := by decide +kernel
theorem dX12_page_45 : decode cX12_page 45 = .ok (.aload_n 0, 1) := by decide +kernel
theorem dX12_page_46 : decode cX12_page 46 = .ok (.getfield 197, 3) := by decide +kernel
theorem dX12_page_49 : decode cX12_page 49 = .ok (.bipush (-2), 2) := by decide +kernel
theorem dX12_page_51 : decode cX12_page 51 = .ok (.iastore, 1) := by decide +kernel
theorem dX12_page_52 : decode cX12_page 52 = .ok (.aload_n 0, 1) := by decide +kernel
theorem dX12_page_53 : decode cX12_page 53 = .ok (.dup, 1) := by decide +kernel
theorem dX12_page_54 : decode cX12_page 54 = .ok (.getfield 197, 3) := by decide +kernel
theorem dX12_page_57 : decode cX12_page 57 = .ok (.iconst 1, 1) := by decide +kernel
theorem dX12_page_58 : decode cX12_page 58 = .ok (.iadd, 1) := by decide +kernel
theorem dX12_page_59 : decode cX12_page 59 = .ok (.putfield 197, 3) := by decide +kernel
theorem dX12_page_62 : decode cX12_page 62 = .ok (.aload_n 0, 1) := by decide +kernel
theorem dX12_page_63 : decode cX12_page 63 = .ok (.getfield 197, 3) := by decide +kernel
theorem dX12_page_66 : decode cX12_page 66 = .ok (.iconst 1, 1) := by decide +kernel
theorem dX12_page_67 : decode cX12_page 67 = .ok (.isub, 1) := by decide +kernel
theorem dX12_page_68 : decode cX12_page 68 = .ok (.ireturn, 1) := by decide +kernel
theorem dX12_thread_0 : decode cX12_thread 0 = .ok (.aload_n 0, 1) := by decide +kernel
theorem dX12_thread_1 : decode cX12_thread 1 = .ok (.iconst 0, 1) := by decide +kernel
theorem dX12_thread_2 : decode cX12_thread 2 = .ok (.putfield 194, 3) := by decide +kernel
theorem dX12_thread_5 : decode cX12_thread 5 = .ok (.aload_n 0, 1) := by decide +kernel
theorem dX12_thread_6 : decode cX12_thread 6 = .ok (.iload_n 1, 1) := by decide +kernel
theorem dX12_thread_7 : decode cX12_thread 7 = .ok (.invokevirtual 204, 3) := by decide +kernel
theorem dX12_thread_10 : decode cX12_thread 10 = .ok (.ifCond .ne 5, 3) := by decide +kernel
theorem dX12_thread_13 : decode cX12_thread 13 = .ok (.iconst (-1), 1) := by decide +kernel
theorem dX12_thread_14 : decode cX12_thread 14 = .ok (.ireturn, 1) := by decide +kernel
theorem dX12_thread_15 : decode cX12_thread 15 = .ok (.aload_n 0, 1) := by decide +kernel
theorem dX12_thread_16 : decode cX12_thread 16 = .ok (.getfield 200, 3) := by decide +kernel
theorem dX12_thread_19 : decode cX12_thread 19 = .ok (.bipush 10, 2) := by decide +kernel
theorem dX12_thread_21 : decode cX12_thread 21 = .ok (.if_icmp .ne 6, 3) := by decide +kernel
theorem dX12_thread_24 : decode cX12_thread 24 = .ok (.bipush (-2), 2) := by decide +kernel
theorem dX12_thread_26 : decode cX12_thread 26 = .ok (.ireturn, 1) := by decide +kernel
theorem dX12_thread_27 : decode cX12_thread 27 = .ok (.aload_n 0, 1) := by decide +kernel
theorem dX12_thread_28 : decode cX12_thread 28 = .ok (.getfield 103, 3) := by decide +kernel
theorem dX12_thread_31 : decode cX12_thread 31 = .ok (.aload_n 0, 1) := by decide +kernel
theorem dX12_thread_32 : decode cX12_thread 32 = .ok (.getfield 200, 3) := by decide +kernel
theorem dX12_thread_35 : decode cX12_thread 35 = .ok (.iload_n 1, 1) := by decide +kernel
theorem dX12_thread_36 : decode cX12_thread 36 = .ok (.iastore, 1) := by decide +kernel
theorem dX12_thread_37 : decode cX12_thread 37 = .ok (.aload_n 0, 1) := by decide +kernel
theorem dX12_thread_38 : decode cX12_thread 38 = .ok (.getfield 106, 3) := by decide +kernel
theorem dX12_thread_41 : decode cX12_thread 41 = .ok (.aload_n 0, 1) := by decide +kernel
theorem dX12_thread_42 : decode cX12_thread 42 = .ok (.getfield 200, 3) := by decide +kernel
theorem dX12_thread_45 : decode cX12_thread 45 = .ok (.aload_n 0, 1) := by decide +kernel
theorem dX12_thread_46 : decode cX12_thread 46 = .ok (.getfield 76, 3) := by decide +kernel
theorem dX12_thread_49 : decode cX12_thread 49 = .ok (.iconst 0, 1) := by decide +kernel
theorem dX12_thread_50 : decode cX12_thread 50 = .ok (.iaload, 1) := by decide +kernel
theorem dX12_thread_51 : decode cX12_thread 51 = .ok (.iastore, 1) := by decide +kernel
theorem dX12_thread_52 : decode cX12_thread 52 = .ok (.aload_n 0, 1) := by decide +kernel
theorem dX12_thread_53 : decode cX12_thread 53 = .ok (.getfield 76, 3) := by decide +kernel
theorem dX12_thread_56 : decode cX12_thread 56 = .ok (.iconst 0, 1) := by decide +kernel
theorem dX12_thread_57 : decode cX12_thread 57 = .ok (.dup2, 1) := by decide +kernel
theorem dX12_thread_58 : decode cX12_thread 58 = .ok (.iaload, 1) := by decide +kernel
theorem dX12_thread_59 : decode cX12_thread 59 = .ok (.iconst 1, 1) := by decide +kernel
theorem dX12_thread_60 : decode cX12_thread 60 = .ok (.iadd, 1) := by decide +kernel
theorem dX12_thread_61 : decode cX12_thread 61 = .ok (.iastore, 1) := by decide +kernel
theorem dX12_thread_62 : decode cX12_thread 62 = .ok (.aload_n 0, 1) := by decide +kernel
theorem dX12_thread_63 : decode cX12_thread 63 = .ok (.dup, 1) := by decide +kernel
theorem dX12_thread_64 : decode cX12_thread 64 = .ok (.getfield 200, 3) := by decide +kernel
theorem dX12_thread_67 : decode cX12_thread 67 = .ok (.iconst 1, 1) := by decide +kernel
theorem dX12_thread_68 : decode cX12_thread 68 = .ok (.iadd, 1) := by decide +kernel
theorem dX12_thread_69 : decode cX12_thread 69 = .ok (.putfield 200, 3) := by decide +kernel
theorem dX12_thread_72 : decode cX12_thread 72 = .ok (.aload_n 0, 1) := by decide +kernel
theorem dX12_thread_73 : decode cX12_thread 73 = .ok (.getfield 200, 3) := by decide +kernel
theorem dX12_thread_76 : decode cX12_thread 76 = .ok (.iconst 1, 1) := by decide +kernel
theorem dX12_thread_77 : decode cX12_thread 77 = .ok (.isub, 1) := by decide +kernel
theorem dX12_thread_78 : decode cX12_thread 78 = .ok (.ireturn, 1) := by decide +kernel
theorem dX12_access_0 : decode cX12_access 0 = .ok (.aload_n 0, 1) := by decide +kernel
theorem dX12_access_1 : decode cX12_access 1 = .ok (.iconst 0, 1) := by decide +kernel
theorem dX12_access_2 : decode cX12_access 2 = .ok (.putfield 194, 3) := by decide +kernel
theorem dX12_access_5 : decode cX12_access 5 = .ok (.aload_n 0, 1) := by decide +kernel
theorem dX12_access_6 : decode cX12_access 6 = .ok (.iload_n 1, 1) := by decide +kernel
theorem dX12_access_7 : decode cX12_access 7 = .ok (.invokevirtual 228, 3) := by decide +kernel
theorem dX12_access_10 : decode cX12_access 10 = .ok (.ifCond .eq 36, 3) := by decide +kernel
theorem dX12_access_13 : decode cX12_access 13 = .ok (.aload_n 0, 1) := by decide +kernel
theorem dX12_access_14 : decode cX12_access 14 = .ok (.getfield 118, 3) := by decide +kernel
theorem dX12_access_17 : decode cX12_access 17 = .ok (.iload_n 1, 1) := by decide +kernel
theorem dX12_access_18 : decode cX12_access 18 = .ok (.baload, 1) := by decide +kernel
theorem dX12_access_19 : decode cX12_access 19 = .ok (.ifCond .ne 27, 3) := by decide +kernel
theorem dX12_access_22 : decode cX12_access 22 = .ok (.iload_n 2, 1) := by decide +kernel
theorem dX12_access_23 : decode cX12_access 23 = .ok (.i2l, 1) := by decide +kernel
theorem dX12_access_24 : decode cX12_access 24 = .ok (.lconst 0, 1) := by decide +kernel
theorem dX12_access_25 : decode cX12_access 25 = .ok (.ldc2_w 231, 3) := by decide +kernel
theorem dX12_access_28 : decode cX12_access 28 = .ok (.invokestatic 214, 3) := by decide +kernel
theorem dX12_access_31 : decode cX12_access 31 = .ok (.ifCond .eq 15, 3) := by decide +kernel
theorem dX12_access_34 : decode cX12_access 34 = .ok (.iload_n 3, 1) := by decide +kernel
theorem dX12_access_35 : decode cX12_access 35 = .ok (.i2l, 1) := by decide +kernel
theorem dX12_access_36 : decode cX12_access 36 = .ok (.lconst 0, 1) := by decide +kernel
theorem dX12_access_37 : decode cX12_access 37 = .ok (.ldc2_w 233, 3) := by decide +kernel
theorem dX12_access_40 : decode cX12_access 40 = .ok (.invokestatic 214, 3) := by decide +kernel
theorem dX12_access_43 : decode cX12_access 43 = .ok (.ifCond .ne 5, 3) := by decide +kernel
theorem dX12_access_46 : decode cX12_access 46 = .ok (.iconst (-1), 1) := by decide +kernel
theorem dX12_access_47 : decode cX12_access 47 = .ok (.ireturn, 1) := by decide +kernel
theorem dX12_access_48 : decode cX12_access 48 = .ok (.aload_n 0, 1) := by decide +kernel
theorem dX12_access_49 : decode cX12_access 49 = .ok (.getfield 22, 3) := by decide +kernel
theorem dX12_access_52 : decode cX12_access 52 = .ok (.iload_n 1, 1) := by decide +kernel
theorem dX12_access_53 : decode cX12_access 53 = .ok (.iaload, 1) := by decide +kernel
theorem dX12_access_54 : decode cX12_access 54 = .ok (.bipush 60, 2) := by decide +kernel
theorem dX12_access_56 : decode cX12_access 56 = .ok (.if_icmp .ne 6, 3) := by decide +kernel
theorem dX12_access_59 : decode cX12_access 59 = .ok (.bipush (-2), 2) := by decide +kernel
theorem dX12_access_61 : decode cX12_access 61 = .ok (.ireturn, 1) := by decide +kernel
theorem dX12_access_62 : decode cX12_access 62 = .ok (.bipush 60, 2) := by decide +kernel
theorem dX12_access_64 : decode cX12_access 64 = .ok (.iload_n 1, 1) := by decide +kernel
theorem dX12_access_65 : decode cX12_access 65 = .ok (.imul, 1) := by decide +kernel
theorem dX12_access_66 : decode cX12_access 66 = .ok (.aload_n 0, 1) := by decide +kernel
theorem dX12_access_67 : decode cX12_access 67 = .ok (.getfield 22, 3) := by decide +kernel
theorem dX12_access_70 : decode cX12_access 70 = .ok (.iload_n 1, 1) := by decide +kernel
theorem dX12_access_71 : decode cX12_access 71 = .ok (.iaload, 1) := by decide +kernel
theorem dX12_access_72 : decode cX12_access 72 = .ok (.iadd, 1) := by decide +kernel
theorem dX12_access_73 : decode cX12_access 73 = .ok (.istore 6, 2) := by decide +kernel
theorem dX12_access_75 : decode cX12_access 75 = .ok (.aload_n 0, 1) := by decide +kernel
theorem dX12_access_76 : decode cX12_access 76 = .ok (.getfield 25, 3) := by decide +kernel
theorem dX12_access_79 : decode cX12_access 79 = .ok (.iload 6, 2) := by decide +kernel
theorem dX12_access_81 : decode cX12_access 81 = .ok (.iload_n 2, 1) := by decide +kernel
theorem dX12_access_82 : decode cX12_access 82 = .ok (.iastore, 1) := by decide +kernel
theorem dX12_access_83 : decode cX12_access 83 = .ok (.aload_n 0, 1) := by decide +kernel
theorem dX12_access_84 : decode cX12_access 84 = .ok (.getfield 28, 3) := by decide +kernel
theorem dX12_access_87 : decode cX12_access 87 = .ok (.iload 6, 2) := by decide +kernel
theorem dX12_access_89 : decode cX12_access 89 = .ok (.iload_n 3, 1) := by decide +kernel
theorem dX12_access_90 : decode cX12_access 90 = .ok (.iastore, 1) := by decide +kernel
theorem dX12_access_91 : decode cX12_access 91 = .ok (.aload_n 0, 1) := by decide +kernel
theorem dX12_access_92 : decode cX12_access 92 = .ok (.getfield 31, 3) := by decide +kernel
theorem dX12_access_95 : decode cX12_access 95 = .ok (.iload 6, 2) := by decide +kernel
theorem dX12_access_97 : decode cX12_access 97 = .ok (.iload 4, 2) := by decide +kernel
theorem dX12_access_99 : decode cX12_access 99 = .ok (.bastore, 1) := by decide +kernel
theorem dX12_access_100 : decode cX12_access 100 = .ok (.aload_n 0, 1) := by decide +kernel
theorem dX12_access_101 : decode cX12_access 101 = .ok (.getfield 35, 3) := by decide +kernel
theorem dX12_access_104 : decode cX12_access 104 = .ok (.iload 6, 2) := by decide +kernel
theorem dX12_access_106 : decode cX12_access 106 = .ok (.iload 5, 2) := by decide +kernel
theorem dX12_access_108 : decode cX12_access 108 = .ok (.iastore, 1) := by decide +kernel
theorem dX12_access_109 : decode cX12_access 109 = .ok (.aload_n 0, 1) := by decide +kernel
theorem dX12_access_110 : decode cX12_access 110 = .ok (.getfield 22, 3) := by decide +kernel
theorem dX12_access_113 : decode cX12_access 113 = .ok (.iload_n 1, 1) := by decide +kernel
theorem dX12_access_114 : decode cX12_access 114 = .ok (.dup2, 1) := by decide +kernel
theorem dX12_access_115 : decode cX12_access 115 = .ok (.iaload, 1) := by decide +kernel
theorem dX12_access_116 : decode cX12_access 116 = .ok (.iconst 1, 1) := by decide +kernel
theorem dX12_access_117 : decode cX12_access 117 = .ok (.iadd, 1) := by decide +kernel
theorem dX12_access_118 : decode cX12_access 118 = .ok (.iastore, 1) := by decide +kernel
theorem dX12_access_119 : decode cX12_access 119 = .ok (.aload_n 0, 1) := by decide +kernel
theorem dX12_access_120 : decode cX12_access 120 = .ok (.getfield 22, 3) := by decide +kernel
theorem dX12_access_123 : decode cX12_access 123 = .ok (.iload_n 1, 1) := by decide +kernel
theorem dX12_access_124 : decode cX12_access 124 = .ok (.iaload, 1) := by decide +kernel
theorem dX12_access_125 : decode cX12_access 125 = .ok (.ireturn, 1) := by decide +kernel
theorem dX12_rule_0 : decode cX12_rule 0 = .ok (.aload_n 0, 1) := by decide +kernel
theorem dX12_rule_1 : decode cX12_rule 1 = .ok (.iconst 0, 1) := by decide +kernel
theorem dX12_rule_2 : decode cX12_rule 2 = .ok (.putfield 194, 3) := by decide +kernel
theorem dX12_rule_5 : decode cX12_rule 5 = .ok (.iload_n 1, 1) := by decide +kernel
theorem dX12_rule_6 : decode cX12_rule 6 = .ok (.i2l, 1) := by decide +kernel
theorem dX12_rule_7 : decode cX12_rule 7 = .ok (.lconst 0, 1) := by decide +kernel
theorem dX12_rule_8 : decode cX12_rule 8 = .ok (.ldc2_w 235, 3) := by decide +kernel
theorem dX12_rule_11 : decode cX12_rule 11 = .ok (.invokestatic 214, 3) := by decide +kernel
theorem dX12_rule_14 : decode cX12_rule 14 = .ok (.ifCond .eq 27, 3) := by decide +kernel
theorem dX12_rule_17 : decode cX12_rule 17 = .ok (.iload_n 2, 1) := by decide +kernel
theorem dX12_rule_18 : decode cX12_rule 18 = .ok (.i2l, 1) := by decide +kernel
theorem dX12_rule_19 : decode cX12_rule 19 = .ok (.lconst 0, 1) := by decide +kernel
theorem dX12_rule_20 : decode cX12_rule 20 = .ok (.ldc2_w 237, 3) := by decide +kernel
theorem dX12_rule_23 : decode cX12_rule 23 = .ok (.invokestatic 214, 3) := by decide +kernel
theorem dX12_rule_26 : decode cX12_rule 26 = .ok (.ifCond .eq 15, 3) := by decide +kernel
theorem dX12_rule_29 : decode cX12_rule 29 = .ok (.iload_n 3, 1) := by decide +kernel
theorem dX12_rule_30 : decode cX12_rule 30 = .ok (.i2l, 1) := by decide +kernel
theorem dX12_rule_31 : decode cX12_rule 31 = .ok (.lconst 1, 1) := by decide +kernel
theorem dX12_rule_32 : decode cX12_rule 32 = .ok (.ldc2_w 239, 3) := by decide +kernel
theorem dX12_rule_35 : decode cX12_rule 35 = .ok (.invokestatic 214, 3) := by decide +kernel
theorem dX12_rule_38 : decode cX12_rule 38 = .ok (.ifCond .ne 5, 3) := by decide +kernel
theorem dX12_rule_41 : decode cX12_rule 41 = .ok (.iconst (-1), 1) := by decide +kernel
theorem dX12_rule_42 : decode cX12_rule 42 = .ok (.ireturn, 1) := by decide +kernel
theorem dX12_rule_43 : decode cX12_rule 43 = .ok (.aload_n 0, 1) := by decide +kernel
theorem dX12_rule_44 : decode cX12_rule 44 = .ok (.getfield 45, 3) := by decide +kernel
theorem dX12_rule_47 : decode cX12_rule 47 = .ok (.iconst 0, 1) := by decide +kernel
theorem dX12_rule_48 : decode cX12_rule 48 = .ok (.iload_n 1, 1) := by decide +kernel
theorem dX12_rule_49 : decode cX12_rule 49 = .ok (.iastore, 1) := by decide +kernel
theorem dX12_rule_50 : decode cX12_rule 50 = .ok (.aload_n 0, 1) := by decide +kernel
theorem dX12_rule_51 : decode cX12_rule 51 = .ok (.getfield 48, 3) := by decide +kernel
theorem dX12_rule_54 : decode cX12_rule 54 = .ok (.iconst 0, 1) := by decide +kernel
theorem dX12_rule_55 : decode cX12_rule 55 = .ok (.iload_n 2, 1) := by decide +kernel
theorem dX12_rule_56 : decode cX12_rule 56 = .ok (.iastore, 1) := by decide +kernel
theorem dX12_rule_57 : decode cX12_rule 57 = .ok (.aload_n 0, 1) := by decide +kernel
theorem dX12_rule_58 : decode cX12_rule 58 = .ok (.getfield 51, 3) := by decide +kernel
theorem dX12_rule_61 : decode cX12_rule 61 = .ok (.iconst 0, 1) := by decide +kernel
theorem dX12_rule_62 : decode cX12_rule 62 = .ok (.iload_n 3, 1) := by decide +kernel
theorem dX12_rule_63 : decode cX12_rule 63 = .ok (.iastore, 1) := by decide +kernel
theorem dX12_rule_64 : decode cX12_rule 64 = .ok (.iconst 0, 1) := by decide +kernel
theorem dX12_rule_65 : decode cX12_rule 65 = .ok (.ireturn, 1) := by decide +kernel
theorem dX12_prices_0 : decode cX12_prices 0 = .ok (.aload_n 0, 1) := by decide +kernel
theorem dX12_prices_1 : decode cX12_prices 1 = .ok (.iconst 0, 1) := by decide +kernel
theorem dX12_prices_2 : decode cX12_prices 2 = .ok (.putfield 194, 3) := by decide +kernel
theorem dX12_prices_5 : decode cX12_prices 5 = .ok (.iload_n 1, 1) := by decide +kernel
theorem dX12_prices_6 : decode cX12_prices 6 = .ok (.i2l, 1) := by decide +kernel
theorem dX12_prices_7 : decode cX12_prices 7 = .ok (.lconst 0, 1) := by decide +kernel
theorem dX12_prices_8 : decode cX12_prices 8 = .ok (.ldc2_w 241, 3) := by decide +kernel
theorem dX12_prices_11 : decode cX12_prices 11 = .ok (.invokestatic 214, 3) := by decide +kernel
theorem dX12_prices_14 : decode cX12_prices 14 = .ok (.ifCond .eq 15, 3) := by decide +kernel
theorem dX12_prices_17 : decode cX12_prices 17 = .ok (.iload_n 2, 1) := by decide +kernel
theorem dX12_prices_18 : decode cX12_prices 18 = .ok (.i2l, 1) := by decide +kernel
theorem dX12_prices_19 : decode cX12_prices 19 = .ok (.lconst 0, 1) := by decide +kernel
theorem dX12_prices_20 : decode cX12_prices 20 = .ok (.ldc2_w 237, 3) := by decide +kernel
theorem dX12_prices_23 : decode cX12_prices 23 = .ok (.invokestatic 214, 3) := by decide +kernel
theorem dX12_prices_26 : decode cX12_prices 26 = .ok (.ifCond .ne 5, 3) := by decide +kernel
theorem dX12_prices_29 : decode cX12_prices 29 = .ok (.iconst (-1), 1) := by decide +kernel
theorem dX12_prices_30 : decode cX12_prices 30 = .ok (.ireturn, 1) := by decide +kernel
theorem dX12_prices_31 : decode cX12_prices 31 = .ok (.aload_n 0, 1) := by decide +kernel
theorem dX12_prices_32 : decode cX12_prices 32 = .ok (.iload_n 1, 1) := by decide +kernel
theorem dX12_prices_33 : decode cX12_prices 33 = .ok (.putfield 38, 3) := by decide +kernel
theorem dX12_prices_36 : decode cX12_prices 36 = .ok (.aload_n 0, 1) := by decide +kernel
theorem dX12_prices_37 : decode cX12_prices 37 = .ok (.iload_n 2, 1) := by decide +kernel
theorem dX12_prices_38 : decode cX12_prices 38 = .ok (.putfield 42, 3) := by decide +kernel
theorem dX12_prices_41 : decode cX12_prices 41 = .ok (.iconst 0, 1) := by decide +kernel
theorem dX12_prices_42 : decode cX12_prices 42 = .ok (.ireturn, 1) := by decide +kernel
theorem dX12_taken_0 : decode cX12_taken 0 = .ok (.iconst 0, 1) := by decide +kernel
theorem dX12_taken_1 : decode cX12_taken 1 = .ok (.istore_n 2, 1) := by decide +kernel
theorem dX12_taken_2 : decode cX12_taken 2 = .ok (.iconst 0, 1) := by decide +kernel
theorem dX12_taken_3 : decode cX12_taken 3 = .ok (.istore_n 3, 1) := by decide +kernel
theorem dX12_taken_4 : decode cX12_taken 4 = .ok (.iload_n 3, 1) := by decide +kernel
theorem dX12_taken_5 : decode cX12_taken 5 = .ok (.aload_n 0, 1) := by decide +kernel
theorem dX12_taken_6 : decode cX12_taken 6 = .ok (.getfield 197, 3) := by decide +kernel
theorem dX12_taken_9 : decode cX12_taken 9 = .ok (.if_icmp .ge 75, 3) := by decide +kernel
theorem dX12_taken_12 : decode cX12_taken 12 = .ok (.bipush 20, 2) := by decide +kernel
theorem dX12_taken_14 : decode cX12_taken 14 = .ok (.aload_n 0, 1) := by decide +kernel
theorem dX12_taken_15 : decode cX12_taken 15 = .ok (.getfield 243, 3) := by decide +kernel
theorem dX12_taken_18 : decode cX12_taken 18 = .ok (.imul, 1) := by decide +kernel
theorem dX12_taken_19 : decode cX12_taken 19 = .ok (.iload_n 3, 1) := by decide +kernel
theorem dX12_taken_20 : decode cX12_taken 20 = .ok (.iadd, 1) := by decide +kernel
theorem dX12_taken_21 : decode cX12_taken 21 = .ok (.istore 4, 2) := by decide +kernel
theorem dX12_taken_23 : decode cX12_taken 23 = .ok (.aload_n 0, 1) := by decide +kernel
theorem dX12_taken_24 : decode cX12_taken 24 = .ok (.getfield 79, 3) := by decide +kernel
theorem dX12_taken_27 : decode cX12_taken 27 = .ok (.iload 4, 2) := by decide +kernel
theorem dX12_taken_29 : decode cX12_taken 29 = .ok (.iaload, 1) := by decide +kernel
theorem dX12_taken_30 : decode cX12_taken 30 = .ok (.bipush (-2), 2) := by decide +kernel
theorem dX12_taken_32 : decode cX12_taken 32 = .ok (.if_icmp .eq 46, 3) := by decide +kernel
theorem dX12_taken_35 : decode cX12_taken 35 = .ok (.iload_n 2, 1) := by decide +kernel
theorem dX12_taken_36 : decode cX12_taken 36 = .ok (.aload_n 0, 1) := by decide +kernel
theorem dX12_taken_37 : decode cX12_taken 37 = .ok (.getfield 19, 3) := by decide +kernel
theorem dX12_taken_40 : decode cX12_taken 40 = .ok (.iload_n 3, 1) := by decide +kernel
theorem dX12_taken_41 : decode cX12_taken 41 = .ok (.iaload, 1) := by decide +kernel
theorem dX12_taken_42 : decode cX12_taken 42 = .ok (.iconst 2, 1) := by decide +kernel
theorem dX12_taken_43 : decode cX12_taken 43 = .ok (.if_icmp .eq 14, 3) := by decide +kernel
theorem dX12_taken_46 : decode cX12_taken 46 = .ok (.aload_n 0, 1) := by decide +kernel
theorem dX12_taken_47 : decode cX12_taken 47 = .ok (.getfield 79, 3) := by decide +kernel
theorem dX12_taken_50 : decode cX12_taken 50 = .ok (.iload 4, 2) := by decide +kernel
theorem dX12_taken_52 : decode cX12_taken 52 = .ok (.iaload, 1) := by decide +kernel
theorem dX12_taken_53 : decode cX12_taken 53 = .ok (.iload_n 1, 1) := by decide +kernel
theorem dX12_taken_54 : decode cX12_taken 54 = .ok (.if_icmp .ne 7, 3) := by decide +kernel
theorem dX12_taken_57 : decode cX12_taken 57 = .ok (.iconst 1, 1) := by decide +kernel
theorem dX12_taken_58 : decode cX12_taken 58 = .ok (.goto 4, 3) := by decide +kernel
theorem dX12_taken_61 : decode cX12_taken 61 = .ok (.iconst 0, 1) := by decide +kernel
theorem dX12_taken_62 : decode cX12_taken 62 = .ok (.iadd, 1) := by decide +kernel
theorem dX12_taken_63 : decode cX12_taken 63 = .ok (.istore_n 2, 1) := by decide +kernel
theorem dX12_taken_64 : decode cX12_taken 64 = .ok (.iload_n 2, 1) := by decide +kernel
theorem dX12_taken_65 : decode cX12_taken 65 = .ok (.aload_n 0, 1) := by decide +kernel
theorem dX12_taken_66 : decode cX12_taken 66 = .ok (.getfield 82, 3) := by decide +kernel
theorem dX12_taken_69 : decode cX12_taken 69 = .ok (.iload 4, 2) := by decide +kernel
theorem dX12_taken_71 : decode cX12_taken 71 = .ok (.iaload, 1) := by decide +kernel
theorem dX12_taken_72 : decode cX12_taken 72 = .ok (.iload_n 1, 1) := by decide +kernel
theorem dX12_taken_73 : decode cX12_taken 73 = .ok (.ishr, 1) := by decide +kernel
theorem dX12_taken_74 : decode cX12_taken 74 = .ok (.iconst 1, 1) := by decide +kernel
theorem dX12_taken_75 : decode cX12_taken 75 = .ok (.iand, 1) := by decide +kernel
theorem dX12_taken_76 : decode cX12_taken 76 = .ok (.iadd, 1) := by decide +kernel
theorem dX12_taken_77 : decode cX12_taken 77 = .ok (.istore_n 2, 1) := by decide +kernel
theorem dX12_taken_78 : decode cX12_taken 78 = .ok (.iinc 3 1, 3) := by decide +kernel
theorem dX12_taken_81 : decode cX12_taken 81 = .ok (.goto (-77), 3) := by decide +kernel
theorem dX12_taken_84 : decode cX12_taken 84 = .ok (.iload_n 2, 1) := by decide +kernel
theorem dX12_taken_85 : decode cX12_taken 85 = .ok (.ireturn, 1) := by decide +kernel
theorem dX12_hasRoom_0 : decode cX12_hasRoom 0 = .ok (.aload_n 0, 1) := by decide +kernel
theorem dX12_hasRoom_1 : decode cX12_hasRoom 1 = .ok (.iload_n 1, 1) := by decide +kernel
theorem dX12_hasRoom_2 : decode cX12_hasRoom 2 = .ok (.invokevirtual 246, 3) := by decide +kernel
theorem dX12_hasRoom_5 : decode cX12_hasRoom 5 = .ok (.aload_n 0, 1) := by decide +kernel
theorem dX12_hasRoom_6 : decode cX12_hasRoom 6 = .ok (.getfield 188, 3) := by decide +kernel
theorem dX12_hasRoom_9 : decode cX12_hasRoom 9 = .ok (.if_icmp .ge 7, 3) := by decide +kernel
theorem dX12_hasRoom_12 : decode cX12_hasRoom 12 = .ok (.iconst 1, 1) := by decide +kernel
theorem dX12_hasRoom_13 : decode cX12_hasRoom 13 = .ok (.goto 4, 3) := by decide +kernel
theorem dX12_hasRoom_16 : decode cX12_hasRoom 16 = .ok (.iconst 0, 1) := by decide +kernel
theorem dX12_hasRoom_17 : decode cX12_hasRoom 17 = .ok (.ireturn, 1) := by decide +kernel
theorem dX12_allHaveRoom_0 : decode cX12_allHaveRoom 0 = .ok (.iconst 1, 1) := by decide +kernel
theorem dX12_allHaveRoom_1 : decode cX12_allHaveRoom 1 = .ok (.istore_n 1, 1) := by decide +kernel
theorem dX12_allHaveRoom_2 : decode cX12_allHaveRoom 2 = .ok (.iconst 0, 1) := by decide +kernel
theorem dX12_allHaveRoom_3 : decode cX12_allHaveRoom 3 = .ok (.istore_n 2, 1) := by decide +kernel
theorem dX12_allHaveRoom_4 : decode cX12_allHaveRoom 4 = .ok (.iload_n 2, 1) := by decide +kernel
theorem dX12_allHaveRoom_5 : decode cX12_allHaveRoom 5 = .ok (.aload_n 0, 1) := by decide +kernel
theorem dX12_allHaveRoom_6 : decode cX12_allHaveRoom 6 = .ok (.getfield 182, 3) := by decide +kernel
theorem dX12_allHaveRoom_9 : decode cX12_allHaveRoom 9 = .ok (.if_icmp .ge 27, 3) := by decide +kernel
theorem dX12_allHaveRoom_12 : decode cX12_allHaveRoom 12 = .ok (.iload_n 1, 1) := by decide +kernel
theorem dX12_allHaveRoom_13 : decode cX12_allHaveRoom 13 = .ok (.ifCond .eq 15, 3) := by decide +kernel
theorem dX12_allHaveRoom_16 : decode cX12_allHaveRoom 16 = .ok (.aload_n 0, 1) := by decide +kernel
theorem dX12_allHaveRoom_17 : decode cX12_allHaveRoom 17 = .ok (.iload_n 2, 1) := by decide +kernel
theorem dX12_allHaveRoom_18 : decode cX12_allHaveRoom 18 = .ok (.invokevirtual 250, 3) := by decide +kernel
theorem dX12_allHaveRoom_21 : decode cX12_allHaveRoom 21 = .ok (.ifCond .eq 7, 3) := by decide +kernel
theorem dX12_allHaveRoom_24 : decode cX12_allHaveRoom 24 = .ok (.iconst 1, 1) := by decide +kernel
theorem dX12_allHaveRoom_25 : decode cX12_allHaveRoom 25 = .ok (.goto 4, 3) := by decide +kernel
theorem dX12_allHaveRoom_28 : decode cX12_allHaveRoom 28 = .ok (.iconst 0, 1) := by decide +kernel
theorem dX12_allHaveRoom_29 : decode cX12_allHaveRoom 29 = .ok (.istore_n 1, 1) := by decide +kernel
theorem dX12_allHaveRoom_30 : decode cX12_allHaveRoom 30 = .ok (.iinc 2 1, 3) := by decide +kernel
theorem dX12_allHaveRoom_33 : decode cX12_allHaveRoom 33 = .ok (.goto (-29), 3) := by decide +kernel
theorem dX12_allHaveRoom_36 : decode cX12_allHaveRoom 36 = .ok (.iload_n 1, 1) := by decide +kernel
theorem dX12_allHaveRoom_37 : decode cX12_allHaveRoom 37 = .ok (.ireturn, 1) := by decide +kernel
theorem dX12_place_0 : decode cX12_place 0 = .ok (.aload_n 0, 1) := by decide +kernel
theorem dX12_place_1 : decode cX12_place 1 = .ok (.iconst 0, 1) := by decide +kernel
theorem dX12_place_2 : decode cX12_place 2 = .ok (.putfield 194, 3) := by decide +kernel
theorem dX12_place_5 : decode cX12_place 5 = .ok (.aload_n 0, 1) := by decide +kernel
theorem dX12_place_6 : decode cX12_place 6 = .ok (.iload_n 1, 1) := by decide +kernel
theorem dX12_place_7 : decode cX12_place 7 = .ok (.invokevirtual 253, 3) := by decide +kernel
theorem dX12_place_10 : decode cX12_place 10 = .ok (.ifCond .eq 11, 3) := by decide +kernel
theorem dX12_place_13 : decode cX12_place 13 = .ok (.aload_n 0, 1) := by decide +kernel
theorem dX12_place_14 : decode cX12_place 14 = .ok (.iload_n 2, 1) := by decide +kernel
theorem dX12_place_15 : decode cX12_place 15 = .ok (.invokevirtual 204, 3) := by decide +kernel
theorem dX12_place_18 : decode cX12_place 18 = .ok (.ifCond .ne 5, 3) := by decide +kernel
theorem dX12_place_21 : decode cX12_place 21 = .ok (.iconst (-1), 1) := by decide +kernel
theorem dX12_place_22 : decode cX12_place 22 = .ok (.ireturn, 1) := by decide +kernel
theorem dX12_place_23 : decode cX12_place 23 = .ok (.aload_n 0, 1) := by decide +kernel
theorem dX12_place_24 : decode cX12_place 24 = .ok (.getfield 19, 3) := by decide +kernel
theorem dX12_place_27 : decode cX12_place 27 = .ok (.iload_n 1, 1) := by decide +kernel
theorem dX12_place_28 : decode cX12_place 28 = .ok (.iaload, 1) := by decide +kernel
theorem dX12_place_29 : decode cX12_place 29 = .ok (.iconst 2, 1) := by decide +kernel
theorem dX12_place_30 : decode cX12_place 30 = .ok (.if_icmp .ne 13, 3) := by decide +kernel
theorem dX12_place_33 : decode cX12_place 33 = .ok (.aload_n 0, 1) := by decide +kernel
theorem dX12_place_34 : decode cX12_place 34 = .ok (.invokevirtual 256, 3) := by decide +kernel
theorem dX12_place_37 : decode cX12_place 37 = .ok (.ifCond .ne 17, 3) := by decide +kernel
theorem dX12_place_40 : decode cX12_place 40 = .ok (.goto 11, 3) := by decide +kernel
theorem dX12_place_43 : decode cX12_place 43 = .ok (.aload_n 0, 1) := by decide +kernel
theorem dX12_place_44 : decode cX12_place 44 = .ok (.iload_n 2, 1) := by decide +kernel
theorem dX12_place_45 : decode cX12_place 45 = .ok (.invokevirtual 250, 3) := by decide +kernel
theorem dX12_place_48 : decode cX12_place 48 = .ok (.ifCond .ne 6, 3) := by decide +kernel
theorem dX12_place_51 : decode cX12_place 51 = .ok (.bipush (-2), 2) := by decide +kernel
theorem dX12_place_53 : decode cX12_place 53 = .ok (.ireturn, 1) := by decide +kernel
theorem dX12_place_54 : decode cX12_place 54 = .ok (.aload_n 0, 1) := by decide +kernel
theorem dX12_place_55 : decode cX12_place 55 = .ok (.getfield 79, 3) := by decide +kernel
theorem dX12_place_58 : decode cX12_place 58 = .ok (.iload_n 1, 1) := by decide +kernel
theorem dX12_place_59 : decode cX12_place 59 = .ok (.iaload, 1) := by decide +kernel
theorem dX12_place_60 : decode cX12_place 60 = .ok (.bipush (-2), 2) := by decide +kernel
theorem dX12_place_62 : decode cX12_place 62 = .ok (.if_icmp .eq 6, 3) := by decide +kernel
theorem dX12_place_65 : decode cX12_place 65 = .ok (.bipush (-3), 2) := by decide +kernel
theorem dX12_place_67 : decode cX12_place 67 = .ok (.ireturn, 1) := by decide +kernel
theorem dX12_place_68 : decode cX12_place 68 = .ok (.aload_n 0, 1) := by decide +kernel
theorem dX12_place_69 : decode cX12_place 69 = .ok (.getfield 79, 3) := by decide +kernel
theorem dX12_place_72 : decode cX12_place 72 = .ok (.iload_n 1, 1) := by decide +kernel
theorem dX12_place_73 : decode cX12_place 73 = .ok (.iload_n 2, 1) := by decide +kernel
theorem dX12_place_74 : decode cX12_place 74 = .ok (.iastore, 1) := by decide +kernel
theorem dX12_place_75 : decode cX12_place 75 = .ok (.iconst 0, 1) := by decide +kernel
theorem dX12_place_76 : decode cX12_place 76 = .ok (.ireturn, 1) := by decide +kernel
theorem dX12_settle_0 : decode cX12_settle 0 = .ok (.aload_n 0, 1) := by decide +kernel
theorem dX12_settle_1 : decode cX12_settle 1 = .ok (.iconst 0, 1) := by decide +kernel
theorem dX12_settle_2 : decode cX12_settle 2 = .ok (.putfield 194, 3) := by decide +kernel
theorem dX12_settle_5 : decode cX12_settle 5 = .ok (.aload_n 0, 1) := by decide +kernel
theorem dX12_settle_6 : decode cX12_settle 6 = .ok (.iload_n 1, 1) := by decide +kernel
theorem dX12_settle_7 : decode cX12_settle 7 = .ok (.invokevirtual 228, 3) := by decide +kernel
theorem dX12_settle_10 : decode cX12_settle 10 = .ok (.ifCond .eq 11, 3) := by decide +kernel
theorem dX12_settle_13 : decode cX12_settle 13 = .ok (.aload_n 0, 1) := by decide +kernel
theorem dX12_settle_14 : decode cX12_settle 14 = .ok (.iload_n 2, 1) := by decide +kernel
theorem dX12_settle_15 : decode cX12_settle 15 = .ok (.invokevirtual 204, 3) := by decide +kernel
theorem dX12_settle_18 : decode cX12_settle 18 = .ok (.ifCond .ne 5, 3) := by decide +kernel
theorem dX12_settle_21 : decode cX12_settle 21 = .ok (.iconst (-1), 1) := by decide +kernel
theorem dX12_settle_22 : decode cX12_settle 22 = .ok (.ireturn, 1) := by decide +kernel
theorem dX12_settle_23 : decode cX12_settle 23 = .ok (.aload_n 0, 1) := by decide +kernel
theorem dX12_settle_24 : decode cX12_settle 24 = .ok (.getfield 112, 3) := by decide +kernel
theorem dX12_settle_27 : decode cX12_settle 27 = .ok (.iload_n 1, 1) := by decide +kernel
theorem dX12_settle_28 : decode cX12_settle 28 = .ok (.iaload, 1) := by decide +kernel
theorem dX12_settle_29 : decode cX12_settle 29 = .ok (.ifCond .le 6, 3) := by decide +kernel
theorem dX12_settle_32 : decode cX12_settle 32 = .ok (.bipush (-3), 2) := by decide +kernel
theorem dX12_settle_34 : decode cX12_settle 34 = .ok (.ireturn, 1) := by decide +kernel
theorem dX12_settle_35 : decode cX12_settle 35 = .ok (.aload_n 0, 1) := by decide +kernel
theorem dX12_settle_36 : decode cX12_settle 36 = .ok (.getfield 103, 3) := by decide +kernel
theorem dX12_settle_39 : decode cX12_settle 39 = .ok (.iload_n 1, 1) := by decide +kernel
theorem dX12_settle_40 : decode cX12_settle 40 = .ok (.iaload, 1) := by decide +kernel
theorem dX12_settle_41 : decode cX12_settle 41 = .ok (.istore_n 3, 1) := by decide +kernel
theorem dX12_settle_42 : decode cX12_settle 42 = .ok (.aload_n 0, 1) := by decide +kernel
theorem dX12_settle_43 : decode cX12_settle 43 = .ok (.getfield 103, 3) := by decide +kernel
theorem dX12_settle_46 : decode cX12_settle 46 = .ok (.iload_n 1, 1) := by decide +kernel
theorem dX12_settle_47 : decode cX12_settle 47 = .ok (.iload_n 2, 1) := by decide +kernel
theorem dX12_settle_48 : decode cX12_settle 48 = .ok (.iastore, 1) := by decide +kernel
theorem dX12_settle_49 : decode cX12_settle 49 = .ok (.aload_n 0, 1) := by decide +kernel
theorem dX12_settle_50 : decode cX12_settle 50 = .ok (.getfield 106, 3) := by decide +kernel
theorem dX12_settle_53 : decode cX12_settle 53 = .ok (.iload_n 1, 1) := by decide +kernel
theorem dX12_settle_54 : decode cX12_settle 54 = .ok (.aload_n 0, 1) := by decide +kernel
theorem dX12_settle_55 : decode cX12_settle 55 = .ok (.getfield 76, 3) := by decide +kernel
theorem dX12_settle_58 : decode cX12_settle 58 = .ok (.iconst 0, 1) := by decide +kernel
theorem dX12_settle_59 : decode cX12_settle 59 = .ok (.iaload, 1) := by decide +kernel
theorem dX12_settle_60 : decode cX12_settle 60 = .ok (.iastore, 1) := by decide +kernel
theorem dX12_settle_61 : decode cX12_settle 61 = .ok (.aload_n 0, 1) := by decide +kernel
theorem dX12_settle_62 : decode cX12_settle 62 = .ok (.getfield 76, 3) := by decide +kernel
theorem dX12_settle_65 : decode cX12_settle 65 = .ok (.iconst 0, 1) := by decide +kernel
theorem dX12_settle_66 : decode cX12_settle 66 = .ok (.dup2, 1) := by decide +kernel
theorem dX12_settle_67 : decode cX12_settle 67 = .ok (.iaload, 1) := by decide +kernel
theorem dX12_settle_68 : decode cX12_settle 68 = .ok (.iconst 1, 1) := by decide +kernel
theorem dX12_settle_69 : decode cX12_settle 69 = .ok (.iadd, 1) := by decide +kernel
theorem dX12_settle_70 : decode cX12_settle 70 = .ok (.iastore, 1) := by decide +kernel
theorem dX12_settle_71 : decode cX12_settle 71 = .ok (.iload_n 3, 1) := by decide +kernel
theorem dX12_settle_72 : decode cX12_settle 72 = .ok (.ireturn, 1) := by decide +kernel
theorem dX12_swap_0 : decode cX12_swap 0 = .ok (.aload_n 0, 1) := by decide +kernel
theorem dX12_swap_1 : decode cX12_swap 1 = .ok (.iconst 0, 1) := by decide +kernel
theorem dX12_swap_2 : decode cX12_swap 2 = .ok (.putfield 194, 3) := by decide +kernel
theorem dX12_swap_5 : decode cX12_swap 5 = .ok (.aload_n 0, 1) := by decide +kernel
theorem dX12_swap_6 : decode cX12_swap 6 = .ok (.iload_n 1, 1) := by decide +kernel
theorem dX12_swap_7 : decode cX12_swap 7 = .ok (.invokevirtual 228, 3) := by decide +kernel
theorem dX12_swap_10 : decode cX12_swap 10 = .ok (.ifCond .eq 16, 3) := by decide +kernel
theorem dX12_swap_13 : decode cX12_swap 13 = .ok (.aload_n 0, 1) := by decide +kernel
theorem dX12_swap_14 : decode cX12_swap 14 = .ok (.iload_n 2, 1) := by decide +kernel
theorem dX12_swap_15 : decode cX12_swap 15 = .ok (.invokevirtual 228, 3) := by decide +kernel
theorem dX12_swap_18 : decode cX12_swap 18 = .ok (.ifCond .eq 8, 3) := by decide +kernel
theorem dX12_swap_21 : decode cX12_swap 21 = .ok (.iload_n 1, 1) := by decide +kernel
theorem dX12_swap_22 : decode cX12_swap 22 = .ok (.iload_n 2, 1) := by decide +kernel
theorem dX12_swap_23 : decode cX12_swap 23 = .ok (.if_icmp .ne 5, 3) := by decide +kernel
theorem dX12_swap_26 : decode cX12_swap 26 = .ok (.iconst (-1), 1) := by decide +kernel
theorem dX12_swap_27 : decode cX12_swap 27 = .ok (.ireturn, 1) := by decide +kernel
theorem dX12_swap_28 : decode cX12_swap 28 = .ok (.aload_n 0, 1) := by decide +kernel
theorem dX12_swap_29 : decode cX12_swap 29 = .ok (.getfield 112, 3) := by decide +kernel
theorem dX12_swap_32 : decode cX12_swap 32 = .ok (.iload_n 1, 1) := by decide +kernel
theorem dX12_swap_33 : decode cX12_swap 33 = .ok (.iaload, 1) := by decide +kernel
theorem dX12_swap_34 : decode cX12_swap 34 = .ok (.ifCond .gt 12, 3) := by decide +kernel
theorem dX12_swap_37 : decode cX12_swap 37 = .ok (.aload_n 0, 1) := by decide +kernel
theorem dX12_swap_38 : decode cX12_swap 38 = .ok (.getfield 112, 3) := by decide +kernel
theorem dX12_swap_41 : decode cX12_swap 41 = .ok (.iload_n 2, 1) := by decide +kernel
theorem dX12_swap_42 : decode cX12_swap 42 = .ok (.iaload, 1) := by decide +kernel
theorem dX12_swap_43 : decode cX12_swap 43 = .ok (.ifCond .le 6, 3) := by decide +kernel
theorem dX12_swap_46 : decode cX12_swap 46 = .ok (.bipush (-3), 2) := by decide +kernel
theorem dX12_swap_48 : decode cX12_swap 48 = .ok (.ireturn, 1) := by decide +kernel
theorem dX12_swap_49 : decode cX12_swap 49 = .ok (.aload_n 0, 1) := by decide +kernel
theorem dX12_swap_50 : decode cX12_swap 50 = .ok (.getfield 103, 3) := by decide +kernel
theorem dX12_swap_53 : decode cX12_swap 53 = .ok (.iload_n 1, 1) := by decide +kernel
theorem dX12_swap_54 : decode cX12_swap 54 = .ok (.iaload, 1) := by decide +kernel
theorem dX12_swap_55 : decode cX12_swap 55 = .ok (.istore_n 3, 1) := by decide +kernel
theorem dX12_swap_56 : decode cX12_swap 56 = .ok (.aload_n 0, 1) := by decide +kernel
theorem dX12_swap_57 : decode cX12_swap 57 = .ok (.getfield 103, 3) := by decide +kernel
theorem dX12_swap_60 : decode cX12_swap 60 = .ok (.iload_n 1, 1) := by decide +kernel
theorem dX12_swap_61 : decode cX12_swap 61 = .ok (.aload_n 0, 1) := by decide +kernel
theorem dX12_swap_62 : decode cX12_swap 62 = .ok (.getfield 103, 3) := by decide +kernel
theorem dX12_swap_65 : decode cX12_swap 65 = .ok (.iload_n 2, 1) := by decide +kernel
theorem dX12_swap_66 : decode cX12_swap 66 = .ok (.iaload, 1) := by decide +kernel
theorem dX12_swap_67 : decode cX12_swap 67 = .ok (.iastore, 1) := by decide +kernel
theorem dX12_swap_68 : decode cX12_swap 68 = .ok (.aload_n 0, 1) := by decide +kernel
theorem dX12_swap_69 : decode cX12_swap 69 = .ok (.getfield 103, 3) := by decide +kernel
theorem dX12_swap_72 : decode cX12_swap 72 = .ok (.iload_n 2, 1) := by decide +kernel
theorem dX12_swap_73 : decode cX12_swap 73 = .ok (.iload_n 3, 1) := by decide +kernel
theorem dX12_swap_74 : decode cX12_swap 74 = .ok (.iastore, 1) := by decide +kernel
theorem dX12_swap_75 : decode cX12_swap 75 = .ok (.aload_n 0, 1) := by decide +kernel
theorem dX12_swap_76 : decode cX12_swap 76 = .ok (.getfield 106, 3) := by decide +kernel
theorem dX12_swap_79 : decode cX12_swap 79 = .ok (.iload_n 1, 1) := by decide +kernel
theorem dX12_swap_80 : decode cX12_swap 80 = .ok (.iaload, 1) := by decide +kernel
theorem dX12_swap_81 : decode cX12_swap 81 = .ok (.istore 4, 2) := by decide +kernel
theorem dX12_swap_83 : decode cX12_swap 83 = .ok (.aload_n 0, 1) := by decide +kernel
theorem dX12_swap_84 : decode cX12_swap 84 = .ok (.getfield 106, 3) := by decide +kernel
theorem dX12_swap_87 : decode cX12_swap 87 = .ok (.iload_n 1, 1) := by decide +kernel
theorem dX12_swap_88 : decode cX12_swap 88 = .ok (.aload_n 0, 1) := by decide +kernel
theorem dX12_swap_89 : decode cX12_swap 89 = .ok (.getfield 106, 3) := by decide +kernel
theorem dX12_swap_92 : decode cX12_swap 92 = .ok (.iload_n 2, 1) := by decide +kernel
theorem dX12_swap_93 : decode cX12_swap 93 = .ok (.iaload, 1) := by decide +kernel
theorem dX12_swap_94 : decode cX12_swap 94 = .ok (.iastore, 1) := by decide +kernel
theorem dX12_swap_95 : decode cX12_swap 95 = .ok (.aload_n 0, 1) := by decide +kernel
theorem dX12_swap_96 : decode cX12_swap 96 = .ok (.getfield 106, 3) := by decide +kernel
theorem dX12_swap_99 : decode cX12_swap 99 = .ok (.iload_n 2, 1) := by decide +kernel
theorem dX12_swap_100 : decode cX12_swap 100 = .ok (.iload 4, 2) := by decide +kernel
theorem dX12_swap_102 : decode cX12_swap 102 = .ok (.iastore, 1) := by decide +kernel
theorem dX12_swap_103 : decode cX12_swap 103 = .ok (.iconst 0, 1) := by decide +kernel
theorem dX12_swap_104 : decode cX12_swap 104 = .ok (.ireturn, 1) := by decide +kernel
theorem dX12_emptiest_0 : decode cX12_emptiest 0 = .ok (.iconst 0, 1) := by decide +kernel
theorem dX12_emptiest_1 : decode cX12_emptiest 1 = .ok (.istore_n 1, 1) := by decide +kernel
theorem dX12_emptiest_2 : decode cX12_emptiest 2 = .ok (.iconst 1, 1) := by decide +kernel
theorem dX12_emptiest_3 : decode cX12_emptiest 3 = .ok (.istore_n 2, 1) := by decide +kernel
theorem dX12_emptiest_4 : decode cX12_emptiest 4 = .ok (.iload_n 2, 1) := by decide +kernel
theorem dX12_emptiest_5 : decode cX12_emptiest 5 = .ok (.aload_n 0, 1) := by decide +kernel
theorem dX12_emptiest_6 : decode cX12_emptiest 6 = .ok (.getfield 182, 3) := by decide +kernel
theorem dX12_emptiest_9 : decode cX12_emptiest 9 = .ok (.if_icmp .ge 28, 3) := by decide +kernel
theorem dX12_emptiest_12 : decode cX12_emptiest 12 = .ok (.aload_n 0, 1) := by decide +kernel
theorem dX12_emptiest_13 : decode cX12_emptiest 13 = .ok (.iload_n 2, 1) := by decide +kernel
theorem dX12_emptiest_14 : decode cX12_emptiest 14 = .ok (.invokevirtual 246, 3) := by decide +kernel
theorem dX12_emptiest_17 : decode cX12_emptiest 17 = .ok (.aload_n 0, 1) := by decide +kernel
theorem dX12_emptiest_18 : decode cX12_emptiest 18 = .ok (.iload_n 1, 1) := by decide +kernel
theorem dX12_emptiest_19 : decode cX12_emptiest 19 = .ok (.invokevirtual 246, 3) := by decide +kernel
theorem dX12_emptiest_22 : decode cX12_emptiest 22 = .ok (.if_icmp .ge 7, 3) := by decide +kernel
theorem dX12_emptiest_25 : decode cX12_emptiest 25 = .ok (.iload_n 2, 1) := by decide +kernel
theorem dX12_emptiest_26 : decode cX12_emptiest 26 = .ok (.goto 4, 3) := by decide +kernel
theorem dX12_emptiest_29 : decode cX12_emptiest 29 = .ok (.iload_n 1, 1) := by decide +kernel
theorem dX12_emptiest_30 : decode cX12_emptiest 30 = .ok (.istore_n 1, 1) := by decide +kernel
theorem dX12_emptiest_31 : decode cX12_emptiest 31 = .ok (.iinc 2 1, 3) := by decide +kernel
theorem dX12_emptiest_34 : decode cX12_emptiest 34 = .ok (.goto (-30), 3) := by decide +kernel
theorem dX12_emptiest_37 : decode cX12_emptiest 37 = .ok (.iload_n 1, 1) := by decide +kernel
theorem dX12_emptiest_38 : decode cX12_emptiest 38 = .ok (.ireturn, 1) := by decide +kernel
theorem dX12_isPlaced_0 : decode cX12_isPlaced 0 = .ok (.aload_n 0, 1) := by decide +kernel
theorem dX12_isPlaced_1 : decode cX12_isPlaced 1 = .ok (.getfield 45, 3) := by decide +kernel
theorem dX12_isPlaced_4 : decode cX12_isPlaced 4 = .ok (.aload_n 0, 1) := by decide +kernel
theorem dX12_isPlaced_5 : decode cX12_isPlaced 5 = .ok (.getfield 243, 3) := by decide +kernel
theorem dX12_isPlaced_8 : decode cX12_isPlaced 8 = .ok (.iaload, 1) := by decide +kernel
theorem dX12_isPlaced_9 : decode cX12_isPlaced 9 = .ok (.ifCond .ne 7, 3) := by decide +kernel
theorem dX12_isPlaced_12 : decode cX12_isPlaced 12 = .ok (.iload_n 2, 1) := by decide +kernel
theorem dX12_isPlaced_13 : decode cX12_isPlaced 13 = .ok (.goto 37, 3) := by decide +kernel
theorem dX12_isPlaced_16 : decode cX12_isPlaced 16 = .ok (.aload_n 0, 1) := by decide +kernel
theorem dX12_isPlaced_17 : decode cX12_isPlaced 17 = .ok (.getfield 45, 3) := by decide +kernel
theorem dX12_isPlaced_20 : decode cX12_isPlaced 20 = .ok (.aload_n 0, 1) := by decide +kernel
theorem dX12_isPlaced_21 : decode cX12_isPlaced 21 = .ok (.getfield 243, 3) := by decide +kernel
theorem dX12_isPlaced_24 : decode cX12_isPlaced 24 = .ok (.iaload, 1) := by decide +kernel
theorem dX12_isPlaced_25 : decode cX12_isPlaced 25 = .ok (.iconst 1, 1) := by decide +kernel
theorem dX12_isPlaced_26 : decode cX12_isPlaced 26 = .ok (.if_icmp .ne 20, 3) := by decide +kernel
theorem dX12_isPlaced_29 : decode cX12_isPlaced 29 = .ok (.aload_n 0, 1) := by decide +kernel
theorem dX12_isPlaced_30 : decode cX12_isPlaced 30 = .ok (.getfield 57, 3) := by decide +kernel
theorem dX12_isPlaced_33 : decode cX12_isPlaced 33 = .ok (.aload_n 0, 1) := by decide +kernel
theorem dX12_isPlaced_34 : decode cX12_isPlaced 34 = .ok (.getfield 243, 3) := by decide +kernel
theorem dX12_isPlaced_37 : decode cX12_isPlaced 37 = .ok (.iaload, 1) := by decide +kernel
theorem dX12_isPlaced_38 : decode cX12_isPlaced 38 = .ok (.aload_n 0, 1) := by decide +kernel
theorem dX12_isPlaced_39 : decode cX12_isPlaced 39 = .ok (.getfield 182, 3) := by decide +kernel
theorem dX12_isPlaced_42 : decode cX12_isPlaced 42 = .ok (.irem, 1) := by decide +kernel
theorem dX12_isPlaced_43 : decode cX12_isPlaced 43 = .ok (.goto 7, 3) := by decide +kernel
theorem dX12_isPlaced_46 : decode cX12_isPlaced 46 = .ok (.aload_n 0, 1) := by decide +kernel
theorem dX12_isPlaced_47 : decode cX12_isPlaced 47 = .ok (.invokevirtual 260, 3) := by decide +kernel
theorem dX12_isPlaced_50 : decode cX12_isPlaced 50 = .ok (.istore_n 3, 1) := by decide +kernel
theorem dX12_isPlaced_51 : decode cX12_isPlaced 51 = .ok (.aload_n 0, 1) := by decide +kernel
theorem dX12_isPlaced_52 : decode cX12_isPlaced 52 = .ok (.getfield 19, 3) := by decide +kernel
theorem dX12_isPlaced_55 : decode cX12_isPlaced 55 = .ok (.iload_n 1, 1) := by decide +kernel
theorem dX12_isPlaced_56 : decode cX12_isPlaced 56 = .ok (.iaload, 1) := by decide +kernel
theorem dX12_isPlaced_57 : decode cX12_isPlaced 57 = .ok (.iconst 2, 1) := by decide +kernel
theorem dX12_isPlaced_58 : decode cX12_isPlaced 58 = .ok (.if_icmp .ne 12, 3) := by decide +kernel
theorem dX12_isPlaced_61 : decode cX12_isPlaced 61 = .ok (.aload_n 0, 1) := by decide +kernel
theorem dX12_isPlaced_62 : decode cX12_isPlaced 62 = .ok (.invokevirtual 256, 3) := by decide +kernel
theorem dX12_isPlaced_65 : decode cX12_isPlaced 65 = .ok (.ifCond .ne 39, 3) := by decide +kernel
theorem dX12_isPlaced_68 : decode cX12_isPlaced 68 = .ok (.iconst 0, 1) := by decide +kernel
theorem dX12_isPlaced_69 : decode cX12_isPlaced 69 = .ok (.ireturn, 1) := by decide +kernel
theorem dX12_isPlaced_70 : decode cX12_isPlaced 70 = .ok (.iconst 0, 1) := by decide +kernel
theorem dX12_isPlaced_71 : decode cX12_isPlaced 71 = .ok (.istore 4, 2) := by decide +kernel
theorem dX12_isPlaced_73 : decode cX12_isPlaced 73 = .ok (.aload_n 0, 1) := by decide +kernel
theorem dX12_isPlaced_74 : decode cX12_isPlaced 74 = .ok (.iload_n 3, 1) := by decide +kernel
theorem dX12_isPlaced_75 : decode cX12_isPlaced 75 = .ok (.invokevirtual 250, 3) := by decide +kernel
theorem dX12_isPlaced_78 : decode cX12_isPlaced 78 = .ok (.ifCond .ne 26, 3) := by decide +kernel
theorem dX12_isPlaced_81 : decode cX12_isPlaced 81 = .ok (.iload_n 3, 1) := by decide +kernel
theorem dX12_isPlaced_82 : decode cX12_isPlaced 82 = .ok (.iconst 1, 1) := by decide +kernel
theorem dX12_isPlaced_83 : decode cX12_isPlaced 83 = .ok (.iadd, 1) := by decide +kernel
theorem dX12_isPlaced_84 : decode cX12_isPlaced 84 = .ok (.aload_n 0, 1) := by decide +kernel
theorem dX12_isPlaced_85 : decode cX12_isPlaced 85 = .ok (.getfield 182, 3) := by decide +kernel
theorem dX12_isPlaced_88 : decode cX12_isPlaced 88 = .ok (.irem, 1) := by decide +kernel
theorem dX12_isPlaced_89 : decode cX12_isPlaced 89 = .ok (.istore_n 3, 1) := by decide +kernel
theorem dX12_isPlaced_90 : decode cX12_isPlaced 90 = .ok (.iinc 4 1, 3) := by decide +kernel
theorem dX12_isPlaced_93 : decode cX12_isPlaced 93 = .ok (.iload 4, 2) := by decide +kernel
theorem dX12_isPlaced_95 : decode cX12_isPlaced 95 = .ok (.aload_n 0, 1) := by decide +kernel
theorem dX12_isPlaced_96 : decode cX12_isPlaced 96 = .ok (.getfield 182, 3) := by decide +kernel
theorem dX12_isPlaced_99 : decode cX12_isPlaced 99 = .ok (.if_icmp .ne (-26), 3) := by decide +kernel
theorem dX12_isPlaced_102 : decode cX12_isPlaced 102 = .ok (.iconst 0, 1) := by decide +kernel
theorem dX12_isPlaced_103 : decode cX12_isPlaced 103 = .ok (.ireturn, 1) := by decide +kernel
theorem dX12_isPlaced_104 : decode cX12_isPlaced 104 = .ok (.aload_n 0, 1) := by decide +kernel
theorem dX12_isPlaced_105 : decode cX12_isPlaced 105 = .ok (.getfield 57, 3) := by decide +kernel
theorem dX12_isPlaced_108 : decode cX12_isPlaced 108 = .ok (.aload_n 0, 1) := by decide +kernel
theorem dX12_isPlaced_109 : decode cX12_isPlaced 109 = .ok (.getfield 243, 3) := by decide +kernel
theorem dX12_isPlaced_112 : decode cX12_isPlaced 112 = .ok (.dup2, 1) := by decide +kernel
theorem dX12_isPlaced_113 : decode cX12_isPlaced 113 = .ok (.iaload, 1) := by decide +kernel
theorem dX12_isPlaced_114 : decode cX12_isPlaced 114 = .ok (.aload_n 0, 1) := by decide +kernel
theorem dX12_isPlaced_115 : decode cX12_isPlaced 115 = .ok (.getfield 45, 3) := by decide +kernel
theorem dX12_isPlaced_118 : decode cX12_isPlaced 118 = .ok (.aload_n 0, 1) := by decide +kernel
theorem dX12_isPlaced_119 : decode cX12_isPlaced 119 = .ok (.getfield 243, 3) := by decide +kernel
theorem dX12_isPlaced_122 : decode cX12_isPlaced 122 = .ok (.iaload, 1) := by decide +kernel
theorem dX12_isPlaced_123 : decode cX12_isPlaced 123 = .ok (.iconst 1, 1) := by decide +kernel
theorem dX12_isPlaced_124 : decode cX12_isPlaced 124 = .ok (.if_icmp .ne 7, 3) := by decide +kernel
theorem dX12_isPlaced_127 : decode cX12_isPlaced 127 = .ok (.iconst 1, 1) := by decide +kernel
theorem dX12_isPlaced_128 : decode cX12_isPlaced 128 = .ok (.goto 4, 3) := by decide +kernel
theorem dX12_isPlaced_131 : decode cX12_isPlaced 131 = .ok (.iconst 0, 1) := by decide +kernel
theorem dX12_isPlaced_132 : decode cX12_isPlaced 132 = .ok (.iadd, 1) := by decide +kernel
theorem dX12_isPlaced_133 : decode cX12_isPlaced 133 = .ok (.iastore, 1) := by decide +kernel
theorem dX12_isPlaced_134 : decode cX12_isPlaced 134 = .ok (.aload_n 0, 1) := by decide +kernel
theorem dX12_isPlaced_135 : decode cX12_isPlaced 135 = .ok (.getfield 79, 3) := by decide +kernel
theorem dX12_isPlaced_138 : decode cX12_isPlaced 138 = .ok (.bipush 20, 2) := by decide +kernel
theorem dX12_isPlaced_140 : decode cX12_isPlaced 140 = .ok (.aload_n 0, 1) := by decide +kernel
theorem dX12_isPlaced_141 : decode cX12_isPlaced 141 = .ok (.getfield 243, 3) := by decide +kernel
theorem dX12_isPlaced_144 : decode cX12_isPlaced 144 = .ok (.imul, 1) := by decide +kernel
theorem dX12_isPlaced_145 : decode cX12_isPlaced 145 = .ok (.iload_n 1, 1) := by decide +kernel
theorem dX12_isPlaced_146 : decode cX12_isPlaced 146 = .ok (.iadd, 1) := by decide +kernel
theorem dX12_isPlaced_147 : decode cX12_isPlaced 147 = .ok (.iload_n 3, 1) := by decide +kernel
theorem dX12_isPlaced_148 : decode cX12_isPlaced 148 = .ok (.iastore, 1) := by decide +kernel
theorem dX12_isPlaced_149 : decode cX12_isPlaced 149 = .ok (.iconst 1, 1) := by decide +kernel
theorem dX12_isPlaced_150 : decode cX12_isPlaced 150 = .ok (.ireturn, 1) := by decide +kernel
theorem dX12_where_0 : decode cX12_where 0 = .ok (.bipush 20, 2) := by decide +kernel
theorem dX12_where_2 : decode cX12_where 2 = .ok (.aload_n 0, 1) := by decide +kernel
theorem dX12_where_3 : decode cX12_where 3 = .ok (.getfield 243, 3) := by decide +kernel
theorem dX12_where_6 : decode cX12_where 6 = .ok (.imul, 1) := by decide +kernel
theorem dX12_where_7 : decode cX12_where 7 = .ok (.iload_n 1, 1) := by decide +kernel
theorem dX12_where_8 : decode cX12_where 8 = .ok (.iadd, 1) := by decide +kernel
theorem dX12_where_9 : decode cX12_where 9 = .ok (.istore 4, 2) := by decide +kernel
theorem dX12_where_11 : decode cX12_where 11 = .ok (.aload_n 0, 1) := by decide +kernel
theorem dX12_where_12 : decode cX12_where 12 = .ok (.getfield 19, 3) := by decide +kernel
theorem dX12_where_15 : decode cX12_where 15 = .ok (.iload_n 1, 1) := by decide +kernel
theorem dX12_where_16 : decode cX12_where 16 = .ok (.iaload, 1) := by decide +kernel
theorem dX12_where_17 : decode cX12_where 17 = .ok (.iconst 2, 1) := by decide +kernel
theorem dX12_where_18 : decode cX12_where 18 = .ok (.if_icmp .ne 18, 3) := by decide +kernel
theorem dX12_where_21 : decode cX12_where 21 = .ok (.iload_n 2, 1) := by decide +kernel
theorem dX12_where_22 : decode cX12_where 22 = .ok (.aload_n 0, 1) := by decide +kernel
theorem dX12_where_23 : decode cX12_where 23 = .ok (.getfield 79, 3) := by decide +kernel
theorem dX12_where_26 : decode cX12_where 26 = .ok (.iload 4, 2) := by decide +kernel
theorem dX12_where_28 : decode cX12_where 28 = .ok (.iaload, 1) := by decide +kernel
theorem dX12_where_29 : decode cX12_where 29 = .ok (.iadd, 1) := by decide +kernel
theorem dX12_where_30 : decode cX12_where 30 = .ok (.aload_n 0, 1) := by decide +kernel
theorem dX12_where_31 : decode cX12_where 31 = .ok (.getfield 182, 3) := by decide +kernel
theorem dX12_where_34 : decode cX12_where 34 = .ok (.irem, 1) := by decide +kernel
theorem dX12_where_35 : decode cX12_where 35 = .ok (.ireturn, 1) := by decide +kernel
theorem dX12_where_36 : decode cX12_where 36 = .ok (.aload_n 0, 1) := by decide +kernel
theorem dX12_where_37 : decode cX12_where 37 = .ok (.getfield 19, 3) := by decide +kernel
theorem dX12_where_40 : decode cX12_where 40 = .ok (.iload_n 1, 1) := by decide +kernel
theorem dX12_where_41 : decode cX12_where 41 = .ok (.iaload, 1) := by decide +kernel
theorem dX12_where_42 : decode cX12_where 42 = .ok (.iconst 1, 1) := by decide +kernel
theorem dX12_where_43 : decode cX12_where 43 = .ok (.if_icmp .ne 22, 3) := by decide +kernel
theorem dX12_where_46 : decode cX12_where 46 = .ok (.aload_n 0, 1) := by decide +kernel
theorem dX12_where_47 : decode cX12_where 47 = .ok (.getfield 82, 3) := by decide +kernel
theorem dX12_where_50 : decode cX12_where 50 = .ok (.iload 4, 2) := by decide +kernel
theorem dX12_where_52 : decode cX12_where 52 = .ok (.iaload, 1) := by decide +kernel
theorem dX12_where_53 : decode cX12_where 53 = .ok (.iload_n 3, 1) := by decide +kernel
theorem dX12_where_54 : decode cX12_where 54 = .ok (.ishr, 1) := by decide +kernel
theorem dX12_where_55 : decode cX12_where 55 = .ok (.iconst 1, 1) := by decide +kernel
theorem dX12_where_56 : decode cX12_where 56 = .ok (.iand, 1) := by decide +kernel
theorem dX12_where_57 : decode cX12_where 57 = .ok (.iconst 1, 1) := by decide +kernel
theorem dX12_where_58 : decode cX12_where 58 = .ok (.if_icmp .ne 7, 3) := by decide +kernel
theorem dX12_where_61 : decode cX12_where 61 = .ok (.iload_n 3, 1) := by decide +kernel
end
section
theorem dX12_where_62 : decode cX12_where 62 = .ok (.goto 10, 3) := by decide +kernel
theorem dX12_where_65 : decode cX12_where 65 = .ok (.aload_n 0, 1) := by decide +kernel
theorem dX12_where_66 : decode cX12_where 66 = .ok (.getfield 79, 3) := by decide +kernel
theorem dX12_where_69 : decode cX12_where 69 = .ok (.iload 4, 2) := by decide +kernel
theorem dX12_where_71 : decode cX12_where 71 = .ok (.iaload, 1) := by decide +kernel
theorem dX12_where_72 : decode cX12_where 72 = .ok (.ireturn, 1) := by decide +kernel
theorem dX12_crowded_0 : decode cX12_crowded 0 = .ok (.iload_n 1, 1) := by decide +kernel
theorem dX12_crowded_1 : decode cX12_crowded 1 = .ok (.istore_n 3, 1) := by decide +kernel
theorem dX12_crowded_2 : decode cX12_crowded 2 = .ok (.iload_n 3, 1) := by decide +kernel
theorem dX12_crowded_3 : decode cX12_crowded 3 = .ok (.iload_n 2, 1) := by decide +kernel
theorem dX12_crowded_4 : decode cX12_crowded 4 = .ok (.if_icmp .eq 68, 3) := by decide +kernel
theorem dX12_crowded_7 : decode cX12_crowded 7 = .ok (.aload_n 0, 1) := by decide +kernel
theorem dX12_crowded_8 : decode cX12_crowded 8 = .ok (.iload_n 3, 1) := by decide +kernel
theorem dX12_crowded_9 : decode cX12_crowded 9 = .ok (.iload_n 2, 1) := by decide +kernel
theorem dX12_crowded_10 : decode cX12_crowded 10 = .ok (.invokevirtual 223, 3) := by decide +kernel
theorem dX12_crowded_13 : decode cX12_crowded 13 = .ok (.istore 4, 2) := by decide +kernel
theorem dX12_crowded_15 : decode cX12_crowded 15 = .ok (.iload_n 3, 1) := by decide +kernel
theorem dX12_crowded_16 : decode cX12_crowded 16 = .ok (.iload 4, 2) := by decide +kernel
theorem dX12_crowded_18 : decode cX12_crowded 18 = .ok (.if_icmp .ge 12, 3) := by decide +kernel
theorem dX12_crowded_21 : decode cX12_crowded 21 = .ok (.iconst 4, 1) := by decide +kernel
theorem dX12_crowded_22 : decode cX12_crowded 22 = .ok (.iload_n 3, 1) := by decide +kernel
theorem dX12_crowded_23 : decode cX12_crowded 23 = .ok (.imul, 1) := by decide +kernel
theorem dX12_crowded_24 : decode cX12_crowded 24 = .ok (.iload 4, 2) := by decide +kernel
theorem dX12_crowded_26 : decode cX12_crowded 26 = .ok (.iadd, 1) := by decide +kernel
theorem dX12_crowded_27 : decode cX12_crowded 27 = .ok (.goto 9, 3) := by decide +kernel
theorem dX12_crowded_30 : decode cX12_crowded 30 = .ok (.iconst 4, 1) := by decide +kernel
theorem dX12_crowded_31 : decode cX12_crowded 31 = .ok (.iload 4, 2) := by decide +kernel
theorem dX12_crowded_33 : decode cX12_crowded 33 = .ok (.imul, 1) := by decide +kernel
theorem dX12_crowded_34 : decode cX12_crowded 34 = .ok (.iload_n 3, 1) := by decide +kernel
theorem dX12_crowded_35 : decode cX12_crowded 35 = .ok (.iadd, 1) := by decide +kernel
theorem dX12_crowded_36 : decode cX12_crowded 36 = .ok (.istore 5, 2) := by decide +kernel
theorem dX12_crowded_38 : decode cX12_crowded 38 = .ok (.aload_n 0, 1) := by decide +kernel
theorem dX12_crowded_39 : decode cX12_crowded 39 = .ok (.getfield 136, 3) := by decide +kernel
theorem dX12_crowded_42 : decode cX12_crowded 42 = .ok (.bipush 16, 2) := by decide +kernel
theorem dX12_crowded_44 : decode cX12_crowded 44 = .ok (.aload_n 0, 1) := by decide +kernel
theorem dX12_crowded_45 : decode cX12_crowded 45 = .ok (.getfield 243, 3) := by decide +kernel
theorem dX12_crowded_48 : decode cX12_crowded 48 = .ok (.imul, 1) := by decide +kernel
theorem dX12_crowded_49 : decode cX12_crowded 49 = .ok (.iload 5, 2) := by decide +kernel
theorem dX12_crowded_51 : decode cX12_crowded 51 = .ok (.iadd, 1) := by decide +kernel
theorem dX12_crowded_52 : decode cX12_crowded 52 = .ok (.iaload, 1) := by decide +kernel
theorem dX12_crowded_53 : decode cX12_crowded 53 = .ok (.aload_n 0, 1) := by decide +kernel
theorem dX12_crowded_54 : decode cX12_crowded 54 = .ok (.getfield 13, 3) := by decide +kernel
theorem dX12_crowded_57 : decode cX12_crowded 57 = .ok (.iload 5, 2) := by decide +kernel
theorem dX12_crowded_59 : decode cX12_crowded 59 = .ok (.iaload, 1) := by decide +kernel
theorem dX12_crowded_60 : decode cX12_crowded 60 = .ok (.if_icmp .lt 6, 3) := by decide +kernel
theorem dX12_crowded_63 : decode cX12_crowded 63 = .ok (.iload 5, 2) := by decide +kernel
theorem dX12_crowded_65 : decode cX12_crowded 65 = .ok (.ireturn, 1) := by decide +kernel
theorem dX12_crowded_66 : decode cX12_crowded 66 = .ok (.iload 4, 2) := by decide +kernel
theorem dX12_crowded_68 : decode cX12_crowded 68 = .ok (.istore_n 3, 1) := by decide +kernel
theorem dX12_crowded_69 : decode cX12_crowded 69 = .ok (.goto (-67), 3) := by decide +kernel
theorem dX12_crowded_72 : decode cX12_crowded 72 = .ok (.iconst (-1), 1) := by decide +kernel
theorem dX12_crowded_73 : decode cX12_crowded 73 = .ok (.ireturn, 1) := by decide +kernel
theorem dX12_useLinks_0 : decode cX12_useLinks 0 = .ok (.iload_n 1, 1) := by decide +kernel
theorem dX12_useLinks_1 : decode cX12_useLinks 1 = .ok (.istore_n 3, 1) := by decide +kernel
theorem dX12_useLinks_2 : decode cX12_useLinks 2 = .ok (.iload_n 3, 1) := by decide +kernel
theorem dX12_useLinks_3 : decode cX12_useLinks 3 = .ok (.iload_n 2, 1) := by decide +kernel
theorem dX12_useLinks_4 : decode cX12_useLinks 4 = .ok (.if_icmp .eq 70, 3) := by decide +kernel
theorem dX12_useLinks_7 : decode cX12_useLinks 7 = .ok (.aload_n 0, 1) := by decide +kernel
theorem dX12_useLinks_8 : decode cX12_useLinks 8 = .ok (.iload_n 3, 1) := by decide +kernel
theorem dX12_useLinks_9 : decode cX12_useLinks 9 = .ok (.iload_n 2, 1) := by decide +kernel
theorem dX12_useLinks_10 : decode cX12_useLinks 10 = .ok (.invokevirtual 223, 3) := by decide +kernel
theorem dX12_useLinks_13 : decode cX12_useLinks 13 = .ok (.istore 4, 2) := by decide +kernel
theorem dX12_useLinks_15 : decode cX12_useLinks 15 = .ok (.bipush 16, 2) := by decide +kernel
theorem dX12_useLinks_17 : decode cX12_useLinks 17 = .ok (.aload_n 0, 1) := by decide +kernel
theorem dX12_useLinks_18 : decode cX12_useLinks 18 = .ok (.getfield 243, 3) := by decide +kernel
theorem dX12_useLinks_21 : decode cX12_useLinks 21 = .ok (.imul, 1) := by decide +kernel
theorem dX12_useLinks_22 : decode cX12_useLinks 22 = .ok (.iload_n 3, 1) := by decide +kernel
theorem dX12_useLinks_23 : decode cX12_useLinks 23 = .ok (.iload 4, 2) := by decide +kernel
theorem dX12_useLinks_25 : decode cX12_useLinks 25 = .ok (.if_icmp .ge 12, 3) := by decide +kernel
theorem dX12_useLinks_28 : decode cX12_useLinks 28 = .ok (.iconst 4, 1) := by decide +kernel
theorem dX12_useLinks_29 : decode cX12_useLinks 29 = .ok (.iload_n 3, 1) := by decide +kernel
theorem dX12_useLinks_30 : decode cX12_useLinks 30 = .ok (.imul, 1) := by decide +kernel
theorem dX12_useLinks_31 : decode cX12_useLinks 31 = .ok (.iload 4, 2) := by decide +kernel
theorem dX12_useLinks_33 : decode cX12_useLinks 33 = .ok (.iadd, 1) := by decide +kernel
theorem dX12_useLinks_34 : decode cX12_useLinks 34 = .ok (.goto 9, 3) := by decide +kernel
theorem dX12_useLinks_37 : decode cX12_useLinks 37 = .ok (.iconst 4, 1) := by decide +kernel
theorem dX12_useLinks_38 : decode cX12_useLinks 38 = .ok (.iload 4, 2) := by decide +kernel
theorem dX12_useLinks_40 : decode cX12_useLinks 40 = .ok (.imul, 1) := by decide +kernel
theorem dX12_useLinks_41 : decode cX12_useLinks 41 = .ok (.iload_n 3, 1) := by decide +kernel
theorem dX12_useLinks_42 : decode cX12_useLinks 42 = .ok (.iadd, 1) := by decide +kernel
theorem dX12_useLinks_43 : decode cX12_useLinks 43 = .ok (.iadd, 1) := by decide +kernel
theorem dX12_useLinks_44 : decode cX12_useLinks 44 = .ok (.istore 5, 2) := by decide +kernel
theorem dX12_useLinks_46 : decode cX12_useLinks 46 = .ok (.aload_n 0, 1) := by decide +kernel
theorem dX12_useLinks_47 : decode cX12_useLinks 47 = .ok (.getfield 136, 3) := by decide +kernel
theorem dX12_useLinks_50 : decode cX12_useLinks 50 = .ok (.iload 5, 2) := by decide +kernel
theorem dX12_useLinks_52 : decode cX12_useLinks 52 = .ok (.dup2, 1) := by decide +kernel
theorem dX12_useLinks_53 : decode cX12_useLinks 53 = .ok (.iaload, 1) := by decide +kernel
theorem dX12_useLinks_54 : decode cX12_useLinks 54 = .ok (.iconst 1, 1) := by decide +kernel
theorem dX12_useLinks_55 : decode cX12_useLinks 55 = .ok (.iadd, 1) := by decide +kernel
theorem dX12_useLinks_56 : decode cX12_useLinks 56 = .ok (.iastore, 1) := by decide +kernel
theorem dX12_useLinks_57 : decode cX12_useLinks 57 = .ok (.aload_n 0, 1) := by decide +kernel
theorem dX12_useLinks_58 : decode cX12_useLinks 58 = .ok (.getfield 139, 3) := by decide +kernel
theorem dX12_useLinks_61 : decode cX12_useLinks 61 = .ok (.iload 5, 2) := by decide +kernel
theorem dX12_useLinks_63 : decode cX12_useLinks 63 = .ok (.dup2, 1) := by decide +kernel
theorem dX12_useLinks_64 : decode cX12_useLinks 64 = .ok (.iaload, 1) := by decide +kernel
theorem dX12_useLinks_65 : decode cX12_useLinks 65 = .ok (.iconst 1, 1) := by decide +kernel
theorem dX12_useLinks_66 : decode cX12_useLinks 66 = .ok (.iadd, 1) := by decide +kernel
theorem dX12_useLinks_67 : decode cX12_useLinks 67 = .ok (.iastore, 1) := by decide +kernel
theorem dX12_useLinks_68 : decode cX12_useLinks 68 = .ok (.iload 4, 2) := by decide +kernel
theorem dX12_useLinks_70 : decode cX12_useLinks 70 = .ok (.istore_n 3, 1) := by decide +kernel
theorem dX12_useLinks_71 : decode cX12_useLinks 71 = .ok (.goto (-69), 3) := by decide +kernel
theorem dX12_useLinks_74 : decode cX12_useLinks 74 = .ok (.return_, 1) := by decide +kernel
theorem dX12_keepFault_0 : decode cX12_keepFault 0 = .ok (.aload_n 0, 1) := by decide +kernel
theorem dX12_keepFault_1 : decode cX12_keepFault 1 = .ok (.getfield 88, 3) := by decide +kernel
theorem dX12_keepFault_4 : decode cX12_keepFault 4 = .ok (.iload_n 1, 1) := by decide +kernel
theorem dX12_keepFault_5 : decode cX12_keepFault 5 = .ok (.iaload, 1) := by decide +kernel
theorem dX12_keepFault_6 : decode cX12_keepFault 6 = .ok (.iconst 4, 1) := by decide +kernel
theorem dX12_keepFault_7 : decode cX12_keepFault 7 = .ok (.if_icmp .ne 45, 3) := by decide +kernel
theorem dX12_keepFault_10 : decode cX12_keepFault 10 = .ok (.iconst 0, 1) := by decide +kernel
theorem dX12_keepFault_11 : decode cX12_keepFault 11 = .ok (.istore_n 3, 1) := by decide +kernel
theorem dX12_keepFault_12 : decode cX12_keepFault 12 = .ok (.iload_n 3, 1) := by decide +kernel
theorem dX12_keepFault_13 : decode cX12_keepFault 13 = .ok (.iconst 3, 1) := by decide +kernel
theorem dX12_keepFault_14 : decode cX12_keepFault 14 = .ok (.if_icmp .ge 31, 3) := by decide +kernel
theorem dX12_keepFault_17 : decode cX12_keepFault 17 = .ok (.aload_n 0, 1) := by decide +kernel
theorem dX12_keepFault_18 : decode cX12_keepFault 18 = .ok (.getfield 91, 3) := by decide +kernel
theorem dX12_keepFault_21 : decode cX12_keepFault 21 = .ok (.iconst 4, 1) := by decide +kernel
theorem dX12_keepFault_22 : decode cX12_keepFault 22 = .ok (.iload_n 1, 1) := by decide +kernel
theorem dX12_keepFault_23 : decode cX12_keepFault 23 = .ok (.imul, 1) := by decide +kernel
theorem dX12_keepFault_24 : decode cX12_keepFault 24 = .ok (.iload_n 3, 1) := by decide +kernel
theorem dX12_keepFault_25 : decode cX12_keepFault 25 = .ok (.iadd, 1) := by decide +kernel
theorem dX12_keepFault_26 : decode cX12_keepFault 26 = .ok (.aload_n 0, 1) := by decide +kernel
theorem dX12_keepFault_27 : decode cX12_keepFault 27 = .ok (.getfield 91, 3) := by decide +kernel
theorem dX12_keepFault_30 : decode cX12_keepFault 30 = .ok (.iconst 4, 1) := by decide +kernel
theorem dX12_keepFault_31 : decode cX12_keepFault 31 = .ok (.iload_n 1, 1) := by decide +kernel
theorem dX12_keepFault_32 : decode cX12_keepFault 32 = .ok (.imul, 1) := by decide +kernel
theorem dX12_keepFault_33 : decode cX12_keepFault 33 = .ok (.iload_n 3, 1) := by decide +kernel
theorem dX12_keepFault_34 : decode cX12_keepFault 34 = .ok (.iadd, 1) := by decide +kernel
theorem dX12_keepFault_35 : decode cX12_keepFault 35 = .ok (.iconst 1, 1) := by decide +kernel
theorem dX12_keepFault_36 : decode cX12_keepFault 36 = .ok (.iadd, 1) := by decide +kernel
theorem dX12_keepFault_37 : decode cX12_keepFault 37 = .ok (.iaload, 1) := by decide +kernel
theorem dX12_keepFault_38 : decode cX12_keepFault 38 = .ok (.iastore, 1) := by decide +kernel
theorem dX12_keepFault_39 : decode cX12_keepFault 39 = .ok (.iinc 3 1, 3) := by decide +kernel
theorem dX12_keepFault_42 : decode cX12_keepFault 42 = .ok (.goto (-30), 3) := by decide +kernel
theorem dX12_keepFault_45 : decode cX12_keepFault 45 = .ok (.aload_n 0, 1) := by decide +kernel
theorem dX12_keepFault_46 : decode cX12_keepFault 46 = .ok (.getfield 88, 3) := by decide +kernel
theorem dX12_keepFault_49 : decode cX12_keepFault 49 = .ok (.iload_n 1, 1) := by decide +kernel
theorem dX12_keepFault_50 : decode cX12_keepFault 50 = .ok (.iconst 3, 1) := by decide +kernel
theorem dX12_keepFault_51 : decode cX12_keepFault 51 = .ok (.iastore, 1) := by decide +kernel
theorem dX12_keepFault_52 : decode cX12_keepFault 52 = .ok (.aload_n 0, 1) := by decide +kernel
theorem dX12_keepFault_53 : decode cX12_keepFault 53 = .ok (.getfield 91, 3) := by decide +kernel
theorem dX12_keepFault_56 : decode cX12_keepFault 56 = .ok (.iconst 4, 1) := by decide +kernel
theorem dX12_keepFault_57 : decode cX12_keepFault 57 = .ok (.iload_n 1, 1) := by decide +kernel
theorem dX12_keepFault_58 : decode cX12_keepFault 58 = .ok (.imul, 1) := by decide +kernel
theorem dX12_keepFault_59 : decode cX12_keepFault 59 = .ok (.aload_n 0, 1) := by decide +kernel
theorem dX12_keepFault_60 : decode cX12_keepFault 60 = .ok (.getfield 88, 3) := by decide +kernel
theorem dX12_keepFault_63 : decode cX12_keepFault 63 = .ok (.iload_n 1, 1) := by decide +kernel
theorem dX12_keepFault_64 : decode cX12_keepFault 64 = .ok (.iaload, 1) := by decide +kernel
theorem dX12_keepFault_65 : decode cX12_keepFault 65 = .ok (.iadd, 1) := by decide +kernel
theorem dX12_keepFault_66 : decode cX12_keepFault 66 = .ok (.iload_n 2, 1) := by decide +kernel
theorem dX12_keepFault_67 : decode cX12_keepFault 67 = .ok (.iastore, 1) := by decide +kernel
theorem dX12_keepFault_68 : decode cX12_keepFault 68 = .ok (.aload_n 0, 1) := by decide +kernel
theorem dX12_keepFault_69 : decode cX12_keepFault 69 = .ok (.getfield 88, 3) := by decide +kernel
theorem dX12_keepFault_72 : decode cX12_keepFault 72 = .ok (.iload_n 1, 1) := by decide +kernel
theorem dX12_keepFault_73 : decode cX12_keepFault 73 = .ok (.dup2, 1) := by decide +kernel
theorem dX12_keepFault_74 : decode cX12_keepFault 74 = .ok (.iaload, 1) := by decide +kernel
theorem dX12_keepFault_75 : decode cX12_keepFault 75 = .ok (.iconst 1, 1) := by decide +kernel
theorem dX12_keepFault_76 : decode cX12_keepFault 76 = .ok (.iadd, 1) := by decide +kernel
theorem dX12_keepFault_77 : decode cX12_keepFault 77 = .ok (.iastore, 1) := by decide +kernel
theorem dX12_keepFault_78 : decode cX12_keepFault 78 = .ok (.return_, 1) := by decide +kernel
theorem dX12_wanted_0 : decode cX12_wanted 0 = .ok (.iconst 0, 1) := by decide +kernel
theorem dX12_wanted_1 : decode cX12_wanted 1 = .ok (.istore_n 2, 1) := by decide +kernel
theorem dX12_wanted_2 : decode cX12_wanted 2 = .ok (.iconst (-1), 1) := by decide +kernel
theorem dX12_wanted_3 : decode cX12_wanted 3 = .ok (.istore_n 3, 1) := by decide +kernel
theorem dX12_wanted_4 : decode cX12_wanted 4 = .ok (.iconst 0, 1) := by decide +kernel
theorem dX12_wanted_5 : decode cX12_wanted 5 = .ok (.istore 4, 2) := by decide +kernel
theorem dX12_wanted_7 : decode cX12_wanted 7 = .ok (.iload 4, 2) := by decide +kernel
theorem dX12_wanted_9 : decode cX12_wanted 9 = .ok (.aload_n 0, 1) := by decide +kernel
theorem dX12_wanted_10 : decode cX12_wanted 10 = .ok (.getfield 182, 3) := by decide +kernel
theorem dX12_wanted_13 : decode cX12_wanted 13 = .ok (.if_icmp .ge 84, 3) := by decide +kernel
theorem dX12_wanted_16 : decode cX12_wanted 16 = .ok (.iconst 0, 1) := by decide +kernel
theorem dX12_wanted_17 : decode cX12_wanted 17 = .ok (.istore 5, 2) := by decide +kernel
theorem dX12_wanted_19 : decode cX12_wanted 19 = .ok (.iconst 0, 1) := by decide +kernel
theorem dX12_wanted_20 : decode cX12_wanted 20 = .ok (.istore 6, 2) := by decide +kernel
theorem dX12_wanted_22 : decode cX12_wanted 22 = .ok (.iload 6, 2) := by decide +kernel
theorem dX12_wanted_24 : decode cX12_wanted 24 = .ok (.aload_n 0, 1) := by decide +kernel
theorem dX12_wanted_25 : decode cX12_wanted 25 = .ok (.getfield 88, 3) := by decide +kernel
theorem dX12_wanted_28 : decode cX12_wanted 28 = .ok (.iload_n 1, 1) := by decide +kernel
theorem dX12_wanted_29 : decode cX12_wanted 29 = .ok (.iaload, 1) := by decide +kernel
theorem dX12_wanted_30 : decode cX12_wanted 30 = .ok (.if_icmp .ge 35, 3) := by decide +kernel
theorem dX12_wanted_33 : decode cX12_wanted 33 = .ok (.iload 5, 2) := by decide +kernel
theorem dX12_wanted_35 : decode cX12_wanted 35 = .ok (.aload_n 0, 1) := by decide +kernel
theorem dX12_wanted_36 : decode cX12_wanted 36 = .ok (.getfield 91, 3) := by decide +kernel
theorem dX12_wanted_39 : decode cX12_wanted 39 = .ok (.iconst 4, 1) := by decide +kernel
theorem dX12_wanted_40 : decode cX12_wanted 40 = .ok (.iload_n 1, 1) := by decide +kernel
theorem dX12_wanted_41 : decode cX12_wanted 41 = .ok (.imul, 1) := by decide +kernel
theorem dX12_wanted_42 : decode cX12_wanted 42 = .ok (.iload 6, 2) := by decide +kernel
theorem dX12_wanted_44 : decode cX12_wanted 44 = .ok (.iadd, 1) := by decide +kernel
theorem dX12_wanted_45 : decode cX12_wanted 45 = .ok (.iaload, 1) := by decide +kernel
theorem dX12_wanted_46 : decode cX12_wanted 46 = .ok (.iload 4, 2) := by decide +kernel
theorem dX12_wanted_48 : decode cX12_wanted 48 = .ok (.if_icmp .ne 7, 3) := by decide +kernel
theorem dX12_wanted_51 : decode cX12_wanted 51 = .ok (.iconst 1, 1) := by decide +kernel
theorem dX12_wanted_52 : decode cX12_wanted 52 = .ok (.goto 4, 3) := by decide +kernel
theorem dX12_wanted_55 : decode cX12_wanted 55 = .ok (.iconst 0, 1) := by decide +kernel
theorem dX12_wanted_56 : decode cX12_wanted 56 = .ok (.iadd, 1) := by decide +kernel
theorem dX12_wanted_57 : decode cX12_wanted 57 = .ok (.istore 5, 2) := by decide +kernel
theorem dX12_wanted_59 : decode cX12_wanted 59 = .ok (.iinc 6 1, 3) := by decide +kernel
theorem dX12_wanted_62 : decode cX12_wanted 62 = .ok (.goto (-40), 3) := by decide +kernel
theorem dX12_wanted_65 : decode cX12_wanted 65 = .ok (.iload 5, 2) := by decide +kernel
theorem dX12_wanted_67 : decode cX12_wanted 67 = .ok (.iload_n 3, 1) := by decide +kernel
theorem dX12_wanted_68 : decode cX12_wanted 68 = .ok (.if_icmp .le 8, 3) := by decide +kernel
theorem dX12_wanted_71 : decode cX12_wanted 71 = .ok (.iload 4, 2) := by decide +kernel
theorem dX12_wanted_73 : decode cX12_wanted 73 = .ok (.goto 4, 3) := by decide +kernel
theorem dX12_wanted_76 : decode cX12_wanted 76 = .ok (.iload_n 2, 1) := by decide +kernel
theorem dX12_wanted_77 : decode cX12_wanted 77 = .ok (.istore_n 2, 1) := by decide +kernel
theorem dX12_wanted_78 : decode cX12_wanted 78 = .ok (.iload 5, 2) := by decide +kernel
theorem dX12_wanted_80 : decode cX12_wanted 80 = .ok (.iload_n 3, 1) := by decide +kernel
theorem dX12_wanted_81 : decode cX12_wanted 81 = .ok (.if_icmp .le 8, 3) := by decide +kernel
theorem dX12_wanted_84 : decode cX12_wanted 84 = .ok (.iload 5, 2) := by decide +kernel
theorem dX12_wanted_86 : decode cX12_wanted 86 = .ok (.goto 4, 3) := by decide +kernel
theorem dX12_wanted_89 : decode cX12_wanted 89 = .ok (.iload_n 3, 1) := by decide +kernel
theorem dX12_wanted_90 : decode cX12_wanted 90 = .ok (.istore_n 3, 1) := by decide +kernel
theorem dX12_wanted_91 : decode cX12_wanted 91 = .ok (.iinc 4 1, 3) := by decide +kernel
theorem dX12_wanted_94 : decode cX12_wanted 94 = .ok (.goto (-87), 3) := by decide +kernel
theorem dX12_wanted_97 : decode cX12_wanted 97 = .ok (.iload_n 2, 1) := by decide +kernel
theorem dX12_wanted_98 : decode cX12_wanted 98 = .ok (.ireturn, 1) := by decide +kernel
theorem dX12_pays_0 : decode cX12_pays 0 = .ok (.iconst 0, 1) := by decide +kernel
theorem dX12_pays_1 : decode cX12_pays 1 = .ok (.istore_n 3, 1) := by decide +kernel
theorem dX12_pays_2 : decode cX12_pays 2 = .ok (.iconst 1, 1) := by decide +kernel
theorem dX12_pays_3 : decode cX12_pays 3 = .ok (.istore 4, 2) := by decide +kernel
theorem dX12_pays_5 : decode cX12_pays 5 = .ok (.iconst 0, 1) := by decide +kernel
theorem dX12_pays_6 : decode cX12_pays 6 = .ok (.istore 5, 2) := by decide +kernel
theorem dX12_pays_8 : decode cX12_pays 8 = .ok (.iload 5, 2) := by decide +kernel
theorem dX12_pays_10 : decode cX12_pays 10 = .ok (.aload_n 0, 1) := by decide +kernel
theorem dX12_pays_11 : decode cX12_pays 11 = .ok (.getfield 88, 3) := by decide +kernel
theorem dX12_pays_14 : decode cX12_pays 14 = .ok (.iload_n 1, 1) := by decide +kernel
theorem dX12_pays_15 : decode cX12_pays 15 = .ok (.iaload, 1) := by decide +kernel
theorem dX12_pays_16 : decode cX12_pays 16 = .ok (.if_icmp .ge 90, 3) := by decide +kernel
theorem dX12_pays_19 : decode cX12_pays 19 = .ok (.aload_n 0, 1) := by decide +kernel
theorem dX12_pays_20 : decode cX12_pays 20 = .ok (.getfield 91, 3) := by decide +kernel
theorem dX12_pays_23 : decode cX12_pays 23 = .ok (.iconst 4, 1) := by decide +kernel
theorem dX12_pays_24 : decode cX12_pays 24 = .ok (.iload_n 1, 1) := by decide +kernel
theorem dX12_pays_25 : decode cX12_pays 25 = .ok (.imul, 1) := by decide +kernel
theorem dX12_pays_26 : decode cX12_pays 26 = .ok (.iload 5, 2) := by decide +kernel
theorem dX12_pays_28 : decode cX12_pays 28 = .ok (.iadd, 1) := by decide +kernel
theorem dX12_pays_29 : decode cX12_pays 29 = .ok (.iaload, 1) := by decide +kernel
theorem dX12_pays_30 : decode cX12_pays 30 = .ok (.istore 6, 2) := by decide +kernel
theorem dX12_pays_32 : decode cX12_pays 32 = .ok (.iload 4, 2) := by decide +kernel
theorem dX12_pays_34 : decode cX12_pays 34 = .ok (.ifCond .eq 32, 3) := by decide +kernel
theorem dX12_pays_37 : decode cX12_pays 37 = .ok (.aload_n 0, 1) := by decide +kernel
theorem dX12_pays_38 : decode cX12_pays 38 = .ok (.iload 6, 2) := by decide +kernel
theorem dX12_pays_40 : decode cX12_pays 40 = .ok (.aload_n 0, 1) := by decide +kernel
theorem dX12_pays_41 : decode cX12_pays 41 = .ok (.getfield 79, 3) := by decide +kernel
theorem dX12_pays_44 : decode cX12_pays 44 = .ok (.iload_n 1, 1) := by decide +kernel
theorem dX12_pays_45 : decode cX12_pays 45 = .ok (.iaload, 1) := by decide +kernel
theorem dX12_pays_46 : decode cX12_pays 46 = .ok (.invokevirtual 220, 3) := by decide +kernel
theorem dX12_pays_49 : decode cX12_pays 49 = .ok (.ifCond .eq 17, 3) := by decide +kernel
theorem dX12_pays_52 : decode cX12_pays 52 = .ok (.aload_n 0, 1) := by decide +kernel
theorem dX12_pays_53 : decode cX12_pays 53 = .ok (.iload 6, 2) := by decide +kernel
theorem dX12_pays_55 : decode cX12_pays 55 = .ok (.iload_n 2, 1) := by decide +kernel
theorem dX12_pays_56 : decode cX12_pays 56 = .ok (.invokevirtual 220, 3) := by decide +kernel
theorem dX12_pays_59 : decode cX12_pays 59 = .ok (.ifCond .eq 7, 3) := by decide +kernel
theorem dX12_pays_62 : decode cX12_pays 62 = .ok (.iconst 1, 1) := by decide +kernel
theorem dX12_pays_63 : decode cX12_pays 63 = .ok (.goto 4, 3) := by decide +kernel
theorem dX12_pays_66 : decode cX12_pays 66 = .ok (.iconst 0, 1) := by decide +kernel
theorem dX12_pays_67 : decode cX12_pays 67 = .ok (.istore 4, 2) := by decide +kernel
theorem dX12_pays_69 : decode cX12_pays 69 = .ok (.iload_n 3, 1) := by decide +kernel
theorem dX12_pays_70 : decode cX12_pays 70 = .ok (.aload_n 0, 1) := by decide +kernel
theorem dX12_pays_71 : decode cX12_pays 71 = .ok (.getfield 16, 3) := by decide +kernel
theorem dX12_pays_74 : decode cX12_pays 74 = .ok (.iconst 4, 1) := by decide +kernel
theorem dX12_pays_75 : decode cX12_pays 75 = .ok (.iload 6, 2) := by decide +kernel
theorem dX12_pays_77 : decode cX12_pays 77 = .ok (.imul, 1) := by decide +kernel
theorem dX12_pays_78 : decode cX12_pays 78 = .ok (.aload_n 0, 1) := by decide +kernel
theorem dX12_pays_79 : decode cX12_pays 79 = .ok (.getfield 79, 3) := by decide +kernel
theorem dX12_pays_82 : decode cX12_pays 82 = .ok (.iload_n 1, 1) := by decide +kernel
theorem dX12_pays_83 : decode cX12_pays 83 = .ok (.iaload, 1) := by decide +kernel
theorem dX12_pays_84 : decode cX12_pays 84 = .ok (.iadd, 1) := by decide +kernel
theorem dX12_pays_85 : decode cX12_pays 85 = .ok (.iaload, 1) := by decide +kernel
theorem dX12_pays_86 : decode cX12_pays 86 = .ok (.aload_n 0, 1) := by decide +kernel
theorem dX12_pays_87 : decode cX12_pays 87 = .ok (.getfield 16, 3) := by decide +kernel
theorem dX12_pays_90 : decode cX12_pays 90 = .ok (.iconst 4, 1) := by decide +kernel
theorem dX12_pays_91 : decode cX12_pays 91 = .ok (.iload 6, 2) := by decide +kernel
theorem dX12_pays_93 : decode cX12_pays 93 = .ok (.imul, 1) := by decide +kernel
theorem dX12_pays_94 : decode cX12_pays 94 = .ok (.iload_n 2, 1) := by decide +kernel
theorem dX12_pays_95 : decode cX12_pays 95 = .ok (.iadd, 1) := by decide +kernel
theorem dX12_pays_96 : decode cX12_pays 96 = .ok (.iaload, 1) := by decide +kernel
theorem dX12_pays_97 : decode cX12_pays 97 = .ok (.isub, 1) := by decide +kernel
theorem dX12_pays_98 : decode cX12_pays 98 = .ok (.iadd, 1) := by decide +kernel
theorem dX12_pays_99 : decode cX12_pays 99 = .ok (.istore_n 3, 1) := by decide +kernel
theorem dX12_pays_100 : decode cX12_pays 100 = .ok (.iinc 5 1, 3) := by decide +kernel
theorem dX12_pays_103 : decode cX12_pays 103 = .ok (.goto (-95), 3) := by decide +kernel
theorem dX12_pays_106 : decode cX12_pays 106 = .ok (.iload 4, 2) := by decide +kernel
theorem dX12_pays_108 : decode cX12_pays 108 = .ok (.ifCond .eq 25, 3) := by decide +kernel
theorem dX12_pays_111 : decode cX12_pays 111 = .ok (.iload_n 3, 1) := by decide +kernel
theorem dX12_pays_112 : decode cX12_pays 112 = .ok (.aload_n 0, 1) := by decide +kernel
theorem dX12_pays_113 : decode cX12_pays 113 = .ok (.getfield 51, 3) := by decide +kernel
theorem dX12_pays_116 : decode cX12_pays 116 = .ok (.aload_n 0, 1) := by decide +kernel
theorem dX12_pays_117 : decode cX12_pays 117 = .ok (.getfield 243, 3) := by decide +kernel
theorem dX12_pays_120 : decode cX12_pays 120 = .ok (.iaload, 1) := by decide +kernel
theorem dX12_pays_121 : decode cX12_pays 121 = .ok (.imul, 1) := by decide +kernel
theorem dX12_pays_122 : decode cX12_pays 122 = .ok (.aload_n 0, 1) := by decide +kernel
theorem dX12_pays_123 : decode cX12_pays 123 = .ok (.getfield 42, 3) := by decide +kernel
theorem dX12_pays_126 : decode cX12_pays 126 = .ok (.if_icmp .le 7, 3) := by decide +kernel
theorem dX12_pays_129 : decode cX12_pays 129 = .ok (.iconst 1, 1) := by decide +kernel
theorem dX12_pays_130 : decode cX12_pays 130 = .ok (.goto 4, 3) := by decide +kernel
theorem dX12_pays_133 : decode cX12_pays 133 = .ok (.iconst 0, 1) := by decide +kernel
theorem dX12_pays_134 : decode cX12_pays 134 = .ok (.ireturn, 1) := by decide +kernel
theorem dX12_faulted_0 : decode cX12_faulted 0 = .ok (.bipush 20, 2) := by decide +kernel
theorem dX12_faulted_2 : decode cX12_faulted 2 = .ok (.aload_n 0, 1) := by decide +kernel
theorem dX12_faulted_3 : decode cX12_faulted 3 = .ok (.getfield 243, 3) := by decide +kernel
theorem dX12_faulted_6 : decode cX12_faulted 6 = .ok (.imul, 1) := by decide +kernel
theorem dX12_faulted_7 : decode cX12_faulted 7 = .ok (.iload_n 1, 1) := by decide +kernel
theorem dX12_faulted_8 : decode cX12_faulted 8 = .ok (.iadd, 1) := by decide +kernel
theorem dX12_faulted_9 : decode cX12_faulted 9 = .ok (.istore_n 3, 1) := by decide +kernel
theorem dX12_faulted_10 : decode cX12_faulted 10 = .ok (.aload_n 0, 1) := by decide +kernel
theorem dX12_faulted_11 : decode cX12_faulted 11 = .ok (.getfield 85, 3) := by decide +kernel
theorem dX12_faulted_14 : decode cX12_faulted 14 = .ok (.iload_n 3, 1) := by decide +kernel
theorem dX12_faulted_15 : decode cX12_faulted 15 = .ok (.iconst 0, 1) := by decide +kernel
theorem dX12_faulted_16 : decode cX12_faulted 16 = .ok (.bastore, 1) := by decide +kernel
theorem dX12_faulted_17 : decode cX12_faulted 17 = .ok (.aload_n 0, 1) := by decide +kernel
theorem dX12_faulted_18 : decode cX12_faulted 18 = .ok (.iconst 1, 1) := by decide +kernel
theorem dX12_faulted_19 : decode cX12_faulted 19 = .ok (.putfield 264, 3) := by decide +kernel
theorem dX12_faulted_22 : decode cX12_faulted 22 = .ok (.aload_n 0, 1) := by decide +kernel
theorem dX12_faulted_23 : decode cX12_faulted 23 = .ok (.getfield 67, 3) := by decide +kernel
theorem dX12_faulted_26 : decode cX12_faulted 26 = .ok (.aload_n 0, 1) := by decide +kernel
theorem dX12_faulted_27 : decode cX12_faulted 27 = .ok (.getfield 243, 3) := by decide +kernel
theorem dX12_faulted_30 : decode cX12_faulted 30 = .ok (.dup2, 1) := by decide +kernel
theorem dX12_faulted_31 : decode cX12_faulted 31 = .ok (.iaload, 1) := by decide +kernel
theorem dX12_faulted_32 : decode cX12_faulted 32 = .ok (.iconst 1, 1) := by decide +kernel
theorem dX12_faulted_33 : decode cX12_faulted 33 = .ok (.iadd, 1) := by decide +kernel
theorem dX12_faulted_34 : decode cX12_faulted 34 = .ok (.iastore, 1) := by decide +kernel
theorem dX12_faulted_35 : decode cX12_faulted 35 = .ok (.aload_n 0, 1) := by decide +kernel
theorem dX12_faulted_36 : decode cX12_faulted 36 = .ok (.iload_n 3, 1) := by decide +kernel
theorem dX12_faulted_37 : decode cX12_faulted 37 = .ok (.iload_n 2, 1) := by decide +kernel
theorem dX12_faulted_38 : decode cX12_faulted 38 = .ok (.invokevirtual 268, 3) := by decide +kernel
theorem dX12_faulted_41 : decode cX12_faulted 41 = .ok (.aload_n 0, 1) := by decide +kernel
theorem dX12_faulted_42 : decode cX12_faulted 42 = .ok (.iload_n 3, 1) := by decide +kernel
theorem dX12_faulted_43 : decode cX12_faulted 43 = .ok (.invokevirtual 272, 3) := by decide +kernel
theorem dX12_faulted_46 : decode cX12_faulted 46 = .ok (.istore 4, 2) := by decide +kernel
theorem dX12_faulted_48 : decode cX12_faulted 48 = .ok (.aload_n 0, 1) := by decide +kernel
theorem dX12_faulted_49 : decode cX12_faulted 49 = .ok (.getfield 19, 3) := by decide +kernel
theorem dX12_faulted_52 : decode cX12_faulted 52 = .ok (.iload_n 1, 1) := by decide +kernel
theorem dX12_faulted_53 : decode cX12_faulted 53 = .ok (.iaload, 1) := by decide +kernel
theorem dX12_faulted_54 : decode cX12_faulted 54 = .ok (.ifCond .ne 79, 3) := by decide +kernel
theorem dX12_faulted_57 : decode cX12_faulted 57 = .ok (.iload 4, 2) := by decide +kernel
theorem dX12_faulted_59 : decode cX12_faulted 59 = .ok (.aload_n 0, 1) := by decide +kernel
theorem dX12_faulted_60 : decode cX12_faulted 60 = .ok (.getfield 79, 3) := by decide +kernel
theorem dX12_faulted_63 : decode cX12_faulted 63 = .ok (.iload_n 3, 1) := by decide +kernel
theorem dX12_faulted_64 : decode cX12_faulted 64 = .ok (.iaload, 1) := by decide +kernel
theorem dX12_faulted_65 : decode cX12_faulted 65 = .ok (.if_icmp .eq 68, 3) := by decide +kernel
theorem dX12_faulted_68 : decode cX12_faulted 68 = .ok (.aload_n 0, 1) := by decide +kernel
theorem dX12_faulted_69 : decode cX12_faulted 69 = .ok (.iload_n 3, 1) := by decide +kernel
theorem dX12_faulted_70 : decode cX12_faulted 70 = .ok (.iload 4, 2) := by decide +kernel
theorem dX12_faulted_72 : decode cX12_faulted 72 = .ok (.invokevirtual 275, 3) := by decide +kernel
theorem dX12_faulted_75 : decode cX12_faulted 75 = .ok (.ifCond .eq 58, 3) := by decide +kernel
theorem dX12_faulted_78 : decode cX12_faulted 78 = .ok (.aload_n 0, 1) := by decide +kernel
theorem dX12_faulted_79 : decode cX12_faulted 79 = .ok (.iload 4, 2) := by decide +kernel
theorem dX12_faulted_81 : decode cX12_faulted 81 = .ok (.invokevirtual 250, 3) := by decide +kernel
theorem dX12_faulted_84 : decode cX12_faulted 84 = .ok (.ifCond .eq 49, 3) := by decide +kernel
theorem dX12_faulted_87 : decode cX12_faulted 87 = .ok (.aload_n 0, 1) := by decide +kernel
theorem dX12_faulted_88 : decode cX12_faulted 88 = .ok (.getfield 79, 3) := by decide +kernel
theorem dX12_faulted_91 : decode cX12_faulted 91 = .ok (.iload_n 3, 1) := by decide +kernel
theorem dX12_faulted_92 : decode cX12_faulted 92 = .ok (.iload 4, 2) := by decide +kernel
theorem dX12_faulted_94 : decode cX12_faulted 94 = .ok (.iastore, 1) := by decide +kernel
theorem dX12_faulted_95 : decode cX12_faulted 95 = .ok (.aload_n 0, 1) := by decide +kernel
theorem dX12_faulted_96 : decode cX12_faulted 96 = .ok (.getfield 94, 3) := by decide +kernel
theorem dX12_faulted_99 : decode cX12_faulted 99 = .ok (.iload_n 3, 1) := by decide +kernel
theorem dX12_faulted_100 : decode cX12_faulted 100 = .ok (.dup2, 1) := by decide +kernel
theorem dX12_faulted_101 : decode cX12_faulted 101 = .ok (.iaload, 1) := by decide +kernel
theorem dX12_faulted_102 : decode cX12_faulted 102 = .ok (.iconst 1, 1) := by decide +kernel
theorem dX12_faulted_103 : decode cX12_faulted 103 = .ok (.iadd, 1) := by decide +kernel
theorem dX12_faulted_104 : decode cX12_faulted 104 = .ok (.iastore, 1) := by decide +kernel
theorem dX12_faulted_105 : decode cX12_faulted 105 = .ok (.aload_n 0, 1) := by decide +kernel
theorem dX12_faulted_106 : decode cX12_faulted 106 = .ok (.getfield 70, 3) := by decide +kernel
theorem dX12_faulted_109 : decode cX12_faulted 109 = .ok (.aload_n 0, 1) := by decide +kernel
theorem dX12_faulted_110 : decode cX12_faulted 110 = .ok (.getfield 243, 3) := by decide +kernel
theorem dX12_faulted_113 : decode cX12_faulted 113 = .ok (.dup2, 1) := by decide +kernel
theorem dX12_faulted_114 : decode cX12_faulted 114 = .ok (.iaload, 1) := by decide +kernel
theorem dX12_faulted_115 : decode cX12_faulted 115 = .ok (.iconst 1, 1) := by decide +kernel
theorem dX12_faulted_116 : decode cX12_faulted 116 = .ok (.iadd, 1) := by decide +kernel
theorem dX12_faulted_117 : decode cX12_faulted 117 = .ok (.iastore, 1) := by decide +kernel
theorem dX12_faulted_118 : decode cX12_faulted 118 = .ok (.aload_n 0, 1) := by decide +kernel
theorem dX12_faulted_119 : decode cX12_faulted 119 = .ok (.iconst 1, 1) := by decide +kernel
theorem dX12_faulted_120 : decode cX12_faulted 120 = .ok (.putfield 278, 3) := by decide +kernel
theorem dX12_faulted_123 : decode cX12_faulted 123 = .ok (.aload_n 0, 1) := by decide +kernel
theorem dX12_faulted_124 : decode cX12_faulted 124 = .ok (.getfield 38, 3) := by decide +kernel
theorem dX12_faulted_127 : decode cX12_faulted 127 = .ok (.aload_n 0, 1) := by decide +kernel
theorem dX12_faulted_128 : decode cX12_faulted 128 = .ok (.getfield 42, 3) := by decide +kernel
theorem dX12_faulted_131 : decode cX12_faulted 131 = .ok (.iadd, 1) := by decide +kernel
theorem dX12_faulted_132 : decode cX12_faulted 132 = .ok (.ireturn, 1) := by decide +kernel
theorem dX12_faulted_133 : decode cX12_faulted 133 = .ok (.aload_n 0, 1) := by decide +kernel
theorem dX12_faulted_134 : decode cX12_faulted 134 = .ok (.getfield 38, 3) := by decide +kernel
theorem dX12_faulted_137 : decode cX12_faulted 137 = .ok (.ireturn, 1) := by decide +kernel
theorem dX12_countBits_0 : decode cX12_countBits 0 = .ok (.iload_n 1, 1) := by decide +kernel
theorem dX12_countBits_1 : decode cX12_countBits 1 = .ok (.iconst 1, 1) := by decide +kernel
theorem dX12_countBits_2 : decode cX12_countBits 2 = .ok (.iand, 1) := by decide +kernel
theorem dX12_countBits_3 : decode cX12_countBits 3 = .ok (.iload_n 1, 1) := by decide +kernel
theorem dX12_countBits_4 : decode cX12_countBits 4 = .ok (.iconst 1, 1) := by decide +kernel
theorem dX12_countBits_5 : decode cX12_countBits 5 = .ok (.ishr, 1) := by decide +kernel
theorem dX12_countBits_6 : decode cX12_countBits 6 = .ok (.iconst 1, 1) := by decide +kernel
theorem dX12_countBits_7 : decode cX12_countBits 7 = .ok (.iand, 1) := by decide +kernel
theorem dX12_countBits_8 : decode cX12_countBits 8 = .ok (.iadd, 1) := by decide +kernel
theorem dX12_countBits_9 : decode cX12_countBits 9 = .ok (.iload_n 1, 1) := by decide +kernel
theorem dX12_countBits_10 : decode cX12_countBits 10 = .ok (.iconst 2, 1) := by decide +kernel
theorem dX12_countBits_11 : decode cX12_countBits 11 = .ok (.ishr, 1) := by decide +kernel
theorem dX12_countBits_12 : decode cX12_countBits 12 = .ok (.iconst 1, 1) := by decide +kernel
theorem dX12_countBits_13 : decode cX12_countBits 13 = .ok (.iand, 1) := by decide +kernel
theorem dX12_countBits_14 : decode cX12_countBits 14 = .ok (.iadd, 1) := by decide +kernel
theorem dX12_countBits_15 : decode cX12_countBits 15 = .ok (.iload_n 1, 1) := by decide +kernel
theorem dX12_countBits_16 : decode cX12_countBits 16 = .ok (.iconst 3, 1) := by decide +kernel
theorem dX12_countBits_17 : decode cX12_countBits 17 = .ok (.ishr, 1) := by decide +kernel
theorem dX12_countBits_18 : decode cX12_countBits 18 = .ok (.iconst 1, 1) := by decide +kernel
theorem dX12_countBits_19 : decode cX12_countBits 19 = .ok (.iand, 1) := by decide +kernel
theorem dX12_countBits_20 : decode cX12_countBits 20 = .ok (.iadd, 1) := by decide +kernel
theorem dX12_countBits_21 : decode cX12_countBits 21 = .ok (.ireturn, 1) := by decide +kernel
theorem dX12_copied_0 : decode cX12_copied 0 = .ok (.bipush 20, 2) := by decide +kernel
theorem dX12_copied_2 : decode cX12_copied 2 = .ok (.aload_n 0, 1) := by decide +kernel
theorem dX12_copied_3 : decode cX12_copied 3 = .ok (.getfield 243, 3) := by decide +kernel
theorem dX12_copied_6 : decode cX12_copied 6 = .ok (.imul, 1) := by decide +kernel
theorem dX12_copied_7 : decode cX12_copied 7 = .ok (.iload_n 1, 1) := by decide +kernel
theorem dX12_copied_8 : decode cX12_copied 8 = .ok (.iadd, 1) := by decide +kernel
theorem dX12_copied_9 : decode cX12_copied 9 = .ok (.istore 4, 2) := by decide +kernel
theorem dX12_copied_11 : decode cX12_copied 11 = .ok (.aload_n 0, 1) := by decide +kernel
theorem dX12_copied_12 : decode cX12_copied 12 = .ok (.getfield 79, 3) := by decide +kernel
theorem dX12_copied_15 : decode cX12_copied 15 = .ok (.iload 4, 2) := by decide +kernel
theorem dX12_copied_17 : decode cX12_copied 17 = .ok (.iaload, 1) := by decide +kernel
theorem dX12_copied_18 : decode cX12_copied 18 = .ok (.iload_n 2, 1) := by decide +kernel
theorem dX12_copied_19 : decode cX12_copied 19 = .ok (.if_icmp .ne 7, 3) := by decide +kernel
theorem dX12_copied_22 : decode cX12_copied 22 = .ok (.iconst 1, 1) := by decide +kernel
theorem dX12_copied_23 : decode cX12_copied 23 = .ok (.goto 4, 3) := by decide +kernel
theorem dX12_copied_26 : decode cX12_copied 26 = .ok (.iconst 0, 1) := by decide +kernel
theorem dX12_copied_27 : decode cX12_copied 27 = .ok (.istore 5, 2) := by decide +kernel
theorem dX12_copied_29 : decode cX12_copied 29 = .ok (.aload_n 0, 1) := by decide +kernel
theorem dX12_copied_30 : decode cX12_copied 30 = .ok (.getfield 82, 3) := by decide +kernel
theorem dX12_copied_33 : decode cX12_copied 33 = .ok (.iload 4, 2) := by decide +kernel
theorem dX12_copied_35 : decode cX12_copied 35 = .ok (.iaload, 1) := by decide +kernel
theorem dX12_copied_36 : decode cX12_copied 36 = .ok (.iload_n 2, 1) := by decide +kernel
theorem dX12_copied_37 : decode cX12_copied 37 = .ok (.ishr, 1) := by decide +kernel
theorem dX12_copied_38 : decode cX12_copied 38 = .ok (.iconst 1, 1) := by decide +kernel
theorem dX12_copied_39 : decode cX12_copied 39 = .ok (.iand, 1) := by decide +kernel
theorem dX12_copied_40 : decode cX12_copied 40 = .ok (.iconst 1, 1) := by decide +kernel
theorem dX12_copied_41 : decode cX12_copied 41 = .ok (.if_icmp .ne 7, 3) := by decide +kernel
theorem dX12_copied_44 : decode cX12_copied 44 = .ok (.iconst 1, 1) := by decide +kernel
theorem dX12_copied_45 : decode cX12_copied 45 = .ok (.goto 4, 3) := by decide +kernel
theorem dX12_copied_48 : decode cX12_copied 48 = .ok (.iconst 0, 1) := by decide +kernel
theorem dX12_copied_49 : decode cX12_copied 49 = .ok (.istore 6, 2) := by decide +kernel
theorem dX12_copied_51 : decode cX12_copied 51 = .ok (.iload_n 3, 1) := by decide +kernel
theorem dX12_copied_52 : decode cX12_copied 52 = .ok (.ifCond .ne 38, 3) := by decide +kernel
theorem dX12_copied_55 : decode cX12_copied 55 = .ok (.iload 5, 2) := by decide +kernel
theorem dX12_copied_57 : decode cX12_copied 57 = .ok (.ifCond .ne 16, 3) := by decide +kernel
theorem dX12_copied_60 : decode cX12_copied 60 = .ok (.iload 6, 2) := by decide +kernel
theorem dX12_copied_62 : decode cX12_copied 62 = .ok (.ifCond .ne 11, 3) := by decide +kernel
theorem dX12_copied_65 : decode cX12_copied 65 = .ok (.aload_n 0, 1) := by decide +kernel
theorem dX12_copied_66 : decode cX12_copied 66 = .ok (.iload_n 2, 1) := by decide +kernel
theorem dX12_copied_67 : decode cX12_copied 67 = .ok (.invokevirtual 250, 3) := by decide +kernel
theorem dX12_copied_70 : decode cX12_copied 70 = .ok (.ifCond .ne 5, 3) := by decide +kernel
theorem dX12_copied_73 : decode cX12_copied 73 = .ok (.iconst 0, 1) := by decide +kernel
theorem dX12_copied_74 : decode cX12_copied 74 = .ok (.ireturn, 1) := by decide +kernel
theorem dX12_copied_75 : decode cX12_copied 75 = .ok (.aload_n 0, 1) := by decide +kernel
theorem dX12_copied_76 : decode cX12_copied 76 = .ok (.getfield 82, 3) := by decide +kernel
theorem dX12_copied_79 : decode cX12_copied 79 = .ok (.iload 4, 2) := by decide +kernel
theorem dX12_copied_81 : decode cX12_copied 81 = .ok (.dup2, 1) := by decide +kernel
theorem dX12_copied_82 : decode cX12_copied 82 = .ok (.iaload, 1) := by decide +kernel
theorem dX12_copied_83 : decode cX12_copied 83 = .ok (.iconst 1, 1) := by decide +kernel
theorem dX12_copied_84 : decode cX12_copied 84 = .ok (.iload_n 2, 1) := by decide +kernel
theorem dX12_copied_85 : decode cX12_copied 85 = .ok (.ishl, 1) := by decide +kernel
theorem dX12_copied_86 : decode cX12_copied 86 = .ok (.ior, 1) := by decide +kernel
theorem dX12_copied_87 : decode cX12_copied 87 = .ok (.iastore, 1) := by decide +kernel
theorem dX12_copied_88 : decode cX12_copied 88 = .ok (.iconst 1, 1) := by decide +kernel
theorem dX12_copied_89 : decode cX12_copied 89 = .ok (.ireturn, 1) := by decide +kernel
theorem dX12_copied_90 : decode cX12_copied 90 = .ok (.aload_n 0, 1) := by decide +kernel
theorem dX12_copied_91 : decode cX12_copied 91 = .ok (.aload_n 0, 1) := by decide +kernel
theorem dX12_copied_92 : decode cX12_copied 92 = .ok (.getfield 82, 3) := by decide +kernel
theorem dX12_copied_95 : decode cX12_copied 95 = .ok (.iload 4, 2) := by decide +kernel
theorem dX12_copied_97 : decode cX12_copied 97 = .ok (.iaload, 1) := by decide +kernel
theorem dX12_copied_98 : decode cX12_copied 98 = .ok (.iconst 1, 1) := by decide +kernel
theorem dX12_copied_99 : decode cX12_copied 99 = .ok (.iload_n 2, 1) := by decide +kernel
theorem dX12_copied_100 : decode cX12_copied 100 = .ok (.ishl, 1) := by decide +kernel
theorem dX12_copied_101 : decode cX12_copied 101 = .ok (.iconst (-1), 1) := by decide +kernel
theorem dX12_copied_102 : decode cX12_copied 102 = .ok (.ixor, 1) := by decide +kernel
theorem dX12_copied_103 : decode cX12_copied 103 = .ok (.iand, 1) := by decide +kernel
theorem dX12_copied_104 : decode cX12_copied 104 = .ok (.invokevirtual 281, 3) := by decide +kernel
theorem dX12_copied_107 : decode cX12_copied 107 = .ok (.istore 7, 2) := by decide +kernel
theorem dX12_copied_109 : decode cX12_copied 109 = .ok (.iload 6, 2) := by decide +kernel
theorem dX12_copied_111 : decode cX12_copied 111 = .ok (.ifCond .eq 14, 3) := by decide +kernel
theorem dX12_copied_114 : decode cX12_copied 114 = .ok (.aload_n 0, 1) := by decide +kernel
theorem dX12_copied_115 : decode cX12_copied 115 = .ok (.getfield 79, 3) := by decide +kernel
theorem dX12_copied_118 : decode cX12_copied 118 = .ok (.iload 4, 2) := by decide +kernel
theorem dX12_copied_120 : decode cX12_copied 120 = .ok (.iload_n 2, 1) := by decide +kernel
theorem dX12_copied_121 : decode cX12_copied 121 = .ok (.iastore, 1) := by decide +kernel
theorem dX12_copied_122 : decode cX12_copied 122 = .ok (.iinc 7 1, 3) := by decide +kernel
theorem dX12_copied_125 : decode cX12_copied 125 = .ok (.aload_n 0, 1) := by decide +kernel
theorem dX12_copied_126 : decode cX12_copied 126 = .ok (.getfield 82, 3) := by decide +kernel
theorem dX12_copied_129 : decode cX12_copied 129 = .ok (.iload 4, 2) := by decide +kernel
theorem dX12_copied_131 : decode cX12_copied 131 = .ok (.iconst 0, 1) := by decide +kernel
theorem dX12_copied_132 : decode cX12_copied 132 = .ok (.iastore, 1) := by decide +kernel
theorem dX12_copied_133 : decode cX12_copied 133 = .ok (.iload 7, 2) := by decide +kernel
theorem dX12_copied_135 : decode cX12_copied 135 = .ok (.ireturn, 1) := by decide +kernel
theorem dX12_fail_0 : decode cX12_fail 0 = .ok (.aload_n 0, 1) := by decide +kernel
theorem dX12_fail_1 : decode cX12_fail 1 = .ok (.getfield 118, 3) := by decide +kernel
theorem dX12_fail_4 : decode cX12_fail 4 = .ok (.bipush 10, 2) := by decide +kernel
theorem dX12_fail_6 : decode cX12_fail 6 = .ok (.aload_n 0, 1) := by decide +kernel
theorem dX12_fail_7 : decode cX12_fail 7 = .ok (.getfield 243, 3) := by decide +kernel
theorem dX12_fail_10 : decode cX12_fail 10 = .ok (.imul, 1) := by decide +kernel
theorem dX12_fail_11 : decode cX12_fail 11 = .ok (.iload_n 1, 1) := by decide +kernel
theorem dX12_fail_12 : decode cX12_fail 12 = .ok (.iadd, 1) := by decide +kernel
theorem dX12_fail_13 : decode cX12_fail 13 = .ok (.iconst 1, 1) := by decide +kernel
theorem dX12_fail_14 : decode cX12_fail 14 = .ok (.bastore, 1) := by decide +kernel
theorem dX12_fail_15 : decode cX12_fail 15 = .ok (.aload_n 0, 1) := by decide +kernel
theorem dX12_fail_16 : decode cX12_fail 16 = .ok (.getfield 73, 3) := by decide +kernel
theorem dX12_fail_19 : decode cX12_fail 19 = .ok (.aload_n 0, 1) := by decide +kernel
theorem dX12_fail_20 : decode cX12_fail 20 = .ok (.getfield 243, 3) := by decide +kernel
theorem dX12_fail_23 : decode cX12_fail 23 = .ok (.dup2, 1) := by decide +kernel
theorem dX12_fail_24 : decode cX12_fail 24 = .ok (.iaload, 1) := by decide +kernel
theorem dX12_fail_25 : decode cX12_fail 25 = .ok (.iconst 1, 1) := by decide +kernel
theorem dX12_fail_26 : decode cX12_fail 26 = .ok (.iadd, 1) := by decide +kernel
theorem dX12_fail_27 : decode cX12_fail 27 = .ok (.iastore, 1) := by decide +kernel
theorem dX12_fail_28 : decode cX12_fail 28 = .ok (.return_, 1) := by decide +kernel
theorem dX12_note_0 : decode cX12_note 0 = .ok (.aload_n 0, 1) := by decide +kernel
theorem dX12_note_1 : decode cX12_note 1 = .ok (.getfield 243, 3) := by decide +kernel
theorem dX12_note_4 : decode cX12_note 4 = .ok (.ifCond .gt 13, 3) := by decide +kernel
theorem dX12_note_7 : decode cX12_note 7 = .ok (.aload_n 0, 1) := by decide +kernel
theorem dX12_note_8 : decode cX12_note 8 = .ok (.getfield 284, 3) := by decide +kernel
theorem dX12_note_11 : decode cX12_note 11 = .ok (.sipush 300, 3) := by decide +kernel
theorem dX12_note_14 : decode cX12_note 14 = .ok (.if_icmp .ne 4, 3) := by decide +kernel
theorem dX12_note_17 : decode cX12_note 17 = .ok (.return_, 1) := by decide +kernel
theorem dX12_note_18 : decode cX12_note 18 = .ok (.bipush 10, 2) := by decide +kernel
theorem dX12_note_20 : decode cX12_note 20 = .ok (.aload_n 0, 1) := by decide +kernel
theorem dX12_note_21 : decode cX12_note 21 = .ok (.getfield 284, 3) := by decide +kernel
theorem dX12_note_24 : decode cX12_note 24 = .ok (.imul, 1) := by decide +kernel
theorem dX12_note_25 : decode cX12_note 25 = .ok (.istore 6, 2) := by decide +kernel
theorem dX12_note_27 : decode cX12_note 27 = .ok (.aload_n 0, 1) := by decide +kernel
theorem dX12_note_28 : decode cX12_note 28 = .ok (.getfield 145, 3) := by decide +kernel
theorem dX12_note_31 : decode cX12_note 31 = .ok (.iload 6, 2) := by decide +kernel
theorem dX12_note_33 : decode cX12_note 33 = .ok (.aload_n 0, 1) := by decide +kernel
theorem dX12_note_34 : decode cX12_note 34 = .ok (.getfield 54, 3) := by decide +kernel
theorem dX12_note_37 : decode cX12_note 37 = .ok (.iconst 0, 1) := by decide +kernel
theorem dX12_note_38 : decode cX12_note 38 = .ok (.iaload, 1) := by decide +kernel
theorem dX12_note_39 : decode cX12_note 39 = .ok (.iastore, 1) := by decide +kernel
theorem dX12_note_40 : decode cX12_note 40 = .ok (.aload_n 0, 1) := by decide +kernel
theorem dX12_note_41 : decode cX12_note 41 = .ok (.getfield 145, 3) := by decide +kernel
theorem dX12_note_44 : decode cX12_note 44 = .ok (.iload 6, 2) := by decide +kernel
theorem dX12_note_46 : decode cX12_note 46 = .ok (.iconst 1, 1) := by decide +kernel
theorem dX12_note_47 : decode cX12_note 47 = .ok (.iadd, 1) := by decide +kernel
theorem dX12_note_48 : decode cX12_note 48 = .ok (.iload_n 1, 1) := by decide +kernel
theorem dX12_note_49 : decode cX12_note 49 = .ok (.iastore, 1) := by decide +kernel
theorem dX12_note_50 : decode cX12_note 50 = .ok (.aload_n 0, 1) := by decide +kernel
theorem dX12_note_51 : decode cX12_note 51 = .ok (.getfield 145, 3) := by decide +kernel
theorem dX12_note_54 : decode cX12_note 54 = .ok (.iload 6, 2) := by decide +kernel
theorem dX12_note_56 : decode cX12_note 56 = .ok (.iconst 2, 1) := by decide +kernel
theorem dX12_note_57 : decode cX12_note 57 = .ok (.iadd, 1) := by decide +kernel
theorem dX12_note_58 : decode cX12_note 58 = .ok (.iload_n 2, 1) := by decide +kernel
theorem dX12_note_59 : decode cX12_note 59 = .ok (.iastore, 1) := by decide +kernel
theorem dX12_note_60 : decode cX12_note 60 = .ok (.aload_n 0, 1) := by decide +kernel
theorem dX12_note_61 : decode cX12_note 61 = .ok (.getfield 145, 3) := by decide +kernel
theorem dX12_note_64 : decode cX12_note 64 = .ok (.iload 6, 2) := by decide +kernel
theorem dX12_note_66 : decode cX12_note 66 = .ok (.iconst 3, 1) := by decide +kernel
theorem dX12_note_67 : decode cX12_note 67 = .ok (.iadd, 1) := by decide +kernel
theorem dX12_note_68 : decode cX12_note 68 = .ok (.aload_n 0, 1) := by decide +kernel
theorem dX12_note_69 : decode cX12_note 69 = .ok (.getfield 25, 3) := by decide +kernel
theorem dX12_note_72 : decode cX12_note 72 = .ok (.iload_n 3, 1) := by decide +kernel
theorem dX12_note_73 : decode cX12_note 73 = .ok (.iaload, 1) := by decide +kernel
theorem dX12_note_74 : decode cX12_note 74 = .ok (.iastore, 1) := by decide +kernel
theorem dX12_note_75 : decode cX12_note 75 = .ok (.aload_n 0, 1) := by decide +kernel
theorem dX12_note_76 : decode cX12_note 76 = .ok (.getfield 145, 3) := by decide +kernel
theorem dX12_note_79 : decode cX12_note 79 = .ok (.iload 6, 2) := by decide +kernel
theorem dX12_note_81 : decode cX12_note 81 = .ok (.iconst 4, 1) := by decide +kernel
theorem dX12_note_82 : decode cX12_note 82 = .ok (.iadd, 1) := by decide +kernel
theorem dX12_note_83 : decode cX12_note 83 = .ok (.aload_n 0, 1) := by decide +kernel
theorem dX12_note_84 : decode cX12_note 84 = .ok (.getfield 28, 3) := by decide +kernel
theorem dX12_note_87 : decode cX12_note 87 = .ok (.iload_n 3, 1) := by decide +kernel
theorem dX12_note_88 : decode cX12_note 88 = .ok (.iaload, 1) := by decide +kernel
theorem dX12_note_89 : decode cX12_note 89 = .ok (.iastore, 1) := by decide +kernel
theorem dX12_note_90 : decode cX12_note 90 = .ok (.aload_n 0, 1) := by decide +kernel
theorem dX12_note_91 : decode cX12_note 91 = .ok (.getfield 145, 3) := by decide +kernel
theorem dX12_note_94 : decode cX12_note 94 = .ok (.iload 6, 2) := by decide +kernel
theorem dX12_note_96 : decode cX12_note 96 = .ok (.iconst 5, 1) := by decide +kernel
theorem dX12_note_97 : decode cX12_note 97 = .ok (.iadd, 1) := by decide +kernel
theorem dX12_note_98 : decode cX12_note 98 = .ok (.aload_n 0, 1) := by decide +kernel
theorem dX12_note_99 : decode cX12_note 99 = .ok (.getfield 31, 3) := by decide +kernel
theorem dX12_note_102 : decode cX12_note 102 = .ok (.iload_n 3, 1) := by decide +kernel
theorem dX12_note_103 : decode cX12_note 103 = .ok (.baload, 1) := by decide +kernel
theorem dX12_note_104 : decode cX12_note 104 = .ok (.ifCond .eq 7, 3) := by decide +kernel
theorem dX12_note_107 : decode cX12_note 107 = .ok (.iconst 1, 1) := by decide +kernel
theorem dX12_note_108 : decode cX12_note 108 = .ok (.goto 4, 3) := by decide +kernel
theorem dX12_note_111 : decode cX12_note 111 = .ok (.iconst 0, 1) := by decide +kernel
theorem dX12_note_112 : decode cX12_note 112 = .ok (.iastore, 1) := by decide +kernel
theorem dX12_note_113 : decode cX12_note 113 = .ok (.aload_n 0, 1) := by decide +kernel
theorem dX12_note_114 : decode cX12_note 114 = .ok (.getfield 145, 3) := by decide +kernel
theorem dX12_note_117 : decode cX12_note 117 = .ok (.iload 6, 2) := by decide +kernel
theorem dX12_note_119 : decode cX12_note 119 = .ok (.bipush 6, 2) := by decide +kernel
theorem dX12_note_121 : decode cX12_note 121 = .ok (.iadd, 1) := by decide +kernel
theorem dX12_note_122 : decode cX12_note 122 = .ok (.iload 4, 2) := by decide +kernel
theorem dX12_note_124 : decode cX12_note 124 = .ok (.iastore, 1) := by decide +kernel
theorem dX12_note_125 : decode cX12_note 125 = .ok (.aload_n 0, 1) := by decide +kernel
theorem dX12_note_126 : decode cX12_note 126 = .ok (.getfield 145, 3) := by decide +kernel
theorem dX12_note_129 : decode cX12_note 129 = .ok (.iload 6, 2) := by decide +kernel
theorem dX12_note_131 : decode cX12_note 131 = .ok (.bipush 7, 2) := by decide +kernel
theorem dX12_note_133 : decode cX12_note 133 = .ok (.iadd, 1) := by decide +kernel
theorem dX12_note_134 : decode cX12_note 134 = .ok (.iload 5, 2) := by decide +kernel
theorem dX12_note_136 : decode cX12_note 136 = .ok (.iastore, 1) := by decide +kernel
theorem dX12_note_137 : decode cX12_note 137 = .ok (.aload_n 0, 1) := by decide +kernel
theorem dX12_note_138 : decode cX12_note 138 = .ok (.getfield 145, 3) := by decide +kernel
theorem dX12_note_141 : decode cX12_note 141 = .ok (.iload 6, 2) := by decide +kernel
theorem dX12_note_143 : decode cX12_note 143 = .ok (.bipush 8, 2) := by decide +kernel
theorem dX12_note_145 : decode cX12_note 145 = .ok (.iadd, 1) := by decide +kernel
theorem dX12_note_146 : decode cX12_note 146 = .ok (.aload_n 0, 1) := by decide +kernel
theorem dX12_note_147 : decode cX12_note 147 = .ok (.getfield 264, 3) := by decide +kernel
theorem dX12_note_150 : decode cX12_note 150 = .ok (.ifCond .eq 7, 3) := by decide +kernel
theorem dX12_note_153 : decode cX12_note 153 = .ok (.iconst 1, 1) := by decide +kernel
theorem dX12_note_154 : decode cX12_note 154 = .ok (.goto 4, 3) := by decide +kernel
theorem dX12_note_157 : decode cX12_note 157 = .ok (.iconst 0, 1) := by decide +kernel
theorem dX12_note_158 : decode cX12_note 158 = .ok (.iastore, 1) := by decide +kernel
theorem dX12_note_159 : decode cX12_note 159 = .ok (.aload_n 0, 1) := by decide +kernel
theorem dX12_note_160 : decode cX12_note 160 = .ok (.getfield 145, 3) := by decide +kernel
theorem dX12_note_163 : decode cX12_note 163 = .ok (.iload 6, 2) := by decide +kernel
theorem dX12_note_165 : decode cX12_note 165 = .ok (.bipush 9, 2) := by decide +kernel
theorem dX12_note_167 : decode cX12_note 167 = .ok (.iadd, 1) := by decide +kernel
theorem dX12_note_168 : decode cX12_note 168 = .ok (.aload_n 0, 1) := by decide +kernel
theorem dX12_note_169 : decode cX12_note 169 = .ok (.getfield 278, 3) := by decide +kernel
theorem dX12_note_172 : decode cX12_note 172 = .ok (.ifCond .eq 7, 3) := by decide +kernel
theorem dX12_note_175 : decode cX12_note 175 = .ok (.iconst 1, 1) := by decide +kernel
theorem dX12_note_176 : decode cX12_note 176 = .ok (.goto 4, 3) := by decide +kernel
theorem dX12_note_179 : decode cX12_note 179 = .ok (.iconst 0, 1) := by decide +kernel
theorem dX12_note_180 : decode cX12_note 180 = .ok (.iastore, 1) := by decide +kernel
theorem dX12_note_181 : decode cX12_note 181 = .ok (.aload_n 0, 1) := by decide +kernel
theorem dX12_note_182 : decode cX12_note 182 = .ok (.getfield 148, 3) := by decide +kernel
theorem dX12_note_185 : decode cX12_note 185 = .ok (.aload_n 0, 1) := by decide +kernel
theorem dX12_note_186 : decode cX12_note 186 = .ok (.getfield 284, 3) := by decide +kernel
theorem dX12_note_189 : decode cX12_note 189 = .ok (.aload_n 0, 1) := by decide +kernel
theorem dX12_note_190 : decode cX12_note 190 = .ok (.getfield 35, 3) := by decide +kernel
theorem dX12_note_193 : decode cX12_note 193 = .ok (.iload_n 3, 1) := by decide +kernel
theorem dX12_note_194 : decode cX12_note 194 = .ok (.iaload, 1) := by decide +kernel
theorem dX12_note_195 : decode cX12_note 195 = .ok (.iastore, 1) := by decide +kernel
theorem dX12_note_196 : decode cX12_note 196 = .ok (.aload_n 0, 1) := by decide +kernel
theorem dX12_note_197 : decode cX12_note 197 = .ok (.dup, 1) := by decide +kernel
theorem dX12_note_198 : decode cX12_note 198 = .ok (.getfield 284, 3) := by decide +kernel
theorem dX12_note_201 : decode cX12_note 201 = .ok (.iconst 1, 1) := by decide +kernel
theorem dX12_note_202 : decode cX12_note 202 = .ok (.iadd, 1) := by decide +kernel
theorem dX12_note_203 : decode cX12_note 203 = .ok (.putfield 284, 3) := by decide +kernel
theorem dX12_note_206 : decode cX12_note 206 = .ok (.return_, 1) := by decide +kernel
theorem dX12_tryNext_0 : decode cX12_tryNext 0 = .ok (.bipush 10, 2) := by decide +kernel
theorem dX12_tryNext_2 : decode cX12_tryNext 2 = .ok (.aload_n 0, 1) := by decide +kernel
theorem dX12_tryNext_3 : decode cX12_tryNext 3 = .ok (.getfield 243, 3) := by decide +kernel
theorem dX12_tryNext_6 : decode cX12_tryNext 6 = .ok (.imul, 1) := by decide +kernel
theorem dX12_tryNext_7 : decode cX12_tryNext 7 = .ok (.iload_n 1, 1) := by decide +kernel
theorem dX12_tryNext_8 : decode cX12_tryNext 8 = .ok (.iadd, 1) := by decide +kernel
theorem dX12_tryNext_9 : decode cX12_tryNext 9 = .ok (.istore_n 2, 1) := by decide +kernel
theorem dX12_tryNext_10 : decode cX12_tryNext 10 = .ok (.aload_n 0, 1) := by decide +kernel
theorem dX12_tryNext_11 : decode cX12_tryNext 11 = .ok (.getfield 103, 3) := by decide +kernel
theorem dX12_tryNext_14 : decode cX12_tryNext 14 = .ok (.iload_n 2, 1) := by decide +kernel
theorem dX12_tryNext_15 : decode cX12_tryNext 15 = .ok (.iaload, 1) := by decide +kernel
theorem dX12_tryNext_16 : decode cX12_tryNext 16 = .ok (.istore_n 3, 1) := by decide +kernel
theorem dX12_tryNext_17 : decode cX12_tryNext 17 = .ok (.bipush 60, 2) := by decide +kernel
theorem dX12_tryNext_19 : decode cX12_tryNext 19 = .ok (.iload_n 1, 1) := by decide +kernel
theorem dX12_tryNext_20 : decode cX12_tryNext 20 = .ok (.imul, 1) := by decide +kernel
theorem dX12_tryNext_21 : decode cX12_tryNext 21 = .ok (.aload_n 0, 1) := by decide +kernel
theorem dX12_tryNext_22 : decode cX12_tryNext 22 = .ok (.getfield 109, 3) := by decide +kernel
theorem dX12_tryNext_25 : decode cX12_tryNext 25 = .ok (.iload_n 2, 1) := by decide +kernel
theorem dX12_tryNext_26 : decode cX12_tryNext 26 = .ok (.iaload, 1) := by decide +kernel
theorem dX12_tryNext_27 : decode cX12_tryNext 27 = .ok (.iadd, 1) := by decide +kernel
theorem dX12_tryNext_28 : decode cX12_tryNext 28 = .ok (.istore 4, 2) := by decide +kernel
theorem dX12_tryNext_30 : decode cX12_tryNext 30 = .ok (.aload_n 0, 1) := by decide +kernel
theorem dX12_tryNext_31 : decode cX12_tryNext 31 = .ok (.getfield 25, 3) := by decide +kernel
theorem dX12_tryNext_34 : decode cX12_tryNext 34 = .ok (.iload 4, 2) := by decide +kernel
theorem dX12_tryNext_36 : decode cX12_tryNext 36 = .ok (.iaload, 1) := by decide +kernel
theorem dX12_tryNext_37 : decode cX12_tryNext 37 = .ok (.istore 5, 2) := by decide +kernel
theorem dX12_tryNext_39 : decode cX12_tryNext 39 = .ok (.aload_n 0, 1) := by decide +kernel
theorem dX12_tryNext_40 : decode cX12_tryNext 40 = .ok (.getfield 28, 3) := by decide +kernel
theorem dX12_tryNext_43 : decode cX12_tryNext 43 = .ok (.iload 4, 2) := by decide +kernel
theorem dX12_tryNext_45 : decode cX12_tryNext 45 = .ok (.iaload, 1) := by decide +kernel
theorem dX12_tryNext_46 : decode cX12_tryNext 46 = .ok (.istore 6, 2) := by decide +kernel
theorem dX12_tryNext_48 : decode cX12_tryNext 48 = .ok (.iload 5, 2) := by decide +kernel
theorem dX12_tryNext_50 : decode cX12_tryNext 50 = .ok (.aload_n 0, 1) := by decide +kernel
theorem dX12_tryNext_51 : decode cX12_tryNext 51 = .ok (.getfield 197, 3) := by decide +kernel
theorem dX12_tryNext_54 : decode cX12_tryNext 54 = .ok (.if_icmp .ge 39, 3) := by decide +kernel
theorem dX12_tryNext_57 : decode cX12_tryNext 57 = .ok (.iload 6, 2) := by decide +kernel
theorem dX12_tryNext_59 : decode cX12_tryNext 59 = .ok (.iconst 3, 1) := by decide +kernel
theorem dX12_tryNext_60 : decode cX12_tryNext 60 = .ok (.if_icmp .gt 33, 3) := by decide +kernel
theorem dX12_tryNext_63 : decode cX12_tryNext 63 = .ok (.aload_n 0, 1) := by decide +kernel
theorem dX12_tryNext_64 : decode cX12_tryNext 64 = .ok (.getfield 79, 3) := by decide +kernel
theorem dX12_tryNext_67 : decode cX12_tryNext 67 = .ok (.bipush 20, 2) := by decide +kernel
theorem dX12_tryNext_69 : decode cX12_tryNext 69 = .ok (.aload_n 0, 1) := by decide +kernel
theorem dX12_tryNext_70 : decode cX12_tryNext 70 = .ok (.getfield 243, 3) := by decide +kernel
theorem dX12_tryNext_73 : decode cX12_tryNext 73 = .ok (.imul, 1) := by decide +kernel
theorem dX12_tryNext_74 : decode cX12_tryNext 74 = .ok (.iload 5, 2) := by decide +kernel
theorem dX12_tryNext_76 : decode cX12_tryNext 76 = .ok (.iadd, 1) := by decide +kernel
theorem dX12_tryNext_77 : decode cX12_tryNext 77 = .ok (.iaload, 1) := by decide +kernel
theorem dX12_tryNext_78 : decode cX12_tryNext 78 = .ok (.bipush (-2), 2) := by decide +kernel
theorem dX12_tryNext_80 : decode cX12_tryNext 80 = .ok (.if_icmp .ne 19, 3) := by decide +kernel
theorem dX12_tryNext_83 : decode cX12_tryNext 83 = .ok (.aload_n 0, 1) := by decide +kernel
theorem dX12_tryNext_84 : decode cX12_tryNext 84 = .ok (.iload 5, 2) := by decide +kernel
theorem dX12_tryNext_86 : decode cX12_tryNext 86 = .ok (.iload_n 3, 1) := by decide +kernel
theorem dX12_tryNext_87 : decode cX12_tryNext 87 = .ok (.invokevirtual 287, 3) := by decide +kernel
theorem dX12_tryNext_90 : decode cX12_tryNext 90 = .ok (.ifCond .ne 9, 3) := by decide +kernel
theorem dX12_tryNext_93 : decode cX12_tryNext 93 = .ok (.aload_n 0, 1) := by decide +kernel
theorem dX12_tryNext_94 : decode cX12_tryNext 94 = .ok (.iload_n 1, 1) := by decide +kernel
theorem dX12_tryNext_95 : decode cX12_tryNext 95 = .ok (.invokevirtual 290, 3) := by decide +kernel
theorem dX12_tryNext_98 : decode cX12_tryNext 98 = .ok (.return_, 1) := by decide +kernel
theorem dX12_tryNext_99 : decode cX12_tryNext 99 = .ok (.aload_n 0, 1) := by decide +kernel
theorem dX12_tryNext_100 : decode cX12_tryNext 100 = .ok (.iload 5, 2) := by decide +kernel
theorem dX12_tryNext_102 : decode cX12_tryNext 102 = .ok (.iload 6, 2) := by decide +kernel
theorem dX12_tryNext_104 : decode cX12_tryNext 104 = .ok (.iload_n 3, 1) := by decide +kernel
theorem dX12_tryNext_105 : decode cX12_tryNext 105 = .ok (.invokevirtual 294, 3) := by decide +kernel
theorem dX12_tryNext_108 : decode cX12_tryNext 108 = .ok (.istore 7, 2) := by decide +kernel
theorem dX12_tryNext_110 : decode cX12_tryNext 110 = .ok (.aload_n 0, 1) := by decide +kernel
theorem dX12_tryNext_111 : decode cX12_tryNext 111 = .ok (.iload_n 3, 1) := by decide +kernel
theorem dX12_tryNext_112 : decode cX12_tryNext 112 = .ok (.iload 7, 2) := by decide +kernel
theorem dX12_tryNext_114 : decode cX12_tryNext 114 = .ok (.invokevirtual 220, 3) := by decide +kernel
theorem dX12_tryNext_117 : decode cX12_tryNext 117 = .ok (.ifCond .ne 9, 3) := by decide +kernel
theorem dX12_tryNext_120 : decode cX12_tryNext 120 = .ok (.aload_n 0, 1) := by decide +kernel
theorem dX12_tryNext_121 : decode cX12_tryNext 121 = .ok (.iload_n 1, 1) := by decide +kernel
theorem dX12_tryNext_122 : decode cX12_tryNext 122 = .ok (.invokevirtual 290, 3) := by decide +kernel
theorem dX12_tryNext_125 : decode cX12_tryNext 125 = .ok (.return_, 1) := by decide +kernel
theorem dX12_tryNext_126 : decode cX12_tryNext 126 = .ok (.aload_n 0, 1) := by decide +kernel
theorem dX12_tryNext_127 : decode cX12_tryNext 127 = .ok (.iload_n 3, 1) := by decide +kernel
theorem dX12_tryNext_128 : decode cX12_tryNext 128 = .ok (.iload 7, 2) := by decide +kernel
theorem dX12_tryNext_130 : decode cX12_tryNext 130 = .ok (.invokevirtual 298, 3) := by decide +kernel
theorem dX12_tryNext_133 : decode cX12_tryNext 133 = .ok (.istore 8, 2) := by decide +kernel
theorem dX12_tryNext_135 : decode cX12_tryNext 135 = .ok (.iload 8, 2) := by decide +kernel
theorem dX12_tryNext_137 : decode cX12_tryNext 137 = .ok (.ifCond .lt 33, 3) := by decide +kernel
theorem dX12_tryNext_140 : decode cX12_tryNext 140 = .ok (.aload_n 0, 1) := by decide +kernel
theorem dX12_tryNext_141 : decode cX12_tryNext 141 = .ok (.getfield 115, 3) := by decide +kernel
theorem dX12_tryNext_144 : decode cX12_tryNext 144 = .ok (.iload_n 2, 1) := by decide +kernel
theorem dX12_tryNext_145 : decode cX12_tryNext 145 = .ok (.dup2, 1) := by decide +kernel
theorem dX12_tryNext_146 : decode cX12_tryNext 146 = .ok (.iaload, 1) := by decide +kernel
theorem dX12_tryNext_147 : decode cX12_tryNext 147 = .ok (.iconst 1, 1) := by decide +kernel
theorem dX12_tryNext_148 : decode cX12_tryNext 148 = .ok (.iadd, 1) := by decide +kernel
theorem dX12_tryNext_149 : decode cX12_tryNext 149 = .ok (.iastore, 1) := by decide +kernel
theorem dX12_tryNext_150 : decode cX12_tryNext 150 = .ok (.aload_n 0, 1) := by decide +kernel
theorem dX12_tryNext_151 : decode cX12_tryNext 151 = .ok (.getfield 142, 3) := by decide +kernel
theorem dX12_tryNext_154 : decode cX12_tryNext 154 = .ok (.bipush 16, 2) := by decide +kernel
theorem dX12_tryNext_156 : decode cX12_tryNext 156 = .ok (.aload_n 0, 1) := by decide +kernel
theorem dX12_tryNext_157 : decode cX12_tryNext 157 = .ok (.getfield 243, 3) := by decide +kernel
theorem dX12_tryNext_160 : decode cX12_tryNext 160 = .ok (.imul, 1) := by decide +kernel
theorem dX12_tryNext_161 : decode cX12_tryNext 161 = .ok (.iload 8, 2) := by decide +kernel
theorem dX12_tryNext_163 : decode cX12_tryNext 163 = .ok (.iadd, 1) := by decide +kernel
theorem dX12_tryNext_164 : decode cX12_tryNext 164 = .ok (.dup2, 1) := by decide +kernel
theorem dX12_tryNext_165 : decode cX12_tryNext 165 = .ok (.iaload, 1) := by decide +kernel
theorem dX12_tryNext_166 : decode cX12_tryNext 166 = .ok (.iconst 1, 1) := by decide +kernel
theorem dX12_tryNext_167 : decode cX12_tryNext 167 = .ok (.iadd, 1) := by decide +kernel
theorem dX12_tryNext_168 : decode cX12_tryNext 168 = .ok (.iastore, 1) := by decide +kernel
theorem dX12_tryNext_169 : decode cX12_tryNext 169 = .ok (.return_, 1) := by decide +kernel
theorem dX12_tryNext_170 : decode cX12_tryNext 170 = .ok (.aload_n 0, 1) := by decide +kernel
theorem dX12_tryNext_171 : decode cX12_tryNext 171 = .ok (.iload_n 3, 1) := by decide +kernel
theorem dX12_tryNext_172 : decode cX12_tryNext 172 = .ok (.iload 7, 2) := by decide +kernel
theorem dX12_tryNext_174 : decode cX12_tryNext 174 = .ok (.invokevirtual 301, 3) := by decide +kernel
theorem dX12_tryNext_177 : decode cX12_tryNext 177 = .ok (.aload_n 0, 1) := by decide +kernel
theorem dX12_tryNext_178 : decode cX12_tryNext 178 = .ok (.iconst 0, 1) := by decide +kernel
theorem dX12_tryNext_179 : decode cX12_tryNext 179 = .ok (.putfield 264, 3) := by decide +kernel
theorem dX12_tryNext_182 : decode cX12_tryNext 182 = .ok (.aload_n 0, 1) := by decide +kernel
theorem dX12_tryNext_183 : decode cX12_tryNext 183 = .ok (.iconst 0, 1) := by decide +kernel
theorem dX12_tryNext_184 : decode cX12_tryNext 184 = .ok (.putfield 278, 3) := by decide +kernel
theorem dX12_tryNext_187 : decode cX12_tryNext 187 = .ok (.iconst 1, 1) := by decide +kernel
theorem dX12_tryNext_188 : decode cX12_tryNext 188 = .ok (.iconst 2, 1) := by decide +kernel
theorem dX12_tryNext_189 : decode cX12_tryNext 189 = .ok (.aload_n 0, 1) := by decide +kernel
theorem dX12_tryNext_190 : decode cX12_tryNext 190 = .ok (.getfield 16, 3) := by decide +kernel
theorem dX12_tryNext_193 : decode cX12_tryNext 193 = .ok (.iconst 4, 1) := by decide +kernel
theorem dX12_tryNext_194 : decode cX12_tryNext 194 = .ok (.iload_n 3, 1) := by decide +kernel
theorem dX12_tryNext_195 : decode cX12_tryNext 195 = .ok (.imul, 1) := by decide +kernel
theorem dX12_tryNext_196 : decode cX12_tryNext 196 = .ok (.iload 7, 2) := by decide +kernel
theorem dX12_tryNext_198 : decode cX12_tryNext 198 = .ok (.iadd, 1) := by decide +kernel
theorem dX12_tryNext_199 : decode cX12_tryNext 199 = .ok (.iaload, 1) := by decide +kernel
theorem dX12_tryNext_200 : decode cX12_tryNext 200 = .ok (.imul, 1) := by decide +kernel
theorem dX12_tryNext_201 : decode cX12_tryNext 201 = .ok (.iadd, 1) := by decide +kernel
theorem dX12_tryNext_202 : decode cX12_tryNext 202 = .ok (.istore 9, 2) := by decide +kernel
theorem dX12_tryNext_204 : decode cX12_tryNext 204 = .ok (.iload 9, 2) := by decide +kernel
theorem dX12_tryNext_206 : decode cX12_tryNext 206 = .ok (.aload_n 0, 1) := by decide +kernel
theorem dX12_tryNext_207 : decode cX12_tryNext 207 = .ok (.getfield 85, 3) := by decide +kernel
theorem dX12_tryNext_210 : decode cX12_tryNext 210 = .ok (.bipush 20, 2) := by decide +kernel
theorem dX12_tryNext_212 : decode cX12_tryNext 212 = .ok (.aload_n 0, 1) := by decide +kernel
theorem dX12_tryNext_213 : decode cX12_tryNext 213 = .ok (.getfield 243, 3) := by decide +kernel
theorem dX12_tryNext_216 : decode cX12_tryNext 216 = .ok (.imul, 1) := by decide +kernel
theorem dX12_tryNext_217 : decode cX12_tryNext 217 = .ok (.iload 5, 2) := by decide +kernel
theorem dX12_tryNext_219 : decode cX12_tryNext 219 = .ok (.iadd, 1) := by decide +kernel
theorem dX12_tryNext_220 : decode cX12_tryNext 220 = .ok (.baload, 1) := by decide +kernel
theorem dX12_tryNext_221 : decode cX12_tryNext 221 = .ok (.ifCond .eq 13, 3) := by decide +kernel
theorem dX12_tryNext_224 : decode cX12_tryNext 224 = .ok (.aload_n 0, 1) := by decide +kernel
theorem dX12_tryNext_225 : decode cX12_tryNext 225 = .ok (.iload 5, 2) := by decide +kernel
theorem dX12_tryNext_227 : decode cX12_tryNext 227 = .ok (.iload_n 3, 1) := by decide +kernel
theorem dX12_tryNext_228 : decode cX12_tryNext 228 = .ok (.invokevirtual 304, 3) := by decide +kernel
theorem dX12_tryNext_231 : decode cX12_tryNext 231 = .ok (.goto 4, 3) := by decide +kernel
theorem dX12_tryNext_234 : decode cX12_tryNext 234 = .ok (.iconst 0, 1) := by decide +kernel
theorem dX12_tryNext_235 : decode cX12_tryNext 235 = .ok (.iadd, 1) := by decide +kernel
theorem dX12_tryNext_236 : decode cX12_tryNext 236 = .ok (.istore 9, 2) := by decide +kernel
theorem dX12_tryNext_238 : decode cX12_tryNext 238 = .ok (.iconst 4, 1) := by decide +kernel
theorem dX12_tryNext_239 : decode cX12_tryNext 239 = .ok (.bipush 20, 2) := by decide +kernel
theorem dX12_tryNext_241 : decode cX12_tryNext 241 = .ok (.aload_n 0, 1) := by decide +kernel
theorem dX12_tryNext_242 : decode cX12_tryNext 242 = .ok (.getfield 243, 3) := by decide +kernel
theorem dX12_tryNext_245 : decode cX12_tryNext 245 = .ok (.imul, 1) := by decide +kernel
theorem dX12_tryNext_246 : decode cX12_tryNext 246 = .ok (.iload 5, 2) := by decide +kernel
theorem dX12_tryNext_248 : decode cX12_tryNext 248 = .ok (.iadd, 1) := by decide +kernel
theorem dX12_tryNext_249 : decode cX12_tryNext 249 = .ok (.imul, 1) := by decide +kernel
theorem dX12_tryNext_250 : decode cX12_tryNext 250 = .ok (.iload 6, 2) := by decide +kernel
theorem dX12_tryNext_252 : decode cX12_tryNext 252 = .ok (.iadd, 1) := by decide +kernel
theorem dX12_tryNext_253 : decode cX12_tryNext 253 = .ok (.istore 10, 2) := by decide +kernel
theorem dX12_tryNext_255 : decode cX12_tryNext 255 = .ok (.aload_n 0, 1) := by decide +kernel
theorem dX12_tryNext_256 : decode cX12_tryNext 256 = .ok (.getfield 31, 3) := by decide +kernel
theorem dX12_tryNext_259 : decode cX12_tryNext 259 = .ok (.iload 4, 2) := by decide +kernel
theorem dX12_tryNext_261 : decode cX12_tryNext 261 = .ok (.baload, 1) := by decide +kernel
theorem dX12_tryNext_262 : decode cX12_tryNext 262 = .ok (.ifCond .eq 20, 3) := by decide +kernel
theorem dX12_tryNext_265 : decode cX12_tryNext 265 = .ok (.aload_n 0, 1) := by decide +kernel
theorem dX12_tryNext_266 : decode cX12_tryNext 266 = .ok (.getfield 100, 3) := by decide +kernel
theorem dX12_tryNext_269 : decode cX12_tryNext 269 = .ok (.iload 10, 2) := by decide +kernel
theorem dX12_tryNext_271 : decode cX12_tryNext 271 = .ok (.aload_n 0, 1) := by decide +kernel
theorem dX12_tryNext_272 : decode cX12_tryNext 272 = .ok (.getfield 35, 3) := by decide +kernel
theorem dX12_tryNext_275 : decode cX12_tryNext 275 = .ok (.iload 4, 2) := by decide +kernel
theorem dX12_tryNext_277 : decode cX12_tryNext 277 = .ok (.iaload, 1) := by decide +kernel
theorem dX12_tryNext_278 : decode cX12_tryNext 278 = .ok (.iastore, 1) := by decide +kernel
theorem dX12_tryNext_279 : decode cX12_tryNext 279 = .ok (.goto 16, 3) := by decide +kernel
theorem dX12_tryNext_282 : decode cX12_tryNext 282 = .ok (.aload_n 0, 1) := by decide +kernel
theorem dX12_tryNext_283 : decode cX12_tryNext 283 = .ok (.getfield 127, 3) := by decide +kernel
theorem dX12_tryNext_286 : decode cX12_tryNext 286 = .ok (.iload_n 2, 1) := by decide +kernel
theorem dX12_tryNext_287 : decode cX12_tryNext 287 = .ok (.aload_n 0, 1) := by decide +kernel
theorem dX12_tryNext_288 : decode cX12_tryNext 288 = .ok (.getfield 100, 3) := by decide +kernel
theorem dX12_tryNext_291 : decode cX12_tryNext 291 = .ok (.iload 10, 2) := by decide +kernel
theorem dX12_tryNext_293 : decode cX12_tryNext 293 = .ok (.iaload, 1) := by decide +kernel
theorem dX12_tryNext_294 : decode cX12_tryNext 294 = .ok (.iastore, 1) := by decide +kernel
theorem dX12_tryNext_295 : decode cX12_tryNext 295 = .ok (.iload 9, 2) := by decide +kernel
theorem dX12_tryNext_297 : decode cX12_tryNext 297 = .ok (.aload_n 0, 1) := by decide +kernel
theorem dX12_tryNext_298 : decode cX12_tryNext 298 = .ok (.getfield 19, 3) := by decide +kernel
theorem dX12_tryNext_301 : decode cX12_tryNext 301 = .ok (.iload 5, 2) := by decide +kernel
theorem dX12_tryNext_303 : decode cX12_tryNext 303 = .ok (.iaload, 1) := by decide +kernel
theorem dX12_tryNext_304 : decode cX12_tryNext 304 = .ok (.iconst 1, 1) := by decide +kernel
theorem dX12_tryNext_305 : decode cX12_tryNext 305 = .ok (.if_icmp .ne 20, 3) := by decide +kernel
theorem dX12_tryNext_308 : decode cX12_tryNext 308 = .ok (.aload_n 0, 1) := by decide +kernel
theorem dX12_tryNext_309 : decode cX12_tryNext 309 = .ok (.iload 5, 2) := by decide +kernel
theorem dX12_tryNext_311 : decode cX12_tryNext 311 = .ok (.iload_n 3, 1) := by decide +kernel
theorem dX12_tryNext_312 : decode cX12_tryNext 312 = .ok (.aload_n 0, 1) := by decide +kernel
theorem dX12_tryNext_313 : decode cX12_tryNext 313 = .ok (.getfield 31, 3) := by decide +kernel
theorem dX12_tryNext_316 : decode cX12_tryNext 316 = .ok (.iload 4, 2) := by decide +kernel
theorem dX12_tryNext_318 : decode cX12_tryNext 318 = .ok (.baload, 1) := by decide +kernel
theorem dX12_tryNext_319 : decode cX12_tryNext 319 = .ok (.invokevirtual 307, 3) := by decide +kernel
theorem dX12_tryNext_322 : decode cX12_tryNext 322 = .ok (.goto 4, 3) := by decide +kernel
theorem dX12_tryNext_325 : decode cX12_tryNext 325 = .ok (.iconst 0, 1) := by decide +kernel
theorem dX12_tryNext_326 : decode cX12_tryNext 326 = .ok (.iadd, 1) := by decide +kernel
theorem dX12_tryNext_327 : decode cX12_tryNext 327 = .ok (.istore 9, 2) := by decide +kernel
theorem dX12_tryNext_329 : decode cX12_tryNext 329 = .ok (.aload_n 0, 1) := by decide +kernel
theorem dX12_tryNext_330 : decode cX12_tryNext 330 = .ok (.getfield 109, 3) := by decide +kernel
theorem dX12_tryNext_333 : decode cX12_tryNext 333 = .ok (.iload_n 2, 1) := by decide +kernel
theorem dX12_tryNext_334 : decode cX12_tryNext 334 = .ok (.dup2, 1) := by decide +kernel
theorem dX12_tryNext_335 : decode cX12_tryNext 335 = .ok (.iaload, 1) := by decide +kernel
theorem dX12_tryNext_336 : decode cX12_tryNext 336 = .ok (.iconst 1, 1) := by decide +kernel
theorem dX12_tryNext_337 : decode cX12_tryNext 337 = .ok (.iadd, 1) := by decide +kernel
theorem dX12_tryNext_338 : decode cX12_tryNext 338 = .ok (.iastore, 1) := by decide +kernel
theorem dX12_tryNext_339 : decode cX12_tryNext 339 = .ok (.aload_n 0, 1) := by decide +kernel
theorem dX12_tryNext_340 : decode cX12_tryNext 340 = .ok (.getfield 112, 3) := by decide +kernel
theorem dX12_tryNext_343 : decode cX12_tryNext 343 = .ok (.iload_n 2, 1) := by decide +kernel
theorem dX12_tryNext_344 : decode cX12_tryNext 344 = .ok (.iload 9, 2) := by decide +kernel
theorem dX12_tryNext_346 : decode cX12_tryNext 346 = .ok (.iastore, 1) := by decide +kernel
theorem dX12_tryNext_347 : decode cX12_tryNext 347 = .ok (.aload_n 0, 1) := by decide +kernel
theorem dX12_tryNext_348 : decode cX12_tryNext 348 = .ok (.getfield 121, 3) := by decide +kernel
theorem dX12_tryNext_351 : decode cX12_tryNext 351 = .ok (.iload_n 2, 1) := by decide +kernel
theorem dX12_tryNext_352 : decode cX12_tryNext 352 = .ok (.dup2, 1) := by decide +kernel
theorem dX12_tryNext_353 : decode cX12_tryNext 353 = .ok (.iaload, 1) := by decide +kernel
theorem dX12_tryNext_354 : decode cX12_tryNext 354 = .ok (.iconst 1, 1) := by decide +kernel
theorem dX12_tryNext_355 : decode cX12_tryNext 355 = .ok (.iadd, 1) := by decide +kernel
theorem dX12_tryNext_356 : decode cX12_tryNext 356 = .ok (.iastore, 1) := by decide +kernel
theorem dX12_tryNext_357 : decode cX12_tryNext 357 = .ok (.aload_n 0, 1) := by decide +kernel
theorem dX12_tryNext_358 : decode cX12_tryNext 358 = .ok (.getfield 124, 3) := by decide +kernel
theorem dX12_tryNext_361 : decode cX12_tryNext 361 = .ok (.iload_n 2, 1) := by decide +kernel
theorem dX12_tryNext_362 : decode cX12_tryNext 362 = .ok (.dup2, 1) := by decide +kernel
theorem dX12_tryNext_363 : decode cX12_tryNext 363 = .ok (.laload, 1) := by decide +kernel
theorem dX12_tryNext_364 : decode cX12_tryNext 364 = .ok (.iload 9, 2) := by decide +kernel
theorem dX12_tryNext_366 : decode cX12_tryNext 366 = .ok (.i2l, 1) := by decide +kernel
theorem dX12_tryNext_367 : decode cX12_tryNext 367 = .ok (.ladd, 1) := by decide +kernel
theorem dX12_tryNext_368 : decode cX12_tryNext 368 = .ok (.lastore, 1) := by decide +kernel
theorem dX12_tryNext_369 : decode cX12_tryNext 369 = .ok (.aload_n 0, 1) := by decide +kernel
theorem dX12_tryNext_370 : decode cX12_tryNext 370 = .ok (.getfield 97, 3) := by decide +kernel
theorem dX12_tryNext_373 : decode cX12_tryNext 373 = .ok (.bipush 20, 2) := by decide +kernel
theorem dX12_tryNext_375 : decode cX12_tryNext 375 = .ok (.aload_n 0, 1) := by decide +kernel
theorem dX12_tryNext_376 : decode cX12_tryNext 376 = .ok (.getfield 243, 3) := by decide +kernel
theorem dX12_tryNext_379 : decode cX12_tryNext 379 = .ok (.imul, 1) := by decide +kernel
theorem dX12_tryNext_380 : decode cX12_tryNext 380 = .ok (.iload 5, 2) := by decide +kernel
theorem dX12_tryNext_382 : decode cX12_tryNext 382 = .ok (.iadd, 1) := by decide +kernel
theorem dX12_tryNext_383 : decode cX12_tryNext 383 = .ok (.dup2, 1) := by decide +kernel
theorem dX12_tryNext_384 : decode cX12_tryNext 384 = .ok (.laload, 1) := by decide +kernel
theorem dX12_tryNext_385 : decode cX12_tryNext 385 = .ok (.iload 9, 2) := by decide +kernel
theorem dX12_tryNext_387 : decode cX12_tryNext 387 = .ok (.i2l, 1) := by decide +kernel
theorem dX12_tryNext_388 : decode cX12_tryNext 388 = .ok (.ladd, 1) := by decide +kernel
theorem dX12_tryNext_389 : decode cX12_tryNext 389 = .ok (.lastore, 1) := by decide +kernel
theorem dX12_tryNext_390 : decode cX12_tryNext 390 = .ok (.aload_n 0, 1) := by decide +kernel
theorem dX12_tryNext_391 : decode cX12_tryNext 391 = .ok (.getfield 133, 3) := by decide +kernel
theorem dX12_tryNext_394 : decode cX12_tryNext 394 = .ok (.iconst 4, 1) := by decide +kernel
theorem dX12_tryNext_395 : decode cX12_tryNext 395 = .ok (.aload_n 0, 1) := by decide +kernel
theorem dX12_tryNext_396 : decode cX12_tryNext 396 = .ok (.getfield 243, 3) := by decide +kernel
theorem dX12_tryNext_399 : decode cX12_tryNext 399 = .ok (.imul, 1) := by decide +kernel
theorem dX12_tryNext_400 : decode cX12_tryNext 400 = .ok (.iload_n 3, 1) := by decide +kernel
theorem dX12_tryNext_401 : decode cX12_tryNext 401 = .ok (.iadd, 1) := by decide +kernel
theorem dX12_tryNext_402 : decode cX12_tryNext 402 = .ok (.dup2, 1) := by decide +kernel
theorem dX12_tryNext_403 : decode cX12_tryNext 403 = .ok (.laload, 1) := by decide +kernel
theorem dX12_tryNext_404 : decode cX12_tryNext 404 = .ok (.iload 9, 2) := by decide +kernel
theorem dX12_tryNext_406 : decode cX12_tryNext 406 = .ok (.i2l, 1) := by decide +kernel
theorem dX12_tryNext_407 : decode cX12_tryNext 407 = .ok (.ladd, 1) := by decide +kernel
theorem dX12_tryNext_408 : decode cX12_tryNext 408 = .ok (.lastore, 1) := by decide +kernel
theorem dX12_tryNext_409 : decode cX12_tryNext 409 = .ok (.aload_n 0, 1) := by decide +kernel
theorem dX12_tryNext_410 : decode cX12_tryNext 410 = .ok (.getfield 60, 3) := by decide +kernel
theorem dX12_tryNext_413 : decode cX12_tryNext 413 = .ok (.aload_n 0, 1) := by decide +kernel
theorem dX12_tryNext_414 : decode cX12_tryNext 414 = .ok (.getfield 243, 3) := by decide +kernel
theorem dX12_tryNext_417 : decode cX12_tryNext 417 = .ok (.dup2, 1) := by decide +kernel
theorem dX12_tryNext_418 : decode cX12_tryNext 418 = .ok (.iaload, 1) := by decide +kernel
theorem dX12_tryNext_419 : decode cX12_tryNext 419 = .ok (.iconst 1, 1) := by decide +kernel
theorem dX12_tryNext_420 : decode cX12_tryNext 420 = .ok (.iadd, 1) := by decide +kernel
theorem dX12_tryNext_421 : decode cX12_tryNext 421 = .ok (.iastore, 1) := by decide +kernel
theorem dX12_tryNext_422 : decode cX12_tryNext 422 = .ok (.aload_n 0, 1) := by decide +kernel
theorem dX12_tryNext_423 : decode cX12_tryNext 423 = .ok (.getfield 63, 3) := by decide +kernel
theorem dX12_tryNext_426 : decode cX12_tryNext 426 = .ok (.aload_n 0, 1) := by decide +kernel
theorem dX12_tryNext_427 : decode cX12_tryNext 427 = .ok (.getfield 243, 3) := by decide +kernel
theorem dX12_tryNext_430 : decode cX12_tryNext 430 = .ok (.dup2, 1) := by decide +kernel
theorem dX12_tryNext_431 : decode cX12_tryNext 431 = .ok (.laload, 1) := by decide +kernel
theorem dX12_tryNext_432 : decode cX12_tryNext 432 = .ok (.iload 9, 2) := by decide +kernel
theorem dX12_tryNext_434 : decode cX12_tryNext 434 = .ok (.i2l, 1) := by decide +kernel
theorem dX12_tryNext_435 : decode cX12_tryNext 435 = .ok (.ladd, 1) := by decide +kernel
theorem dX12_tryNext_436 : decode cX12_tryNext 436 = .ok (.lastore, 1) := by decide +kernel
theorem dX12_tryNext_437 : decode cX12_tryNext 437 = .ok (.aload_n 0, 1) := by decide +kernel
theorem dX12_tryNext_438 : decode cX12_tryNext 438 = .ok (.iload_n 1, 1) := by decide +kernel
theorem dX12_tryNext_439 : decode cX12_tryNext 439 = .ok (.iload_n 3, 1) := by decide +kernel
theorem dX12_tryNext_440 : decode cX12_tryNext 440 = .ok (.iload 4, 2) := by decide +kernel
theorem dX12_tryNext_442 : decode cX12_tryNext 442 = .ok (.iload 7, 2) := by decide +kernel
theorem dX12_tryNext_444 : decode cX12_tryNext 444 = .ok (.iload 9, 2) := by decide +kernel
theorem dX12_tryNext_446 : decode cX12_tryNext 446 = .ok (.invokevirtual 311, 3) := by decide +kernel
theorem dX12_tryNext_449 : decode cX12_tryNext 449 = .ok (.return_, 1) := by decide +kernel
theorem dX12_underWay_0 : decode cX12_underWay 0 = .ok (.iconst 0, 1) := by decide +kernel
theorem dX12_underWay_1 : decode cX12_underWay 1 = .ok (.istore_n 2, 1) := by decide +kernel
theorem dX12_underWay_2 : decode cX12_underWay 2 = .ok (.iconst 0, 1) := by decide +kernel
theorem dX12_underWay_3 : decode cX12_underWay 3 = .ok (.istore_n 3, 1) := by decide +kernel
theorem dX12_underWay_4 : decode cX12_underWay 4 = .ok (.iload_n 3, 1) := by decide +kernel
theorem dX12_underWay_5 : decode cX12_underWay 5 = .ok (.aload_n 0, 1) := by decide +kernel
theorem dX12_underWay_6 : decode cX12_underWay 6 = .ok (.getfield 200, 3) := by decide +kernel
theorem dX12_underWay_9 : decode cX12_underWay 9 = .ok (.if_icmp .ge 52, 3) := by decide +kernel
theorem dX12_underWay_12 : decode cX12_underWay 12 = .ok (.iload_n 2, 1) := by decide +kernel
theorem dX12_underWay_13 : decode cX12_underWay 13 = .ok (.aload_n 0, 1) := by decide +kernel
theorem dX12_underWay_14 : decode cX12_underWay 14 = .ok (.getfield 103, 3) := by decide +kernel
theorem dX12_underWay_17 : decode cX12_underWay 17 = .ok (.bipush 10, 2) := by decide +kernel
theorem dX12_underWay_19 : decode cX12_underWay 19 = .ok (.aload_n 0, 1) := by decide +kernel
theorem dX12_underWay_20 : decode cX12_underWay 20 = .ok (.getfield 243, 3) := by decide +kernel
theorem dX12_underWay_23 : decode cX12_underWay 23 = .ok (.imul, 1) := by decide +kernel
theorem dX12_underWay_24 : decode cX12_underWay 24 = .ok (.iload_n 3, 1) := by decide +kernel
theorem dX12_underWay_25 : decode cX12_underWay 25 = .ok (.iadd, 1) := by decide +kernel
theorem dX12_underWay_26 : decode cX12_underWay 26 = .ok (.iaload, 1) := by decide +kernel
theorem dX12_underWay_27 : decode cX12_underWay 27 = .ok (.iload_n 1, 1) := by decide +kernel
theorem dX12_underWay_28 : decode cX12_underWay 28 = .ok (.if_icmp .ne 24, 3) := by decide +kernel
theorem dX12_underWay_31 : decode cX12_underWay 31 = .ok (.aload_n 0, 1) := by decide +kernel
theorem dX12_underWay_32 : decode cX12_underWay 32 = .ok (.getfield 112, 3) := by decide +kernel
theorem dX12_underWay_35 : decode cX12_underWay 35 = .ok (.bipush 10, 2) := by decide +kernel
theorem dX12_underWay_37 : decode cX12_underWay 37 = .ok (.aload_n 0, 1) := by decide +kernel
theorem dX12_underWay_38 : decode cX12_underWay 38 = .ok (.getfield 243, 3) := by decide +kernel
theorem dX12_underWay_41 : decode cX12_underWay 41 = .ok (.imul, 1) := by decide +kernel
theorem dX12_underWay_42 : decode cX12_underWay 42 = .ok (.iload_n 3, 1) := by decide +kernel
theorem dX12_underWay_43 : decode cX12_underWay 43 = .ok (.iadd, 1) := by decide +kernel
theorem dX12_underWay_44 : decode cX12_underWay 44 = .ok (.iaload, 1) := by decide +kernel
theorem dX12_underWay_45 : decode cX12_underWay 45 = .ok (.ifCond .le 7, 3) := by decide +kernel
theorem dX12_underWay_48 : decode cX12_underWay 48 = .ok (.iconst 1, 1) := by decide +kernel
theorem dX12_underWay_49 : decode cX12_underWay 49 = .ok (.goto 4, 3) := by decide +kernel
theorem dX12_underWay_52 : decode cX12_underWay 52 = .ok (.iconst 0, 1) := by decide +kernel
theorem dX12_underWay_53 : decode cX12_underWay 53 = .ok (.iadd, 1) := by decide +kernel
theorem dX12_underWay_54 : decode cX12_underWay 54 = .ok (.istore_n 2, 1) := by decide +kernel
theorem dX12_underWay_55 : decode cX12_underWay 55 = .ok (.iinc 3 1, 3) := by decide +kernel
theorem dX12_underWay_58 : decode cX12_underWay 58 = .ok (.goto (-54), 3) := by decide +kernel
theorem dX12_underWay_61 : decode cX12_underWay 61 = .ok (.iload_n 2, 1) := by decide +kernel
theorem dX12_underWay_62 : decode cX12_underWay 62 = .ok (.ireturn, 1) := by decide +kernel
theorem dX12_isReady_0 : decode cX12_isReady 0 = .ok (.bipush 10, 2) := by decide +kernel
theorem dX12_isReady_2 : decode cX12_isReady 2 = .ok (.aload_n 0, 1) := by decide +kernel
theorem dX12_isReady_3 : decode cX12_isReady 3 = .ok (.getfield 243, 3) := by decide +kernel
theorem dX12_isReady_6 : decode cX12_isReady 6 = .ok (.imul, 1) := by decide +kernel
theorem dX12_isReady_7 : decode cX12_isReady 7 = .ok (.iload_n 1, 1) := by decide +kernel
theorem dX12_isReady_8 : decode cX12_isReady 8 = .ok (.iadd, 1) := by decide +kernel
theorem dX12_isReady_9 : decode cX12_isReady 9 = .ok (.istore_n 2, 1) := by decide +kernel
theorem dX12_isReady_10 : decode cX12_isReady 10 = .ok (.aload_n 0, 1) := by decide +kernel
theorem dX12_isReady_11 : decode cX12_isReady 11 = .ok (.getfield 118, 3) := by decide +kernel
theorem dX12_isReady_14 : decode cX12_isReady 14 = .ok (.iload_n 2, 1) := by decide +kernel
theorem dX12_isReady_15 : decode cX12_isReady 15 = .ok (.baload, 1) := by decide +kernel
theorem dX12_isReady_16 : decode cX12_isReady 16 = .ok (.ifCond .ne 31, 3) := by decide +kernel
theorem dX12_isReady_19 : decode cX12_isReady 19 = .ok (.aload_n 0, 1) := by decide +kernel
theorem dX12_isReady_20 : decode cX12_isReady 20 = .ok (.getfield 112, 3) := by decide +kernel
theorem dX12_isReady_23 : decode cX12_isReady 23 = .ok (.iload_n 2, 1) := by decide +kernel
theorem dX12_isReady_24 : decode cX12_isReady 24 = .ok (.iaload, 1) := by decide +kernel
theorem dX12_isReady_25 : decode cX12_isReady 25 = .ok (.ifCond .ne 22, 3) := by decide +kernel
theorem dX12_isReady_28 : decode cX12_isReady 28 = .ok (.aload_n 0, 1) := by decide +kernel
theorem dX12_isReady_29 : decode cX12_isReady 29 = .ok (.getfield 109, 3) := by decide +kernel
theorem dX12_isReady_32 : decode cX12_isReady 32 = .ok (.iload_n 2, 1) := by decide +kernel
theorem dX12_isReady_33 : decode cX12_isReady 33 = .ok (.iaload, 1) := by decide +kernel
theorem dX12_isReady_34 : decode cX12_isReady 34 = .ok (.aload_n 0, 1) := by decide +kernel
theorem dX12_isReady_35 : decode cX12_isReady 35 = .ok (.getfield 22, 3) := by decide +kernel
theorem dX12_isReady_38 : decode cX12_isReady 38 = .ok (.iload_n 1, 1) := by decide +kernel
theorem dX12_isReady_39 : decode cX12_isReady 39 = .ok (.iaload, 1) := by decide +kernel
theorem dX12_isReady_40 : decode cX12_isReady 40 = .ok (.if_icmp .ge 7, 3) := by decide +kernel
theorem dX12_isReady_43 : decode cX12_isReady 43 = .ok (.iconst 1, 1) := by decide +kernel
theorem dX12_isReady_44 : decode cX12_isReady 44 = .ok (.goto 4, 3) := by decide +kernel
theorem dX12_isReady_47 : decode cX12_isReady 47 = .ok (.iconst 0, 1) := by decide +kernel
theorem dX12_isReady_48 : decode cX12_isReady 48 = .ok (.ireturn, 1) := by decide +kernel
theorem dX12_first_0 : decode cX12_first 0 = .ok (.iconst (-1), 1) := by decide +kernel
theorem dX12_first_1 : decode cX12_first 1 = .ok (.istore_n 2, 1) := by decide +kernel
theorem dX12_first_2 : decode cX12_first 2 = .ok (.iconst 0, 1) := by decide +kernel
theorem dX12_first_3 : decode cX12_first 3 = .ok (.istore_n 3, 1) := by decide +kernel
theorem dX12_first_4 : decode cX12_first 4 = .ok (.iload_n 3, 1) := by decide +kernel
theorem dX12_first_5 : decode cX12_first 5 = .ok (.aload_n 0, 1) := by decide +kernel
theorem dX12_first_6 : decode cX12_first 6 = .ok (.getfield 200, 3) := by decide +kernel
theorem dX12_first_9 : decode cX12_first 9 = .ok (.if_icmp .ge 95, 3) := by decide +kernel
theorem dX12_first_12 : decode cX12_first 12 = .ok (.bipush 10, 2) := by decide +kernel
theorem dX12_first_14 : decode cX12_first 14 = .ok (.aload_n 0, 1) := by decide +kernel
theorem dX12_first_15 : decode cX12_first 15 = .ok (.getfield 243, 3) := by decide +kernel
theorem dX12_first_18 : decode cX12_first 18 = .ok (.imul, 1) := by decide +kernel
theorem dX12_first_19 : decode cX12_first 19 = .ok (.iload_n 3, 1) := by decide +kernel
theorem dX12_first_20 : decode cX12_first 20 = .ok (.iadd, 1) := by decide +kernel
theorem dX12_first_21 : decode cX12_first 21 = .ok (.istore 4, 2) := by decide +kernel
theorem dX12_first_23 : decode cX12_first 23 = .ok (.aload_n 0, 1) := by decide +kernel
theorem dX12_first_24 : decode cX12_first 24 = .ok (.getfield 103, 3) := by decide +kernel
theorem dX12_first_27 : decode cX12_first 27 = .ok (.iload 4, 2) := by decide +kernel
theorem dX12_first_29 : decode cX12_first 29 = .ok (.iaload, 1) := by decide +kernel
theorem dX12_first_30 : decode cX12_first 30 = .ok (.iload_n 1, 1) := by decide +kernel
theorem dX12_first_31 : decode cX12_first 31 = .ok (.if_icmp .ne 25, 3) := by decide +kernel
theorem dX12_first_34 : decode cX12_first 34 = .ok (.aload_n 0, 1) := by decide +kernel
theorem dX12_first_35 : decode cX12_first 35 = .ok (.iload_n 3, 1) := by decide +kernel
theorem dX12_first_36 : decode cX12_first 36 = .ok (.invokevirtual 315, 3) := by decide +kernel
theorem dX12_first_39 : decode cX12_first 39 = .ok (.ifCond .eq 17, 3) := by decide +kernel
theorem dX12_first_42 : decode cX12_first 42 = .ok (.aload_n 0, 1) := by decide +kernel
theorem dX12_first_43 : decode cX12_first 43 = .ok (.getfield 130, 3) := by decide +kernel
theorem dX12_first_46 : decode cX12_first 46 = .ok (.iload 4, 2) := by decide +kernel
theorem dX12_first_48 : decode cX12_first 48 = .ok (.baload, 1) := by decide +kernel
theorem dX12_first_49 : decode cX12_first 49 = .ok (.ifCond .ne 7, 3) := by decide +kernel
theorem dX12_first_52 : decode cX12_first 52 = .ok (.iconst 1, 1) := by decide +kernel
theorem dX12_first_53 : decode cX12_first 53 = .ok (.goto 4, 3) := by decide +kernel
theorem dX12_first_56 : decode cX12_first 56 = .ok (.iconst 0, 1) := by decide +kernel
theorem dX12_first_57 : decode cX12_first 57 = .ok (.istore 5, 2) := by decide +kernel
theorem dX12_first_59 : decode cX12_first 59 = .ok (.iload 5, 2) := by decide +kernel
theorem dX12_first_61 : decode cX12_first 61 = .ok (.ifCond .eq 35, 3) := by decide +kernel
theorem dX12_first_64 : decode cX12_first 64 = .ok (.iload_n 2, 1) := by decide +kernel
theorem dX12_first_65 : decode cX12_first 65 = .ok (.ifCond .lt 27, 3) := by decide +kernel
theorem dX12_first_68 : decode cX12_first 68 = .ok (.aload_n 0, 1) := by decide +kernel
theorem dX12_first_69 : decode cX12_first 69 = .ok (.getfield 106, 3) := by decide +kernel
theorem dX12_first_72 : decode cX12_first 72 = .ok (.iload 4, 2) := by decide +kernel
theorem dX12_first_74 : decode cX12_first 74 = .ok (.iaload, 1) := by decide +kernel
theorem dX12_first_75 : decode cX12_first 75 = .ok (.aload_n 0, 1) := by decide +kernel
theorem dX12_first_76 : decode cX12_first 76 = .ok (.getfield 106, 3) := by decide +kernel
theorem dX12_first_79 : decode cX12_first 79 = .ok (.bipush 10, 2) := by decide +kernel
theorem dX12_first_81 : decode cX12_first 81 = .ok (.aload_n 0, 1) := by decide +kernel
theorem dX12_first_82 : decode cX12_first 82 = .ok (.getfield 243, 3) := by decide +kernel
theorem dX12_first_85 : decode cX12_first 85 = .ok (.imul, 1) := by decide +kernel
theorem dX12_first_86 : decode cX12_first 86 = .ok (.iload_n 2, 1) := by decide +kernel
theorem dX12_first_87 : decode cX12_first 87 = .ok (.iadd, 1) := by decide +kernel
theorem dX12_first_88 : decode cX12_first 88 = .ok (.iaload, 1) := by decide +kernel
theorem dX12_first_89 : decode cX12_first 89 = .ok (.if_icmp .ge 7, 3) := by decide +kernel
theorem dX12_first_92 : decode cX12_first 92 = .ok (.iload_n 3, 1) := by decide +kernel
theorem dX12_first_93 : decode cX12_first 93 = .ok (.goto 4, 3) := by decide +kernel
theorem dX12_first_96 : decode cX12_first 96 = .ok (.iload_n 2, 1) := by decide +kernel
theorem dX12_first_97 : decode cX12_first 97 = .ok (.istore_n 2, 1) := by decide +kernel
theorem dX12_first_98 : decode cX12_first 98 = .ok (.iinc 3 1, 3) := by decide +kernel
theorem dX12_first_101 : decode cX12_first 101 = .ok (.goto (-97), 3) := by decide +kernel
theorem dX12_first_104 : decode cX12_first 104 = .ok (.iload_n 2, 1) := by decide +kernel
theorem dX12_first_105 : decode cX12_first 105 = .ok (.ireturn, 1) := by decide +kernel
theorem dX12_finish_0 : decode cX12_finish 0 = .ok (.iconst 0, 1) := by decide +kernel
theorem dX12_finish_1 : decode cX12_finish 1 = .ok (.istore_n 1, 1) := by decide +kernel
theorem dX12_finish_2 : decode cX12_finish 2 = .ok (.iload_n 1, 1) := by decide +kernel
theorem dX12_finish_3 : decode cX12_finish 3 = .ok (.aload_n 0, 1) := by decide +kernel
theorem dX12_finish_4 : decode cX12_finish 4 = .ok (.getfield 200, 3) := by decide +kernel
theorem dX12_finish_7 : decode cX12_finish 7 = .ok (.if_icmp .ge 75, 3) := by decide +kernel
theorem dX12_finish_10 : decode cX12_finish 10 = .ok (.bipush 10, 2) := by decide +kernel
theorem dX12_finish_12 : decode cX12_finish 12 = .ok (.aload_n 0, 1) := by decide +kernel
theorem dX12_finish_13 : decode cX12_finish 13 = .ok (.getfield 243, 3) := by decide +kernel
theorem dX12_finish_16 : decode cX12_finish 16 = .ok (.imul, 1) := by decide +kernel
theorem dX12_finish_17 : decode cX12_finish 17 = .ok (.iload_n 1, 1) := by decide +kernel
theorem dX12_finish_18 : decode cX12_finish 18 = .ok (.iadd, 1) := by decide +kernel
theorem dX12_finish_19 : decode cX12_finish 19 = .ok (.istore_n 2, 1) := by decide +kernel
theorem dX12_finish_20 : decode cX12_finish 20 = .ok (.aload_n 0, 1) := by decide +kernel
theorem dX12_finish_21 : decode cX12_finish 21 = .ok (.getfield 112, 3) := by decide +kernel
theorem dX12_finish_24 : decode cX12_finish 24 = .ok (.iload_n 2, 1) := by decide +kernel
theorem dX12_finish_25 : decode cX12_finish 25 = .ok (.iaload, 1) := by decide +kernel
theorem dX12_finish_26 : decode cX12_finish 26 = .ok (.ifCond .le 50, 3) := by decide +kernel
theorem dX12_finish_29 : decode cX12_finish 29 = .ok (.aload_n 0, 1) := by decide +kernel
theorem dX12_finish_30 : decode cX12_finish 30 = .ok (.getfield 112, 3) := by decide +kernel
theorem dX12_finish_33 : decode cX12_finish 33 = .ok (.iload_n 2, 1) := by decide +kernel
theorem dX12_finish_34 : decode cX12_finish 34 = .ok (.dup2, 1) := by decide +kernel
theorem dX12_finish_35 : decode cX12_finish 35 = .ok (.iaload, 1) := by decide +kernel
theorem dX12_finish_36 : decode cX12_finish 36 = .ok (.iconst 1, 1) := by decide +kernel
theorem dX12_finish_37 : decode cX12_finish 37 = .ok (.isub, 1) := by decide +kernel
theorem dX12_finish_38 : decode cX12_finish 38 = .ok (.iastore, 1) := by decide +kernel
theorem dX12_finish_39 : decode cX12_finish 39 = .ok (.aload_n 0, 1) := by decide +kernel
theorem dX12_finish_40 : decode cX12_finish 40 = .ok (.getfield 112, 3) := by decide +kernel
theorem dX12_finish_43 : decode cX12_finish 43 = .ok (.iload_n 2, 1) := by decide +kernel
theorem dX12_finish_44 : decode cX12_finish 44 = .ok (.iaload, 1) := by decide +kernel
theorem dX12_finish_45 : decode cX12_finish 45 = .ok (.ifCond .ne 31, 3) := by decide +kernel
theorem dX12_finish_48 : decode cX12_finish 48 = .ok (.aload_n 0, 1) := by decide +kernel
theorem dX12_finish_49 : decode cX12_finish 49 = .ok (.getfield 106, 3) := by decide +kernel
theorem dX12_finish_52 : decode cX12_finish 52 = .ok (.iload_n 2, 1) := by decide +kernel
theorem dX12_finish_53 : decode cX12_finish 53 = .ok (.aload_n 0, 1) := by decide +kernel
theorem dX12_finish_54 : decode cX12_finish 54 = .ok (.getfield 76, 3) := by decide +kernel
theorem dX12_finish_57 : decode cX12_finish 57 = .ok (.aload_n 0, 1) := by decide +kernel
theorem dX12_finish_58 : decode cX12_finish 58 = .ok (.getfield 243, 3) := by decide +kernel
theorem dX12_finish_61 : decode cX12_finish 61 = .ok (.iaload, 1) := by decide +kernel
theorem dX12_finish_62 : decode cX12_finish 62 = .ok (.iastore, 1) := by decide +kernel
theorem dX12_finish_63 : decode cX12_finish 63 = .ok (.aload_n 0, 1) := by decide +kernel
theorem dX12_finish_64 : decode cX12_finish 64 = .ok (.getfield 76, 3) := by decide +kernel
theorem dX12_finish_67 : decode cX12_finish 67 = .ok (.aload_n 0, 1) := by decide +kernel
theorem dX12_finish_68 : decode cX12_finish 68 = .ok (.getfield 243, 3) := by decide +kernel
theorem dX12_finish_71 : decode cX12_finish 71 = .ok (.dup2, 1) := by decide +kernel
theorem dX12_finish_72 : decode cX12_finish 72 = .ok (.iaload, 1) := by decide +kernel
theorem dX12_finish_73 : decode cX12_finish 73 = .ok (.iconst 1, 1) := by decide +kernel
theorem dX12_finish_74 : decode cX12_finish 74 = .ok (.iadd, 1) := by decide +kernel
theorem dX12_finish_75 : decode cX12_finish 75 = .ok (.iastore, 1) := by decide +kernel
theorem dX12_finish_76 : decode cX12_finish 76 = .ok (.iinc 1 1, 3) := by decide +kernel
theorem dX12_finish_79 : decode cX12_finish 79 = .ok (.goto (-77), 3) := by decide +kernel
theorem dX12_finish_82 : decode cX12_finish 82 = .ok (.iconst 0, 1) := by decide +kernel
theorem dX12_finish_83 : decode cX12_finish 83 = .ok (.istore_n 1, 1) := by decide +kernel
theorem dX12_finish_84 : decode cX12_finish 84 = .ok (.iload_n 1, 1) := by decide +kernel
theorem dX12_finish_85 : decode cX12_finish 85 = .ok (.aload_n 0, 1) := by decide +kernel
theorem dX12_finish_86 : decode cX12_finish 86 = .ok (.getfield 197, 3) := by decide +kernel
theorem dX12_finish_89 : decode cX12_finish 89 = .ok (.if_icmp .ge 98, 3) := by decide +kernel
theorem dX12_finish_92 : decode cX12_finish 92 = .ok (.aload_n 0, 1) := by decide +kernel
theorem dX12_finish_93 : decode cX12_finish 93 = .ok (.getfield 48, 3) := by decide +kernel
theorem dX12_finish_96 : decode cX12_finish 96 = .ok (.aload_n 0, 1) := by decide +kernel
theorem dX12_finish_97 : decode cX12_finish 97 = .ok (.getfield 243, 3) := by decide +kernel
theorem dX12_finish_100 : decode cX12_finish 100 = .ok (.iaload, 1) := by decide +kernel
theorem dX12_finish_101 : decode cX12_finish 101 = .ok (.ifCond .le 86, 3) := by decide +kernel
theorem dX12_finish_104 : decode cX12_finish 104 = .ok (.aload_n 0, 1) := by decide +kernel
theorem dX12_finish_105 : decode cX12_finish 105 = .ok (.getfield 54, 3) := by decide +kernel
theorem dX12_finish_108 : decode cX12_finish 108 = .ok (.aload_n 0, 1) := by decide +kernel
theorem dX12_finish_109 : decode cX12_finish 109 = .ok (.getfield 243, 3) := by decide +kernel
theorem dX12_finish_112 : decode cX12_finish 112 = .ok (.iaload, 1) := by decide +kernel
theorem dX12_finish_113 : decode cX12_finish 113 = .ok (.aload_n 0, 1) := by decide +kernel
theorem dX12_finish_114 : decode cX12_finish 114 = .ok (.getfield 48, 3) := by decide +kernel
theorem dX12_finish_117 : decode cX12_finish 117 = .ok (.aload_n 0, 1) := by decide +kernel
theorem dX12_finish_118 : decode cX12_finish 118 = .ok (.getfield 243, 3) := by decide +kernel
theorem dX12_finish_121 : decode cX12_finish 121 = .ok (.iaload, 1) := by decide +kernel
theorem dX12_finish_122 : decode cX12_finish 122 = .ok (.irem, 1) := by decide +kernel
theorem dX12_finish_123 : decode cX12_finish 123 = .ok (.ifCond .ne 64, 3) := by decide +kernel
theorem dX12_finish_126 : decode cX12_finish 126 = .ok (.aload_n 0, 1) := by decide +kernel
theorem dX12_finish_127 : decode cX12_finish 127 = .ok (.getfield 85, 3) := by decide +kernel
theorem dX12_finish_130 : decode cX12_finish 130 = .ok (.bipush 20, 2) := by decide +kernel
theorem dX12_finish_132 : decode cX12_finish 132 = .ok (.aload_n 0, 1) := by decide +kernel
theorem dX12_finish_133 : decode cX12_finish 133 = .ok (.getfield 243, 3) := by decide +kernel
theorem dX12_finish_136 : decode cX12_finish 136 = .ok (.imul, 1) := by decide +kernel
theorem dX12_finish_137 : decode cX12_finish 137 = .ok (.iload_n 1, 1) := by decide +kernel
theorem dX12_finish_138 : decode cX12_finish 138 = .ok (.iadd, 1) := by decide +kernel
theorem dX12_finish_139 : decode cX12_finish 139 = .ok (.aload_n 0, 1) := by decide +kernel
theorem dX12_finish_140 : decode cX12_finish 140 = .ok (.getfield 85, 3) := by decide +kernel
theorem dX12_finish_143 : decode cX12_finish 143 = .ok (.bipush 20, 2) := by decide +kernel
theorem dX12_finish_145 : decode cX12_finish 145 = .ok (.aload_n 0, 1) := by decide +kernel
theorem dX12_finish_146 : decode cX12_finish 146 = .ok (.getfield 243, 3) := by decide +kernel
theorem dX12_finish_149 : decode cX12_finish 149 = .ok (.imul, 1) := by decide +kernel
theorem dX12_finish_150 : decode cX12_finish 150 = .ok (.iload_n 1, 1) := by decide +kernel
theorem dX12_finish_151 : decode cX12_finish 151 = .ok (.iadd, 1) := by decide +kernel
theorem dX12_finish_152 : decode cX12_finish 152 = .ok (.baload, 1) := by decide +kernel
theorem dX12_finish_153 : decode cX12_finish 153 = .ok (.ifCond .ne 22, 3) := by decide +kernel
theorem dX12_finish_156 : decode cX12_finish 156 = .ok (.aload_n 0, 1) := by decide +kernel
theorem dX12_finish_157 : decode cX12_finish 157 = .ok (.getfield 79, 3) := by decide +kernel
theorem dX12_finish_160 : decode cX12_finish 160 = .ok (.bipush 20, 2) := by decide +kernel
theorem dX12_finish_162 : decode cX12_finish 162 = .ok (.aload_n 0, 1) := by decide +kernel
theorem dX12_finish_163 : decode cX12_finish 163 = .ok (.getfield 243, 3) := by decide +kernel
theorem dX12_finish_166 : decode cX12_finish 166 = .ok (.imul, 1) := by decide +kernel
theorem dX12_finish_167 : decode cX12_finish 167 = .ok (.iload_n 1, 1) := by decide +kernel
theorem dX12_finish_168 : decode cX12_finish 168 = .ok (.iadd, 1) := by decide +kernel
theorem dX12_finish_169 : decode cX12_finish 169 = .ok (.iaload, 1) := by decide +kernel
theorem dX12_finish_170 : decode cX12_finish 170 = .ok (.bipush (-2), 2) := by decide +kernel
theorem dX12_finish_172 : decode cX12_finish 172 = .ok (.if_icmp .eq 7, 3) := by decide +kernel
theorem dX12_finish_175 : decode cX12_finish 175 = .ok (.iconst 1, 1) := by decide +kernel
theorem dX12_finish_176 : decode cX12_finish 176 = .ok (.goto 4, 3) := by decide +kernel
theorem dX12_finish_179 : decode cX12_finish 179 = .ok (.iconst 0, 1) := by decide +kernel
theorem dX12_finish_180 : decode cX12_finish 180 = .ok (.bastore, 1) := by decide +kernel
theorem dX12_finish_181 : decode cX12_finish 181 = .ok (.iinc 1 1, 3) := by decide +kernel
theorem dX12_finish_184 : decode cX12_finish 184 = .ok (.goto (-100), 3) := by decide +kernel
theorem dX12_finish_187 : decode cX12_finish 187 = .ok (.aload_n 0, 1) := by decide +kernel
theorem dX12_finish_188 : decode cX12_finish 188 = .ok (.getfield 54, 3) := by decide +kernel
theorem dX12_finish_191 : decode cX12_finish 191 = .ok (.aload_n 0, 1) := by decide +kernel
theorem dX12_finish_192 : decode cX12_finish 192 = .ok (.getfield 243, 3) := by decide +kernel
theorem dX12_finish_195 : decode cX12_finish 195 = .ok (.dup2, 1) := by decide +kernel
theorem dX12_finish_196 : decode cX12_finish 196 = .ok (.iaload, 1) := by decide +kernel
theorem dX12_finish_197 : decode cX12_finish 197 = .ok (.iconst 1, 1) := by decide +kernel
theorem dX12_finish_198 : decode cX12_finish 198 = .ok (.iadd, 1) := by decide +kernel
theorem dX12_finish_199 : decode cX12_finish 199 = .ok (.iastore, 1) := by decide +kernel
theorem dX12_finish_200 : decode cX12_finish 200 = .ok (.return_, 1) := by decide +kernel
theorem dX12_oneTick_0 : decode cX12_oneTick 0 = .ok (.iconst 0, 1) := by decide +kernel
theorem dX12_oneTick_1 : decode cX12_oneTick 1 = .ok (.istore_n 1, 1) := by decide +kernel
theorem dX12_oneTick_2 : decode cX12_oneTick 2 = .ok (.iload_n 1, 1) := by decide +kernel
theorem dX12_oneTick_3 : decode cX12_oneTick 3 = .ok (.bipush 16, 2) := by decide +kernel
theorem dX12_oneTick_5 : decode cX12_oneTick 5 = .ok (.if_icmp .ge 24, 3) := by decide +kernel
theorem dX12_oneTick_8 : decode cX12_oneTick 8 = .ok (.aload_n 0, 1) := by decide +kernel
theorem dX12_oneTick_9 : decode cX12_oneTick 9 = .ok (.getfield 136, 3) := by decide +kernel
theorem dX12_oneTick_12 : decode cX12_oneTick 12 = .ok (.bipush 16, 2) := by decide +kernel
theorem dX12_oneTick_14 : decode cX12_oneTick 14 = .ok (.aload_n 0, 1) := by decide +kernel
theorem dX12_oneTick_15 : decode cX12_oneTick 15 = .ok (.getfield 243, 3) := by decide +kernel
theorem dX12_oneTick_18 : decode cX12_oneTick 18 = .ok (.imul, 1) := by decide +kernel
theorem dX12_oneTick_19 : decode cX12_oneTick 19 = .ok (.iload_n 1, 1) := by decide +kernel
theorem dX12_oneTick_20 : decode cX12_oneTick 20 = .ok (.iadd, 1) := by decide +kernel
theorem dX12_oneTick_21 : decode cX12_oneTick 21 = .ok (.iconst 0, 1) := by decide +kernel
theorem dX12_oneTick_22 : decode cX12_oneTick 22 = .ok (.iastore, 1) := by decide +kernel
theorem dX12_oneTick_23 : decode cX12_oneTick 23 = .ok (.iinc 1 1, 3) := by decide +kernel
theorem dX12_oneTick_26 : decode cX12_oneTick 26 = .ok (.goto (-24), 3) := by decide +kernel
theorem dX12_oneTick_29 : decode cX12_oneTick 29 = .ok (.iconst 0, 1) := by decide +kernel
theorem dX12_oneTick_30 : decode cX12_oneTick 30 = .ok (.istore_n 1, 1) := by decide +kernel
theorem dX12_oneTick_31 : decode cX12_oneTick 31 = .ok (.iload_n 1, 1) := by decide +kernel
theorem dX12_oneTick_32 : decode cX12_oneTick 32 = .ok (.aload_n 0, 1) := by decide +kernel
theorem dX12_oneTick_33 : decode cX12_oneTick 33 = .ok (.getfield 200, 3) := by decide +kernel
theorem dX12_oneTick_36 : decode cX12_oneTick 36 = .ok (.if_icmp .ge 24, 3) := by decide +kernel
theorem dX12_oneTick_39 : decode cX12_oneTick 39 = .ok (.aload_n 0, 1) := by decide +kernel
theorem dX12_oneTick_40 : decode cX12_oneTick 40 = .ok (.getfield 130, 3) := by decide +kernel
theorem dX12_oneTick_43 : decode cX12_oneTick 43 = .ok (.bipush 10, 2) := by decide +kernel
theorem dX12_oneTick_45 : decode cX12_oneTick 45 = .ok (.aload_n 0, 1) := by decide +kernel
theorem dX12_oneTick_46 : decode cX12_oneTick 46 = .ok (.getfield 243, 3) := by decide +kernel
theorem dX12_oneTick_49 : decode cX12_oneTick 49 = .ok (.imul, 1) := by decide +kernel
theorem dX12_oneTick_50 : decode cX12_oneTick 50 = .ok (.iload_n 1, 1) := by decide +kernel
theorem dX12_oneTick_51 : decode cX12_oneTick 51 = .ok (.iadd, 1) := by decide +kernel
theorem dX12_oneTick_52 : decode cX12_oneTick 52 = .ok (.iconst 0, 1) := by decide +kernel
theorem dX12_oneTick_53 : decode cX12_oneTick 53 = .ok (.bastore, 1) := by decide +kernel
theorem dX12_oneTick_54 : decode cX12_oneTick 54 = .ok (.iinc 1 1, 3) := by decide +kernel
theorem dX12_oneTick_57 : decode cX12_oneTick 57 = .ok (.goto (-26), 3) := by decide +kernel
theorem dX12_oneTick_60 : decode cX12_oneTick 60 = .ok (.iconst 0, 1) := by decide +kernel
theorem dX12_oneTick_61 : decode cX12_oneTick 61 = .ok (.istore_n 1, 1) := by decide +kernel
theorem dX12_oneTick_62 : decode cX12_oneTick 62 = .ok (.iload_n 1, 1) := by decide +kernel
theorem dX12_oneTick_63 : decode cX12_oneTick 63 = .ok (.aload_n 0, 1) := by decide +kernel
theorem dX12_oneTick_64 : decode cX12_oneTick 64 = .ok (.getfield 182, 3) := by decide +kernel
theorem dX12_oneTick_67 : decode cX12_oneTick 67 = .ok (.if_icmp .ge 60, 3) := by decide +kernel
theorem dX12_oneTick_70 : decode cX12_oneTick 70 = .ok (.aload_n 0, 1) := by decide +kernel
theorem dX12_oneTick_71 : decode cX12_oneTick 71 = .ok (.iload_n 1, 1) := by decide +kernel
theorem dX12_oneTick_72 : decode cX12_oneTick 72 = .ok (.invokevirtual 318, 3) := by decide +kernel
theorem dX12_oneTick_75 : decode cX12_oneTick 75 = .ok (.istore_n 2, 1) := by decide +kernel
theorem dX12_oneTick_76 : decode cX12_oneTick 76 = .ok (.iload_n 2, 1) := by decide +kernel
theorem dX12_oneTick_77 : decode cX12_oneTick 77 = .ok (.ifCond .lt 44, 3) := by decide +kernel
theorem dX12_oneTick_80 : decode cX12_oneTick 80 = .ok (.aload_n 0, 1) := by decide +kernel
theorem dX12_oneTick_81 : decode cX12_oneTick 81 = .ok (.iload_n 1, 1) := by decide +kernel
theorem dX12_oneTick_82 : decode cX12_oneTick 82 = .ok (.invokevirtual 321, 3) := by decide +kernel
theorem dX12_oneTick_85 : decode cX12_oneTick 85 = .ok (.aload_n 0, 1) := by decide +kernel
theorem dX12_oneTick_86 : decode cX12_oneTick 86 = .ok (.getfield 185, 3) := by decide +kernel
theorem dX12_oneTick_89 : decode cX12_oneTick 89 = .ok (.if_icmp .ge 32, 3) := by decide +kernel
theorem dX12_oneTick_92 : decode cX12_oneTick 92 = .ok (.aload_n 0, 1) := by decide +kernel
theorem dX12_oneTick_93 : decode cX12_oneTick 93 = .ok (.getfield 130, 3) := by decide +kernel
theorem dX12_oneTick_96 : decode cX12_oneTick 96 = .ok (.bipush 10, 2) := by decide +kernel
theorem dX12_oneTick_98 : decode cX12_oneTick 98 = .ok (.aload_n 0, 1) := by decide +kernel
theorem dX12_oneTick_99 : decode cX12_oneTick 99 = .ok (.getfield 243, 3) := by decide +kernel
theorem dX12_oneTick_102 : decode cX12_oneTick 102 = .ok (.imul, 1) := by decide +kernel
theorem dX12_oneTick_103 : decode cX12_oneTick 103 = .ok (.iload_n 2, 1) := by decide +kernel
theorem dX12_oneTick_104 : decode cX12_oneTick 104 = .ok (.iadd, 1) := by decide +kernel
theorem dX12_oneTick_105 : decode cX12_oneTick 105 = .ok (.iconst 1, 1) := by decide +kernel
theorem dX12_oneTick_106 : decode cX12_oneTick 106 = .ok (.bastore, 1) := by decide +kernel
theorem dX12_oneTick_107 : decode cX12_oneTick 107 = .ok (.aload_n 0, 1) := by decide +kernel
theorem dX12_oneTick_108 : decode cX12_oneTick 108 = .ok (.iload_n 2, 1) := by decide +kernel
theorem dX12_oneTick_109 : decode cX12_oneTick 109 = .ok (.invokevirtual 324, 3) := by decide +kernel
theorem dX12_oneTick_112 : decode cX12_oneTick 112 = .ok (.aload_n 0, 1) := by decide +kernel
theorem dX12_oneTick_113 : decode cX12_oneTick 113 = .ok (.iload_n 1, 1) := by decide +kernel
theorem dX12_oneTick_114 : decode cX12_oneTick 114 = .ok (.invokevirtual 318, 3) := by decide +kernel
theorem dX12_oneTick_117 : decode cX12_oneTick 117 = .ok (.istore_n 2, 1) := by decide +kernel
theorem dX12_oneTick_118 : decode cX12_oneTick 118 = .ok (.goto (-42), 3) := by decide +kernel
theorem dX12_oneTick_121 : decode cX12_oneTick 121 = .ok (.iinc 1 1, 3) := by decide +kernel
theorem dX12_oneTick_124 : decode cX12_oneTick 124 = .ok (.goto (-62), 3) := by decide +kernel
theorem dX12_oneTick_127 : decode cX12_oneTick 127 = .ok (.aload_n 0, 1) := by decide +kernel
theorem dX12_oneTick_128 : decode cX12_oneTick 128 = .ok (.invokevirtual 327, 3) := by decide +kernel
theorem dX12_oneTick_131 : decode cX12_oneTick 131 = .ok (.return_, 1) := by decide +kernel
theorem dX12_run_0 : decode cX12_run 0 = .ok (.aload_n 0, 1) := by decide +kernel
theorem dX12_run_1 : decode cX12_run 1 = .ok (.iconst 0, 1) := by decide +kernel
theorem dX12_run_2 : decode cX12_run 2 = .ok (.putfield 194, 3) := by decide +kernel
theorem dX12_run_5 : decode cX12_run 5 = .ok (.iload_n 1, 1) := by decide +kernel
theorem dX12_run_6 : decode cX12_run 6 = .ok (.i2l, 1) := by decide +kernel
theorem dX12_run_7 : decode cX12_run 7 = .ok (.lconst 1, 1) := by decide +kernel
theorem dX12_run_8 : decode cX12_run 8 = .ok (.ldc2_w 330, 3) := by decide +kernel
theorem dX12_run_11 : decode cX12_run 11 = .ok (.invokestatic 214, 3) := by decide +kernel
theorem dX12_run_14 : decode cX12_run 14 = .ok (.ifCond .ne 5, 3) := by decide +kernel
theorem dX12_run_17 : decode cX12_run 17 = .ok (.iconst (-1), 1) := by decide +kernel
theorem dX12_run_18 : decode cX12_run 18 = .ok (.ireturn, 1) := by decide +kernel
theorem dX12_run_19 : decode cX12_run 19 = .ok (.aload_n 0, 1) := by decide +kernel
theorem dX12_run_20 : decode cX12_run 20 = .ok (.getfield 60, 3) := by decide +kernel
theorem dX12_run_23 : decode cX12_run 23 = .ok (.iconst 0, 1) := by decide +kernel
theorem dX12_run_24 : decode cX12_run 24 = .ok (.iaload, 1) := by decide +kernel
theorem dX12_run_25 : decode cX12_run 25 = .ok (.istore_n 2, 1) := by decide +kernel
theorem dX12_run_26 : decode cX12_run 26 = .ok (.iconst 0, 1) := by decide +kernel
theorem dX12_run_27 : decode cX12_run 27 = .ok (.istore_n 3, 1) := by decide +kernel
theorem dX12_run_28 : decode cX12_run 28 = .ok (.iload_n 3, 1) := by decide +kernel
theorem dX12_run_29 : decode cX12_run 29 = .ok (.iload_n 1, 1) := by decide +kernel
theorem dX12_run_30 : decode cX12_run 30 = .ok (.if_icmp .ge 13, 3) := by decide +kernel
theorem dX12_run_33 : decode cX12_run 33 = .ok (.aload_n 0, 1) := by decide +kernel
theorem dX12_run_34 : decode cX12_run 34 = .ok (.invokevirtual 332, 3) := by decide +kernel
theorem dX12_run_37 : decode cX12_run 37 = .ok (.iinc 3 1, 3) := by decide +kernel
theorem dX12_run_40 : decode cX12_run 40 = .ok (.goto (-12), 3) := by decide +kernel
theorem dX12_run_43 : decode cX12_run 43 = .ok (.aload_n 0, 1) := by decide +kernel
theorem dX12_run_44 : decode cX12_run 44 = .ok (.getfield 60, 3) := by decide +kernel
theorem dX12_run_47 : decode cX12_run 47 = .ok (.iconst 0, 1) := by decide +kernel
theorem dX12_run_48 : decode cX12_run 48 = .ok (.iaload, 1) := by decide +kernel
theorem dX12_run_49 : decode cX12_run 49 = .ok (.iload_n 2, 1) := by decide +kernel
theorem dX12_run_50 : decode cX12_run 50 = .ok (.isub, 1) := by decide +kernel
theorem dX12_run_51 : decode cX12_run 51 = .ok (.ireturn, 1) := by decide +kernel
theorem dX12_look_0 : decode cX12_look 0 = .ok (.aload_n 0, 1) := by decide +kernel
theorem dX12_look_1 : decode cX12_look 1 = .ok (.iconst 0, 1) := by decide +kernel
theorem dX12_look_2 : decode cX12_look 2 = .ok (.putfield 194, 3) := by decide +kernel
theorem dX12_look_5 : decode cX12_look 5 = .ok (.aload_n 0, 1) := by decide +kernel
theorem dX12_look_6 : decode cX12_look 6 = .ok (.iload_n 1, 1) := by decide +kernel
theorem dX12_look_7 : decode cX12_look 7 = .ok (.invokevirtual 253, 3) := by decide +kernel
theorem dX12_look_10 : decode cX12_look 10 = .ok (.ifCond .ne 5, 3) := by decide +kernel
theorem dX12_look_13 : decode cX12_look 13 = .ok (.iconst (-1), 1) := by decide +kernel
theorem dX12_look_14 : decode cX12_look 14 = .ok (.ireturn, 1) := by decide +kernel
theorem dX12_look_15 : decode cX12_look 15 = .ok (.iload_n 2, 1) := by decide +kernel
theorem dX12_look_16 : decode cX12_look 16 = .ok (.tableswitch 102 0 6 #[44, 51, 58, 65, 80, 87, 94], 44) := by decide +kernel
theorem dX12_look_60 : decode cX12_look 60 = .ok (.aload_n 0, 1) := by decide +kernel
theorem dX12_look_61 : decode cX12_look 61 = .ok (.getfield 19, 3) := by decide +kernel
theorem dX12_look_64 : decode cX12_look 64 = .ok (.iload_n 1, 1) := by decide +kernel
theorem dX12_look_65 : decode cX12_look 65 = .ok (.iaload, 1) := by decide +kernel
theorem dX12_look_66 : decode cX12_look 66 = .ok (.ireturn, 1) := by decide +kernel
theorem dX12_look_67 : decode cX12_look 67 = .ok (.aload_n 0, 1) := by decide +kernel
theorem dX12_look_68 : decode cX12_look 68 = .ok (.getfield 79, 3) := by decide +kernel
theorem dX12_look_71 : decode cX12_look 71 = .ok (.iload_n 1, 1) := by decide +kernel
theorem dX12_look_72 : decode cX12_look 72 = .ok (.iaload, 1) := by decide +kernel
theorem dX12_look_73 : decode cX12_look 73 = .ok (.ireturn, 1) := by decide +kernel
theorem dX12_look_74 : decode cX12_look 74 = .ok (.aload_n 0, 1) := by decide +kernel
theorem dX12_look_75 : decode cX12_look 75 = .ok (.getfield 82, 3) := by decide +kernel
theorem dX12_look_78 : decode cX12_look 78 = .ok (.iload_n 1, 1) := by decide +kernel
theorem dX12_look_79 : decode cX12_look 79 = .ok (.iaload, 1) := by decide +kernel
theorem dX12_look_80 : decode cX12_look 80 = .ok (.ireturn, 1) := by decide +kernel
theorem dX12_look_81 : decode cX12_look 81 = .ok (.aload_n 0, 1) := by decide +kernel
theorem dX12_look_82 : decode cX12_look 82 = .ok (.getfield 85, 3) := by decide +kernel
theorem dX12_look_85 : decode cX12_look 85 = .ok (.iload_n 1, 1) := by decide +kernel
theorem dX12_look_86 : decode cX12_look 86 = .ok (.baload, 1) := by decide +kernel
theorem dX12_look_87 : decode cX12_look 87 = .ok (.ifCond .eq 7, 3) := by decide +kernel
theorem dX12_look_90 : decode cX12_look 90 = .ok (.iconst 1, 1) := by decide +kernel
end
section
theorem dX12_look_91 : decode cX12_look 91 = .ok (.goto 4, 3) := by decide +kernel
theorem dX12_look_94 : decode cX12_look 94 = .ok (.iconst 0, 1) := by decide +kernel
theorem dX12_look_95 : decode cX12_look 95 = .ok (.ireturn, 1) := by decide +kernel
theorem dX12_look_96 : decode cX12_look 96 = .ok (.aload_n 0, 1) := by decide +kernel
theorem dX12_look_97 : decode cX12_look 97 = .ok (.getfield 88, 3) := by decide +kernel
theorem dX12_look_100 : decode cX12_look 100 = .ok (.iload_n 1, 1) := by decide +kernel
theorem dX12_look_101 : decode cX12_look 101 = .ok (.iaload, 1) := by decide +kernel
theorem dX12_look_102 : decode cX12_look 102 = .ok (.ireturn, 1) := by decide +kernel
theorem dX12_look_103 : decode cX12_look 103 = .ok (.aload_n 0, 1) := by decide +kernel
theorem dX12_look_104 : decode cX12_look 104 = .ok (.getfield 94, 3) := by decide +kernel
theorem dX12_look_107 : decode cX12_look 107 = .ok (.iload_n 1, 1) := by decide +kernel
theorem dX12_look_108 : decode cX12_look 108 = .ok (.iaload, 1) := by decide +kernel
theorem dX12_look_109 : decode cX12_look 109 = .ok (.ireturn, 1) := by decide +kernel
theorem dX12_look_110 : decode cX12_look 110 = .ok (.aload_n 0, 1) := by decide +kernel
theorem dX12_look_111 : decode cX12_look 111 = .ok (.getfield 97, 3) := by decide +kernel
theorem dX12_look_114 : decode cX12_look 114 = .ok (.iload_n 1, 1) := by decide +kernel
theorem dX12_look_115 : decode cX12_look 115 = .ok (.laload, 1) := by decide +kernel
theorem dX12_look_116 : decode cX12_look 116 = .ok (.l2i, 1) := by decide +kernel
theorem dX12_look_117 : decode cX12_look 117 = .ok (.ireturn, 1) := by decide +kernel
theorem dX12_look_118 : decode cX12_look 118 = .ok (.iconst (-1), 1) := by decide +kernel
theorem dX12_look_119 : decode cX12_look 119 = .ok (.ireturn, 1) := by decide +kernel
theorem dX12_fault_0 : decode cX12_fault 0 = .ok (.aload_n 0, 1) := by decide +kernel
theorem dX12_fault_1 : decode cX12_fault 1 = .ok (.iconst 0, 1) := by decide +kernel
theorem dX12_fault_2 : decode cX12_fault 2 = .ok (.putfield 194, 3) := by decide +kernel
theorem dX12_fault_5 : decode cX12_fault 5 = .ok (.aload_n 0, 1) := by decide +kernel
theorem dX12_fault_6 : decode cX12_fault 6 = .ok (.iload_n 1, 1) := by decide +kernel
theorem dX12_fault_7 : decode cX12_fault 7 = .ok (.invokevirtual 253, 3) := by decide +kernel
theorem dX12_fault_10 : decode cX12_fault 10 = .ok (.ifCond .eq 17, 3) := by decide +kernel
theorem dX12_fault_13 : decode cX12_fault 13 = .ok (.iload_n 2, 1) := by decide +kernel
theorem dX12_fault_14 : decode cX12_fault 14 = .ok (.ifCond .lt 13, 3) := by decide +kernel
theorem dX12_fault_17 : decode cX12_fault 17 = .ok (.iload_n 2, 1) := by decide +kernel
theorem dX12_fault_18 : decode cX12_fault 18 = .ok (.aload_n 0, 1) := by decide +kernel
theorem dX12_fault_19 : decode cX12_fault 19 = .ok (.getfield 88, 3) := by decide +kernel
theorem dX12_fault_22 : decode cX12_fault 22 = .ok (.iload_n 1, 1) := by decide +kernel
theorem dX12_fault_23 : decode cX12_fault 23 = .ok (.iaload, 1) := by decide +kernel
theorem dX12_fault_24 : decode cX12_fault 24 = .ok (.if_icmp .lt 7, 3) := by decide +kernel
theorem dX12_fault_27 : decode cX12_fault 27 = .ok (.iconst (-1), 1) := by decide +kernel
theorem dX12_fault_28 : decode cX12_fault 28 = .ok (.goto 22, 3) := by decide +kernel
theorem dX12_fault_31 : decode cX12_fault 31 = .ok (.aload_n 0, 1) := by decide +kernel
theorem dX12_fault_32 : decode cX12_fault 32 = .ok (.getfield 91, 3) := by decide +kernel
theorem dX12_fault_35 : decode cX12_fault 35 = .ok (.iconst 4, 1) := by decide +kernel
theorem dX12_fault_36 : decode cX12_fault 36 = .ok (.iload_n 1, 1) := by decide +kernel
theorem dX12_fault_37 : decode cX12_fault 37 = .ok (.imul, 1) := by decide +kernel
theorem dX12_fault_38 : decode cX12_fault 38 = .ok (.aload_n 0, 1) := by decide +kernel
theorem dX12_fault_39 : decode cX12_fault 39 = .ok (.getfield 88, 3) := by decide +kernel
theorem dX12_fault_42 : decode cX12_fault 42 = .ok (.iload_n 1, 1) := by decide +kernel
theorem dX12_fault_43 : decode cX12_fault 43 = .ok (.iaload, 1) := by decide +kernel
theorem dX12_fault_44 : decode cX12_fault 44 = .ok (.iadd, 1) := by decide +kernel
theorem dX12_fault_45 : decode cX12_fault 45 = .ok (.iconst 1, 1) := by decide +kernel
theorem dX12_fault_46 : decode cX12_fault 46 = .ok (.isub, 1) := by decide +kernel
theorem dX12_fault_47 : decode cX12_fault 47 = .ok (.iload_n 2, 1) := by decide +kernel
theorem dX12_fault_48 : decode cX12_fault 48 = .ok (.isub, 1) := by decide +kernel
theorem dX12_fault_49 : decode cX12_fault 49 = .ok (.iaload, 1) := by decide +kernel
theorem dX12_fault_50 : decode cX12_fault 50 = .ok (.ireturn, 1) := by decide +kernel
theorem dX12_cell_0 : decode cX12_cell 0 = .ok (.aload_n 0, 1) := by decide +kernel
theorem dX12_cell_1 : decode cX12_cell 1 = .ok (.aload_n 0, 1) := by decide +kernel
theorem dX12_cell_2 : decode cX12_cell 2 = .ok (.iload_n 1, 1) := by decide +kernel
theorem dX12_cell_3 : decode cX12_cell 3 = .ok (.invokevirtual 253, 3) := by decide +kernel
theorem dX12_cell_6 : decode cX12_cell 6 = .ok (.ifCond .eq 19, 3) := by decide +kernel
theorem dX12_cell_9 : decode cX12_cell 9 = .ok (.iload_n 2, 1) := by decide +kernel
theorem dX12_cell_10 : decode cX12_cell 10 = .ok (.i2l, 1) := by decide +kernel
theorem dX12_cell_11 : decode cX12_cell 11 = .ok (.lconst 0, 1) := by decide +kernel
theorem dX12_cell_12 : decode cX12_cell 12 = .ok (.ldc2_w 226, 3) := by decide +kernel
theorem dX12_cell_15 : decode cX12_cell 15 = .ok (.invokestatic 214, 3) := by decide +kernel
theorem dX12_cell_18 : decode cX12_cell 18 = .ok (.ifCond .eq 7, 3) := by decide +kernel
theorem dX12_cell_21 : decode cX12_cell 21 = .ok (.iconst 0, 1) := by decide +kernel
theorem dX12_cell_22 : decode cX12_cell 22 = .ok (.goto 4, 3) := by decide +kernel
theorem dX12_cell_25 : decode cX12_cell 25 = .ok (.iconst 1, 1) := by decide +kernel
theorem dX12_cell_26 : decode cX12_cell 26 = .ok (.putfield 194, 3) := by decide +kernel
theorem dX12_cell_29 : decode cX12_cell 29 = .ok (.aload_n 0, 1) := by decide +kernel
theorem dX12_cell_30 : decode cX12_cell 30 = .ok (.getfield 194, 3) := by decide +kernel
theorem dX12_cell_33 : decode cX12_cell 33 = .ok (.ifCond .le 7, 3) := by decide +kernel
theorem dX12_cell_36 : decode cX12_cell 36 = .ok (.iconst 0, 1) := by decide +kernel
theorem dX12_cell_37 : decode cX12_cell 37 = .ok (.goto 13, 3) := by decide +kernel
theorem dX12_cell_40 : decode cX12_cell 40 = .ok (.aload_n 0, 1) := by decide +kernel
theorem dX12_cell_41 : decode cX12_cell 41 = .ok (.getfield 100, 3) := by decide +kernel
theorem dX12_cell_44 : decode cX12_cell 44 = .ok (.iconst 4, 1) := by decide +kernel
theorem dX12_cell_45 : decode cX12_cell 45 = .ok (.iload_n 1, 1) := by decide +kernel
theorem dX12_cell_46 : decode cX12_cell 46 = .ok (.imul, 1) := by decide +kernel
theorem dX12_cell_47 : decode cX12_cell 47 = .ok (.iload_n 2, 1) := by decide +kernel
theorem dX12_cell_48 : decode cX12_cell 48 = .ok (.iadd, 1) := by decide +kernel
theorem dX12_cell_49 : decode cX12_cell 49 = .ok (.iaload, 1) := by decide +kernel
theorem dX12_cell_50 : decode cX12_cell 50 = .ok (.ireturn, 1) := by decide +kernel
theorem dX12_queuePlace_0 : decode cX12_queuePlace 0 = .ok (.iconst 0, 1) := by decide +kernel
theorem dX12_queuePlace_1 : decode cX12_queuePlace 1 = .ok (.istore_n 2, 1) := by decide +kernel
theorem dX12_queuePlace_2 : decode cX12_queuePlace 2 = .ok (.iconst 0, 1) := by decide +kernel
theorem dX12_queuePlace_3 : decode cX12_queuePlace 3 = .ok (.istore_n 3, 1) := by decide +kernel
theorem dX12_queuePlace_4 : decode cX12_queuePlace 4 = .ok (.iload_n 3, 1) := by decide +kernel
theorem dX12_queuePlace_5 : decode cX12_queuePlace 5 = .ok (.aload_n 0, 1) := by decide +kernel
theorem dX12_queuePlace_6 : decode cX12_queuePlace 6 = .ok (.getfield 200, 3) := by decide +kernel
theorem dX12_queuePlace_9 : decode cX12_queuePlace 9 = .ok (.if_icmp .ge 47, 3) := by decide +kernel
theorem dX12_queuePlace_12 : decode cX12_queuePlace 12 = .ok (.iload_n 2, 1) := by decide +kernel
theorem dX12_queuePlace_13 : decode cX12_queuePlace 13 = .ok (.aload_n 0, 1) := by decide +kernel
theorem dX12_queuePlace_14 : decode cX12_queuePlace 14 = .ok (.getfield 103, 3) := by decide +kernel
theorem dX12_queuePlace_17 : decode cX12_queuePlace 17 = .ok (.iload_n 3, 1) := by decide +kernel
theorem dX12_queuePlace_18 : decode cX12_queuePlace 18 = .ok (.iaload, 1) := by decide +kernel
theorem dX12_queuePlace_19 : decode cX12_queuePlace 19 = .ok (.aload_n 0, 1) := by decide +kernel
theorem dX12_queuePlace_20 : decode cX12_queuePlace 20 = .ok (.getfield 103, 3) := by decide +kernel
theorem dX12_queuePlace_23 : decode cX12_queuePlace 23 = .ok (.iload_n 1, 1) := by decide +kernel
theorem dX12_queuePlace_24 : decode cX12_queuePlace 24 = .ok (.iaload, 1) := by decide +kernel
theorem dX12_queuePlace_25 : decode cX12_queuePlace 25 = .ok (.if_icmp .ne 22, 3) := by decide +kernel
theorem dX12_queuePlace_28 : decode cX12_queuePlace 28 = .ok (.aload_n 0, 1) := by decide +kernel
theorem dX12_queuePlace_29 : decode cX12_queuePlace 29 = .ok (.getfield 106, 3) := by decide +kernel
theorem dX12_queuePlace_32 : decode cX12_queuePlace 32 = .ok (.iload_n 3, 1) := by decide +kernel
theorem dX12_queuePlace_33 : decode cX12_queuePlace 33 = .ok (.iaload, 1) := by decide +kernel
theorem dX12_queuePlace_34 : decode cX12_queuePlace 34 = .ok (.aload_n 0, 1) := by decide +kernel
theorem dX12_queuePlace_35 : decode cX12_queuePlace 35 = .ok (.getfield 106, 3) := by decide +kernel
theorem dX12_queuePlace_38 : decode cX12_queuePlace 38 = .ok (.iload_n 1, 1) := by decide +kernel
theorem dX12_queuePlace_39 : decode cX12_queuePlace 39 = .ok (.iaload, 1) := by decide +kernel
theorem dX12_queuePlace_40 : decode cX12_queuePlace 40 = .ok (.if_icmp .ge 7, 3) := by decide +kernel
theorem dX12_queuePlace_43 : decode cX12_queuePlace 43 = .ok (.iconst 1, 1) := by decide +kernel
theorem dX12_queuePlace_44 : decode cX12_queuePlace 44 = .ok (.goto 4, 3) := by decide +kernel
theorem dX12_queuePlace_47 : decode cX12_queuePlace 47 = .ok (.iconst 0, 1) := by decide +kernel
theorem dX12_queuePlace_48 : decode cX12_queuePlace 48 = .ok (.iadd, 1) := by decide +kernel
theorem dX12_queuePlace_49 : decode cX12_queuePlace 49 = .ok (.istore_n 2, 1) := by decide +kernel
theorem dX12_queuePlace_50 : decode cX12_queuePlace 50 = .ok (.iinc 3 1, 3) := by decide +kernel
theorem dX12_queuePlace_53 : decode cX12_queuePlace 53 = .ok (.goto (-49), 3) := by decide +kernel
theorem dX12_queuePlace_56 : decode cX12_queuePlace 56 = .ok (.iload_n 2, 1) := by decide +kernel
theorem dX12_queuePlace_57 : decode cX12_queuePlace 57 = .ok (.ireturn, 1) := by decide +kernel
theorem dX12_about_0 : decode cX12_about 0 = .ok (.aload_n 0, 1) := by decide +kernel
theorem dX12_about_1 : decode cX12_about 1 = .ok (.iconst 0, 1) := by decide +kernel
theorem dX12_about_2 : decode cX12_about 2 = .ok (.putfield 194, 3) := by decide +kernel
theorem dX12_about_5 : decode cX12_about 5 = .ok (.aload_n 0, 1) := by decide +kernel
theorem dX12_about_6 : decode cX12_about 6 = .ok (.iload_n 1, 1) := by decide +kernel
theorem dX12_about_7 : decode cX12_about 7 = .ok (.invokevirtual 228, 3) := by decide +kernel
theorem dX12_about_10 : decode cX12_about 10 = .ok (.ifCond .ne 5, 3) := by decide +kernel
theorem dX12_about_13 : decode cX12_about 13 = .ok (.iconst (-1), 1) := by decide +kernel
theorem dX12_about_14 : decode cX12_about 14 = .ok (.ireturn, 1) := by decide +kernel
theorem dX12_about_15 : decode cX12_about 15 = .ok (.iload_n 2, 1) := by decide +kernel
theorem dX12_about_16 : decode cX12_about 16 = .ok (.tableswitch 132 0 7 #[48, 55, 62, 89, 96, 103, 118, 126], 48) := by decide +kernel
theorem dX12_about_64 : decode cX12_about 64 = .ok (.aload_n 0, 1) := by decide +kernel
theorem dX12_about_65 : decode cX12_about 65 = .ok (.getfield 103, 3) := by decide +kernel
theorem dX12_about_68 : decode cX12_about 68 = .ok (.iload_n 1, 1) := by decide +kernel
theorem dX12_about_69 : decode cX12_about 69 = .ok (.iaload, 1) := by decide +kernel
theorem dX12_about_70 : decode cX12_about 70 = .ok (.ireturn, 1) := by decide +kernel
theorem dX12_about_71 : decode cX12_about 71 = .ok (.aload_n 0, 1) := by decide +kernel
theorem dX12_about_72 : decode cX12_about 72 = .ok (.getfield 121, 3) := by decide +kernel
theorem dX12_about_75 : decode cX12_about 75 = .ok (.iload_n 1, 1) := by decide +kernel
theorem dX12_about_76 : decode cX12_about 76 = .ok (.iaload, 1) := by decide +kernel
theorem dX12_about_77 : decode cX12_about 77 = .ok (.ireturn, 1) := by decide +kernel
theorem dX12_about_78 : decode cX12_about 78 = .ok (.aload_n 0, 1) := by decide +kernel
theorem dX12_about_79 : decode cX12_about 79 = .ok (.getfield 118, 3) := by decide +kernel
theorem dX12_about_82 : decode cX12_about 82 = .ok (.iload_n 1, 1) := by decide +kernel
theorem dX12_about_83 : decode cX12_about 83 = .ok (.baload, 1) := by decide +kernel
theorem dX12_about_84 : decode cX12_about 84 = .ok (.ifCond .eq 7, 3) := by decide +kernel
theorem dX12_about_87 : decode cX12_about 87 = .ok (.iconst 0, 1) := by decide +kernel
theorem dX12_about_88 : decode cX12_about 88 = .ok (.goto 16, 3) := by decide +kernel
theorem dX12_about_91 : decode cX12_about 91 = .ok (.aload_n 0, 1) := by decide +kernel
theorem dX12_about_92 : decode cX12_about 92 = .ok (.getfield 22, 3) := by decide +kernel
theorem dX12_about_95 : decode cX12_about 95 = .ok (.iload_n 1, 1) := by decide +kernel
theorem dX12_about_96 : decode cX12_about 96 = .ok (.iaload, 1) := by decide +kernel
theorem dX12_about_97 : decode cX12_about 97 = .ok (.aload_n 0, 1) := by decide +kernel
theorem dX12_about_98 : decode cX12_about 98 = .ok (.getfield 109, 3) := by decide +kernel
theorem dX12_about_101 : decode cX12_about 101 = .ok (.iload_n 1, 1) := by decide +kernel
theorem dX12_about_102 : decode cX12_about 102 = .ok (.iaload, 1) := by decide +kernel
theorem dX12_about_103 : decode cX12_about 103 = .ok (.isub, 1) := by decide +kernel
theorem dX12_about_104 : decode cX12_about 104 = .ok (.ireturn, 1) := by decide +kernel
theorem dX12_about_105 : decode cX12_about 105 = .ok (.aload_n 0, 1) := by decide +kernel
theorem dX12_about_106 : decode cX12_about 106 = .ok (.getfield 112, 3) := by decide +kernel
theorem dX12_about_109 : decode cX12_about 109 = .ok (.iload_n 1, 1) := by decide +kernel
theorem dX12_about_110 : decode cX12_about 110 = .ok (.iaload, 1) := by decide +kernel
theorem dX12_about_111 : decode cX12_about 111 = .ok (.ireturn, 1) := by decide +kernel
theorem dX12_about_112 : decode cX12_about 112 = .ok (.aload_n 0, 1) := by decide +kernel
theorem dX12_about_113 : decode cX12_about 113 = .ok (.getfield 115, 3) := by decide +kernel
theorem dX12_about_116 : decode cX12_about 116 = .ok (.iload_n 1, 1) := by decide +kernel
theorem dX12_about_117 : decode cX12_about 117 = .ok (.iaload, 1) := by decide +kernel
theorem dX12_about_118 : decode cX12_about 118 = .ok (.ireturn, 1) := by decide +kernel
theorem dX12_about_119 : decode cX12_about 119 = .ok (.aload_n 0, 1) := by decide +kernel
theorem dX12_about_120 : decode cX12_about 120 = .ok (.getfield 118, 3) := by decide +kernel
theorem dX12_about_123 : decode cX12_about 123 = .ok (.iload_n 1, 1) := by decide +kernel
theorem dX12_about_124 : decode cX12_about 124 = .ok (.baload, 1) := by decide +kernel
theorem dX12_about_125 : decode cX12_about 125 = .ok (.ifCond .eq 7, 3) := by decide +kernel
theorem dX12_about_128 : decode cX12_about 128 = .ok (.iconst 1, 1) := by decide +kernel
theorem dX12_about_129 : decode cX12_about 129 = .ok (.goto 4, 3) := by decide +kernel
theorem dX12_about_132 : decode cX12_about 132 = .ok (.iconst 0, 1) := by decide +kernel
theorem dX12_about_133 : decode cX12_about 133 = .ok (.ireturn, 1) := by decide +kernel
theorem dX12_about_134 : decode cX12_about 134 = .ok (.aload_n 0, 1) := by decide +kernel
theorem dX12_about_135 : decode cX12_about 135 = .ok (.getfield 124, 3) := by decide +kernel
theorem dX12_about_138 : decode cX12_about 138 = .ok (.iload_n 1, 1) := by decide +kernel
theorem dX12_about_139 : decode cX12_about 139 = .ok (.laload, 1) := by decide +kernel
theorem dX12_about_140 : decode cX12_about 140 = .ok (.l2i, 1) := by decide +kernel
theorem dX12_about_141 : decode cX12_about 141 = .ok (.ireturn, 1) := by decide +kernel
theorem dX12_about_142 : decode cX12_about 142 = .ok (.aload_n 0, 1) := by decide +kernel
theorem dX12_about_143 : decode cX12_about 143 = .ok (.iload_n 1, 1) := by decide +kernel
theorem dX12_about_144 : decode cX12_about 144 = .ok (.invokevirtual 335, 3) := by decide +kernel
theorem dX12_about_147 : decode cX12_about 147 = .ok (.ireturn, 1) := by decide +kernel
theorem dX12_about_148 : decode cX12_about 148 = .ok (.iconst (-1), 1) := by decide +kernel
theorem dX12_about_149 : decode cX12_about 149 = .ok (.ireturn, 1) := by decide +kernel
theorem dX12_read_0 : decode cX12_read 0 = .ok (.aload_n 0, 1) := by decide +kernel
theorem dX12_read_1 : decode cX12_read 1 = .ok (.aload_n 0, 1) := by decide +kernel
theorem dX12_read_2 : decode cX12_read 2 = .ok (.iload_n 1, 1) := by decide +kernel
theorem dX12_read_3 : decode cX12_read 3 = .ok (.invokevirtual 228, 3) := by decide +kernel
theorem dX12_read_6 : decode cX12_read 6 = .ok (.ifCond .eq 7, 3) := by decide +kernel
theorem dX12_read_9 : decode cX12_read 9 = .ok (.iconst 0, 1) := by decide +kernel
theorem dX12_read_10 : decode cX12_read 10 = .ok (.goto 4, 3) := by decide +kernel
theorem dX12_read_13 : decode cX12_read 13 = .ok (.iconst 1, 1) := by decide +kernel
theorem dX12_read_14 : decode cX12_read 14 = .ok (.putfield 194, 3) := by decide +kernel
theorem dX12_read_17 : decode cX12_read 17 = .ok (.aload_n 0, 1) := by decide +kernel
theorem dX12_read_18 : decode cX12_read 18 = .ok (.getfield 194, 3) := by decide +kernel
theorem dX12_read_21 : decode cX12_read 21 = .ok (.ifCond .le 7, 3) := by decide +kernel
theorem dX12_read_24 : decode cX12_read 24 = .ok (.iconst 0, 1) := by decide +kernel
theorem dX12_read_25 : decode cX12_read 25 = .ok (.goto 9, 3) := by decide +kernel
theorem dX12_read_28 : decode cX12_read 28 = .ok (.aload_n 0, 1) := by decide +kernel
theorem dX12_read_29 : decode cX12_read 29 = .ok (.getfield 127, 3) := by decide +kernel
theorem dX12_read_32 : decode cX12_read 32 = .ok (.iload_n 1, 1) := by decide +kernel
theorem dX12_read_33 : decode cX12_read 33 = .ok (.iaload, 1) := by decide +kernel
theorem dX12_read_34 : decode cX12_read 34 = .ok (.ireturn, 1) := by decide +kernel
theorem dX12_node_0 : decode cX12_node 0 = .ok (.aload_n 0, 1) := by decide +kernel
theorem dX12_node_1 : decode cX12_node 1 = .ok (.iconst 0, 1) := by decide +kernel
theorem dX12_node_2 : decode cX12_node 2 = .ok (.putfield 194, 3) := by decide +kernel
theorem dX12_node_5 : decode cX12_node 5 = .ok (.aload_n 0, 1) := by decide +kernel
theorem dX12_node_6 : decode cX12_node 6 = .ok (.iload_n 1, 1) := by decide +kernel
theorem dX12_node_7 : decode cX12_node 7 = .ok (.invokevirtual 204, 3) := by decide +kernel
theorem dX12_node_10 : decode cX12_node 10 = .ok (.ifCond .eq 15, 3) := by decide +kernel
theorem dX12_node_13 : decode cX12_node 13 = .ok (.iload_n 2, 1) := by decide +kernel
theorem dX12_node_14 : decode cX12_node 14 = .ok (.i2l, 1) := by decide +kernel
theorem dX12_node_15 : decode cX12_node 15 = .ok (.lconst 0, 1) := by decide +kernel
theorem dX12_node_16 : decode cX12_node 16 = .ok (.ldc2_w 226, 3) := by decide +kernel
theorem dX12_node_19 : decode cX12_node 19 = .ok (.invokestatic 214, 3) := by decide +kernel
theorem dX12_node_22 : decode cX12_node 22 = .ok (.ifCond .ne 5, 3) := by decide +kernel
theorem dX12_node_25 : decode cX12_node 25 = .ok (.iconst (-1), 1) := by decide +kernel
theorem dX12_node_26 : decode cX12_node 26 = .ok (.ireturn, 1) := by decide +kernel
theorem dX12_node_27 : decode cX12_node 27 = .ok (.iconst 0, 1) := by decide +kernel
theorem dX12_node_28 : decode cX12_node 28 = .ok (.istore_n 3, 1) := by decide +kernel
theorem dX12_node_29 : decode cX12_node 29 = .ok (.iconst 0, 1) := by decide +kernel
theorem dX12_node_30 : decode cX12_node 30 = .ok (.istore 4, 2) := by decide +kernel
theorem dX12_node_32 : decode cX12_node 32 = .ok (.iload 4, 2) := by decide +kernel
theorem dX12_node_34 : decode cX12_node 34 = .ok (.aload_n 0, 1) := by decide +kernel
theorem dX12_node_35 : decode cX12_node 35 = .ok (.getfield 200, 3) := by decide +kernel
theorem dX12_node_38 : decode cX12_node 38 = .ok (.if_icmp .ge 28, 3) := by decide +kernel
theorem dX12_node_41 : decode cX12_node 41 = .ok (.iload_n 3, 1) := by decide +kernel
theorem dX12_node_42 : decode cX12_node 42 = .ok (.aload_n 0, 1) := by decide +kernel
theorem dX12_node_43 : decode cX12_node 43 = .ok (.getfield 103, 3) := by decide +kernel
theorem dX12_node_46 : decode cX12_node 46 = .ok (.iload 4, 2) := by decide +kernel
theorem dX12_node_48 : decode cX12_node 48 = .ok (.iaload, 1) := by decide +kernel
theorem dX12_node_49 : decode cX12_node 49 = .ok (.iload_n 1, 1) := by decide +kernel
theorem dX12_node_50 : decode cX12_node 50 = .ok (.if_icmp .ne 7, 3) := by decide +kernel
theorem dX12_node_53 : decode cX12_node 53 = .ok (.iconst 1, 1) := by decide +kernel
theorem dX12_node_54 : decode cX12_node 54 = .ok (.goto 4, 3) := by decide +kernel
theorem dX12_node_57 : decode cX12_node 57 = .ok (.iconst 0, 1) := by decide +kernel
theorem dX12_node_58 : decode cX12_node 58 = .ok (.iadd, 1) := by decide +kernel
theorem dX12_node_59 : decode cX12_node 59 = .ok (.istore_n 3, 1) := by decide +kernel
theorem dX12_node_60 : decode cX12_node 60 = .ok (.iinc 4 1, 3) := by decide +kernel
theorem dX12_node_63 : decode cX12_node 63 = .ok (.goto (-31), 3) := by decide +kernel
theorem dX12_node_66 : decode cX12_node 66 = .ok (.iload_n 2, 1) := by decide +kernel
theorem dX12_node_67 : decode cX12_node 67 = .ok (.ifCond .ne 11, 3) := by decide +kernel
theorem dX12_node_70 : decode cX12_node 70 = .ok (.aload_n 0, 1) := by decide +kernel
theorem dX12_node_71 : decode cX12_node 71 = .ok (.iload_n 1, 1) := by decide +kernel
theorem dX12_node_72 : decode cX12_node 72 = .ok (.invokevirtual 246, 3) := by decide +kernel
theorem dX12_node_75 : decode cX12_node 75 = .ok (.goto 37, 3) := by decide +kernel
theorem dX12_node_78 : decode cX12_node 78 = .ok (.iload_n 2, 1) := by decide +kernel
theorem dX12_node_79 : decode cX12_node 79 = .ok (.iconst 1, 1) := by decide +kernel
theorem dX12_node_80 : decode cX12_node 80 = .ok (.if_icmp .ne 13, 3) := by decide +kernel
theorem dX12_node_83 : decode cX12_node 83 = .ok (.aload_n 0, 1) := by decide +kernel
theorem dX12_node_84 : decode cX12_node 84 = .ok (.getfield 133, 3) := by decide +kernel
theorem dX12_node_87 : decode cX12_node 87 = .ok (.iload_n 1, 1) := by decide +kernel
theorem dX12_node_88 : decode cX12_node 88 = .ok (.laload, 1) := by decide +kernel
theorem dX12_node_89 : decode cX12_node 89 = .ok (.l2i, 1) := by decide +kernel
theorem dX12_node_90 : decode cX12_node 90 = .ok (.goto 22, 3) := by decide +kernel
theorem dX12_node_93 : decode cX12_node 93 = .ok (.iload_n 2, 1) := by decide +kernel
theorem dX12_node_94 : decode cX12_node 94 = .ok (.iconst 2, 1) := by decide +kernel
theorem dX12_node_95 : decode cX12_node 95 = .ok (.if_icmp .ne 16, 3) := by decide +kernel
theorem dX12_node_98 : decode cX12_node 98 = .ok (.aload_n 0, 1) := by decide +kernel
theorem dX12_node_99 : decode cX12_node 99 = .ok (.getfield 185, 3) := by decide +kernel
theorem dX12_node_102 : decode cX12_node 102 = .ok (.aload_n 0, 1) := by decide +kernel
theorem dX12_node_103 : decode cX12_node 103 = .ok (.iload_n 1, 1) := by decide +kernel
theorem dX12_node_104 : decode cX12_node 104 = .ok (.invokevirtual 321, 3) := by decide +kernel
theorem dX12_node_107 : decode cX12_node 107 = .ok (.isub, 1) := by decide +kernel
theorem dX12_node_108 : decode cX12_node 108 = .ok (.goto 4, 3) := by decide +kernel
theorem dX12_node_111 : decode cX12_node 111 = .ok (.iload_n 3, 1) := by decide +kernel
theorem dX12_node_112 : decode cX12_node 112 = .ok (.ireturn, 1) := by decide +kernel
theorem dX12_linked_0 : decode cX12_linked 0 = .ok (.aload_n 0, 1) := by decide +kernel
theorem dX12_linked_1 : decode cX12_linked 1 = .ok (.iconst 0, 1) := by decide +kernel
theorem dX12_linked_2 : decode cX12_linked 2 = .ok (.putfield 194, 3) := by decide +kernel
theorem dX12_linked_5 : decode cX12_linked 5 = .ok (.aload_n 0, 1) := by decide +kernel
theorem dX12_linked_6 : decode cX12_linked 6 = .ok (.iload_n 1, 1) := by decide +kernel
theorem dX12_linked_7 : decode cX12_linked 7 = .ok (.iload_n 2, 1) := by decide +kernel
theorem dX12_linked_8 : decode cX12_linked 8 = .ok (.invokevirtual 208, 3) := by decide +kernel
theorem dX12_linked_11 : decode cX12_linked 11 = .ok (.ifCond .eq 15, 3) := by decide +kernel
theorem dX12_linked_14 : decode cX12_linked 14 = .ok (.iload_n 3, 1) := by decide +kernel
theorem dX12_linked_15 : decode cX12_linked 15 = .ok (.i2l, 1) := by decide +kernel
theorem dX12_linked_16 : decode cX12_linked 16 = .ok (.lconst 0, 1) := by decide +kernel
theorem dX12_linked_17 : decode cX12_linked 17 = .ok (.ldc2_w 226, 3) := by decide +kernel
theorem dX12_linked_20 : decode cX12_linked 20 = .ok (.invokestatic 214, 3) := by decide +kernel
theorem dX12_linked_23 : decode cX12_linked 23 = .ok (.ifCond .ne 5, 3) := by decide +kernel
theorem dX12_linked_26 : decode cX12_linked 26 = .ok (.iconst (-1), 1) := by decide +kernel
theorem dX12_linked_27 : decode cX12_linked 27 = .ok (.ireturn, 1) := by decide +kernel
theorem dX12_linked_28 : decode cX12_linked 28 = .ok (.iload_n 1, 1) := by decide +kernel
theorem dX12_linked_29 : decode cX12_linked 29 = .ok (.iload_n 2, 1) := by decide +kernel
theorem dX12_linked_30 : decode cX12_linked 30 = .ok (.if_icmp .ge 11, 3) := by decide +kernel
theorem dX12_linked_33 : decode cX12_linked 33 = .ok (.iconst 4, 1) := by decide +kernel
theorem dX12_linked_34 : decode cX12_linked 34 = .ok (.iload_n 1, 1) := by decide +kernel
theorem dX12_linked_35 : decode cX12_linked 35 = .ok (.imul, 1) := by decide +kernel
theorem dX12_linked_36 : decode cX12_linked 36 = .ok (.iload_n 2, 1) := by decide +kernel
theorem dX12_linked_37 : decode cX12_linked 37 = .ok (.iadd, 1) := by decide +kernel
theorem dX12_linked_38 : decode cX12_linked 38 = .ok (.goto 8, 3) := by decide +kernel
theorem dX12_linked_41 : decode cX12_linked 41 = .ok (.iconst 4, 1) := by decide +kernel
theorem dX12_linked_42 : decode cX12_linked 42 = .ok (.iload_n 2, 1) := by decide +kernel
theorem dX12_linked_43 : decode cX12_linked 43 = .ok (.imul, 1) := by decide +kernel
theorem dX12_linked_44 : decode cX12_linked 44 = .ok (.iload_n 1, 1) := by decide +kernel
theorem dX12_linked_45 : decode cX12_linked 45 = .ok (.iadd, 1) := by decide +kernel
theorem dX12_linked_46 : decode cX12_linked 46 = .ok (.istore 4, 2) := by decide +kernel
theorem dX12_linked_48 : decode cX12_linked 48 = .ok (.iload_n 3, 1) := by decide +kernel
theorem dX12_linked_49 : decode cX12_linked 49 = .ok (.ifCond .ne 13, 3) := by decide +kernel
theorem dX12_linked_52 : decode cX12_linked 52 = .ok (.aload_n 0, 1) := by decide +kernel
theorem dX12_linked_53 : decode cX12_linked 53 = .ok (.getfield 7, 3) := by decide +kernel
theorem dX12_linked_56 : decode cX12_linked 56 = .ok (.iload 4, 2) := by decide +kernel
theorem dX12_linked_58 : decode cX12_linked 58 = .ok (.iaload, 1) := by decide +kernel
theorem dX12_linked_59 : decode cX12_linked 59 = .ok (.goto 40, 3) := by decide +kernel
theorem dX12_linked_62 : decode cX12_linked 62 = .ok (.iload_n 3, 1) := by decide +kernel
theorem dX12_linked_63 : decode cX12_linked 63 = .ok (.iconst 1, 1) := by decide +kernel
theorem dX12_linked_64 : decode cX12_linked 64 = .ok (.if_icmp .ne 13, 3) := by decide +kernel
theorem dX12_linked_67 : decode cX12_linked 67 = .ok (.aload_n 0, 1) := by decide +kernel
theorem dX12_linked_68 : decode cX12_linked 68 = .ok (.getfield 13, 3) := by decide +kernel
theorem dX12_linked_71 : decode cX12_linked 71 = .ok (.iload 4, 2) := by decide +kernel
theorem dX12_linked_73 : decode cX12_linked 73 = .ok (.iaload, 1) := by decide +kernel
theorem dX12_linked_74 : decode cX12_linked 74 = .ok (.goto 25, 3) := by decide +kernel
theorem dX12_linked_77 : decode cX12_linked 77 = .ok (.iload_n 3, 1) := by decide +kernel
theorem dX12_linked_78 : decode cX12_linked 78 = .ok (.iconst 2, 1) := by decide +kernel
theorem dX12_linked_79 : decode cX12_linked 79 = .ok (.if_icmp .ne 13, 3) := by decide +kernel
theorem dX12_linked_82 : decode cX12_linked 82 = .ok (.aload_n 0, 1) := by decide +kernel
theorem dX12_linked_83 : decode cX12_linked 83 = .ok (.getfield 139, 3) := by decide +kernel
theorem dX12_linked_86 : decode cX12_linked 86 = .ok (.iload 4, 2) := by decide +kernel
theorem dX12_linked_88 : decode cX12_linked 88 = .ok (.iaload, 1) := by decide +kernel
theorem dX12_linked_89 : decode cX12_linked 89 = .ok (.goto 10, 3) := by decide +kernel
theorem dX12_linked_92 : decode cX12_linked 92 = .ok (.aload_n 0, 1) := by decide +kernel
theorem dX12_linked_93 : decode cX12_linked 93 = .ok (.getfield 142, 3) := by decide +kernel
theorem dX12_linked_96 : decode cX12_linked 96 = .ok (.iload 4, 2) := by decide +kernel
theorem dX12_linked_98 : decode cX12_linked 98 = .ok (.iaload, 1) := by decide +kernel
theorem dX12_linked_99 : decode cX12_linked 99 = .ok (.ireturn, 1) := by decide +kernel
theorem dX12_log_0 : decode cX12_log 0 = .ok (.aload_n 0, 1) := by decide +kernel
theorem dX12_log_1 : decode cX12_log 1 = .ok (.iconst 0, 1) := by decide +kernel
theorem dX12_log_2 : decode cX12_log 2 = .ok (.putfield 194, 3) := by decide +kernel
theorem dX12_log_5 : decode cX12_log 5 = .ok (.iload_n 1, 1) := by decide +kernel
theorem dX12_log_6 : decode cX12_log 6 = .ok (.ifCond .lt 23, 3) := by decide +kernel
theorem dX12_log_9 : decode cX12_log 9 = .ok (.iload_n 1, 1) := by decide +kernel
theorem dX12_log_10 : decode cX12_log 10 = .ok (.aload_n 0, 1) := by decide +kernel
theorem dX12_log_11 : decode cX12_log 11 = .ok (.getfield 284, 3) := by decide +kernel
theorem dX12_log_14 : decode cX12_log 14 = .ok (.if_icmp .ge 15, 3) := by decide +kernel
theorem dX12_log_17 : decode cX12_log 17 = .ok (.iload_n 2, 1) := by decide +kernel
theorem dX12_log_18 : decode cX12_log 18 = .ok (.i2l, 1) := by decide +kernel
theorem dX12_log_19 : decode cX12_log 19 = .ok (.lconst 0, 1) := by decide +kernel
theorem dX12_log_20 : decode cX12_log 20 = .ok (.ldc2_w 212, 3) := by decide +kernel
theorem dX12_log_23 : decode cX12_log 23 = .ok (.invokestatic 214, 3) := by decide +kernel
theorem dX12_log_26 : decode cX12_log 26 = .ok (.ifCond .ne 7, 3) := by decide +kernel
theorem dX12_log_29 : decode cX12_log 29 = .ok (.iconst (-1), 1) := by decide +kernel
theorem dX12_log_30 : decode cX12_log 30 = .ok (.goto 14, 3) := by decide +kernel
theorem dX12_log_33 : decode cX12_log 33 = .ok (.aload_n 0, 1) := by decide +kernel
theorem dX12_log_34 : decode cX12_log 34 = .ok (.getfield 145, 3) := by decide +kernel
theorem dX12_log_37 : decode cX12_log 37 = .ok (.bipush 10, 2) := by decide +kernel
theorem dX12_log_39 : decode cX12_log 39 = .ok (.iload_n 1, 1) := by decide +kernel
theorem dX12_log_40 : decode cX12_log 40 = .ok (.imul, 1) := by decide +kernel
theorem dX12_log_41 : decode cX12_log 41 = .ok (.iload_n 2, 1) := by decide +kernel
theorem dX12_log_42 : decode cX12_log 42 = .ok (.iadd, 1) := by decide +kernel
theorem dX12_log_43 : decode cX12_log 43 = .ok (.iaload, 1) := by decide +kernel
theorem dX12_log_44 : decode cX12_log 44 = .ok (.ireturn, 1) := by decide +kernel
theorem dX12_best_0 : decode cX12_best 0 = .ok (.aload_n 0, 1) := by decide +kernel
theorem dX12_best_1 : decode cX12_best 1 = .ok (.iconst 0, 1) := by decide +kernel
theorem dX12_best_2 : decode cX12_best 2 = .ok (.putfield 194, 3) := by decide +kernel
theorem dX12_best_5 : decode cX12_best 5 = .ok (.aload_n 0, 1) := by decide +kernel
theorem dX12_best_6 : decode cX12_best 6 = .ok (.iload_n 1, 1) := by decide +kernel
theorem dX12_best_7 : decode cX12_best 7 = .ok (.invokevirtual 253, 3) := by decide +kernel
theorem dX12_best_10 : decode cX12_best 10 = .ok (.ifCond .ne 5, 3) := by decide +kernel
theorem dX12_best_13 : decode cX12_best 13 = .ok (.iconst (-1), 1) := by decide +kernel
theorem dX12_best_14 : decode cX12_best 14 = .ok (.ireturn, 1) := by decide +kernel
theorem dX12_best_15 : decode cX12_best 15 = .ok (.iconst 0, 1) := by decide +kernel
theorem dX12_best_16 : decode cX12_best 16 = .ok (.istore_n 2, 1) := by decide +kernel
theorem dX12_best_17 : decode cX12_best 17 = .ok (.iload_n 2, 1) := by decide +kernel
theorem dX12_best_18 : decode cX12_best 18 = .ok (.aload_n 0, 1) := by decide +kernel
theorem dX12_best_19 : decode cX12_best 19 = .ok (.getfield 182, 3) := by decide +kernel
theorem dX12_best_22 : decode cX12_best 22 = .ok (.if_icmp .ge 16, 3) := by decide +kernel
theorem dX12_best_25 : decode cX12_best 25 = .ok (.aload_n 0, 1) := by decide +kernel
theorem dX12_best_26 : decode cX12_best 26 = .ok (.getfield 151, 3) := by decide +kernel
theorem dX12_best_29 : decode cX12_best 29 = .ok (.iload_n 2, 1) := by decide +kernel
theorem dX12_best_30 : decode cX12_best 30 = .ok (.lconst 0, 1) := by decide +kernel
theorem dX12_best_31 : decode cX12_best 31 = .ok (.lastore, 1) := by decide +kernel
theorem dX12_best_32 : decode cX12_best 32 = .ok (.iinc 2 1, 3) := by decide +kernel
theorem dX12_best_35 : decode cX12_best 35 = .ok (.goto (-18), 3) := by decide +kernel
theorem dX12_best_38 : decode cX12_best 38 = .ok (.iconst 0, 1) := by decide +kernel
theorem dX12_best_39 : decode cX12_best 39 = .ok (.istore_n 2, 1) := by decide +kernel
theorem dX12_best_40 : decode cX12_best 40 = .ok (.iload_n 2, 1) := by decide +kernel
theorem dX12_best_41 : decode cX12_best 41 = .ok (.aload_n 0, 1) := by decide +kernel
theorem dX12_best_42 : decode cX12_best 42 = .ok (.getfield 284, 3) := by decide +kernel
theorem dX12_best_45 : decode cX12_best 45 = .ok (.if_icmp .ge 241, 3) := by decide +kernel
theorem dX12_best_48 : decode cX12_best 48 = .ok (.aload_n 0, 1) := by decide +kernel
theorem dX12_best_49 : decode cX12_best 49 = .ok (.getfield 145, 3) := by decide +kernel
theorem dX12_best_52 : decode cX12_best 52 = .ok (.bipush 10, 2) := by decide +kernel
theorem dX12_best_54 : decode cX12_best 54 = .ok (.iload_n 2, 1) := by decide +kernel
theorem dX12_best_55 : decode cX12_best 55 = .ok (.imul, 1) := by decide +kernel
theorem dX12_best_56 : decode cX12_best 56 = .ok (.iconst 3, 1) := by decide +kernel
theorem dX12_best_57 : decode cX12_best 57 = .ok (.iadd, 1) := by decide +kernel
theorem dX12_best_58 : decode cX12_best 58 = .ok (.iaload, 1) := by decide +kernel
theorem dX12_best_59 : decode cX12_best 59 = .ok (.iload_n 1, 1) := by decide +kernel
theorem dX12_best_60 : decode cX12_best 60 = .ok (.if_icmp .eq 6, 3) := by decide +kernel
theorem dX12_best_63 : decode cX12_best 63 = .ok (.goto 217, 3) := by decide +kernel
theorem dX12_best_66 : decode cX12_best 66 = .ok (.ldc2_w 338, 3) := by decide +kernel
theorem dX12_best_69 : decode cX12_best 69 = .ok (.lstore_n 3, 1) := by decide +kernel
theorem dX12_best_70 : decode cX12_best 70 = .ok (.iconst 0, 1) := by decide +kernel
theorem dX12_best_71 : decode cX12_best 71 = .ok (.istore 5, 2) := by decide +kernel
theorem dX12_best_73 : decode cX12_best 73 = .ok (.iload 5, 2) := by decide +kernel
theorem dX12_best_75 : decode cX12_best 75 = .ok (.aload_n 0, 1) := by decide +kernel
theorem dX12_best_76 : decode cX12_best 76 = .ok (.getfield 182, 3) := by decide +kernel
theorem dX12_best_79 : decode cX12_best 79 = .ok (.if_icmp .ge 33, 3) := by decide +kernel
theorem dX12_best_82 : decode cX12_best 82 = .ok (.aload_n 0, 1) := by decide +kernel
theorem dX12_best_83 : decode cX12_best 83 = .ok (.getfield 151, 3) := by decide +kernel
theorem dX12_best_86 : decode cX12_best 86 = .ok (.iload 5, 2) := by decide +kernel
theorem dX12_best_88 : decode cX12_best 88 = .ok (.laload, 1) := by decide +kernel
theorem dX12_best_89 : decode cX12_best 89 = .ok (.lload_n 3, 1) := by decide +kernel
theorem dX12_best_90 : decode cX12_best 90 = .ok (.lcmp, 1) := by decide +kernel
theorem dX12_best_91 : decode cX12_best 91 = .ok (.ifCond .ge 13, 3) := by decide +kernel
theorem dX12_best_94 : decode cX12_best 94 = .ok (.aload_n 0, 1) := by decide +kernel
theorem dX12_best_95 : decode cX12_best 95 = .ok (.getfield 151, 3) := by decide +kernel
theorem dX12_best_98 : decode cX12_best 98 = .ok (.iload 5, 2) := by decide +kernel
theorem dX12_best_100 : decode cX12_best 100 = .ok (.laload, 1) := by decide +kernel
theorem dX12_best_101 : decode cX12_best 101 = .ok (.goto 4, 3) := by decide +kernel
theorem dX12_best_104 : decode cX12_best 104 = .ok (.lload_n 3, 1) := by decide +kernel
theorem dX12_best_105 : decode cX12_best 105 = .ok (.lstore_n 3, 1) := by decide +kernel
theorem dX12_best_106 : decode cX12_best 106 = .ok (.iinc 5 1, 3) := by decide +kernel
theorem dX12_best_109 : decode cX12_best 109 = .ok (.goto (-36), 3) := by decide +kernel
theorem dX12_best_112 : decode cX12_best 112 = .ok (.iconst 0, 1) := by decide +kernel
theorem dX12_best_113 : decode cX12_best 113 = .ok (.istore 5, 2) := by decide +kernel
theorem dX12_best_115 : decode cX12_best 115 = .ok (.iload 5, 2) := by decide +kernel
theorem dX12_best_117 : decode cX12_best 117 = .ok (.aload_n 0, 1) := by decide +kernel
theorem dX12_best_118 : decode cX12_best 118 = .ok (.getfield 182, 3) := by decide +kernel
theorem dX12_best_121 : decode cX12_best 121 = .ok (.if_icmp .ge 127, 3) := by decide +kernel
theorem dX12_best_124 : decode cX12_best 124 = .ok (.aload_n 0, 1) := by decide +kernel
theorem dX12_best_125 : decode cX12_best 125 = .ok (.aload_n 0, 1) := by decide +kernel
theorem dX12_best_126 : decode cX12_best 126 = .ok (.getfield 145, 3) := by decide +kernel
theorem dX12_best_129 : decode cX12_best 129 = .ok (.bipush 10, 2) := by decide +kernel
theorem dX12_best_131 : decode cX12_best 131 = .ok (.iload_n 2, 1) := by decide +kernel
theorem dX12_best_132 : decode cX12_best 132 = .ok (.imul, 1) := by decide +kernel
theorem dX12_best_133 : decode cX12_best 133 = .ok (.iconst 2, 1) := by decide +kernel
theorem dX12_best_134 : decode cX12_best 134 = .ok (.iadd, 1) := by decide +kernel
theorem dX12_best_135 : decode cX12_best 135 = .ok (.iaload, 1) := by decide +kernel
theorem dX12_best_136 : decode cX12_best 136 = .ok (.iload 5, 2) := by decide +kernel
theorem dX12_best_138 : decode cX12_best 138 = .ok (.invokevirtual 220, 3) := by decide +kernel
theorem dX12_best_141 : decode cX12_best 141 = .ok (.istore 6, 2) := by decide +kernel
theorem dX12_best_143 : decode cX12_best 143 = .ok (.aload_n 0, 1) := by decide +kernel
theorem dX12_best_144 : decode cX12_best 144 = .ok (.getfield 151, 3) := by decide +kernel
theorem dX12_best_147 : decode cX12_best 147 = .ok (.iload 5, 2) := by decide +kernel
theorem dX12_best_149 : decode cX12_best 149 = .ok (.laload, 1) := by decide +kernel
theorem dX12_best_150 : decode cX12_best 150 = .ok (.lload_n 3, 1) := by decide +kernel
theorem dX12_best_151 : decode cX12_best 151 = .ok (.aload_n 0, 1) := by decide +kernel
theorem dX12_best_152 : decode cX12_best 152 = .ok (.getfield 42, 3) := by decide +kernel
theorem dX12_best_155 : decode cX12_best 155 = .ok (.i2l, 1) := by decide +kernel
theorem dX12_best_156 : decode cX12_best 156 = .ok (.ladd, 1) := by decide +kernel
theorem dX12_best_157 : decode cX12_best 157 = .ok (.lcmp, 1) := by decide +kernel
theorem dX12_best_158 : decode cX12_best 158 = .ok (.ifCond .ge 13, 3) := by decide +kernel
theorem dX12_best_161 : decode cX12_best 161 = .ok (.aload_n 0, 1) := by decide +kernel
theorem dX12_best_162 : decode cX12_best 162 = .ok (.getfield 151, 3) := by decide +kernel
theorem dX12_best_165 : decode cX12_best 165 = .ok (.iload 5, 2) := by decide +kernel
theorem dX12_best_167 : decode cX12_best 167 = .ok (.laload, 1) := by decide +kernel
theorem dX12_best_168 : decode cX12_best 168 = .ok (.goto 10, 3) := by decide +kernel
theorem dX12_best_171 : decode cX12_best 171 = .ok (.lload_n 3, 1) := by decide +kernel
theorem dX12_best_172 : decode cX12_best 172 = .ok (.aload_n 0, 1) := by decide +kernel
theorem dX12_best_173 : decode cX12_best 173 = .ok (.getfield 42, 3) := by decide +kernel
theorem dX12_best_176 : decode cX12_best 176 = .ok (.i2l, 1) := by decide +kernel
theorem dX12_best_177 : decode cX12_best 177 = .ok (.ladd, 1) := by decide +kernel
theorem dX12_best_178 : decode cX12_best 178 = .ok (.lstore 7, 2) := by decide +kernel
theorem dX12_best_180 : decode cX12_best 180 = .ok (.lload 7, 2) := by decide +kernel
theorem dX12_best_182 : decode cX12_best 182 = .ok (.lconst 1, 1) := by decide +kernel
theorem dX12_best_183 : decode cX12_best 183 = .ok (.ladd, 1) := by decide +kernel
theorem dX12_best_184 : decode cX12_best 184 = .ok (.ldc2_w 235, 3) := by decide +kernel
theorem dX12_best_187 : decode cX12_best 187 = .ok (.aload_n 0, 1) := by decide +kernel
theorem dX12_best_188 : decode cX12_best 188 = .ok (.getfield 16, 3) := by decide +kernel
theorem dX12_best_191 : decode cX12_best 191 = .ok (.iconst 4, 1) := by decide +kernel
theorem dX12_best_192 : decode cX12_best 192 = .ok (.aload_n 0, 1) := by decide +kernel
theorem dX12_best_193 : decode cX12_best 193 = .ok (.getfield 145, 3) := by decide +kernel
theorem dX12_best_196 : decode cX12_best 196 = .ok (.bipush 10, 2) := by decide +kernel
theorem dX12_best_198 : decode cX12_best 198 = .ok (.iload_n 2, 1) := by decide +kernel
theorem dX12_best_199 : decode cX12_best 199 = .ok (.imul, 1) := by decide +kernel
theorem dX12_best_200 : decode cX12_best 200 = .ok (.iconst 2, 1) := by decide +kernel
theorem dX12_best_201 : decode cX12_best 201 = .ok (.iadd, 1) := by decide +kernel
theorem dX12_best_202 : decode cX12_best 202 = .ok (.iaload, 1) := by decide +kernel
theorem dX12_best_203 : decode cX12_best 203 = .ok (.imul, 1) := by decide +kernel
theorem dX12_best_204 : decode cX12_best 204 = .ok (.iload 5, 2) := by decide +kernel
theorem dX12_best_206 : decode cX12_best 206 = .ok (.iadd, 1) := by decide +kernel
theorem dX12_best_207 : decode cX12_best 207 = .ok (.iaload, 1) := by decide +kernel
theorem dX12_best_208 : decode cX12_best 208 = .ok (.i2l, 1) := by decide +kernel
theorem dX12_best_209 : decode cX12_best 209 = .ok (.lmul, 1) := by decide +kernel
theorem dX12_best_210 : decode cX12_best 210 = .ok (.ladd, 1) := by decide +kernel
theorem dX12_best_211 : decode cX12_best 211 = .ok (.lstore 9, 2) := by decide +kernel
theorem dX12_best_213 : decode cX12_best 213 = .ok (.aload_n 0, 1) := by decide +kernel
theorem dX12_best_214 : decode cX12_best 214 = .ok (.getfield 154, 3) := by decide +kernel
theorem dX12_best_217 : decode cX12_best 217 = .ok (.iload 5, 2) := by decide +kernel
theorem dX12_best_219 : decode cX12_best 219 = .ok (.iload 6, 2) := by decide +kernel
theorem dX12_best_221 : decode cX12_best 221 = .ok (.ifCond .eq 17, 3) := by decide +kernel
theorem dX12_best_224 : decode cX12_best 224 = .ok (.lload 9, 2) := by decide +kernel
theorem dX12_best_226 : decode cX12_best 226 = .ok (.ldc2_w 338, 3) := by decide +kernel
theorem dX12_best_229 : decode cX12_best 229 = .ok (.lcmp, 1) := by decide +kernel
theorem dX12_best_230 : decode cX12_best 230 = .ok (.ifCond .ge 8, 3) := by decide +kernel
theorem dX12_best_233 : decode cX12_best 233 = .ok (.lload 9, 2) := by decide +kernel
theorem dX12_best_235 : decode cX12_best 235 = .ok (.goto 6, 3) := by decide +kernel
theorem dX12_best_238 : decode cX12_best 238 = .ok (.ldc2_w 338, 3) := by decide +kernel
theorem dX12_best_241 : decode cX12_best 241 = .ok (.lastore, 1) := by decide +kernel
theorem dX12_best_242 : decode cX12_best 242 = .ok (.iinc 5 1, 3) := by decide +kernel
theorem dX12_best_245 : decode cX12_best 245 = .ok (.goto (-130), 3) := by decide +kernel
theorem dX12_best_248 : decode cX12_best 248 = .ok (.iconst 0, 1) := by decide +kernel
theorem dX12_best_249 : decode cX12_best 249 = .ok (.istore 5, 2) := by decide +kernel
theorem dX12_best_251 : decode cX12_best 251 = .ok (.iload 5, 2) := by decide +kernel
theorem dX12_best_253 : decode cX12_best 253 = .ok (.aload_n 0, 1) := by decide +kernel
theorem dX12_best_254 : decode cX12_best 254 = .ok (.getfield 182, 3) := by decide +kernel
theorem dX12_best_257 : decode cX12_best 257 = .ok (.if_icmp .ge 23, 3) := by decide +kernel
theorem dX12_best_260 : decode cX12_best 260 = .ok (.aload_n 0, 1) := by decide +kernel
theorem dX12_best_261 : decode cX12_best 261 = .ok (.getfield 151, 3) := by decide +kernel
theorem dX12_best_264 : decode cX12_best 264 = .ok (.iload 5, 2) := by decide +kernel
theorem dX12_best_266 : decode cX12_best 266 = .ok (.aload_n 0, 1) := by decide +kernel
theorem dX12_best_267 : decode cX12_best 267 = .ok (.getfield 154, 3) := by decide +kernel
theorem dX12_best_270 : decode cX12_best 270 = .ok (.iload 5, 2) := by decide +kernel
theorem dX12_best_272 : decode cX12_best 272 = .ok (.laload, 1) := by decide +kernel
theorem dX12_best_273 : decode cX12_best 273 = .ok (.lastore, 1) := by decide +kernel
theorem dX12_best_274 : decode cX12_best 274 = .ok (.iinc 5 1, 3) := by decide +kernel
theorem dX12_best_277 : decode cX12_best 277 = .ok (.goto (-26), 3) := by decide +kernel
theorem dX12_best_280 : decode cX12_best 280 = .ok (.iinc 2 1, 3) := by decide +kernel
theorem dX12_best_283 : decode cX12_best 283 = .ok (.goto (-243), 3) := by decide +kernel
theorem dX12_best_286 : decode cX12_best 286 = .ok (.ldc2_w 338, 3) := by decide +kernel
theorem dX12_best_289 : decode cX12_best 289 = .ok (.lstore_n 2, 1) := by decide +kernel
theorem dX12_best_290 : decode cX12_best 290 = .ok (.iconst 0, 1) := by decide +kernel
theorem dX12_best_291 : decode cX12_best 291 = .ok (.istore 4, 2) := by decide +kernel
theorem dX12_best_293 : decode cX12_best 293 = .ok (.iload 4, 2) := by decide +kernel
theorem dX12_best_295 : decode cX12_best 295 = .ok (.aload_n 0, 1) := by decide +kernel
theorem dX12_best_296 : decode cX12_best 296 = .ok (.getfield 182, 3) := by decide +kernel
theorem dX12_best_299 : decode cX12_best 299 = .ok (.if_icmp .ge 33, 3) := by decide +kernel
theorem dX12_best_302 : decode cX12_best 302 = .ok (.aload_n 0, 1) := by decide +kernel
theorem dX12_best_303 : decode cX12_best 303 = .ok (.getfield 151, 3) := by decide +kernel
theorem dX12_best_306 : decode cX12_best 306 = .ok (.iload 4, 2) := by decide +kernel
theorem dX12_best_308 : decode cX12_best 308 = .ok (.laload, 1) := by decide +kernel
theorem dX12_best_309 : decode cX12_best 309 = .ok (.lload_n 2, 1) := by decide +kernel
theorem dX12_best_310 : decode cX12_best 310 = .ok (.lcmp, 1) := by decide +kernel
theorem dX12_best_311 : decode cX12_best 311 = .ok (.ifCond .ge 13, 3) := by decide +kernel
theorem dX12_best_314 : decode cX12_best 314 = .ok (.aload_n 0, 1) := by decide +kernel
theorem dX12_best_315 : decode cX12_best 315 = .ok (.getfield 151, 3) := by decide +kernel
theorem dX12_best_318 : decode cX12_best 318 = .ok (.iload 4, 2) := by decide +kernel
theorem dX12_best_320 : decode cX12_best 320 = .ok (.laload, 1) := by decide +kernel
theorem dX12_best_321 : decode cX12_best 321 = .ok (.goto 4, 3) := by decide +kernel
theorem dX12_best_324 : decode cX12_best 324 = .ok (.lload_n 2, 1) := by decide +kernel
theorem dX12_best_325 : decode cX12_best 325 = .ok (.lstore_n 2, 1) := by decide +kernel
theorem dX12_best_326 : decode cX12_best 326 = .ok (.iinc 4 1, 3) := by decide +kernel
theorem dX12_best_329 : decode cX12_best 329 = .ok (.goto (-36), 3) := by decide +kernel
theorem dX12_best_332 : decode cX12_best 332 = .ok (.lload_n 2, 1) := by decide +kernel
theorem dX12_best_333 : decode cX12_best 333 = .ok (.ldc2_w 338, 3) := by decide +kernel
theorem dX12_best_336 : decode cX12_best 336 = .ok (.lcmp, 1) := by decide +kernel
theorem dX12_best_337 : decode cX12_best 337 = .ok (.ifCond .lt 8, 3) := by decide +kernel
theorem dX12_best_340 : decode cX12_best 340 = .ok (.bipush (-2), 2) := by decide +kernel
theorem dX12_best_342 : decode cX12_best 342 = .ok (.goto 5, 3) := by decide +kernel
theorem dX12_best_345 : decode cX12_best 345 = .ok (.lload_n 2, 1) := by decide +kernel
theorem dX12_best_346 : decode cX12_best 346 = .ok (.l2i, 1) := by decide +kernel
theorem dX12_best_347 : decode cX12_best 347 = .ok (.ireturn, 1) := by decide +kernel
theorem dX12_gap_0 : decode cX12_gap 0 = .ok (.aload_n 0, 1) := by decide +kernel
theorem dX12_gap_1 : decode cX12_gap 1 = .ok (.iconst 0, 1) := by decide +kernel
theorem dX12_gap_2 : decode cX12_gap 2 = .ok (.putfield 194, 3) := by decide +kernel
theorem dX12_gap_5 : decode cX12_gap 5 = .ok (.aload_n 0, 1) := by decide +kernel
theorem dX12_gap_6 : decode cX12_gap 6 = .ok (.iload_n 1, 1) := by decide +kernel
theorem dX12_gap_7 : decode cX12_gap 7 = .ok (.invokevirtual 253, 3) := by decide +kernel
theorem dX12_gap_10 : decode cX12_gap 10 = .ok (.ifCond .ne 5, 3) := by decide +kernel
theorem dX12_gap_13 : decode cX12_gap 13 = .ok (.iconst (-1), 1) := by decide +kernel
theorem dX12_gap_14 : decode cX12_gap 14 = .ok (.ireturn, 1) := by decide +kernel
theorem dX12_gap_15 : decode cX12_gap 15 = .ok (.iconst 0, 1) := by decide +kernel
theorem dX12_gap_16 : decode cX12_gap 16 = .ok (.istore_n 2, 1) := by decide +kernel
theorem dX12_gap_17 : decode cX12_gap 17 = .ok (.iconst 0, 1) := by decide +kernel
theorem dX12_gap_18 : decode cX12_gap 18 = .ok (.istore_n 3, 1) := by decide +kernel
theorem dX12_gap_19 : decode cX12_gap 19 = .ok (.iload_n 3, 1) := by decide +kernel
theorem dX12_gap_20 : decode cX12_gap 20 = .ok (.aload_n 0, 1) := by decide +kernel
theorem dX12_gap_21 : decode cX12_gap 21 = .ok (.getfield 284, 3) := by decide +kernel
theorem dX12_gap_24 : decode cX12_gap 24 = .ok (.if_icmp .ge 45, 3) := by decide +kernel
theorem dX12_gap_27 : decode cX12_gap 27 = .ok (.iload_n 2, 1) := by decide +kernel
theorem dX12_gap_28 : decode cX12_gap 28 = .ok (.aload_n 0, 1) := by decide +kernel
theorem dX12_gap_29 : decode cX12_gap 29 = .ok (.getfield 145, 3) := by decide +kernel
theorem dX12_gap_32 : decode cX12_gap 32 = .ok (.bipush 10, 2) := by decide +kernel
theorem dX12_gap_34 : decode cX12_gap 34 = .ok (.iload_n 3, 1) := by decide +kernel
theorem dX12_gap_35 : decode cX12_gap 35 = .ok (.imul, 1) := by decide +kernel
theorem dX12_gap_36 : decode cX12_gap 36 = .ok (.iconst 3, 1) := by decide +kernel
theorem dX12_gap_37 : decode cX12_gap 37 = .ok (.iadd, 1) := by decide +kernel
theorem dX12_gap_38 : decode cX12_gap 38 = .ok (.iaload, 1) := by decide +kernel
theorem dX12_gap_39 : decode cX12_gap 39 = .ok (.iload_n 1, 1) := by decide +kernel
theorem dX12_gap_40 : decode cX12_gap 40 = .ok (.if_icmp .ne 20, 3) := by decide +kernel
theorem dX12_gap_43 : decode cX12_gap 43 = .ok (.aload_n 0, 1) := by decide +kernel
theorem dX12_gap_44 : decode cX12_gap 44 = .ok (.getfield 145, 3) := by decide +kernel
theorem dX12_gap_47 : decode cX12_gap 47 = .ok (.bipush 10, 2) := by decide +kernel
theorem dX12_gap_49 : decode cX12_gap 49 = .ok (.iload_n 3, 1) := by decide +kernel
theorem dX12_gap_50 : decode cX12_gap 50 = .ok (.imul, 1) := by decide +kernel
theorem dX12_gap_51 : decode cX12_gap 51 = .ok (.bipush 7, 2) := by decide +kernel
theorem dX12_gap_53 : decode cX12_gap 53 = .ok (.iadd, 1) := by decide +kernel
theorem dX12_gap_54 : decode cX12_gap 54 = .ok (.iaload, 1) := by decide +kernel
theorem dX12_gap_55 : decode cX12_gap 55 = .ok (.iconst 1, 1) := by decide +kernel
theorem dX12_gap_56 : decode cX12_gap 56 = .ok (.isub, 1) := by decide +kernel
theorem dX12_gap_57 : decode cX12_gap 57 = .ok (.goto 4, 3) := by decide +kernel
theorem dX12_gap_60 : decode cX12_gap 60 = .ok (.iconst 0, 1) := by decide +kernel
theorem dX12_gap_61 : decode cX12_gap 61 = .ok (.iadd, 1) := by decide +kernel
theorem dX12_gap_62 : decode cX12_gap 62 = .ok (.istore_n 2, 1) := by decide +kernel
theorem dX12_gap_63 : decode cX12_gap 63 = .ok (.iinc 3 1, 3) := by decide +kernel
theorem dX12_gap_66 : decode cX12_gap 66 = .ok (.goto (-47), 3) := by decide +kernel
theorem dX12_gap_69 : decode cX12_gap 69 = .ok (.iload_n 2, 1) := by decide +kernel
theorem dX12_gap_70 : decode cX12_gap 70 = .ok (.ireturn, 1) := by decide +kernel
theorem dX12_beginOther_0 : decode cX12_beginOther 0 = .ok (.aload_n 0, 1) := by decide +kernel
theorem dX12_beginOther_1 : decode cX12_beginOther 1 = .ok (.iconst 1, 1) := by decide +kernel
theorem dX12_beginOther_2 : decode cX12_beginOther 2 = .ok (.putfield 243, 3) := by decide +kernel
theorem dX12_beginOther_5 : decode cX12_beginOther 5 = .ok (.aload_n 0, 1) := by decide +kernel
theorem dX12_beginOther_6 : decode cX12_beginOther 6 = .ok (.getfield 54, 3) := by decide +kernel
theorem dX12_beginOther_9 : decode cX12_beginOther 9 = .ok (.iconst 1, 1) := by decide +kernel
theorem dX12_beginOther_10 : decode cX12_beginOther 10 = .ok (.iconst 1, 1) := by decide +kernel
theorem dX12_beginOther_11 : decode cX12_beginOther 11 = .ok (.iastore, 1) := by decide +kernel
theorem dX12_beginOther_12 : decode cX12_beginOther 12 = .ok (.aload_n 0, 1) := by decide +kernel
theorem dX12_beginOther_13 : decode cX12_beginOther 13 = .ok (.getfield 57, 3) := by decide +kernel
theorem dX12_beginOther_16 : decode cX12_beginOther 16 = .ok (.iconst 1, 1) := by decide +kernel
theorem dX12_beginOther_17 : decode cX12_beginOther 17 = .ok (.iconst 0, 1) := by decide +kernel
theorem dX12_beginOther_18 : decode cX12_beginOther 18 = .ok (.iastore, 1) := by decide +kernel
theorem dX12_beginOther_19 : decode cX12_beginOther 19 = .ok (.aload_n 0, 1) := by decide +kernel
theorem dX12_beginOther_20 : decode cX12_beginOther 20 = .ok (.getfield 60, 3) := by decide +kernel
theorem dX12_beginOther_23 : decode cX12_beginOther 23 = .ok (.iconst 1, 1) := by decide +kernel
theorem dX12_beginOther_24 : decode cX12_beginOther 24 = .ok (.iconst 0, 1) := by decide +kernel
theorem dX12_beginOther_25 : decode cX12_beginOther 25 = .ok (.iastore, 1) := by decide +kernel
theorem dX12_beginOther_26 : decode cX12_beginOther 26 = .ok (.aload_n 0, 1) := by decide +kernel
theorem dX12_beginOther_27 : decode cX12_beginOther 27 = .ok (.getfield 63, 3) := by decide +kernel
theorem dX12_beginOther_30 : decode cX12_beginOther 30 = .ok (.iconst 1, 1) := by decide +kernel
theorem dX12_beginOther_31 : decode cX12_beginOther 31 = .ok (.lconst 0, 1) := by decide +kernel
theorem dX12_beginOther_32 : decode cX12_beginOther 32 = .ok (.lastore, 1) := by decide +kernel
theorem dX12_beginOther_33 : decode cX12_beginOther 33 = .ok (.aload_n 0, 1) := by decide +kernel
theorem dX12_beginOther_34 : decode cX12_beginOther 34 = .ok (.getfield 76, 3) := by decide +kernel
theorem dX12_beginOther_37 : decode cX12_beginOther 37 = .ok (.iconst 1, 1) := by decide +kernel
theorem dX12_beginOther_38 : decode cX12_beginOther 38 = .ok (.aload_n 0, 1) := by decide +kernel
theorem dX12_beginOther_39 : decode cX12_beginOther 39 = .ok (.getfield 200, 3) := by decide +kernel
theorem dX12_beginOther_42 : decode cX12_beginOther 42 = .ok (.iastore, 1) := by decide +kernel
theorem dX12_beginOther_43 : decode cX12_beginOther 43 = .ok (.iconst 0, 1) := by decide +kernel
theorem dX12_beginOther_44 : decode cX12_beginOther 44 = .ok (.istore_n 1, 1) := by decide +kernel
theorem dX12_beginOther_45 : decode cX12_beginOther 45 = .ok (.iload_n 1, 1) := by decide +kernel
theorem dX12_beginOther_46 : decode cX12_beginOther 46 = .ok (.bipush 20, 2) := by decide +kernel
theorem dX12_beginOther_48 : decode cX12_beginOther 48 = .ok (.if_icmp .ge 74, 3) := by decide +kernel
theorem dX12_beginOther_51 : decode cX12_beginOther 51 = .ok (.bipush 20, 2) := by decide +kernel
theorem dX12_beginOther_53 : decode cX12_beginOther 53 = .ok (.iload_n 1, 1) := by decide +kernel
theorem dX12_beginOther_54 : decode cX12_beginOther 54 = .ok (.iadd, 1) := by decide +kernel
theorem dX12_beginOther_55 : decode cX12_beginOther 55 = .ok (.istore_n 2, 1) := by decide +kernel
theorem dX12_beginOther_56 : decode cX12_beginOther 56 = .ok (.aload_n 0, 1) := by decide +kernel
theorem dX12_beginOther_57 : decode cX12_beginOther 57 = .ok (.getfield 79, 3) := by decide +kernel
theorem dX12_beginOther_60 : decode cX12_beginOther 60 = .ok (.iload_n 2, 1) := by decide +kernel
theorem dX12_beginOther_61 : decode cX12_beginOther 61 = .ok (.bipush (-2), 2) := by decide +kernel
theorem dX12_beginOther_63 : decode cX12_beginOther 63 = .ok (.iastore, 1) := by decide +kernel
theorem dX12_beginOther_64 : decode cX12_beginOther 64 = .ok (.aload_n 0, 1) := by decide +kernel
theorem dX12_beginOther_65 : decode cX12_beginOther 65 = .ok (.getfield 82, 3) := by decide +kernel
theorem dX12_beginOther_68 : decode cX12_beginOther 68 = .ok (.iload_n 2, 1) := by decide +kernel
theorem dX12_beginOther_69 : decode cX12_beginOther 69 = .ok (.iconst 0, 1) := by decide +kernel
theorem dX12_beginOther_70 : decode cX12_beginOther 70 = .ok (.iastore, 1) := by decide +kernel
theorem dX12_beginOther_71 : decode cX12_beginOther 71 = .ok (.aload_n 0, 1) := by decide +kernel
theorem dX12_beginOther_72 : decode cX12_beginOther 72 = .ok (.getfield 85, 3) := by decide +kernel
theorem dX12_beginOther_75 : decode cX12_beginOther 75 = .ok (.iload_n 2, 1) := by decide +kernel
theorem dX12_beginOther_76 : decode cX12_beginOther 76 = .ok (.iconst 0, 1) := by decide +kernel
theorem dX12_beginOther_77 : decode cX12_beginOther 77 = .ok (.bastore, 1) := by decide +kernel
theorem dX12_beginOther_78 : decode cX12_beginOther 78 = .ok (.aload_n 0, 1) := by decide +kernel
theorem dX12_beginOther_79 : decode cX12_beginOther 79 = .ok (.getfield 88, 3) := by decide +kernel
theorem dX12_beginOther_82 : decode cX12_beginOther 82 = .ok (.iload_n 2, 1) := by decide +kernel
theorem dX12_beginOther_83 : decode cX12_beginOther 83 = .ok (.iconst 0, 1) := by decide +kernel
theorem dX12_beginOther_84 : decode cX12_beginOther 84 = .ok (.iastore, 1) := by decide +kernel
theorem dX12_beginOther_85 : decode cX12_beginOther 85 = .ok (.aload_n 0, 1) := by decide +kernel
theorem dX12_beginOther_86 : decode cX12_beginOther 86 = .ok (.getfield 97, 3) := by decide +kernel
theorem dX12_beginOther_89 : decode cX12_beginOther 89 = .ok (.iload_n 2, 1) := by decide +kernel
theorem dX12_beginOther_90 : decode cX12_beginOther 90 = .ok (.lconst 0, 1) := by decide +kernel
theorem dX12_beginOther_91 : decode cX12_beginOther 91 = .ok (.lastore, 1) := by decide +kernel
theorem dX12_beginOther_92 : decode cX12_beginOther 92 = .ok (.iconst 0, 1) := by decide +kernel
theorem dX12_beginOther_93 : decode cX12_beginOther 93 = .ok (.istore_n 3, 1) := by decide +kernel
theorem dX12_beginOther_94 : decode cX12_beginOther 94 = .ok (.iload_n 3, 1) := by decide +kernel
theorem dX12_beginOther_95 : decode cX12_beginOther 95 = .ok (.iconst 4, 1) := by decide +kernel
theorem dX12_beginOther_96 : decode cX12_beginOther 96 = .ok (.if_icmp .ge 20, 3) := by decide +kernel
theorem dX12_beginOther_99 : decode cX12_beginOther 99 = .ok (.aload_n 0, 1) := by decide +kernel
theorem dX12_beginOther_100 : decode cX12_beginOther 100 = .ok (.getfield 100, 3) := by decide +kernel
theorem dX12_beginOther_103 : decode cX12_beginOther 103 = .ok (.iconst 4, 1) := by decide +kernel
theorem dX12_beginOther_104 : decode cX12_beginOther 104 = .ok (.iload_n 2, 1) := by decide +kernel
theorem dX12_beginOther_105 : decode cX12_beginOther 105 = .ok (.imul, 1) := by decide +kernel
theorem dX12_beginOther_106 : decode cX12_beginOther 106 = .ok (.iload_n 3, 1) := by decide +kernel
theorem dX12_beginOther_107 : decode cX12_beginOther 107 = .ok (.iadd, 1) := by decide +kernel
theorem dX12_beginOther_108 : decode cX12_beginOther 108 = .ok (.iconst 0, 1) := by decide +kernel
theorem dX12_beginOther_109 : decode cX12_beginOther 109 = .ok (.iastore, 1) := by decide +kernel
theorem dX12_beginOther_110 : decode cX12_beginOther 110 = .ok (.iinc 3 1, 3) := by decide +kernel
theorem dX12_beginOther_113 : decode cX12_beginOther 113 = .ok (.goto (-19), 3) := by decide +kernel
theorem dX12_beginOther_116 : decode cX12_beginOther 116 = .ok (.iinc 1 1, 3) := by decide +kernel
theorem dX12_beginOther_119 : decode cX12_beginOther 119 = .ok (.goto (-74), 3) := by decide +kernel
theorem dX12_beginOther_122 : decode cX12_beginOther 122 = .ok (.iconst 0, 1) := by decide +kernel
theorem dX12_beginOther_123 : decode cX12_beginOther 123 = .ok (.istore_n 1, 1) := by decide +kernel
theorem dX12_beginOther_124 : decode cX12_beginOther 124 = .ok (.iload_n 1, 1) := by decide +kernel
theorem dX12_beginOther_125 : decode cX12_beginOther 125 = .ok (.aload_n 0, 1) := by decide +kernel
theorem dX12_beginOther_126 : decode cX12_beginOther 126 = .ok (.getfield 200, 3) := by decide +kernel
theorem dX12_beginOther_129 : decode cX12_beginOther 129 = .ok (.if_icmp .ge 54, 3) := by decide +kernel
theorem dX12_beginOther_132 : decode cX12_beginOther 132 = .ok (.bipush 10, 2) := by decide +kernel
theorem dX12_beginOther_134 : decode cX12_beginOther 134 = .ok (.iload_n 1, 1) := by decide +kernel
theorem dX12_beginOther_135 : decode cX12_beginOther 135 = .ok (.iadd, 1) := by decide +kernel
theorem dX12_beginOther_136 : decode cX12_beginOther 136 = .ok (.istore_n 2, 1) := by decide +kernel
theorem dX12_beginOther_137 : decode cX12_beginOther 137 = .ok (.aload_n 0, 1) := by decide +kernel
theorem dX12_beginOther_138 : decode cX12_beginOther 138 = .ok (.getfield 103, 3) := by decide +kernel
theorem dX12_beginOther_141 : decode cX12_beginOther 141 = .ok (.iload_n 2, 1) := by decide +kernel
theorem dX12_beginOther_142 : decode cX12_beginOther 142 = .ok (.aload_n 0, 1) := by decide +kernel
theorem dX12_beginOther_143 : decode cX12_beginOther 143 = .ok (.getfield 103, 3) := by decide +kernel
theorem dX12_beginOther_146 : decode cX12_beginOther 146 = .ok (.iload_n 1, 1) := by decide +kernel
theorem dX12_beginOther_147 : decode cX12_beginOther 147 = .ok (.iaload, 1) := by decide +kernel
theorem dX12_beginOther_148 : decode cX12_beginOther 148 = .ok (.iastore, 1) := by decide +kernel
theorem dX12_beginOther_149 : decode cX12_beginOther 149 = .ok (.aload_n 0, 1) := by decide +kernel
theorem dX12_beginOther_150 : decode cX12_beginOther 150 = .ok (.getfield 106, 3) := by decide +kernel
theorem dX12_beginOther_153 : decode cX12_beginOther 153 = .ok (.iload_n 2, 1) := by decide +kernel
theorem dX12_beginOther_154 : decode cX12_beginOther 154 = .ok (.iload_n 1, 1) := by decide +kernel
theorem dX12_beginOther_155 : decode cX12_beginOther 155 = .ok (.iastore, 1) := by decide +kernel
theorem dX12_beginOther_156 : decode cX12_beginOther 156 = .ok (.aload_n 0, 1) := by decide +kernel
theorem dX12_beginOther_157 : decode cX12_beginOther 157 = .ok (.getfield 109, 3) := by decide +kernel
theorem dX12_beginOther_160 : decode cX12_beginOther 160 = .ok (.iload_n 2, 1) := by decide +kernel
theorem dX12_beginOther_161 : decode cX12_beginOther 161 = .ok (.iconst 0, 1) := by decide +kernel
theorem dX12_beginOther_162 : decode cX12_beginOther 162 = .ok (.iastore, 1) := by decide +kernel
theorem dX12_beginOther_163 : decode cX12_beginOther 163 = .ok (.aload_n 0, 1) := by decide +kernel
theorem dX12_beginOther_164 : decode cX12_beginOther 164 = .ok (.getfield 112, 3) := by decide +kernel
theorem dX12_beginOther_167 : decode cX12_beginOther 167 = .ok (.iload_n 2, 1) := by decide +kernel
theorem dX12_beginOther_168 : decode cX12_beginOther 168 = .ok (.iconst 0, 1) := by decide +kernel
theorem dX12_beginOther_169 : decode cX12_beginOther 169 = .ok (.iastore, 1) := by decide +kernel
theorem dX12_beginOther_170 : decode cX12_beginOther 170 = .ok (.aload_n 0, 1) := by decide +kernel
theorem dX12_beginOther_171 : decode cX12_beginOther 171 = .ok (.getfield 118, 3) := by decide +kernel
theorem dX12_beginOther_174 : decode cX12_beginOther 174 = .ok (.iload_n 2, 1) := by decide +kernel
theorem dX12_beginOther_175 : decode cX12_beginOther 175 = .ok (.iconst 0, 1) := by decide +kernel
theorem dX12_beginOther_176 : decode cX12_beginOther 176 = .ok (.bastore, 1) := by decide +kernel
theorem dX12_beginOther_177 : decode cX12_beginOther 177 = .ok (.iinc 1 1, 3) := by decide +kernel
theorem dX12_beginOther_180 : decode cX12_beginOther 180 = .ok (.goto (-56), 3) := by decide +kernel
theorem dX12_beginOther_183 : decode cX12_beginOther 183 = .ok (.return_, 1) := by decide +kernel
theorem dX12_other_0 : decode cX12_other 0 = .ok (.aload_n 0, 1) := by decide +kernel
theorem dX12_other_1 : decode cX12_other 1 = .ok (.iconst 0, 1) := by decide +kernel
theorem dX12_other_2 : decode cX12_other 2 = .ok (.putfield 194, 3) := by decide +kernel
theorem dX12_other_5 : decode cX12_other 5 = .ok (.iload_n 1, 1) := by decide +kernel
theorem dX12_other_6 : decode cX12_other 6 = .ok (.i2l, 1) := by decide +kernel
theorem dX12_other_7 : decode cX12_other 7 = .ok (.lconst 0, 1) := by decide +kernel
theorem dX12_other_8 : decode cX12_other 8 = .ok (.ldc2_w 235, 3) := by decide +kernel
theorem dX12_other_11 : decode cX12_other 11 = .ok (.invokestatic 214, 3) := by decide +kernel
theorem dX12_other_14 : decode cX12_other 14 = .ok (.ifCond .eq 40, 3) := by decide +kernel
theorem dX12_other_17 : decode cX12_other 17 = .ok (.iload_n 2, 1) := by decide +kernel
theorem dX12_other_18 : decode cX12_other 18 = .ok (.i2l, 1) := by decide +kernel
theorem dX12_other_19 : decode cX12_other 19 = .ok (.lconst 0, 1) := by decide +kernel
theorem dX12_other_20 : decode cX12_other 20 = .ok (.ldc2_w 237, 3) := by decide +kernel
theorem dX12_other_23 : decode cX12_other 23 = .ok (.invokestatic 214, 3) := by decide +kernel
theorem dX12_other_26 : decode cX12_other 26 = .ok (.ifCond .eq 28, 3) := by decide +kernel
theorem dX12_other_29 : decode cX12_other 29 = .ok (.iload_n 3, 1) := by decide +kernel
theorem dX12_other_30 : decode cX12_other 30 = .ok (.i2l, 1) := by decide +kernel
theorem dX12_other_31 : decode cX12_other 31 = .ok (.lconst 1, 1) := by decide +kernel
theorem dX12_other_32 : decode cX12_other 32 = .ok (.ldc2_w 239, 3) := by decide +kernel
theorem dX12_other_35 : decode cX12_other 35 = .ok (.invokestatic 214, 3) := by decide +kernel
theorem dX12_other_38 : decode cX12_other 38 = .ok (.ifCond .eq 16, 3) := by decide +kernel
theorem dX12_other_41 : decode cX12_other 41 = .ok (.iload 4, 2) := by decide +kernel
theorem dX12_other_43 : decode cX12_other 43 = .ok (.i2l, 1) := by decide +kernel
theorem dX12_other_44 : decode cX12_other 44 = .ok (.lconst 1, 1) := by decide +kernel
theorem dX12_other_45 : decode cX12_other 45 = .ok (.ldc2_w 330, 3) := by decide +kernel
theorem dX12_other_48 : decode cX12_other 48 = .ok (.invokestatic 214, 3) := by decide +kernel
theorem dX12_other_51 : decode cX12_other 51 = .ok (.ifCond .ne 5, 3) := by decide +kernel
theorem dX12_other_54 : decode cX12_other 54 = .ok (.iconst (-1), 1) := by decide +kernel
theorem dX12_other_55 : decode cX12_other 55 = .ok (.ireturn, 1) := by decide +kernel
theorem dX12_other_56 : decode cX12_other 56 = .ok (.aload_n 0, 1) := by decide +kernel
theorem dX12_other_57 : decode cX12_other 57 = .ok (.invokevirtual 340, 3) := by decide +kernel
theorem dX12_other_60 : decode cX12_other 60 = .ok (.aload_n 0, 1) := by decide +kernel
theorem dX12_other_61 : decode cX12_other 61 = .ok (.getfield 45, 3) := by decide +kernel
theorem dX12_other_64 : decode cX12_other 64 = .ok (.iconst 1, 1) := by decide +kernel
theorem dX12_other_65 : decode cX12_other 65 = .ok (.iload_n 1, 1) := by decide +kernel
theorem dX12_other_66 : decode cX12_other 66 = .ok (.iastore, 1) := by decide +kernel
theorem dX12_other_67 : decode cX12_other 67 = .ok (.aload_n 0, 1) := by decide +kernel
theorem dX12_other_68 : decode cX12_other 68 = .ok (.getfield 48, 3) := by decide +kernel
theorem dX12_other_71 : decode cX12_other 71 = .ok (.iconst 1, 1) := by decide +kernel
theorem dX12_other_72 : decode cX12_other 72 = .ok (.iload_n 2, 1) := by decide +kernel
theorem dX12_other_73 : decode cX12_other 73 = .ok (.iastore, 1) := by decide +kernel
theorem dX12_other_74 : decode cX12_other 74 = .ok (.aload_n 0, 1) := by decide +kernel
theorem dX12_other_75 : decode cX12_other 75 = .ok (.getfield 51, 3) := by decide +kernel
theorem dX12_other_78 : decode cX12_other 78 = .ok (.iconst 1, 1) := by decide +kernel
theorem dX12_other_79 : decode cX12_other 79 = .ok (.iload_n 3, 1) := by decide +kernel
theorem dX12_other_80 : decode cX12_other 80 = .ok (.iastore, 1) := by decide +kernel
theorem dX12_other_81 : decode cX12_other 81 = .ok (.iconst 0, 1) := by decide +kernel
theorem dX12_other_82 : decode cX12_other 82 = .ok (.istore 5, 2) := by decide +kernel
theorem dX12_other_84 : decode cX12_other 84 = .ok (.iload 5, 2) := by decide +kernel
theorem dX12_other_86 : decode cX12_other 86 = .ok (.iload 4, 2) := by decide +kernel
theorem dX12_other_88 : decode cX12_other 88 = .ok (.if_icmp .ge 13, 3) := by decide +kernel
theorem dX12_other_91 : decode cX12_other 91 = .ok (.aload_n 0, 1) := by decide +kernel
theorem dX12_other_92 : decode cX12_other 92 = .ok (.invokevirtual 332, 3) := by decide +kernel
theorem dX12_other_95 : decode cX12_other 95 = .ok (.iinc 5 1, 3) := by decide +kernel
theorem dX12_other_98 : decode cX12_other 98 = .ok (.goto (-14), 3) := by decide +kernel
theorem dX12_other_101 : decode cX12_other 101 = .ok (.aload_n 0, 1) := by decide +kernel
theorem dX12_other_102 : decode cX12_other 102 = .ok (.iconst 0, 1) := by decide +kernel
theorem dX12_other_103 : decode cX12_other 103 = .ok (.putfield 243, 3) := by decide +kernel
theorem dX12_other_106 : decode cX12_other 106 = .ok (.aload_n 0, 1) := by decide +kernel
theorem dX12_other_107 : decode cX12_other 107 = .ok (.getfield 63, 3) := by decide +kernel
theorem dX12_other_110 : decode cX12_other 110 = .ok (.iconst 1, 1) := by decide +kernel
theorem dX12_other_111 : decode cX12_other 111 = .ok (.laload, 1) := by decide +kernel
theorem dX12_other_112 : decode cX12_other 112 = .ok (.l2i, 1) := by decide +kernel
theorem dX12_other_113 : decode cX12_other 113 = .ok (.ireturn, 1) := by decide +kernel
theorem dX12_same_0 : decode cX12_same 0 = .ok (.aload_n 0, 1) := by decide +kernel
theorem dX12_same_1 : decode cX12_same 1 = .ok (.iconst 0, 1) := by decide +kernel
theorem dX12_same_2 : decode cX12_same 2 = .ok (.putfield 194, 3) := by decide +kernel
theorem dX12_same_5 : decode cX12_same 5 = .ok (.aload_n 0, 1) := by decide +kernel
theorem dX12_same_6 : decode cX12_same 6 = .ok (.getfield 60, 3) := by decide +kernel
theorem dX12_same_9 : decode cX12_same 9 = .ok (.iconst 0, 1) := by decide +kernel
theorem dX12_same_10 : decode cX12_same 10 = .ok (.iaload, 1) := by decide +kernel
theorem dX12_same_11 : decode cX12_same 11 = .ok (.aload_n 0, 1) := by decide +kernel
theorem dX12_same_12 : decode cX12_same 12 = .ok (.getfield 284, 3) := by decide +kernel
theorem dX12_same_15 : decode cX12_same 15 = .ok (.if_icmp .le 6, 3) := by decide +kernel
theorem dX12_same_18 : decode cX12_same 18 = .ok (.bipush (-2), 2) := by decide +kernel
theorem dX12_same_20 : decode cX12_same 20 = .ok (.ireturn, 1) := by decide +kernel
theorem dX12_same_21 : decode cX12_same 21 = .ok (.iconst 0, 1) := by decide +kernel
theorem dX12_same_22 : decode cX12_same 22 = .ok (.istore_n 1, 1) := by decide +kernel
theorem dX12_same_23 : decode cX12_same 23 = .ok (.iload_n 1, 1) := by decide +kernel
theorem dX12_same_24 : decode cX12_same 24 = .ok (.bipush 80, 2) := by decide +kernel
theorem dX12_same_26 : decode cX12_same 26 = .ok (.if_icmp .ge 16, 3) := by decide +kernel
theorem dX12_same_29 : decode cX12_same 29 = .ok (.aload_n 0, 1) := by decide +kernel
theorem dX12_same_30 : decode cX12_same 30 = .ok (.getfield 157, 3) := by decide +kernel
theorem dX12_same_33 : decode cX12_same 33 = .ok (.iload_n 1, 1) := by decide +kernel
theorem dX12_same_34 : decode cX12_same 34 = .ok (.iconst 0, 1) := by decide +kernel
theorem dX12_same_35 : decode cX12_same 35 = .ok (.iastore, 1) := by decide +kernel
theorem dX12_same_36 : decode cX12_same 36 = .ok (.iinc 1 1, 3) := by decide +kernel
theorem dX12_same_39 : decode cX12_same 39 = .ok (.goto (-16), 3) := by decide +kernel
theorem dX12_same_42 : decode cX12_same 42 = .ok (.iconst 0, 1) := by decide +kernel
theorem dX12_same_43 : decode cX12_same 43 = .ok (.istore_n 1, 1) := by decide +kernel
theorem dX12_same_44 : decode cX12_same 44 = .ok (.iload_n 1, 1) := by decide +kernel
theorem dX12_same_45 : decode cX12_same 45 = .ok (.aload_n 0, 1) := by decide +kernel
theorem dX12_same_46 : decode cX12_same 46 = .ok (.getfield 284, 3) := by decide +kernel
theorem dX12_same_49 : decode cX12_same 49 = .ok (.if_icmp .ge 71, 3) := by decide +kernel
theorem dX12_same_52 : decode cX12_same 52 = .ok (.iconst 4, 1) := by decide +kernel
theorem dX12_same_53 : decode cX12_same 53 = .ok (.aload_n 0, 1) := by decide +kernel
theorem dX12_same_54 : decode cX12_same 54 = .ok (.getfield 145, 3) := by decide +kernel
theorem dX12_same_57 : decode cX12_same 57 = .ok (.bipush 10, 2) := by decide +kernel
theorem dX12_same_59 : decode cX12_same 59 = .ok (.iload_n 1, 1) := by decide +kernel
theorem dX12_same_60 : decode cX12_same 60 = .ok (.imul, 1) := by decide +kernel
theorem dX12_same_61 : decode cX12_same 61 = .ok (.iconst 3, 1) := by decide +kernel
theorem dX12_same_62 : decode cX12_same 62 = .ok (.iadd, 1) := by decide +kernel
theorem dX12_same_63 : decode cX12_same 63 = .ok (.iaload, 1) := by decide +kernel
theorem dX12_same_64 : decode cX12_same 64 = .ok (.imul, 1) := by decide +kernel
theorem dX12_same_65 : decode cX12_same 65 = .ok (.aload_n 0, 1) := by decide +kernel
theorem dX12_same_66 : decode cX12_same 66 = .ok (.getfield 145, 3) := by decide +kernel
theorem dX12_same_69 : decode cX12_same 69 = .ok (.bipush 10, 2) := by decide +kernel
theorem dX12_same_71 : decode cX12_same 71 = .ok (.iload_n 1, 1) := by decide +kernel
theorem dX12_same_72 : decode cX12_same 72 = .ok (.imul, 1) := by decide +kernel
theorem dX12_same_73 : decode cX12_same 73 = .ok (.iconst 4, 1) := by decide +kernel
theorem dX12_same_74 : decode cX12_same 74 = .ok (.iadd, 1) := by decide +kernel
theorem dX12_same_75 : decode cX12_same 75 = .ok (.iaload, 1) := by decide +kernel
theorem dX12_same_76 : decode cX12_same 76 = .ok (.iadd, 1) := by decide +kernel
theorem dX12_same_77 : decode cX12_same 77 = .ok (.istore_n 2, 1) := by decide +kernel
theorem dX12_same_78 : decode cX12_same 78 = .ok (.aload_n 0, 1) := by decide +kernel
theorem dX12_same_79 : decode cX12_same 79 = .ok (.getfield 157, 3) := by decide +kernel
theorem dX12_same_82 : decode cX12_same 82 = .ok (.iload_n 2, 1) := by decide +kernel
theorem dX12_same_83 : decode cX12_same 83 = .ok (.aload_n 0, 1) := by decide +kernel
theorem dX12_same_84 : decode cX12_same 84 = .ok (.getfield 145, 3) := by decide +kernel
theorem dX12_same_87 : decode cX12_same 87 = .ok (.bipush 10, 2) := by decide +kernel
theorem dX12_same_89 : decode cX12_same 89 = .ok (.iload_n 1, 1) := by decide +kernel
theorem dX12_same_90 : decode cX12_same 90 = .ok (.imul, 1) := by decide +kernel
theorem dX12_same_91 : decode cX12_same 91 = .ok (.iconst 5, 1) := by decide +kernel
theorem dX12_same_92 : decode cX12_same 92 = .ok (.iadd, 1) := by decide +kernel
theorem dX12_same_93 : decode cX12_same 93 = .ok (.iaload, 1) := by decide +kernel
theorem dX12_same_94 : decode cX12_same 94 = .ok (.iconst 1, 1) := by decide +kernel
theorem dX12_same_95 : decode cX12_same 95 = .ok (.if_icmp .ne 12, 3) := by decide +kernel
theorem dX12_same_98 : decode cX12_same 98 = .ok (.aload_n 0, 1) := by decide +kernel
theorem dX12_same_99 : decode cX12_same 99 = .ok (.getfield 148, 3) := by decide +kernel
theorem dX12_same_102 : decode cX12_same 102 = .ok (.iload_n 1, 1) := by decide +kernel
theorem dX12_same_103 : decode cX12_same 103 = .ok (.iaload, 1) := by decide +kernel
theorem dX12_same_104 : decode cX12_same 104 = .ok (.goto 9, 3) := by decide +kernel
theorem dX12_same_107 : decode cX12_same 107 = .ok (.aload_n 0, 1) := by decide +kernel
theorem dX12_same_108 : decode cX12_same 108 = .ok (.getfield 157, 3) := by decide +kernel
theorem dX12_same_111 : decode cX12_same 111 = .ok (.iload_n 2, 1) := by decide +kernel
theorem dX12_same_112 : decode cX12_same 112 = .ok (.iaload, 1) := by decide +kernel
theorem dX12_same_113 : decode cX12_same 113 = .ok (.iastore, 1) := by decide +kernel
theorem dX12_same_114 : decode cX12_same 114 = .ok (.iinc 1 1, 3) := by decide +kernel
theorem dX12_same_117 : decode cX12_same 117 = .ok (.goto (-73), 3) := by decide +kernel
theorem dX12_same_120 : decode cX12_same 120 = .ok (.iconst 1, 1) := by decide +kernel
theorem dX12_same_121 : decode cX12_same 121 = .ok (.istore_n 1, 1) := by decide +kernel
theorem dX12_same_122 : decode cX12_same 122 = .ok (.iconst 0, 1) := by decide +kernel
theorem dX12_same_123 : decode cX12_same 123 = .ok (.istore_n 2, 1) := by decide +kernel
theorem dX12_same_124 : decode cX12_same 124 = .ok (.iload_n 2, 1) := by decide +kernel
theorem dX12_same_125 : decode cX12_same 125 = .ok (.iconst 4, 1) := by decide +kernel
theorem dX12_same_126 : decode cX12_same 126 = .ok (.aload_n 0, 1) := by decide +kernel
theorem dX12_same_127 : decode cX12_same 127 = .ok (.getfield 197, 3) := by decide +kernel
theorem dX12_same_130 : decode cX12_same 130 = .ok (.imul, 1) := by decide +kernel
theorem dX12_same_131 : decode cX12_same 131 = .ok (.if_icmp .ge 34, 3) := by decide +kernel
theorem dX12_same_134 : decode cX12_same 134 = .ok (.iload_n 1, 1) := by decide +kernel
theorem dX12_same_135 : decode cX12_same 135 = .ok (.ifCond .eq 22, 3) := by decide +kernel
theorem dX12_same_138 : decode cX12_same 138 = .ok (.aload_n 0, 1) := by decide +kernel
theorem dX12_same_139 : decode cX12_same 139 = .ok (.getfield 157, 3) := by decide +kernel
theorem dX12_same_142 : decode cX12_same 142 = .ok (.iload_n 2, 1) := by decide +kernel
theorem dX12_same_143 : decode cX12_same 143 = .ok (.iaload, 1) := by decide +kernel
theorem dX12_same_144 : decode cX12_same 144 = .ok (.aload_n 0, 1) := by decide +kernel
theorem dX12_same_145 : decode cX12_same 145 = .ok (.getfield 100, 3) := by decide +kernel
theorem dX12_same_148 : decode cX12_same 148 = .ok (.iload_n 2, 1) := by decide +kernel
theorem dX12_same_149 : decode cX12_same 149 = .ok (.iaload, 1) := by decide +kernel
theorem dX12_same_150 : decode cX12_same 150 = .ok (.if_icmp .ne 7, 3) := by decide +kernel
theorem dX12_same_153 : decode cX12_same 153 = .ok (.iconst 1, 1) := by decide +kernel
theorem dX12_same_154 : decode cX12_same 154 = .ok (.goto 4, 3) := by decide +kernel
theorem dX12_same_157 : decode cX12_same 157 = .ok (.iconst 0, 1) := by decide +kernel
theorem dX12_same_158 : decode cX12_same 158 = .ok (.istore_n 1, 1) := by decide +kernel
theorem dX12_same_159 : decode cX12_same 159 = .ok (.iinc 2 1, 3) := by decide +kernel
theorem dX12_same_162 : decode cX12_same 162 = .ok (.goto (-38), 3) := by decide +kernel
theorem dX12_same_165 : decode cX12_same 165 = .ok (.iload_n 1, 1) := by decide +kernel
theorem dX12_same_166 : decode cX12_same 166 = .ok (.ifCond .eq 7, 3) := by decide +kernel
theorem dX12_same_169 : decode cX12_same 169 = .ok (.iconst 1, 1) := by decide +kernel
theorem dX12_same_170 : decode cX12_same 170 = .ok (.goto 4, 3) := by decide +kernel
theorem dX12_same_173 : decode cX12_same 173 = .ok (.iconst 0, 1) := by decide +kernel
theorem dX12_same_174 : decode cX12_same 174 = .ok (.ireturn, 1) := by decide +kernel
theorem dX12_count_0 : decode cX12_count 0 = .ok (.aload_n 0, 1) := by decide +kernel
theorem dX12_count_1 : decode cX12_count 1 = .ok (.iconst 0, 1) := by decide +kernel
theorem dX12_count_2 : decode cX12_count 2 = .ok (.putfield 194, 3) := by decide +kernel
theorem dX12_count_5 : decode cX12_count 5 = .ok (.iload_n 1, 1) := by decide +kernel
theorem dX12_count_6 : decode cX12_count 6 = .ok (.tableswitch 126 0 10 #[58, 65, 70, 75, 80, 85, 90, 97, 105, 112, 119], 58) := by decide +kernel
theorem dX12_count_64 : decode cX12_count 64 = .ok (.aload_n 0, 1) := by decide +kernel
theorem dX12_count_65 : decode cX12_count 65 = .ok (.getfield 54, 3) := by decide +kernel
theorem dX12_count_68 : decode cX12_count 68 = .ok (.iconst 0, 1) := by decide +kernel
theorem dX12_count_69 : decode cX12_count 69 = .ok (.iaload, 1) := by decide +kernel
theorem dX12_count_70 : decode cX12_count 70 = .ok (.ireturn, 1) := by decide +kernel
theorem dX12_count_71 : decode cX12_count 71 = .ok (.aload_n 0, 1) := by decide +kernel
theorem dX12_count_72 : decode cX12_count 72 = .ok (.getfield 182, 3) := by decide +kernel
theorem dX12_count_75 : decode cX12_count 75 = .ok (.ireturn, 1) := by decide +kernel
theorem dX12_count_76 : decode cX12_count 76 = .ok (.aload_n 0, 1) := by decide +kernel
theorem dX12_count_77 : decode cX12_count 77 = .ok (.getfield 185, 3) := by decide +kernel
theorem dX12_count_80 : decode cX12_count 80 = .ok (.ireturn, 1) := by decide +kernel
theorem dX12_count_81 : decode cX12_count 81 = .ok (.aload_n 0, 1) := by decide +kernel
theorem dX12_count_82 : decode cX12_count 82 = .ok (.getfield 188, 3) := by decide +kernel
theorem dX12_count_85 : decode cX12_count 85 = .ok (.ireturn, 1) := by decide +kernel
theorem dX12_count_86 : decode cX12_count 86 = .ok (.aload_n 0, 1) := by decide +kernel
theorem dX12_count_87 : decode cX12_count 87 = .ok (.getfield 197, 3) := by decide +kernel
theorem dX12_count_90 : decode cX12_count 90 = .ok (.ireturn, 1) := by decide +kernel
theorem dX12_count_91 : decode cX12_count 91 = .ok (.aload_n 0, 1) := by decide +kernel
theorem dX12_count_92 : decode cX12_count 92 = .ok (.getfield 200, 3) := by decide +kernel
theorem dX12_count_95 : decode cX12_count 95 = .ok (.ireturn, 1) := by decide +kernel
theorem dX12_count_96 : decode cX12_count 96 = .ok (.aload_n 0, 1) := by decide +kernel
theorem dX12_count_97 : decode cX12_count 97 = .ok (.getfield 60, 3) := by decide +kernel
theorem dX12_count_100 : decode cX12_count 100 = .ok (.iconst 0, 1) := by decide +kernel
theorem dX12_count_101 : decode cX12_count 101 = .ok (.iaload, 1) := by decide +kernel
theorem dX12_count_102 : decode cX12_count 102 = .ok (.ireturn, 1) := by decide +kernel
theorem dX12_count_103 : decode cX12_count 103 = .ok (.aload_n 0, 1) := by decide +kernel
theorem dX12_count_104 : decode cX12_count 104 = .ok (.getfield 63, 3) := by decide +kernel
theorem dX12_count_107 : decode cX12_count 107 = .ok (.iconst 0, 1) := by decide +kernel
theorem dX12_count_108 : decode cX12_count 108 = .ok (.laload, 1) := by decide +kernel
theorem dX12_count_109 : decode cX12_count 109 = .ok (.l2i, 1) := by decide +kernel
theorem dX12_count_110 : decode cX12_count 110 = .ok (.ireturn, 1) := by decide +kernel
theorem dX12_count_111 : decode cX12_count 111 = .ok (.aload_n 0, 1) := by decide +kernel
theorem dX12_count_112 : decode cX12_count 112 = .ok (.getfield 67, 3) := by decide +kernel
theorem dX12_count_115 : decode cX12_count 115 = .ok (.iconst 0, 1) := by decide +kernel
theorem dX12_count_116 : decode cX12_count 116 = .ok (.iaload, 1) := by decide +kernel
theorem dX12_count_117 : decode cX12_count 117 = .ok (.ireturn, 1) := by decide +kernel
theorem dX12_count_118 : decode cX12_count 118 = .ok (.aload_n 0, 1) := by decide +kernel
theorem dX12_count_119 : decode cX12_count 119 = .ok (.getfield 70, 3) := by decide +kernel
theorem dX12_count_122 : decode cX12_count 122 = .ok (.iconst 0, 1) := by decide +kernel
theorem dX12_count_123 : decode cX12_count 123 = .ok (.iaload, 1) := by decide +kernel
theorem dX12_count_124 : decode cX12_count 124 = .ok (.ireturn, 1) := by decide +kernel
theorem dX12_count_125 : decode cX12_count 125 = .ok (.aload_n 0, 1) := by decide +kernel
theorem dX12_count_126 : decode cX12_count 126 = .ok (.getfield 73, 3) := by decide +kernel
theorem dX12_count_129 : decode cX12_count 129 = .ok (.iconst 0, 1) := by decide +kernel
theorem dX12_count_130 : decode cX12_count 130 = .ok (.iaload, 1) := by decide +kernel
theorem dX12_count_131 : decode cX12_count 131 = .ok (.ireturn, 1) := by decide +kernel
theorem dX12_count_132 : decode cX12_count 132 = .ok (.iconst (-1), 1) := by decide +kernel
theorem dX12_count_133 : decode cX12_count 133 = .ok (.ireturn, 1) := by decide +kernel
theorem dX12_isShelf_0 : decode cX12_isShelf 0 = .ok (.iload_n 0, 1) := by decide +kernel
theorem dX12_isShelf_1 : decode cX12_isShelf 1 = .ok (.ifCond .lt 13, 3) := by decide +kernel
theorem dX12_isShelf_4 : decode cX12_isShelf 4 = .ok (.iload_n 0, 1) := by decide +kernel
theorem dX12_isShelf_5 : decode cX12_isShelf 5 = .ok (.bipush 8, 2) := by decide +kernel
theorem dX12_isShelf_7 : decode cX12_isShelf 7 = .ok (.if_icmp .ge 7, 3) := by decide +kernel
theorem dX12_isShelf_10 : decode cX12_isShelf 10 = .ok (.iconst 1, 1) := by decide +kernel
theorem dX12_isShelf_11 : decode cX12_isShelf 11 = .ok (.goto 4, 3) := by decide +kernel
theorem dX12_isShelf_14 : decode cX12_isShelf 14 = .ok (.iconst 0, 1) := by decide +kernel
theorem dX12_isShelf_15 : decode cX12_isShelf 15 = .ok (.ireturn, 1) := by decide +kernel
theorem dX12_weightOf_0 : decode cX12_weightOf 0 = .ok (.iload_n 1, 1) := by decide +kernel
theorem dX12_weightOf_1 : decode cX12_weightOf 1 = .ok (.iconst 1, 1) := by decide +kernel
theorem dX12_weightOf_2 : decode cX12_weightOf 2 = .ok (.iadd, 1) := by decide +kernel
theorem dX12_weightOf_3 : decode cX12_weightOf 3 = .ok (.istore_n 2, 1) := by decide +kernel
theorem dX12_weightOf_4 : decode cX12_weightOf 4 = .ok (.aload_n 0, 1) := by decide +kernel
theorem dX12_weightOf_5 : decode cX12_weightOf 5 = .ok (.getfield 19, 3) := by decide +kernel
theorem dX12_weightOf_8 : decode cX12_weightOf 8 = .ok (.iload_n 1, 1) := by decide +kernel
theorem dX12_weightOf_9 : decode cX12_weightOf 9 = .ok (.iaload, 1) := by decide +kernel
theorem dX12_weightOf_10 : decode cX12_weightOf 10 = .ok (.ifCond .ne 7, 3) := by decide +kernel
theorem dX12_weightOf_13 : decode cX12_weightOf 13 = .ok (.iload_n 2, 1) := by decide +kernel
theorem dX12_weightOf_14 : decode cX12_weightOf 14 = .ok (.goto 72, 3) := by decide +kernel
theorem dX12_weightOf_17 : decode cX12_weightOf 17 = .ok (.aload_n 0, 1) := by decide +kernel
theorem dX12_weightOf_18 : decode cX12_weightOf 18 = .ok (.getfield 19, 3) := by decide +kernel
theorem dX12_weightOf_21 : decode cX12_weightOf 21 = .ok (.iload_n 1, 1) := by decide +kernel
theorem dX12_weightOf_22 : decode cX12_weightOf 22 = .ok (.iaload, 1) := by decide +kernel
theorem dX12_weightOf_23 : decode cX12_weightOf 23 = .ok (.iconst 1, 1) := by decide +kernel
theorem dX12_weightOf_24 : decode cX12_weightOf 24 = .ok (.if_icmp .ne 21, 3) := by decide +kernel
theorem dX12_weightOf_27 : decode cX12_weightOf 27 = .ok (.iload_n 2, 1) := by decide +kernel
theorem dX12_weightOf_28 : decode cX12_weightOf 28 = .ok (.bipush 10, 2) := by decide +kernel
theorem dX12_weightOf_30 : decode cX12_weightOf 30 = .ok (.aload_n 0, 1) := by decide +kernel
theorem dX12_weightOf_31 : decode cX12_weightOf 31 = .ok (.aload_n 0, 1) := by decide +kernel
theorem dX12_weightOf_32 : decode cX12_weightOf 32 = .ok (.getfield 82, 3) := by decide +kernel
theorem dX12_weightOf_35 : decode cX12_weightOf 35 = .ok (.iload_n 1, 1) := by decide +kernel
theorem dX12_weightOf_36 : decode cX12_weightOf 36 = .ok (.iaload, 1) := by decide +kernel
theorem dX12_weightOf_37 : decode cX12_weightOf 37 = .ok (.invokevirtual 281, 3) := by decide +kernel
theorem dX12_weightOf_40 : decode cX12_weightOf 40 = .ok (.imul, 1) := by decide +kernel
theorem dX12_weightOf_41 : decode cX12_weightOf 41 = .ok (.iadd, 1) := by decide +kernel
theorem dX12_weightOf_42 : decode cX12_weightOf 42 = .ok (.goto 44, 3) := by decide +kernel
theorem dX12_weightOf_45 : decode cX12_weightOf 45 = .ok (.aload_n 0, 1) := by decide +kernel
theorem dX12_weightOf_46 : decode cX12_weightOf 46 = .ok (.getfield 19, 3) := by decide +kernel
theorem dX12_weightOf_49 : decode cX12_weightOf 49 = .ok (.iload_n 1, 1) := by decide +kernel
theorem dX12_weightOf_50 : decode cX12_weightOf 50 = .ok (.iaload, 1) := by decide +kernel
theorem dX12_weightOf_51 : decode cX12_weightOf 51 = .ok (.iconst 2, 1) := by decide +kernel
theorem dX12_weightOf_52 : decode cX12_weightOf 52 = .ok (.if_icmp .ne 29, 3) := by decide +kernel
theorem dX12_weightOf_55 : decode cX12_weightOf 55 = .ok (.iconst 2, 1) := by decide +kernel
theorem dX12_weightOf_56 : decode cX12_weightOf 56 = .ok (.iload_n 2, 1) := by decide +kernel
theorem dX12_weightOf_57 : decode cX12_weightOf 57 = .ok (.imul, 1) := by decide +kernel
theorem dX12_weightOf_58 : decode cX12_weightOf 58 = .ok (.aload_n 0, 1) := by decide +kernel
theorem dX12_weightOf_59 : decode cX12_weightOf 59 = .ok (.getfield 79, 3) := by decide +kernel
theorem dX12_weightOf_62 : decode cX12_weightOf 62 = .ok (.iload_n 1, 1) := by decide +kernel
theorem dX12_weightOf_63 : decode cX12_weightOf 63 = .ok (.iaload, 1) := by decide +kernel
theorem dX12_weightOf_64 : decode cX12_weightOf 64 = .ok (.ifCond .ge 7, 3) := by decide +kernel
theorem dX12_weightOf_67 : decode cX12_weightOf 67 = .ok (.iconst 0, 1) := by decide +kernel
theorem dX12_weightOf_68 : decode cX12_weightOf 68 = .ok (.goto 9, 3) := by decide +kernel
theorem dX12_weightOf_71 : decode cX12_weightOf 71 = .ok (.aload_n 0, 1) := by decide +kernel
theorem dX12_weightOf_72 : decode cX12_weightOf 72 = .ok (.getfield 79, 3) := by decide +kernel
theorem dX12_weightOf_75 : decode cX12_weightOf 75 = .ok (.iload_n 1, 1) := by decide +kernel
theorem dX12_weightOf_76 : decode cX12_weightOf 76 = .ok (.iaload, 1) := by decide +kernel
theorem dX12_weightOf_77 : decode cX12_weightOf 77 = .ok (.iadd, 1) := by decide +kernel
theorem dX12_weightOf_78 : decode cX12_weightOf 78 = .ok (.goto 8, 3) := by decide +kernel
theorem dX12_weightOf_81 : decode cX12_weightOf 81 = .ok (.iload_n 2, 1) := by decide +kernel
theorem dX12_weightOf_82 : decode cX12_weightOf 82 = .ok (.sipush 300, 3) := by decide +kernel
theorem dX12_weightOf_85 : decode cX12_weightOf 85 = .ok (.iadd, 1) := by decide +kernel
theorem dX12_weightOf_86 : decode cX12_weightOf 86 = .ok (.ireturn, 1) := by decide +kernel
theorem dX12_keep_0 : decode cX12_keep 0 = .ok (.aload_n 0, 1) := by decide +kernel
theorem dX12_keep_1 : decode cX12_keep 1 = .ok (.iconst 0, 1) := by decide +kernel
theorem dX12_keep_2 : decode cX12_keep 2 = .ok (.putfield 194, 3) := by decide +kernel
theorem dX12_keep_5 : decode cX12_keep 5 = .ok (.iload_n 1, 1) := by decide +kernel
theorem dX12_keep_6 : decode cX12_keep 6 = .ok (.invokestatic 343, 3) := by decide +kernel
theorem dX12_keep_9 : decode cX12_keep 9 = .ok (.ifCond .eq 34, 3) := by decide +kernel
theorem dX12_keep_12 : decode cX12_keep 12 = .ok (.iload_n 2, 1) := by decide +kernel
theorem dX12_keep_13 : decode cX12_keep 13 = .ok (.ifCond .eq 26, 3) := by decide +kernel
theorem dX12_keep_16 : decode cX12_keep 16 = .ok (.iload_n 2, 1) := by decide +kernel
theorem dX12_keep_17 : decode cX12_keep 17 = .ok (.iconst 1, 1) := by decide +kernel
theorem dX12_keep_18 : decode cX12_keep 18 = .ok (.if_icmp .eq 8, 3) := by decide +kernel
theorem dX12_keep_21 : decode cX12_keep 21 = .ok (.iload_n 2, 1) := by decide +kernel
theorem dX12_keep_22 : decode cX12_keep 22 = .ok (.iconst 4, 1) := by decide +kernel
theorem dX12_keep_23 : decode cX12_keep 23 = .ok (.if_icmp .ne 11, 3) := by decide +kernel
theorem dX12_keep_26 : decode cX12_keep 26 = .ok (.aload_n 0, 1) := by decide +kernel
theorem dX12_keep_27 : decode cX12_keep 27 = .ok (.iload_n 3, 1) := by decide +kernel
theorem dX12_keep_28 : decode cX12_keep 28 = .ok (.invokevirtual 253, 3) := by decide +kernel
theorem dX12_keep_31 : decode cX12_keep 31 = .ok (.ifCond .ne 8, 3) := by decide +kernel
theorem dX12_keep_34 : decode cX12_keep 34 = .ok (.iload_n 2, 1) := by decide +kernel
theorem dX12_keep_35 : decode cX12_keep 35 = .ok (.iconst 3, 1) := by decide +kernel
theorem dX12_keep_36 : decode cX12_keep 36 = .ok (.if_icmp .ne 7, 3) := by decide +kernel
theorem dX12_keep_39 : decode cX12_keep 39 = .ok (.iconst 1, 1) := by decide +kernel
theorem dX12_keep_40 : decode cX12_keep 40 = .ok (.goto 4, 3) := by decide +kernel
theorem dX12_keep_43 : decode cX12_keep 43 = .ok (.iconst 0, 1) := by decide +kernel
theorem dX12_keep_44 : decode cX12_keep 44 = .ok (.istore 4, 2) := by decide +kernel
theorem dX12_keep_46 : decode cX12_keep 46 = .ok (.iload 4, 2) := by decide +kernel
theorem dX12_keep_48 : decode cX12_keep 48 = .ok (.ifCond .ne 5, 3) := by decide +kernel
theorem dX12_keep_51 : decode cX12_keep 51 = .ok (.iconst (-1), 1) := by decide +kernel
theorem dX12_keep_52 : decode cX12_keep 52 = .ok (.ireturn, 1) := by decide +kernel
theorem dX12_keep_53 : decode cX12_keep 53 = .ok (.aload_n 0, 1) := by decide +kernel
theorem dX12_keep_54 : decode cX12_keep 54 = .ok (.getfield 160, 3) := by decide +kernel
theorem dX12_keep_57 : decode cX12_keep 57 = .ok (.iload_n 1, 1) := by decide +kernel
theorem dX12_keep_58 : decode cX12_keep 58 = .ok (.iload_n 2, 1) := by decide +kernel
theorem dX12_keep_59 : decode cX12_keep 59 = .ok (.iastore, 1) := by decide +kernel
theorem dX12_keep_60 : decode cX12_keep 60 = .ok (.aload_n 0, 1) := by decide +kernel
theorem dX12_keep_61 : decode cX12_keep 61 = .ok (.getfield 163, 3) := by decide +kernel
theorem dX12_keep_64 : decode cX12_keep 64 = .ok (.iload_n 1, 1) := by decide +kernel
theorem dX12_keep_65 : decode cX12_keep 65 = .ok (.iload_n 2, 1) := by decide +kernel
theorem dX12_keep_66 : decode cX12_keep 66 = .ok (.iconst 3, 1) := by decide +kernel
theorem dX12_keep_67 : decode cX12_keep 67 = .ok (.if_icmp .ne 10, 3) := by decide +kernel
theorem dX12_keep_70 : decode cX12_keep 70 = .ok (.aload_n 0, 1) := by decide +kernel
theorem dX12_keep_71 : decode cX12_keep 71 = .ok (.getfield 200, 3) := by decide +kernel
theorem dX12_keep_74 : decode cX12_keep 74 = .ok (.goto 13, 3) := by decide +kernel
theorem dX12_keep_77 : decode cX12_keep 77 = .ok (.iload_n 2, 1) := by decide +kernel
theorem dX12_keep_78 : decode cX12_keep 78 = .ok (.iconst 4, 1) := by decide +kernel
theorem dX12_keep_79 : decode cX12_keep 79 = .ok (.if_icmp .ne 7, 3) := by decide +kernel
theorem dX12_keep_82 : decode cX12_keep 82 = .ok (.iconst 4, 1) := by decide +kernel
theorem dX12_keep_83 : decode cX12_keep 83 = .ok (.goto 4, 3) := by decide +kernel
theorem dX12_keep_86 : decode cX12_keep 86 = .ok (.iconst 0, 1) := by decide +kernel
theorem dX12_keep_87 : decode cX12_keep 87 = .ok (.iastore, 1) := by decide +kernel
theorem dX12_keep_88 : decode cX12_keep 88 = .ok (.iload_n 2, 1) := by decide +kernel
theorem dX12_keep_89 : decode cX12_keep 89 = .ok (.iconst 1, 1) := by decide +kernel
theorem dX12_keep_90 : decode cX12_keep 90 = .ok (.if_icmp .ne 35, 3) := by decide +kernel
theorem dX12_keep_93 : decode cX12_keep 93 = .ok (.aload_n 0, 1) := by decide +kernel
theorem dX12_keep_94 : decode cX12_keep 94 = .ok (.getfield 166, 3) := by decide +kernel
theorem dX12_keep_97 : decode cX12_keep 97 = .ok (.iload_n 1, 1) := by decide +kernel
theorem dX12_keep_98 : decode cX12_keep 98 = .ok (.aload_n 0, 1) := by decide +kernel
theorem dX12_keep_99 : decode cX12_keep 99 = .ok (.iload_n 3, 1) := by decide +kernel
theorem dX12_keep_100 : decode cX12_keep 100 = .ok (.invokevirtual 346, 3) := by decide +kernel
theorem dX12_keep_103 : decode cX12_keep 103 = .ok (.iastore, 1) := by decide +kernel
theorem dX12_keep_104 : decode cX12_keep 104 = .ok (.aload_n 0, 1) := by decide +kernel
theorem dX12_keep_105 : decode cX12_keep 105 = .ok (.getfield 169, 3) := by decide +kernel
theorem dX12_keep_108 : decode cX12_keep 108 = .ok (.iload_n 1, 1) := by decide +kernel
theorem dX12_keep_109 : decode cX12_keep 109 = .ok (.aload_n 0, 1) := by decide +kernel
theorem dX12_keep_110 : decode cX12_keep 110 = .ok (.getfield 19, 3) := by decide +kernel
theorem dX12_keep_113 : decode cX12_keep 113 = .ok (.iload_n 3, 1) := by decide +kernel
theorem dX12_keep_114 : decode cX12_keep 114 = .ok (.iaload, 1) := by decide +kernel
theorem dX12_keep_115 : decode cX12_keep 115 = .ok (.ifCond .ne 8, 3) := by decide +kernel
theorem dX12_keep_118 : decode cX12_keep 118 = .ok (.bipush (-15), 2) := by decide +kernel
theorem dX12_keep_120 : decode cX12_keep 120 = .ok (.goto 4, 3) := by decide +kernel
theorem dX12_keep_123 : decode cX12_keep 123 = .ok (.iload_n 3, 1) := by decide +kernel
theorem dX12_keep_124 : decode cX12_keep 124 = .ok (.iastore, 1) := by decide +kernel
theorem dX12_keep_125 : decode cX12_keep 125 = .ok (.iconst 0, 1) := by decide +kernel
theorem dX12_keep_126 : decode cX12_keep 126 = .ok (.istore 5, 2) := by decide +kernel
theorem dX12_keep_128 : decode cX12_keep 128 = .ok (.iload 5, 2) := by decide +kernel
theorem dX12_keep_130 : decode cX12_keep 130 = .ok (.aload_n 0, 1) := by decide +kernel
theorem dX12_keep_131 : decode cX12_keep 131 = .ok (.getfield 163, 3) := by decide +kernel
theorem dX12_keep_134 : decode cX12_keep 134 = .ok (.iload_n 1, 1) := by decide +kernel
theorem dX12_keep_135 : decode cX12_keep 135 = .ok (.iaload, 1) := by decide +kernel
theorem dX12_keep_136 : decode cX12_keep 136 = .ok (.if_icmp .ge 47, 3) := by decide +kernel
theorem dX12_keep_139 : decode cX12_keep 139 = .ok (.aload_n 0, 1) := by decide +kernel
theorem dX12_keep_140 : decode cX12_keep 140 = .ok (.getfield 172, 3) := by decide +kernel
theorem dX12_keep_143 : decode cX12_keep 143 = .ok (.bipush 60, 2) := by decide +kernel
theorem dX12_keep_145 : decode cX12_keep 145 = .ok (.iload_n 1, 1) := by decide +kernel
theorem dX12_keep_146 : decode cX12_keep 146 = .ok (.imul, 1) := by decide +kernel
theorem dX12_keep_147 : decode cX12_keep 147 = .ok (.iload 5, 2) := by decide +kernel
theorem dX12_keep_149 : decode cX12_keep 149 = .ok (.iadd, 1) := by decide +kernel
theorem dX12_keep_150 : decode cX12_keep 150 = .ok (.iload_n 2, 1) := by decide +kernel
theorem dX12_keep_151 : decode cX12_keep 151 = .ok (.iconst 3, 1) := by decide +kernel
theorem dX12_keep_152 : decode cX12_keep 152 = .ok (.if_icmp .ne 13, 3) := by decide +kernel
theorem dX12_keep_155 : decode cX12_keep 155 = .ok (.aload_n 0, 1) := by decide +kernel
theorem dX12_keep_156 : decode cX12_keep 156 = .ok (.getfield 103, 3) := by decide +kernel
theorem dX12_keep_159 : decode cX12_keep 159 = .ok (.iload 5, 2) := by decide +kernel
theorem dX12_keep_161 : decode cX12_keep 161 = .ok (.iaload, 1) := by decide +kernel
theorem dX12_keep_162 : decode cX12_keep 162 = .ok (.goto 14, 3) := by decide +kernel
theorem dX12_keep_165 : decode cX12_keep 165 = .ok (.aload_n 0, 1) := by decide +kernel
theorem dX12_keep_166 : decode cX12_keep 166 = .ok (.getfield 100, 3) := by decide +kernel
theorem dX12_keep_169 : decode cX12_keep 169 = .ok (.iconst 4, 1) := by decide +kernel
theorem dX12_keep_170 : decode cX12_keep 170 = .ok (.iload_n 3, 1) := by decide +kernel
theorem dX12_keep_171 : decode cX12_keep 171 = .ok (.imul, 1) := by decide +kernel
theorem dX12_keep_172 : decode cX12_keep 172 = .ok (.iload 5, 2) := by decide +kernel
theorem dX12_keep_174 : decode cX12_keep 174 = .ok (.iadd, 1) := by decide +kernel
theorem dX12_keep_175 : decode cX12_keep 175 = .ok (.iaload, 1) := by decide +kernel
theorem dX12_keep_176 : decode cX12_keep 176 = .ok (.iastore, 1) := by decide +kernel
theorem dX12_keep_177 : decode cX12_keep 177 = .ok (.iinc 5 1, 3) := by decide +kernel
theorem dX12_keep_180 : decode cX12_keep 180 = .ok (.goto (-52), 3) := by decide +kernel
theorem dX12_keep_183 : decode cX12_keep 183 = .ok (.iconst 0, 1) := by decide +kernel
theorem dX12_keep_184 : decode cX12_keep 184 = .ok (.ireturn, 1) := by decide +kernel
theorem dX12_make_0 : decode cX12_make 0 = .ok (.aload_n 0, 1) := by decide +kernel
theorem dX12_make_1 : decode cX12_make 1 = .ok (.iconst 0, 1) := by decide +kernel
theorem dX12_make_2 : decode cX12_make 2 = .ok (.putfield 194, 3) := by decide +kernel
theorem dX12_make_5 : decode cX12_make 5 = .ok (.iload_n 1, 1) := by decide +kernel
theorem dX12_make_6 : decode cX12_make 6 = .ok (.invokestatic 343, 3) := by decide +kernel
theorem dX12_make_9 : decode cX12_make 9 = .ok (.ifCond .eq 23, 3) := by decide +kernel
theorem dX12_make_12 : decode cX12_make 12 = .ok (.iload_n 2, 1) := by decide +kernel
theorem dX12_make_13 : decode cX12_make 13 = .ok (.i2l, 1) := by decide +kernel
theorem dX12_make_14 : decode cX12_make 14 = .ok (.ldc2_w 226, 3) := by decide +kernel
theorem dX12_make_17 : decode cX12_make 17 = .ok (.ldc2_w 218, 3) := by decide +kernel
theorem dX12_make_20 : decode cX12_make 20 = .ok (.invokestatic 214, 3) := by decide +kernel
theorem dX12_make_23 : decode cX12_make 23 = .ok (.ifCond .eq 9, 3) := by decide +kernel
theorem dX12_make_26 : decode cX12_make 26 = .ok (.iload_n 3, 1) := by decide +kernel
theorem dX12_make_27 : decode cX12_make 27 = .ok (.bipush 60, 2) := by decide +kernel
theorem dX12_make_29 : decode cX12_make 29 = .ok (.if_icmp .le 5, 3) := by decide +kernel
theorem dX12_make_32 : decode cX12_make 32 = .ok (.iconst (-1), 1) := by decide +kernel
theorem dX12_make_33 : decode cX12_make 33 = .ok (.ireturn, 1) := by decide +kernel
theorem dX12_make_34 : decode cX12_make 34 = .ok (.iload_n 3, 1) := by decide +kernel
theorem dX12_make_35 : decode cX12_make 35 = .ok (.ifCond .ge 6, 3) := by decide +kernel
theorem dX12_make_38 : decode cX12_make 38 = .ok (.bipush (-14), 2) := by decide +kernel
theorem dX12_make_40 : decode cX12_make 40 = .ok (.ireturn, 1) := by decide +kernel
theorem dX12_make_41 : decode cX12_make 41 = .ok (.aload_n 0, 1) := by decide +kernel
theorem dX12_make_42 : decode cX12_make 42 = .ok (.getfield 160, 3) := by decide +kernel
theorem dX12_make_45 : decode cX12_make 45 = .ok (.iload_n 1, 1) := by decide +kernel
theorem dX12_make_46 : decode cX12_make 46 = .ok (.iload_n 2, 1) := by decide +kernel
theorem dX12_make_47 : decode cX12_make 47 = .ok (.iastore, 1) := by decide +kernel
theorem dX12_make_48 : decode cX12_make 48 = .ok (.aload_n 0, 1) := by decide +kernel
theorem dX12_make_49 : decode cX12_make 49 = .ok (.getfield 163, 3) := by decide +kernel
theorem dX12_make_52 : decode cX12_make 52 = .ok (.iload_n 1, 1) := by decide +kernel
theorem dX12_make_53 : decode cX12_make 53 = .ok (.iload_n 3, 1) := by decide +kernel
theorem dX12_make_54 : decode cX12_make 54 = .ok (.iastore, 1) := by decide +kernel
theorem dX12_make_55 : decode cX12_make 55 = .ok (.iconst 0, 1) := by decide +kernel
theorem dX12_make_56 : decode cX12_make 56 = .ok (.istore 4, 2) := by decide +kernel
theorem dX12_make_58 : decode cX12_make 58 = .ok (.iload 4, 2) := by decide +kernel
theorem dX12_make_60 : decode cX12_make 60 = .ok (.iload_n 3, 1) := by decide +kernel
theorem dX12_make_61 : decode cX12_make 61 = .ok (.if_icmp .ge 22, 3) := by decide +kernel
theorem dX12_make_64 : decode cX12_make 64 = .ok (.aload_n 0, 1) := by decide +kernel
theorem dX12_make_65 : decode cX12_make 65 = .ok (.getfield 172, 3) := by decide +kernel
theorem dX12_make_68 : decode cX12_make 68 = .ok (.bipush 60, 2) := by decide +kernel
theorem dX12_make_70 : decode cX12_make 70 = .ok (.iload_n 1, 1) := by decide +kernel
theorem dX12_make_71 : decode cX12_make 71 = .ok (.imul, 1) := by decide +kernel
theorem dX12_make_72 : decode cX12_make 72 = .ok (.iload 4, 2) := by decide +kernel
theorem dX12_make_74 : decode cX12_make 74 = .ok (.iadd, 1) := by decide +kernel
theorem dX12_make_75 : decode cX12_make 75 = .ok (.iconst 0, 1) := by decide +kernel
theorem dX12_make_76 : decode cX12_make 76 = .ok (.iastore, 1) := by decide +kernel
theorem dX12_make_77 : decode cX12_make 77 = .ok (.iinc 4 1, 3) := by decide +kernel
theorem dX12_make_80 : decode cX12_make 80 = .ok (.goto (-22), 3) := by decide +kernel
theorem dX12_make_83 : decode cX12_make 83 = .ok (.iconst 0, 1) := by decide +kernel
theorem dX12_make_84 : decode cX12_make 84 = .ok (.ireturn, 1) := by decide +kernel
theorem dX12_element_0 : decode cX12_element 0 = .ok (.iload_n 1, 1) := by decide +kernel
theorem dX12_element_1 : decode cX12_element 1 = .ok (.invokestatic 343, 3) := by decide +kernel
theorem dX12_element_4 : decode cX12_element 4 = .ok (.ifCond .eq 35, 3) := by decide +kernel
theorem dX12_element_7 : decode cX12_element 7 = .ok (.aload_n 0, 1) := by decide +kernel
theorem dX12_element_8 : decode cX12_element 8 = .ok (.getfield 160, 3) := by decide +kernel
theorem dX12_element_11 : decode cX12_element 11 = .ok (.iload_n 1, 1) := by decide +kernel
theorem dX12_element_12 : decode cX12_element 12 = .ok (.iaload, 1) := by decide +kernel
theorem dX12_element_13 : decode cX12_element 13 = .ok (.iconst 2, 1) := by decide +kernel
theorem dX12_element_14 : decode cX12_element 14 = .ok (.if_icmp .le 25, 3) := by decide +kernel
theorem dX12_element_17 : decode cX12_element 17 = .ok (.iload_n 2, 1) := by decide +kernel
theorem dX12_element_18 : decode cX12_element 18 = .ok (.i2l, 1) := by decide +kernel
theorem dX12_element_19 : decode cX12_element 19 = .ok (.lconst 0, 1) := by decide +kernel
theorem dX12_element_20 : decode cX12_element 20 = .ok (.aload_n 0, 1) := by decide +kernel
theorem dX12_element_21 : decode cX12_element 21 = .ok (.getfield 163, 3) := by decide +kernel
theorem dX12_element_24 : decode cX12_element 24 = .ok (.iload_n 1, 1) := by decide +kernel
theorem dX12_element_25 : decode cX12_element 25 = .ok (.iaload, 1) := by decide +kernel
theorem dX12_element_26 : decode cX12_element 26 = .ok (.iconst 1, 1) := by decide +kernel
theorem dX12_element_27 : decode cX12_element 27 = .ok (.isub, 1) := by decide +kernel
theorem dX12_element_28 : decode cX12_element 28 = .ok (.i2l, 1) := by decide +kernel
theorem dX12_element_29 : decode cX12_element 29 = .ok (.invokestatic 214, 3) := by decide +kernel
theorem dX12_element_32 : decode cX12_element 32 = .ok (.ifCond .eq 7, 3) := by decide +kernel
theorem dX12_element_35 : decode cX12_element 35 = .ok (.iconst 1, 1) := by decide +kernel
theorem dX12_element_36 : decode cX12_element 36 = .ok (.goto 4, 3) := by decide +kernel
theorem dX12_element_39 : decode cX12_element 39 = .ok (.iconst 0, 1) := by decide +kernel
theorem dX12_element_40 : decode cX12_element 40 = .ok (.istore_n 3, 1) := by decide +kernel
theorem dX12_element_41 : decode cX12_element 41 = .ok (.aload_n 0, 1) := by decide +kernel
theorem dX12_element_42 : decode cX12_element 42 = .ok (.iload_n 1, 1) := by decide +kernel
theorem dX12_element_43 : decode cX12_element 43 = .ok (.invokestatic 343, 3) := by decide +kernel
theorem dX12_element_46 : decode cX12_element 46 = .ok (.ifCond .ne 7, 3) := by decide +kernel
theorem dX12_element_49 : decode cX12_element 49 = .ok (.iconst 1, 1) := by decide +kernel
theorem dX12_element_50 : decode cX12_element 50 = .ok (.goto 12, 3) := by decide +kernel
theorem dX12_element_53 : decode cX12_element 53 = .ok (.iload_n 3, 1) := by decide +kernel
theorem dX12_element_54 : decode cX12_element 54 = .ok (.ifCond .eq 7, 3) := by decide +kernel
theorem dX12_element_57 : decode cX12_element 57 = .ok (.iconst 0, 1) := by decide +kernel
theorem dX12_element_58 : decode cX12_element 58 = .ok (.goto 4, 3) := by decide +kernel
theorem dX12_element_61 : decode cX12_element 61 = .ok (.iconst 2, 1) := by decide +kernel
theorem dX12_element_62 : decode cX12_element 62 = .ok (.putfield 194, 3) := by decide +kernel
theorem dX12_element_65 : decode cX12_element 65 = .ok (.iload_n 3, 1) := by decide +kernel
theorem dX12_element_66 : decode cX12_element 66 = .ok (.ifCond .eq 18, 3) := by decide +kernel
theorem dX12_element_69 : decode cX12_element 69 = .ok (.aload_n 0, 1) := by decide +kernel
theorem dX12_element_70 : decode cX12_element 70 = .ok (.getfield 172, 3) := by decide +kernel
theorem dX12_element_73 : decode cX12_element 73 = .ok (.bipush 60, 2) := by decide +kernel
theorem dX12_element_75 : decode cX12_element 75 = .ok (.iload_n 1, 1) := by decide +kernel
theorem dX12_element_76 : decode cX12_element 76 = .ok (.imul, 1) := by decide +kernel
theorem dX12_element_77 : decode cX12_element 77 = .ok (.iload_n 2, 1) := by decide +kernel
theorem dX12_element_78 : decode cX12_element 78 = .ok (.iadd, 1) := by decide +kernel
theorem dX12_element_79 : decode cX12_element 79 = .ok (.iaload, 1) := by decide +kernel
theorem dX12_element_80 : decode cX12_element 80 = .ok (.i2l, 1) := by decide +kernel
theorem dX12_element_81 : decode cX12_element 81 = .ok (.goto 4, 3) := by decide +kernel
theorem dX12_element_84 : decode cX12_element 84 = .ok (.lconst 0, 1) := by decide +kernel
theorem dX12_element_85 : decode cX12_element 85 = .ok (.lreturn, 1) := by decide +kernel
theorem dX12_hasPlaces_0 : decode cX12_hasPlaces 0 = .ok (.iload_n 3, 1) := by decide +kernel
theorem dX12_hasPlaces_1 : decode cX12_hasPlaces 1 = .ok (.ifCond .lt 33, 3) := by decide +kernel
theorem dX12_hasPlaces_4 : decode cX12_hasPlaces 4 = .ok (.iload_n 2, 1) := by decide +kernel
theorem dX12_hasPlaces_5 : decode cX12_hasPlaces 5 = .ok (.ifCond .lt 29, 3) := by decide +kernel
theorem dX12_hasPlaces_8 : decode cX12_hasPlaces 8 = .ok (.iload_n 2, 1) := by decide +kernel
theorem dX12_hasPlaces_9 : decode cX12_hasPlaces 9 = .ok (.aload_n 0, 1) := by decide +kernel
theorem dX12_hasPlaces_10 : decode cX12_hasPlaces 10 = .ok (.getfield 163, 3) := by decide +kernel
theorem dX12_hasPlaces_13 : decode cX12_hasPlaces 13 = .ok (.iload_n 1, 1) := by decide +kernel
theorem dX12_hasPlaces_14 : decode cX12_hasPlaces 14 = .ok (.iaload, 1) := by decide +kernel
theorem dX12_hasPlaces_15 : decode cX12_hasPlaces 15 = .ok (.if_icmp .gt 19, 3) := by decide +kernel
theorem dX12_hasPlaces_18 : decode cX12_hasPlaces 18 = .ok (.iload_n 3, 1) := by decide +kernel
theorem dX12_hasPlaces_19 : decode cX12_hasPlaces 19 = .ok (.aload_n 0, 1) := by decide +kernel
theorem dX12_hasPlaces_20 : decode cX12_hasPlaces 20 = .ok (.getfield 163, 3) := by decide +kernel
theorem dX12_hasPlaces_23 : decode cX12_hasPlaces 23 = .ok (.iload_n 1, 1) := by decide +kernel
theorem dX12_hasPlaces_24 : decode cX12_hasPlaces 24 = .ok (.iaload, 1) := by decide +kernel
theorem dX12_hasPlaces_25 : decode cX12_hasPlaces 25 = .ok (.iload_n 2, 1) := by decide +kernel
theorem dX12_hasPlaces_26 : decode cX12_hasPlaces 26 = .ok (.isub, 1) := by decide +kernel
theorem dX12_hasPlaces_27 : decode cX12_hasPlaces 27 = .ok (.if_icmp .gt 7, 3) := by decide +kernel
theorem dX12_hasPlaces_30 : decode cX12_hasPlaces 30 = .ok (.iconst 1, 1) := by decide +kernel
theorem dX12_hasPlaces_31 : decode cX12_hasPlaces 31 = .ok (.goto 4, 3) := by decide +kernel
theorem dX12_hasPlaces_34 : decode cX12_hasPlaces 34 = .ok (.iconst 0, 1) := by decide +kernel
theorem dX12_hasPlaces_35 : decode cX12_hasPlaces 35 = .ok (.ireturn, 1) := by decide +kernel
theorem dX12_copy_0 : decode cX12_copy 0 = .ok (.aload_n 0, 1) := by decide +kernel
theorem dX12_copy_1 : decode cX12_copy 1 = .ok (.iconst 0, 1) := by decide +kernel
theorem dX12_copy_2 : decode cX12_copy 2 = .ok (.putfield 194, 3) := by decide +kernel
theorem dX12_copy_5 : decode cX12_copy 5 = .ok (.iload_n 1, 1) := by decide +kernel
theorem dX12_copy_6 : decode cX12_copy 6 = .ok (.invokestatic 343, 3) := by decide +kernel
theorem dX12_copy_9 : decode cX12_copy 9 = .ok (.ifCond .eq 10, 3) := by decide +kernel
theorem dX12_copy_12 : decode cX12_copy 12 = .ok (.iload_n 3, 1) := by decide +kernel
theorem dX12_copy_13 : decode cX12_copy 13 = .ok (.invokestatic 343, 3) := by decide +kernel
theorem dX12_copy_16 : decode cX12_copy 16 = .ok (.ifCond .ne 5, 3) := by decide +kernel
theorem dX12_copy_19 : decode cX12_copy 19 = .ok (.iconst (-1), 1) := by decide +kernel
theorem dX12_copy_20 : decode cX12_copy 20 = .ok (.ireturn, 1) := by decide +kernel
theorem dX12_copy_21 : decode cX12_copy 21 = .ok (.aload_n 0, 1) := by decide +kernel
theorem dX12_copy_22 : decode cX12_copy 22 = .ok (.getfield 160, 3) := by decide +kernel
theorem dX12_copy_25 : decode cX12_copy 25 = .ok (.iload_n 1, 1) := by decide +kernel
theorem dX12_copy_26 : decode cX12_copy 26 = .ok (.iaload, 1) := by decide +kernel
theorem dX12_copy_27 : decode cX12_copy 27 = .ok (.ifCond .eq 12, 3) := by decide +kernel
theorem dX12_copy_30 : decode cX12_copy 30 = .ok (.aload_n 0, 1) := by decide +kernel
theorem dX12_copy_31 : decode cX12_copy 31 = .ok (.getfield 160, 3) := by decide +kernel
theorem dX12_copy_34 : decode cX12_copy 34 = .ok (.iload_n 3, 1) := by decide +kernel
theorem dX12_copy_35 : decode cX12_copy 35 = .ok (.iaload, 1) := by decide +kernel
theorem dX12_copy_36 : decode cX12_copy 36 = .ok (.ifCond .ne 6, 3) := by decide +kernel
theorem dX12_copy_39 : decode cX12_copy 39 = .ok (.bipush (-11), 2) := by decide +kernel
theorem dX12_copy_41 : decode cX12_copy 41 = .ok (.ireturn, 1) := by decide +kernel
theorem dX12_copy_42 : decode cX12_copy 42 = .ok (.aload_n 0, 1) := by decide +kernel
theorem dX12_copy_43 : decode cX12_copy 43 = .ok (.getfield 160, 3) := by decide +kernel
theorem dX12_copy_46 : decode cX12_copy 46 = .ok (.iload_n 1, 1) := by decide +kernel
theorem dX12_copy_47 : decode cX12_copy 47 = .ok (.iaload, 1) := by decide +kernel
theorem dX12_copy_48 : decode cX12_copy 48 = .ok (.iconst 3, 1) := by decide +kernel
theorem dX12_copy_49 : decode cX12_copy 49 = .ok (.if_icmp .lt 18, 3) := by decide +kernel
theorem dX12_copy_52 : decode cX12_copy 52 = .ok (.aload_n 0, 1) := by decide +kernel
theorem dX12_copy_53 : decode cX12_copy 53 = .ok (.getfield 160, 3) := by decide +kernel
theorem dX12_copy_56 : decode cX12_copy 56 = .ok (.iload_n 1, 1) := by decide +kernel
theorem dX12_copy_57 : decode cX12_copy 57 = .ok (.iaload, 1) := by decide +kernel
theorem dX12_copy_58 : decode cX12_copy 58 = .ok (.aload_n 0, 1) := by decide +kernel
theorem dX12_copy_59 : decode cX12_copy 59 = .ok (.getfield 160, 3) := by decide +kernel
theorem dX12_copy_62 : decode cX12_copy 62 = .ok (.iload_n 3, 1) := by decide +kernel
theorem dX12_copy_63 : decode cX12_copy 63 = .ok (.iaload, 1) := by decide +kernel
theorem dX12_copy_64 : decode cX12_copy 64 = .ok (.if_icmp .eq 6, 3) := by decide +kernel
theorem dX12_copy_67 : decode cX12_copy 67 = .ok (.bipush (-12), 2) := by decide +kernel
theorem dX12_copy_69 : decode cX12_copy 69 = .ok (.ireturn, 1) := by decide +kernel
theorem dX12_copy_70 : decode cX12_copy 70 = .ok (.aload_n 0, 1) := by decide +kernel
theorem dX12_copy_71 : decode cX12_copy 71 = .ok (.iload_n 1, 1) := by decide +kernel
theorem dX12_copy_72 : decode cX12_copy 72 = .ok (.iload_n 2, 1) := by decide +kernel
theorem dX12_copy_73 : decode cX12_copy 73 = .ok (.iload 5, 2) := by decide +kernel
theorem dX12_copy_75 : decode cX12_copy 75 = .ok (.invokevirtual 349, 3) := by decide +kernel
theorem dX12_copy_78 : decode cX12_copy 78 = .ok (.ifCond .eq 15, 3) := by decide +kernel
theorem dX12_copy_81 : decode cX12_copy 81 = .ok (.aload_n 0, 1) := by decide +kernel
theorem dX12_copy_82 : decode cX12_copy 82 = .ok (.iload_n 3, 1) := by decide +kernel
theorem dX12_copy_83 : decode cX12_copy 83 = .ok (.iload 4, 2) := by decide +kernel
theorem dX12_copy_85 : decode cX12_copy 85 = .ok (.iload 5, 2) := by decide +kernel
theorem dX12_copy_87 : decode cX12_copy 87 = .ok (.invokevirtual 349, 3) := by decide +kernel
theorem dX12_copy_90 : decode cX12_copy 90 = .ok (.ifCond .ne 6, 3) := by decide +kernel
theorem dX12_copy_93 : decode cX12_copy 93 = .ok (.bipush (-13), 2) := by decide +kernel
theorem dX12_copy_95 : decode cX12_copy 95 = .ok (.ireturn, 1) := by decide +kernel
theorem dX12_copy_96 : decode cX12_copy 96 = .ok (.iconst 0, 1) := by decide +kernel
theorem dX12_copy_97 : decode cX12_copy 97 = .ok (.istore 6, 2) := by decide +kernel
theorem dX12_copy_99 : decode cX12_copy 99 = .ok (.iload 6, 2) := by decide +kernel
theorem dX12_copy_101 : decode cX12_copy 101 = .ok (.iload 5, 2) := by decide +kernel
theorem dX12_copy_103 : decode cX12_copy 103 = .ok (.if_icmp .ge 30, 3) := by decide +kernel
theorem dX12_copy_106 : decode cX12_copy 106 = .ok (.aload_n 0, 1) := by decide +kernel
theorem dX12_copy_107 : decode cX12_copy 107 = .ok (.getfield 175, 3) := by decide +kernel
theorem dX12_copy_110 : decode cX12_copy 110 = .ok (.iload 6, 2) := by decide +kernel
theorem dX12_copy_112 : decode cX12_copy 112 = .ok (.aload_n 0, 1) := by decide +kernel
theorem dX12_copy_113 : decode cX12_copy 113 = .ok (.getfield 172, 3) := by decide +kernel
theorem dX12_copy_116 : decode cX12_copy 116 = .ok (.bipush 60, 2) := by decide +kernel
theorem dX12_copy_118 : decode cX12_copy 118 = .ok (.iload_n 1, 1) := by decide +kernel
theorem dX12_copy_119 : decode cX12_copy 119 = .ok (.imul, 1) := by decide +kernel
theorem dX12_copy_120 : decode cX12_copy 120 = .ok (.iload_n 2, 1) := by decide +kernel
theorem dX12_copy_121 : decode cX12_copy 121 = .ok (.iadd, 1) := by decide +kernel
theorem dX12_copy_122 : decode cX12_copy 122 = .ok (.iload 6, 2) := by decide +kernel
theorem dX12_copy_124 : decode cX12_copy 124 = .ok (.iadd, 1) := by decide +kernel
theorem dX12_copy_125 : decode cX12_copy 125 = .ok (.iaload, 1) := by decide +kernel
theorem dX12_copy_126 : decode cX12_copy 126 = .ok (.iastore, 1) := by decide +kernel
theorem dX12_copy_127 : decode cX12_copy 127 = .ok (.iinc 6 1, 3) := by decide +kernel
theorem dX12_copy_130 : decode cX12_copy 130 = .ok (.goto (-31), 3) := by decide +kernel
theorem dX12_copy_133 : decode cX12_copy 133 = .ok (.iconst 0, 1) := by decide +kernel
theorem dX12_copy_134 : decode cX12_copy 134 = .ok (.istore 6, 2) := by decide +kernel
theorem dX12_copy_136 : decode cX12_copy 136 = .ok (.iload 6, 2) := by decide +kernel
theorem dX12_copy_138 : decode cX12_copy 138 = .ok (.iload 5, 2) := by decide +kernel
theorem dX12_copy_140 : decode cX12_copy 140 = .ok (.if_icmp .ge 31, 3) := by decide +kernel
theorem dX12_copy_143 : decode cX12_copy 143 = .ok (.aload_n 0, 1) := by decide +kernel
theorem dX12_copy_144 : decode cX12_copy 144 = .ok (.getfield 172, 3) := by decide +kernel
theorem dX12_copy_147 : decode cX12_copy 147 = .ok (.bipush 60, 2) := by decide +kernel
theorem dX12_copy_149 : decode cX12_copy 149 = .ok (.iload_n 3, 1) := by decide +kernel
theorem dX12_copy_150 : decode cX12_copy 150 = .ok (.imul, 1) := by decide +kernel
theorem dX12_copy_151 : decode cX12_copy 151 = .ok (.iload 4, 2) := by decide +kernel
theorem dX12_copy_153 : decode cX12_copy 153 = .ok (.iadd, 1) := by decide +kernel
theorem dX12_copy_154 : decode cX12_copy 154 = .ok (.iload 6, 2) := by decide +kernel
theorem dX12_copy_156 : decode cX12_copy 156 = .ok (.iadd, 1) := by decide +kernel
theorem dX12_copy_157 : decode cX12_copy 157 = .ok (.aload_n 0, 1) := by decide +kernel
theorem dX12_copy_158 : decode cX12_copy 158 = .ok (.getfield 175, 3) := by decide +kernel
theorem dX12_copy_161 : decode cX12_copy 161 = .ok (.iload 6, 2) := by decide +kernel
theorem dX12_copy_163 : decode cX12_copy 163 = .ok (.iaload, 1) := by decide +kernel
theorem dX12_copy_164 : decode cX12_copy 164 = .ok (.iastore, 1) := by decide +kernel
theorem dX12_copy_165 : decode cX12_copy 165 = .ok (.iinc 6 1, 3) := by decide +kernel
theorem dX12_copy_168 : decode cX12_copy 168 = .ok (.goto (-32), 3) := by decide +kernel
theorem dX12_copy_171 : decode cX12_copy 171 = .ok (.iload 5, 2) := by decide +kernel
theorem dX12_copy_173 : decode cX12_copy 173 = .ok (.ireturn, 1) := by decide +kernel
theorem dX12_denied_0 : decode cX12_denied 0 = .ok (.iload_n 1, 1) := by decide +kernel
theorem dX12_denied_1 : decode cX12_denied 1 = .ok (.invokestatic 343, 3) := by decide +kernel
theorem dX12_denied_4 : decode cX12_denied 4 = .ok (.ifCond .ne 7, 3) := by decide +kernel
theorem dX12_denied_7 : decode cX12_denied 7 = .ok (.iconst (-1), 1) := by decide +kernel
theorem dX12_denied_8 : decode cX12_denied 8 = .ok (.goto 33, 3) := by decide +kernel
theorem dX12_denied_11 : decode cX12_denied 11 = .ok (.aload_n 0, 1) := by decide +kernel
theorem dX12_denied_12 : decode cX12_denied 12 = .ok (.getfield 160, 3) := by decide +kernel
theorem dX12_denied_15 : decode cX12_denied 15 = .ok (.iload_n 1, 1) := by decide +kernel
theorem dX12_denied_16 : decode cX12_denied 16 = .ok (.iaload, 1) := by decide +kernel
theorem dX12_denied_17 : decode cX12_denied 17 = .ok (.ifCond .ne 8, 3) := by decide +kernel
theorem dX12_denied_20 : decode cX12_denied 20 = .ok (.bipush (-11), 2) := by decide +kernel
theorem dX12_denied_22 : decode cX12_denied 22 = .ok (.goto 19, 3) := by decide +kernel
theorem dX12_denied_25 : decode cX12_denied 25 = .ok (.aload_n 0, 1) := by decide +kernel
theorem dX12_denied_26 : decode cX12_denied 26 = .ok (.getfield 160, 3) := by decide +kernel
theorem dX12_denied_29 : decode cX12_denied 29 = .ok (.iload_n 1, 1) := by decide +kernel
theorem dX12_denied_30 : decode cX12_denied 30 = .ok (.iaload, 1) := by decide +kernel
theorem dX12_denied_31 : decode cX12_denied 31 = .ok (.iconst 1, 1) := by decide +kernel
theorem dX12_denied_32 : decode cX12_denied 32 = .ok (.if_icmp .le 8, 3) := by decide +kernel
theorem dX12_denied_35 : decode cX12_denied 35 = .ok (.bipush (-12), 2) := by decide +kernel
theorem dX12_denied_37 : decode cX12_denied 37 = .ok (.goto 4, 3) := by decide +kernel
theorem dX12_denied_40 : decode cX12_denied 40 = .ok (.iconst 0, 1) := by decide +kernel
theorem dX12_denied_41 : decode cX12_denied 41 = .ok (.ireturn, 1) := by decide +kernel
theorem dX12_weight_0 : decode cX12_weight 0 = .ok (.aload_n 0, 1) := by decide +kernel
theorem dX12_weight_1 : decode cX12_weight 1 = .ok (.iconst 0, 1) := by decide +kernel
theorem dX12_weight_2 : decode cX12_weight 2 = .ok (.putfield 194, 3) := by decide +kernel
theorem dX12_weight_5 : decode cX12_weight 5 = .ok (.aload_n 0, 1) := by decide +kernel
theorem dX12_weight_6 : decode cX12_weight 6 = .ok (.iload_n 1, 1) := by decide +kernel
theorem dX12_weight_7 : decode cX12_weight 7 = .ok (.invokevirtual 353, 3) := by decide +kernel
theorem dX12_weight_10 : decode cX12_weight 10 = .ok (.istore_n 2, 1) := by decide +kernel
theorem dX12_weight_11 : decode cX12_weight 11 = .ok (.iload_n 2, 1) := by decide +kernel
theorem dX12_weight_12 : decode cX12_weight 12 = .ok (.ifCond .ge 7, 3) := by decide +kernel
theorem dX12_weight_15 : decode cX12_weight 15 = .ok (.iload_n 2, 1) := by decide +kernel
theorem dX12_weight_16 : decode cX12_weight 16 = .ok (.goto 9, 3) := by decide +kernel
theorem dX12_weight_19 : decode cX12_weight 19 = .ok (.aload_n 0, 1) := by decide +kernel
theorem dX12_weight_20 : decode cX12_weight 20 = .ok (.getfield 166, 3) := by decide +kernel
theorem dX12_weight_23 : decode cX12_weight 23 = .ok (.iload_n 1, 1) := by decide +kernel
theorem dX12_weight_24 : decode cX12_weight 24 = .ok (.iaload, 1) := by decide +kernel
theorem dX12_weight_25 : decode cX12_weight 25 = .ok (.ireturn, 1) := by decide +kernel
theorem dX12_toss_0 : decode cX12_toss 0 = .ok (.aload_n 0, 1) := by decide +kernel
theorem dX12_toss_1 : decode cX12_toss 1 = .ok (.iconst 0, 1) := by decide +kernel
theorem dX12_toss_2 : decode cX12_toss 2 = .ok (.putfield 194, 3) := by decide +kernel
theorem dX12_toss_5 : decode cX12_toss 5 = .ok (.aload_n 0, 1) := by decide +kernel
theorem dX12_toss_6 : decode cX12_toss 6 = .ok (.iload_n 1, 1) := by decide +kernel
theorem dX12_toss_7 : decode cX12_toss 7 = .ok (.invokevirtual 353, 3) := by decide +kernel
theorem dX12_toss_10 : decode cX12_toss 10 = .ok (.istore_n 2, 1) := by decide +kernel
theorem dX12_toss_11 : decode cX12_toss 11 = .ok (.iload_n 2, 1) := by decide +kernel
theorem dX12_toss_12 : decode cX12_toss 12 = .ok (.ifCond .ge 7, 3) := by decide +kernel
theorem dX12_toss_15 : decode cX12_toss 15 = .ok (.iload_n 2, 1) := by decide +kernel
theorem dX12_toss_16 : decode cX12_toss 16 = .ok (.goto 9, 3) := by decide +kernel
theorem dX12_toss_19 : decode cX12_toss 19 = .ok (.aload_n 0, 1) := by decide +kernel
theorem dX12_toss_20 : decode cX12_toss 20 = .ok (.getfield 169, 3) := by decide +kernel
theorem dX12_toss_23 : decode cX12_toss 23 = .ok (.iload_n 1, 1) := by decide +kernel
theorem dX12_toss_24 : decode cX12_toss 24 = .ok (.iaload, 1) := by decide +kernel
theorem dX12_toss_25 : decode cX12_toss 25 = .ok (.ireturn, 1) := by decide +kernel
end
section
/-! The layout behind both constructors, and a judgement over it: abstract addresses are offsets from the base B; a memory is its ints (and booleans, bytes) and its longs. -/
abbrev Mm : Type := (Nat → Nat → Int32) × (Nat → Nat → Int64)
abbrev MI : Type := MethodName × ByteArray × Nat × Option FieldType × Nat × Nat
def iy (M : MI) : MethodName := M.1
def ic (M : MI) : ByteArray := M.2.1
def il (M : MI) : Nat := M.2.2.1
def ir (M : MI) : Option FieldType := M.2.2.2.1
def ifr (M : MI) : Nat := M.2.2.2.2.1
def ilw (M : MI) : Nat := M.2.2.2.2.2
def tbG : List Cond := lw_tbl.filter goodWord
theorem tbG_at {w : Cond} (i : Nat) (h : lw_tbl[i]? = some w) (hg : goodWord w = true) : w ∈ tbG := List.mem_filter.mpr ⟨List.mem_of_getElem? h, hg⟩
def wsM (M : MI) : List Cond := .code (iy M) (ic M) (il M) (ir M) :: tbG
def rmM (M : MI) : Room := { frames := ifr M, cells := 0, slots := 0, locals := ilw M }
def kdL : List (Nat × Nat) := [(11, 4), (1, 7), (20, 16), (20, 16), (20, 16), (20, 16), (25, 10), (7, 5), (20, 60), (20, 60), (22, 60), (20, 60), (7, 5), (20, 60), (20, 60), (22, 60), (20, 60), (7, 5), (20, 60), (20, 60), (22, 60), (20, 60), (7, 5), (20, 60), (20, 60), (22, 60), (20, 60), (7, 5), (20, 60), (20, 60), (22, 60), (20, 60), (7, 5), (20, 60), (20, 60), (22, 60), (20, 60), (7, 5), (20, 60), (20, 60), (22, 60), (20, 60), (7, 5), (20, 60), (20, 60), (22, 60), (20, 60), (7, 5), (20, 60), (20, 60), (22, 60), (20, 60), (7, 5), (20, 60), (20, 60), (22, 60), (20, 60), (3, 19), (5, 2), (20, 40), (20, 4), (6, 5), (0, 10), (24, 20), (27, 10), (20, 4), (20, 4), (9, 4), (20, 16), (20, 16), (20, 16), (2, 5), (20, 4), (20, 80), (20, 3300), (4, 9), (20, 4), (20, 4), (4, 9), (20, 4), (20, 4), (4, 9), (20, 4), (20, 4), (4, 9), (20, 4), (20, 4), (4, 9), (20, 4), (20, 4), (4, 9), (20, 4), (20, 4), (4, 9), (20, 4), (20, 4), (4, 9), (20, 4), (20, 4), (4, 9), (20, 4), (20, 4), (4, 9), (20, 4), (20, 4), (4, 9), (20, 4), (20, 4), (4, 9), (20, 4), (20, 4), (4, 9), (20, 4), (20, 4), (4, 9), (20, 4), (20, 4), (4, 9), (20, 4), (20, 4), (4, 9), (20, 4), (20, 4), (4, 9), (20, 4), (20, 4), (4, 9), (20, 4), (20, 4), (4, 9), (20, 4), (20, 4), (4, 9), (20, 4), (20, 4), (10, 8), (10, 8), (10, 8), (10, 8), (10, 8), (10, 8), (10, 8), (10, 8), (10, 8), (10, 8), (3, 19), (5, 2), (20, 40), (20, 4), (6, 5), (0, 10), (24, 20), (27, 10), (20, 4), (20, 4), (9, 4), (20, 16), (20, 16), (20, 16), (2, 5), (20, 4), (20, 80), (20, 0), (4, 9), (20, 4), (20, 4), (4, 9), (20, 4), (20, 4), (4, 9), (20, 4), (20, 4), (4, 9), (20, 4), (20, 4), (4, 9), (20, 4), (20, 4), (4, 9), (20, 4), (20, 4), (4, 9), (20, 4), (20, 4), (4, 9), (20, 4), (20, 4), (4, 9), (20, 4), (20, 4), (4, 9), (20, 4), (20, 4), (4, 9), (20, 4), (20, 4), (4, 9), (20, 4), (20, 4), (4, 9), (20, 4), (20, 4), (4, 9), (20, 4), (20, 4), (4, 9), (20, 4), (20, 4), (4, 9), (20, 4), (20, 4), (4, 9), (20, 4), (20, 4), (4, 9), (20, 4), (20, 4), (4, 9), (20, 4), (20, 4), (4, 9), (20, 4), (20, 4), (10, 8), (10, 8), (10, 8), (10, 8), (10, 8), (10, 8), (10, 8), (10, 8), (10, 8), (10, 8), (26, 8), (8, 8), (23, 60), (20, 60), (8, 8), (23, 60), (20, 60), (8, 8), (23, 60), (20, 60), (8, 8), (23, 60), (20, 60), (8, 8), (23, 60), (20, 60), (8, 8), (23, 60), (20, 60), (8, 8), (23, 60), (20, 60), (8, 8), (23, 60), (20, 60), (12, 65), (20, 16), (20, 16), (20, 16), (20, 20), (20, 10), (20, 600), (20, 600), (22, 600), (20, 600), (20, 2), (20, 2), (20, 2), (20, 2), (20, 2), (20, 2), (21, 2), (20, 2), (20, 2), (20, 2), (20, 2), (20, 40), (20, 40), (22, 40), (20, 40), (20, 160), (20, 40), (21, 40), (20, 160), (20, 20), (20, 20), (20, 20), (20, 20), (20, 20), (22, 20), (20, 20), (21, 20), (20, 20), (22, 20), (21, 8), (20, 32), (20, 32), (20, 32), (20, 3000), (20, 300), (21, 4), (21, 4), (20, 80), (20, 8), (20, 8), (20, 8), (20, 8), (20, 480), (20, 60)]
def N0 : Nat := 312
def kd (a : Nat) : Nat × Nat := kdL.getD a (99, 0)
def kw (Ω : Nat × Nat) (a : Nat) : Nat × Nat := if Ω.1 ≤ a ∧ a < Ω.2 then kd a else (99, 0)
def refL : List (List Nat) := [[], [3, 4, 5, 6], [1, 3, 4], [0, 1, 2, 3, 4, 5, 6, 7, 8, 9], [0, 1], [0, 1], [], [0, 1, 2, 3], [0, 1], [0, 1, 2, 3], [0], [0, 1, 2, 3], [4, 5, 6, 8, 10, 11, 12, 13, 14, 18, 19, 20, 21, 22, 23, 24, 25, 26, 27, 28, 29, 30, 31, 32, 33, 34, 35, 36, 37, 38, 39, 40, 41, 42, 43, 44, 45, 46, 47, 48, 49, 50, 52, 53, 56, 57, 58, 59, 60, 61, 62, 63, 64]]
def isR (ci k : Nat) : Bool := (refL.getD ci []).contains k
def rfMo : List Nat := [0, 0, 0, 0, 259, 260, 261, 0, 262, 0, 263, 264, 265, 266, 267, 0, 0, 0, 268, 269, 270, 271, 272, 273, 274, 275, 276, 277, 278, 279, 280, 281, 282, 283, 284, 285, 286, 287, 288, 289, 290, 291, 292, 293, 294, 295, 296, 297, 298, 299, 300, 0, 301, 302, 0, 0, 303, 304, 305, 306, 307, 308, 309, 310, 311]
/-- a machine at b: what its parts refer to -/
def rfMa (b o k : Nat) : Nat :=
  if o = 0 then ([1, b + 10, b + 1, b + 4, b + 14, b + 5, b + 6, b + 7, b + 8, b + 9].getD k 0)
  else if o = 1 then b + 2 + k
  else if o = 6 then b + 18 + 3 * k
  else if o = 7 then b + 78 + k
  else if o = 10 then (if k = 0 then 1 else b + 10 + k)
  else if o = 14 then (if k = 1 then b + 17 else if k = 3 then b + 15 else b + 16)
  else if o < 78 then b + o + 1 + k
  else 7 + 5 * (o - 78)
def rf (a k : Nat) : Nat :=
  if a = 0 then ([1, 57, 145, 233].getD k 0)
  else if a = 1 then k - 1
  else if a = 6 then 7 + 5 * k
  else if a < 57 then a + 1 + k
  else if a < 145 then rfMa 57 (a - 57) k
  else if a < 233 then rfMa 145 (a - 145) k
  else if a = 233 then 234 + 3 * k
  else if a < 258 then a + 1 + k
  else rfMo.getD k 0
def cv (B : Nat) : Value → Value
  | .ref a => .ref (B + a)
  | v => v
def fval (B : Nat) (σ : Mm) (a ci k : Nat) : Value := if isR ci k = true then .ref (B + rf a k) else .int (σ.1 a k)
def ent (B : Nat) (cA : Nat → ClassId) (σ : Mm) (a : Nat) : va_E :=
  if (kd a).1 < 20 then .inr ((kd a).1, (List.range (kd a).2).map (fval B σ a (kd a).1))
  else if (kd a).1 = 21 then .inl (cA 21, (kd a).2, .inr (.inl (σ.2 a)))
  else if (kd a).1 < 24 then .inl (cA (kd a).1, (kd a).2, .inl (σ.1 a))
  else .inl (cA (kd a).1, (kd a).2, .inr (.inr (.inr (.inr (fun i => some (B + rf a i))))))
def wld (Ω : Nat × Nat) (B : Nat) (cA : Nat → ClassId) (σ : Mm) : va_W := (List.range (Ω.2 - Ω.1)).map (fun i => (B + (Ω.1 + i), ent B cA σ (Ω.1 + i)))
def tysL (cA : Nat → ClassId) : List (ClassId × FieldType) := [(cA 20, .int), (cA 21, .long), (cA 22, .boolean), (cA 23, .byte), (cA 24, .object "FarCells$Page"), (cA 25, .object "FarCells$Script"), (cA 26, .object "FarCells$Shelf"), (cA 27, .object "FarCells$Worker")]
def wI (σ : Mm) (a j : Nat) (v : Int32) : Mm := (fun b => if b = a then upd (σ.1 a) j v else σ.1 b, σ.2)
def wL (σ : Mm) (a j : Nat) (v : Int64) : Mm := (σ.1, fun b => if b = a then vp_updL (σ.2 a) j v else σ.2 b)
theorem kw_in {Ω : Nat × Nat} {a : Nat} {q : Nat × Nat} (h : kw Ω a = q) (hq : q.1 ≠ 99) : Ω.1 ≤ a ∧ a < Ω.2 ∧ kd a = q := by
  unfold kw at h
  split at h
  · next hh => exact ⟨hh.1, hh.2, h⟩
  · exact absurd (by rw [← h]) hq
theorem wld_at {Ω : Nat × Nat} {B : Nat} {cA : Nat → ClassId} {σ : Mm} {a : Nat} (h1 : Ω.1 ≤ a) (h2 : a < Ω.2) : (wld Ω B cA σ)[a - Ω.1]? = some (B + a, ent B cA σ a) := by
  have h3 : a - Ω.1 < Ω.2 - Ω.1 := by omega
  have h4 : Ω.1 + (a - Ω.1) = a := by omega
  simp only [wld, List.getElem?_map, List.getElem?_range h3, Option.map_some, h4]
theorem wld_set {Ω : Nat × Nat} {B : Nat} {cA : Nat → ClassId} {σ σ' : Mm} {a : Nat} {e : va_E} (h1 : Ω.1 ≤ a) (h2 : a < Ω.2) (he : e = ent B cA σ' a) (ho : ∀ b, b ≠ a → ent B cA σ' b = ent B cA σ b) : (wld Ω B cA σ).set (a - Ω.1) (B + a, e) = wld Ω B cA σ' := by
  subst he
  apply List.ext_getElem?
  intro i
  rw [List.getElem?_set]
  by_cases hi : a - Ω.1 = i
  · subst hi
    have h3 : a - Ω.1 < (wld Ω B cA σ).length := by simp only [wld, List.length_map, List.length_range]; omega
    rw [if_pos rfl, if_pos h3, wld_at h1 h2]
  · rw [if_neg hi]
    by_cases hl : i < Ω.2 - Ω.1
    · simp only [wld, List.getElem?_map, List.getElem?_range hl, Option.map_some]
      rw [ho (Ω.1 + i) (by omega)]
    · have hl' : Ω.2 - Ω.1 ≤ i := by omega
      simp only [wld, List.getElem?_map, List.getElem?_eq_none (by simpa using hl' : (List.range (Ω.2 - Ω.1)).length ≤ i), Option.map_none]
theorem wld_D {Ω : Nat × Nat} {B : Nat} {cA : Nat → ClassId} {σ : Mm} : va_D (fun q => B ≤ q) (wld Ω B cA σ) := by
  refine ⟨fun i j p q hi hj he => ?_, fun k q hk => ?_⟩
  · simp only [wld, List.getElem?_map, Option.map_eq_some_iff] at hi hj
    obtain ⟨x, hx, rfl⟩ := hi
    obtain ⟨y, hy, rfl⟩ := hj
    have hi2 : x = i := by
      have := List.getElem?_eq_some_iff.mp hx
      obtain ⟨h1, h2⟩ := this
      simpa using h2.symm
    have hj2 : y = j := by
      have := List.getElem?_eq_some_iff.mp hy
      obtain ⟨h1, h2⟩ := this
      simpa using h2.symm
    subst hi2; subst hj2
    have : B + (Ω.1 + x) = B + (Ω.1 + y) := he
    omega
  · simp only [wld, List.getElem?_map, Option.map_eq_some_iff] at hk
    obtain ⟨x, hx, rfl⟩ := hk
    exact Nat.le_add_right _ _
theorem ent_obj {B : Nat} {cA : Nat → ClassId} {σ : Mm} {a ci n : Nat} (h : kd a = (ci, n)) (hc : ci < 20) : ent B cA σ a = .inr (ci, (List.range n).map (fval B σ a ci)) := by
  unfold ent; rw [h]; exact if_pos hc
theorem ent_long {B : Nat} {cA : Nat → ClassId} {σ : Mm} {a n : Nat} (h : kd a = (21, n)) : ent B cA σ a = .inl (cA 21, n, .inr (.inl (σ.2 a))) := by
  unfold ent; rw [h]; rfl
theorem ent_int {B : Nat} {cA : Nat → ClassId} {σ : Mm} {a c n : Nat} (h : kd a = (c, n)) (hc : c = 20 ∨ c = 22 ∨ c = 23) : ent B cA σ a = .inl (cA c, n, .inl (σ.1 a)) := by
  unfold ent; rw [h]
  rcases hc with rfl | rfl | rfl <;> rfl
theorem ent_ref {B : Nat} {cA : Nat → ClassId} {σ : Mm} {a c n : Nat} (h : kd a = (c, n)) (hc : 24 ≤ c) : ent B cA σ a = .inl (cA c, n, .inr (.inr (.inr (.inr (fun i => some (B + rf a i)))))) := by
  unfold ent; rw [h]
  have h1 : ¬ c < 20 := by omega
  have h2 : ¬ c = 21 := by omega
  have h3 : ¬ c < 24 := by omega
  simp only [h1, h2, h3, if_false]
theorem ent_wI {B : Nat} {cA : Nat → ClassId} {σ : Mm} {a j b : Nat} {v : Int32} (h : b ≠ a) : ent B cA (wI σ a j v) b = ent B cA σ b := by
  have h1 : (wI σ a j v).1 b = σ.1 b := if_neg h
  have h2 : (wI σ a j v).2 b = σ.2 b := rfl
  unfold ent
  rw [h1, h2]
  have h3 : fval B (wI σ a j v) b (kd b).1 = fval B σ b (kd b).1 := by
    funext k; unfold fval; rw [h1]
  rw [h3]
theorem ent_wL {B : Nat} {cA : Nat → ClassId} {σ : Mm} {a j b : Nat} {v : Int64} (h : b ≠ a) : ent B cA (wL σ a j v) b = ent B cA σ b := by
  have h1 : (wL σ a j v).2 b = σ.2 b := if_neg h
  have h2 : (wL σ a j v).1 b = σ.1 b := rfl
  unfold ent
  rw [h1, h2]
  have h3 : fval B (wL σ a j v) b (kd b).1 = fval B σ b (kd b).1 := by
    funext k; unfold fval; rw [h2]
  rw [h3]
theorem kd_small (a : Nat) : (kd a).2 ≤ 3300 := by
  by_cases h : a < 312
  · have : ∀ a, a < 312 → (kd a).2 ≤ 3300 := by decide +kernel
    exact this a h
  · unfold kd
    have hl : kdL.length ≤ a := by
      have : kdL.length = 312 := by decide +kernel
      omega
    rw [List.getD, List.getElem?_eq_none hl]
    decide
end
section
def nestL : List (String × Nat × MethodName × String) := [("FarCells", 26, ({ cls := "FarCells$Script", name := "<init>", desc := "()V" } : Jvm.MethodName), "FarCells"), ("FarCells$Machine", 11, ({ cls := "FarCells$Queues", name := "<init>", desc := "()V" } : Jvm.MethodName), "FarCells"), ("FarCells$Machine", 20, ({ cls := "FarCells$Rules", name := "<init>", desc := "()V" } : Jvm.MethodName), "FarCells"), ("FarCells$Machine", 27, ({ cls := "FarCells$Attempt", name := "<init>", desc := "()V" } : Jvm.MethodName), "FarCells"), ("FarCells$Machine", 77, ({ cls := "FarCells$Page", name := "<init>", desc := "()V" } : Jvm.MethodName), "FarCells"), ("FarCells", 45, ({ cls := "FarCells$Shelf", name := "<init>", desc := "()V" } : Jvm.MethodName), "FarCells"), ("FarCells$Board", 43, ({ cls := "FarCells", name := "within", desc := "(III)Z" } : Jvm.MethodName), "FarCells"), ("FarCells$Machine", 138, ({ cls := "FarCells", name := "within", desc := "(III)Z" } : Jvm.MethodName), "FarCells")]
/-! The judgement G: at pc, with locals ls, operand stack st and memory σ, the method comes to its end with K. -/
def lvR (B : Nat) (la : Array Slot) (n : Nat) (ls : List (Option Value)) : Prop := la.size = n ∧ lv_wf la ∧ ∀ (i : Nat) (v : Value), ls[i]? = some (some v) → la[i]? = some (.val (cv B v))
def NsK (U : State) : Prop := ∀ q ∈ nestL, va_Nw (.methodLinkNest q.1 q.2.1 q.2.2.1 q.2.2.2) U
theorem NsK.moved {s U : State} (hW : s.WarmedH U.vm) (h : NsK s) : NsK U := fun q hq => va_Nw.warmM hW (h q hq)
def KW (D : va_G) (cA : Nat → ClassId) (U : State) : Prop := va_K D vwCl (tysL cA) U ∧ NsK U
def Cx (M : MI) (D : va_G) (cA : Nat → ClassId) (p : Program) (s : State) (m : MethodId) (args : Array Value) (meth : Method) (c : Code) : Prop :=
  p.tables.exec = Jvm.exec ∧ c.code = ic M ∧ c.maxLocals = il M ∧ s.vm.findClass (iy M).cls = some m.cls ∧ meth.sig.returnType = ir M ∧ meth.locks = false ∧ (∀ w ∈ tbG, w.before args s = true) ∧ va_K D vwCl (tysL cA) s ∧ NsK s
def QK (Ω : Nat × Nat) (B : Nat) (D : va_G) (cA : Nat → ClassId) (K : Option Value → Mm → Prop) : Array Value → State → Outcome → State → Prop := fun _ st oc t =>
  (∃ (v : Option Value) (σ' : Mm), oc = .returned (v.map (cv B)) ∧ K v σ' ∧ va_P D vwCl (wld Ω B cA σ') t.heap) ∧ va_F (fun q => B ≤ q) st t
def G (Ω : Nat × Nat) (M : MI) (K : Option Value → Mm → Prop) (pc : Nat) (ls : List (Option Value)) (st : List Value) (σ : Mm) : Prop :=
  ∀ (B : Nat) (D : va_G) (cA : Nat → ClassId) (p : Program) (l : Launch) (e : Env) (s : State) (m : MethodId) (args : Array Value) (below : List Frame) (meth : Method) (c : Code) (H : Heap) (locs : List Loc) (la : Array Slot),
    Cx M D cA p s m args meth c → va_P D vwCl (wld Ω B cA σ) H → va_S (fun q => B ≤ q) s.heap H locs → lvR B la (il M) ls →
    W p l e (rmM M) s m args below meth c H locs 0 0 (MQ below (QK Ω B D cA K) args s 0 0 (fun q => B ≤ q)) (F0 m pc la (st.map (cv B)))
def MetM (Ω : Nat × Nat) (M : MI) (av : List Value) (σ : Mm) (K : Option Value → Mm → Prop) : Prop :=
  ∀ (l : Launch) (B : Nat) (D : va_G) (cA : Nat → ClassId), Met l (iy M) (wsM M) (rmM M) (va_Pc (av.map (cv B)) (fun U => va_P D vwCl (wld Ω B cA σ) U.heap ∧ KW D cA U)) (QK Ω B D cA K) 0 0 (fun q => B ≤ q)
theorem cv_cat (B : Nat) (v : Value) : (cv B v).category = v.category := by cases v <;> rfl
def so : Slot → Option Value
  | .val v => some v
  | _ => none
def cs (B : Nat) : Slot → Slot
  | .val v => .val (cv B v)
  | x => x
theorem sl_cv (B : Nat) (av : List Value) : lg_sl (av.map (cv B)) = (lg_sl av).map (cs B) := by
  induction av with
  | nil => rfl
  | cons v t ih =>
    unfold lg_sl at ih ⊢
    rw [List.map_cons, List.flatMap_cons, List.flatMap_cons, List.map_append, ih, cv_cat]
    split <;> rfl
def ls0 (av : List Value) (n : Nat) : List (Option Value) := (lg_sl av).map so ++ List.replicate (n - (lg_sl av).length) none
theorem lvR_entry {B : Nat} {av : List Value} {n : Nat} (h : (lg_sl av).length ≤ n) : lvR B ((lg_sl (av.map (cv B)) ++ List.replicate (n - (lg_sl (av.map (cv B))).length) Slot.unset).toArray) n (ls0 av n) := by
  have hlen : (lg_sl (av.map (cv B))).length = (lg_sl av).length := by rw [sl_cv, List.length_map]
  have h1 := lv_entry (av.map (cv B)) (n := n) (by rw [hlen]; exact h)
  refine ⟨h1.1, h1.2.1, fun i v hi => ?_⟩
  rw [hlen, sl_cv]
  unfold ls0 at hi
  rw [List.getElem?_append, List.length_map] at hi
  rw [List.getElem?_toArray, List.getElem?_append, List.length_map]
  split
  · next hlt =>
    rw [if_pos hlt, List.getElem?_map] at hi
    rw [List.getElem?_map]
    cases hq : (lg_sl av)[i]? with
    | none => rw [hq] at hi; cases hi
    | some x =>
      rw [hq] at hi
      cases x with
      | val u => cases hi; rfl
      | unset => cases hi
      | second => cases hi
  · next hlt =>
    rw [if_neg hlt, List.getElem?_replicate] at hi
    split at hi <;> cases hi
theorem G.met {Ω : Nat × Nat} {M : MI} {av : List Value} {σ : Mm} {K : Option Value → Mm → Prop} (hy : plainName (iy M).cls = true) (hlen : (lg_sl av).length ≤ il M) (h : G Ω M K 0 (ls0 av (il M)) [] σ) : MetM Ω M av σ K := by
  intro l B D cA
  refine Met.ofW (cc := ic M) (maxL := il M) (ret := ir M) hy rfl ?_
  intro p e s m args below meth c s₁ B0 hml hv
  obtain ⟨rfl, hP, hK, hNs⟩ := hv
  have hts := atoms_spec (ws := wsM M) B0.pre
  rw [lg_entry_eq]
  exact h B D cA p l e s m _ below meth c s.heap [] _ ⟨B0.exec, B0.bytes, hml, findClass_of_methodNamed B0.named, B0.returns, B0.notSynchronized, fun w hw => hts w (List.mem_cons_of_mem _ hw), hK, hNs⟩ hP va_S.rf (lvR_entry hlen)
-- ends
section
variable {Ω : Nat × Nat} {M : MI} {K : Option Value → Mm → Prop} {pc : Nat} {ls : List (Option Value)} {st : List Value} {σ : Mm}
theorem g_ireturn {v : Int32} (d : decode (ic M) pc = .ok (.ireturn, 1)) (hr : ir M = some .int) (k : K (some (.int v)) σ) : G Ω M K pc ls [.int v] σ := by
  intro B D cA p l e s m args below meth c H locs la C hP hS hl
  obtain ⟨hx, hb, hml, hown, hret, hlocks, hts, hK, hNs⟩ := C
  exact W.iret hx hb (hret.trans hr) (fun t ht hW => ⟨⟨some (.int v), σ, rfl, k, by rw [ht]; exact hP⟩, hS.F ht⟩) hS.2.2 d hlocks
theorem g_zreturn {v : Int32} (d : decode (ic M) pc = .ok (.ireturn, 1)) (hr : ir M = some .boolean) (hn : v = 0 ∨ v = 1) (k : K (some (.int v)) σ) : G Ω M K pc ls [.int v] σ := by
  intro B D cA p l e s m args below meth c H locs la C hP hS hl
  obtain ⟨hx, hb, hml, hown, hret, hlocks, hts, hK, hNs⟩ := C
  exact W.zret hx hb (hret.trans hr) (by rcases hn with rfl | rfl <;> decide) (fun t ht hW => ⟨⟨some (.int v), σ, rfl, k, by rw [ht]; exact hP⟩, hS.F ht⟩) hS.2.2 d hlocks
theorem g_lreturn {v : Int64} (d : decode (ic M) pc = .ok (.lreturn, 1)) (hr : ir M = some .long) (k : K (some (.long v)) σ) : G Ω M K pc ls [.long v] σ := by
  intro B D cA p l e s m args below meth c H locs la C hP hS hl
  obtain ⟨hx, hb, hml, hown, hret, hlocks, hts, hK, hNs⟩ := C
  exact W.lret hx hb (hret.trans hr) (fun t ht hW => ⟨⟨some (.long v), σ, rfl, k, by rw [ht]; exact hP⟩, hS.F ht⟩) hS.2.2 d hlocks
theorem g_return (d : decode (ic M) pc = .ok (.return_, 1)) (hr : ir M = none) (k : K none σ) : G Ω M K pc ls [] σ := by
  intro B D cA p l e s m args below meth c H locs la C hP hS hl
  obtain ⟨hx, hb, hml, hown, hret, hlocks, hts, hK, hNs⟩ := C
  exact W.vret hx hb (hret.trans hr) (fun t ht hW => ⟨⟨none, σ, rfl, k, by rw [ht]; exact hP⟩, hS.F ht⟩) hS.2.2 d hlocks
-- loads
theorem lvR.at' {B : Nat} {la : Array Slot} {n : Nat} (h : lvR B la n ls) {i : Nat} {v : Value} (hi : ls[i]? = some (some v)) : la[i]? = some (.val (cv B v)) := h.2.2 i v hi
theorem g_iconst {n : Int} {v : Int32} (d : decode (ic M) pc = .ok (.iconst n, 1)) (hv : Int32.ofInt n = v) (k : G Ω M K (pc + 1) ls (.int v :: st) σ) : G Ω M K pc ls (st) σ := by
  intro B D cA p l e s m args below meth c H locs la C hP hS hl
  obtain ⟨hx, hb, hml, hown, hret, hlocks, hts, hK, hNs⟩ := C
  exact lv_iconst hx hb d hv (k B D cA p l e s m args below meth c H locs la ⟨hx, hb, hml, hown, hret, hlocks, hts, hK, hNs⟩ hP hS hl)
theorem g_bipush {n : Int} {v : Int32} (d : decode (ic M) pc = .ok (.bipush n, 2)) (hv : (Int8.ofInt n).toInt32 = v) (k : G Ω M K (pc + 2) ls (.int v :: st) σ) : G Ω M K pc ls (st) σ := by
  intro B D cA p l e s m args below meth c H locs la C hP hS hl
  obtain ⟨hx, hb, hml, hown, hret, hlocks, hts, hK, hNs⟩ := C
  exact lv_bipush hx hb d hv (k B D cA p l e s m args below meth c H locs la ⟨hx, hb, hml, hown, hret, hlocks, hts, hK, hNs⟩ hP hS hl)
theorem g_sipush {n : Int} {v : Int32} (d : decode (ic M) pc = .ok (.sipush n, 3)) (hv : (Int16.ofInt n).toInt32 = v) (k : G Ω M K (pc + 3) ls (.int v :: st) σ) : G Ω M K pc ls (st) σ := by
  intro B D cA p l e s m args below meth c H locs la C hP hS hl
  obtain ⟨hx, hb, hml, hown, hret, hlocks, hts, hK, hNs⟩ := C
  exact lv_sipush hx hb d hv (k B D cA p l e s m args below meth c H locs la ⟨hx, hb, hml, hown, hret, hlocks, hts, hK, hNs⟩ hP hS hl)
theorem g_lconst {n : Fin 2} {v : Int64} (d : decode (ic M) pc = .ok (.lconst n, 1)) (hv : Int64.ofNat (n : Nat) = v) (k : G Ω M K (pc + 1) ls (.long v :: st) σ) : G Ω M K pc ls (st) σ := by
  intro B D cA p l e s m args below meth c H locs la C hP hS hl
  obtain ⟨hx, hb, hml, hown, hret, hlocks, hts, hK, hNs⟩ := C
  exact lv_lconst hx hb d hv (k B D cA p l e s m args below meth c H locs la ⟨hx, hb, hml, hown, hret, hlocks, hts, hK, hNs⟩ hP hS hl)
theorem g_iload_n {q : Fin 4} {x : Int32} (d : decode (ic M) pc = .ok (.iload_n q, 1)) (hl0 : ls[(q : Nat)]? = some (some (.int x))) (k : G Ω M K (pc + 1) ls (.int x :: st) σ) : G Ω M K pc ls (st) σ := by
  intro B D cA p l e s m args below meth c H locs la C hP hS hl
  obtain ⟨hx, hb, hml, hown, hret, hlocks, hts, hK, hNs⟩ := C
  exact lv_iload_n hx hb d rfl (hl.at' hl0) (k B D cA p l e s m args below meth c H locs la ⟨hx, hb, hml, hown, hret, hlocks, hts, hK, hNs⟩ hP hS hl)
theorem g_iload {i : Nat} {x : Int32} (d : decode (ic M) pc = .ok (.iload i, 2)) (hl0 : ls[i]? = some (some (.int x))) (k : G Ω M K (pc + 2) ls (.int x :: st) σ) : G Ω M K pc ls (st) σ := by
  intro B D cA p l e s m args below meth c H locs la C hP hS hl
  obtain ⟨hx, hb, hml, hown, hret, hlocks, hts, hK, hNs⟩ := C
  exact lv_iload hx hb d (hl.at' hl0) (k B D cA p l e s m args below meth c H locs la ⟨hx, hb, hml, hown, hret, hlocks, hts, hK, hNs⟩ hP hS hl)
theorem g_lload_n {q : Fin 4} {x : Int64} (d : decode (ic M) pc = .ok (.lload_n q, 1)) (hl0 : ls[(q : Nat)]? = some (some (.long x))) (k : G Ω M K (pc + 1) ls (.long x :: st) σ) : G Ω M K pc ls (st) σ := by
  intro B D cA p l e s m args below meth c H locs la C hP hS hl
  obtain ⟨hx, hb, hml, hown, hret, hlocks, hts, hK, hNs⟩ := C
  exact lv_lload_n hx hb d rfl (hl.at' hl0) (k B D cA p l e s m args below meth c H locs la ⟨hx, hb, hml, hown, hret, hlocks, hts, hK, hNs⟩ hP hS hl)
theorem g_lload {i : Nat} {x : Int64} (d : decode (ic M) pc = .ok (.lload i, 2)) (hl0 : ls[i]? = some (some (.long x))) (k : G Ω M K (pc + 2) ls (.long x :: st) σ) : G Ω M K pc ls (st) σ := by
  intro B D cA p l e s m args below meth c H locs la C hP hS hl
  obtain ⟨hx, hb, hml, hown, hret, hlocks, hts, hK, hNs⟩ := C
  exact lv_lload hx hb d (hl.at' hl0) (k B D cA p l e s m args below meth c H locs la ⟨hx, hb, hml, hown, hret, hlocks, hts, hK, hNs⟩ hP hS hl)
theorem g_aload_n {q : Fin 4} {x : Nat} (d : decode (ic M) pc = .ok (.aload_n q, 1)) (hl0 : ls[(q : Nat)]? = some (some (.ref x))) (k : G Ω M K (pc + 1) ls (.ref x :: st) σ) : G Ω M K pc ls (st) σ := by
  intro B D cA p l e s m args below meth c H locs la C hP hS hl
  obtain ⟨hx, hb, hml, hown, hret, hlocks, hts, hK, hNs⟩ := C
  exact lv_aload_n hx hb d rfl (hl.at' hl0) (k B D cA p l e s m args below meth c H locs la ⟨hx, hb, hml, hown, hret, hlocks, hts, hK, hNs⟩ hP hS hl)
theorem g_aload {i : Nat} {x : Nat} (d : decode (ic M) pc = .ok (.aload i, 2)) (hl0 : ls[i]? = some (some (.ref x))) (k : G Ω M K (pc + 2) ls (.ref x :: st) σ) : G Ω M K pc ls (st) σ := by
  intro B D cA p l e s m args below meth c H locs la C hP hS hl
  obtain ⟨hx, hb, hml, hown, hret, hlocks, hts, hK, hNs⟩ := C
  exact lv_aload hx hb d (hl.at' hl0) (k B D cA p l e s m args below meth c H locs la ⟨hx, hb, hml, hown, hret, hlocks, hts, hK, hNs⟩ hP hS hl)
def lvA (B : Nat) (ls : List (Option Value)) : List (Nat × Value) := (List.range ls.length).filterMap (fun i => match ls[i]? with
  | some (some v) => some (i, cv B v)
  | _ => none)
theorem lvA_mem {B : Nat} {i : Nat} {v : Value} (h : ls[i]? = some (some v)) : (i, cv B v) ∈ lvA B ls := by
  refine List.mem_filterMap.mpr ⟨i, List.mem_range.mpr (List.getElem?_eq_some_iff.mp h).1, ?_⟩
  rw [h]
theorem lvA_has {B : Nat} {la : Array Slot} {n : Nat} (h : lvR B la n ls) : lv_has la n (lvA B ls) := by
  refine ⟨h.1, h.2.1, fun q hq => ?_⟩
  obtain ⟨i, -, hi⟩ := List.mem_filterMap.mp hq
  split at hi
  · next v hv => cases hi; exact h.2.2 i v hv
  · cases hi
/-- nothing of category 2 ends at place i -/
def nl2 (ls : List (Option Value)) (i : Nat) : Bool := match i with
  | 0 => true
  | j + 1 => match ls[j]? with
    | some (some (.long _)) => false
    | some (some (.double _)) => false
    | _ => true
theorem nl2_spec {j : Nat} {v : Value} (h : nl2 ls (j + 1) = true) (hv : ls[j]? = some (some v)) : v.category ≠ 2 := by
  intro hc
  simp only [nl2] at h
  rw [hv] at h
  cases v <;> simp [Value.category] at hc <;> cases h
theorem lvR_st1 {B : Nat} {la : Array Slot} {n i : Nat} {x : Value} (h : nl2 ls i = true) (hl : i < ls.length) (hs : lv_has la n ((i, cv B x) :: (lvA B ls).filter (fun q => !(q.1 == i) && !(q.1 + 1 == i && q.2.category == 2)))) : lvR B la n (ls.set i (some x)) := by
  refine ⟨hs.1, hs.2.1, fun j v hj => ?_⟩
  rw [List.getElem?_set] at hj
  split at hj
  · next hij =>
    subst hij
    (try rw [if_pos hl] at hj)
    cases hj
    exact hs.2.2 _ List.mem_cons_self
  · next hij =>
    refine hs.2.2 (j, cv B v) (List.mem_cons_of_mem _ (List.mem_filter.mpr ⟨lvA_mem hj, ?_⟩))
    have h1 : (j == i) = false := by simpa using fun q => hij q.symm
    rw [h1]
    by_cases h2 : j + 1 = i
    · subst h2
      have h3 := nl2_spec h hj
      simp [cv_cat, h3]
    · have h4 : (j + 1 == i) = false := by simpa using h2
      rw [h4]; rfl
theorem lvR_st2 {B : Nat} {la : Array Slot} {n i : Nat} {x : Value} (h : nl2 ls i = true) (hl : i < ls.length) (hs : lv_has la n ((i, cv B x) :: (lvA B ls).filter (fun q => !(q.1 == i) && (!(q.1 == i + 1) && !(q.1 + 1 == i && q.2.category == 2))))) : lvR B la n ((ls.set i (some x)).set (i + 1) none) := by
  refine ⟨hs.1, hs.2.1, fun j v hj => ?_⟩
  rw [List.getElem?_set] at hj
  split at hj
  · split at hj <;> cases hj
  · next hij1 =>
    rw [List.getElem?_set] at hj
    split at hj
    · next hij =>
      subst hij
      (try rw [if_pos hl] at hj)
      cases hj
      exact hs.2.2 _ List.mem_cons_self
    · next hij =>
      refine hs.2.2 (j, cv B v) (List.mem_cons_of_mem _ (List.mem_filter.mpr ⟨lvA_mem hj, ?_⟩))
      have h1 : (j == i) = false := by simpa using fun q => hij q.symm
      have h5 : (j == i + 1) = false := by simpa using fun q => hij1 q.symm
      rw [h1, h5]
      by_cases h2 : j + 1 = i
      · subst h2
        have h3 := nl2_spec h hj
        simp [cv_cat, h3]
      · have h4 : (j + 1 == i) = false := by simpa using h2
        rw [h4]; rfl
theorem g_istore_n {q : Fin 4} {x : Int32} (d : decode (ic M) pc = .ok (.istore_n q, 1)) (hn : (q : Nat) < il M) (hc : nl2 ls (q : Nat) = true) (hle : (q : Nat) < ls.length) (k : G Ω M K (pc + 1) (ls.set (q : Nat) (some (.int x))) st σ) : G Ω M K pc ls (.int x :: st) σ := by
  intro B D cA p l e s m args below meth c H locs la C hP hS hl
  obtain ⟨hx, hb, hml, hown, hret, hlocks, hts, hK, hNs⟩ := C
  exact lv_istore_n hx hb d rfl (lvA_has hl) hn rfl (fun la2 hl2 => k B D cA p l e s m args below meth c H locs la2 ⟨hx, hb, hml, hown, hret, hlocks, hts, hK, hNs⟩ hP hS (lvR_st1 (x := .int x) hc hle hl2))
theorem g_istore {i : Nat} {x : Int32} (d : decode (ic M) pc = .ok (.istore i, 2)) (hn : i < il M) (hc : nl2 ls i = true) (hle : i < ls.length) (k : G Ω M K (pc + 2) (ls.set i (some (.int x))) st σ) : G Ω M K pc ls (.int x :: st) σ := by
  intro B D cA p l e s m args below meth c H locs la C hP hS hl
  obtain ⟨hx, hb, hml, hown, hret, hlocks, hts, hK, hNs⟩ := C
  exact lv_istore hx hb d (lvA_has hl) hn rfl (fun la2 hl2 => k B D cA p l e s m args below meth c H locs la2 ⟨hx, hb, hml, hown, hret, hlocks, hts, hK, hNs⟩ hP hS (lvR_st1 (x := .int x) hc hle hl2))
theorem g_astore_n {q : Fin 4} {x : Nat} (d : decode (ic M) pc = .ok (.astore_n q, 1)) (hn : (q : Nat) < il M) (hc : nl2 ls (q : Nat) = true) (hle : (q : Nat) < ls.length) (k : G Ω M K (pc + 1) (ls.set (q : Nat) (some (.ref x))) st σ) : G Ω M K pc ls (.ref x :: st) σ := by
  intro B D cA p l e s m args below meth c H locs la C hP hS hl
  obtain ⟨hx, hb, hml, hown, hret, hlocks, hts, hK, hNs⟩ := C
  exact lv_astore_n hx hb d rfl (lvA_has hl) hn rfl (fun la2 hl2 => k B D cA p l e s m args below meth c H locs la2 ⟨hx, hb, hml, hown, hret, hlocks, hts, hK, hNs⟩ hP hS (lvR_st1 (x := .ref x) hc hle hl2))
theorem g_astore {i : Nat} {x : Nat} (d : decode (ic M) pc = .ok (.astore i, 2)) (hn : i < il M) (hc : nl2 ls i = true) (hle : i < ls.length) (k : G Ω M K (pc + 2) (ls.set i (some (.ref x))) st σ) : G Ω M K pc ls (.ref x :: st) σ := by
  intro B D cA p l e s m args below meth c H locs la C hP hS hl
  obtain ⟨hx, hb, hml, hown, hret, hlocks, hts, hK, hNs⟩ := C
  exact lv_astore hx hb d (lvA_has hl) hn rfl (fun la2 hl2 => k B D cA p l e s m args below meth c H locs la2 ⟨hx, hb, hml, hown, hret, hlocks, hts, hK, hNs⟩ hP hS (lvR_st1 (x := .ref x) hc hle hl2))
theorem g_lstore_n {q : Fin 4} {x : Int64} (d : decode (ic M) pc = .ok (.lstore_n q, 1)) (hn : (q : Nat) + 1 < il M) (hc : nl2 ls (q : Nat) = true) (hle : (q : Nat) < ls.length) (k : G Ω M K (pc + 1) ((ls.set (q : Nat) (some (.long x))).set ((q : Nat) + 1) none) st σ) : G Ω M K pc ls (.long x :: st) σ := by
  intro B D cA p l e s m args below meth c H locs la C hP hS hl
  obtain ⟨hx, hb, hml, hown, hret, hlocks, hts, hK, hNs⟩ := C
  exact lv_lstore_n hx hb d rfl (lvA_has hl) hn rfl (fun la2 hl2 => k B D cA p l e s m args below meth c H locs la2 ⟨hx, hb, hml, hown, hret, hlocks, hts, hK, hNs⟩ hP hS (lvR_st2 (x := .long x) hc hle hl2))
theorem g_lstore {i : Nat} {x : Int64} (d : decode (ic M) pc = .ok (.lstore i, 2)) (hn : i + 1 < il M) (hc : nl2 ls i = true) (hle : i < ls.length) (k : G Ω M K (pc + 2) ((ls.set i (some (.long x))).set (i + 1) none) st σ) : G Ω M K pc ls (.long x :: st) σ := by
  intro B D cA p l e s m args below meth c H locs la C hP hS hl
  obtain ⟨hx, hb, hml, hown, hret, hlocks, hts, hK, hNs⟩ := C
  exact lv_lstore hx hb d (lvA_has hl) hn rfl (fun la2 hl2 => k B D cA p l e s m args below meth c H locs la2 ⟨hx, hb, hml, hown, hret, hlocks, hts, hK, hNs⟩ hP hS (lvR_st2 (x := .long x) hc hle hl2))
theorem g_iinc {i : Nat} {n : Int} {x v : Int32} (d : decode (ic M) pc = .ok (.iinc i n, 3)) (hl0 : ls[i]? = some (some (.int x))) (hv : x + Int32.ofInt n = v) (hn : i < il M) (hc : nl2 ls i = true) (k : G Ω M K (pc + 3) (ls.set i (some (.int v))) st σ) : G Ω M K pc ls st σ := by
  intro B D cA p l e s m args below meth c H locs la C hP hS hl
  obtain ⟨hx, hb, hml, hown, hret, hlocks, hts, hK, hNs⟩ := C
  obtain ⟨j, hj⟩ := List.getElem?_of_mem (lvA_mem (B := B) hl0)
  exact lv_iinc hx hb d (lvA_has hl) hj hv hn rfl (fun la2 hl2 => k B D cA p l e s m args below meth c H locs la2 ⟨hx, hb, hml, hown, hret, hlocks, hts, hK, hNs⟩ hP hS (lvR_st1 (x := .int v) hc (List.getElem?_eq_some_iff.mp hl0).1 hl2))
theorem g_iadd {x y v : Int32} (d : decode (ic M) pc = .ok (.iadd, 1)) (hv : x + y = v) (k : G Ω M K (pc + 1) ls (.int v :: st) σ) : G Ω M K pc ls (.int y :: .int x :: st) σ := by
  subst hv
  intro B D cA p l e s m args below meth c H locs la C hP hS hl
  obtain ⟨hx, hb, hml, hown, hret, hlocks, hts, hK, hNs⟩ := C
  exact lv_iadd hx hb d (k B D cA p l e s m args below meth c H locs la ⟨hx, hb, hml, hown, hret, hlocks, hts, hK, hNs⟩ hP hS hl)
theorem g_isub {x y v : Int32} (d : decode (ic M) pc = .ok (.isub, 1)) (hv : x - y = v) (k : G Ω M K (pc + 1) ls (.int v :: st) σ) : G Ω M K pc ls (.int y :: .int x :: st) σ := by
  subst hv
  intro B D cA p l e s m args below meth c H locs la C hP hS hl
  obtain ⟨hx, hb, hml, hown, hret, hlocks, hts, hK, hNs⟩ := C
  exact lv_isub hx hb d (k B D cA p l e s m args below meth c H locs la ⟨hx, hb, hml, hown, hret, hlocks, hts, hK, hNs⟩ hP hS hl)
theorem g_imul {x y v : Int32} (d : decode (ic M) pc = .ok (.imul, 1)) (hv : x * y = v) (k : G Ω M K (pc + 1) ls (.int v :: st) σ) : G Ω M K pc ls (.int y :: .int x :: st) σ := by
  subst hv
  intro B D cA p l e s m args below meth c H locs la C hP hS hl
  obtain ⟨hx, hb, hml, hown, hret, hlocks, hts, hK, hNs⟩ := C
  exact lv_imul hx hb d (k B D cA p l e s m args below meth c H locs la ⟨hx, hb, hml, hown, hret, hlocks, hts, hK, hNs⟩ hP hS hl)
theorem g_iand {x y v : Int32} (d : decode (ic M) pc = .ok (.iand, 1)) (hv : x &&& y = v) (k : G Ω M K (pc + 1) ls (.int v :: st) σ) : G Ω M K pc ls (.int y :: .int x :: st) σ := by
  subst hv
  intro B D cA p l e s m args below meth c H locs la C hP hS hl
  obtain ⟨hx, hb, hml, hown, hret, hlocks, hts, hK, hNs⟩ := C
  exact lv_iand hx hb d (k B D cA p l e s m args below meth c H locs la ⟨hx, hb, hml, hown, hret, hlocks, hts, hK, hNs⟩ hP hS hl)
theorem g_ior {x y v : Int32} (d : decode (ic M) pc = .ok (.ior, 1)) (hv : x ||| y = v) (k : G Ω M K (pc + 1) ls (.int v :: st) σ) : G Ω M K pc ls (.int y :: .int x :: st) σ := by
  subst hv
  intro B D cA p l e s m args below meth c H locs la C hP hS hl
  obtain ⟨hx, hb, hml, hown, hret, hlocks, hts, hK, hNs⟩ := C
  exact lv_ior hx hb d (k B D cA p l e s m args below meth c H locs la ⟨hx, hb, hml, hown, hret, hlocks, hts, hK, hNs⟩ hP hS hl)
theorem g_ixor {x y v : Int32} (d : decode (ic M) pc = .ok (.ixor, 1)) (hv : x ^^^ y = v) (k : G Ω M K (pc + 1) ls (.int v :: st) σ) : G Ω M K pc ls (.int y :: .int x :: st) σ := by
  subst hv
  intro B D cA p l e s m args below meth c H locs la C hP hS hl
  obtain ⟨hx, hb, hml, hown, hret, hlocks, hts, hK, hNs⟩ := C
  exact lv_ixor hx hb d (k B D cA p l e s m args below meth c H locs la ⟨hx, hb, hml, hown, hret, hlocks, hts, hK, hNs⟩ hP hS hl)
theorem g_ishl {x y v : Int32} (d : decode (ic M) pc = .ok (.ishl, 1)) (hv : x <<< (y &&& 31) = v) (k : G Ω M K (pc + 1) ls (.int v :: st) σ) : G Ω M K pc ls (.int y :: .int x :: st) σ := by
  subst hv
  intro B D cA p l e s m args below meth c H locs la C hP hS hl
  obtain ⟨hx, hb, hml, hown, hret, hlocks, hts, hK, hNs⟩ := C
  exact lv_ishl hx hb d (k B D cA p l e s m args below meth c H locs la ⟨hx, hb, hml, hown, hret, hlocks, hts, hK, hNs⟩ hP hS hl)
theorem g_ishr {x y v : Int32} (d : decode (ic M) pc = .ok (.ishr, 1)) (hv : x >>> (y &&& 31) = v) (k : G Ω M K (pc + 1) ls (.int v :: st) σ) : G Ω M K pc ls (.int y :: .int x :: st) σ := by
  subst hv
  intro B D cA p l e s m args below meth c H locs la C hP hS hl
  obtain ⟨hx, hb, hml, hown, hret, hlocks, hts, hK, hNs⟩ := C
  exact lv_ishr hx hb d (k B D cA p l e s m args below meth c H locs la ⟨hx, hb, hml, hown, hret, hlocks, hts, hK, hNs⟩ hP hS hl)
theorem g_idiv {x y v : Int32} (d : decode (ic M) pc = .ok (.idiv, 1)) (hy : ¬ y = 0) (hv : x / y = v) (k : G Ω M K (pc + 1) ls (.int v :: st) σ) : G Ω M K pc ls (.int y :: .int x :: st) σ := by
  subst hv
  intro B D cA p l e s m args below meth c H locs la C hP hS hl
  obtain ⟨hx, hb, hml, hown, hret, hlocks, hts, hK, hNs⟩ := C
  exact lv_idiv hx hb d hy (k B D cA p l e s m args below meth c H locs la ⟨hx, hb, hml, hown, hret, hlocks, hts, hK, hNs⟩ hP hS hl)
theorem g_irem {x y v : Int32} (d : decode (ic M) pc = .ok (.irem, 1)) (hy : ¬ y = 0) (hv : x - x / y * y = v) (k : G Ω M K (pc + 1) ls (.int v :: st) σ) : G Ω M K pc ls (.int y :: .int x :: st) σ := by
  subst hv
  intro B D cA p l e s m args below meth c H locs la C hP hS hl
  obtain ⟨hx, hb, hml, hown, hret, hlocks, hts, hK, hNs⟩ := C
  exact lv_irem hx hb d hy (k B D cA p l e s m args below meth c H locs la ⟨hx, hb, hml, hown, hret, hlocks, hts, hK, hNs⟩ hP hS hl)
theorem g_iushr {x y v : Int32} (d : decode (ic M) pc = .ok (.iushr, 1)) (hv : (x.toUInt32 >>> (y.toUInt32 &&& Int32.toUInt32 31)).toInt32 = v) (k : G Ω M K (pc + 1) ls (.int v :: st) σ) : G Ω M K pc ls (.int y :: .int x :: st) σ := by
  intro B D cA p l e s m args below meth c H locs la C hP hS hl
  obtain ⟨hx, hb, hml, hown, hret, hlocks, hts, hK, hNs⟩ := C
  exact lv_iushr hx hb d hv (k B D cA p l e s m args below meth c H locs la ⟨hx, hb, hml, hown, hret, hlocks, hts, hK, hNs⟩ hP hS hl)
theorem g_ladd {x y v : Int64} (d : decode (ic M) pc = .ok (.ladd, 1)) (hv : x + y = v) (k : G Ω M K (pc + 1) ls (.long v :: st) σ) : G Ω M K pc ls (.long y :: .long x :: st) σ := by
  subst hv
  intro B D cA p l e s m args below meth c H locs la C hP hS hl
  obtain ⟨hx, hb, hml, hown, hret, hlocks, hts, hK, hNs⟩ := C
  exact lv_ladd hx hb d (k B D cA p l e s m args below meth c H locs la ⟨hx, hb, hml, hown, hret, hlocks, hts, hK, hNs⟩ hP hS hl)
theorem g_lmul {x y v : Int64} (d : decode (ic M) pc = .ok (.lmul, 1)) (hv : x * y = v) (k : G Ω M K (pc + 1) ls (.long v :: st) σ) : G Ω M K pc ls (.long y :: .long x :: st) σ := by
  subst hv
  intro B D cA p l e s m args below meth c H locs la C hP hS hl
  obtain ⟨hx, hb, hml, hown, hret, hlocks, hts, hK, hNs⟩ := C
  exact lv_lmul hx hb d (k B D cA p l e s m args below meth c H locs la ⟨hx, hb, hml, hown, hret, hlocks, hts, hK, hNs⟩ hP hS hl)
theorem g_lcmp {x y : Int64} {v : Int32} (d : decode (ic M) pc = .ok (.lcmp, 1)) (hv : lg_cmp x y = v) (k : G Ω M K (pc + 1) ls (.int v :: st) σ) : G Ω M K pc ls (.long y :: .long x :: st) σ := by
  subst hv
  intro B D cA p l e s m args below meth c H locs la C hP hS hl
  obtain ⟨hx, hb, hml, hown, hret, hlocks, hts, hK, hNs⟩ := C
  exact W.lcmp hx hb d (k B D cA p l e s m args below meth c H locs la ⟨hx, hb, hml, hown, hret, hlocks, hts, hK, hNs⟩ hP hS hl)
theorem g_i2l {x : Int32} {v : Int64} (d : decode (ic M) pc = .ok (.i2l, 1)) (hv : x.toInt64 = v) (k : G Ω M K (pc + 1) ls (.long v :: st) σ) : G Ω M K pc ls (.int x :: st) σ := by
  intro B D cA p l e s m args below meth c H locs la C hP hS hl
  obtain ⟨hx, hb, hml, hown, hret, hlocks, hts, hK, hNs⟩ := C
  exact lv_i2l hx hb d hv (k B D cA p l e s m args below meth c H locs la ⟨hx, hb, hml, hown, hret, hlocks, hts, hK, hNs⟩ hP hS hl)
theorem g_l2i {x : Int64} {v : Int32} (d : decode (ic M) pc = .ok (.l2i, 1)) (hv : x.toInt32 = v) (k : G Ω M K (pc + 1) ls (.int v :: st) σ) : G Ω M K pc ls (.long x :: st) σ := by
  intro B D cA p l e s m args below meth c H locs la C hP hS hl
  obtain ⟨hx, hb, hml, hown, hret, hlocks, hts, hK, hNs⟩ := C
  exact lv_l2i hx hb d hv (k B D cA p l e s m args below meth c H locs la ⟨hx, hb, hml, hown, hret, hlocks, hts, hK, hNs⟩ hP hS hl)
theorem g_i2b {x : Int32} {v : Int32} (d : decode (ic M) pc = .ok (.i2b, 1)) (hv : x.toInt8.toInt32 = v) (k : G Ω M K (pc + 1) ls (.int v :: st) σ) : G Ω M K pc ls (.int x :: st) σ := by
  intro B D cA p l e s m args below meth c H locs la C hP hS hl
  obtain ⟨hx, hb, hml, hown, hret, hlocks, hts, hK, hNs⟩ := C
  exact lv_i2b hx hb d hv (k B D cA p l e s m args below meth c H locs la ⟨hx, hb, hml, hown, hret, hlocks, hts, hK, hNs⟩ hP hS hl)
theorem g_dup {x : Value} (d : decode (ic M) pc = .ok (.dup, 1)) (hx1 : x.category = 1) (k : G Ω M K (pc + 1) ls (x :: x :: st) σ) : G Ω M K pc ls (x :: st) σ := by
  intro B D cA p l e s m args below meth c H locs la C hP hS hl
  obtain ⟨hx, hb, hml, hown, hret, hlocks, hts, hK, hNs⟩ := C
  exact lv_dup hx hb d (by rw [cv_cat]; exact hx1) (k B D cA p l e s m args below meth c H locs la ⟨hx, hb, hml, hown, hret, hlocks, hts, hK, hNs⟩ hP hS hl)
theorem g_pop {x : Value} (d : decode (ic M) pc = .ok (.pop, 1)) (hx1 : x.category = 1) (k : G Ω M K (pc + 1) ls st σ) : G Ω M K pc ls (x :: st) σ := by
  intro B D cA p l e s m args below meth c H locs la C hP hS hl
  obtain ⟨hx, hb, hml, hown, hret, hlocks, hts, hK, hNs⟩ := C
  exact lv_pop hx hb d (by rw [cv_cat]; exact hx1) (k B D cA p l e s m args below meth c H locs la ⟨hx, hb, hml, hown, hret, hlocks, hts, hK, hNs⟩ hP hS hl)
theorem g_dup2 {x y : Value} (d : decode (ic M) pc = .ok (.dup2, 1)) (hx1 : x.category = 1) (hy1 : y.category = 1) (k : G Ω M K (pc + 1) ls (x :: y :: x :: y :: st) σ) : G Ω M K pc ls (x :: y :: st) σ := by
  intro B D cA p l e s m args below meth c H locs la C hP hS hl
  obtain ⟨hx, hb, hml, hown, hret, hlocks, hts, hK, hNs⟩ := C
  exact lv_dup2_11 hx hb d (by rw [cv_cat]; exact hx1) (by rw [cv_cat]; exact hy1) (k B D cA p l e s m args below meth c H locs la ⟨hx, hb, hml, hown, hret, hlocks, hts, hK, hNs⟩ hP hS hl)
theorem g_if_eq {x : Int32} {off : Int} {tgt : Nat} (d : decode (ic M) pc = .ok (.ifCond .eq off, 3)) (ht : (pc : Int) + off = (tgt : Int)) (kt : x = 0 → G Ω M K tgt ls st σ) (kf : ¬ (x = 0) → G Ω M K (pc + 3) ls st σ) : G Ω M K pc ls (.int x :: st) σ := by
  intro B D cA p l e s m args below meth c H locs la C hP hS hl
  obtain ⟨hx, hb, hml, hown, hret, hlocks, hts, hK, hNs⟩ := C
  exact lv_if_eq hx hb d ht (fun h => kt h B D cA p l e s m args below meth c H locs la ⟨hx, hb, hml, hown, hret, hlocks, hts, hK, hNs⟩ hP hS hl) (fun h => kf h B D cA p l e s m args below meth c H locs la ⟨hx, hb, hml, hown, hret, hlocks, hts, hK, hNs⟩ hP hS hl)
theorem g_icmp_eq {x y : Int32} {off : Int} {tgt : Nat} (d : decode (ic M) pc = .ok (.if_icmp .eq off, 3)) (ht : (pc : Int) + off = (tgt : Int)) (kt : x = y → G Ω M K tgt ls st σ) (kf : ¬ (x = y) → G Ω M K (pc + 3) ls st σ) : G Ω M K pc ls (.int y :: .int x :: st) σ := by
  intro B D cA p l e s m args below meth c H locs la C hP hS hl
  obtain ⟨hx, hb, hml, hown, hret, hlocks, hts, hK, hNs⟩ := C
  exact lv_icmp_eq hx hb d ht (fun h => kt h B D cA p l e s m args below meth c H locs la ⟨hx, hb, hml, hown, hret, hlocks, hts, hK, hNs⟩ hP hS hl) (fun h => kf h B D cA p l e s m args below meth c H locs la ⟨hx, hb, hml, hown, hret, hlocks, hts, hK, hNs⟩ hP hS hl)
theorem g_if_ne {x : Int32} {off : Int} {tgt : Nat} (d : decode (ic M) pc = .ok (.ifCond .ne off, 3)) (ht : (pc : Int) + off = (tgt : Int)) (kt : ¬ x = 0 → G Ω M K tgt ls st σ) (kf : x = 0 → G Ω M K (pc + 3) ls st σ) : G Ω M K pc ls (.int x :: st) σ := by
  intro B D cA p l e s m args below meth c H locs la C hP hS hl
  obtain ⟨hx, hb, hml, hown, hret, hlocks, hts, hK, hNs⟩ := C
  exact lv_if_ne hx hb d ht (fun h => kt h B D cA p l e s m args below meth c H locs la ⟨hx, hb, hml, hown, hret, hlocks, hts, hK, hNs⟩ hP hS hl) (fun h => kf h B D cA p l e s m args below meth c H locs la ⟨hx, hb, hml, hown, hret, hlocks, hts, hK, hNs⟩ hP hS hl)
theorem g_icmp_ne {x y : Int32} {off : Int} {tgt : Nat} (d : decode (ic M) pc = .ok (.if_icmp .ne off, 3)) (ht : (pc : Int) + off = (tgt : Int)) (kt : ¬ x = y → G Ω M K tgt ls st σ) (kf : x = y → G Ω M K (pc + 3) ls st σ) : G Ω M K pc ls (.int y :: .int x :: st) σ := by
  intro B D cA p l e s m args below meth c H locs la C hP hS hl
  obtain ⟨hx, hb, hml, hown, hret, hlocks, hts, hK, hNs⟩ := C
  exact lv_icmp_ne hx hb d ht (fun h => kt h B D cA p l e s m args below meth c H locs la ⟨hx, hb, hml, hown, hret, hlocks, hts, hK, hNs⟩ hP hS hl) (fun h => kf h B D cA p l e s m args below meth c H locs la ⟨hx, hb, hml, hown, hret, hlocks, hts, hK, hNs⟩ hP hS hl)
theorem g_if_lt {x : Int32} {off : Int} {tgt : Nat} (d : decode (ic M) pc = .ok (.ifCond .lt off, 3)) (ht : (pc : Int) + off = (tgt : Int)) (kt : x < 0 → G Ω M K tgt ls st σ) (kf : ¬ (x < 0) → G Ω M K (pc + 3) ls st σ) : G Ω M K pc ls (.int x :: st) σ := by
  intro B D cA p l e s m args below meth c H locs la C hP hS hl
  obtain ⟨hx, hb, hml, hown, hret, hlocks, hts, hK, hNs⟩ := C
  exact lv_if_lt hx hb d ht (fun h => kt h B D cA p l e s m args below meth c H locs la ⟨hx, hb, hml, hown, hret, hlocks, hts, hK, hNs⟩ hP hS hl) (fun h => kf h B D cA p l e s m args below meth c H locs la ⟨hx, hb, hml, hown, hret, hlocks, hts, hK, hNs⟩ hP hS hl)
theorem g_icmp_lt {x y : Int32} {off : Int} {tgt : Nat} (d : decode (ic M) pc = .ok (.if_icmp .lt off, 3)) (ht : (pc : Int) + off = (tgt : Int)) (kt : x < y → G Ω M K tgt ls st σ) (kf : ¬ (x < y) → G Ω M K (pc + 3) ls st σ) : G Ω M K pc ls (.int y :: .int x :: st) σ := by
  intro B D cA p l e s m args below meth c H locs la C hP hS hl
  obtain ⟨hx, hb, hml, hown, hret, hlocks, hts, hK, hNs⟩ := C
  exact lv_icmp_lt hx hb d ht (fun h => kt h B D cA p l e s m args below meth c H locs la ⟨hx, hb, hml, hown, hret, hlocks, hts, hK, hNs⟩ hP hS hl) (fun h => kf h B D cA p l e s m args below meth c H locs la ⟨hx, hb, hml, hown, hret, hlocks, hts, hK, hNs⟩ hP hS hl)
theorem g_if_ge {x : Int32} {off : Int} {tgt : Nat} (d : decode (ic M) pc = .ok (.ifCond .ge off, 3)) (ht : (pc : Int) + off = (tgt : Int)) (kt : 0 ≤ x → G Ω M K tgt ls st σ) (kf : ¬ (0 ≤ x) → G Ω M K (pc + 3) ls st σ) : G Ω M K pc ls (.int x :: st) σ := by
  intro B D cA p l e s m args below meth c H locs la C hP hS hl
  obtain ⟨hx, hb, hml, hown, hret, hlocks, hts, hK, hNs⟩ := C
  exact lv_if_ge hx hb d ht (fun h => kt h B D cA p l e s m args below meth c H locs la ⟨hx, hb, hml, hown, hret, hlocks, hts, hK, hNs⟩ hP hS hl) (fun h => kf h B D cA p l e s m args below meth c H locs la ⟨hx, hb, hml, hown, hret, hlocks, hts, hK, hNs⟩ hP hS hl)
theorem g_icmp_ge {x y : Int32} {off : Int} {tgt : Nat} (d : decode (ic M) pc = .ok (.if_icmp .ge off, 3)) (ht : (pc : Int) + off = (tgt : Int)) (kt : y ≤ x → G Ω M K tgt ls st σ) (kf : ¬ (y ≤ x) → G Ω M K (pc + 3) ls st σ) : G Ω M K pc ls (.int y :: .int x :: st) σ := by
  intro B D cA p l e s m args below meth c H locs la C hP hS hl
  obtain ⟨hx, hb, hml, hown, hret, hlocks, hts, hK, hNs⟩ := C
  exact lv_icmp_ge hx hb d ht (fun h => kt h B D cA p l e s m args below meth c H locs la ⟨hx, hb, hml, hown, hret, hlocks, hts, hK, hNs⟩ hP hS hl) (fun h => kf h B D cA p l e s m args below meth c H locs la ⟨hx, hb, hml, hown, hret, hlocks, hts, hK, hNs⟩ hP hS hl)
theorem g_if_gt {x : Int32} {off : Int} {tgt : Nat} (d : decode (ic M) pc = .ok (.ifCond .gt off, 3)) (ht : (pc : Int) + off = (tgt : Int)) (kt : 0 < x → G Ω M K tgt ls st σ) (kf : ¬ (0 < x) → G Ω M K (pc + 3) ls st σ) : G Ω M K pc ls (.int x :: st) σ := by
  intro B D cA p l e s m args below meth c H locs la C hP hS hl
  obtain ⟨hx, hb, hml, hown, hret, hlocks, hts, hK, hNs⟩ := C
  exact lv_if_gt hx hb d ht (fun h => kt h B D cA p l e s m args below meth c H locs la ⟨hx, hb, hml, hown, hret, hlocks, hts, hK, hNs⟩ hP hS hl) (fun h => kf h B D cA p l e s m args below meth c H locs la ⟨hx, hb, hml, hown, hret, hlocks, hts, hK, hNs⟩ hP hS hl)
theorem g_icmp_gt {x y : Int32} {off : Int} {tgt : Nat} (d : decode (ic M) pc = .ok (.if_icmp .gt off, 3)) (ht : (pc : Int) + off = (tgt : Int)) (kt : y < x → G Ω M K tgt ls st σ) (kf : ¬ (y < x) → G Ω M K (pc + 3) ls st σ) : G Ω M K pc ls (.int y :: .int x :: st) σ := by
  intro B D cA p l e s m args below meth c H locs la C hP hS hl
  obtain ⟨hx, hb, hml, hown, hret, hlocks, hts, hK, hNs⟩ := C
  exact lv_icmp_gt hx hb d ht (fun h => kt h B D cA p l e s m args below meth c H locs la ⟨hx, hb, hml, hown, hret, hlocks, hts, hK, hNs⟩ hP hS hl) (fun h => kf h B D cA p l e s m args below meth c H locs la ⟨hx, hb, hml, hown, hret, hlocks, hts, hK, hNs⟩ hP hS hl)
theorem g_if_le {x : Int32} {off : Int} {tgt : Nat} (d : decode (ic M) pc = .ok (.ifCond .le off, 3)) (ht : (pc : Int) + off = (tgt : Int)) (kt : x ≤ 0 → G Ω M K tgt ls st σ) (kf : ¬ (x ≤ 0) → G Ω M K (pc + 3) ls st σ) : G Ω M K pc ls (.int x :: st) σ := by
  intro B D cA p l e s m args below meth c H locs la C hP hS hl
  obtain ⟨hx, hb, hml, hown, hret, hlocks, hts, hK, hNs⟩ := C
  exact lv_if_le hx hb d ht (fun h => kt h B D cA p l e s m args below meth c H locs la ⟨hx, hb, hml, hown, hret, hlocks, hts, hK, hNs⟩ hP hS hl) (fun h => kf h B D cA p l e s m args below meth c H locs la ⟨hx, hb, hml, hown, hret, hlocks, hts, hK, hNs⟩ hP hS hl)
theorem g_icmp_le {x y : Int32} {off : Int} {tgt : Nat} (d : decode (ic M) pc = .ok (.if_icmp .le off, 3)) (ht : (pc : Int) + off = (tgt : Int)) (kt : x ≤ y → G Ω M K tgt ls st σ) (kf : ¬ (x ≤ y) → G Ω M K (pc + 3) ls st σ) : G Ω M K pc ls (.int y :: .int x :: st) σ := by
  intro B D cA p l e s m args below meth c H locs la C hP hS hl
  obtain ⟨hx, hb, hml, hown, hret, hlocks, hts, hK, hNs⟩ := C
  exact lv_icmp_le hx hb d ht (fun h => kt h B D cA p l e s m args below meth c H locs la ⟨hx, hb, hml, hown, hret, hlocks, hts, hK, hNs⟩ hP hS hl) (fun h => kf h B D cA p l e s m args below meth c H locs la ⟨hx, hb, hml, hown, hret, hlocks, hts, hK, hNs⟩ hP hS hl)
theorem g_goto {off : Int} {tgt : Nat} (d : decode (ic M) pc = .ok (.goto off, 3)) (ht : (pc : Int) + off = (tgt : Int)) (k : G Ω M K tgt ls st σ) : G Ω M K pc ls st σ := by
  intro B D cA p l e s m args below meth c H locs la C hP hS hl
  obtain ⟨hx, hb, hml, hown, hret, hlocks, hts, hK, hNs⟩ := C
  exact lv_goto hx hb d ht (k B D cA p l e s m args below meth c H locs la ⟨hx, hb, hml, hown, hret, hlocks, hts, hK, hNs⟩ hP hS hl)
theorem g_tableOut {dflt lo hi : Int} {offs : Array Int} {len : Nat} {x : Int32} {tgt : Nat} (d : decode (ic M) pc = .ok (.tableswitch dflt lo hi offs, len)) (h : x.toInt < lo ∨ hi < x.toInt) (ht : (pc : Int) + dflt = (tgt : Int)) (k : G Ω M K tgt ls st σ) : G Ω M K pc ls (.int x :: st) σ := by
  intro B D cA p l e s m args below meth c H locs la C hP hS hl
  obtain ⟨hx, hb, hml, hown, hret, hlocks, hts, hK, hNs⟩ := C
  exact lv_tableOut hx hb d h ht (k B D cA p l e s m args below meth c H locs la ⟨hx, hb, hml, hown, hret, hlocks, hts, hK, hNs⟩ hP hS hl)
theorem g_tableIn {dflt lo hi : Int} {offs : Array Int} {len : Nat} {x : Int32} {off : Int} {tgt : Nat} (d : decode (ic M) pc = .ok (.tableswitch dflt lo hi offs, len)) (h1 : ¬ x.toInt < lo) (h2 : ¬ hi < x.toInt) (ho : offs[(x.toInt - lo).toNat]? = some off) (ht : (pc : Int) + off = (tgt : Int)) (k : G Ω M K tgt ls st σ) : G Ω M K pc ls (.int x :: st) σ := by
  intro B D cA p l e s m args below meth c H locs la C hP hS hl
  obtain ⟨hx, hb, hml, hown, hret, hlocks, hts, hK, hNs⟩ := C
  exact lv_tableIn hx hb d h1 h2 ho ht (k B D cA p l e s m args below meth c H locs la ⟨hx, hb, hml, hown, hret, hlocks, hts, hK, hNs⟩ hP hS hl)
theorem g_lookup {dflt : Int} {ps : Array (Int × Int)} {len : Nat} {x : Int32} {off : Int} {tgt : Nat} (d : decode (ic M) pc = .ok (.lookupswitch dflt ps, len)) (hp : (ps.toList.zip (ps.toList.drop 1)).all (fun (a, next) => a.1 < next.1) = true) (ho : Op.lookupswitch.offset ps.toList dflt x.toInt = off) (ht : (pc : Int) + off = (tgt : Int)) (k : G Ω M K tgt ls st σ) : G Ω M K pc ls (.int x :: st) σ := by
  intro B D cA p l e s m args below meth c H locs la C hP hS hl
  obtain ⟨hx, hb, hml, hown, hret, hlocks, hts, hK, hNs⟩ := C
  exact lv_lookup hx hb d hp ho ht (k B D cA p l e s m args below meth c H locs la ⟨hx, hb, hml, hown, hret, hlocks, hts, hK, hNs⟩ hP hS hl)
theorem g_ldc {index : Nat} {v : Int32} (d : decode (ic M) pc = .ok (.ldc index, 2)) (hc : Cond.constant (iy M).cls index v ∈ tbG) (k : G Ω M K (pc + 2) ls (.int v :: st) σ) : G Ω M K pc ls st σ := by
  intro B D cA p l e s m args below meth c H locs la C hP hS hl
  obtain ⟨hx, hb, hml, hown, hret, hlocks, hts, hK, hNs⟩ := C
  exact lv_ldc hx hb hown (hts _ hc) d (k B D cA p l e s m args below meth c H locs la ⟨hx, hb, hml, hown, hret, hlocks, hts, hK, hNs⟩ hP hS hl)
theorem g_ldc_w {index : Nat} {v : Int32} (d : decode (ic M) pc = .ok (.ldc_w index, 3)) (hc : Cond.constant (iy M).cls index v ∈ tbG) (k : G Ω M K (pc + 3) ls (.int v :: st) σ) : G Ω M K pc ls st σ := by
  intro B D cA p l e s m args below meth c H locs la C hP hS hl
  obtain ⟨hx, hb, hml, hown, hret, hlocks, hts, hK, hNs⟩ := C
  exact lv_ldcw hx hb hown (hts _ hc) d (k B D cA p l e s m args below meth c H locs la ⟨hx, hb, hml, hown, hret, hlocks, hts, hK, hNs⟩ hP hS hl)
theorem g_ldc2 {index : Nat} {v : Int64} (d : decode (ic M) pc = .ok (.ldc2_w index, 3)) (hc : Cond.constantLong (iy M).cls index v ∈ tbG) (k : G Ω M K (pc + 3) ls (.long v :: st) σ) : G Ω M K pc ls st σ := by
  intro B D cA p l e s m args below meth c H locs la C hP hS hl
  obtain ⟨hx, hb, hml, hown, hret, hlocks, hts, hK, hNs⟩ := C
  exact lv_ldc2 hx hb hown (hts _ hc) d (k B D cA p l e s m args below meth c H locs la ⟨hx, hb, hml, hown, hret, hlocks, hts, hK, hNs⟩ hP hS hl)
end
end
section
/-! Rows over the heap: fields, arrays, calls. -/
def FL (own : String) (idx ci k : Nat) : Prop := ∃ (C : String) (T : u_T) (N : Nat), vwCl[ci]? = some (C, T, N) ∧ k < N ∧ (∀ w ∈ u_ws C T N, w ∈ tbG) ∧ Cond.fieldLink own idx (T k).1 (T k).2.1 (T k).2.2.1 ∈ tbG
def FP (own : String) (idx ci k : Nat) (ty : FieldType) : Prop := ∃ (C : String) (T : u_T) (N : Nat) (ty0 : Nat → FieldType), vwCl[ci]? = some (C, T, N) ∧ k < N ∧ (∀ w ∈ u_ws C T N, w ∈ tbG) ∧ Cond.fieldLink own idx (T k).1 (T k).2.1 (T k).2.2.1 ∈ tbG ∧ (∀ k, k < N → parseFieldDescriptor (T k).2.2.1 = some (ty0 k)) ∧ (∀ a, a < N → ∀ b, b < N → a ≠ b → (T a).2.1 ≠ (T b).2.1) ∧ (T k).2.2.2 = false ∧ parseFieldDescriptor (T k).2.2.1 = some ty
section
variable {Ω : Nat × Nat} {M : MI} {K : Option Value → Mm → Prop} {pc : Nat} {ls : List (Option Value)} {st : List Value} {σ : Mm}
theorem fval_at {B a ci n k : Nat} (hk : k < n) : ((List.range n).map (fval B σ a ci))[k]? = some (fval B σ a ci k) := by
  rw [List.getElem?_map, List.getElem?_range hk]; rfl
theorem g_getI {idx a ci n k : Nat} {v : Int32} (d : decode (ic M) pc = .ok (.getfield idx, 3)) (f : FL (iy M).cls idx ci k) (ha : kw Ω a = (ci, n)) (hq : ci < 20 ∧ k < n ∧ isR ci k = false) (hv : σ.1 a k = v) (k0 : G Ω M K (pc + 3) ls (.int v :: st) σ) : G Ω M K pc ls (.ref a :: st) σ := by
  subst hv
  intro B D cA p l e s m args below meth c H locs la C hP hS hl
  obtain ⟨hx, hb, hml, hown, hret, hlocks, hts, hK, hNs⟩ := C
  obtain ⟨C, T, N, hc, hN, hin, hlk⟩ := f
  obtain ⟨h1, h2, h3⟩ := kw_in ha (by show ci ≠ 99; omega)
  refine va_get (fs := (List.range n).map (fval B σ a ci)) hx hb hts hin hown hK hP (a - Ω.1) (by rw [wld_at h1 h2, ent_obj h3 hq.1]) hc k hN (hts _ hlk) (fun _ h9 => h9) (v := .int (σ.1 a k)) (by rw [fval_at hq.2.1]; unfold fval; rw [hq.2.2]; rfl) d ?_
  exact k0 B D cA p l e s m args below meth c H locs la ⟨hx, hb, hml, hown, hret, hlocks, hts, hK, hNs⟩ hP hS hl
theorem g_getR {idx a ci n k r : Nat} (d : decode (ic M) pc = .ok (.getfield idx, 3)) (f : FL (iy M).cls idx ci k) (ha : kw Ω a = (ci, n)) (hq : ci < 20 ∧ k < n ∧ isR ci k = true) (hv : rf a k = r) (k0 : G Ω M K (pc + 3) ls (.ref r :: st) σ) : G Ω M K pc ls (.ref a :: st) σ := by
  subst hv
  intro B D cA p l e s m args below meth c H locs la C hP hS hl
  obtain ⟨hx, hb, hml, hown, hret, hlocks, hts, hK, hNs⟩ := C
  obtain ⟨C, T, N, hc, hN, hin, hlk⟩ := f
  obtain ⟨h1, h2, h3⟩ := kw_in ha (by show ci ≠ 99; omega)
  refine va_get (fs := (List.range n).map (fval B σ a ci)) hx hb hts hin hown hK hP (a - Ω.1) (by rw [wld_at h1 h2, ent_obj h3 hq.1]) hc k hN (hts _ hlk) (fun _ h9 => h9) (v := .ref (B + rf a k)) (by rw [fval_at hq.2.1]; unfold fval; rw [hq.2.2]; rfl) d ?_
  exact k0 B D cA p l e s m args below meth c H locs la ⟨hx, hb, hml, hown, hret, hlocks, hts, hK, hNs⟩ hP hS hl
theorem fval_set {B a ci n k : Nat} {x : Int32} (hr : isR ci k = false) : ((List.range n).map (fval B σ a ci)).set k (.int x) = (List.range n).map (fval B (wI σ a k x) a ci) := by
  apply List.ext_getElem?
  intro i
  rw [List.getElem?_set, List.length_map, List.length_range]
  by_cases hi : k = i
  · subst hi
    rw [if_pos rfl]
    by_cases hk : k < n
    · rw [if_pos hk, fval_at hk]
      unfold fval wI
      rw [hr]
      simp [upd]
    · rw [if_neg hk, List.getElem?_eq_none (by simpa using hk)]
  · rw [if_neg hi]
    by_cases hk : i < n
    · rw [fval_at hk, fval_at hk]
      have hi2 : ¬ i = k := fun h => hi h.symm
      unfold fval wI
      simp [upd, hi2]
    · rw [List.getElem?_eq_none (by simpa using hk), List.getElem?_eq_none (by simpa using hk)]
theorem g_putI {idx a ci n k : Nat} {x : Int32} {ty : FieldType} (d : decode (ic M) pc = .ok (.putfield idx, 3)) (f : FP (iy M).cls idx ci k ty) (ha : kw Ω a = (ci, n)) (hq : ci < 20 ∧ k < n ∧ isR ci k = false) (hty : ty = .int ∨ (ty = .boolean ∧ (x = 0 ∨ x = 1))) (k0 : G Ω M K (pc + 3) ls st (wI σ a k x)) : G Ω M K pc ls (.int x :: .ref a :: st) σ := by
  intro B D cA p l e s m args below meth c H locs la C hP hS hl
  obtain ⟨hx, hb, hml, hown, hret, hlocks, hts, hK, hNs⟩ := C
  obtain ⟨C, T, N, ty0, hc, hN, hin, hlk, hty0, hnm, hfin, hpd⟩ := f
  obtain ⟨h1, h2, h3⟩ := kw_in ha (by show ci ≠ 99; omega)
  have hnar : narrow ty (.int x) = .int x := by rcases hty with rfl | ⟨rfl, rfl | rfl⟩ <;> first | rfl | decide
  have hfit : fits ty (.int x) = true := by rcases hty with rfl | ⟨rfl, rfl | rfl⟩ <;> first | rfl | decide
  refine va_put (fs := (List.range n).map (fval B σ a ci)) hx hb hts hin ty0 hty0 hnm hown hK hP wld_D hS (a - Ω.1) (by rw [wld_at h1 h2, ent_obj h3 hq.1]) hc k hN (hts _ hlk) (fun _ h9 => h9) hfin hpd (v := .int x) hnar hfit (by simpa using hq.2.1) d (fun H1 locs1 hP1 hD1 hS1 => ?_)
  rw [wld_set (σ' := wI σ a k x) h1 h2 (by rw [ent_obj h3 hq.1, ← fval_set hq.2.2]) (fun b hb2 => ent_wI hb2)] at hP1
  exact k0 B D cA p l e s m args below meth c H1 locs1 la ⟨hx, hb, hml, hown, hret, hlocks, hts, hK, hNs⟩ hP1 hS1 hl
theorem ix_in {a c n j : Nat} (ha : kd a = (c, n)) (hj : j < n) : vp_in (nI j) n ∧ (nI j).toNatClampNeg = j := by
  have h := kd_small a
  rw [ha] at h
  exact ⟨vp_in_nI hj (by show n < 2 ^ 31; have : n ≤ 3300 := h; omega), nI_clamp (by have : n ≤ 3300 := h; omega)⟩
theorem g_iald {a n j : Nat} {v : Int32} (d : decode (ic M) pc = .ok (.iaload, 1)) (ha : kw Ω a = (20, n)) (hj : j < n) (hv : σ.1 a j = v) (k : G Ω M K (pc + 1) ls (.int v :: st) σ) : G Ω M K pc ls (.int (nI j) :: .ref a :: st) σ := by
  subst hv
  intro B D cA p l e s m args below meth c H locs la C hP hS hl
  obtain ⟨hx, hb, hml, hown, hret, hlocks, hts, hK, hNs⟩ := C
  obtain ⟨h1, h2, h3⟩ := kw_in ha (by simp)
  obtain ⟨e1, e2⟩ := ix_in h3 hj
  refine va_iald hx hb hK hP (a - Ω.1) 0 (by rw [wld_at h1 h2, ent_int h3 (by decide)]) rfl e1 d ?_
  rw [e2]
  exact (k B D cA p l e s m args below meth c H locs la ⟨hx, hb, hml, hown, hret, hlocks, hts, hK, hNs⟩ hP hS hl)
theorem g_zald {a n j : Nat} {v : Int32} (d : decode (ic M) pc = .ok (.baload, 1)) (ha : kw Ω a = (22, n)) (hj : j < n) (hv : σ.1 a j = v) (k : G Ω M K (pc + 1) ls (.int v :: st) σ) : G Ω M K pc ls (.int (nI j) :: .ref a :: st) σ := by
  subst hv
  intro B D cA p l e s m args below meth c H locs la C hP hS hl
  obtain ⟨hx, hb, hml, hown, hret, hlocks, hts, hK, hNs⟩ := C
  obtain ⟨h1, h2, h3⟩ := kw_in ha (by simp)
  obtain ⟨e1, e2⟩ := ix_in h3 hj
  refine va_zald hx hb hK hP (a - Ω.1) 2 (by rw [wld_at h1 h2, ent_int h3 (by decide)]) rfl e1 d ?_
  rw [e2]
  exact (k B D cA p l e s m args below meth c H locs la ⟨hx, hb, hml, hown, hret, hlocks, hts, hK, hNs⟩ hP hS hl)
theorem g_bald {a n j : Nat} {v : Int32} (d : decode (ic M) pc = .ok (.baload, 1)) (ha : kw Ω a = (23, n)) (hj : j < n) (hv : σ.1 a j = v) (k : G Ω M K (pc + 1) ls (.int v :: st) σ) : G Ω M K pc ls (.int (nI j) :: .ref a :: st) σ := by
  subst hv
  intro B D cA p l e s m args below meth c H locs la C hP hS hl
  obtain ⟨hx, hb, hml, hown, hret, hlocks, hts, hK, hNs⟩ := C
  obtain ⟨h1, h2, h3⟩ := kw_in ha (by simp)
  obtain ⟨e1, e2⟩ := ix_in h3 hj
  refine va_bald hx hb hK hP (a - Ω.1) 3 (by rw [wld_at h1 h2, ent_int h3 (by decide)]) rfl e1 d ?_
  rw [e2]
  exact (k B D cA p l e s m args below meth c H locs la ⟨hx, hb, hml, hown, hret, hlocks, hts, hK, hNs⟩ hP hS hl)
theorem g_lald {a n j : Nat} {v : Int64} (d : decode (ic M) pc = .ok (.laload, 1)) (ha : kw Ω a = (21, n)) (hj : j < n) (hv : σ.2 a j = v) (k : G Ω M K (pc + 1) ls (.long v :: st) σ) : G Ω M K pc ls (.int (nI j) :: .ref a :: st) σ := by
  subst hv
  intro B D cA p l e s m args below meth c H locs la C hP hS hl
  obtain ⟨hx, hb, hml, hown, hret, hlocks, hts, hK, hNs⟩ := C
  obtain ⟨h1, h2, h3⟩ := kw_in ha (by simp)
  obtain ⟨e1, e2⟩ := ix_in h3 hj
  refine va_lald hx hb hK hP (a - Ω.1) 1 (by rw [wld_at h1 h2, ent_long h3]) rfl e1 d ?_
  rw [e2]
  exact (k B D cA p l e s m args below meth c H locs la ⟨hx, hb, hml, hown, hret, hlocks, hts, hK, hNs⟩ hP hS hl)
theorem g_aald24 {a n j r : Nat} (d : decode (ic M) pc = .ok (.aaload, 1)) (ha : kw Ω a = (24, n)) (hj : j < n) (hv : rf a j = r) (k : G Ω M K (pc + 1) ls (.ref r :: st) σ) : G Ω M K pc ls (.int (nI j) :: .ref a :: st) σ := by
  subst hv
  intro B D cA p l e s m args below meth c H locs la C hP hS hl
  obtain ⟨hx, hb, hml, hown, hret, hlocks, hts, hK, hNs⟩ := C
  obtain ⟨h1, h2, h3⟩ := kw_in ha (by simp)
  obtain ⟨e1, e2⟩ := ix_in h3 hj
  refine va_aldq (C := "FarCells$Page") hx hb hK hP (a - Ω.1) 4 (by rw [wld_at h1 h2, ent_ref h3 (by decide)]) rfl e1 d ?_
  rw [e2]
  exact (k B D cA p l e s m args below meth c H locs la ⟨hx, hb, hml, hown, hret, hlocks, hts, hK, hNs⟩ hP hS hl)
theorem g_aald25 {a n j r : Nat} (d : decode (ic M) pc = .ok (.aaload, 1)) (ha : kw Ω a = (25, n)) (hj : j < n) (hv : rf a j = r) (k : G Ω M K (pc + 1) ls (.ref r :: st) σ) : G Ω M K pc ls (.int (nI j) :: .ref a :: st) σ := by
  subst hv
  intro B D cA p l e s m args below meth c H locs la C hP hS hl
  obtain ⟨hx, hb, hml, hown, hret, hlocks, hts, hK, hNs⟩ := C
  obtain ⟨h1, h2, h3⟩ := kw_in ha (by simp)
  obtain ⟨e1, e2⟩ := ix_in h3 hj
  refine va_aldq (C := "FarCells$Script") hx hb hK hP (a - Ω.1) 5 (by rw [wld_at h1 h2, ent_ref h3 (by decide)]) rfl e1 d ?_
  rw [e2]
  exact (k B D cA p l e s m args below meth c H locs la ⟨hx, hb, hml, hown, hret, hlocks, hts, hK, hNs⟩ hP hS hl)
theorem g_aald26 {a n j r : Nat} (d : decode (ic M) pc = .ok (.aaload, 1)) (ha : kw Ω a = (26, n)) (hj : j < n) (hv : rf a j = r) (k : G Ω M K (pc + 1) ls (.ref r :: st) σ) : G Ω M K pc ls (.int (nI j) :: .ref a :: st) σ := by
  subst hv
  intro B D cA p l e s m args below meth c H locs la C hP hS hl
  obtain ⟨hx, hb, hml, hown, hret, hlocks, hts, hK, hNs⟩ := C
  obtain ⟨h1, h2, h3⟩ := kw_in ha (by simp)
  obtain ⟨e1, e2⟩ := ix_in h3 hj
  refine va_aldq (C := "FarCells$Shelf") hx hb hK hP (a - Ω.1) 6 (by rw [wld_at h1 h2, ent_ref h3 (by decide)]) rfl e1 d ?_
  rw [e2]
  exact (k B D cA p l e s m args below meth c H locs la ⟨hx, hb, hml, hown, hret, hlocks, hts, hK, hNs⟩ hP hS hl)
theorem g_aald27 {a n j r : Nat} (d : decode (ic M) pc = .ok (.aaload, 1)) (ha : kw Ω a = (27, n)) (hj : j < n) (hv : rf a j = r) (k : G Ω M K (pc + 1) ls (.ref r :: st) σ) : G Ω M K pc ls (.int (nI j) :: .ref a :: st) σ := by
  subst hv
  intro B D cA p l e s m args below meth c H locs la C hP hS hl
  obtain ⟨hx, hb, hml, hown, hret, hlocks, hts, hK, hNs⟩ := C
  obtain ⟨h1, h2, h3⟩ := kw_in ha (by simp)
  obtain ⟨e1, e2⟩ := ix_in h3 hj
  refine va_aldq (C := "FarCells$Worker") hx hb hK hP (a - Ω.1) 7 (by rw [wld_at h1 h2, ent_ref h3 (by decide)]) rfl e1 d ?_
  rw [e2]
  exact (k B D cA p l e s m args below meth c H locs la ⟨hx, hb, hml, hown, hret, hlocks, hts, hK, hNs⟩ hP hS hl)
theorem g_iast {a n j : Nat} {x : Int32} (d : decode (ic M) pc = .ok (.iastore, 1)) (ha : kw Ω a = (20, n)) (hj : j < n) (k : G Ω M K (pc + 1) ls st (wI σ a j x)) : G Ω M K pc ls (.int x :: .int (nI j) :: .ref a :: st) σ := by
  intro B D cA p l e s m args below meth c H locs la C hP hS hl
  obtain ⟨hx, hb, hml, hown, hret, hlocks, hts, hK, hNs⟩ := C
  obtain ⟨h1, h2, h3⟩ := kw_in ha (by simp)
  obtain ⟨e1, e2⟩ := ix_in h3 hj
  refine va_iast hx hb hK hP wld_D hS (a - Ω.1) 0 (by rw [wld_at h1 h2, ent_int h3 (by decide)]) rfl e1 d (fun H1 locs1 hP1 hD1 hS1 => ?_)
  rw [e2, wld_set (σ' := wI σ a j x) h1 h2 (by rw [ent_int h3 (by decide)]; simp only [wI, if_true]) (fun b hb2 => ent_wI hb2)] at hP1
  exact k B D cA p l e s m args below meth c H1 locs1 la ⟨hx, hb, hml, hown, hret, hlocks, hts, hK, hNs⟩ hP1 hS1 hl
theorem g_zast {a n j : Nat} {x : Int32} (d : decode (ic M) pc = .ok (.bastore, 1)) (ha : kw Ω a = (22, n)) (hj : j < n) (hx1 : x = 0 ∨ x = 1) (k : G Ω M K (pc + 1) ls st (wI σ a j x)) : G Ω M K pc ls (.int x :: .int (nI j) :: .ref a :: st) σ := by
  intro B D cA p l e s m args below meth c H locs la C hP hS hl
  obtain ⟨hx, hb, hml, hown, hret, hlocks, hts, hK, hNs⟩ := C
  obtain ⟨h1, h2, h3⟩ := kw_in ha (by simp)
  obtain ⟨e1, e2⟩ := ix_in h3 hj
  refine va_zast hx hb hK hP wld_D hS (a - Ω.1) 2 (by rw [wld_at h1 h2, ent_int h3 (by decide)]) rfl e1 d (fun H1 locs1 hP1 hD1 hS1 => ?_)
  rw [e2, show vp_nar .boolean x = x by rcases hx1 with rfl | rfl <;> decide, wld_set (σ' := wI σ a j x) h1 h2 (by rw [ent_int h3 (by decide)]; simp only [wI, if_true]) (fun b hb2 => ent_wI hb2)] at hP1
  exact k B D cA p l e s m args below meth c H1 locs1 la ⟨hx, hb, hml, hown, hret, hlocks, hts, hK, hNs⟩ hP1 hS1 hl
theorem g_bast {a n j : Nat} {x : Int32} (d : decode (ic M) pc = .ok (.bastore, 1)) (ha : kw Ω a = (23, n)) (hj : j < n) (hx1 : vp_nar .byte x = x) (k : G Ω M K (pc + 1) ls st (wI σ a j x)) : G Ω M K pc ls (.int x :: .int (nI j) :: .ref a :: st) σ := by
  intro B D cA p l e s m args below meth c H locs la C hP hS hl
  obtain ⟨hx, hb, hml, hown, hret, hlocks, hts, hK, hNs⟩ := C
  obtain ⟨h1, h2, h3⟩ := kw_in ha (by simp)
  obtain ⟨e1, e2⟩ := ix_in h3 hj
  refine va_bast hx hb hK hP wld_D hS (a - Ω.1) 3 (by rw [wld_at h1 h2, ent_int h3 (by decide)]) rfl e1 d (fun H1 locs1 hP1 hD1 hS1 => ?_)
  rw [e2, hx1, wld_set (σ' := wI σ a j x) h1 h2 (by rw [ent_int h3 (by decide)]; simp only [wI, if_true]) (fun b hb2 => ent_wI hb2)] at hP1
  exact k B D cA p l e s m args below meth c H1 locs1 la ⟨hx, hb, hml, hown, hret, hlocks, hts, hK, hNs⟩ hP1 hS1 hl
theorem g_last {a n j : Nat} {x : Int64} (d : decode (ic M) pc = .ok (.lastore, 1)) (ha : kw Ω a = (21, n)) (hj : j < n) (k : G Ω M K (pc + 1) ls st (wL σ a j x)) : G Ω M K pc ls (.long x :: .int (nI j) :: .ref a :: st) σ := by
  intro B D cA p l e s m args below meth c H locs la C hP hS hl
  obtain ⟨hx, hb, hml, hown, hret, hlocks, hts, hK, hNs⟩ := C
  obtain ⟨h1, h2, h3⟩ := kw_in ha (by simp)
  obtain ⟨e1, e2⟩ := ix_in h3 hj
  refine va_last hx hb hK hP wld_D hS (a - Ω.1) 1 (by rw [wld_at h1 h2, ent_long h3]) rfl e1 d (fun H1 locs1 hP1 hD1 hS1 => ?_)
  rw [e2, wld_set (σ' := wL σ a j x) h1 h2 (by rw [ent_long h3]; simp only [wL, if_true]) (fun b hb2 => ent_wL hb2)] at hP1
  exact k B D cA p l e s m args below meth c H1 locs1 la ⟨hx, hb, hml, hown, hret, hlocks, hts, hK, hNs⟩ hP1 hS1 hl
theorem g_alenI {a n : Nat} {v : Int32} (d : decode (ic M) pc = .ok (.arraylength, 1)) (ha : kw Ω a = (20, n)) (hv : nI n = v) (k : G Ω M K (pc + 1) ls (.int v :: st) σ) : G Ω M K pc ls (.ref a :: st) σ := by
  intro B D cA p l e s m args below meth c H locs la C hP hS hl
  obtain ⟨hx, hb, hml, hown, hret, hlocks, hts, hK, hNs⟩ := C
  obtain ⟨h1, h2, h3⟩ := kw_in ha (by simp)
  exact va_alen (x := (n, .inl (σ.1 a))) (ty := .int) hx hb hK hP (a - Ω.1) 0 (by rw [wld_at h1 h2, ent_int h3 (by decide)]) rfl hv d (k B D cA p l e s m args below meth c H locs la ⟨hx, hb, hml, hown, hret, hlocks, hts, hK, hNs⟩ hP hS hl)
theorem g_alenB {a n : Nat} {v : Int32} (d : decode (ic M) pc = .ok (.arraylength, 1)) (ha : kw Ω a = (23, n)) (hv : nI n = v) (k : G Ω M K (pc + 1) ls (.int v :: st) σ) : G Ω M K pc ls (.ref a :: st) σ := by
  intro B D cA p l e s m args below meth c H locs la C hP hS hl
  obtain ⟨hx, hb, hml, hown, hret, hlocks, hts, hK, hNs⟩ := C
  obtain ⟨h1, h2, h3⟩ := kw_in ha (by simp)
  exact va_alen (x := (n, .inl (σ.1 a))) (ty := .byte) hx hb hK hP (a - Ω.1) 3 (by rw [wld_at h1 h2, ent_int h3 (by decide)]) rfl hv d (k B D cA p l e s m args below meth c H locs la ⟨hx, hb, hml, hown, hret, hlocks, hts, hK, hNs⟩ hP hS hl)
end
end
section
/-! Calls: an instance method (V), a static one (S), a nest mate's private static one (N). -/
def lkC (N : MI) (n : Nat) : Prop := Cond.code (iy N) (ic N) (il N) (ir N) ∈ tbG ∧ Cond.initialized (iy N).cls ∈ tbG ∧ ((iy N).cls ≠ "java/lang/invoke/MethodHandle" ∧ (iy N).cls ≠ "java/lang/invoke/VarHandle" ∧ (parseMethodDescriptor (iy N).desc).map (fun d => d.parameters.length) = some n)
def lkV (own : String) (idx : Nat) (N : MI) (ci n : Nat) : Prop := lkC N n ∧ Cond.methodLink own idx (iy N) ∈ tbG ∧ Cond.instanceMethod (iy N) ∈ tbG ∧ Cond.selects (iy N).cls (iy N) (iy N) ∈ tbG ∧ ∃ q : vw_C, vwCl[ci]? = some q ∧ q.1 = (iy N).cls
def lkS (own : String) (idx : Nat) (N : MI) (n : Nat) : Prop := lkC N n ∧ Cond.methodLink own idx (iy N) ∈ tbG ∧ Cond.static (iy N) ∈ tbG
def lkN (own : String) (idx : Nat) (N : MI) (host : String) (n : Nat) : Prop := lkC N n ∧ (own, idx, iy N, host) ∈ nestL ∧ Cond.static (iy N) ∈ tbG
/-- room for the callee -/
def fitR (M N : MI) : Bool := decide (ifr N + 1 ≤ ifr M) && decide (8 + (il N + 11) + ilw N ≤ ilw M)
theorem fitR_spec {M N : MI} (h : fitR M N = true) : (rmM N).frames + 1 ≤ (rmM M).frames ∧ 8 + (il N + 11) + (rmM N).locals ≤ (rmM M).locals := by
  unfold fitR at h
  rw [Bool.and_eq_true] at h
  exact ⟨of_decide_eq_true h.1, of_decide_eq_true h.2⟩
theorem wsM_good {N : MI} {n : Nat} (h : lkC N n) : GoodIn tbG (wsM N) := by
  intro w hw
  have hm : w ∈ tbG := by
    rcases List.mem_cons.mp hw with rfl | h1
    · exact h.1
    · exact h1
  exact ⟨hm, good_of_word (List.mem_filter.mp hm).2⟩
section
variable {Ω : Nat × Nat} {M N : MI} {K K' : Option Value → Mm → Prop} {pc idx n : Nat} {ls : List (Option Value)} {rest As : List Value} {σ : Mm}
theorem sum_cat (B : Nat) (st : List Value) : ((st.map (cv B)).map fun v => v.category).sum = (st.map fun v => v.category).sum := by
  rw [List.map_map]
  congr 1
  exact List.map_congr_left (fun v _ => cv_cat B v)
theorem g_call {p : Program} {l : Launch} {e : Env} {s : State} {m : MethodId} {args : Array Value} {below : List Frame} {meth : Method} {c : Code} {H : Heap} {locs : List Loc} {la : Array Slot} {B : Nat} {D : va_G} {cA : Nat → ClassId} {st0 : List Value} {a : Array Value}
    (C : Cx M D cA p s m args meth c) (hS : va_S (fun q => B ≤ q) s.heap H locs) (hl : lvR B la (il M) ls)
    (hr : va_Run p l e (rmM M) s m args below meth c H locs 0 0 0 0 (F0 m pc la st0) (rest.map (cv B)) (QK Ω B D cA K' a) (fun q => B ≤ q))
    (k : ∀ v σ', K' v σ' → G Ω M K (pc + 3) ls (v.toList ++ rest) σ') : W p l e (rmM M) s m args below meth c H locs 0 0 (MQ below (QK Ω B D cA K) args s 0 0 (fun q => B ≤ q)) (F0 m pc la st0) := by
  intro T hT X
  obtain ⟨v, st₀, t, T', L, h0, X', hL, e1, e2, ⟨⟨v1, σ', hv, hk, hP1⟩, hz, hkk⟩, stp⟩ := hr T hT X
  cases hv
  rw [h0] at hz hkk
  have hS1 : va_S (fun q => B ≤ q) s.heap T'.heap (locs ++ L) := ⟨Nat.le_trans hS.1 (by rw [e1]; exact hz), fun q h1 h2 => by rw [e1, hkk q (Nat.lt_of_lt_of_le h1 hS.1) h2]; exact hS.2.1 q h1 h2, fun q hq => by
      rcases List.mem_append.mp hq with h | h
      · exact hS.2.2 q h
      · exact hL q h⟩
  obtain ⟨t2, a1, b1⟩ := k v1 σ' hk B D cA p l e s m args below meth c T'.heap (locs ++ L) la C (by rw [e1]; exact hP1) hS1 hl T' rfl X'
  refine ⟨t2, stp t2 ?_, b1⟩
  have hh : (v1.map (cv B)).toList ++ rest.map (cv B) = (v1.toList ++ rest).map (cv B) := by cases v1 <;> rfl
  rw [hh]
  exact a1
theorem pre_blind {B : Nat} {D : va_G} {cA : Nat → ClassId} {av : List Value} : FrameBlind (va_Pc (av.map (cv B)) (fun U => va_P D vwCl (wld Ω B cA σ) U.heap ∧ KW D cA U)) := by
  intro a U g mk q
  obtain ⟨q0, qP, qK, qN⟩ := q
  exact ⟨q0, qP, va_K.moved (u := U) (U := U.calling g mk a) (Vm.Alike.refl U.vm) qK, fun w hw => va_Nw.same rfl (u := U) (U := U.calling g mk a) rfl (qN w hw)⟩
theorem pre_hold {B : Nat} {D : va_G} {cA : Nat → ClassId} {av : List Value} {s : State} {H : Heap} (hP : va_P D vwCl (wld Ω B cA σ) H) (hK : va_K D vwCl (tysL cA) s) (hNs : NsK s) : ∀ U : State, U.heap = H → s.WarmedH U.vm → va_Pc (av.map (cv B)) (fun U => va_P D vwCl (wld Ω B cA σ) U.heap ∧ KW D cA U) (av.map (cv B)).toArray U :=
  fun U hU hW => ⟨rfl, by rw [hU]; exact hP, va_K.moved hW.alike hK, hNs.moved hW⟩
theorem g_callV {ci nf a : Nat} (d : decode (ic M) pc = .ok (.invokevirtual idx, 3)) (lk : lkV (iy M).cls idx N ci n) (hfit : fitR M N = true) (ha : kw Ω a = (ci, nf)) (hci : ci < 20) (hn : As.length = n) (hst : (rest.map fun v => v.category).sum ≤ 8)
    (hM : MetM Ω N (.ref a :: As) σ K') (k : ∀ v σ', K' v σ' → G Ω M K (pc + 3) ls (v.toList ++ rest) σ') : G Ω M K pc ls (As.reverse ++ .ref a :: rest) σ := by
  intro B D cA p l e s m args below meth c H locs la C hP hS hl
  have C0 := C
  obtain ⟨hx, hb, hml, hown, hret, hlocks, hts, hK, hNs⟩ := C
  obtain ⟨hlc, h1, h2, h3, q, hq, hqn⟩ := lk
  obtain ⟨g1, g2, g3⟩ := kw_in ha (by show ci ≠ 99; omega)
  have cb := callB_of (R := rmM M) (s := s) (args := args) (own := (iy M).cls) (index := idx) (rm := rmM N) (mc := 0) (ms := 0) n hts (wsM_good hlc) rfl rfl rfl (hts _ hlc.2.1) (hts _ h1) hlc.2.2 (fitR_spec hfit)
  have hrec := va_recv hK hP (ci := ci) (q0 := a - Ω.1) (a := B + a) hq (by rw [wld_at g1 g2, ent_obj g3 hci])
  rw [hqn] at hrec
  have hs : (As.reverse ++ .ref a :: rest).map (cv B) = (As.map (cv B)).reverse ++ .ref (B + a) :: rest.map (cv B) := by
    rw [List.map_append, List.map_reverse]; rfl
  rw [hs]
  exact g_call C0 hS hl (va_runV (C := (iy N).cls) (b := B + a) (As := As.map (cv B)) ⟨hx, hb, hml, hown, hts⟩ (hM l B D cA) ⟨cb, hts _ h2, hts _ h3⟩ ⟨pre_blind, hrec, pre_hold (av := .ref a :: As) hP hK hNs⟩ rfl (by rw [List.length_map]; exact hn) hl.1 rfl (lv_room (by rw [sum_cat]; exact hst)) d ⟨Nat.le_refl _, Nat.le_refl _⟩) k
theorem g_callS (d : decode (ic M) pc = .ok (.invokestatic idx, 3)) (lk : lkS (iy M).cls idx N n) (hfit : fitR M N = true) (hn : As.length = n) (hst : (rest.map fun v => v.category).sum ≤ 8)
    (hM : MetM Ω N As σ K') (k : ∀ v σ', K' v σ' → G Ω M K (pc + 3) ls (v.toList ++ rest) σ') : G Ω M K pc ls (As.reverse ++ rest) σ := by
  intro B D cA p l e s m args below meth c H locs la C hP hS hl
  have C0 := C
  obtain ⟨hx, hb, hml, hown, hret, hlocks, hts, hK, hNs⟩ := C
  obtain ⟨hlc, h1, h2⟩ := lk
  have cb := callB_of (R := rmM M) (s := s) (args := args) (own := (iy M).cls) (index := idx) (rm := rmM N) (mc := 0) (ms := 0) n hts (wsM_good hlc) rfl rfl rfl (hts _ hlc.2.1) (hts _ h1) hlc.2.2 (fitR_spec hfit)
  have hs : (As.reverse ++ rest).map (cv B) = (As.map (cv B)).reverse ++ rest.map (cv B) := by
    rw [List.map_append, List.map_reverse]
  rw [hs]
  exact g_call C0 hS hl (va_runS (As := As.map (cv B)) ⟨hx, hb, hml, hown, hts⟩ (hM l B D cA) ⟨cb, hts _ h2⟩ ⟨pre_blind, pre_hold (av := As) hP hK hNs⟩ rfl (by rw [List.length_map]; exact hn) hl.1 rfl (lv_room (by rw [sum_cat]; exact hst)) d ⟨Nat.le_refl _, Nat.le_refl _⟩) k
theorem g_callN {host : String} (d : decode (ic M) pc = .ok (.invokestatic idx, 3)) (lk : lkN (iy M).cls idx N host n) (hfit : fitR M N = true) (hn : As.length = n) (hst : (rest.map fun v => v.category).sum ≤ 8)
    (hM : MetM Ω N As σ K') (k : ∀ v σ', K' v σ' → G Ω M K (pc + 3) ls (v.toList ++ rest) σ') : G Ω M K pc ls (As.reverse ++ rest) σ := by
  intro B D cA p l e s m args below meth c H locs la C hP hS hl
  have C0 := C
  obtain ⟨hx, hb, hml, hown, hret, hlocks, hts, hK, hNs⟩ := C
  obtain ⟨hlc, h1, h2⟩ := lk
  have cb := va_cnB (R := rmM M) (s := s) (args := args) (own := (iy M).cls) (index := idx) (host := host) (rm := rmM N) (mc := 0) (ms := 0) n hts (wsM_good hlc) rfl rfl rfl (hNs _ h1) (hts _ hlc.2.1) hlc.2.2 (fitR_spec hfit)
  have hs : (As.reverse ++ rest).map (cv B) = (As.map (cv B)).reverse ++ rest.map (cv B) := by
    rw [List.map_append, List.map_reverse]
  rw [hs]
  exact g_call C0 hS hl (va_runSN (As := As.map (cv B)) ⟨hx, hb, hml, hown, hts⟩ (hM l B D cA) ⟨cb, hts _ h2, trivial⟩ ⟨pre_blind, pre_hold (av := As) hP hK hNs⟩ rfl (by rw [List.length_map]; exact hn) hl.1 rfl (lv_room (by rw [sum_cat]; exact hst)) d ⟨Nat.le_refl _, Nat.le_refl _⟩) k
end
/-- M, called so, answers an int (or nothing, or a long), and P holds of it and of the memory -/
def RI (Ω : Nat × Nat) (M : MI) (av : List Value) (σ : Mm) (P : Int32 → Mm → Prop) : Prop := MetM Ω M av σ (fun v τ => ∃ r : Int32, v = some (.int r) ∧ P r τ)
def RV (Ω : Nat × Nat) (M : MI) (av : List Value) (σ : Mm) (P : Mm → Prop) : Prop := MetM Ω M av σ (fun v τ => v = none ∧ P τ)
def RL_ (Ω : Nat × Nat) (M : MI) (av : List Value) (σ : Mm) (P : Int64 → Mm → Prop) : Prop := MetM Ω M av σ (fun v τ => ∃ r : Int64, v = some (.long r) ∧ P r τ)
section
variable {Ω : Nat × Nat} {M N : MI} {K : Option Value → Mm → Prop} {pc idx : Nat} {ls : List (Option Value)} {st : List Value} {σ : Mm}
theorem g_cVI0 {ci nf a : Nat} {P : Int32 → Mm → Prop} (d : decode (ic M) pc = .ok (.invokevirtual idx, 3)) (lk : lkV (iy M).cls idx N ci 0) (hfit : fitR M N = true) (ha : kw Ω a = (ci, nf)) (hci : ci < 20) (hst : (st.map fun v => v.category).sum ≤ 8) (hM : RI Ω N [.ref a] σ P) (k : ∀ r τ, P r τ → G Ω M K (pc + 3) ls (.int r :: st) τ) : G Ω M K pc ls (.ref a :: st) σ := g_callV (As := []) d lk hfit ha hci rfl hst hM (fun v τ h => by obtain ⟨r, rfl, h⟩ := h; exact k r τ h)
theorem g_cVV0 {ci nf a : Nat} {P : Mm → Prop} (d : decode (ic M) pc = .ok (.invokevirtual idx, 3)) (lk : lkV (iy M).cls idx N ci 0) (hfit : fitR M N = true) (ha : kw Ω a = (ci, nf)) (hci : ci < 20) (hst : (st.map fun v => v.category).sum ≤ 8) (hM : RV Ω N [.ref a] σ P) (k : ∀ τ, P τ → G Ω M K (pc + 3) ls st τ) : G Ω M K pc ls (.ref a :: st) σ := g_callV (As := []) d lk hfit ha hci rfl hst hM (fun v τ h => by obtain ⟨rfl, h⟩ := h; exact k τ h)
theorem g_cVL0 {ci nf a : Nat} {P : Int64 → Mm → Prop} (d : decode (ic M) pc = .ok (.invokevirtual idx, 3)) (lk : lkV (iy M).cls idx N ci 0) (hfit : fitR M N = true) (ha : kw Ω a = (ci, nf)) (hci : ci < 20) (hst : (st.map fun v => v.category).sum ≤ 8) (hM : RL_ Ω N [.ref a] σ P) (k : ∀ r τ, P r τ → G Ω M K (pc + 3) ls (.long r :: st) τ) : G Ω M K pc ls (.ref a :: st) σ := g_callV (As := []) d lk hfit ha hci rfl hst hM (fun v τ h => by obtain ⟨r, rfl, h⟩ := h; exact k r τ h)
theorem g_cVI1 {ci nf a : Nat} {x1 : Value} {P : Int32 → Mm → Prop} (d : decode (ic M) pc = .ok (.invokevirtual idx, 3)) (lk : lkV (iy M).cls idx N ci 1) (hfit : fitR M N = true) (ha : kw Ω a = (ci, nf)) (hci : ci < 20) (hst : (st.map fun v => v.category).sum ≤ 8) (hM : RI Ω N [.ref a, x1] σ P) (k : ∀ r τ, P r τ → G Ω M K (pc + 3) ls (.int r :: st) τ) : G Ω M K pc ls (x1 :: .ref a :: st) σ := g_callV (As := [x1]) d lk hfit ha hci rfl hst hM (fun v τ h => by obtain ⟨r, rfl, h⟩ := h; exact k r τ h)
theorem g_cVV1 {ci nf a : Nat} {x1 : Value} {P : Mm → Prop} (d : decode (ic M) pc = .ok (.invokevirtual idx, 3)) (lk : lkV (iy M).cls idx N ci 1) (hfit : fitR M N = true) (ha : kw Ω a = (ci, nf)) (hci : ci < 20) (hst : (st.map fun v => v.category).sum ≤ 8) (hM : RV Ω N [.ref a, x1] σ P) (k : ∀ τ, P τ → G Ω M K (pc + 3) ls st τ) : G Ω M K pc ls (x1 :: .ref a :: st) σ := g_callV (As := [x1]) d lk hfit ha hci rfl hst hM (fun v τ h => by obtain ⟨rfl, h⟩ := h; exact k τ h)
theorem g_cVL1 {ci nf a : Nat} {x1 : Value} {P : Int64 → Mm → Prop} (d : decode (ic M) pc = .ok (.invokevirtual idx, 3)) (lk : lkV (iy M).cls idx N ci 1) (hfit : fitR M N = true) (ha : kw Ω a = (ci, nf)) (hci : ci < 20) (hst : (st.map fun v => v.category).sum ≤ 8) (hM : RL_ Ω N [.ref a, x1] σ P) (k : ∀ r τ, P r τ → G Ω M K (pc + 3) ls (.long r :: st) τ) : G Ω M K pc ls (x1 :: .ref a :: st) σ := g_callV (As := [x1]) d lk hfit ha hci rfl hst hM (fun v τ h => by obtain ⟨r, rfl, h⟩ := h; exact k r τ h)
theorem g_cVI2 {ci nf a : Nat} {x1 x2 : Value} {P : Int32 → Mm → Prop} (d : decode (ic M) pc = .ok (.invokevirtual idx, 3)) (lk : lkV (iy M).cls idx N ci 2) (hfit : fitR M N = true) (ha : kw Ω a = (ci, nf)) (hci : ci < 20) (hst : (st.map fun v => v.category).sum ≤ 8) (hM : RI Ω N [.ref a, x1, x2] σ P) (k : ∀ r τ, P r τ → G Ω M K (pc + 3) ls (.int r :: st) τ) : G Ω M K pc ls (x2 :: x1 :: .ref a :: st) σ := g_callV (As := [x1, x2]) d lk hfit ha hci rfl hst hM (fun v τ h => by obtain ⟨r, rfl, h⟩ := h; exact k r τ h)
theorem g_cVV2 {ci nf a : Nat} {x1 x2 : Value} {P : Mm → Prop} (d : decode (ic M) pc = .ok (.invokevirtual idx, 3)) (lk : lkV (iy M).cls idx N ci 2) (hfit : fitR M N = true) (ha : kw Ω a = (ci, nf)) (hci : ci < 20) (hst : (st.map fun v => v.category).sum ≤ 8) (hM : RV Ω N [.ref a, x1, x2] σ P) (k : ∀ τ, P τ → G Ω M K (pc + 3) ls st τ) : G Ω M K pc ls (x2 :: x1 :: .ref a :: st) σ := g_callV (As := [x1, x2]) d lk hfit ha hci rfl hst hM (fun v τ h => by obtain ⟨rfl, h⟩ := h; exact k τ h)
theorem g_cVL2 {ci nf a : Nat} {x1 x2 : Value} {P : Int64 → Mm → Prop} (d : decode (ic M) pc = .ok (.invokevirtual idx, 3)) (lk : lkV (iy M).cls idx N ci 2) (hfit : fitR M N = true) (ha : kw Ω a = (ci, nf)) (hci : ci < 20) (hst : (st.map fun v => v.category).sum ≤ 8) (hM : RL_ Ω N [.ref a, x1, x2] σ P) (k : ∀ r τ, P r τ → G Ω M K (pc + 3) ls (.long r :: st) τ) : G Ω M K pc ls (x2 :: x1 :: .ref a :: st) σ := g_callV (As := [x1, x2]) d lk hfit ha hci rfl hst hM (fun v τ h => by obtain ⟨r, rfl, h⟩ := h; exact k r τ h)
theorem g_cVI3 {ci nf a : Nat} {x1 x2 x3 : Value} {P : Int32 → Mm → Prop} (d : decode (ic M) pc = .ok (.invokevirtual idx, 3)) (lk : lkV (iy M).cls idx N ci 3) (hfit : fitR M N = true) (ha : kw Ω a = (ci, nf)) (hci : ci < 20) (hst : (st.map fun v => v.category).sum ≤ 8) (hM : RI Ω N [.ref a, x1, x2, x3] σ P) (k : ∀ r τ, P r τ → G Ω M K (pc + 3) ls (.int r :: st) τ) : G Ω M K pc ls (x3 :: x2 :: x1 :: .ref a :: st) σ := g_callV (As := [x1, x2, x3]) d lk hfit ha hci rfl hst hM (fun v τ h => by obtain ⟨r, rfl, h⟩ := h; exact k r τ h)
theorem g_cVV3 {ci nf a : Nat} {x1 x2 x3 : Value} {P : Mm → Prop} (d : decode (ic M) pc = .ok (.invokevirtual idx, 3)) (lk : lkV (iy M).cls idx N ci 3) (hfit : fitR M N = true) (ha : kw Ω a = (ci, nf)) (hci : ci < 20) (hst : (st.map fun v => v.category).sum ≤ 8) (hM : RV Ω N [.ref a, x1, x2, x3] σ P) (k : ∀ τ, P τ → G Ω M K (pc + 3) ls st τ) : G Ω M K pc ls (x3 :: x2 :: x1 :: .ref a :: st) σ := g_callV (As := [x1, x2, x3]) d lk hfit ha hci rfl hst hM (fun v τ h => by obtain ⟨rfl, h⟩ := h; exact k τ h)
theorem g_cVL3 {ci nf a : Nat} {x1 x2 x3 : Value} {P : Int64 → Mm → Prop} (d : decode (ic M) pc = .ok (.invokevirtual idx, 3)) (lk : lkV (iy M).cls idx N ci 3) (hfit : fitR M N = true) (ha : kw Ω a = (ci, nf)) (hci : ci < 20) (hst : (st.map fun v => v.category).sum ≤ 8) (hM : RL_ Ω N [.ref a, x1, x2, x3] σ P) (k : ∀ r τ, P r τ → G Ω M K (pc + 3) ls (.long r :: st) τ) : G Ω M K pc ls (x3 :: x2 :: x1 :: .ref a :: st) σ := g_callV (As := [x1, x2, x3]) d lk hfit ha hci rfl hst hM (fun v τ h => by obtain ⟨r, rfl, h⟩ := h; exact k r τ h)
theorem g_cVI4 {ci nf a : Nat} {x1 x2 x3 x4 : Value} {P : Int32 → Mm → Prop} (d : decode (ic M) pc = .ok (.invokevirtual idx, 3)) (lk : lkV (iy M).cls idx N ci 4) (hfit : fitR M N = true) (ha : kw Ω a = (ci, nf)) (hci : ci < 20) (hst : (st.map fun v => v.category).sum ≤ 8) (hM : RI Ω N [.ref a, x1, x2, x3, x4] σ P) (k : ∀ r τ, P r τ → G Ω M K (pc + 3) ls (.int r :: st) τ) : G Ω M K pc ls (x4 :: x3 :: x2 :: x1 :: .ref a :: st) σ := g_callV (As := [x1, x2, x3, x4]) d lk hfit ha hci rfl hst hM (fun v τ h => by obtain ⟨r, rfl, h⟩ := h; exact k r τ h)
theorem g_cVV4 {ci nf a : Nat} {x1 x2 x3 x4 : Value} {P : Mm → Prop} (d : decode (ic M) pc = .ok (.invokevirtual idx, 3)) (lk : lkV (iy M).cls idx N ci 4) (hfit : fitR M N = true) (ha : kw Ω a = (ci, nf)) (hci : ci < 20) (hst : (st.map fun v => v.category).sum ≤ 8) (hM : RV Ω N [.ref a, x1, x2, x3, x4] σ P) (k : ∀ τ, P τ → G Ω M K (pc + 3) ls st τ) : G Ω M K pc ls (x4 :: x3 :: x2 :: x1 :: .ref a :: st) σ := g_callV (As := [x1, x2, x3, x4]) d lk hfit ha hci rfl hst hM (fun v τ h => by obtain ⟨rfl, h⟩ := h; exact k τ h)
theorem g_cVL4 {ci nf a : Nat} {x1 x2 x3 x4 : Value} {P : Int64 → Mm → Prop} (d : decode (ic M) pc = .ok (.invokevirtual idx, 3)) (lk : lkV (iy M).cls idx N ci 4) (hfit : fitR M N = true) (ha : kw Ω a = (ci, nf)) (hci : ci < 20) (hst : (st.map fun v => v.category).sum ≤ 8) (hM : RL_ Ω N [.ref a, x1, x2, x3, x4] σ P) (k : ∀ r τ, P r τ → G Ω M K (pc + 3) ls (.long r :: st) τ) : G Ω M K pc ls (x4 :: x3 :: x2 :: x1 :: .ref a :: st) σ := g_callV (As := [x1, x2, x3, x4]) d lk hfit ha hci rfl hst hM (fun v τ h => by obtain ⟨r, rfl, h⟩ := h; exact k r τ h)
theorem g_cVI5 {ci nf a : Nat} {x1 x2 x3 x4 x5 : Value} {P : Int32 → Mm → Prop} (d : decode (ic M) pc = .ok (.invokevirtual idx, 3)) (lk : lkV (iy M).cls idx N ci 5) (hfit : fitR M N = true) (ha : kw Ω a = (ci, nf)) (hci : ci < 20) (hst : (st.map fun v => v.category).sum ≤ 8) (hM : RI Ω N [.ref a, x1, x2, x3, x4, x5] σ P) (k : ∀ r τ, P r τ → G Ω M K (pc + 3) ls (.int r :: st) τ) : G Ω M K pc ls (x5 :: x4 :: x3 :: x2 :: x1 :: .ref a :: st) σ := g_callV (As := [x1, x2, x3, x4, x5]) d lk hfit ha hci rfl hst hM (fun v τ h => by obtain ⟨r, rfl, h⟩ := h; exact k r τ h)
theorem g_cVV5 {ci nf a : Nat} {x1 x2 x3 x4 x5 : Value} {P : Mm → Prop} (d : decode (ic M) pc = .ok (.invokevirtual idx, 3)) (lk : lkV (iy M).cls idx N ci 5) (hfit : fitR M N = true) (ha : kw Ω a = (ci, nf)) (hci : ci < 20) (hst : (st.map fun v => v.category).sum ≤ 8) (hM : RV Ω N [.ref a, x1, x2, x3, x4, x5] σ P) (k : ∀ τ, P τ → G Ω M K (pc + 3) ls st τ) : G Ω M K pc ls (x5 :: x4 :: x3 :: x2 :: x1 :: .ref a :: st) σ := g_callV (As := [x1, x2, x3, x4, x5]) d lk hfit ha hci rfl hst hM (fun v τ h => by obtain ⟨rfl, h⟩ := h; exact k τ h)
theorem g_cVL5 {ci nf a : Nat} {x1 x2 x3 x4 x5 : Value} {P : Int64 → Mm → Prop} (d : decode (ic M) pc = .ok (.invokevirtual idx, 3)) (lk : lkV (iy M).cls idx N ci 5) (hfit : fitR M N = true) (ha : kw Ω a = (ci, nf)) (hci : ci < 20) (hst : (st.map fun v => v.category).sum ≤ 8) (hM : RL_ Ω N [.ref a, x1, x2, x3, x4, x5] σ P) (k : ∀ r τ, P r τ → G Ω M K (pc + 3) ls (.long r :: st) τ) : G Ω M K pc ls (x5 :: x4 :: x3 :: x2 :: x1 :: .ref a :: st) σ := g_callV (As := [x1, x2, x3, x4, x5]) d lk hfit ha hci rfl hst hM (fun v τ h => by obtain ⟨r, rfl, h⟩ := h; exact k r τ h)
theorem g_cVI6 {ci nf a : Nat} {x1 x2 x3 x4 x5 x6 : Value} {P : Int32 → Mm → Prop} (d : decode (ic M) pc = .ok (.invokevirtual idx, 3)) (lk : lkV (iy M).cls idx N ci 6) (hfit : fitR M N = true) (ha : kw Ω a = (ci, nf)) (hci : ci < 20) (hst : (st.map fun v => v.category).sum ≤ 8) (hM : RI Ω N [.ref a, x1, x2, x3, x4, x5, x6] σ P) (k : ∀ r τ, P r τ → G Ω M K (pc + 3) ls (.int r :: st) τ) : G Ω M K pc ls (x6 :: x5 :: x4 :: x3 :: x2 :: x1 :: .ref a :: st) σ := g_callV (As := [x1, x2, x3, x4, x5, x6]) d lk hfit ha hci rfl hst hM (fun v τ h => by obtain ⟨r, rfl, h⟩ := h; exact k r τ h)
theorem g_cVV6 {ci nf a : Nat} {x1 x2 x3 x4 x5 x6 : Value} {P : Mm → Prop} (d : decode (ic M) pc = .ok (.invokevirtual idx, 3)) (lk : lkV (iy M).cls idx N ci 6) (hfit : fitR M N = true) (ha : kw Ω a = (ci, nf)) (hci : ci < 20) (hst : (st.map fun v => v.category).sum ≤ 8) (hM : RV Ω N [.ref a, x1, x2, x3, x4, x5, x6] σ P) (k : ∀ τ, P τ → G Ω M K (pc + 3) ls st τ) : G Ω M K pc ls (x6 :: x5 :: x4 :: x3 :: x2 :: x1 :: .ref a :: st) σ := g_callV (As := [x1, x2, x3, x4, x5, x6]) d lk hfit ha hci rfl hst hM (fun v τ h => by obtain ⟨rfl, h⟩ := h; exact k τ h)
theorem g_cVL6 {ci nf a : Nat} {x1 x2 x3 x4 x5 x6 : Value} {P : Int64 → Mm → Prop} (d : decode (ic M) pc = .ok (.invokevirtual idx, 3)) (lk : lkV (iy M).cls idx N ci 6) (hfit : fitR M N = true) (ha : kw Ω a = (ci, nf)) (hci : ci < 20) (hst : (st.map fun v => v.category).sum ≤ 8) (hM : RL_ Ω N [.ref a, x1, x2, x3, x4, x5, x6] σ P) (k : ∀ r τ, P r τ → G Ω M K (pc + 3) ls (.long r :: st) τ) : G Ω M K pc ls (x6 :: x5 :: x4 :: x3 :: x2 :: x1 :: .ref a :: st) σ := g_callV (As := [x1, x2, x3, x4, x5, x6]) d lk hfit ha hci rfl hst hM (fun v τ h => by obtain ⟨r, rfl, h⟩ := h; exact k r τ h)
theorem g_cSI0 {P : Int32 → Mm → Prop} (d : decode (ic M) pc = .ok (.invokestatic idx, 3)) (lk : lkS (iy M).cls idx N 0) (hfit : fitR M N = true) (hst : (st.map fun v => v.category).sum ≤ 8) (hM : RI Ω N [] σ P) (k : ∀ r τ, P r τ → G Ω M K (pc + 3) ls (.int r :: st) τ) : G Ω M K pc ls (st) σ := g_callS (As := []) d lk hfit rfl hst hM (fun v τ h => by obtain ⟨r, rfl, h⟩ := h; exact k r τ h)
theorem g_cSV0 {P : Mm → Prop} (d : decode (ic M) pc = .ok (.invokestatic idx, 3)) (lk : lkS (iy M).cls idx N 0) (hfit : fitR M N = true) (hst : (st.map fun v => v.category).sum ≤ 8) (hM : RV Ω N [] σ P) (k : ∀ τ, P τ → G Ω M K (pc + 3) ls st τ) : G Ω M K pc ls (st) σ := g_callS (As := []) d lk hfit rfl hst hM (fun v τ h => by obtain ⟨rfl, h⟩ := h; exact k τ h)
theorem g_cSL0 {P : Int64 → Mm → Prop} (d : decode (ic M) pc = .ok (.invokestatic idx, 3)) (lk : lkS (iy M).cls idx N 0) (hfit : fitR M N = true) (hst : (st.map fun v => v.category).sum ≤ 8) (hM : RL_ Ω N [] σ P) (k : ∀ r τ, P r τ → G Ω M K (pc + 3) ls (.long r :: st) τ) : G Ω M K pc ls (st) σ := g_callS (As := []) d lk hfit rfl hst hM (fun v τ h => by obtain ⟨r, rfl, h⟩ := h; exact k r τ h)
theorem g_cSI1 {x1 : Value} {P : Int32 → Mm → Prop} (d : decode (ic M) pc = .ok (.invokestatic idx, 3)) (lk : lkS (iy M).cls idx N 1) (hfit : fitR M N = true) (hst : (st.map fun v => v.category).sum ≤ 8) (hM : RI Ω N [x1] σ P) (k : ∀ r τ, P r τ → G Ω M K (pc + 3) ls (.int r :: st) τ) : G Ω M K pc ls (x1 :: st) σ := g_callS (As := [x1]) d lk hfit rfl hst hM (fun v τ h => by obtain ⟨r, rfl, h⟩ := h; exact k r τ h)
theorem g_cSV1 {x1 : Value} {P : Mm → Prop} (d : decode (ic M) pc = .ok (.invokestatic idx, 3)) (lk : lkS (iy M).cls idx N 1) (hfit : fitR M N = true) (hst : (st.map fun v => v.category).sum ≤ 8) (hM : RV Ω N [x1] σ P) (k : ∀ τ, P τ → G Ω M K (pc + 3) ls st τ) : G Ω M K pc ls (x1 :: st) σ := g_callS (As := [x1]) d lk hfit rfl hst hM (fun v τ h => by obtain ⟨rfl, h⟩ := h; exact k τ h)
theorem g_cSL1 {x1 : Value} {P : Int64 → Mm → Prop} (d : decode (ic M) pc = .ok (.invokestatic idx, 3)) (lk : lkS (iy M).cls idx N 1) (hfit : fitR M N = true) (hst : (st.map fun v => v.category).sum ≤ 8) (hM : RL_ Ω N [x1] σ P) (k : ∀ r τ, P r τ → G Ω M K (pc + 3) ls (.long r :: st) τ) : G Ω M K pc ls (x1 :: st) σ := g_callS (As := [x1]) d lk hfit rfl hst hM (fun v τ h => by obtain ⟨r, rfl, h⟩ := h; exact k r τ h)
theorem g_cSI2 {x1 x2 : Value} {P : Int32 → Mm → Prop} (d : decode (ic M) pc = .ok (.invokestatic idx, 3)) (lk : lkS (iy M).cls idx N 2) (hfit : fitR M N = true) (hst : (st.map fun v => v.category).sum ≤ 8) (hM : RI Ω N [x1, x2] σ P) (k : ∀ r τ, P r τ → G Ω M K (pc + 3) ls (.int r :: st) τ) : G Ω M K pc ls (x2 :: x1 :: st) σ := g_callS (As := [x1, x2]) d lk hfit rfl hst hM (fun v τ h => by obtain ⟨r, rfl, h⟩ := h; exact k r τ h)
theorem g_cSV2 {x1 x2 : Value} {P : Mm → Prop} (d : decode (ic M) pc = .ok (.invokestatic idx, 3)) (lk : lkS (iy M).cls idx N 2) (hfit : fitR M N = true) (hst : (st.map fun v => v.category).sum ≤ 8) (hM : RV Ω N [x1, x2] σ P) (k : ∀ τ, P τ → G Ω M K (pc + 3) ls st τ) : G Ω M K pc ls (x2 :: x1 :: st) σ := g_callS (As := [x1, x2]) d lk hfit rfl hst hM (fun v τ h => by obtain ⟨rfl, h⟩ := h; exact k τ h)
theorem g_cSL2 {x1 x2 : Value} {P : Int64 → Mm → Prop} (d : decode (ic M) pc = .ok (.invokestatic idx, 3)) (lk : lkS (iy M).cls idx N 2) (hfit : fitR M N = true) (hst : (st.map fun v => v.category).sum ≤ 8) (hM : RL_ Ω N [x1, x2] σ P) (k : ∀ r τ, P r τ → G Ω M K (pc + 3) ls (.long r :: st) τ) : G Ω M K pc ls (x2 :: x1 :: st) σ := g_callS (As := [x1, x2]) d lk hfit rfl hst hM (fun v τ h => by obtain ⟨r, rfl, h⟩ := h; exact k r τ h)
theorem g_cSI3 {x1 x2 x3 : Value} {P : Int32 → Mm → Prop} (d : decode (ic M) pc = .ok (.invokestatic idx, 3)) (lk : lkS (iy M).cls idx N 3) (hfit : fitR M N = true) (hst : (st.map fun v => v.category).sum ≤ 8) (hM : RI Ω N [x1, x2, x3] σ P) (k : ∀ r τ, P r τ → G Ω M K (pc + 3) ls (.int r :: st) τ) : G Ω M K pc ls (x3 :: x2 :: x1 :: st) σ := g_callS (As := [x1, x2, x3]) d lk hfit rfl hst hM (fun v τ h => by obtain ⟨r, rfl, h⟩ := h; exact k r τ h)
theorem g_cSV3 {x1 x2 x3 : Value} {P : Mm → Prop} (d : decode (ic M) pc = .ok (.invokestatic idx, 3)) (lk : lkS (iy M).cls idx N 3) (hfit : fitR M N = true) (hst : (st.map fun v => v.category).sum ≤ 8) (hM : RV Ω N [x1, x2, x3] σ P) (k : ∀ τ, P τ → G Ω M K (pc + 3) ls st τ) : G Ω M K pc ls (x3 :: x2 :: x1 :: st) σ := g_callS (As := [x1, x2, x3]) d lk hfit rfl hst hM (fun v τ h => by obtain ⟨rfl, h⟩ := h; exact k τ h)
theorem g_cSL3 {x1 x2 x3 : Value} {P : Int64 → Mm → Prop} (d : decode (ic M) pc = .ok (.invokestatic idx, 3)) (lk : lkS (iy M).cls idx N 3) (hfit : fitR M N = true) (hst : (st.map fun v => v.category).sum ≤ 8) (hM : RL_ Ω N [x1, x2, x3] σ P) (k : ∀ r τ, P r τ → G Ω M K (pc + 3) ls (.long r :: st) τ) : G Ω M K pc ls (x3 :: x2 :: x1 :: st) σ := g_callS (As := [x1, x2, x3]) d lk hfit rfl hst hM (fun v τ h => by obtain ⟨r, rfl, h⟩ := h; exact k r τ h)
theorem g_cSI4 {x1 x2 x3 x4 : Value} {P : Int32 → Mm → Prop} (d : decode (ic M) pc = .ok (.invokestatic idx, 3)) (lk : lkS (iy M).cls idx N 4) (hfit : fitR M N = true) (hst : (st.map fun v => v.category).sum ≤ 8) (hM : RI Ω N [x1, x2, x3, x4] σ P) (k : ∀ r τ, P r τ → G Ω M K (pc + 3) ls (.int r :: st) τ) : G Ω M K pc ls (x4 :: x3 :: x2 :: x1 :: st) σ := g_callS (As := [x1, x2, x3, x4]) d lk hfit rfl hst hM (fun v τ h => by obtain ⟨r, rfl, h⟩ := h; exact k r τ h)
theorem g_cSV4 {x1 x2 x3 x4 : Value} {P : Mm → Prop} (d : decode (ic M) pc = .ok (.invokestatic idx, 3)) (lk : lkS (iy M).cls idx N 4) (hfit : fitR M N = true) (hst : (st.map fun v => v.category).sum ≤ 8) (hM : RV Ω N [x1, x2, x3, x4] σ P) (k : ∀ τ, P τ → G Ω M K (pc + 3) ls st τ) : G Ω M K pc ls (x4 :: x3 :: x2 :: x1 :: st) σ := g_callS (As := [x1, x2, x3, x4]) d lk hfit rfl hst hM (fun v τ h => by obtain ⟨rfl, h⟩ := h; exact k τ h)
theorem g_cSL4 {x1 x2 x3 x4 : Value} {P : Int64 → Mm → Prop} (d : decode (ic M) pc = .ok (.invokestatic idx, 3)) (lk : lkS (iy M).cls idx N 4) (hfit : fitR M N = true) (hst : (st.map fun v => v.category).sum ≤ 8) (hM : RL_ Ω N [x1, x2, x3, x4] σ P) (k : ∀ r τ, P r τ → G Ω M K (pc + 3) ls (.long r :: st) τ) : G Ω M K pc ls (x4 :: x3 :: x2 :: x1 :: st) σ := g_callS (As := [x1, x2, x3, x4]) d lk hfit rfl hst hM (fun v τ h => by obtain ⟨r, rfl, h⟩ := h; exact k r τ h)
theorem g_cSI5 {x1 x2 x3 x4 x5 : Value} {P : Int32 → Mm → Prop} (d : decode (ic M) pc = .ok (.invokestatic idx, 3)) (lk : lkS (iy M).cls idx N 5) (hfit : fitR M N = true) (hst : (st.map fun v => v.category).sum ≤ 8) (hM : RI Ω N [x1, x2, x3, x4, x5] σ P) (k : ∀ r τ, P r τ → G Ω M K (pc + 3) ls (.int r :: st) τ) : G Ω M K pc ls (x5 :: x4 :: x3 :: x2 :: x1 :: st) σ := g_callS (As := [x1, x2, x3, x4, x5]) d lk hfit rfl hst hM (fun v τ h => by obtain ⟨r, rfl, h⟩ := h; exact k r τ h)
theorem g_cSV5 {x1 x2 x3 x4 x5 : Value} {P : Mm → Prop} (d : decode (ic M) pc = .ok (.invokestatic idx, 3)) (lk : lkS (iy M).cls idx N 5) (hfit : fitR M N = true) (hst : (st.map fun v => v.category).sum ≤ 8) (hM : RV Ω N [x1, x2, x3, x4, x5] σ P) (k : ∀ τ, P τ → G Ω M K (pc + 3) ls st τ) : G Ω M K pc ls (x5 :: x4 :: x3 :: x2 :: x1 :: st) σ := g_callS (As := [x1, x2, x3, x4, x5]) d lk hfit rfl hst hM (fun v τ h => by obtain ⟨rfl, h⟩ := h; exact k τ h)
theorem g_cSL5 {x1 x2 x3 x4 x5 : Value} {P : Int64 → Mm → Prop} (d : decode (ic M) pc = .ok (.invokestatic idx, 3)) (lk : lkS (iy M).cls idx N 5) (hfit : fitR M N = true) (hst : (st.map fun v => v.category).sum ≤ 8) (hM : RL_ Ω N [x1, x2, x3, x4, x5] σ P) (k : ∀ r τ, P r τ → G Ω M K (pc + 3) ls (.long r :: st) τ) : G Ω M K pc ls (x5 :: x4 :: x3 :: x2 :: x1 :: st) σ := g_callS (As := [x1, x2, x3, x4, x5]) d lk hfit rfl hst hM (fun v τ h => by obtain ⟨r, rfl, h⟩ := h; exact k r τ h)
theorem g_cSI6 {x1 x2 x3 x4 x5 x6 : Value} {P : Int32 → Mm → Prop} (d : decode (ic M) pc = .ok (.invokestatic idx, 3)) (lk : lkS (iy M).cls idx N 6) (hfit : fitR M N = true) (hst : (st.map fun v => v.category).sum ≤ 8) (hM : RI Ω N [x1, x2, x3, x4, x5, x6] σ P) (k : ∀ r τ, P r τ → G Ω M K (pc + 3) ls (.int r :: st) τ) : G Ω M K pc ls (x6 :: x5 :: x4 :: x3 :: x2 :: x1 :: st) σ := g_callS (As := [x1, x2, x3, x4, x5, x6]) d lk hfit rfl hst hM (fun v τ h => by obtain ⟨r, rfl, h⟩ := h; exact k r τ h)
theorem g_cSV6 {x1 x2 x3 x4 x5 x6 : Value} {P : Mm → Prop} (d : decode (ic M) pc = .ok (.invokestatic idx, 3)) (lk : lkS (iy M).cls idx N 6) (hfit : fitR M N = true) (hst : (st.map fun v => v.category).sum ≤ 8) (hM : RV Ω N [x1, x2, x3, x4, x5, x6] σ P) (k : ∀ τ, P τ → G Ω M K (pc + 3) ls st τ) : G Ω M K pc ls (x6 :: x5 :: x4 :: x3 :: x2 :: x1 :: st) σ := g_callS (As := [x1, x2, x3, x4, x5, x6]) d lk hfit rfl hst hM (fun v τ h => by obtain ⟨rfl, h⟩ := h; exact k τ h)
theorem g_cSL6 {x1 x2 x3 x4 x5 x6 : Value} {P : Int64 → Mm → Prop} (d : decode (ic M) pc = .ok (.invokestatic idx, 3)) (lk : lkS (iy M).cls idx N 6) (hfit : fitR M N = true) (hst : (st.map fun v => v.category).sum ≤ 8) (hM : RL_ Ω N [x1, x2, x3, x4, x5, x6] σ P) (k : ∀ r τ, P r τ → G Ω M K (pc + 3) ls (.long r :: st) τ) : G Ω M K pc ls (x6 :: x5 :: x4 :: x3 :: x2 :: x1 :: st) σ := g_callS (As := [x1, x2, x3, x4, x5, x6]) d lk hfit rfl hst hM (fun v τ h => by obtain ⟨r, rfl, h⟩ := h; exact k r τ h)
theorem g_cNI2 {x1 x2 : Value} {P : Int32 → Mm → Prop} {host : String} (d : decode (ic M) pc = .ok (.invokestatic idx, 3)) (lk : lkN (iy M).cls idx N host 2) (hfit : fitR M N = true) (hst : (st.map fun v => v.category).sum ≤ 8) (hM : RI Ω N [x1, x2] σ P) (k : ∀ r τ, P r τ → G Ω M K (pc + 3) ls (.int r :: st) τ) : G Ω M K pc ls (x2 :: x1 :: st) σ := g_callN (As := [x1, x2]) d lk hfit rfl hst hM (fun v τ h => by obtain ⟨r, rfl, h⟩ := h; exact k r τ h)
theorem g_cNI3 {x1 x2 x3 : Value} {P : Int32 → Mm → Prop} {host : String} (d : decode (ic M) pc = .ok (.invokestatic idx, 3)) (lk : lkN (iy M).cls idx N host 3) (hfit : fitR M N = true) (hst : (st.map fun v => v.category).sum ≤ 8) (hM : RI Ω N [x1, x2, x3] σ P) (k : ∀ r τ, P r τ → G Ω M K (pc + 3) ls (.int r :: st) τ) : G Ω M K pc ls (x3 :: x2 :: x1 :: st) σ := g_callN (As := [x1, x2, x3]) d lk hfit rfl hst hM (fun v τ h => by obtain ⟨r, rfl, h⟩ := h; exact k r τ h)
end
end
