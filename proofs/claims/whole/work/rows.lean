section
-- ===== PART A: goes FIRST, ahead of the names: the tables' words, and 'selects' of the private methods out of them =====
/-- a private method of a class that the tables say can be made, by its rows of tables_1 -/
def lw_okq (q : MethodName × Nat) : Prop := (q.1.cls ≠ "java/lang/invoke/MethodHandle" ∧ q.1.cls ≠ "java/lang/invoke/VarHandle") ∧ Cond.instantiable q.1.cls q.2 ∈ tables_1 ∧ Cond.privateMethod q.1 ∈ tables_1 ∧ Cond.instanceMethod q.1 ∈ tables_1
theorem lw_p0 : lw_okq (⟨"FarCells$Board", "measure", "()V"⟩, 7) := ⟨⟨by decide +kernel, by decide +kernel⟩, List.mem_of_getElem? (i := 32) (by decide +kernel), List.mem_of_getElem? (i := 44) (by decide +kernel), List.mem_of_getElem? (i := 45) (by decide +kernel)⟩
theorem lw_p1 : lw_okq (⟨"FarCells$Board", "direct", "(II)I"⟩, 7) := ⟨⟨by decide +kernel, by decide +kernel⟩, List.mem_of_getElem? (i := 32) (by decide +kernel), List.mem_of_getElem? (i := 48) (by decide +kernel), List.mem_of_getElem? (i := 49) (by decide +kernel)⟩
theorem lw_p2 : lw_okq (⟨"FarCells$Board", "shortenOver", "(I)V"⟩, 7) := ⟨⟨by decide +kernel, by decide +kernel⟩, List.mem_of_getElem? (i := 32) (by decide +kernel), List.mem_of_getElem? (i := 62) (by decide +kernel), List.mem_of_getElem? (i := 63) (by decide +kernel)⟩
theorem lw_p3 : lw_okq (⟨"FarCells$Board", "leastHop", "(II)I"⟩, 7) := ⟨⟨by decide +kernel, by decide +kernel⟩, List.mem_of_getElem? (i := 32) (by decide +kernel), List.mem_of_getElem? (i := 70) (by decide +kernel), List.mem_of_getElem? (i := 71) (by decide +kernel)⟩
theorem lw_p4 : lw_okq (⟨"FarCells$Machine", "allHaveRoom", "()Z"⟩, 19) := ⟨⟨by decide +kernel, by decide +kernel⟩, List.mem_of_getElem? (i := 141) (by decide +kernel), List.mem_of_getElem? (i := 631) (by decide +kernel), List.mem_of_getElem? (i := 632) (by decide +kernel)⟩
theorem lw_p5 : lw_okq (⟨"FarCells$Machine", "serve", "(I)V"⟩, 19) := ⟨⟨by decide +kernel, by decide +kernel⟩, List.mem_of_getElem? (i := 141) (by decide +kernel), List.mem_of_getElem? (i := 681) (by decide +kernel), List.mem_of_getElem? (i := 682) (by decide +kernel)⟩
theorem lw_p6 : lw_okq (⟨"FarCells$Machine", "goes", "(I)Z"⟩, 19) := ⟨⟨by decide +kernel, by decide +kernel⟩, List.mem_of_getElem? (i := 141) (by decide +kernel), List.mem_of_getElem? (i := 698) (by decide +kernel), List.mem_of_getElem? (i := 699) (by decide +kernel)⟩
theorem lw_p7 : lw_okq (⟨"FarCells$Machine", "canBeReached", "()Z"⟩, 19) := ⟨⟨by decide +kernel, by decide +kernel⟩, List.mem_of_getElem? (i := 141) (by decide +kernel), List.mem_of_getElem? (i := 706) (by decide +kernel), List.mem_of_getElem? (i := 707) (by decide +kernel)⟩
theorem lw_p8 : lw_okq (⟨"FarCells$Machine", "placeByRule", "(LFarCells$Page;)Z"⟩, 19) := ⟨⟨by decide +kernel, by decide +kernel⟩, List.mem_of_getElem? (i := 141) (by decide +kernel), List.mem_of_getElem? (i := 711) (by decide +kernel), List.mem_of_getElem? (i := 712) (by decide +kernel)⟩
theorem lw_p9 : lw_okq (⟨"FarCells$Machine", "firstChoice", "()I"⟩, 19) := ⟨⟨by decide +kernel, by decide +kernel⟩, List.mem_of_getElem? (i := 141) (by decide +kernel), List.mem_of_getElem? (i := 715) (by decide +kernel), List.mem_of_getElem? (i := 716) (by decide +kernel)⟩
theorem lw_p10 : lw_okq (⟨"FarCells$Machine", "emptiest", "()I"⟩, 19) := ⟨⟨by decide +kernel, by decide +kernel⟩, List.mem_of_getElem? (i := 141) (by decide +kernel), List.mem_of_getElem? (i := 719) (by decide +kernel), List.mem_of_getElem? (i := 720) (by decide +kernel)⟩
theorem lw_p11 : lw_okq (⟨"FarCells$Machine", "nextWithRoom", "(I)I"⟩, 19) := ⟨⟨by decide +kernel, by decide +kernel⟩, List.mem_of_getElem? (i := 141) (by decide +kernel), List.mem_of_getElem? (i := 723) (by decide +kernel), List.mem_of_getElem? (i := 724) (by decide +kernel)⟩
theorem lw_p12 : lw_okq (⟨"FarCells$Machine", "takeFault", "(LFarCells$Page;)V"⟩, 19) := ⟨⟨by decide +kernel, by decide +kernel⟩, List.mem_of_getElem? (i := 141) (by decide +kernel), List.mem_of_getElem? (i := 749) (by decide +kernel), List.mem_of_getElem? (i := 750) (by decide +kernel)⟩
theorem lw_p13 : lw_okq (⟨"FarCells$Machine", "moveIfItPays", "(LFarCells$Page;)V"⟩, 19) := ⟨⟨by decide +kernel, by decide +kernel⟩, List.mem_of_getElem? (i := 141) (by decide +kernel), List.mem_of_getElem? (i := 758) (by decide +kernel), List.mem_of_getElem? (i := 759) (by decide +kernel)⟩
theorem lw_p14 : lw_okq (⟨"FarCells$Page", "faultsOf", "(I)I"⟩, 9) := ⟨⟨by decide +kernel, by decide +kernel⟩, List.mem_of_getElem? (i := 293) (by decide +kernel), List.mem_of_getElem? (i := 766) (by decide +kernel), List.mem_of_getElem? (i := 767) (by decide +kernel)⟩
theorem lw_p15 : lw_okq (⟨"FarCells$Machine", "perform", "(LFarCells$Page;LFarCells$Worker;)V"⟩, 19) := ⟨⟨by decide +kernel, by decide +kernel⟩, List.mem_of_getElem? (i := 141) (by decide +kernel), List.mem_of_getElem? (i := 776) (by decide +kernel), List.mem_of_getElem? (i := 777) (by decide +kernel)⟩
def lw_privs_1 : List (MethodName × Nat) := [(⟨"FarCells$Board", "measure", "()V"⟩, 7), (⟨"FarCells$Board", "direct", "(II)I"⟩, 7), (⟨"FarCells$Board", "shortenOver", "(I)V"⟩, 7), (⟨"FarCells$Board", "leastHop", "(II)I"⟩, 7), (⟨"FarCells$Machine", "allHaveRoom", "()Z"⟩, 19), (⟨"FarCells$Machine", "serve", "(I)V"⟩, 19), (⟨"FarCells$Machine", "goes", "(I)Z"⟩, 19), (⟨"FarCells$Machine", "canBeReached", "()Z"⟩, 19), (⟨"FarCells$Machine", "placeByRule", "(LFarCells$Page;)Z"⟩, 19), (⟨"FarCells$Machine", "firstChoice", "()I"⟩, 19), (⟨"FarCells$Machine", "emptiest", "()I"⟩, 19), (⟨"FarCells$Machine", "nextWithRoom", "(I)I"⟩, 19), (⟨"FarCells$Machine", "takeFault", "(LFarCells$Page;)V"⟩, 19), (⟨"FarCells$Machine", "moveIfItPays", "(LFarCells$Page;)V"⟩, 19), (⟨"FarCells$Page", "faultsOf", "(I)I"⟩, 9), (⟨"FarCells$Machine", "perform", "(LFarCells$Page;LFarCells$Worker;)V"⟩, 19)]
theorem lw_r1 : ∀ q ∈ lw_privs_1, lw_okq q := List.forall_mem_cons.mpr ⟨lw_p0, List.forall_mem_cons.mpr ⟨lw_p1, List.forall_mem_cons.mpr ⟨lw_p2, List.forall_mem_cons.mpr ⟨lw_p3, List.forall_mem_cons.mpr ⟨lw_p4, List.forall_mem_cons.mpr ⟨lw_p5, List.forall_mem_cons.mpr ⟨lw_p6, List.forall_mem_cons.mpr ⟨lw_p7, List.forall_mem_cons.mpr ⟨lw_p8, List.forall_mem_cons.mpr ⟨lw_p9, List.forall_mem_cons.mpr ⟨lw_p10, List.forall_mem_cons.mpr ⟨lw_p11, List.forall_mem_cons.mpr ⟨lw_p12, List.forall_mem_cons.mpr ⟨lw_p13, List.forall_mem_cons.mpr ⟨lw_p14, List.forall_mem_cons.mpr ⟨lw_p15, fun _ h => absurd h List.not_mem_nil⟩⟩⟩⟩⟩⟩⟩⟩⟩⟩⟩⟩⟩⟩⟩⟩
theorem lw_p16 : lw_okq (⟨"FarCells$Machine", "endCopies", "(LFarCells$Page;)I"⟩, 19) := ⟨⟨by decide +kernel, by decide +kernel⟩, List.mem_of_getElem? (i := 141) (by decide +kernel), List.mem_of_getElem? (i := 780) (by decide +kernel), List.mem_of_getElem? (i := 781) (by decide +kernel)⟩
theorem lw_p17 : lw_okq (⟨"FarCells$Machine", "bringCopy", "(LFarCells$Page;)I"⟩, 19) := ⟨⟨by decide +kernel, by decide +kernel⟩, List.mem_of_getElem? (i := 141) (by decide +kernel), List.mem_of_getElem? (i := 791) (by decide +kernel), List.mem_of_getElem? (i := 792) (by decide +kernel)⟩
theorem lw_p18 : lw_okq (⟨"FarCells$Machine", "enterInBills", "(LFarCells$Page;LFarCells$Worker;)V"⟩, 19) := ⟨⟨by decide +kernel, by decide +kernel⟩, List.mem_of_getElem? (i := 141) (by decide +kernel), List.mem_of_getElem? (i := 795) (by decide +kernel), List.mem_of_getElem? (i := 796) (by decide +kernel)⟩
theorem lw_p19 : lw_okq (⟨"FarCells$Machine", "finishAccesses", "()V"⟩, 19) := ⟨⟨by decide +kernel, by decide +kernel⟩, List.mem_of_getElem? (i := 141) (by decide +kernel), List.mem_of_getElem? (i := 803) (by decide +kernel), List.mem_of_getElem? (i := 804) (by decide +kernel)⟩
theorem lw_p20 : lw_okq (⟨"FarCells$Machine", "hidePages", "()V"⟩, 19) := ⟨⟨by decide +kernel, by decide +kernel⟩, List.mem_of_getElem? (i := 141) (by decide +kernel), List.mem_of_getElem? (i := 808) (by decide +kernel), List.mem_of_getElem? (i := 809) (by decide +kernel)⟩
theorem lw_p21 : lw_okq (⟨"FarCells$Journal", "addAccess", "(ILFarCells$Board;I)V"⟩, 5) := ⟨⟨by decide +kernel, by decide +kernel⟩, List.mem_of_getElem? (i := 271) (by decide +kernel), List.mem_of_getElem? (i := 853) (by decide +kernel), List.mem_of_getElem? (i := 854) (by decide +kernel)⟩
theorem lw_p22 : lw_okq (⟨"FarCells$Journal", "leastOf", "(I)I"⟩, 5) := ⟨⟨by decide +kernel, by decide +kernel⟩, List.mem_of_getElem? (i := 271) (by decide +kernel), List.mem_of_getElem? (i := 857) (by decide +kernel), List.mem_of_getElem? (i := 858) (by decide +kernel)⟩
theorem lw_p23 : lw_okq (⟨"FarCells$Journal", "replay", "()V"⟩, 5) := ⟨⟨by decide +kernel, by decide +kernel⟩, List.mem_of_getElem? (i := 271) (by decide +kernel), List.mem_of_getElem? (i := 903) (by decide +kernel), List.mem_of_getElem? (i := 904) (by decide +kernel)⟩
theorem lw_p24 : lw_okq (⟨"FarCells", "refusalOfPageOn", "(I)I"⟩, 4) := ⟨⟨by decide +kernel, by decide +kernel⟩, List.mem_of_getElem? (i := 24) (by decide +kernel), List.mem_of_getElem? (i := 963) (by decide +kernel), List.mem_of_getElem? (i := 964) (by decide +kernel)⟩
theorem lw_p25 : lw_okq (⟨"java/lang/Throwable", "fillInStackTrace", "(I)Ljava/lang/Throwable;"⟩, 6) := ⟨⟨by decide +kernel, by decide +kernel⟩, List.mem_of_getElem? (i := 1017) (by decide +kernel), List.mem_of_getElem? (i := 1015) (by decide +kernel), List.mem_of_getElem? (i := 1016) (by decide +kernel)⟩
theorem lw_p26 : lw_okq (⟨"FarCellsModel", "measure", "()V"⟩, 65) := ⟨⟨by decide +kernel, by decide +kernel⟩, List.mem_of_getElem? (i := 1092) (by decide +kernel), List.mem_of_getElem? (i := 1101) (by decide +kernel), List.mem_of_getElem? (i := 1102) (by decide +kernel)⟩
theorem lw_p27 : lw_okq (⟨"FarCellsModel", "areLinked", "(II)Z"⟩, 65) := ⟨⟨by decide +kernel, by decide +kernel⟩, List.mem_of_getElem? (i := 1092) (by decide +kernel), List.mem_of_getElem? (i := 1311) (by decide +kernel), List.mem_of_getElem? (i := 1312) (by decide +kernel)⟩
theorem lw_p28 : lw_okq (⟨"FarCellsModel", "isNode", "(I)Z"⟩, 65) := ⟨⟨by decide +kernel, by decide +kernel⟩, List.mem_of_getElem? (i := 1092) (by decide +kernel), List.mem_of_getElem? (i := 1315) (by decide +kernel), List.mem_of_getElem? (i := 1316) (by decide +kernel)⟩
theorem lw_p29 : lw_okq (⟨"FarCellsModel", "isWay", "(II)Z"⟩, 65) := ⟨⟨by decide +kernel, by decide +kernel⟩, List.mem_of_getElem? (i := 1092) (by decide +kernel), List.mem_of_getElem? (i := 1328) (by decide +kernel), List.mem_of_getElem? (i := 1329) (by decide +kernel)⟩
theorem lw_p30 : lw_okq (⟨"FarCellsModel", "behind", "(II)I"⟩, 65) := ⟨⟨by decide +kernel, by decide +kernel⟩, List.mem_of_getElem? (i := 1092) (by decide +kernel), List.mem_of_getElem? (i := 1336) (by decide +kernel), List.mem_of_getElem? (i := 1337) (by decide +kernel)⟩
theorem lw_p31 : lw_okq (⟨"FarCellsModel", "isThread", "(I)Z"⟩, 65) := ⟨⟨by decide +kernel, by decide +kernel⟩, List.mem_of_getElem? (i := 1092) (by decide +kernel), List.mem_of_getElem? (i := 1353) (by decide +kernel), List.mem_of_getElem? (i := 1354) (by decide +kernel)⟩
def lw_privs_2 : List (MethodName × Nat) := [(⟨"FarCells$Machine", "endCopies", "(LFarCells$Page;)I"⟩, 19), (⟨"FarCells$Machine", "bringCopy", "(LFarCells$Page;)I"⟩, 19), (⟨"FarCells$Machine", "enterInBills", "(LFarCells$Page;LFarCells$Worker;)V"⟩, 19), (⟨"FarCells$Machine", "finishAccesses", "()V"⟩, 19), (⟨"FarCells$Machine", "hidePages", "()V"⟩, 19), (⟨"FarCells$Journal", "addAccess", "(ILFarCells$Board;I)V"⟩, 5), (⟨"FarCells$Journal", "leastOf", "(I)I"⟩, 5), (⟨"FarCells$Journal", "replay", "()V"⟩, 5), (⟨"FarCells", "refusalOfPageOn", "(I)I"⟩, 4), (⟨"java/lang/Throwable", "fillInStackTrace", "(I)Ljava/lang/Throwable;"⟩, 6), (⟨"FarCellsModel", "measure", "()V"⟩, 65), (⟨"FarCellsModel", "areLinked", "(II)Z"⟩, 65), (⟨"FarCellsModel", "isNode", "(I)Z"⟩, 65), (⟨"FarCellsModel", "isWay", "(II)Z"⟩, 65), (⟨"FarCellsModel", "behind", "(II)I"⟩, 65), (⟨"FarCellsModel", "isThread", "(I)Z"⟩, 65)]
theorem lw_r2 : ∀ q ∈ lw_privs_2, lw_okq q := List.forall_mem_cons.mpr ⟨lw_p16, List.forall_mem_cons.mpr ⟨lw_p17, List.forall_mem_cons.mpr ⟨lw_p18, List.forall_mem_cons.mpr ⟨lw_p19, List.forall_mem_cons.mpr ⟨lw_p20, List.forall_mem_cons.mpr ⟨lw_p21, List.forall_mem_cons.mpr ⟨lw_p22, List.forall_mem_cons.mpr ⟨lw_p23, List.forall_mem_cons.mpr ⟨lw_p24, List.forall_mem_cons.mpr ⟨lw_p25, List.forall_mem_cons.mpr ⟨lw_p26, List.forall_mem_cons.mpr ⟨lw_p27, List.forall_mem_cons.mpr ⟨lw_p28, List.forall_mem_cons.mpr ⟨lw_p29, List.forall_mem_cons.mpr ⟨lw_p30, List.forall_mem_cons.mpr ⟨lw_p31, fun _ h => absurd h List.not_mem_nil⟩⟩⟩⟩⟩⟩⟩⟩⟩⟩⟩⟩⟩⟩⟩⟩
theorem lw_p32 : lw_okq (⟨"FarCellsModel", "isPage", "(I)Z"⟩, 65) := ⟨⟨by decide +kernel, by decide +kernel⟩, List.mem_of_getElem? (i := 1092) (by decide +kernel), List.mem_of_getElem? (i := 1375) (by decide +kernel), List.mem_of_getElem? (i := 1376) (by decide +kernel)⟩
theorem lw_p33 : lw_okq (⟨"FarCellsModel", "allHaveRoom", "()Z"⟩, 65) := ⟨⟨by decide +kernel, by decide +kernel⟩, List.mem_of_getElem? (i := 1092) (by decide +kernel), List.mem_of_getElem? (i := 1379) (by decide +kernel), List.mem_of_getElem? (i := 1380) (by decide +kernel)⟩
theorem lw_p34 : lw_okq (⟨"FarCellsModel", "hasRoom", "(I)Z"⟩, 65) := ⟨⟨by decide +kernel, by decide +kernel⟩, List.mem_of_getElem? (i := 1092) (by decide +kernel), List.mem_of_getElem? (i := 1383) (by decide +kernel), List.mem_of_getElem? (i := 1384) (by decide +kernel)⟩
theorem lw_p35 : lw_okq (⟨"FarCellsModel", "taken", "(I)I"⟩, 65) := ⟨⟨by decide +kernel, by decide +kernel⟩, List.mem_of_getElem? (i := 1092) (by decide +kernel), List.mem_of_getElem? (i := 1387) (by decide +kernel), List.mem_of_getElem? (i := 1388) (by decide +kernel)⟩
theorem lw_p36 : lw_okq (⟨"FarCellsModel", "oneTick", "()V"⟩, 65) := ⟨⟨by decide +kernel, by decide +kernel⟩, List.mem_of_getElem? (i := 1092) (by decide +kernel), List.mem_of_getElem? (i := 1404) (by decide +kernel), List.mem_of_getElem? (i := 1405) (by decide +kernel)⟩
theorem lw_p37 : lw_okq (⟨"FarCellsModel", "first", "(I)I"⟩, 65) := ⟨⟨by decide +kernel, by decide +kernel⟩, List.mem_of_getElem? (i := 1092) (by decide +kernel), List.mem_of_getElem? (i := 1408) (by decide +kernel), List.mem_of_getElem? (i := 1409) (by decide +kernel)⟩
theorem lw_p38 : lw_okq (⟨"FarCellsModel", "isReady", "(I)Z"⟩, 65) := ⟨⟨by decide +kernel, by decide +kernel⟩, List.mem_of_getElem? (i := 1092) (by decide +kernel), List.mem_of_getElem? (i := 1412) (by decide +kernel), List.mem_of_getElem? (i := 1413) (by decide +kernel)⟩
theorem lw_p39 : lw_okq (⟨"FarCellsModel", "underWay", "(I)I"⟩, 65) := ⟨⟨by decide +kernel, by decide +kernel⟩, List.mem_of_getElem? (i := 1092) (by decide +kernel), List.mem_of_getElem? (i := 1416) (by decide +kernel), List.mem_of_getElem? (i := 1417) (by decide +kernel)⟩
theorem lw_p40 : lw_okq (⟨"FarCellsModel", "tryNext", "(I)V"⟩, 65) := ⟨⟨by decide +kernel, by decide +kernel⟩, List.mem_of_getElem? (i := 1092) (by decide +kernel), List.mem_of_getElem? (i := 1420) (by decide +kernel), List.mem_of_getElem? (i := 1421) (by decide +kernel)⟩
theorem lw_p41 : lw_okq (⟨"FarCellsModel", "isPlaced", "(II)Z"⟩, 65) := ⟨⟨by decide +kernel, by decide +kernel⟩, List.mem_of_getElem? (i := 1092) (by decide +kernel), List.mem_of_getElem? (i := 1424) (by decide +kernel), List.mem_of_getElem? (i := 1425) (by decide +kernel)⟩
theorem lw_p42 : lw_okq (⟨"FarCellsModel", "emptiest", "()I"⟩, 65) := ⟨⟨by decide +kernel, by decide +kernel⟩, List.mem_of_getElem? (i := 1092) (by decide +kernel), List.mem_of_getElem? (i := 1428) (by decide +kernel), List.mem_of_getElem? (i := 1429) (by decide +kernel)⟩
theorem lw_p43 : lw_okq (⟨"FarCellsModel", "fail", "(I)V"⟩, 65) := ⟨⟨by decide +kernel, by decide +kernel⟩, List.mem_of_getElem? (i := 1092) (by decide +kernel), List.mem_of_getElem? (i := 1432) (by decide +kernel), List.mem_of_getElem? (i := 1433) (by decide +kernel)⟩
theorem lw_p44 : lw_okq (⟨"FarCellsModel", "where", "(III)I"⟩, 65) := ⟨⟨by decide +kernel, by decide +kernel⟩, List.mem_of_getElem? (i := 1092) (by decide +kernel), List.mem_of_getElem? (i := 1436) (by decide +kernel), List.mem_of_getElem? (i := 1437) (by decide +kernel)⟩
theorem lw_p45 : lw_okq (⟨"FarCellsModel", "crowded", "(II)I"⟩, 65) := ⟨⟨by decide +kernel, by decide +kernel⟩, List.mem_of_getElem? (i := 1092) (by decide +kernel), List.mem_of_getElem? (i := 1440) (by decide +kernel), List.mem_of_getElem? (i := 1441) (by decide +kernel)⟩
theorem lw_p46 : lw_okq (⟨"FarCellsModel", "useLinks", "(II)V"⟩, 65) := ⟨⟨by decide +kernel, by decide +kernel⟩, List.mem_of_getElem? (i := 1092) (by decide +kernel), List.mem_of_getElem? (i := 1444) (by decide +kernel), List.mem_of_getElem? (i := 1445) (by decide +kernel)⟩
theorem lw_p47 : lw_okq (⟨"FarCellsModel", "faulted", "(II)I"⟩, 65) := ⟨⟨by decide +kernel, by decide +kernel⟩, List.mem_of_getElem? (i := 1092) (by decide +kernel), List.mem_of_getElem? (i := 1448) (by decide +kernel), List.mem_of_getElem? (i := 1449) (by decide +kernel)⟩
def lw_privs_3 : List (MethodName × Nat) := [(⟨"FarCellsModel", "isPage", "(I)Z"⟩, 65), (⟨"FarCellsModel", "allHaveRoom", "()Z"⟩, 65), (⟨"FarCellsModel", "hasRoom", "(I)Z"⟩, 65), (⟨"FarCellsModel", "taken", "(I)I"⟩, 65), (⟨"FarCellsModel", "oneTick", "()V"⟩, 65), (⟨"FarCellsModel", "first", "(I)I"⟩, 65), (⟨"FarCellsModel", "isReady", "(I)Z"⟩, 65), (⟨"FarCellsModel", "underWay", "(I)I"⟩, 65), (⟨"FarCellsModel", "tryNext", "(I)V"⟩, 65), (⟨"FarCellsModel", "isPlaced", "(II)Z"⟩, 65), (⟨"FarCellsModel", "emptiest", "()I"⟩, 65), (⟨"FarCellsModel", "fail", "(I)V"⟩, 65), (⟨"FarCellsModel", "where", "(III)I"⟩, 65), (⟨"FarCellsModel", "crowded", "(II)I"⟩, 65), (⟨"FarCellsModel", "useLinks", "(II)V"⟩, 65), (⟨"FarCellsModel", "faulted", "(II)I"⟩, 65)]
theorem lw_r3 : ∀ q ∈ lw_privs_3, lw_okq q := List.forall_mem_cons.mpr ⟨lw_p32, List.forall_mem_cons.mpr ⟨lw_p33, List.forall_mem_cons.mpr ⟨lw_p34, List.forall_mem_cons.mpr ⟨lw_p35, List.forall_mem_cons.mpr ⟨lw_p36, List.forall_mem_cons.mpr ⟨lw_p37, List.forall_mem_cons.mpr ⟨lw_p38, List.forall_mem_cons.mpr ⟨lw_p39, List.forall_mem_cons.mpr ⟨lw_p40, List.forall_mem_cons.mpr ⟨lw_p41, List.forall_mem_cons.mpr ⟨lw_p42, List.forall_mem_cons.mpr ⟨lw_p43, List.forall_mem_cons.mpr ⟨lw_p44, List.forall_mem_cons.mpr ⟨lw_p45, List.forall_mem_cons.mpr ⟨lw_p46, List.forall_mem_cons.mpr ⟨lw_p47, fun _ h => absurd h List.not_mem_nil⟩⟩⟩⟩⟩⟩⟩⟩⟩⟩⟩⟩⟩⟩⟩⟩
theorem lw_p48 : lw_okq (⟨"FarCellsModel", "keepFault", "(II)V"⟩, 65) := ⟨⟨by decide +kernel, by decide +kernel⟩, List.mem_of_getElem? (i := 1092) (by decide +kernel), List.mem_of_getElem? (i := 1452) (by decide +kernel), List.mem_of_getElem? (i := 1453) (by decide +kernel)⟩
theorem lw_p49 : lw_okq (⟨"FarCellsModel", "wanted", "(I)I"⟩, 65) := ⟨⟨by decide +kernel, by decide +kernel⟩, List.mem_of_getElem? (i := 1092) (by decide +kernel), List.mem_of_getElem? (i := 1456) (by decide +kernel), List.mem_of_getElem? (i := 1457) (by decide +kernel)⟩
theorem lw_p50 : lw_okq (⟨"FarCellsModel", "pays", "(II)Z"⟩, 65) := ⟨⟨by decide +kernel, by decide +kernel⟩, List.mem_of_getElem? (i := 1092) (by decide +kernel), List.mem_of_getElem? (i := 1460) (by decide +kernel), List.mem_of_getElem? (i := 1461) (by decide +kernel)⟩
theorem lw_p51 : lw_okq (⟨"FarCellsModel", "copied", "(IIZ)I"⟩, 65) := ⟨⟨by decide +kernel, by decide +kernel⟩, List.mem_of_getElem? (i := 1092) (by decide +kernel), List.mem_of_getElem? (i := 1464) (by decide +kernel), List.mem_of_getElem? (i := 1465) (by decide +kernel)⟩
theorem lw_p52 : lw_okq (⟨"FarCellsModel", "countBits", "(I)I"⟩, 65) := ⟨⟨by decide +kernel, by decide +kernel⟩, List.mem_of_getElem? (i := 1092) (by decide +kernel), List.mem_of_getElem? (i := 1468) (by decide +kernel), List.mem_of_getElem? (i := 1469) (by decide +kernel)⟩
theorem lw_p53 : lw_okq (⟨"FarCellsModel", "note", "(IIIII)V"⟩, 65) := ⟨⟨by decide +kernel, by decide +kernel⟩, List.mem_of_getElem? (i := 1092) (by decide +kernel), List.mem_of_getElem? (i := 1472) (by decide +kernel), List.mem_of_getElem? (i := 1473) (by decide +kernel)⟩
theorem lw_p54 : lw_okq (⟨"FarCellsModel", "finish", "()V"⟩, 65) := ⟨⟨by decide +kernel, by decide +kernel⟩, List.mem_of_getElem? (i := 1092) (by decide +kernel), List.mem_of_getElem? (i := 1476) (by decide +kernel), List.mem_of_getElem? (i := 1477) (by decide +kernel)⟩
theorem lw_p55 : lw_okq (⟨"FarCellsModel", "queuePlace", "(I)I"⟩, 65) := ⟨⟨by decide +kernel, by decide +kernel⟩, List.mem_of_getElem? (i := 1092) (by decide +kernel), List.mem_of_getElem? (i := 1496) (by decide +kernel), List.mem_of_getElem? (i := 1497) (by decide +kernel)⟩
theorem lw_p56 : lw_okq (⟨"FarCellsModel", "beginOther", "()V"⟩, 65) := ⟨⟨by decide +kernel, by decide +kernel⟩, List.mem_of_getElem? (i := 1092) (by decide +kernel), List.mem_of_getElem? (i := 1529) (by decide +kernel), List.mem_of_getElem? (i := 1530) (by decide +kernel)⟩
theorem lw_p57 : lw_okq (⟨"FarCellsModel", "weightOf", "(I)I"⟩, 65) := ⟨⟨by decide +kernel, by decide +kernel⟩, List.mem_of_getElem? (i := 1092) (by decide +kernel), List.mem_of_getElem? (i := 1548) (by decide +kernel), List.mem_of_getElem? (i := 1549) (by decide +kernel)⟩
theorem lw_p58 : lw_okq (⟨"FarCellsModel", "hasPlaces", "(III)Z"⟩, 65) := ⟨⟨by decide +kernel, by decide +kernel⟩, List.mem_of_getElem? (i := 1092) (by decide +kernel), List.mem_of_getElem? (i := 1564) (by decide +kernel), List.mem_of_getElem? (i := 1565) (by decide +kernel)⟩
theorem lw_p59 : lw_okq (⟨"FarCellsModel", "denied", "(I)I"⟩, 65) := ⟨⟨by decide +kernel, by decide +kernel⟩, List.mem_of_getElem? (i := 1092) (by decide +kernel), List.mem_of_getElem? (i := 1572) (by decide +kernel), List.mem_of_getElem? (i := 1573) (by decide +kernel)⟩
def lw_privs_4 : List (MethodName × Nat) := [(⟨"FarCellsModel", "keepFault", "(II)V"⟩, 65), (⟨"FarCellsModel", "wanted", "(I)I"⟩, 65), (⟨"FarCellsModel", "pays", "(II)Z"⟩, 65), (⟨"FarCellsModel", "copied", "(IIZ)I"⟩, 65), (⟨"FarCellsModel", "countBits", "(I)I"⟩, 65), (⟨"FarCellsModel", "note", "(IIIII)V"⟩, 65), (⟨"FarCellsModel", "finish", "()V"⟩, 65), (⟨"FarCellsModel", "queuePlace", "(I)I"⟩, 65), (⟨"FarCellsModel", "beginOther", "()V"⟩, 65), (⟨"FarCellsModel", "weightOf", "(I)I"⟩, 65), (⟨"FarCellsModel", "hasPlaces", "(III)Z"⟩, 65), (⟨"FarCellsModel", "denied", "(I)I"⟩, 65)]
theorem lw_r4 : ∀ q ∈ lw_privs_4, lw_okq q := List.forall_mem_cons.mpr ⟨lw_p48, List.forall_mem_cons.mpr ⟨lw_p49, List.forall_mem_cons.mpr ⟨lw_p50, List.forall_mem_cons.mpr ⟨lw_p51, List.forall_mem_cons.mpr ⟨lw_p52, List.forall_mem_cons.mpr ⟨lw_p53, List.forall_mem_cons.mpr ⟨lw_p54, List.forall_mem_cons.mpr ⟨lw_p55, List.forall_mem_cons.mpr ⟨lw_p56, List.forall_mem_cons.mpr ⟨lw_p57, List.forall_mem_cons.mpr ⟨lw_p58, List.forall_mem_cons.mpr ⟨lw_p59, fun _ h => absurd h List.not_mem_nil⟩⟩⟩⟩⟩⟩⟩⟩⟩⟩⟩⟩
def lw_privs : List (MethodName × Nat) := lw_privs_1 ++ (lw_privs_2 ++ (lw_privs_3 ++ (lw_privs_4)))
def lw_tbl : List Cond := k2_sels lw_privs ++ tables_1
theorem lw_privs_ok : ∀ q ∈ lw_privs, lw_okq q := by
  show ∀ q ∈ lw_privs_1 ++ (lw_privs_2 ++ (lw_privs_3 ++ (lw_privs_4))), lw_okq q
  exact List.forall_mem_append.mpr ⟨lw_r1, List.forall_mem_append.mpr ⟨lw_r2, List.forall_mem_append.mpr ⟨lw_r3, lw_r4⟩⟩⟩
end
section
def RX0 : String := "FarCells$Attempt"
def TX0 : u_T := fun k => match k with
  | 0 => ("FarCells$Attempt", "thread", "I", false)
  | 1 => ("FarCells$Attempt", "node", "I", false)
  | 2 => ("FarCells$Attempt", "page", "I", false)
  | 3 => ("FarCells$Attempt", "cell", "I", false)
  | 4 => ("FarCells$Attempt", "writes", "Z", false)
  | 5 => ("FarCells$Attempt", "value", "I", false)
  | 6 => ("FarCells$Attempt", "where", "I", false)
  | 7 => ("FarCells$Attempt", "cost", "I", false)
  | 8 => ("FarCells$Attempt", "faulted", "Z", false)
  | _ => ("FarCells$Attempt", "moved", "Z", false)
def tyX0 : Nat → FieldType := fun k => match k with
  | 0 => .int
  | 1 => .int
  | 2 => .int
  | 3 => .int
  | 4 => .boolean
  | 5 => .int
  | 6 => .int
  | 7 => .int
  | 8 => .boolean
  | _ => .boolean
theorem nmX0 : ∀ a, a < 10 → ∀ b, b < 10 → a ≠ b → (TX0 a).2.1 ≠ (TX0 b).2.1 := by decide +kernel
theorem tyX0_ok : ∀ k, k < 10 → parseFieldDescriptor (TX0 k).2.2.1 = some (tyX0 k) := by decide +kernel
abbrev cX0_init : ByteArray := prog_2_method_1_code
def yX0_init : MethodName := ⟨RX0, "<init>", "()V"⟩
abbrev cX0_begin : ByteArray := prog_2_method_2_code
def yX0_begin : MethodName := ⟨RX0, "begin", "(ILFarCells$Worker;)V"⟩
def RX1 : String := "FarCells$Board"
def TX1 : u_T := fun k => match k with
  | 0 => ("FarCells$Board", "nodes", "I", true)
  | 1 => ("FarCells$Board", "processors", "I", true)
  | 2 => ("FarCells$Board", "room", "I", true)
  | 3 => ("FarCells$Board", "price", "[I", true)
  | 4 => ("FarCells$Board", "width", "[I", true)
  | 5 => ("FarCells$Board", "sums", "[I", true)
  | _ => ("FarCells$Board", "hops", "[I", true)
def tyX1 : Nat → FieldType := fun k => match k with
  | 0 => .int
  | 1 => .int
  | 2 => .int
  | 3 => .array .int
  | 4 => .array .int
  | 5 => .array .int
  | _ => .array .int
theorem nmX1 : ∀ a, a < 7 → ∀ b, b < 7 → a ≠ b → (TX1 a).2.1 ≠ (TX1 b).2.1 := by decide +kernel
theorem tyX1_ok : ∀ k, k < 7 → parseFieldDescriptor (TX1 k).2.2.1 = some (tyX1 k) := by decide +kernel
abbrev cX1_init : ByteArray := prog_3_method_1_code
def yX1_init : MethodName := ⟨RX1, "<init>", "(III)V"⟩
abbrev cX1_has : ByteArray := prog_3_method_2_code
def yX1_has : MethodName := ⟨RX1, "has", "(I)Z"⟩
abbrev cX1_joins : ByteArray := prog_3_method_3_code
def yX1_joins : MethodName := ⟨RX1, "joins", "(II)Z"⟩
abbrev cX1_edge : ByteArray := prog_3_method_4_code
def yX1_edge : MethodName := ⟨RX1, "edge", "(II)I"⟩
abbrev cX1_setLink : ByteArray := prog_3_method_5_code
def yX1_setLink : MethodName := ⟨RX1, "setLink", "(IIII)V"⟩
abbrev cX1_distance : ByteArray := prog_3_method_6_code
def yX1_distance : MethodName := ⟨RX1, "distance", "(II)I"⟩
abbrev cX1_reaches : ByteArray := prog_3_method_7_code
def yX1_reaches : MethodName := ⟨RX1, "reaches", "(II)Z"⟩
abbrev cX1_nextNode : ByteArray := prog_3_method_8_code
def yX1_nextNode : MethodName := ⟨RX1, "nextNode", "(II)I"⟩
abbrev cX1_measure : ByteArray := prog_3_method_9_code
def yX1_measure : MethodName := ⟨RX1, "measure", "()V"⟩
abbrev cX1_direct : ByteArray := prog_3_method_10_code
def yX1_direct : MethodName := ⟨RX1, "direct", "(II)I"⟩
abbrev cX1_shortenOver : ByteArray := prog_3_method_11_code
def yX1_shortenOver : MethodName := ⟨RX1, "shortenOver", "(I)V"⟩
abbrev cX1_leastHop : ByteArray := prog_3_method_12_code
def yX1_leastHop : MethodName := ⟨RX1, "leastHop", "(II)I"⟩
def RX2 : String := "FarCells$Journal"
def TX2 : u_T := fun k => match k with
  | 0 => ("FarCells$Journal", "capacity", "I", true)
  | 1 => ("FarCells$Journal", "entries", "[I", true)
  | 2 => ("FarCells$Journal", "size", "I", false)
  | 3 => ("FarCells$Journal", "sums", "[I", true)
  | _ => ("FarCells$Journal", "memory", "[I", true)
def tyX2 : Nat → FieldType := fun k => match k with
  | 0 => .int
  | 1 => .array .int
  | 2 => .int
  | 3 => .array .int
  | _ => .array .int
theorem nmX2 : ∀ a, a < 5 → ∀ b, b < 5 → a ≠ b → (TX2 a).2.1 ≠ (TX2 b).2.1 := by decide +kernel
theorem tyX2_ok : ∀ k, k < 5 → parseFieldDescriptor (TX2 k).2.2.1 = some (tyX2 k) := by decide +kernel
abbrev cX2_init : ByteArray := prog_4_method_1_code
def yX2_init : MethodName := ⟨RX2, "<init>", "(I)V"⟩
abbrev cX2_entry : ByteArray := prog_4_method_2_code
def yX2_entry : MethodName := ⟨RX2, "entry", "(II)I"⟩
abbrev cX2_note : ByteArray := prog_4_method_3_code
def yX2_note : MethodName := ⟨RX2, "note", "(ILFarCells$Attempt;)V"⟩
abbrev cX2_costAboveNearest : ByteArray := prog_4_method_4_code
def yX2_costAboveNearest : MethodName := ⟨RX2, "costAboveNearest", "(I)I"⟩
abbrev cX2_leastSum : ByteArray := prog_4_method_5_code
def yX2_leastSum : MethodName := ⟨RX2, "leastSum", "(ILFarCells$Board;I)I"⟩
abbrev cX2_addAccess : ByteArray := prog_4_method_6_code
def yX2_addAccess : MethodName := ⟨RX2, "addAccess", "(ILFarCells$Board;I)V"⟩
abbrev cX2_leastOf : ByteArray := prog_4_method_7_code
def yX2_leastOf : MethodName := ⟨RX2, "leastOf", "(I)I"⟩
abbrev cX2_endsAlike : ByteArray := prog_4_method_8_code
def yX2_endsAlike : MethodName := ⟨RX2, "endsAlike", "([LFarCells$Page;I)Z"⟩
abbrev cX2_replay : ByteArray := prog_4_method_9_code
def yX2_replay : MethodName := ⟨RX2, "replay", "()V"⟩
def RX3 : String := "FarCells$Machine"
def TX3 : u_T := fun k => match k with
  | 0 => ("FarCells$Machine", "board", "LFarCells$Board;", true)
  | 1 => ("FarCells$Machine", "traffic", "LFarCells$Traffic;", true)
  | 2 => ("FarCells$Machine", "queues", "LFarCells$Queues;", true)
  | 3 => ("FarCells$Machine", "rules", "LFarCells$Rules;", true)
  | 4 => ("FarCells$Machine", "journal", "LFarCells$Journal;", true)
  | 5 => ("FarCells$Machine", "attempt", "LFarCells$Attempt;", true)
  | 6 => ("FarCells$Machine", "pages", "[LFarCells$Page;", true)
  | 7 => ("FarCells$Machine", "workers", "[LFarCells$Worker;", true)
  | 8 => ("FarCells$Machine", "taken", "[I", true)
  | 9 => ("FarCells$Machine", "nodeBills", "[I", true)
  | 10 => ("FarCells$Machine", "pageCount", "I", false)
  | 11 => ("FarCells$Machine", "workerCount", "I", false)
  | 12 => ("FarCells$Machine", "turns", "I", false)
  | 13 => ("FarCells$Machine", "tick", "I", false)
  | 14 => ("FarCells$Machine", "went", "I", false)
  | 15 => ("FarCells$Machine", "cost", "I", false)
  | 16 => ("FarCells$Machine", "faults", "I", false)
  | 17 => ("FarCells$Machine", "moves", "I", false)
  | _ => ("FarCells$Machine", "failed", "I", false)
def tyX3 : Nat → FieldType := fun k => match k with
  | 0 => .object "FarCells$Board"
  | 1 => .object "FarCells$Traffic"
  | 2 => .object "FarCells$Queues"
  | 3 => .object "FarCells$Rules"
  | 4 => .object "FarCells$Journal"
  | 5 => .object "FarCells$Attempt"
  | 6 => .array (.object "FarCells$Page")
  | 7 => .array (.object "FarCells$Worker")
  | 8 => .array .int
  | 9 => .array .int
  | 10 => .int
  | 11 => .int
  | 12 => .int
  | 13 => .int
  | 14 => .int
  | 15 => .int
  | 16 => .int
  | 17 => .int
  | _ => .int
theorem nmX3 : ∀ a, a < 19 → ∀ b, b < 19 → a ≠ b → (TX3 a).2.1 ≠ (TX3 b).2.1 := by decide +kernel
theorem tyX3_ok : ∀ k, k < 19 → parseFieldDescriptor (TX3 k).2.2.1 = some (tyX3 k) := by decide +kernel
abbrev cX3_init : ByteArray := prog_5_method_1_code
def yX3_init : MethodName := ⟨RX3, "<init>", "(LFarCells$Board;[LFarCells$Script;I)V"⟩
abbrev cX3_beginLike : ByteArray := prog_5_method_2_code
def yX3_beginLike : MethodName := ⟨RX3, "beginLike", "(LFarCells$Machine;)V"⟩
abbrev cX3_hasPage : ByteArray := prog_5_method_3_code
def yX3_hasPage : MethodName := ⟨RX3, "hasPage", "(I)Z"⟩
abbrev cX3_hasWorker : ByteArray := prog_5_method_4_code
def yX3_hasWorker : MethodName := ⟨RX3, "hasWorker", "(I)Z"⟩
abbrev cX3_addPage : ByteArray := prog_5_method_5_code
def yX3_addPage : MethodName := ⟨RX3, "addPage", "(I)I"⟩
abbrev cX3_addWorker : ByteArray := prog_5_method_6_code
def yX3_addWorker : MethodName := ⟨RX3, "addWorker", "(I)I"⟩
abbrev cX3_freeProcessors : ByteArray := prog_5_method_7_code
def yX3_freeProcessors : MethodName := ⟨RX3, "freeProcessors", "(I)I"⟩
abbrev cX3_hasRoom : ByteArray := prog_5_method_8_code
def yX3_hasRoom : MethodName := ⟨RX3, "hasRoom", "(I)Z"⟩
abbrev cX3_fits : ByteArray := prog_5_method_9_code
def yX3_fits : MethodName := ⟨RX3, "fits", "(LFarCells$Page;I)Z"⟩
abbrev cX3_allHaveRoom : ByteArray := prog_5_method_10_code
def yX3_allHaveRoom : MethodName := ⟨RX3, "allHaveRoom", "()Z"⟩
abbrev cX3_lay : ByteArray := prog_5_method_11_code
def yX3_lay : MethodName := ⟨RX3, "lay", "(LFarCells$Page;I)V"⟩
abbrev cX3_doTick : ByteArray := prog_5_method_12_code
def yX3_doTick : MethodName := ⟨RX3, "doTick", "()V"⟩
abbrev cX3_serve : ByteArray := prog_5_method_13_code
def yX3_serve : MethodName := ⟨RX3, "serve", "(I)V"⟩
abbrev cX3_finishAccesses : ByteArray := prog_5_method_14_code
def yX3_finishAccesses : MethodName := ⟨RX3, "finishAccesses", "()V"⟩
abbrev cX3_hidePages : ByteArray := prog_5_method_15_code
def yX3_hidePages : MethodName := ⟨RX3, "hidePages", "()V"⟩
abbrev cX3_goes : ByteArray := prog_5_method_16_code
def yX3_goes : MethodName := ⟨RX3, "goes", "(I)Z"⟩
abbrev cX3_canBeReached : ByteArray := prog_5_method_17_code
def yX3_canBeReached : MethodName := ⟨RX3, "canBeReached", "()Z"⟩
abbrev cX3_placeByRule : ByteArray := prog_5_method_18_code
def yX3_placeByRule : MethodName := ⟨RX3, "placeByRule", "(LFarCells$Page;)Z"⟩
abbrev cX3_firstChoice : ByteArray := prog_5_method_19_code
def yX3_firstChoice : MethodName := ⟨RX3, "firstChoice", "()I"⟩
abbrev cX3_emptiest : ByteArray := prog_5_method_20_code
def yX3_emptiest : MethodName := ⟨RX3, "emptiest", "()I"⟩
abbrev cX3_nextWithRoom : ByteArray := prog_5_method_21_code
def yX3_nextWithRoom : MethodName := ⟨RX3, "nextWithRoom", "(I)I"⟩
abbrev cX3_perform : ByteArray := prog_5_method_22_code
def yX3_perform : MethodName := ⟨RX3, "perform", "(LFarCells$Page;LFarCells$Worker;)V"⟩
abbrev cX3_takeFault : ByteArray := prog_5_method_23_code
def yX3_takeFault : MethodName := ⟨RX3, "takeFault", "(LFarCells$Page;)V"⟩
abbrev cX3_moveIfItPays : ByteArray := prog_5_method_24_code
def yX3_moveIfItPays : MethodName := ⟨RX3, "moveIfItPays", "(LFarCells$Page;)V"⟩
abbrev cX3_bringCopy : ByteArray := prog_5_method_25_code
def yX3_bringCopy : MethodName := ⟨RX3, "bringCopy", "(LFarCells$Page;)I"⟩
abbrev cX3_endCopies : ByteArray := prog_5_method_26_code
def yX3_endCopies : MethodName := ⟨RX3, "endCopies", "(LFarCells$Page;)I"⟩
abbrev cX3_enterInBills : ByteArray := prog_5_method_27_code
def yX3_enterInBills : MethodName := ⟨RX3, "enterInBills", "(LFarCells$Page;LFarCells$Worker;)V"⟩
def RX4 : String := "FarCells$Page"
def TX4 : u_T := fun k => match k with
  | 0 => ("FarCells$Page", "cells", "[I", true)
  | 1 => ("FarCells$Page", "faults", "[I", true)
  | 2 => ("FarCells$Page", "kind", "I", false)
  | 3 => ("FarCells$Page", "home", "I", false)
  | 4 => ("FarCells$Page", "copies", "I", false)
  | 5 => ("FarCells$Page", "faultCount", "I", false)
  | 6 => ("FarCells$Page", "moves", "I", false)
  | 7 => ("FarCells$Page", "bill", "I", false)
  | _ => ("FarCells$Page", "hidden", "Z", false)
def tyX4 : Nat → FieldType := fun k => match k with
  | 0 => .array .int
  | 1 => .array .int
  | 2 => .int
  | 3 => .int
  | 4 => .int
  | 5 => .int
  | 6 => .int
  | 7 => .int
  | _ => .boolean
theorem nmX4 : ∀ a, a < 9 → ∀ b, b < 9 → a ≠ b → (TX4 a).2.1 ≠ (TX4 b).2.1 := by decide +kernel
theorem tyX4_ok : ∀ k, k < 9 → parseFieldDescriptor (TX4 k).2.2.1 = some (tyX4 k) := by decide +kernel
abbrev cX4_init : ByteArray := prog_6_method_1_code
def yX4_init : MethodName := ⟨RX4, "<init>", "()V"⟩
abbrev cX4_begin : ByteArray := prog_6_method_2_code
def yX4_begin : MethodName := ⟨RX4, "begin", "(I)V"⟩
abbrev cX4_hasCopyOn : ByteArray := prog_6_method_3_code
def yX4_hasCopyOn : MethodName := ⟨RX4, "hasCopyOn", "(I)Z"⟩
abbrev cX4_whereFor : ByteArray := prog_6_method_4_code
def yX4_whereFor : MethodName := ⟨RX4, "whereFor", "(III)I"⟩
abbrev cX4_noteFault : ByteArray := prog_6_method_5_code
def yX4_noteFault : MethodName := ⟨RX4, "noteFault", "(I)V"⟩
abbrev cX4_wanted : ByteArray := prog_6_method_6_code
def yX4_wanted : MethodName := ⟨RX4, "wanted", "()I"⟩
abbrev cX4_faultsOf : ByteArray := prog_6_method_7_code
def yX4_faultsOf : MethodName := ⟨RX4, "faultsOf", "(I)I"⟩
abbrev cX4_savingAt : ByteArray := prog_6_method_8_code
def yX4_savingAt : MethodName := ⟨RX4, "savingAt", "(ILFarCells$Board;)I"⟩
def RX5 : String := "FarCells$Queues"
def TX5 : u_T := fun k => match k with
  | 0 => ("FarCells$Queues", "order", "[I", true)
  | _ => ("FarCells$Queues", "size", "[I", true)
def tyX5 : Nat → FieldType := fun k => match k with
  | 0 => .array .int
  | _ => .array .int
theorem nmX5 : ∀ a, a < 2 → ∀ b, b < 2 → a ≠ b → (TX5 a).2.1 ≠ (TX5 b).2.1 := by decide +kernel
theorem tyX5_ok : ∀ k, k < 2 → parseFieldDescriptor (TX5 k).2.2.1 = some (tyX5 k) := by decide +kernel
abbrev cX5_init : ByteArray := prog_7_method_1_code
def yX5_init : MethodName := ⟨RX5, "<init>", "()V"⟩
abbrev cX5_begin : ByteArray := prog_7_method_2_code
def yX5_begin : MethodName := ⟨RX5, "begin", "()V"⟩
abbrev cX5_at : ByteArray := prog_7_method_3_code
def yX5_at : MethodName := ⟨RX5, "at", "(II)I"⟩
abbrev cX5_append : ByteArray := prog_7_method_4_code
def yX5_append : MethodName := ⟨RX5, "append", "(II)V"⟩
abbrev cX5_placeOf : ByteArray := prog_7_method_5_code
def yX5_placeOf : MethodName := ⟨RX5, "placeOf", "(II)I"⟩
abbrev cX5_drop : ByteArray := prog_7_method_6_code
def yX5_drop : MethodName := ⟨RX5, "drop", "(II)V"⟩
abbrev cX5_exchange : ByteArray := prog_7_method_7_code
def yX5_exchange : MethodName := ⟨RX5, "exchange", "(IIII)V"⟩
def RX6 : String := "FarCells$Rules"
def TX6 : u_T := fun k => match k with
  | 0 => ("FarCells$Rules", "placing", "I", false)
  | 1 => ("FarCells$Rules", "every", "I", false)
  | 2 => ("FarCells$Rules", "gain", "I", false)
  | 3 => ("FarCells$Rules", "faultPrice", "I", false)
  | _ => ("FarCells$Rules", "movePrice", "I", false)
def tyX6 : Nat → FieldType := fun k => match k with
  | 0 => .int
  | 1 => .int
  | 2 => .int
  | 3 => .int
  | _ => .int
theorem nmX6 : ∀ a, a < 5 → ∀ b, b < 5 → a ≠ b → (TX6 a).2.1 ≠ (TX6 b).2.1 := by decide +kernel
theorem tyX6_ok : ∀ k, k < 5 → parseFieldDescriptor (TX6 k).2.2.1 = some (tyX6 k) := by decide +kernel
abbrev cX6_init : ByteArray := prog_8_method_1_code
def yX6_init : MethodName := ⟨RX6, "<init>", "()V"⟩
abbrev cX6_choose : ByteArray := prog_8_method_2_code
def yX6_choose : MethodName := ⟨RX6, "choose", "(III)V"⟩
abbrev cX6_setPrices : ByteArray := prog_8_method_3_code
def yX6_setPrices : MethodName := ⟨RX6, "setPrices", "(II)V"⟩
def RX7 : String := "FarCells$Script"
def TX7 : u_T := fun k => match k with
  | 0 => ("FarCells$Script", "pages", "[I", true)
  | 1 => ("FarCells$Script", "cells", "[I", true)
  | 2 => ("FarCells$Script", "writes", "[Z", true)
  | 3 => ("FarCells$Script", "values", "[I", true)
  | _ => ("FarCells$Script", "told", "I", false)
def tyX7 : Nat → FieldType := fun k => match k with
  | 0 => .array .int
  | 1 => .array .int
  | 2 => .array .boolean
  | 3 => .array .int
  | _ => .int
theorem nmX7 : ∀ a, a < 5 → ∀ b, b < 5 → a ≠ b → (TX7 a).2.1 ≠ (TX7 b).2.1 := by decide +kernel
theorem tyX7_ok : ∀ k, k < 5 → parseFieldDescriptor (TX7 k).2.2.1 = some (tyX7 k) := by decide +kernel
abbrev cX7_init : ByteArray := prog_9_method_1_code
def yX7_init : MethodName := ⟨RX7, "<init>", "()V"⟩
abbrev cX7_tell : ByteArray := prog_9_method_2_code
def yX7_tell : MethodName := ⟨RX7, "tell", "(IIZI)I"⟩
def RX8 : String := "FarCells$Shelf"
def TX8 : u_T := fun k => match k with
  | 0 => ("FarCells$Shelf", "bytes", "[B", true)
  | 1 => ("FarCells$Shelf", "ints", "[I", true)
  | 2 => ("FarCells$Shelf", "what", "I", false)
  | 3 => ("FarCells$Shelf", "size", "I", false)
  | 4 => ("FarCells$Shelf", "number", "I", false)
  | 5 => ("FarCells$Shelf", "kind", "I", false)
  | 6 => ("FarCells$Shelf", "copies", "I", false)
  | _ => ("FarCells$Shelf", "home", "I", false)
def tyX8 : Nat → FieldType := fun k => match k with
  | 0 => .array .byte
  | 1 => .array .int
  | 2 => .int
  | 3 => .int
  | 4 => .int
  | 5 => .int
  | 6 => .int
  | _ => .int
theorem nmX8 : ∀ a, a < 8 → ∀ b, b < 8 → a ≠ b → (TX8 a).2.1 ≠ (TX8 b).2.1 := by decide +kernel
theorem tyX8_ok : ∀ k, k < 8 → parseFieldDescriptor (TX8 k).2.2.1 = some (tyX8 k) := by decide +kernel
abbrev cX8_init : ByteArray := prog_10_method_1_code
def yX8_init : MethodName := ⟨RX8, "<init>", "()V"⟩
abbrev cX8_holdPage : ByteArray := prog_10_method_2_code
def yX8_holdPage : MethodName := ⟨RX8, "holdPage", "(ILFarCells$Page;)V"⟩
abbrev cX8_holdNodes : ByteArray := prog_10_method_3_code
def yX8_holdNodes : MethodName := ⟨RX8, "holdNodes", "([LFarCells$Worker;I)V"⟩
abbrev cX8_holdCells : ByteArray := prog_10_method_4_code
def yX8_holdCells : MethodName := ⟨RX8, "holdCells", "(LFarCells$Page;)V"⟩
abbrev cX8_holdZeros : ByteArray := prog_10_method_5_code
def yX8_holdZeros : MethodName := ⟨RX8, "holdZeros", "(II)V"⟩
abbrev cX8_isRow : ByteArray := prog_10_method_6_code
def yX8_isRow : MethodName := ⟨RX8, "isRow", "()Z"⟩
abbrev cX8_hasStretch : ByteArray := prog_10_method_7_code
def yX8_hasStretch : MethodName := ⟨RX8, "hasStretch", "(II)Z"⟩
abbrev cX8_heaviness : ByteArray := prog_10_method_8_code
def yX8_heaviness : MethodName := ⟨RX8, "heaviness", "()I"⟩
abbrev cX8_throwFailure : ByteArray := prog_10_method_9_code
def yX8_throwFailure : MethodName := ⟨RX8, "throwFailure", "()V"⟩
def RX9 : String := "FarCells$Traffic"
def TX9 : u_T := fun k => match k with
  | 0 => ("FarCells$Traffic", "board", "LFarCells$Board;", true)
  | 1 => ("FarCells$Traffic", "carried", "[I", true)
  | 2 => ("FarCells$Traffic", "waits", "[I", true)
  | _ => ("FarCells$Traffic", "inTick", "[I", true)
def tyX9 : Nat → FieldType := fun k => match k with
  | 0 => .object "FarCells$Board"
  | 1 => .array .int
  | 2 => .array .int
  | _ => .array .int
theorem nmX9 : ∀ a, a < 4 → ∀ b, b < 4 → a ≠ b → (TX9 a).2.1 ≠ (TX9 b).2.1 := by decide +kernel
theorem tyX9_ok : ∀ k, k < 4 → parseFieldDescriptor (TX9 k).2.2.1 = some (tyX9 k) := by decide +kernel
abbrev cX9_init : ByteArray := prog_11_method_1_code
def yX9_init : MethodName := ⟨RX9, "<init>", "(LFarCells$Board;)V"⟩
abbrev cX9_begin : ByteArray := prog_11_method_2_code
def yX9_begin : MethodName := ⟨RX9, "begin", "()V"⟩
abbrev cX9_openTick : ByteArray := prog_11_method_3_code
def yX9_openTick : MethodName := ⟨RX9, "openTick", "()V"⟩
abbrev cX9_holdsUp : ByteArray := prog_11_method_4_code
def yX9_holdsUp : MethodName := ⟨RX9, "holdsUp", "(II)Z"⟩
abbrev cX9_carry : ByteArray := prog_11_method_5_code
def yX9_carry : MethodName := ⟨RX9, "carry", "(II)V"⟩
def RX10 : String := "FarCells$Worker"
def TX10 : u_T := fun k => match k with
  | 0 => ("FarCells$Worker", "script", "LFarCells$Script;", true)
  | 1 => ("FarCells$Worker", "node", "I", false)
  | 2 => ("FarCells$Worker", "gone", "I", false)
  | 3 => ("FarCells$Worker", "toGo", "I", false)
  | 4 => ("FarCells$Worker", "waits", "I", false)
  | 5 => ("FarCells$Worker", "bill", "I", false)
  | 6 => ("FarCells$Worker", "lastRead", "I", false)
  | _ => ("FarCells$Worker", "ended", "Z", false)
def tyX10 : Nat → FieldType := fun k => match k with
  | 0 => .object "FarCells$Script"
  | 1 => .int
  | 2 => .int
  | 3 => .int
  | 4 => .int
  | 5 => .int
  | 6 => .int
  | _ => .boolean
theorem nmX10 : ∀ a, a < 8 → ∀ b, b < 8 → a ≠ b → (TX10 a).2.1 ≠ (TX10 b).2.1 := by decide +kernel
theorem tyX10_ok : ∀ k, k < 8 → parseFieldDescriptor (TX10 k).2.2.1 = some (tyX10 k) := by decide +kernel
abbrev cX10_init : ByteArray := prog_12_method_1_code
def yX10_init : MethodName := ⟨RX10, "<init>", "(LFarCells$Script;)V"⟩
abbrev cX10_begin : ByteArray := prog_12_method_2_code
def yX10_begin : MethodName := ⟨RX10, "begin", "(I)V"⟩
abbrev cX10_left : ByteArray := prog_12_method_3_code
def yX10_left : MethodName := ⟨RX10, "left", "()I"⟩
abbrev cX10_isReady : ByteArray := prog_12_method_4_code
def yX10_isReady : MethodName := ⟨RX10, "isReady", "()Z"⟩
def RX11 : String := "FarCells"
def TX11 : u_T := fun k => match k with
  | 0 => ("FarCells", "board", "LFarCells$Board;", true)
  | 1 => ("FarCells", "machine", "LFarCells$Machine;", true)
  | 2 => ("FarCells", "trial", "LFarCells$Machine;", true)
  | _ => ("FarCells", "shelves", "[LFarCells$Shelf;", true)
def tyX11 : Nat → FieldType := fun k => match k with
  | 0 => .object "FarCells$Board"
  | 1 => .object "FarCells$Machine"
  | 2 => .object "FarCells$Machine"
  | _ => .array (.object "FarCells$Shelf")
theorem nmX11 : ∀ a, a < 4 → ∀ b, b < 4 → a ≠ b → (TX11 a).2.1 ≠ (TX11 b).2.1 := by decide +kernel
theorem tyX11_ok : ∀ k, k < 4 → parseFieldDescriptor (TX11 k).2.2.1 = some (tyX11 k) := by decide +kernel
abbrev cX11_init : ByteArray := prog_1_method_1_code
def yX11_init : MethodName := ⟨RX11, "<init>", "(III)V"⟩
abbrev cX11_link : ByteArray := prog_1_method_2_code
def yX11_link : MethodName := ⟨RX11, "link", "(IIII)I"⟩
abbrev cX11_far : ByteArray := prog_1_method_3_code
def yX11_far : MethodName := ⟨RX11, "far", "(II)I"⟩
abbrev cX11_way : ByteArray := prog_1_method_4_code
def yX11_way : MethodName := ⟨RX11, "way", "(III)I"⟩
abbrev cX11_page : ByteArray := prog_1_method_5_code
def yX11_page : MethodName := ⟨RX11, "page", "(I)I"⟩
abbrev cX11_thread : ByteArray := prog_1_method_6_code
def yX11_thread : MethodName := ⟨RX11, "thread", "(I)I"⟩
abbrev cX11_access : ByteArray := prog_1_method_7_code
def yX11_access : MethodName := ⟨RX11, "access", "(IIIZI)I"⟩
abbrev cX11_rule : ByteArray := prog_1_method_8_code
def yX11_rule : MethodName := ⟨RX11, "rule", "(III)I"⟩
abbrev cX11_prices : ByteArray := prog_1_method_9_code
def yX11_prices : MethodName := ⟨RX11, "prices", "(II)I"⟩
abbrev cX11_place : ByteArray := prog_1_method_10_code
def yX11_place : MethodName := ⟨RX11, "place", "(II)I"⟩
abbrev cX11_settle : ByteArray := prog_1_method_11_code
def yX11_settle : MethodName := ⟨RX11, "settle", "(II)I"⟩
abbrev cX11_swap : ByteArray := prog_1_method_12_code
def yX11_swap : MethodName := ⟨RX11, "swap", "(II)I"⟩
abbrev cX11_run : ByteArray := prog_1_method_13_code
def yX11_run : MethodName := ⟨RX11, "run", "(I)I"⟩
abbrev cX11_look : ByteArray := prog_1_method_14_code
def yX11_look : MethodName := ⟨RX11, "look", "(II)I"⟩
abbrev cX11_fault : ByteArray := prog_1_method_15_code
def yX11_fault : MethodName := ⟨RX11, "fault", "(II)I"⟩
abbrev cX11_cell : ByteArray := prog_1_method_16_code
def yX11_cell : MethodName := ⟨RX11, "cell", "(II)I"⟩
abbrev cX11_about : ByteArray := prog_1_method_17_code
def yX11_about : MethodName := ⟨RX11, "about", "(II)I"⟩
abbrev cX11_read : ByteArray := prog_1_method_18_code
def yX11_read : MethodName := ⟨RX11, "read", "(I)I"⟩
abbrev cX11_node : ByteArray := prog_1_method_19_code
def yX11_node : MethodName := ⟨RX11, "node", "(II)I"⟩
abbrev cX11_linked : ByteArray := prog_1_method_20_code
def yX11_linked : MethodName := ⟨RX11, "linked", "(III)I"⟩
abbrev cX11_log : ByteArray := prog_1_method_21_code
def yX11_log : MethodName := ⟨RX11, "log", "(II)I"⟩
abbrev cX11_best : ByteArray := prog_1_method_22_code
def yX11_best : MethodName := ⟨RX11, "best", "(I)I"⟩
abbrev cX11_gap : ByteArray := prog_1_method_23_code
def yX11_gap : MethodName := ⟨RX11, "gap", "(I)I"⟩
abbrev cX11_other : ByteArray := prog_1_method_24_code
def yX11_other : MethodName := ⟨RX11, "other", "(IIII)I"⟩
abbrev cX11_same : ByteArray := prog_1_method_25_code
def yX11_same : MethodName := ⟨RX11, "same", "()I"⟩
abbrev cX11_count : ByteArray := prog_1_method_26_code
def yX11_count : MethodName := ⟨RX11, "count", "(I)I"⟩
abbrev cX11_keep : ByteArray := prog_1_method_27_code
def yX11_keep : MethodName := ⟨RX11, "keep", "(III)I"⟩
abbrev cX11_make : ByteArray := prog_1_method_28_code
def yX11_make : MethodName := ⟨RX11, "make", "(III)I"⟩
abbrev cX11_element : ByteArray := prog_1_method_29_code
def yX11_element : MethodName := ⟨RX11, "element", "(II)J"⟩
abbrev cX11_copy : ByteArray := prog_1_method_30_code
def yX11_copy : MethodName := ⟨RX11, "copy", "(IIIII)I"⟩
abbrev cX11_weight : ByteArray := prog_1_method_31_code
def yX11_weight : MethodName := ⟨RX11, "weight", "(I)I"⟩
abbrev cX11_toss : ByteArray := prog_1_method_32_code
def yX11_toss : MethodName := ⟨RX11, "toss", "(I)I"⟩
abbrev cX11_refusalOfPageOn : ByteArray := prog_1_method_33_code
def yX11_refusalOfPageOn : MethodName := ⟨RX11, "refusalOfPageOn", "(I)I"⟩
abbrev cX11_isShelf : ByteArray := prog_1_method_34_code
def yX11_isShelf : MethodName := ⟨RX11, "isShelf", "(I)Z"⟩
abbrev cX11_ruleIsAllowed : ByteArray := prog_1_method_35_code
def yX11_ruleIsAllowed : MethodName := ⟨RX11, "ruleIsAllowed", "(III)Z"⟩
abbrev cX11_within : ByteArray := prog_1_method_36_code
def yX11_within : MethodName := ⟨RX11, "within", "(III)Z"⟩
def RX12 : String := "FarCellsModel"
def TX12 : u_T := fun k => match k with
  | 0 => ("FarCellsModel", "thrown", "I", false)
  | 1 => ("FarCellsModel", "nodes", "I", true)
  | 2 => ("FarCellsModel", "processors", "I", true)
  | 3 => ("FarCellsModel", "room", "I", true)
  | 4 => ("FarCellsModel", "price", "[I", true)
  | 5 => ("FarCellsModel", "width", "[I", true)
  | 6 => ("FarCellsModel", "far", "[I", true)
  | 7 => ("FarCellsModel", "pages", "I", false)
  | 8 => ("FarCellsModel", "kind", "[I", true)
  | 9 => ("FarCellsModel", "threads", "I", false)
  | 10 => ("FarCellsModel", "told", "[I", true)
  | 11 => ("FarCellsModel", "aPage", "[I", true)
  | 12 => ("FarCellsModel", "aCell", "[I", true)
  | 13 => ("FarCellsModel", "aWrites", "[Z", true)
  | 14 => ("FarCellsModel", "aValue", "[I", true)
  | 15 => ("FarCellsModel", "faultPrice", "I", false)
  | 16 => ("FarCellsModel", "movePrice", "I", false)
  | 17 => ("FarCellsModel", "w", "I", false)
  | 18 => ("FarCellsModel", "placing", "[I", true)
  | 19 => ("FarCellsModel", "every", "[I", true)
  | 20 => ("FarCellsModel", "gain", "[I", true)
  | 21 => ("FarCellsModel", "tick", "[I", true)
  | 22 => ("FarCellsModel", "turns", "[I", true)
  | 23 => ("FarCellsModel", "went", "[I", true)
  | 24 => ("FarCellsModel", "cost", "[J", true)
  | 25 => ("FarCellsModel", "faults", "[I", true)
  | 26 => ("FarCellsModel", "moves", "[I", true)
  | 27 => ("FarCellsModel", "failed", "[I", true)
  | 28 => ("FarCellsModel", "stamps", "[I", true)
  | 29 => ("FarCellsModel", "lies", "[I", true)
  | 30 => ("FarCellsModel", "copies", "[I", true)
  | 31 => ("FarCellsModel", "hidden", "[Z", true)
  | 32 => ("FarCellsModel", "faultMany", "[I", true)
  | 33 => ("FarCellsModel", "faultNode", "[I", true)
  | 34 => ("FarCellsModel", "moved", "[I", true)
  | 35 => ("FarCellsModel", "pageBill", "[J", true)
  | 36 => ("FarCellsModel", "cell", "[I", true)
  | 37 => ("FarCellsModel", "at", "[I", true)
  | 38 => ("FarCellsModel", "stamp", "[I", true)
  | 39 => ("FarCellsModel", "next", "[I", true)
  | 40 => ("FarCellsModel", "toGo", "[I", true)
  | 41 => ("FarCellsModel", "waits", "[I", true)
  | 42 => ("FarCellsModel", "ended", "[Z", true)
  | 43 => ("FarCellsModel", "threadWent", "[I", true)
  | 44 => ("FarCellsModel", "threadBill", "[J", true)
  | 45 => ("FarCellsModel", "lastRead", "[I", true)
  | 46 => ("FarCellsModel", "tried", "[Z", true)
  | 47 => ("FarCellsModel", "nodeBill", "[J", true)
  | 48 => ("FarCellsModel", "linkNow", "[I", true)
  | 49 => ("FarCellsModel", "linkWent", "[I", true)
  | 50 => ("FarCellsModel", "linkWaits", "[I", true)
  | 51 => ("FarCellsModel", "logged", "I", false)
  | 52 => ("FarCellsModel", "log", "[I", true)
  | 53 => ("FarCellsModel", "logValue", "[I", true)
  | 54 => ("FarCellsModel", "didFault", "Z", false)
  | 55 => ("FarCellsModel", "didMove", "Z", false)
  | 56 => ("FarCellsModel", "sum", "[J", true)
  | 57 => ("FarCellsModel", "then", "[J", true)
  | 58 => ("FarCellsModel", "plain", "[I", true)
  | 59 => ("FarCellsModel", "shelf", "[I", true)
  | 60 => ("FarCellsModel", "shelfSize", "[I", true)
  | 61 => ("FarCellsModel", "shelfWeight", "[I", true)
  | 62 => ("FarCellsModel", "shelfFailure", "[I", true)
  | 63 => ("FarCellsModel", "shelfRow", "[I", true)
  | _ => ("FarCellsModel", "between", "[I", true)
def tyX12 : Nat → FieldType := fun k => match k with
  | 0 => .int
  | 1 => .int
  | 2 => .int
  | 3 => .int
  | 4 => .array .int
  | 5 => .array .int
  | 6 => .array .int
  | 7 => .int
  | 8 => .array .int
  | 9 => .int
  | 10 => .array .int
  | 11 => .array .int
  | 12 => .array .int
  | 13 => .array .boolean
  | 14 => .array .int
  | 15 => .int
  | 16 => .int
  | 17 => .int
  | 18 => .array .int
  | 19 => .array .int
  | 20 => .array .int
  | 21 => .array .int
  | 22 => .array .int
  | 23 => .array .int
  | 24 => .array .long
  | 25 => .array .int
  | 26 => .array .int
  | 27 => .array .int
  | 28 => .array .int
  | 29 => .array .int
  | 30 => .array .int
  | 31 => .array .boolean
  | 32 => .array .int
  | 33 => .array .int
  | 34 => .array .int
  | 35 => .array .long
  | 36 => .array .int
  | 37 => .array .int
  | 38 => .array .int
  | 39 => .array .int
  | 40 => .array .int
  | 41 => .array .int
  | 42 => .array .boolean
  | 43 => .array .int
  | 44 => .array .long
  | 45 => .array .int
  | 46 => .array .boolean
  | 47 => .array .long
  | 48 => .array .int
  | 49 => .array .int
  | 50 => .array .int
  | 51 => .int
  | 52 => .array .int
  | 53 => .array .int
  | 54 => .boolean
  | 55 => .boolean
  | 56 => .array .long
  | 57 => .array .long
  | 58 => .array .int
  | 59 => .array .int
  | 60 => .array .int
  | 61 => .array .int
  | 62 => .array .int
  | 63 => .array .int
  | _ => .array .int
theorem nmX12 : ∀ a, a < 65 → ∀ b, b < 65 → a ≠ b → (TX12 a).2.1 ≠ (TX12 b).2.1 := by decide +kernel
theorem tyX12_ok : ∀ k, k < 65 → parseFieldDescriptor (TX12 k).2.2.1 = some (tyX12 k) := by decide +kernel
abbrev cX12_init : ByteArray := prog_14_method_1_code
def yX12_init : MethodName := ⟨RX12, "<init>", "(III)V"⟩
abbrev cX12_mod : ByteArray := prog_14_method_2_code
def yX12_mod : MethodName := ⟨RX12, "mod", "(II)I"⟩
abbrev cX12_thrown : ByteArray := prog_14_method_3_code
def yX12_thrown : MethodName := ⟨RX12, "thrown", "()I"⟩
abbrev cX12_isIn : ByteArray := prog_14_method_4_code
def yX12_isIn : MethodName := ⟨RX12, "isIn", "(JJJ)Z"⟩
abbrev cX12_isNode : ByteArray := prog_14_method_5_code
def yX12_isNode : MethodName := ⟨RX12, "isNode", "(I)Z"⟩
abbrev cX12_isPage : ByteArray := prog_14_method_6_code
def yX12_isPage : MethodName := ⟨RX12, "isPage", "(I)Z"⟩
abbrev cX12_isThread : ByteArray := prog_14_method_7_code
def yX12_isThread : MethodName := ⟨RX12, "isThread", "(I)Z"⟩
abbrev cX12_measure : ByteArray := prog_14_method_8_code
def yX12_measure : MethodName := ⟨RX12, "measure", "()V"⟩
abbrev cX12_areLinked : ByteArray := prog_14_method_9_code
def yX12_areLinked : MethodName := ⟨RX12, "areLinked", "(II)Z"⟩
abbrev cX12_link : ByteArray := prog_14_method_10_code
def yX12_link : MethodName := ⟨RX12, "link", "(IIII)I"⟩
abbrev cX12_isWay : ByteArray := prog_14_method_11_code
def yX12_isWay : MethodName := ⟨RX12, "isWay", "(II)Z"⟩
abbrev cX12_far : ByteArray := prog_14_method_12_code
def yX12_far : MethodName := ⟨RX12, "far", "(II)I"⟩
abbrev cX12_behind : ByteArray := prog_14_method_13_code
def yX12_behind : MethodName := ⟨RX12, "behind", "(II)I"⟩
abbrev cX12_way : ByteArray := prog_14_method_14_code
def yX12_way : MethodName := ⟨RX12, "way", "(III)I"⟩
abbrev cX12_page : ByteArray := prog_14_method_15_code
def yX12_page : MethodName := ⟨RX12, "page", "(I)I"⟩
abbrev cX12_thread : ByteArray := prog_14_method_16_code
def yX12_thread : MethodName := ⟨RX12, "thread", "(I)I"⟩
abbrev cX12_access : ByteArray := prog_14_method_17_code
def yX12_access : MethodName := ⟨RX12, "access", "(IIIZI)I"⟩
abbrev cX12_rule : ByteArray := prog_14_method_18_code
def yX12_rule : MethodName := ⟨RX12, "rule", "(III)I"⟩
abbrev cX12_prices : ByteArray := prog_14_method_19_code
def yX12_prices : MethodName := ⟨RX12, "prices", "(II)I"⟩
abbrev cX12_taken : ByteArray := prog_14_method_20_code
def yX12_taken : MethodName := ⟨RX12, "taken", "(I)I"⟩
abbrev cX12_hasRoom : ByteArray := prog_14_method_21_code
def yX12_hasRoom : MethodName := ⟨RX12, "hasRoom", "(I)Z"⟩
abbrev cX12_allHaveRoom : ByteArray := prog_14_method_22_code
def yX12_allHaveRoom : MethodName := ⟨RX12, "allHaveRoom", "()Z"⟩
abbrev cX12_place : ByteArray := prog_14_method_23_code
def yX12_place : MethodName := ⟨RX12, "place", "(II)I"⟩
abbrev cX12_settle : ByteArray := prog_14_method_24_code
def yX12_settle : MethodName := ⟨RX12, "settle", "(II)I"⟩
abbrev cX12_swap : ByteArray := prog_14_method_25_code
def yX12_swap : MethodName := ⟨RX12, "swap", "(II)I"⟩
abbrev cX12_emptiest : ByteArray := prog_14_method_26_code
def yX12_emptiest : MethodName := ⟨RX12, "emptiest", "()I"⟩
abbrev cX12_isPlaced : ByteArray := prog_14_method_27_code
def yX12_isPlaced : MethodName := ⟨RX12, "isPlaced", "(II)Z"⟩
abbrev cX12_where : ByteArray := prog_14_method_28_code
def yX12_where : MethodName := ⟨RX12, "where", "(III)I"⟩
abbrev cX12_crowded : ByteArray := prog_14_method_29_code
def yX12_crowded : MethodName := ⟨RX12, "crowded", "(II)I"⟩
abbrev cX12_useLinks : ByteArray := prog_14_method_30_code
def yX12_useLinks : MethodName := ⟨RX12, "useLinks", "(II)V"⟩
abbrev cX12_keepFault : ByteArray := prog_14_method_31_code
def yX12_keepFault : MethodName := ⟨RX12, "keepFault", "(II)V"⟩
abbrev cX12_wanted : ByteArray := prog_14_method_32_code
def yX12_wanted : MethodName := ⟨RX12, "wanted", "(I)I"⟩
abbrev cX12_pays : ByteArray := prog_14_method_33_code
def yX12_pays : MethodName := ⟨RX12, "pays", "(II)Z"⟩
abbrev cX12_faulted : ByteArray := prog_14_method_34_code
def yX12_faulted : MethodName := ⟨RX12, "faulted", "(II)I"⟩
abbrev cX12_countBits : ByteArray := prog_14_method_35_code
def yX12_countBits : MethodName := ⟨RX12, "countBits", "(I)I"⟩
abbrev cX12_copied : ByteArray := prog_14_method_36_code
def yX12_copied : MethodName := ⟨RX12, "copied", "(IIZ)I"⟩
abbrev cX12_fail : ByteArray := prog_14_method_37_code
def yX12_fail : MethodName := ⟨RX12, "fail", "(I)V"⟩
abbrev cX12_note : ByteArray := prog_14_method_38_code
def yX12_note : MethodName := ⟨RX12, "note", "(IIIII)V"⟩
abbrev cX12_tryNext : ByteArray := prog_14_method_39_code
def yX12_tryNext : MethodName := ⟨RX12, "tryNext", "(I)V"⟩
abbrev cX12_underWay : ByteArray := prog_14_method_40_code
def yX12_underWay : MethodName := ⟨RX12, "underWay", "(I)I"⟩
abbrev cX12_isReady : ByteArray := prog_14_method_41_code
def yX12_isReady : MethodName := ⟨RX12, "isReady", "(I)Z"⟩
abbrev cX12_first : ByteArray := prog_14_method_42_code
def yX12_first : MethodName := ⟨RX12, "first", "(I)I"⟩
abbrev cX12_finish : ByteArray := prog_14_method_43_code
def yX12_finish : MethodName := ⟨RX12, "finish", "()V"⟩
abbrev cX12_oneTick : ByteArray := prog_14_method_44_code
def yX12_oneTick : MethodName := ⟨RX12, "oneTick", "()V"⟩
abbrev cX12_run : ByteArray := prog_14_method_45_code
def yX12_run : MethodName := ⟨RX12, "run", "(I)I"⟩
abbrev cX12_look : ByteArray := prog_14_method_46_code
def yX12_look : MethodName := ⟨RX12, "look", "(II)I"⟩
abbrev cX12_fault : ByteArray := prog_14_method_47_code
def yX12_fault : MethodName := ⟨RX12, "fault", "(II)I"⟩
abbrev cX12_cell : ByteArray := prog_14_method_48_code
def yX12_cell : MethodName := ⟨RX12, "cell", "(II)I"⟩
abbrev cX12_queuePlace : ByteArray := prog_14_method_49_code
def yX12_queuePlace : MethodName := ⟨RX12, "queuePlace", "(I)I"⟩
abbrev cX12_about : ByteArray := prog_14_method_50_code
def yX12_about : MethodName := ⟨RX12, "about", "(II)I"⟩
abbrev cX12_read : ByteArray := prog_14_method_51_code
def yX12_read : MethodName := ⟨RX12, "read", "(I)I"⟩
abbrev cX12_node : ByteArray := prog_14_method_52_code
def yX12_node : MethodName := ⟨RX12, "node", "(II)I"⟩
abbrev cX12_linked : ByteArray := prog_14_method_53_code
def yX12_linked : MethodName := ⟨RX12, "linked", "(III)I"⟩
abbrev cX12_log : ByteArray := prog_14_method_54_code
def yX12_log : MethodName := ⟨RX12, "log", "(II)I"⟩
abbrev cX12_best : ByteArray := prog_14_method_55_code
def yX12_best : MethodName := ⟨RX12, "best", "(I)I"⟩
abbrev cX12_gap : ByteArray := prog_14_method_56_code
def yX12_gap : MethodName := ⟨RX12, "gap", "(I)I"⟩
abbrev cX12_beginOther : ByteArray := prog_14_method_57_code
def yX12_beginOther : MethodName := ⟨RX12, "beginOther", "()V"⟩
abbrev cX12_other : ByteArray := prog_14_method_58_code
def yX12_other : MethodName := ⟨RX12, "other", "(IIII)I"⟩
abbrev cX12_same : ByteArray := prog_14_method_59_code
def yX12_same : MethodName := ⟨RX12, "same", "()I"⟩
abbrev cX12_count : ByteArray := prog_14_method_60_code
def yX12_count : MethodName := ⟨RX12, "count", "(I)I"⟩
abbrev cX12_isShelf : ByteArray := prog_14_method_61_code
def yX12_isShelf : MethodName := ⟨RX12, "isShelf", "(I)Z"⟩
abbrev cX12_weightOf : ByteArray := prog_14_method_62_code
def yX12_weightOf : MethodName := ⟨RX12, "weightOf", "(I)I"⟩
abbrev cX12_keep : ByteArray := prog_14_method_63_code
def yX12_keep : MethodName := ⟨RX12, "keep", "(III)I"⟩
abbrev cX12_make : ByteArray := prog_14_method_64_code
def yX12_make : MethodName := ⟨RX12, "make", "(III)I"⟩
abbrev cX12_element : ByteArray := prog_14_method_65_code
def yX12_element : MethodName := ⟨RX12, "element", "(II)J"⟩
abbrev cX12_hasPlaces : ByteArray := prog_14_method_66_code
def yX12_hasPlaces : MethodName := ⟨RX12, "hasPlaces", "(III)Z"⟩
abbrev cX12_copy : ByteArray := prog_14_method_67_code
def yX12_copy : MethodName := ⟨RX12, "copy", "(IIIII)I"⟩
abbrev cX12_denied : ByteArray := prog_14_method_68_code
def yX12_denied : MethodName := ⟨RX12, "denied", "(I)I"⟩
abbrev cX12_weight : ByteArray := prog_14_method_69_code
def yX12_weight : MethodName := ⟨RX12, "weight", "(I)I"⟩
abbrev cX12_toss : ByteArray := prog_14_method_70_code
def yX12_toss : MethodName := ⟨RX12, "toss", "(I)I"⟩
def RJ6 : String := "java/lang/Integer"
def TJ6 : u_T := fun k => match k with
  | _ => ("", "", "", false)
def tyJ6 : Nat → FieldType := fun k => match k with
  | _ => .int
theorem nmJ6 : ∀ a, a < 0 → ∀ b, b < 0 → a ≠ b → (TJ6 a).2.1 ≠ (TJ6 b).2.1 := by decide +kernel
theorem tyJ6_ok : ∀ k, k < 0 → parseFieldDescriptor (TJ6 k).2.2.1 = some (tyJ6 k) := by decide +kernel
abbrev cJ6_bitCount_0f7a4 : ByteArray := prog_18_method_49_code
def yJ6_bitCount_0f7a4 : MethodName := ⟨RJ6, "bitCount", "(I)I"⟩
def RJ9 : String := "java/lang/Math"
def TJ9 : u_T := fun k => match k with
  | _ => ("", "", "", false)
def tyJ9 : Nat → FieldType := fun k => match k with
  | _ => .int
theorem nmJ9 : ∀ a, a < 0 → ∀ b, b < 0 → a ≠ b → (TJ9 a).2.1 ≠ (TJ9 b).2.1 := by decide +kernel
theorem tyJ9_ok : ∀ k, k < 0 → parseFieldDescriptor (TJ9 k).2.2.1 = some (tyJ9 k) := by decide +kernel
abbrev cJ9_floorMod_7cf53 : ByteArray := prog_19_method_50_code
def yJ9_floorMod_7cf53 : MethodName := ⟨RJ9, "floorMod", "(II)I"⟩
abbrev cJ9_max_7cf53 : ByteArray := prog_19_method_65_code
def yJ9_max_7cf53 : MethodName := ⟨RJ9, "max", "(II)I"⟩
abbrev cJ9_min_7cf53 : ByteArray := prog_19_method_69_code
def yJ9_min_7cf53 : MethodName := ⟨RJ9, "min", "(II)I"⟩
def RJ0 : String := "java/lang/String"
def TJ0 : u_T := fun k => match k with
  | _ => ("", "", "", false)
def tyJ0 : Nat → FieldType := fun k => match k with
  | _ => .int
theorem nmJ0 : ∀ a, a < 0 → ∀ b, b < 0 → a ≠ b → (TJ0 a).2.1 ≠ (TJ0 b).2.1 := by decide +kernel
theorem tyJ0_ok : ∀ k, k < 0 → parseFieldDescriptor (TJ0 k).2.2.1 = some (tyJ0 k) := by decide +kernel
def RJ10 : String := "java/lang/System"
def TJ10 : u_T := fun k => match k with
  | _ => ("", "", "", false)
def tyJ10 : Nat → FieldType := fun k => match k with
  | _ => .int
theorem nmJ10 : ∀ a, a < 0 → ∀ b, b < 0 → a ≠ b → (TJ10 a).2.1 ≠ (TJ10 b).2.1 := by decide +kernel
theorem tyJ10_ok : ∀ k, k < 0 → parseFieldDescriptor (TJ10 k).2.2.1 = some (tyJ10 k) := by decide +kernel
def RJ7 : String := "java/util/Arrays"
def TJ7 : u_T := fun k => match k with
  | _ => ("", "", "", false)
def tyJ7 : Nat → FieldType := fun k => match k with
  | _ => .int
theorem nmJ7 : ∀ a, a < 0 → ∀ b, b < 0 → a ≠ b → (TJ7 a).2.1 ≠ (TJ7 b).2.1 := by decide +kernel
theorem tyJ7_ok : ∀ k, k < 0 → parseFieldDescriptor (TJ7 k).2.2.1 = some (tyJ7 k) := by decide +kernel
abbrev cJ7_fill_53178 : ByteArray := prog_24_method_103_code
def yJ7_fill_53178 : MethodName := ⟨RJ7, "fill", "([II)V"⟩
abbrev cJ7_fill_031fb : ByteArray := prog_24_method_109_code
def yJ7_fill_031fb : MethodName := ⟨RJ7, "fill", "([BB)V"⟩
def RL : String := "FarCellsLaw"
abbrev cL_cell : ByteArray := method_2_code
def yL_cell : MethodName := ⟨RL, "cell", "([II)I"⟩
abbrev cL_cell_ : ByteArray := method_3_code
def yL_cell_ : MethodName := ⟨RL, "cell", "(LFarCells;II[J)I"⟩
abbrev cL_read : ByteArray := method_4_code
def yL_read : MethodName := ⟨RL, "read", "(LFarCells;I[J)I"⟩
abbrev cL_element : ByteArray := method_5_code
def yL_element : MethodName := ⟨RL, "element", "(LFarCells;II[J)I"⟩
abbrev cL_law : ByteArray := code
def yL_law : MethodName := ⟨RL, "law", "([I)Z"⟩
abbrev vwCl : List vw_C := [(RX0, TX0, 10), (RX1, TX1, 7), (RX2, TX2, 5), (RX3, TX3, 19), (RX4, TX4, 9), (RX5, TX5, 2), (RX6, TX6, 5), (RX7, TX7, 5), (RX8, TX8, 8), (RX9, TX9, 4), (RX10, TX10, 8), (RX11, TX11, 4), (RX12, TX12, 65)]
end
section
/-! The layout behind both constructors, and a judgement over it: abstract addresses are offsets from the base B; a memory is its ints (and booleans, bytes) and its longs. -/
abbrev Mm : Type := (Nat → Nat → Int32) × (Nat → Nat → Int64)
abbrev MI : Type := MethodName × ByteArray × Nat × Option FieldType × Nat × Nat
def iy (M : MI) : MethodName := M.1
def ic (M : MI) : ByteArray := M.2.1
def il (M : MI) : Nat := M.2.2.1
def ir (M : MI) : Option FieldType := M.2.2.2.1
def ifr (M : MI) : Nat := M.2.2.2.2.1
def ilw (M : MI) : Nat := M.2.2.2.2.2
def tbG : List Cond := lw_tbl.filter goodWord
theorem tbG_at {w : Cond} (i : Nat) (h : lw_tbl[i]? = some w) (hg : goodWord w = true) : w ∈ tbG := List.mem_filter.mpr ⟨List.mem_of_getElem? h, hg⟩
def wsM (M : MI) : List Cond := .code (iy M) (ic M) (il M) (ir M) :: tbG
def rmM (M : MI) : Room := { frames := ifr M, cells := 0, slots := 0, locals := ilw M }
def kdL : List (Nat × Nat) := [(11, 4), (1, 7), (20, 16), (20, 16), (20, 16), (20, 16), (25, 10), (7, 5), (20, 60), (20, 60), (22, 60), (20, 60), (7, 5), (20, 60), (20, 60), (22, 60), (20, 60), (7, 5), (20, 60), (20, 60), (22, 60), (20, 60), (7, 5), (20, 60), (20, 60), (22, 60), (20, 60), (7, 5), (20, 60), (20, 60), (22, 60), (20, 60), (7, 5), (20, 60), (20, 60), (22, 60), (20, 60), (7, 5), (20, 60), (20, 60), (22, 60), (20, 60), (7, 5), (20, 60), (20, 60), (22, 60), (20, 60), (7, 5), (20, 60), (20, 60), (22, 60), (20, 60), (7, 5), (20, 60), (20, 60), (22, 60), (20, 60), (3, 19), (5, 2), (20, 40), (20, 4), (6, 5), (0, 10), (24, 20), (27, 10), (20, 4), (20, 4), (9, 4), (20, 16), (20, 16), (20, 16), (2, 5), (20, 4), (20, 80), (20, 3300), (4, 9), (20, 4), (20, 4), (4, 9), (20, 4), (20, 4), (4, 9), (20, 4), (20, 4), (4, 9), (20, 4), (20, 4), (4, 9), (20, 4), (20, 4), (4, 9), (20, 4), (20, 4), (4, 9), (20, 4), (20, 4), (4, 9), (20, 4), (20, 4), (4, 9), (20, 4), (20, 4), (4, 9), (20, 4), (20, 4), (4, 9), (20, 4), (20, 4), (4, 9), (20, 4), (20, 4), (4, 9), (20, 4), (20, 4), (4, 9), (20, 4), (20, 4), (4, 9), (20, 4), (20, 4), (4, 9), (20, 4), (20, 4), (4, 9), (20, 4), (20, 4), (4, 9), (20, 4), (20, 4), (4, 9), (20, 4), (20, 4), (4, 9), (20, 4), (20, 4), (10, 8), (10, 8), (10, 8), (10, 8), (10, 8), (10, 8), (10, 8), (10, 8), (10, 8), (10, 8), (3, 19), (5, 2), (20, 40), (20, 4), (6, 5), (0, 10), (24, 20), (27, 10), (20, 4), (20, 4), (9, 4), (20, 16), (20, 16), (20, 16), (2, 5), (20, 4), (20, 80), (20, 0), (4, 9), (20, 4), (20, 4), (4, 9), (20, 4), (20, 4), (4, 9), (20, 4), (20, 4), (4, 9), (20, 4), (20, 4), (4, 9), (20, 4), (20, 4), (4, 9), (20, 4), (20, 4), (4, 9), (20, 4), (20, 4), (4, 9), (20, 4), (20, 4), (4, 9), (20, 4), (20, 4), (4, 9), (20, 4), (20, 4), (4, 9), (20, 4), (20, 4), (4, 9), (20, 4), (20, 4), (4, 9), (20, 4), (20, 4), (4, 9), (20, 4), (20, 4), (4, 9), (20, 4), (20, 4), (4, 9), (20, 4), (20, 4), (4, 9), (20, 4), (20, 4), (4, 9), (20, 4), (20, 4), (4, 9), (20, 4), (20, 4), (4, 9), (20, 4), (20, 4), (10, 8), (10, 8), (10, 8), (10, 8), (10, 8), (10, 8), (10, 8), (10, 8), (10, 8), (10, 8), (26, 8), (8, 8), (23, 60), (20, 60), (8, 8), (23, 60), (20, 60), (8, 8), (23, 60), (20, 60), (8, 8), (23, 60), (20, 60), (8, 8), (23, 60), (20, 60), (8, 8), (23, 60), (20, 60), (8, 8), (23, 60), (20, 60), (8, 8), (23, 60), (20, 60), (12, 65), (20, 16), (20, 16), (20, 16), (20, 20), (20, 10), (20, 600), (20, 600), (22, 600), (20, 600), (20, 2), (20, 2), (20, 2), (20, 2), (20, 2), (20, 2), (21, 2), (20, 2), (20, 2), (20, 2), (20, 2), (20, 40), (20, 40), (22, 40), (20, 40), (20, 160), (20, 40), (21, 40), (20, 160), (20, 20), (20, 20), (20, 20), (20, 20), (20, 20), (22, 20), (20, 20), (21, 20), (20, 20), (22, 20), (21, 8), (20, 32), (20, 32), (20, 32), (20, 3000), (20, 300), (21, 4), (21, 4), (20, 80), (20, 8), (20, 8), (20, 8), (20, 8), (20, 480), (20, 60)]
def N0 : Nat := 312
def kd (a : Nat) : Nat × Nat := kdL.getD a (99, 0)
def kw (Ω : Nat × Nat) (a : Nat) : Nat × Nat := if Ω.1 ≤ a ∧ a < Ω.2 then kd a else (99, 0)
def refL : List (List Nat) := [[], [3, 4, 5, 6], [1, 3, 4], [0, 1, 2, 3, 4, 5, 6, 7, 8, 9], [0, 1], [0, 1], [], [0, 1, 2, 3], [0, 1], [0, 1, 2, 3], [0], [0, 1, 2, 3], [4, 5, 6, 8, 10, 11, 12, 13, 14, 18, 19, 20, 21, 22, 23, 24, 25, 26, 27, 28, 29, 30, 31, 32, 33, 34, 35, 36, 37, 38, 39, 40, 41, 42, 43, 44, 45, 46, 47, 48, 49, 50, 52, 53, 56, 57, 58, 59, 60, 61, 62, 63, 64]]
def isR (ci k : Nat) : Bool := (refL.getD ci []).contains k
def rfMo : List Nat := [0, 0, 0, 0, 259, 260, 261, 0, 262, 0, 263, 264, 265, 266, 267, 0, 0, 0, 268, 269, 270, 271, 272, 273, 274, 275, 276, 277, 278, 279, 280, 281, 282, 283, 284, 285, 286, 287, 288, 289, 290, 291, 292, 293, 294, 295, 296, 297, 298, 299, 300, 0, 301, 302, 0, 0, 303, 304, 305, 306, 307, 308, 309, 310, 311]
/-- a machine at b: what its parts refer to -/
def rfMa (b o k : Nat) : Nat :=
  if o = 0 then ([1, b + 10, b + 1, b + 4, b + 14, b + 5, b + 6, b + 7, b + 8, b + 9].getD k 0)
  else if o = 1 then b + 2 + k
  else if o = 6 then b + 18 + 3 * k
  else if o = 7 then b + 78 + k
  else if o = 10 then (if k = 0 then 1 else b + 10 + k)
  else if o = 14 then (if k = 1 then b + 17 else if k = 3 then b + 15 else b + 16)
  else if o < 78 then b + o + 1 + k
  else 7 + 5 * (o - 78)
def rf (a k : Nat) : Nat :=
  if a = 0 then ([1, 57, 145, 233].getD k 0)
  else if a = 1 then k - 1
  else if a = 6 then 7 + 5 * k
  else if a < 57 then a + 1 + k
  else if a < 145 then rfMa 57 (a - 57) k
  else if a < 233 then rfMa 145 (a - 145) k
  else if a = 233 then 234 + 3 * k
  else if a < 258 then a + 1 + k
  else rfMo.getD k 0
def cv (B : Nat) : Value → Value
  | .ref a => .ref (B + a)
  | v => v
def fval (B : Nat) (σ : Mm) (a ci k : Nat) : Value := if isR ci k = true then .ref (B + rf a k) else .int (σ.1 a k)
def ent (B : Nat) (cA : Nat → ClassId) (σ : Mm) (a : Nat) : va_E :=
  if (kd a).1 < 20 then .inr ((kd a).1, (List.range (kd a).2).map (fval B σ a (kd a).1))
  else if (kd a).1 = 21 then .inl (cA 21, (kd a).2, .inr (.inl (σ.2 a)))
  else if (kd a).1 < 24 then .inl (cA (kd a).1, (kd a).2, .inl (σ.1 a))
  else .inl (cA (kd a).1, (kd a).2, .inr (.inr (.inr (.inr (fun i => some (B + rf a i))))))
def wld (Ω : Nat × Nat) (B : Nat) (cA : Nat → ClassId) (σ : Mm) : va_W := (List.range (Ω.2 - Ω.1)).map (fun i => (B + (Ω.1 + i), ent B cA σ (Ω.1 + i)))
def tysL (cA : Nat → ClassId) : List (ClassId × FieldType) := [(cA 20, .int), (cA 21, .long), (cA 22, .boolean), (cA 23, .byte), (cA 24, .object "FarCells$Page"), (cA 25, .object "FarCells$Script"), (cA 26, .object "FarCells$Shelf"), (cA 27, .object "FarCells$Worker")]
def wI (σ : Mm) (a j : Nat) (v : Int32) : Mm := (fun b => if b = a then upd (σ.1 a) j v else σ.1 b, σ.2)
def wL (σ : Mm) (a j : Nat) (v : Int64) : Mm := (σ.1, fun b => if b = a then vp_updL (σ.2 a) j v else σ.2 b)
theorem kw_in {Ω : Nat × Nat} {a : Nat} {q : Nat × Nat} (h : kw Ω a = q) (hq : q.1 ≠ 99) : Ω.1 ≤ a ∧ a < Ω.2 ∧ kd a = q := by
  unfold kw at h
  split at h
  · next hh => exact ⟨hh.1, hh.2, h⟩
  · exact absurd (by rw [← h]) hq
theorem wld_at {Ω : Nat × Nat} {B : Nat} {cA : Nat → ClassId} {σ : Mm} {a : Nat} (h1 : Ω.1 ≤ a) (h2 : a < Ω.2) : (wld Ω B cA σ)[a - Ω.1]? = some (B + a, ent B cA σ a) := by
  have h3 : a - Ω.1 < Ω.2 - Ω.1 := by omega
  have h4 : Ω.1 + (a - Ω.1) = a := by omega
  simp only [wld, List.getElem?_map, List.getElem?_range h3, Option.map_some, h4]
theorem wld_set {Ω : Nat × Nat} {B : Nat} {cA : Nat → ClassId} {σ σ' : Mm} {a : Nat} {e : va_E} (h1 : Ω.1 ≤ a) (h2 : a < Ω.2) (he : e = ent B cA σ' a) (ho : ∀ b, b ≠ a → ent B cA σ' b = ent B cA σ b) : (wld Ω B cA σ).set (a - Ω.1) (B + a, e) = wld Ω B cA σ' := by
  subst he
  apply List.ext_getElem?
  intro i
  rw [List.getElem?_set]
  by_cases hi : a - Ω.1 = i
  · subst hi
    have h3 : a - Ω.1 < (wld Ω B cA σ).length := by simp only [wld, List.length_map, List.length_range]; omega
    rw [if_pos rfl, if_pos h3, wld_at h1 h2]
  · rw [if_neg hi]
    by_cases hl : i < Ω.2 - Ω.1
    · simp only [wld, List.getElem?_map, List.getElem?_range hl, Option.map_some]
      rw [ho (Ω.1 + i) (by omega)]
    · have hl' : Ω.2 - Ω.1 ≤ i := by omega
      simp only [wld, List.getElem?_map, List.getElem?_eq_none (by simpa using hl' : (List.range (Ω.2 - Ω.1)).length ≤ i), Option.map_none]
theorem wld_D {Ω : Nat × Nat} {B : Nat} {cA : Nat → ClassId} {σ : Mm} : va_D (fun q => B ≤ q) (wld Ω B cA σ) := by
  refine ⟨fun i j p q hi hj he => ?_, fun k q hk => ?_⟩
  · simp only [wld, List.getElem?_map, Option.map_eq_some_iff] at hi hj
    obtain ⟨x, hx, rfl⟩ := hi
    obtain ⟨y, hy, rfl⟩ := hj
    have hi2 : x = i := by
      have := List.getElem?_eq_some_iff.mp hx
      obtain ⟨h1, h2⟩ := this
      simpa using h2.symm
    have hj2 : y = j := by
      have := List.getElem?_eq_some_iff.mp hy
      obtain ⟨h1, h2⟩ := this
      simpa using h2.symm
    subst hi2; subst hj2
    have : B + (Ω.1 + x) = B + (Ω.1 + y) := he
    omega
  · simp only [wld, List.getElem?_map, Option.map_eq_some_iff] at hk
    obtain ⟨x, hx, rfl⟩ := hk
    exact Nat.le_add_right _ _
theorem ent_obj {B : Nat} {cA : Nat → ClassId} {σ : Mm} {a ci n : Nat} (h : kd a = (ci, n)) (hc : ci < 20) : ent B cA σ a = .inr (ci, (List.range n).map (fval B σ a ci)) := by
  unfold ent; rw [h]; exact if_pos hc
theorem ent_long {B : Nat} {cA : Nat → ClassId} {σ : Mm} {a n : Nat} (h : kd a = (21, n)) : ent B cA σ a = .inl (cA 21, n, .inr (.inl (σ.2 a))) := by
  unfold ent; rw [h]; rfl
theorem ent_int {B : Nat} {cA : Nat → ClassId} {σ : Mm} {a c n : Nat} (h : kd a = (c, n)) (hc : c = 20 ∨ c = 22 ∨ c = 23) : ent B cA σ a = .inl (cA c, n, .inl (σ.1 a)) := by
  unfold ent; rw [h]
  rcases hc with rfl | rfl | rfl <;> rfl
theorem ent_ref {B : Nat} {cA : Nat → ClassId} {σ : Mm} {a c n : Nat} (h : kd a = (c, n)) (hc : 24 ≤ c) : ent B cA σ a = .inl (cA c, n, .inr (.inr (.inr (.inr (fun i => some (B + rf a i)))))) := by
  unfold ent; rw [h]
  have h1 : ¬ c < 20 := by omega
  have h2 : ¬ c = 21 := by omega
  have h3 : ¬ c < 24 := by omega
  simp only [h1, h2, h3, if_false]
theorem ent_wI {B : Nat} {cA : Nat → ClassId} {σ : Mm} {a j b : Nat} {v : Int32} (h : b ≠ a) : ent B cA (wI σ a j v) b = ent B cA σ b := by
  have h1 : (wI σ a j v).1 b = σ.1 b := if_neg h
  have h2 : (wI σ a j v).2 b = σ.2 b := rfl
  unfold ent
  rw [h1, h2]
  have h3 : fval B (wI σ a j v) b (kd b).1 = fval B σ b (kd b).1 := by
    funext k; unfold fval; rw [h1]
  rw [h3]
theorem ent_wL {B : Nat} {cA : Nat → ClassId} {σ : Mm} {a j b : Nat} {v : Int64} (h : b ≠ a) : ent B cA (wL σ a j v) b = ent B cA σ b := by
  have h1 : (wL σ a j v).2 b = σ.2 b := if_neg h
  have h2 : (wL σ a j v).1 b = σ.1 b := rfl
  unfold ent
  rw [h1, h2]
  have h3 : fval B (wL σ a j v) b (kd b).1 = fval B σ b (kd b).1 := by
    funext k; unfold fval; rw [h2]
  rw [h3]
theorem kd_small (a : Nat) : (kd a).2 ≤ 3300 := by
  by_cases h : a < 312
  · have : ∀ a, a < 312 → (kd a).2 ≤ 3300 := by decide +kernel
    exact this a h
  · unfold kd
    have hl : kdL.length ≤ a := by
      have : kdL.length = 312 := by decide +kernel
      omega
    rw [List.getD, List.getElem?_eq_none hl]
    decide
end
