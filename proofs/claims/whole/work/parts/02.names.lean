-- ===== PART A: goes FIRST, ahead of the names: the tables' words, and 'selects' of the private methods out of them =====
/-- a private method of a class that the tables say can be made, by its rows of tables_1 -/
def lw_okq (q : MethodName × Nat) : Prop := (q.1.cls ≠ "java/lang/invoke/MethodHandle" ∧ q.1.cls ≠ "java/lang/invoke/VarHandle") ∧ Cond.instantiable q.1.cls q.2 ∈ tables_1 ∧ Cond.privateMethod q.1 ∈ tables_1 ∧ Cond.instanceMethod q.1 ∈ tables_1
theorem lw_p0 : lw_okq (⟨"WindElection", "settle", "(LWindElection$Fault;)V"⟩, 12) := ⟨⟨by decide +kernel, by decide +kernel⟩, List.mem_of_getElem? (i := 31) (by decide +kernel), List.mem_of_getElem? (i := 391) (by decide +kernel), List.mem_of_getElem? (i := 392) (by decide +kernel)⟩
theorem lw_p1 : lw_okq (⟨"java/lang/Throwable", "fillInStackTrace", "(I)Ljava/lang/Throwable;"⟩, 6) := ⟨⟨by decide +kernel, by decide +kernel⟩, List.mem_of_getElem? (i := 447) (by decide +kernel), List.mem_of_getElem? (i := 445) (by decide +kernel), List.mem_of_getElem? (i := 446) (by decide +kernel)⟩
theorem lw_p2 : lw_okq (⟨"WindElection", "writeRound", "(LWindElection$Round;)V"⟩, 12) := ⟨⟨by decide +kernel, by decide +kernel⟩, List.mem_of_getElem? (i := 31) (by decide +kernel), List.mem_of_getElem? (i := 551) (by decide +kernel), List.mem_of_getElem? (i := 552) (by decide +kernel)⟩
theorem lw_p3 : lw_okq (⟨"WindElection", "checkWind", "(I)V"⟩, 12) := ⟨⟨by decide +kernel, by decide +kernel⟩, List.mem_of_getElem? (i := 31) (by decide +kernel), List.mem_of_getElem? (i := 677) (by decide +kernel), List.mem_of_getElem? (i := 678) (by decide +kernel)⟩
theorem lw_p4 : lw_okq (⟨"WindElection", "ballotNumbered", "(I)LWindElection$Ballot;"⟩, 12) := ⟨⟨by decide +kernel, by decide +kernel⟩, List.mem_of_getElem? (i := 31) (by decide +kernel), List.mem_of_getElem? (i := 738) (by decide +kernel), List.mem_of_getElem? (i := 739) (by decide +kernel)⟩
theorem lw_p5 : lw_okq (⟨"WindElection", "roundNumbered", "(I)LWindElection$Round;"⟩, 12) := ⟨⟨by decide +kernel, by decide +kernel⟩, List.mem_of_getElem? (i := 31) (by decide +kernel), List.mem_of_getElem? (i := 821) (by decide +kernel), List.mem_of_getElem? (i := 822) (by decide +kernel)⟩
theorem lw_p6 : lw_okq (⟨"WindElection", "placeByScore", "(I)I"⟩, 12) := ⟨⟨by decide +kernel, by decide +kernel⟩, List.mem_of_getElem? (i := 31) (by decide +kernel), List.mem_of_getElem? (i := 945) (by decide +kernel), List.mem_of_getElem? (i := 946) (by decide +kernel)⟩
theorem lw_p7 : lw_okq (⟨"WindElection", "seatWinner", "()LWindElection$Fault;"⟩, 12) := ⟨⟨by decide +kernel, by decide +kernel⟩, List.mem_of_getElem? (i := 31) (by decide +kernel), List.mem_of_getElem? (i := 956) (by decide +kernel), List.mem_of_getElem? (i := 957) (by decide +kernel)⟩
theorem lw_p8 : lw_okq (⟨"WindElection", "carryOutAll", "(I)I"⟩, 12) := ⟨⟨by decide +kernel, by decide +kernel⟩, List.mem_of_getElem? (i := 31) (by decide +kernel), List.mem_of_getElem? (i := 1120) (by decide +kernel), List.mem_of_getElem? (i := 1121) (by decide +kernel)⟩
theorem lw_p9 : lw_okq (⟨"WindElection", "carryOut", "()LWindElection$Fault;"⟩, 12) := ⟨⟨by decide +kernel, by decide +kernel⟩, List.mem_of_getElem? (i := 31) (by decide +kernel), List.mem_of_getElem? (i := 1126) (by decide +kernel), List.mem_of_getElem? (i := 1127) (by decide +kernel)⟩
theorem lw_p10 : lw_okq (⟨"WindElection", "carryOutBallot", "()LWindElection$Fault;"⟩, 12) := ⟨⟨by decide +kernel, by decide +kernel⟩, List.mem_of_getElem? (i := 31) (by decide +kernel), List.mem_of_getElem? (i := 1135) (by decide +kernel), List.mem_of_getElem? (i := 1136) (by decide +kernel)⟩
theorem lw_p11 : lw_okq (⟨"WindElectionModel", "fails", "(I)Z"⟩, 24) := ⟨⟨by decide +kernel, by decide +kernel⟩, List.mem_of_getElem? (i := 1179) (by decide +kernel), List.mem_of_getElem? (i := 1266) (by decide +kernel), List.mem_of_getElem? (i := 1267) (by decide +kernel)⟩
theorem lw_p12 : lw_okq (⟨"WindElectionModel", "keeps", "([I)V"⟩, 24) := ⟨⟨by decide +kernel, by decide +kernel⟩, List.mem_of_getElem? (i := 1179) (by decide +kernel), List.mem_of_getElem? (i := 1270) (by decide +kernel), List.mem_of_getElem? (i := 1271) (by decide +kernel)⟩
theorem lw_p13 : lw_okq (⟨"WindElectionModel", "isWind", "(I)Z"⟩, 24) := ⟨⟨by decide +kernel, by decide +kernel⟩, List.mem_of_getElem? (i := 1179) (by decide +kernel), List.mem_of_getElem? (i := 1281) (by decide +kernel), List.mem_of_getElem? (i := 1282) (by decide +kernel)⟩
theorem lw_p14 : lw_okq (⟨"WindElectionModel", "stands", "(I)Z"⟩, 24) := ⟨⟨by decide +kernel, by decide +kernel⟩, List.mem_of_getElem? (i := 1179) (by decide +kernel), List.mem_of_getElem? (i := 1288) (by decide +kernel), List.mem_of_getElem? (i := 1289) (by decide +kernel)⟩
theorem lw_p15 : lw_okq (⟨"WindElectionModel", "standing", "()I"⟩, 24) := ⟨⟨by decide +kernel, by decide +kernel⟩, List.mem_of_getElem? (i := 1179) (by decide +kernel), List.mem_of_getElem? (i := 1292) (by decide +kernel), List.mem_of_getElem? (i := 1293) (by decide +kernel)⟩
def lw_privs_1 : List (MethodName × Nat) := [(⟨"WindElection", "settle", "(LWindElection$Fault;)V"⟩, 12), (⟨"java/lang/Throwable", "fillInStackTrace", "(I)Ljava/lang/Throwable;"⟩, 6), (⟨"WindElection", "writeRound", "(LWindElection$Round;)V"⟩, 12), (⟨"WindElection", "checkWind", "(I)V"⟩, 12), (⟨"WindElection", "ballotNumbered", "(I)LWindElection$Ballot;"⟩, 12), (⟨"WindElection", "roundNumbered", "(I)LWindElection$Round;"⟩, 12), (⟨"WindElection", "placeByScore", "(I)I"⟩, 12), (⟨"WindElection", "seatWinner", "()LWindElection$Fault;"⟩, 12), (⟨"WindElection", "carryOutAll", "(I)I"⟩, 12), (⟨"WindElection", "carryOut", "()LWindElection$Fault;"⟩, 12), (⟨"WindElection", "carryOutBallot", "()LWindElection$Fault;"⟩, 12), (⟨"WindElectionModel", "fails", "(I)Z"⟩, 24), (⟨"WindElectionModel", "keeps", "([I)V"⟩, 24), (⟨"WindElectionModel", "isWind", "(I)Z"⟩, 24), (⟨"WindElectionModel", "stands", "(I)Z"⟩, 24), (⟨"WindElectionModel", "standing", "()I"⟩, 24)]
theorem lw_r1 : ∀ q ∈ lw_privs_1, lw_okq q := List.forall_mem_cons.mpr ⟨lw_p0, List.forall_mem_cons.mpr ⟨lw_p1, List.forall_mem_cons.mpr ⟨lw_p2, List.forall_mem_cons.mpr ⟨lw_p3, List.forall_mem_cons.mpr ⟨lw_p4, List.forall_mem_cons.mpr ⟨lw_p5, List.forall_mem_cons.mpr ⟨lw_p6, List.forall_mem_cons.mpr ⟨lw_p7, List.forall_mem_cons.mpr ⟨lw_p8, List.forall_mem_cons.mpr ⟨lw_p9, List.forall_mem_cons.mpr ⟨lw_p10, List.forall_mem_cons.mpr ⟨lw_p11, List.forall_mem_cons.mpr ⟨lw_p12, List.forall_mem_cons.mpr ⟨lw_p13, List.forall_mem_cons.mpr ⟨lw_p14, List.forall_mem_cons.mpr ⟨lw_p15, fun _ h => absurd h List.not_mem_nil⟩⟩⟩⟩⟩⟩⟩⟩⟩⟩⟩⟩⟩⟩⟩⟩
theorem lw_p16 : lw_okq (⟨"WindElectionModel", "isNone", "(I)Z"⟩, 24) := ⟨⟨by decide +kernel, by decide +kernel⟩, List.mem_of_getElem? (i := 1179) (by decide +kernel), List.mem_of_getElem? (i := 1308) (by decide +kernel), List.mem_of_getElem? (i := 1309) (by decide +kernel)⟩
theorem lw_p17 : lw_okq (⟨"WindElectionModel", "isBallot", "(I)Z"⟩, 24) := ⟨⟨by decide +kernel, by decide +kernel⟩, List.mem_of_getElem? (i := 1179) (by decide +kernel), List.mem_of_getElem? (i := 1327) (by decide +kernel), List.mem_of_getElem? (i := 1328) (by decide +kernel)⟩
theorem lw_p18 : lw_okq (⟨"WindElectionModel", "ranked", "(II)I"⟩, 24) := ⟨⟨by decide +kernel, by decide +kernel⟩, List.mem_of_getElem? (i := 1179) (by decide +kernel), List.mem_of_getElem? (i := 1331) (by decide +kernel), List.mem_of_getElem? (i := 1332) (by decide +kernel)⟩
theorem lw_p19 : lw_okq (⟨"WindElectionModel", "of", "(II)I"⟩, 24) := ⟨⟨by decide +kernel, by decide +kernel⟩, List.mem_of_getElem? (i := 1179) (by decide +kernel), List.mem_of_getElem? (i := 1335) (by decide +kernel), List.mem_of_getElem? (i := 1336) (by decide +kernel)⟩
theorem lw_p20 : lw_okq (⟨"WindElectionModel", "isLost", "(I)Z"⟩, 24) := ⟨⟨by decide +kernel, by decide +kernel⟩, List.mem_of_getElem? (i := 1179) (by decide +kernel), List.mem_of_getElem? (i := 1343) (by decide +kernel), List.mem_of_getElem? (i := 1344) (by decide +kernel)⟩
theorem lw_p21 : lw_okq (⟨"WindElectionModel", "total", "()I"⟩, 24) := ⟨⟨by decide +kernel, by decide +kernel⟩, List.mem_of_getElem? (i := 1179) (by decide +kernel), List.mem_of_getElem? (i := 1375) (by decide +kernel), List.mem_of_getElem? (i := 1376) (by decide +kernel)⟩
theorem lw_p22 : lw_okq (⟨"WindElectionModel", "elected", "()I"⟩, 24) := ⟨⟨by decide +kernel, by decide +kernel⟩, List.mem_of_getElem? (i := 1179) (by decide +kernel), List.mem_of_getElem? (i := 1383) (by decide +kernel), List.mem_of_getElem? (i := 1384) (by decide +kernel)⟩
theorem lw_p23 : lw_okq (⟨"WindElectionModel", "counts", "()V"⟩, 24) := ⟨⟨by decide +kernel, by decide +kernel⟩, List.mem_of_getElem? (i := 1179) (by decide +kernel), List.mem_of_getElem? (i := 1387) (by decide +kernel), List.mem_of_getElem? (i := 1388) (by decide +kernel)⟩
theorem lw_p24 : lw_okq (⟨"WindElectionModel", "countsRound", "(I)V"⟩, 24) := ⟨⟨by decide +kernel, by decide +kernel⟩, List.mem_of_getElem? (i := 1179) (by decide +kernel), List.mem_of_getElem? (i := 1391) (by decide +kernel), List.mem_of_getElem? (i := 1392) (by decide +kernel)⟩
theorem lw_p25 : lw_okq (⟨"WindElectionModel", "wins", "(I)I"⟩, 24) := ⟨⟨by decide +kernel, by decide +kernel⟩, List.mem_of_getElem? (i := 1179) (by decide +kernel), List.mem_of_getElem? (i := 1395) (by decide +kernel), List.mem_of_getElem? (i := 1396) (by decide +kernel)⟩
theorem lw_p26 : lw_okq (⟨"WindElectionModel", "falls", "(I)I"⟩, 24) := ⟨⟨by decide +kernel, by decide +kernel⟩, List.mem_of_getElem? (i := 1179) (by decide +kernel), List.mem_of_getElem? (i := 1399) (by decide +kernel), List.mem_of_getElem? (i := 1400) (by decide +kernel)⟩
theorem lw_p27 : lw_okq (⟨"WindElectionModel", "isRound", "(I)Z"⟩, 24) := ⟨⟨by decide +kernel, by decide +kernel⟩, List.mem_of_getElem? (i := 1179) (by decide +kernel), List.mem_of_getElem? (i := 1415) (by decide +kernel), List.mem_of_getElem? (i := 1416) (by decide +kernel)⟩
theorem lw_p28 : lw_okq (⟨"WindElectionModel", "areNone", "(II)Z"⟩, 24) := ⟨⟨by decide +kernel, by decide +kernel⟩, List.mem_of_getElem? (i := 1179) (by decide +kernel), List.mem_of_getElem? (i := 1443) (by decide +kernel), List.mem_of_getElem? (i := 1444) (by decide +kernel)⟩
theorem lw_p29 : lw_okq (⟨"WindElectionModel", "prefers", "(II)I"⟩, 24) := ⟨⟨by decide +kernel, by decide +kernel⟩, List.mem_of_getElem? (i := 1179) (by decide +kernel), List.mem_of_getElem? (i := 1447) (by decide +kernel), List.mem_of_getElem? (i := 1448) (by decide +kernel)⟩
theorem lw_p30 : lw_okq (⟨"WindElectionModel", "isOver", "(II)Z"⟩, 24) := ⟨⟨by decide +kernel, by decide +kernel⟩, List.mem_of_getElem? (i := 1179) (by decide +kernel), List.mem_of_getElem? (i := 1455) (by decide +kernel), List.mem_of_getElem? (i := 1456) (by decide +kernel)⟩
theorem lw_p31 : lw_okq (⟨"WindElectionModel", "beaten", "(I)I"⟩, 24) := ⟨⟨by decide +kernel, by decide +kernel⟩, List.mem_of_getElem? (i := 1179) (by decide +kernel), List.mem_of_getElem? (i := 1463) (by decide +kernel), List.mem_of_getElem? (i := 1464) (by decide +kernel)⟩
def lw_privs_2 : List (MethodName × Nat) := [(⟨"WindElectionModel", "isNone", "(I)Z"⟩, 24), (⟨"WindElectionModel", "isBallot", "(I)Z"⟩, 24), (⟨"WindElectionModel", "ranked", "(II)I"⟩, 24), (⟨"WindElectionModel", "of", "(II)I"⟩, 24), (⟨"WindElectionModel", "isLost", "(I)Z"⟩, 24), (⟨"WindElectionModel", "total", "()I"⟩, 24), (⟨"WindElectionModel", "elected", "()I"⟩, 24), (⟨"WindElectionModel", "counts", "()V"⟩, 24), (⟨"WindElectionModel", "countsRound", "(I)V"⟩, 24), (⟨"WindElectionModel", "wins", "(I)I"⟩, 24), (⟨"WindElectionModel", "falls", "(I)I"⟩, 24), (⟨"WindElectionModel", "isRound", "(I)Z"⟩, 24), (⟨"WindElectionModel", "areNone", "(II)Z"⟩, 24), (⟨"WindElectionModel", "prefers", "(II)I"⟩, 24), (⟨"WindElectionModel", "isOver", "(II)Z"⟩, 24), (⟨"WindElectionModel", "beaten", "(I)I"⟩, 24)]
theorem lw_r2 : ∀ q ∈ lw_privs_2, lw_okq q := List.forall_mem_cons.mpr ⟨lw_p16, List.forall_mem_cons.mpr ⟨lw_p17, List.forall_mem_cons.mpr ⟨lw_p18, List.forall_mem_cons.mpr ⟨lw_p19, List.forall_mem_cons.mpr ⟨lw_p20, List.forall_mem_cons.mpr ⟨lw_p21, List.forall_mem_cons.mpr ⟨lw_p22, List.forall_mem_cons.mpr ⟨lw_p23, List.forall_mem_cons.mpr ⟨lw_p24, List.forall_mem_cons.mpr ⟨lw_p25, List.forall_mem_cons.mpr ⟨lw_p26, List.forall_mem_cons.mpr ⟨lw_p27, List.forall_mem_cons.mpr ⟨lw_p28, List.forall_mem_cons.mpr ⟨lw_p29, List.forall_mem_cons.mpr ⟨lw_p30, List.forall_mem_cons.mpr ⟨lw_p31, fun _ h => absurd h List.not_mem_nil⟩⟩⟩⟩⟩⟩⟩⟩⟩⟩⟩⟩⟩⟩⟩⟩
theorem lw_p32 : lw_okq (⟨"WindElectionModel", "champion", "()I"⟩, 24) := ⟨⟨by decide +kernel, by decide +kernel⟩, List.mem_of_getElem? (i := 1179) (by decide +kernel), List.mem_of_getElem? (i := 1471) (by decide +kernel), List.mem_of_getElem? (i := 1472) (by decide +kernel)⟩
theorem lw_p33 : lw_okq (⟨"WindElectionModel", "score", "(I)I"⟩, 24) := ⟨⟨by decide +kernel, by decide +kernel⟩, List.mem_of_getElem? (i := 1179) (by decide +kernel), List.mem_of_getElem? (i := 1483) (by decide +kernel), List.mem_of_getElem? (i := 1484) (by decide +kernel)⟩
theorem lw_p34 : lw_okq (⟨"WindElectionModel", "writesNumber", "(I)V"⟩, 24) := ⟨⟨by decide +kernel, by decide +kernel⟩, List.mem_of_getElem? (i := 1179) (by decide +kernel), List.mem_of_getElem? (i := 1515) (by decide +kernel), List.mem_of_getElem? (i := 1516) (by decide +kernel)⟩
theorem lw_p35 : lw_okq (⟨"WindElectionModel", "writes", "(I)V"⟩, 24) := ⟨⟨by decide +kernel, by decide +kernel⟩, List.mem_of_getElem? (i := 1179) (by decide +kernel), List.mem_of_getElem? (i := 1519) (by decide +kernel), List.mem_of_getElem? (i := 1520) (by decide +kernel)⟩
theorem lw_p36 : lw_okq (⟨"WindElectionModel", "isText", "()Z"⟩, 24) := ⟨⟨by decide +kernel, by decide +kernel⟩, List.mem_of_getElem? (i := 1179) (by decide +kernel), List.mem_of_getElem? (i := 1547) (by decide +kernel), List.mem_of_getElem? (i := 1548) (by decide +kernel)⟩
theorem lw_p37 : lw_okq (⟨"WindElectionModel", "commandHere", "()Z"⟩, 24) := ⟨⟨by decide +kernel, by decide +kernel⟩, List.mem_of_getElem? (i := 1179) (by decide +kernel), List.mem_of_getElem? (i := 1551) (by decide +kernel), List.mem_of_getElem? (i := 1552) (by decide +kernel)⟩
theorem lw_p38 : lw_okq (⟨"WindElectionModel", "skips", "(I)Z"⟩, 24) := ⟨⟨by decide +kernel, by decide +kernel⟩, List.mem_of_getElem? (i := 1179) (by decide +kernel), List.mem_of_getElem? (i := 1555) (by decide +kernel), List.mem_of_getElem? (i := 1556) (by decide +kernel)⟩
theorem lw_p39 : lw_okq (⟨"WindElectionModel", "here", "()I"⟩, 24) := ⟨⟨by decide +kernel, by decide +kernel⟩, List.mem_of_getElem? (i := 1179) (by decide +kernel), List.mem_of_getElem? (i := 1559) (by decide +kernel), List.mem_of_getElem? (i := 1560) (by decide +kernel)⟩
theorem lw_p40 : lw_okq (⟨"WindElectionModel", "isWord", "(ILjava/lang/String;)Z"⟩, 24) := ⟨⟨by decide +kernel, by decide +kernel⟩, List.mem_of_getElem? (i := 1179) (by decide +kernel), List.mem_of_getElem? (i := 1564) (by decide +kernel), List.mem_of_getElem? (i := 1565) (by decide +kernel)⟩
theorem lw_p41 : lw_okq (⟨"WindElectionModel", "figures", "(II)Z"⟩, 24) := ⟨⟨by decide +kernel, by decide +kernel⟩, List.mem_of_getElem? (i := 1179) (by decide +kernel), List.mem_of_getElem? (i := 1570) (by decide +kernel), List.mem_of_getElem? (i := 1571) (by decide +kernel)⟩
theorem lw_p42 : lw_okq (⟨"WindElectionModel", "digits", "(II)Z"⟩, 24) := ⟨⟨by decide +kernel, by decide +kernel⟩, List.mem_of_getElem? (i := 1179) (by decide +kernel), List.mem_of_getElem? (i := 1574) (by decide +kernel), List.mem_of_getElem? (i := 1575) (by decide +kernel)⟩
theorem lw_p43 : lw_okq (⟨"WindElectionModel", "windsHere", "(I)Z"⟩, 24) := ⟨⟨by decide +kernel, by decide +kernel⟩, List.mem_of_getElem? (i := 1179) (by decide +kernel), List.mem_of_getElem? (i := 1578) (by decide +kernel), List.mem_of_getElem? (i := 1579) (by decide +kernel)⟩
theorem lw_p44 : lw_okq (⟨"WindElectionModel", "withR", "(I)Z"⟩, 24) := ⟨⟨by decide +kernel, by decide +kernel⟩, List.mem_of_getElem? (i := 1179) (by decide +kernel), List.mem_of_getElem? (i := 1584) (by decide +kernel), List.mem_of_getElem? (i := 1585) (by decide +kernel)⟩
theorem lw_p45 : lw_okq (⟨"WindElectionModel", "carries", "(I)I"⟩, 24) := ⟨⟨by decide +kernel, by decide +kernel⟩, List.mem_of_getElem? (i := 1179) (by decide +kernel), List.mem_of_getElem? (i := 1593) (by decide +kernel), List.mem_of_getElem? (i := 1594) (by decide +kernel)⟩
theorem lw_p46 : lw_okq (⟨"WindElectionModel", "fills", "(I)I"⟩, 24) := ⟨⟨by decide +kernel, by decide +kernel⟩, List.mem_of_getElem? (i := 1179) (by decide +kernel), List.mem_of_getElem? (i := 1599) (by decide +kernel), List.mem_of_getElem? (i := 1600) (by decide +kernel)⟩
def lw_privs_3 : List (MethodName × Nat) := [(⟨"WindElectionModel", "champion", "()I"⟩, 24), (⟨"WindElectionModel", "score", "(I)I"⟩, 24), (⟨"WindElectionModel", "writesNumber", "(I)V"⟩, 24), (⟨"WindElectionModel", "writes", "(I)V"⟩, 24), (⟨"WindElectionModel", "isText", "()Z"⟩, 24), (⟨"WindElectionModel", "commandHere", "()Z"⟩, 24), (⟨"WindElectionModel", "skips", "(I)Z"⟩, 24), (⟨"WindElectionModel", "here", "()I"⟩, 24), (⟨"WindElectionModel", "isWord", "(ILjava/lang/String;)Z"⟩, 24), (⟨"WindElectionModel", "figures", "(II)Z"⟩, 24), (⟨"WindElectionModel", "digits", "(II)Z"⟩, 24), (⟨"WindElectionModel", "windsHere", "(I)Z"⟩, 24), (⟨"WindElectionModel", "withR", "(I)Z"⟩, 24), (⟨"WindElectionModel", "carries", "(I)I"⟩, 24), (⟨"WindElectionModel", "fills", "(I)I"⟩, 24)]
theorem lw_r3 : ∀ q ∈ lw_privs_3, lw_okq q := List.forall_mem_cons.mpr ⟨lw_p32, List.forall_mem_cons.mpr ⟨lw_p33, List.forall_mem_cons.mpr ⟨lw_p34, List.forall_mem_cons.mpr ⟨lw_p35, List.forall_mem_cons.mpr ⟨lw_p36, List.forall_mem_cons.mpr ⟨lw_p37, List.forall_mem_cons.mpr ⟨lw_p38, List.forall_mem_cons.mpr ⟨lw_p39, List.forall_mem_cons.mpr ⟨lw_p40, List.forall_mem_cons.mpr ⟨lw_p41, List.forall_mem_cons.mpr ⟨lw_p42, List.forall_mem_cons.mpr ⟨lw_p43, List.forall_mem_cons.mpr ⟨lw_p44, List.forall_mem_cons.mpr ⟨lw_p45, List.forall_mem_cons.mpr ⟨lw_p46, fun _ h => absurd h List.not_mem_nil⟩⟩⟩⟩⟩⟩⟩⟩⟩⟩⟩⟩⟩⟩⟩
def lw_privs : List (MethodName × Nat) := lw_privs_1 ++ (lw_privs_2 ++ (lw_privs_3))
def lw_tbl : List Cond := k2_sels lw_privs ++ tables_1
theorem lw_privs_ok : ∀ q ∈ lw_privs, lw_okq q := by
  show ∀ q ∈ lw_privs_1 ++ (lw_privs_2 ++ (lw_privs_3)), lw_okq q
  exact List.forall_mem_append.mpr ⟨lw_r1, List.forall_mem_append.mpr ⟨lw_r2, lw_r3⟩⟩
/-- the streams that the claim lets the run draw from -/
abbrev lw_cs : List Choice := [Jvm.Choice.named "NaN.bits"]
theorem lw_bits : nanBits ∈ lw_cs := by first | decide | exact List.mem_cons_self | simp [lw_cs, nanBits]
def RX0 : String := "WindElection$1"
def TX0 : u_T := fun k => match k with
  | _ => ("", "", "", false)
def tyX0 : Nat → FieldType := fun k => match k with
  | _ => .int
abbrev wsX00 : List Cond := u_ws RX0 TX0 0
theorem nmX0 : ∀ a, a < 0 → ∀ b, b < 0 → a ≠ b → (TX0 a).2.1 ≠ (TX0 b).2.1 := by decide +kernel
theorem tyX0_ok : ∀ k, k < 0 → parseFieldDescriptor (TX0 k).2.2.1 = some (tyX0 k) := by decide +kernel
def RX1 : String := "WindElection$Assembly"
def TX1 : u_T := fun k => match k with
  | 0 => ("WindElection$Assembly", "winds", "I", false)
  | 1 => ("WindElection$Assembly", "stands", "[Z", true)
  | 2 => ("WindElection$Assembly", "seatOf", "[I", true)
  | 3 => ("WindElection$Assembly", "seats", "I", false)
  | 4 => ("WindElection$Assembly", "ballotsIn", "I", false)
  | 5 => ("WindElection$Assembly", "ballots", "[LWindElection$Ballot;", true)
  | _ => ("WindElection$Assembly", "spinner", "I", false)
def tyX1 : Nat → FieldType := fun k => match k with
  | 0 => .int
  | 1 => .array .boolean
  | 2 => .array .int
  | 3 => .int
  | 4 => .int
  | 5 => .array (.object "WindElection$Ballot")
  | _ => .int
abbrev wsX10 : List Cond := u_ws RX1 TX1 7
theorem nmX1 : ∀ a, a < 7 → ∀ b, b < 7 → a ≠ b → (TX1 a).2.1 ≠ (TX1 b).2.1 := by decide +kernel
theorem tyX1_ok : ∀ k, k < 7 → parseFieldDescriptor (TX1 k).2.2.1 = some (tyX1 k) := by decide +kernel
abbrev cX1_init : ByteArray := prog_3_method_1_code
def yX1_init : MethodName := ⟨RX1, "<init>", "()V"⟩
abbrev cX1_copyFrom : ByteArray := prog_3_method_2_code
def yX1_copyFrom : MethodName := ⟨RX1, "copyFrom", "(LWindElection$Assembly;)V"⟩
abbrev cX1_hasWind : ByteArray := prog_3_method_3_code
def yX1_hasWind : MethodName := ⟨RX1, "hasWind", "(I)Z"⟩
abbrev cX1_hasBallot : ByteArray := prog_3_method_4_code
def yX1_hasBallot : MethodName := ⟨RX1, "hasBallot", "(I)Z"⟩
abbrev cX1_putWind : ByteArray := prog_3_method_5_code
def yX1_putWind : MethodName := ⟨RX1, "putWind", "()LWindElection$Fault;"⟩
abbrev cX1_letGo : ByteArray := prog_3_method_6_code
def yX1_letGo : MethodName := ⟨RX1, "letGo", "(I)LWindElection$Fault;"⟩
abbrev cX1_putBallot : ByteArray := prog_3_method_7_code
def yX1_putBallot : MethodName := ⟨RX1, "putBallot", "(II)LWindElection$Fault;"⟩
abbrev cX1_extendBallot : ByteArray := prog_3_method_8_code
def yX1_extendBallot : MethodName := ⟨RX1, "extendBallot", "(II)LWindElection$Fault;"⟩
abbrev cX1_dropBallot : ByteArray := prog_3_method_9_code
def yX1_dropBallot : MethodName := ⟨RX1, "dropBallot", "(I)LWindElection$Fault;"⟩
abbrev cX1_reweigh : ByteArray := prog_3_method_10_code
def yX1_reweigh : MethodName := ⟨RX1, "reweigh", "(II)LWindElection$Fault;"⟩
abbrev cX1_turnSpinner : ByteArray := prog_3_method_11_code
def yX1_turnSpinner : MethodName := ⟨RX1, "turnSpinner", "()LWindElection$Fault;"⟩
abbrev cX1_giveSeat : ByteArray := prog_3_method_12_code
def yX1_giveSeat : MethodName := ⟨RX1, "giveSeat", "(I)V"⟩
abbrev cX1_isWeight : ByteArray := prog_3_method_13_code
def yX1_isWeight : MethodName := ⟨RX1, "isWeight", "(I)Z"⟩
abbrev cX1_standingWinds : ByteArray := prog_3_method_14_code
def yX1_standingWinds : MethodName := ⟨RX1, "standingWinds", "()I"⟩
abbrev cX1_windInSeat : ByteArray := prog_3_method_15_code
def yX1_windInSeat : MethodName := ⟨RX1, "windInSeat", "(I)I"⟩
abbrev cX1_weightOfAll : ByteArray := prog_3_method_16_code
def yX1_weightOfAll : MethodName := ⟨RX1, "weightOfAll", "()I"⟩
abbrev cX1_ranksOfAll : ByteArray := prog_3_method_17_code
def yX1_ranksOfAll : MethodName := ⟨RX1, "ranksOfAll", "()I"⟩
abbrev cX1_weightPreferring : ByteArray := prog_3_method_18_code
def yX1_weightPreferring : MethodName := ⟨RX1, "weightPreferring", "(II)I"⟩
abbrev cX1_isStronger : ByteArray := prog_3_method_19_code
def yX1_isStronger : MethodName := ⟨RX1, "isStronger", "(II)Z"⟩
abbrev cX1_standingWindsBeatenBy : ByteArray := prog_3_method_20_code
def yX1_standingWindsBeatenBy : MethodName := ⟨RX1, "standingWindsBeatenBy", "(I)I"⟩
abbrev cX1_championAmongPairs : ByteArray := prog_3_method_21_code
def yX1_championAmongPairs : MethodName := ⟨RX1, "championAmongPairs", "()I"⟩
abbrev cX1_championAfterDuels : ByteArray := prog_3_method_22_code
def yX1_championAfterDuels : MethodName := ⟨RX1, "championAfterDuels", "()I"⟩
abbrev cX1_scoreFor : ByteArray := prog_3_method_23_code
def yX1_scoreFor : MethodName := ⟨RX1, "scoreFor", "(I)I"⟩
def RX2 : String := "WindElection$Ballot"
def TX2 : u_T := fun k => match k with
  | 0 => ("WindElection$Ballot", "weight", "I", false)
  | 1 => ("WindElection$Ballot", "size", "I", false)
  | _ => ("WindElection$Ballot", "winds", "[I", true)
def tyX2 : Nat → FieldType := fun k => match k with
  | 0 => .int
  | 1 => .int
  | _ => .array .int
abbrev wsX20 : List Cond := u_ws RX2 TX2 3
theorem nmX2 : ∀ a, a < 3 → ∀ b, b < 3 → a ≠ b → (TX2 a).2.1 ≠ (TX2 b).2.1 := by decide +kernel
theorem tyX2_ok : ∀ k, k < 3 → parseFieldDescriptor (TX2 k).2.2.1 = some (tyX2 k) := by decide +kernel
abbrev cX2_init : ByteArray := prog_4_method_1_code
def yX2_init : MethodName := ⟨RX2, "<init>", "()V"⟩
abbrev cX2_start : ByteArray := prog_4_method_2_code
def yX2_start : MethodName := ⟨RX2, "start", "(II)V"⟩
abbrev cX2_append : ByteArray := prog_4_method_3_code
def yX2_append : MethodName := ⟨RX2, "append", "(I)Z"⟩
abbrev cX2_placeOf : ByteArray := prog_4_method_4_code
def yX2_placeOf : MethodName := ⟨RX2, "placeOf", "(I)I"⟩
abbrev cX2_prefers : ByteArray := prog_4_method_5_code
def yX2_prefers : MethodName := ⟨RX2, "prefers", "(II)Z"⟩
abbrev cX2_copyFrom : ByteArray := prog_4_method_6_code
def yX2_copyFrom : MethodName := ⟨RX2, "copyFrom", "(LWindElection$Ballot;)V"⟩
def RX3 : String := "WindElection$Count"
def TX3 : u_T := fun k => match k with
  | 0 => ("WindElection$Count", "rounds", "[LWindElection$Round;", true)
  | 1 => ("WindElection$Count", "size", "I", false)
  | 2 => ("WindElection$Count", "winner", "I", false)
  | _ => ("WindElection$Count", "spinner", "I", false)
def tyX3 : Nat → FieldType := fun k => match k with
  | 0 => .array (.object "WindElection$Round")
  | 1 => .int
  | 2 => .int
  | _ => .int
abbrev wsX30 : List Cond := u_ws RX3 TX3 4
theorem nmX3 : ∀ a, a < 4 → ∀ b, b < 4 → a ≠ b → (TX3 a).2.1 ≠ (TX3 b).2.1 := by decide +kernel
theorem tyX3_ok : ∀ k, k < 4 → parseFieldDescriptor (TX3 k).2.2.1 = some (tyX3 k) := by decide +kernel
abbrev cX3_init : ByteArray := prog_5_method_1_code
def yX3_init : MethodName := ⟨RX3, "<init>", "()V"⟩
abbrev cX3_take : ByteArray := prog_5_method_2_code
def yX3_take : MethodName := ⟨RX3, "take", "(LWindElection$Assembly;)V"⟩
abbrev cX3_roundThatEliminates : ByteArray := prog_5_method_3_code
def yX3_roundThatEliminates : MethodName := ⟨RX3, "roundThatEliminates", "(I)I"⟩
abbrev cX3_addsUpTo : ByteArray := prog_5_method_4_code
def yX3_addsUpTo : MethodName := ⟨RX3, "addsUpTo", "(I)Z"⟩
def RX4 : String := "WindElection$Fault"
def TX4 : u_T := fun k => match k with
  | _ => ("", "", "", false)
def tyX4 : Nat → FieldType := fun k => match k with
  | _ => .int
abbrev wsX40 : List Cond := u_ws RX4 TX4 0
theorem nmX4 : ∀ a, a < 0 → ∀ b, b < 0 → a ≠ b → (TX4 a).2.1 ≠ (TX4 b).2.1 := by decide +kernel
theorem tyX4_ok : ∀ k, k < 0 → parseFieldDescriptor (TX4 k).2.2.1 = some (tyX4 k) := by decide +kernel
def RX5 : String := "WindElection$History"
def TX5 : u_T := fun k => match k with
  | 0 => ("WindElection$History", "states", "[LWindElection$Assembly;", true)
  | 1 => ("WindElection$History", "oldest", "I", false)
  | _ => ("WindElection$History", "size", "I", false)
def tyX5 : Nat → FieldType := fun k => match k with
  | 0 => .array (.object "WindElection$Assembly")
  | 1 => .int
  | _ => .int
abbrev wsX50 : List Cond := u_ws RX5 TX5 3
theorem nmX5 : ∀ a, a < 3 → ∀ b, b < 3 → a ≠ b → (TX5 a).2.1 ≠ (TX5 b).2.1 := by decide +kernel
theorem tyX5_ok : ∀ k, k < 3 → parseFieldDescriptor (TX5 k).2.2.1 = some (tyX5 k) := by decide +kernel
abbrev cX5_init : ByteArray := prog_7_method_1_code
def yX5_init : MethodName := ⟨RX5, "<init>", "()V"⟩
abbrev cX5_remember : ByteArray := prog_7_method_2_code
def yX5_remember : MethodName := ⟨RX5, "remember", "(LWindElection$Assembly;)V"⟩
abbrev cX5_takeBack : ByteArray := prog_7_method_3_code
def yX5_takeBack : MethodName := ⟨RX5, "takeBack", "(LWindElection$Assembly;)Z"⟩
abbrev cX5_forget : ByteArray := prog_7_method_4_code
def yX5_forget : MethodName := ⟨RX5, "forget", "()V"⟩
def RX6 : String := "WindElection$Piles"
def TX6 : u_T := fun k => match k with
  | 0 => ("WindElection$Piles", "pileOf", "[I", true)
  | _ => ("WindElection$Piles", "round", "LWindElection$Round;", true)
def tyX6 : Nat → FieldType := fun k => match k with
  | 0 => .array .int
  | _ => .object "WindElection$Round"
abbrev wsX60 : List Cond := u_ws RX6 TX6 2
theorem nmX6 : ∀ a, a < 2 → ∀ b, b < 2 → a ≠ b → (TX6 a).2.1 ≠ (TX6 b).2.1 := by decide +kernel
theorem tyX6_ok : ∀ k, k < 2 → parseFieldDescriptor (TX6 k).2.2.1 = some (tyX6 k) := by decide +kernel
abbrev cX6_init : ByteArray := prog_8_method_1_code
def yX6_init : MethodName := ⟨RX6, "<init>", "()V"⟩
abbrev cX6_elect : ByteArray := prog_8_method_2_code
def yX6_elect : MethodName := ⟨RX6, "elect", "(LWindElection$Assembly;)I"⟩
abbrev cX6_transfer : ByteArray := prog_8_method_3_code
def yX6_transfer : MethodName := ⟨RX6, "transfer", "(LWindElection$Assembly;I)V"⟩
def RX7 : String := "WindElection$Reader"
def TX7 : u_T := fun k => match k with
  | 0 => ("WindElection$Reader", "text", "LWindElection$Text;", true)
  | 1 => ("WindElection$Reader", "position", "I", false)
  | 2 => ("WindElection$Reader", "word", "LWindElection$Word;", false)
  | 3 => ("WindElection$Reader", "numbers", "[I", true)
  | _ => ("WindElection$Reader", "numberCount", "I", false)
def tyX7 : Nat → FieldType := fun k => match k with
  | 0 => .object "WindElection$Text"
  | 1 => .int
  | 2 => .object "WindElection$Word"
  | 3 => .array .int
  | _ => .int
abbrev wsX70 : List Cond := u_ws RX7 TX7 5
theorem nmX7 : ∀ a, a < 5 → ∀ b, b < 5 → a ≠ b → (TX7 a).2.1 ≠ (TX7 b).2.1 := by decide +kernel
theorem tyX7_ok : ∀ k, k < 5 → parseFieldDescriptor (TX7 k).2.2.1 = some (tyX7 k) := by decide +kernel
abbrev cX7_init : ByteArray := prog_9_method_1_code
def yX7_init : MethodName := ⟨RX7, "<init>", "()V"⟩
abbrev cX7_rewind : ByteArray := prog_9_method_2_code
def yX7_rewind : MethodName := ⟨RX7, "rewind", "()V"⟩
abbrev cX7_countCommands : ByteArray := prog_9_method_3_code
def yX7_countCommands : MethodName := ⟨RX7, "countCommands", "()I"⟩
abbrev cX7_readCommand : ByteArray := prog_9_method_4_code
def yX7_readCommand : MethodName := ⟨RX7, "readCommand", "()Z"⟩
abbrev cX7_readWord : ByteArray := prog_9_method_5_code
def yX7_readWord : MethodName := ⟨RX7, "readWord", "()Z"⟩
abbrev cX7_lettersRead : ByteArray := prog_9_method_6_code
def yX7_lettersRead : MethodName := ⟨RX7, "lettersRead", "(Ljava/lang/String;)I"⟩
abbrev cX7_readParameter : ByteArray := prog_9_method_7_code
def yX7_readParameter : MethodName := ⟨RX7, "readParameter", "(I)Z"⟩
abbrev cX7_readFurtherWinds : ByteArray := prog_9_method_8_code
def yX7_readFurtherWinds : MethodName := ⟨RX7, "readFurtherWinds", "()Z"⟩
abbrev cX7_readNumber : ByteArray := prog_9_method_9_code
def yX7_readNumber : MethodName := ⟨RX7, "readNumber", "(I)Z"⟩
abbrev cX7_accept : ByteArray := prog_9_method_10_code
def yX7_accept : MethodName := ⟨RX7, "accept", "(C)Z"⟩
def RX8 : String := "WindElection$Round"
def TX8 : u_T := fun k => match k with
  | 0 => ("WindElection$Round", "votes", "[I", true)
  | 1 => ("WindElection$Round", "exhausted", "I", false)
  | 2 => ("WindElection$Round", "winner", "I", false)
  | 3 => ("WindElection$Round", "eliminated", "I", false)
  | _ => ("WindElection$Round", "tie", "Z", false)
def tyX8 : Nat → FieldType := fun k => match k with
  | 0 => .array .int
  | 1 => .int
  | 2 => .int
  | 3 => .int
  | _ => .boolean
abbrev wsX80 : List Cond := u_ws RX8 TX8 5
theorem nmX8 : ∀ a, a < 5 → ∀ b, b < 5 → a ≠ b → (TX8 a).2.1 ≠ (TX8 b).2.1 := by decide +kernel
theorem tyX8_ok : ∀ k, k < 5 → parseFieldDescriptor (TX8 k).2.2.1 = some (tyX8 k) := by decide +kernel
abbrev cX8_init : ByteArray := prog_10_method_1_code
def yX8_init : MethodName := ⟨RX8, "<init>", "()V"⟩
abbrev cX8_openFirst : ByteArray := prog_10_method_2_code
def yX8_openFirst : MethodName := ⟨RX8, "openFirst", "(LWindElection$Assembly;)V"⟩
abbrev cX8_openAfter : ByteArray := prog_10_method_3_code
def yX8_openAfter : MethodName := ⟨RX8, "openAfter", "(LWindElection$Round;)V"⟩
abbrev cX8_continues : ByteArray := prog_10_method_4_code
def yX8_continues : MethodName := ⟨RX8, "continues", "(I)Z"⟩
abbrev cX8_votesOf : ByteArray := prog_10_method_5_code
def yX8_votesOf : MethodName := ⟨RX8, "votesOf", "(I)I"⟩
abbrev cX8_add : ByteArray := prog_10_method_6_code
def yX8_add : MethodName := ⟨RX8, "add", "(LWindElection$Ballot;)I"⟩
abbrev cX8_decide : ByteArray := prog_10_method_7_code
def yX8_decide : MethodName := ⟨RX8, "decide", "(I)I"⟩
abbrev cX8_windThatWins : ByteArray := prog_10_method_8_code
def yX8_windThatWins : MethodName := ⟨RX8, "windThatWins", "(II)I"⟩
abbrev cX8_sumOfVotes : ByteArray := prog_10_method_9_code
def yX8_sumOfVotes : MethodName := ⟨RX8, "sumOfVotes", "()I"⟩
abbrev cX8_continuingWinds : ByteArray := prog_10_method_10_code
def yX8_continuingWinds : MethodName := ⟨RX8, "continuingWinds", "()I"⟩
abbrev cX8_fewestVotes : ByteArray := prog_10_method_11_code
def yX8_fewestVotes : MethodName := ⟨RX8, "fewestVotes", "()I"⟩
abbrev cX8_windsWith : ByteArray := prog_10_method_12_code
def yX8_windsWith : MethodName := ⟨RX8, "windsWith", "(I)I"⟩
abbrev cX8_windWith : ByteArray := prog_10_method_13_code
def yX8_windWith : MethodName := ⟨RX8, "windWith", "(II)I"⟩
def RX9 : String := "WindElection$Text"
def TX9 : u_T := fun k => match k with
  | 0 => ("WindElection$Text", "characters", "[C", true)
  | _ => ("WindElection$Text", "length", "I", false)
def tyX9 : Nat → FieldType := fun k => match k with
  | 0 => .array .char
  | _ => .int
abbrev wsX90 : List Cond := u_ws RX9 TX9 2
theorem nmX9 : ∀ a, a < 2 → ∀ b, b < 2 → a ≠ b → (TX9 a).2.1 ≠ (TX9 b).2.1 := by decide +kernel
theorem tyX9_ok : ∀ k, k < 2 → parseFieldDescriptor (TX9 k).2.2.1 = some (tyX9 k) := by decide +kernel
abbrev cX9_init : ByteArray := prog_11_method_1_code
def yX9_init : MethodName := ⟨RX9, "<init>", "()V"⟩
abbrev cX9_clear : ByteArray := prog_11_method_2_code
def yX9_clear : MethodName := ⟨RX9, "clear", "()V"⟩
abbrev cX9_append : ByteArray := prog_11_method_3_code
def yX9_append : MethodName := ⟨RX9, "append", "(C)Z"⟩
abbrev cX9_appendNumber : ByteArray := prog_11_method_4_code
def yX9_appendNumber : MethodName := ⟨RX9, "appendNumber", "(I)V"⟩
abbrev cX9_hasAt : ByteArray := prog_11_method_5_code
def yX9_hasAt : MethodName := ⟨RX9, "hasAt", "(IC)Z"⟩
abbrev cX9_digitAt : ByteArray := prog_11_method_6_code
def yX9_digitAt : MethodName := ⟨RX9, "digitAt", "(I)I"⟩
def RX10 : String := "WindElection$Word"
def TX10 : u_T := fun k => match k with
  | _ => ("", "", "", false)
def tyX10 : Nat → FieldType := fun k => match k with
  | _ => .int
abbrev wsX100 : List Cond := u_ws RX10 TX10 0
theorem nmX10 : ∀ a, a < 0 → ∀ b, b < 0 → a ≠ b → (TX10 a).2.1 ≠ (TX10 b).2.1 := by decide +kernel
theorem tyX10_ok : ∀ k, k < 0 → parseFieldDescriptor (TX10 k).2.2.1 = some (tyX10 k) := by decide +kernel
def RX11 : String := "WindElection"
def TX11 : u_T := fun k => match k with
  | 0 => ("WindElection", "assembly", "LWindElection$Assembly;", true)
  | 1 => ("WindElection", "before", "LWindElection$Assembly;", true)
  | 2 => ("WindElection", "snapshot", "LWindElection$Assembly;", true)
  | 3 => ("WindElection", "hasSnapshot", "Z", false)
  | 4 => ("WindElection", "history", "LWindElection$History;", true)
  | 5 => ("WindElection", "count", "LWindElection$Count;", true)
  | 6 => ("WindElection", "piles", "LWindElection$Piles;", true)
  | 7 => ("WindElection", "scores", "[I", true)
  | 8 => ("WindElection", "line", "LWindElection$Text;", true)
  | 9 => ("WindElection", "reader", "LWindElection$Reader;", true)
  | 10 => ("WindElection", "lastErrorPosition", "I", false)
  | _ => ("WindElection", "lastFailedCommand", "I", false)
def tyX11 : Nat → FieldType := fun k => match k with
  | 0 => .object "WindElection$Assembly"
  | 1 => .object "WindElection$Assembly"
  | 2 => .object "WindElection$Assembly"
  | 3 => .boolean
  | 4 => .object "WindElection$History"
  | 5 => .object "WindElection$Count"
  | 6 => .object "WindElection$Piles"
  | 7 => .array .int
  | 8 => .object "WindElection$Text"
  | 9 => .object "WindElection$Reader"
  | 10 => .int
  | _ => .int
abbrev wsX110 : List Cond := u_ws RX11 TX11 12
theorem nmX11 : ∀ a, a < 12 → ∀ b, b < 12 → a ≠ b → (TX11 a).2.1 ≠ (TX11 b).2.1 := by decide +kernel
theorem tyX11_ok : ∀ k, k < 12 → parseFieldDescriptor (TX11 k).2.2.1 = some (tyX11 k) := by decide +kernel
abbrev cX11_init : ByteArray := prog_1_method_1_code
def yX11_init : MethodName := ⟨RX11, "<init>", "()V"⟩
abbrev cX11_addWind : ByteArray := prog_1_method_2_code
def yX11_addWind : MethodName := ⟨RX11, "addWind", "()I"⟩
abbrev cX11_withdraw : ByteArray := prog_1_method_3_code
def yX11_withdraw : MethodName := ⟨RX11, "withdraw", "(I)I"⟩
abbrev cX11_windCount : ByteArray := prog_1_method_4_code
def yX11_windCount : MethodName := ⟨RX11, "windCount", "()I"⟩
abbrev cX11_standingCount : ByteArray := prog_1_method_5_code
def yX11_standingCount : MethodName := ⟨RX11, "standingCount", "()I"⟩
abbrev cX11_isStanding : ByteArray := prog_1_method_6_code
def yX11_isStanding : MethodName := ⟨RX11, "isStanding", "(I)Z"⟩
abbrev cX11_hasSeat : ByteArray := prog_1_method_7_code
def yX11_hasSeat : MethodName := ⟨RX11, "hasSeat", "(I)Z"⟩
abbrev cX11_addBallot : ByteArray := prog_1_method_8_code
def yX11_addBallot : MethodName := ⟨RX11, "addBallot", "(II)I"⟩
abbrev cX11_rank : ByteArray := prog_1_method_9_code
def yX11_rank : MethodName := ⟨RX11, "rank", "(II)I"⟩
abbrev cX11_removeBallot : ByteArray := prog_1_method_10_code
def yX11_removeBallot : MethodName := ⟨RX11, "removeBallot", "(I)I"⟩
abbrev cX11_recount : ByteArray := prog_1_method_11_code
def yX11_recount : MethodName := ⟨RX11, "recount", "(II)I"⟩
abbrev cX11_ballotCount : ByteArray := prog_1_method_12_code
def yX11_ballotCount : MethodName := ⟨RX11, "ballotCount", "()I"⟩
abbrev cX11_weightOf : ByteArray := prog_1_method_13_code
def yX11_weightOf : MethodName := ⟨RX11, "weightOf", "(I)I"⟩
abbrev cX11_rankCount : ByteArray := prog_1_method_14_code
def yX11_rankCount : MethodName := ⟨RX11, "rankCount", "(I)I"⟩
abbrev cX11_windAt : ByteArray := prog_1_method_15_code
def yX11_windAt : MethodName := ⟨RX11, "windAt", "(II)I"⟩
abbrev cX11_rankOf : ByteArray := prog_1_method_16_code
def yX11_rankOf : MethodName := ⟨RX11, "rankOf", "(II)I"⟩
abbrev cX11_totalWeight : ByteArray := prog_1_method_17_code
def yX11_totalWeight : MethodName := ⟨RX11, "totalWeight", "()I"⟩
abbrev cX11_winner : ByteArray := prog_1_method_18_code
def yX11_winner : MethodName := ⟨RX11, "winner", "()I"⟩
abbrev cX11_winnerByTransfers : ByteArray := prog_1_method_19_code
def yX11_winnerByTransfers : MethodName := ⟨RX11, "winnerByTransfers", "()I"⟩
abbrev cX11_roundCount : ByteArray := prog_1_method_20_code
def yX11_roundCount : MethodName := ⟨RX11, "roundCount", "()I"⟩
abbrev cX11_votesIn : ByteArray := prog_1_method_21_code
def yX11_votesIn : MethodName := ⟨RX11, "votesIn", "(II)I"⟩
abbrev cX11_exhaustedIn : ByteArray := prog_1_method_22_code
def yX11_exhaustedIn : MethodName := ⟨RX11, "exhaustedIn", "(I)I"⟩
abbrev cX11_eliminatedIn : ByteArray := prog_1_method_23_code
def yX11_eliminatedIn : MethodName := ⟨RX11, "eliminatedIn", "(I)I"⟩
abbrev cX11_isTieIn : ByteArray := prog_1_method_24_code
def yX11_isTieIn : MethodName := ⟨RX11, "isTieIn", "(I)Z"⟩
abbrev cX11_roundOfElimination : ByteArray := prog_1_method_25_code
def yX11_roundOfElimination : MethodName := ⟨RX11, "roundOfElimination", "(I)I"⟩
abbrev cX11_winnerShare : ByteArray := prog_1_method_26_code
def yX11_winnerShare : MethodName := ⟨RX11, "winnerShare", "()F"⟩
abbrev cX11_preference : ByteArray := prog_1_method_27_code
def yX11_preference : MethodName := ⟨RX11, "preference", "(II)I"⟩
abbrev cX11_beats : ByteArray := prog_1_method_28_code
def yX11_beats : MethodName := ⟨RX11, "beats", "(II)Z"⟩
abbrev cX11_victories : ByteArray := prog_1_method_29_code
def yX11_victories : MethodName := ⟨RX11, "victories", "(I)I"⟩
abbrev cX11_championOfPairs : ByteArray := prog_1_method_30_code
def yX11_championOfPairs : MethodName := ⟨RX11, "championOfPairs", "()I"⟩
abbrev cX11_championByDuels : ByteArray := prog_1_method_31_code
def yX11_championByDuels : MethodName := ⟨RX11, "championByDuels", "()I"⟩
abbrev cX11_scoreOf : ByteArray := prog_1_method_32_code
def yX11_scoreOf : MethodName := ⟨RX11, "scoreOf", "(I)I"⟩
abbrev cX11_windByScore : ByteArray := prog_1_method_33_code
def yX11_windByScore : MethodName := ⟨RX11, "windByScore", "(I)I"⟩
abbrev cX11_spin : ByteArray := prog_1_method_34_code
def yX11_spin : MethodName := ⟨RX11, "spin", "()I"⟩
abbrev cX11_spinValue : ByteArray := prog_1_method_35_code
def yX11_spinValue : MethodName := ⟨RX11, "spinValue", "()I"⟩
abbrev cX11_certify : ByteArray := prog_1_method_36_code
def yX11_certify : MethodName := ⟨RX11, "certify", "()I"⟩
abbrev cX11_seatCount : ByteArray := prog_1_method_37_code
def yX11_seatCount : MethodName := ⟨RX11, "seatCount", "()I"⟩
abbrev cX11_seatAt : ByteArray := prog_1_method_38_code
def yX11_seatAt : MethodName := ⟨RX11, "seatAt", "(I)I"⟩
abbrev cX11_writeBallot : ByteArray := prog_1_method_39_code
def yX11_writeBallot : MethodName := ⟨RX11, "writeBallot", "(I)I"⟩
abbrev cX11_writeCount : ByteArray := prog_1_method_40_code
def yX11_writeCount : MethodName := ⟨RX11, "writeCount", "()I"⟩
abbrev cX11_lineAt : ByteArray := prog_1_method_41_code
def yX11_lineAt : MethodName := ⟨RX11, "lineAt", "(I)C"⟩
abbrev cX11_meanRanks : ByteArray := prog_1_method_42_code
def yX11_meanRanks : MethodName := ⟨RX11, "meanRanks", "()D"⟩
abbrev cX11_isConsistent : ByteArray := prog_1_method_43_code
def yX11_isConsistent : MethodName := ⟨RX11, "isConsistent", "()Z"⟩
abbrev cX11_type : ByteArray := prog_1_method_44_code
def yX11_type : MethodName := ⟨RX11, "type", "(C)I"⟩
abbrev cX11_execute : ByteArray := prog_1_method_45_code
def yX11_execute : MethodName := ⟨RX11, "execute", "()I"⟩
abbrev cX11_errorPosition : ByteArray := prog_1_method_46_code
def yX11_errorPosition : MethodName := ⟨RX11, "errorPosition", "()I"⟩
abbrev cX11_failedCommand : ByteArray := prog_1_method_47_code
def yX11_failedCommand : MethodName := ⟨RX11, "failedCommand", "()I"⟩
abbrev cX11_undo : ByteArray := prog_1_method_48_code
def yX11_undo : MethodName := ⟨RX11, "undo", "()I"⟩
abbrev cX11_save : ByteArray := prog_1_method_49_code
def yX11_save : MethodName := ⟨RX11, "save", "()I"⟩
abbrev cX11_restore : ByteArray := prog_1_method_50_code
def yX11_restore : MethodName := ⟨RX11, "restore", "()I"⟩
abbrev cX11_checkWind : ByteArray := prog_1_method_51_code
def yX11_checkWind : MethodName := ⟨RX11, "checkWind", "(I)V"⟩
abbrev cX11_ballotNumbered : ByteArray := prog_1_method_52_code
def yX11_ballotNumbered : MethodName := ⟨RX11, "ballotNumbered", "(I)LWindElection$Ballot;"⟩
abbrev cX11_roundNumbered : ByteArray := prog_1_method_53_code
def yX11_roundNumbered : MethodName := ⟨RX11, "roundNumbered", "(I)LWindElection$Round;"⟩
abbrev cX11_found : ByteArray := prog_1_method_54_code
def yX11_found : MethodName := ⟨RX11, "found", "(I)I"⟩
abbrev cX11_settle : ByteArray := prog_1_method_55_code
def yX11_settle : MethodName := ⟨RX11, "settle", "(LWindElection$Fault;)V"⟩
abbrev cX11_refuse : ByteArray := prog_1_method_56_code
def yX11_refuse : MethodName := ⟨RX11, "refuse", "(LWindElection$Fault;)V"⟩
abbrev cX11_seatWinner : ByteArray := prog_1_method_57_code
def yX11_seatWinner : MethodName := ⟨RX11, "seatWinner", "()LWindElection$Fault;"⟩
abbrev cX11_placeByScore : ByteArray := prog_1_method_58_code
def yX11_placeByScore : MethodName := ⟨RX11, "placeByScore", "(I)I"⟩
abbrev cX11_writeRound : ByteArray := prog_1_method_59_code
def yX11_writeRound : MethodName := ⟨RX11, "writeRound", "(LWindElection$Round;)V"⟩
abbrev cX11_carryOutAll : ByteArray := prog_1_method_60_code
def yX11_carryOutAll : MethodName := ⟨RX11, "carryOutAll", "(I)I"⟩
abbrev cX11_carryOut : ByteArray := prog_1_method_61_code
def yX11_carryOut : MethodName := ⟨RX11, "carryOut", "()LWindElection$Fault;"⟩
abbrev cX11_carryOutBallot : ByteArray := prog_1_method_62_code
def yX11_carryOutBallot : MethodName := ⟨RX11, "carryOutBallot", "()LWindElection$Fault;"⟩
abbrev cX11_spun : ByteArray := prog_1_method_63_code
def yX11_spun : MethodName := ⟨RX11, "spun", "(I)I"⟩
def RX12 : String := "WindElectionModel"
def TX12 : u_T := fun k => match k with
  | 0 => ("WindElectionModel", "g", "[I", true)
  | 1 => ("WindElectionModel", "kept", "[I", true)
  | 2 => ("WindElectionModel", "saved", "[I", true)
  | 3 => ("WindElectionModel", "before", "[I", true)
  | 4 => ("WindElectionModel", "isSaved", "Z", false)
  | 5 => ("WindElectionModel", "changes", "I", false)
  | 6 => ("WindElectionModel", "isWithin", "Z", false)
  | 7 => ("WindElectionModel", "code", "I", false)
  | 8 => ("WindElectionModel", "input", "[I", true)
  | 9 => ("WindElectionModel", "length", "I", false)
  | 10 => ("WindElectionModel", "fault", "I", false)
  | 11 => ("WindElectionModel", "failed", "I", false)
  | 12 => ("WindElectionModel", "signs", "[C", true)
  | 13 => ("WindElectionModel", "signMany", "I", false)
  | 14 => ("WindElectionModel", "votes", "[I", true)
  | 15 => ("WindElectionModel", "spent", "[I", true)
  | 16 => ("WindElectionModel", "out", "[I", true)
  | 17 => ("WindElectionModel", "isTied", "[Z", true)
  | 18 => ("WindElectionModel", "rounds", "I", false)
  | 19 => ("WindElectionModel", "won", "I", false)
  | 20 => ("WindElectionModel", "spun", "I", false)
  | 21 => ("WindElectionModel", "at", "I", false)
  | 22 => ("WindElectionModel", "told", "[I", true)
  | _ => ("WindElectionModel", "toldMany", "I", false)
def tyX12 : Nat → FieldType := fun k => match k with
  | 0 => .array .int
  | 1 => .array .int
  | 2 => .array .int
  | 3 => .array .int
  | 4 => .boolean
  | 5 => .int
  | 6 => .boolean
  | 7 => .int
  | 8 => .array .int
  | 9 => .int
  | 10 => .int
  | 11 => .int
  | 12 => .array .char
  | 13 => .int
  | 14 => .array .int
  | 15 => .array .int
  | 16 => .array .int
  | 17 => .array .boolean
  | 18 => .int
  | 19 => .int
  | 20 => .int
  | 21 => .int
  | 22 => .array .int
  | _ => .int
abbrev wsX120 : List Cond := u_ws RX12 TX12 24
theorem nmX12 : ∀ a, a < 24 → ∀ b, b < 24 → a ≠ b → (TX12 a).2.1 ≠ (TX12 b).2.1 := by decide +kernel
theorem tyX12_ok : ∀ k, k < 24 → parseFieldDescriptor (TX12 k).2.2.1 = some (tyX12 k) := by decide +kernel
abbrev cX12_init : ByteArray := prog_14_method_1_code
def yX12_init : MethodName := ⟨RX12, "<init>", "()V"⟩
abbrev cX12_thrown : ByteArray := prog_14_method_2_code
def yX12_thrown : MethodName := ⟨RX12, "thrown", "()I"⟩
abbrev cX12_fails : ByteArray := prog_14_method_3_code
def yX12_fails : MethodName := ⟨RX12, "fails", "(I)Z"⟩
abbrev cX12_in : ByteArray := prog_14_method_4_code
def yX12_in : MethodName := ⟨RX12, "in", "(III)Z"⟩
abbrev cX12_copies : ByteArray := prog_14_method_5_code
def yX12_copies : MethodName := ⟨RX12, "copies", "([II[II)V"⟩
abbrev cX12_keeps : ByteArray := prog_14_method_6_code
def yX12_keeps : MethodName := ⟨RX12, "keeps", "([I)V"⟩
abbrev cX12_isWind : ByteArray := prog_14_method_7_code
def yX12_isWind : MethodName := ⟨RX12, "isWind", "(I)Z"⟩
abbrev cX12_stands : ByteArray := prog_14_method_8_code
def yX12_stands : MethodName := ⟨RX12, "stands", "(I)Z"⟩
abbrev cX12_standing : ByteArray := prog_14_method_9_code
def yX12_standing : MethodName := ⟨RX12, "standing", "()I"⟩
abbrev cX12_isNone : ByteArray := prog_14_method_10_code
def yX12_isNone : MethodName := ⟨RX12, "isNone", "(I)Z"⟩
abbrev cX12_addWind : ByteArray := prog_14_method_11_code
def yX12_addWind : MethodName := ⟨RX12, "addWind", "()I"⟩
abbrev cX12_withdraw : ByteArray := prog_14_method_12_code
def yX12_withdraw : MethodName := ⟨RX12, "withdraw", "(I)I"⟩
abbrev cX12_windCount : ByteArray := prog_14_method_13_code
def yX12_windCount : MethodName := ⟨RX12, "windCount", "()I"⟩
abbrev cX12_standingCount : ByteArray := prog_14_method_14_code
def yX12_standingCount : MethodName := ⟨RX12, "standingCount", "()I"⟩
abbrev cX12_isStanding : ByteArray := prog_14_method_15_code
def yX12_isStanding : MethodName := ⟨RX12, "isStanding", "(I)Z"⟩
abbrev cX12_hasSeat : ByteArray := prog_14_method_16_code
def yX12_hasSeat : MethodName := ⟨RX12, "hasSeat", "(I)Z"⟩
abbrev cX12_isBallot : ByteArray := prog_14_method_17_code
def yX12_isBallot : MethodName := ⟨RX12, "isBallot", "(I)Z"⟩
abbrev cX12_of : ByteArray := prog_14_method_18_code
def yX12_of : MethodName := ⟨RX12, "of", "(II)I"⟩
abbrev cX12_ranked : ByteArray := prog_14_method_19_code
def yX12_ranked : MethodName := ⟨RX12, "ranked", "(II)I"⟩
abbrev cX12_isLost : ByteArray := prog_14_method_20_code
def yX12_isLost : MethodName := ⟨RX12, "isLost", "(I)Z"⟩
abbrev cX12_isWeight : ByteArray := prog_14_method_21_code
def yX12_isWeight : MethodName := ⟨RX12, "isWeight", "(I)Z"⟩
abbrev cX12_addBallot : ByteArray := prog_14_method_22_code
def yX12_addBallot : MethodName := ⟨RX12, "addBallot", "(II)I"⟩
abbrev cX12_rank : ByteArray := prog_14_method_23_code
def yX12_rank : MethodName := ⟨RX12, "rank", "(II)I"⟩
abbrev cX12_removeBallot : ByteArray := prog_14_method_24_code
def yX12_removeBallot : MethodName := ⟨RX12, "removeBallot", "(I)I"⟩
abbrev cX12_recount : ByteArray := prog_14_method_25_code
def yX12_recount : MethodName := ⟨RX12, "recount", "(II)I"⟩
abbrev cX12_ballotCount : ByteArray := prog_14_method_26_code
def yX12_ballotCount : MethodName := ⟨RX12, "ballotCount", "()I"⟩
abbrev cX12_weightOf : ByteArray := prog_14_method_27_code
def yX12_weightOf : MethodName := ⟨RX12, "weightOf", "(I)I"⟩
abbrev cX12_rankCount : ByteArray := prog_14_method_28_code
def yX12_rankCount : MethodName := ⟨RX12, "rankCount", "(I)I"⟩
abbrev cX12_windAt : ByteArray := prog_14_method_29_code
def yX12_windAt : MethodName := ⟨RX12, "windAt", "(II)I"⟩
abbrev cX12_rankOf : ByteArray := prog_14_method_30_code
def yX12_rankOf : MethodName := ⟨RX12, "rankOf", "(II)I"⟩
abbrev cX12_total : ByteArray := prog_14_method_31_code
def yX12_total : MethodName := ⟨RX12, "total", "()I"⟩
abbrev cX12_totalWeight : ByteArray := prog_14_method_32_code
def yX12_totalWeight : MethodName := ⟨RX12, "totalWeight", "()I"⟩
abbrev cX12_countsRound : ByteArray := prog_14_method_33_code
def yX12_countsRound : MethodName := ⟨RX12, "countsRound", "(I)V"⟩
abbrev cX12_wins : ByteArray := prog_14_method_34_code
def yX12_wins : MethodName := ⟨RX12, "wins", "(I)I"⟩
abbrev cX12_falls : ByteArray := prog_14_method_35_code
def yX12_falls : MethodName := ⟨RX12, "falls", "(I)I"⟩
abbrev cX12_counts : ByteArray := prog_14_method_36_code
def yX12_counts : MethodName := ⟨RX12, "counts", "()V"⟩
abbrev cX12_elected : ByteArray := prog_14_method_37_code
def yX12_elected : MethodName := ⟨RX12, "elected", "()I"⟩
abbrev cX12_winner : ByteArray := prog_14_method_38_code
def yX12_winner : MethodName := ⟨RX12, "winner", "()I"⟩
abbrev cX12_winnerByTransfers : ByteArray := prog_14_method_39_code
def yX12_winnerByTransfers : MethodName := ⟨RX12, "winnerByTransfers", "()I"⟩
abbrev cX12_roundCount : ByteArray := prog_14_method_40_code
def yX12_roundCount : MethodName := ⟨RX12, "roundCount", "()I"⟩
abbrev cX12_isRound : ByteArray := prog_14_method_41_code
def yX12_isRound : MethodName := ⟨RX12, "isRound", "(I)Z"⟩
abbrev cX12_votesIn : ByteArray := prog_14_method_42_code
def yX12_votesIn : MethodName := ⟨RX12, "votesIn", "(II)I"⟩
abbrev cX12_exhaustedIn : ByteArray := prog_14_method_43_code
def yX12_exhaustedIn : MethodName := ⟨RX12, "exhaustedIn", "(I)I"⟩
abbrev cX12_eliminatedIn : ByteArray := prog_14_method_44_code
def yX12_eliminatedIn : MethodName := ⟨RX12, "eliminatedIn", "(I)I"⟩
abbrev cX12_isTieIn : ByteArray := prog_14_method_45_code
def yX12_isTieIn : MethodName := ⟨RX12, "isTieIn", "(I)Z"⟩
abbrev cX12_roundOfElimination : ByteArray := prog_14_method_46_code
def yX12_roundOfElimination : MethodName := ⟨RX12, "roundOfElimination", "(I)I"⟩
abbrev cX12_winnerShare : ByteArray := prog_14_method_47_code
def yX12_winnerShare : MethodName := ⟨RX12, "winnerShare", "()F"⟩
abbrev cX12_prefers : ByteArray := prog_14_method_48_code
def yX12_prefers : MethodName := ⟨RX12, "prefers", "(II)I"⟩
abbrev cX12_areNone : ByteArray := prog_14_method_49_code
def yX12_areNone : MethodName := ⟨RX12, "areNone", "(II)Z"⟩
abbrev cX12_preference : ByteArray := prog_14_method_50_code
def yX12_preference : MethodName := ⟨RX12, "preference", "(II)I"⟩
abbrev cX12_isOver : ByteArray := prog_14_method_51_code
def yX12_isOver : MethodName := ⟨RX12, "isOver", "(II)Z"⟩
abbrev cX12_beats : ByteArray := prog_14_method_52_code
def yX12_beats : MethodName := ⟨RX12, "beats", "(II)Z"⟩
abbrev cX12_beaten : ByteArray := prog_14_method_53_code
def yX12_beaten : MethodName := ⟨RX12, "beaten", "(I)I"⟩
abbrev cX12_victories : ByteArray := prog_14_method_54_code
def yX12_victories : MethodName := ⟨RX12, "victories", "(I)I"⟩
abbrev cX12_champion : ByteArray := prog_14_method_55_code
def yX12_champion : MethodName := ⟨RX12, "champion", "()I"⟩
abbrev cX12_championOfPairs : ByteArray := prog_14_method_56_code
def yX12_championOfPairs : MethodName := ⟨RX12, "championOfPairs", "()I"⟩
abbrev cX12_championByDuels : ByteArray := prog_14_method_57_code
def yX12_championByDuels : MethodName := ⟨RX12, "championByDuels", "()I"⟩
abbrev cX12_score : ByteArray := prog_14_method_58_code
def yX12_score : MethodName := ⟨RX12, "score", "(I)I"⟩
abbrev cX12_scoreOf : ByteArray := prog_14_method_59_code
def yX12_scoreOf : MethodName := ⟨RX12, "scoreOf", "(I)I"⟩
abbrev cX12_windByScore : ByteArray := prog_14_method_60_code
def yX12_windByScore : MethodName := ⟨RX12, "windByScore", "(I)I"⟩
abbrev cX12_spin : ByteArray := prog_14_method_61_code
def yX12_spin : MethodName := ⟨RX12, "spin", "()I"⟩
abbrev cX12_spinValue : ByteArray := prog_14_method_62_code
def yX12_spinValue : MethodName := ⟨RX12, "spinValue", "()I"⟩
abbrev cX12_certify : ByteArray := prog_14_method_63_code
def yX12_certify : MethodName := ⟨RX12, "certify", "()I"⟩
abbrev cX12_seatCount : ByteArray := prog_14_method_64_code
def yX12_seatCount : MethodName := ⟨RX12, "seatCount", "()I"⟩
abbrev cX12_seatAt : ByteArray := prog_14_method_65_code
def yX12_seatAt : MethodName := ⟨RX12, "seatAt", "(I)I"⟩
abbrev cX12_writes : ByteArray := prog_14_method_66_code
def yX12_writes : MethodName := ⟨RX12, "writes", "(I)V"⟩
abbrev cX12_writesNumber : ByteArray := prog_14_method_67_code
def yX12_writesNumber : MethodName := ⟨RX12, "writesNumber", "(I)V"⟩
abbrev cX12_writeBallot : ByteArray := prog_14_method_68_code
def yX12_writeBallot : MethodName := ⟨RX12, "writeBallot", "(I)I"⟩
abbrev cX12_writeCount : ByteArray := prog_14_method_69_code
def yX12_writeCount : MethodName := ⟨RX12, "writeCount", "()I"⟩
abbrev cX12_lineAt : ByteArray := prog_14_method_70_code
def yX12_lineAt : MethodName := ⟨RX12, "lineAt", "(I)C"⟩
abbrev cX12_meanRanks : ByteArray := prog_14_method_71_code
def yX12_meanRanks : MethodName := ⟨RX12, "meanRanks", "()D"⟩
abbrev cX12_isConsistent : ByteArray := prog_14_method_72_code
def yX12_isConsistent : MethodName := ⟨RX12, "isConsistent", "()Z"⟩
abbrev cX12_type : ByteArray := prog_14_method_73_code
def yX12_type : MethodName := ⟨RX12, "type", "(C)I"⟩
abbrev cX12_here : ByteArray := prog_14_method_74_code
def yX12_here : MethodName := ⟨RX12, "here", "()I"⟩
abbrev cX12_skips : ByteArray := prog_14_method_75_code
def yX12_skips : MethodName := ⟨RX12, "skips", "(I)Z"⟩
abbrev cX12_isWord : ByteArray := prog_14_method_76_code
def yX12_isWord : MethodName := ⟨RX12, "isWord", "(ILjava/lang/String;)Z"⟩
abbrev cX12_digits : ByteArray := prog_14_method_77_code
def yX12_digits : MethodName := ⟨RX12, "digits", "(II)Z"⟩
abbrev cX12_figures : ByteArray := prog_14_method_78_code
def yX12_figures : MethodName := ⟨RX12, "figures", "(II)Z"⟩
abbrev cX12_windsHere : ByteArray := prog_14_method_79_code
def yX12_windsHere : MethodName := ⟨RX12, "windsHere", "(I)Z"⟩
abbrev cX12_withR : ByteArray := prog_14_method_80_code
def yX12_withR : MethodName := ⟨RX12, "withR", "(I)Z"⟩
abbrev cX12_commandHere : ByteArray := prog_14_method_81_code
def yX12_commandHere : MethodName := ⟨RX12, "commandHere", "()Z"⟩
abbrev cX12_isText : ByteArray := prog_14_method_82_code
def yX12_isText : MethodName := ⟨RX12, "isText", "()Z"⟩
abbrev cX12_fills : ByteArray := prog_14_method_83_code
def yX12_fills : MethodName := ⟨RX12, "fills", "(I)I"⟩
abbrev cX12_carries : ByteArray := prog_14_method_84_code
def yX12_carries : MethodName := ⟨RX12, "carries", "(I)I"⟩
abbrev cX12_execute : ByteArray := prog_14_method_85_code
def yX12_execute : MethodName := ⟨RX12, "execute", "()I"⟩
abbrev cX12_errorPosition : ByteArray := prog_14_method_86_code
def yX12_errorPosition : MethodName := ⟨RX12, "errorPosition", "()I"⟩
abbrev cX12_failedCommand : ByteArray := prog_14_method_87_code
def yX12_failedCommand : MethodName := ⟨RX12, "failedCommand", "()I"⟩
abbrev cX12_undo : ByteArray := prog_14_method_88_code
def yX12_undo : MethodName := ⟨RX12, "undo", "()I"⟩
abbrev cX12_save : ByteArray := prog_14_method_89_code
def yX12_save : MethodName := ⟨RX12, "save", "()I"⟩
abbrev cX12_restore : ByteArray := prog_14_method_90_code
def yX12_restore : MethodName := ⟨RX12, "restore", "()I"⟩
def RJx145de : String := "java/io/Serializable"
def TJx145de : u_T := fun k => match k with
  | _ => ("", "", "", false)
def tyJx145de : Nat → FieldType := fun k => match k with
  | _ => .int
abbrev wsJx145de0 : List Cond := u_ws RJx145de TJx145de 0
theorem nmJx145de : ∀ a, a < 0 → ∀ b, b < 0 → a ≠ b → (TJx145de a).2.1 ≠ (TJx145de b).2.1 := by decide +kernel
theorem tyJx145de_ok : ∀ k, k < 0 → parseFieldDescriptor (TJx145de k).2.2.1 = some (tyJx145de k) := by decide +kernel
def RJx00060 : String := "java/lang/ArrayIndexOutOfBoundsException"
def TJx00060 : u_T := fun k => match k with
  | 0 => ("java/lang/Throwable", "backtrace", "Ljava/lang/Object;", false)
  | 1 => ("java/lang/Throwable", "detailMessage", "Ljava/lang/String;", false)
  | 2 => ("java/lang/Throwable", "cause", "Ljava/lang/Throwable;", false)
  | 3 => ("java/lang/Throwable", "stackTrace", "[Ljava/lang/StackTraceElement;", false)
  | 4 => ("java/lang/Throwable", "depth", "I", false)
  | _ => ("java/lang/Throwable", "suppressedExceptions", "Ljava/util/List;", false)
def tyJx00060 : Nat → FieldType := fun k => match k with
  | 0 => .object "java/lang/Object"
  | 1 => .object "java/lang/String"
  | 2 => .object "java/lang/Throwable"
  | 3 => .array (.object "java/lang/StackTraceElement")
  | 4 => .int
  | _ => .object "java/util/List"
abbrev wsJx000600 : List Cond := u_ws RJx00060 TJx00060 6
theorem nmJx00060 : ∀ a, a < 6 → ∀ b, b < 6 → a ≠ b → (TJx00060 a).2.1 ≠ (TJx00060 b).2.1 := by decide +kernel
theorem tyJx00060_ok : ∀ k, k < 6 → parseFieldDescriptor (TJx00060 k).2.2.1 = some (tyJx00060 k) := by decide +kernel
abbrev cJx00060_init_a7421 : ByteArray := prog_17_method_2_code
def yJx00060_init_a7421 : MethodName := ⟨RJx00060, "<init>", "(Ljava/lang/String;)V"⟩
def RJx9f9b0 : String := "java/lang/CharSequence"
def TJx9f9b0 : u_T := fun k => match k with
  | _ => ("", "", "", false)
def tyJx9f9b0 : Nat → FieldType := fun k => match k with
  | _ => .int
abbrev wsJx9f9b00 : List Cond := u_ws RJx9f9b0 TJx9f9b0 0
theorem nmJx9f9b0 : ∀ a, a < 0 → ∀ b, b < 0 → a ≠ b → (TJx9f9b0 a).2.1 ≠ (TJx9f9b0 b).2.1 := by decide +kernel
theorem tyJx9f9b0_ok : ∀ k, k < 0 → parseFieldDescriptor (TJx9f9b0 k).2.2.1 = some (tyJx9f9b0 k) := by decide +kernel
def RJxb160c : String := "java/lang/Comparable"
def TJxb160c : u_T := fun k => match k with
  | _ => ("", "", "", false)
def tyJxb160c : Nat → FieldType := fun k => match k with
  | _ => .int
abbrev wsJxb160c0 : List Cond := u_ws RJxb160c TJxb160c 0
theorem nmJxb160c : ∀ a, a < 0 → ∀ b, b < 0 → a ≠ b → (TJxb160c a).2.1 ≠ (TJxb160c b).2.1 := by decide +kernel
theorem tyJxb160c_ok : ∀ k, k < 0 → parseFieldDescriptor (TJxb160c k).2.2.1 = some (tyJxb160c k) := by decide +kernel
def RJx29ce0 : String := "java/lang/Enum"
def TJx29ce0 : u_T := fun k => match k with
  | _ => ("", "", "", false)
def tyJx29ce0 : Nat → FieldType := fun k => match k with
  | _ => .int
abbrev wsJx29ce00 : List Cond := u_ws RJx29ce0 TJx29ce0 0
theorem nmJx29ce0 : ∀ a, a < 0 → ∀ b, b < 0 → a ≠ b → (TJx29ce0 a).2.1 ≠ (TJx29ce0 b).2.1 := by decide +kernel
theorem tyJx29ce0_ok : ∀ k, k < 0 → parseFieldDescriptor (TJx29ce0 k).2.2.1 = some (tyJx29ce0 k) := by decide +kernel
abbrev cJx29ce0_ordinal_8abf5 : ByteArray := prog_20_method_2_code
def yJx29ce0_ordinal_8abf5 : MethodName := ⟨RJx29ce0, "ordinal", "()I"⟩
def RJ9 : String := "java/lang/Math"
def TJ9 : u_T := fun k => match k with
  | _ => ("", "", "", false)
def tyJ9 : Nat → FieldType := fun k => match k with
  | _ => .int
abbrev wsJ90 : List Cond := u_ws RJ9 TJ9 0
theorem nmJ9 : ∀ a, a < 0 → ∀ b, b < 0 → a ≠ b → (TJ9 a).2.1 ≠ (TJ9 b).2.1 := by decide +kernel
theorem tyJ9_ok : ∀ k, k < 0 → parseFieldDescriptor (TJ9 k).2.2.1 = some (tyJ9 k) := by decide +kernel
abbrev cJ9_max_7cf53 : ByteArray := prog_25_method_65_code
def yJ9_max_7cf53 : MethodName := ⟨RJ9, "max", "(II)I"⟩
def RJ0 : String := "java/lang/String"
def TJ0 : u_T := fun k => match k with
  | 0 => ("java/lang/String", "value", "[B", true)
  | _ => ("java/lang/String", "coder", "B", true)
def tyJ0 : Nat → FieldType := fun k => match k with
  | 0 => .array .byte
  | _ => .byte
abbrev wsJ00 : List Cond := u_ws RJ0 TJ0 2
theorem nmJ0 : ∀ a, a < 2 → ∀ b, b < 2 → a ≠ b → (TJ0 a).2.1 ≠ (TJ0 b).2.1 := by decide +kernel
theorem tyJ0_ok : ∀ k, k < 2 → parseFieldDescriptor (TJ0 k).2.2.1 = some (tyJ0 k) := by decide +kernel
abbrev cJ0_length_8abf5 : ByteArray := prog_27_method_54_code
def yJ0_length_8abf5 : MethodName := ⟨RJ0, "length", "()I"⟩
abbrev cJ0_charAt_5068e : ByteArray := prog_27_method_56_code
def yJ0_charAt_5068e : MethodName := ⟨RJ0, "charAt", "(I)C"⟩
abbrev cJ0_coder_7d493 : ByteArray := prog_27_method_152_code
def yJ0_coder_7d493 : MethodName := ⟨RJ0, "coder", "()B"⟩
abbrev cJ0_isLatin1_aae02 : ByteArray := prog_27_method_154_code
def yJ0_isLatin1_aae02 : MethodName := ⟨RJ0, "isLatin1", "()Z"⟩
abbrev cJ0_checkIndex_df160 : ByteArray := prog_27_method_155_code
def yJ0_checkIndex_df160 : MethodName := ⟨RJ0, "checkIndex", "(II)V"⟩
def RJ1 : String := "java/lang/StringLatin1"
def TJ1 : u_T := fun k => match k with
  | _ => ("", "", "", false)
def tyJ1 : Nat → FieldType := fun k => match k with
  | _ => .int
abbrev wsJ10 : List Cond := u_ws RJ1 TJ1 0
theorem nmJ1 : ∀ a, a < 0 → ∀ b, b < 0 → a ≠ b → (TJ1 a).2.1 ≠ (TJ1 b).2.1 := by decide +kernel
theorem tyJ1_ok : ∀ k, k < 0 → parseFieldDescriptor (TJ1 k).2.2.1 = some (tyJ1 k) := by decide +kernel
abbrev cJ1_charAt_3b067 : ByteArray := prog_28_method_2_code
def yJ1_charAt_3b067 : MethodName := ⟨RJ1, "charAt", "([BI)C"⟩
def RJ2 : String := "java/lang/StringUTF16"
def TJ2 : u_T := fun k => match k with
  | _ => ("", "", "", false)
def tyJ2 : Nat → FieldType := fun k => match k with
  | _ => .int
abbrev wsJ20 : List Cond := u_ws RJ2 TJ2 0
theorem nmJ2 : ∀ a, a < 0 → ∀ b, b < 0 → a ≠ b → (TJ2 a).2.1 ≠ (TJ2 b).2.1 := by decide +kernel
theorem tyJ2_ok : ∀ k, k < 0 → parseFieldDescriptor (TJ2 k).2.2.1 = some (tyJ2 k) := by decide +kernel
abbrev cJ2_getChar_3b067 : ByteArray := prog_29_method_5_code
def yJ2_getChar_3b067 : MethodName := ⟨RJ2, "getChar", "([BI)C"⟩
abbrev cJ2_length_9d52b : ByteArray := prog_29_method_6_code
def yJ2_length_9d52b : MethodName := ⟨RJ2, "length", "([B)I"⟩
abbrev cJ2_charAt_3b067 : ByteArray := prog_29_method_83_code
def yJ2_charAt_3b067 : MethodName := ⟨RJ2, "charAt", "([BI)C"⟩
abbrev cJ2_checkIndex_2214a : ByteArray := prog_29_method_91_code
def yJ2_checkIndex_2214a : MethodName := ⟨RJ2, "checkIndex", "(I[B)V"⟩
def RJ10 : String := "java/lang/System"
def TJ10 : u_T := fun k => match k with
  | _ => ("", "", "", false)
def tyJ10 : Nat → FieldType := fun k => match k with
  | _ => .int
abbrev wsJ100 : List Cond := u_ws RJ10 TJ10 0
theorem nmJ10 : ∀ a, a < 0 → ∀ b, b < 0 → a ≠ b → (TJ10 a).2.1 ≠ (TJ10 b).2.1 := by decide +kernel
theorem tyJ10_ok : ∀ k, k < 0 → parseFieldDescriptor (TJ10 k).2.2.1 = some (tyJ10 k) := by decide +kernel
def RJxfd54e : String := "java/lang/constant/Constable"
def TJxfd54e : u_T := fun k => match k with
  | _ => ("", "", "", false)
def tyJxfd54e : Nat → FieldType := fun k => match k with
  | _ => .int
abbrev wsJxfd54e0 : List Cond := u_ws RJxfd54e TJxfd54e 0
theorem nmJxfd54e : ∀ a, a < 0 → ∀ b, b < 0 → a ≠ b → (TJxfd54e a).2.1 ≠ (TJxfd54e b).2.1 := by decide +kernel
theorem tyJxfd54e_ok : ∀ k, k < 0 → parseFieldDescriptor (TJxfd54e k).2.2.1 = some (tyJxfd54e k) := by decide +kernel
def RJx3cf43 : String := "java/lang/constant/ConstantDesc"
def TJx3cf43 : u_T := fun k => match k with
  | _ => ("", "", "", false)
def tyJx3cf43 : Nat → FieldType := fun k => match k with
  | _ => .int
abbrev wsJx3cf430 : List Cond := u_ws RJx3cf43 TJx3cf43 0
theorem nmJx3cf43 : ∀ a, a < 0 → ∀ b, b < 0 → a ≠ b → (TJx3cf43 a).2.1 ≠ (TJx3cf43 b).2.1 := by decide +kernel
theorem tyJx3cf43_ok : ∀ k, k < 0 → parseFieldDescriptor (TJx3cf43 k).2.2.1 = some (tyJx3cf43 k) := by decide +kernel
def RJ3 : String := "jdk/internal/util/Preconditions"
def TJ3 : u_T := fun k => match k with
  | _ => ("", "", "", false)
def tyJ3 : Nat → FieldType := fun k => match k with
  | _ => .int
abbrev wsJ30 : List Cond := u_ws RJ3 TJ3 0
theorem nmJ3 : ∀ a, a < 0 → ∀ b, b < 0 → a ≠ b → (TJ3 a).2.1 ≠ (TJ3 b).2.1 := by decide +kernel
theorem tyJ3_ok : ∀ k, k < 0 → parseFieldDescriptor (TJ3 k).2.2.1 = some (tyJ3 k) := by decide +kernel
abbrev cJ3_checkIndex_8e157 : ByteArray := prog_35_method_11_code
def yJ3_checkIndex_8e157 : MethodName := ⟨RJ3, "checkIndex", "(IILjava/util/function/BiFunction;)I"⟩
def RL : String := "WindElectionLaw"
abbrev cL_addWind : ByteArray := method_3_code
def yL_addWind : MethodName := ⟨RL, "addWind", "(LWindElection;[J)I"⟩
abbrev cL_withdraw : ByteArray := method_4_code
def yL_withdraw : MethodName := ⟨RL, "withdraw", "(LWindElection;I[J)I"⟩
abbrev cL_isStanding : ByteArray := method_5_code
def yL_isStanding : MethodName := ⟨RL, "isStanding", "(LWindElection;I[J)I"⟩
abbrev cL_hasSeat : ByteArray := method_6_code
def yL_hasSeat : MethodName := ⟨RL, "hasSeat", "(LWindElection;I[J)I"⟩
abbrev cL_addBallot : ByteArray := method_7_code
def yL_addBallot : MethodName := ⟨RL, "addBallot", "(LWindElection;II[J)I"⟩
abbrev cL_rank : ByteArray := method_8_code
def yL_rank : MethodName := ⟨RL, "rank", "(LWindElection;II[J)I"⟩
abbrev cL_removeBallot : ByteArray := method_9_code
def yL_removeBallot : MethodName := ⟨RL, "removeBallot", "(LWindElection;I[J)I"⟩
abbrev cL_recount : ByteArray := method_10_code
def yL_recount : MethodName := ⟨RL, "recount", "(LWindElection;II[J)I"⟩
abbrev cL_weightOf : ByteArray := method_11_code
def yL_weightOf : MethodName := ⟨RL, "weightOf", "(LWindElection;I[J)I"⟩
abbrev cL_rankCount : ByteArray := method_12_code
def yL_rankCount : MethodName := ⟨RL, "rankCount", "(LWindElection;I[J)I"⟩
abbrev cL_windAt : ByteArray := method_13_code
def yL_windAt : MethodName := ⟨RL, "windAt", "(LWindElection;II[J)I"⟩
abbrev cL_rankOf : ByteArray := method_14_code
def yL_rankOf : MethodName := ⟨RL, "rankOf", "(LWindElection;II[J)I"⟩
abbrev cL_winner : ByteArray := method_15_code
def yL_winner : MethodName := ⟨RL, "winner", "(LWindElection;[J)I"⟩
abbrev cL_winnerByTransfers : ByteArray := method_16_code
def yL_winnerByTransfers : MethodName := ⟨RL, "winnerByTransfers", "(LWindElection;[J)I"⟩
abbrev cL_votesIn : ByteArray := method_17_code
def yL_votesIn : MethodName := ⟨RL, "votesIn", "(LWindElection;II[J)I"⟩
abbrev cL_exhaustedIn : ByteArray := method_18_code
def yL_exhaustedIn : MethodName := ⟨RL, "exhaustedIn", "(LWindElection;I[J)I"⟩
abbrev cL_eliminatedIn : ByteArray := method_19_code
def yL_eliminatedIn : MethodName := ⟨RL, "eliminatedIn", "(LWindElection;I[J)I"⟩
abbrev cL_isTieIn : ByteArray := method_20_code
def yL_isTieIn : MethodName := ⟨RL, "isTieIn", "(LWindElection;I[J)I"⟩
abbrev cL_roundOfElimination : ByteArray := method_21_code
def yL_roundOfElimination : MethodName := ⟨RL, "roundOfElimination", "(LWindElection;I[J)I"⟩
abbrev cL_winnerShare : ByteArray := method_22_code
def yL_winnerShare : MethodName := ⟨RL, "winnerShare", "(LWindElection;[D)I"⟩
abbrev cL_preference : ByteArray := method_23_code
def yL_preference : MethodName := ⟨RL, "preference", "(LWindElection;II[J)I"⟩
abbrev cL_beats : ByteArray := method_24_code
def yL_beats : MethodName := ⟨RL, "beats", "(LWindElection;II[J)I"⟩
abbrev cL_victories : ByteArray := method_25_code
def yL_victories : MethodName := ⟨RL, "victories", "(LWindElection;I[J)I"⟩
abbrev cL_championOfPairs : ByteArray := method_26_code
def yL_championOfPairs : MethodName := ⟨RL, "championOfPairs", "(LWindElection;[J)I"⟩
abbrev cL_championByDuels : ByteArray := method_27_code
def yL_championByDuels : MethodName := ⟨RL, "championByDuels", "(LWindElection;[J)I"⟩
abbrev cL_scoreOf : ByteArray := method_28_code
def yL_scoreOf : MethodName := ⟨RL, "scoreOf", "(LWindElection;I[J)I"⟩
abbrev cL_windByScore : ByteArray := method_29_code
def yL_windByScore : MethodName := ⟨RL, "windByScore", "(LWindElection;I[J)I"⟩
abbrev cL_certify : ByteArray := method_30_code
def yL_certify : MethodName := ⟨RL, "certify", "(LWindElection;[J)I"⟩
abbrev cL_seatAt : ByteArray := method_31_code
def yL_seatAt : MethodName := ⟨RL, "seatAt", "(LWindElection;I[J)I"⟩
abbrev cL_writeBallot : ByteArray := method_32_code
def yL_writeBallot : MethodName := ⟨RL, "writeBallot", "(LWindElection;I[J)I"⟩
abbrev cL_lineAt : ByteArray := method_33_code
def yL_lineAt : MethodName := ⟨RL, "lineAt", "(LWindElection;I[J)I"⟩
abbrev cL_meanRanks : ByteArray := method_34_code
def yL_meanRanks : MethodName := ⟨RL, "meanRanks", "(LWindElection;[D)I"⟩
abbrev cL_type : ByteArray := method_35_code
def yL_type : MethodName := ⟨RL, "type", "(LWindElection;C[J)I"⟩
abbrev cL_execute : ByteArray := method_36_code
def yL_execute : MethodName := ⟨RL, "execute", "(LWindElection;[J)I"⟩
abbrev cL_errorPosition : ByteArray := method_37_code
def yL_errorPosition : MethodName := ⟨RL, "errorPosition", "(LWindElection;[J)I"⟩
abbrev cL_failedCommand : ByteArray := method_38_code
def yL_failedCommand : MethodName := ⟨RL, "failedCommand", "(LWindElection;[J)I"⟩
abbrev cL_undo : ByteArray := method_39_code
def yL_undo : MethodName := ⟨RL, "undo", "(LWindElection;[J)I"⟩
abbrev cL_restore : ByteArray := method_40_code
def yL_restore : MethodName := ⟨RL, "restore", "(LWindElection;[J)I"⟩
abbrev cL_law : ByteArray := code
def yL_law : MethodName := ⟨RL, "law", "([I)Z"⟩
set_option maxRecDepth 100000 in
theorem inX0 : ∀ w ∈ wsX00, w ∈ lw_tbl := by decide +kernel
set_option maxRecDepth 100000 in
theorem inX1 : ∀ w ∈ wsX10, w ∈ lw_tbl := by decide +kernel
set_option maxRecDepth 100000 in
theorem inX2 : ∀ w ∈ wsX20, w ∈ lw_tbl := by decide +kernel
set_option maxRecDepth 100000 in
theorem inX3 : ∀ w ∈ wsX30, w ∈ lw_tbl := by decide +kernel
set_option maxRecDepth 100000 in
theorem inX4 : ∀ w ∈ wsX40, w ∈ lw_tbl := by decide +kernel
set_option maxRecDepth 100000 in
theorem inX5 : ∀ w ∈ wsX50, w ∈ lw_tbl := by decide +kernel
set_option maxRecDepth 100000 in
theorem inX6 : ∀ w ∈ wsX60, w ∈ lw_tbl := by decide +kernel
set_option maxRecDepth 100000 in
theorem inX7 : ∀ w ∈ wsX70, w ∈ lw_tbl := by decide +kernel
set_option maxRecDepth 100000 in
theorem inX8 : ∀ w ∈ wsX80, w ∈ lw_tbl := by decide +kernel
set_option maxRecDepth 100000 in
theorem inX9 : ∀ w ∈ wsX90, w ∈ lw_tbl := by decide +kernel
set_option maxRecDepth 100000 in
theorem inX10 : ∀ w ∈ wsX100, w ∈ lw_tbl := by decide +kernel
set_option maxRecDepth 100000 in
theorem inX11 : ∀ w ∈ wsX110, w ∈ lw_tbl := by decide +kernel
set_option maxRecDepth 100000 in
theorem inX12 : ∀ w ∈ wsX120, w ∈ lw_tbl := by decide +kernel
