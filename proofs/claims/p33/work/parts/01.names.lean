-- ===== PART A: goes FIRST, ahead of the names: the tables' words, and 'selects' of the private methods out of them =====
/-- a private method of a class that the tables say can be made, by its rows of tables_1 -/
def lw_okq (q : MethodName × Nat) : Prop := (q.1.cls ≠ "java/lang/invoke/MethodHandle" ∧ q.1.cls ≠ "java/lang/invoke/VarHandle") ∧ Cond.instantiable q.1.cls q.2 ∈ tables_1 ∧ Cond.privateMethod q.1 ∈ tables_1 ∧ Cond.instanceMethod q.1 ∈ tables_1
theorem lw_p0 : lw_okq (⟨"BeamHall", "refuse", "(I)I"⟩, 12) := ⟨⟨by decide +kernel, by decide +kernel⟩, List.mem_of_getElem? (i := 18) (by decide +kernel), List.mem_of_getElem? (i := 321) (by decide +kernel), List.mem_of_getElem? (i := 322) (by decide +kernel)⟩
theorem lw_p1 : lw_okq (⟨"BeamHall$Tape", "readJoined", "(II)Z"⟩, 5) := ⟨⟨by decide +kernel, by decide +kernel⟩, List.mem_of_getElem? (i := 84) (by decide +kernel), List.mem_of_getElem? (i := 724) (by decide +kernel), List.mem_of_getElem? (i := 725) (by decide +kernel)⟩
theorem lw_p2 : lw_okq (⟨"BeamHall$Tape", "readPart", "(I)Z"⟩, 5) := ⟨⟨by decide +kernel, by decide +kernel⟩, List.mem_of_getElem? (i := 84) (by decide +kernel), List.mem_of_getElem? (i := 728) (by decide +kernel), List.mem_of_getElem? (i := 729) (by decide +kernel)⟩
theorem lw_p3 : lw_okq (⟨"BeamHall$Best", "extend", "(II)V"⟩, 10) := ⟨⟨by decide +kernel, by decide +kernel⟩, List.mem_of_getElem? (i := 209) (by decide +kernel), List.mem_of_getElem? (i := 1012) (by decide +kernel), List.mem_of_getElem? (i := 1013) (by decide +kernel)⟩
theorem lw_p4 : lw_okq (⟨"BeamHall$Circle", "closes", "(I)Z"⟩, 8) := ⟨⟨by decide +kernel, by decide +kernel⟩, List.mem_of_getElem? (i := 248) (by decide +kernel), List.mem_of_getElem? (i := 1083) (by decide +kernel), List.mem_of_getElem? (i := 1084) (by decide +kernel)⟩
theorem lw_p5 : lw_okq (⟨"BeamHall", "firstWrong", "(LBeamHall$Bench;II)I"⟩, 12) := ⟨⟨by decide +kernel, by decide +kernel⟩, List.mem_of_getElem? (i := 18) (by decide +kernel), List.mem_of_getElem? (i := 1144) (by decide +kernel), List.mem_of_getElem? (i := 1145) (by decide +kernel)⟩
theorem lw_p6 : lw_okq (⟨"BeamHallModel", "refuse", "(I)I"⟩, 80) := ⟨⟨by decide +kernel, by decide +kernel⟩, List.mem_of_getElem? (i := 1160) (by decide +kernel), List.mem_of_getElem? (i := 1413) (by decide +kernel), List.mem_of_getElem? (i := 1414) (by decide +kernel)⟩
theorem lw_p7 : lw_okq (⟨"BeamHallModel", "lostIn", "(II)I"⟩, 80) := ⟨⟨by decide +kernel, by decide +kernel⟩, List.mem_of_getElem? (i := 1160) (by decide +kernel), List.mem_of_getElem? (i := 1435) (by decide +kernel), List.mem_of_getElem? (i := 1436) (by decide +kernel)⟩
theorem lw_p8 : lw_okq (⟨"BeamHallModel", "isAsk", "(I)Z"⟩, 80) := ⟨⟨by decide +kernel, by decide +kernel⟩, List.mem_of_getElem? (i := 1160) (by decide +kernel), List.mem_of_getElem? (i := 1455) (by decide +kernel), List.mem_of_getElem? (i := 1456) (by decide +kernel)⟩
theorem lw_p9 : lw_okq (⟨"BeamHallModel", "add", "(IIIII)I"⟩, 80) := ⟨⟨by decide +kernel, by decide +kernel⟩, List.mem_of_getElem? (i := 1160) (by decide +kernel), List.mem_of_getElem? (i := 1459) (by decide +kernel), List.mem_of_getElem? (i := 1460) (by decide +kernel)⟩
theorem lw_p10 : lw_okq (⟨"BeamHallModel", "hasPlace", "(I)Z"⟩, 80) := ⟨⟨by decide +kernel, by decide +kernel⟩, List.mem_of_getElem? (i := 1160) (by decide +kernel), List.mem_of_getElem? (i := 1467) (by decide +kernel), List.mem_of_getElem? (i := 1468) (by decide +kernel)⟩
theorem lw_p11 : lw_okq (⟨"BeamHallModel", "takeFrom", "(I)V"⟩, 80) := ⟨⟨by decide +kernel, by decide +kernel⟩, List.mem_of_getElem? (i := 1160) (by decide +kernel), List.mem_of_getElem? (i := 1471) (by decide +kernel), List.mem_of_getElem? (i := 1472) (by decide +kernel)⟩
theorem lw_p12 : lw_okq (⟨"BeamHallModel", "happened", "(III)V"⟩, 80) := ⟨⟨by decide +kernel, by decide +kernel⟩, List.mem_of_getElem? (i := 1160) (by decide +kernel), List.mem_of_getElem? (i := 1475) (by decide +kernel), List.mem_of_getElem? (i := 1476) (by decide +kernel)⟩
theorem lw_p13 : lw_okq (⟨"BeamHallModel", "lossOf", "(I)I"⟩, 80) := ⟨⟨by decide +kernel, by decide +kernel⟩, List.mem_of_getElem? (i := 1160) (by decide +kernel), List.mem_of_getElem? (i := 1483) (by decide +kernel), List.mem_of_getElem? (i := 1484) (by decide +kernel)⟩
theorem lw_p14 : lw_okq (⟨"BeamHallModel", "owedOf", "(I)I"⟩, 80) := ⟨⟨by decide +kernel, by decide +kernel⟩, List.mem_of_getElem? (i := 1160) (by decide +kernel), List.mem_of_getElem? (i := 1487) (by decide +kernel), List.mem_of_getElem? (i := 1488) (by decide +kernel)⟩
theorem lw_p15 : lw_okq (⟨"BeamHallModel", "isInForce", "(III)Z"⟩, 80) := ⟨⟨by decide +kernel, by decide +kernel⟩, List.mem_of_getElem? (i := 1160) (by decide +kernel), List.mem_of_getElem? (i := 1491) (by decide +kernel), List.mem_of_getElem? (i := 1492) (by decide +kernel)⟩
def lw_privs_1 : List (MethodName × Nat) := [(⟨"BeamHall", "refuse", "(I)I"⟩, 12), (⟨"BeamHall$Tape", "readJoined", "(II)Z"⟩, 5), (⟨"BeamHall$Tape", "readPart", "(I)Z"⟩, 5), (⟨"BeamHall$Best", "extend", "(II)V"⟩, 10), (⟨"BeamHall$Circle", "closes", "(I)Z"⟩, 8), (⟨"BeamHall", "firstWrong", "(LBeamHall$Bench;II)I"⟩, 12), (⟨"BeamHallModel", "refuse", "(I)I"⟩, 80), (⟨"BeamHallModel", "lostIn", "(II)I"⟩, 80), (⟨"BeamHallModel", "isAsk", "(I)Z"⟩, 80), (⟨"BeamHallModel", "add", "(IIIII)I"⟩, 80), (⟨"BeamHallModel", "hasPlace", "(I)Z"⟩, 80), (⟨"BeamHallModel", "takeFrom", "(I)V"⟩, 80), (⟨"BeamHallModel", "happened", "(III)V"⟩, 80), (⟨"BeamHallModel", "lossOf", "(I)I"⟩, 80), (⟨"BeamHallModel", "owedOf", "(I)I"⟩, 80), (⟨"BeamHallModel", "isInForce", "(III)Z"⟩, 80)]
theorem lw_r1 : ∀ q ∈ lw_privs_1, lw_okq q := List.forall_mem_cons.mpr ⟨lw_p0, List.forall_mem_cons.mpr ⟨lw_p1, List.forall_mem_cons.mpr ⟨lw_p2, List.forall_mem_cons.mpr ⟨lw_p3, List.forall_mem_cons.mpr ⟨lw_p4, List.forall_mem_cons.mpr ⟨lw_p5, List.forall_mem_cons.mpr ⟨lw_p6, List.forall_mem_cons.mpr ⟨lw_p7, List.forall_mem_cons.mpr ⟨lw_p8, List.forall_mem_cons.mpr ⟨lw_p9, List.forall_mem_cons.mpr ⟨lw_p10, List.forall_mem_cons.mpr ⟨lw_p11, List.forall_mem_cons.mpr ⟨lw_p12, List.forall_mem_cons.mpr ⟨lw_p13, List.forall_mem_cons.mpr ⟨lw_p14, List.forall_mem_cons.mpr ⟨lw_p15, fun _ h => absurd h List.not_mem_nil⟩⟩⟩⟩⟩⟩⟩⟩⟩⟩⟩⟩⟩⟩⟩⟩
theorem lw_p16 : lw_okq (⟨"BeamHallModel", "findFacts", "(IIII)V"⟩, 80) := ⟨⟨by decide +kernel, by decide +kernel⟩, List.mem_of_getElem? (i := 1160) (by decide +kernel), List.mem_of_getElem? (i := 1495) (by decide +kernel), List.mem_of_getElem? (i := 1496) (by decide +kernel)⟩
theorem lw_p17 : lw_okq (⟨"BeamHallModel", "markFor", "(I)I"⟩, 80) := ⟨⟨by decide +kernel, by decide +kernel⟩, List.mem_of_getElem? (i := 1160) (by decide +kernel), List.mem_of_getElem? (i := 1499) (by decide +kernel), List.mem_of_getElem? (i := 1500) (by decide +kernel)⟩
theorem lw_p18 : lw_okq (⟨"BeamHallModel", "habitOf", "(I)I"⟩, 80) := ⟨⟨by decide +kernel, by decide +kernel⟩, List.mem_of_getElem? (i := 1160) (by decide +kernel), List.mem_of_getElem? (i := 1503) (by decide +kernel), List.mem_of_getElem? (i := 1504) (by decide +kernel)⟩
theorem lw_p19 : lw_okq (⟨"BeamHallModel", "open", "(I)V"⟩, 80) := ⟨⟨by decide +kernel, by decide +kernel⟩, List.mem_of_getElem? (i := 1160) (by decide +kernel), List.mem_of_getElem? (i := 1507) (by decide +kernel), List.mem_of_getElem? (i := 1508) (by decide +kernel)⟩
theorem lw_p20 : lw_okq (⟨"BeamHallModel", "readSum", "()I"⟩, 80) := ⟨⟨by decide +kernel, by decide +kernel⟩, List.mem_of_getElem? (i := 1160) (by decide +kernel), List.mem_of_getElem? (i := 1511) (by decide +kernel), List.mem_of_getElem? (i := 1512) (by decide +kernel)⟩
theorem lw_p21 : lw_okq (⟨"BeamHallModel", "readUnit", "()I"⟩, 80) := ⟨⟨by decide +kernel, by decide +kernel⟩, List.mem_of_getElem? (i := 1160) (by decide +kernel), List.mem_of_getElem? (i := 1515) (by decide +kernel), List.mem_of_getElem? (i := 1516) (by decide +kernel)⟩
theorem lw_p22 : lw_okq (⟨"BeamHallModel", "here", "()I"⟩, 80) := ⟨⟨by decide +kernel, by decide +kernel⟩, List.mem_of_getElem? (i := 1160) (by decide +kernel), List.mem_of_getElem? (i := 1519) (by decide +kernel), List.mem_of_getElem? (i := 1520) (by decide +kernel)⟩
theorem lw_p23 : lw_okq (⟨"BeamHallModel", "readRule", "()Z"⟩, 80) := ⟨⟨by decide +kernel, by decide +kernel⟩, List.mem_of_getElem? (i := 1160) (by decide +kernel), List.mem_of_getElem? (i := 1535) (by decide +kernel), List.mem_of_getElem? (i := 1536) (by decide +kernel)⟩
theorem lw_p24 : lw_okq (⟨"BeamHallModel", "readTest", "()Z"⟩, 80) := ⟨⟨by decide +kernel, by decide +kernel⟩, List.mem_of_getElem? (i := 1160) (by decide +kernel), List.mem_of_getElem? (i := 1539) (by decide +kernel), List.mem_of_getElem? (i := 1540) (by decide +kernel)⟩
theorem lw_p25 : lw_okq (⟨"BeamHallModel", "partEnds", "()V"⟩, 80) := ⟨⟨by decide +kernel, by decide +kernel⟩, List.mem_of_getElem? (i := 1160) (by decide +kernel), List.mem_of_getElem? (i := 1543) (by decide +kernel), List.mem_of_getElem? (i := 1544) (by decide +kernel)⟩
theorem lw_p26 : lw_okq (⟨"BeamHallModel", "topSign", "()I"⟩, 80) := ⟨⟨by decide +kernel, by decide +kernel⟩, List.mem_of_getElem? (i := 1160) (by decide +kernel), List.mem_of_getElem? (i := 1547) (by decide +kernel), List.mem_of_getElem? (i := 1548) (by decide +kernel)⟩
theorem lw_p27 : lw_okq (⟨"BeamHallModel", "join", "(I)V"⟩, 80) := ⟨⟨by decide +kernel, by decide +kernel⟩, List.mem_of_getElem? (i := 1160) (by decide +kernel), List.mem_of_getElem? (i := 1551) (by decide +kernel), List.mem_of_getElem? (i := 1552) (by decide +kernel)⟩
theorem lw_p28 : lw_okq (⟨"BeamHallModel", "isBench", "(I)Z"⟩, 80) := ⟨⟨by decide +kernel, by decide +kernel⟩, List.mem_of_getElem? (i := 1160) (by decide +kernel), List.mem_of_getElem? (i := 1564) (by decide +kernel), List.mem_of_getElem? (i := 1565) (by decide +kernel)⟩
theorem lw_p29 : lw_okq (⟨"BeamHallModel", "holding", "(IIII)I"⟩, 80) := ⟨⟨by decide +kernel, by decide +kernel⟩, List.mem_of_getElem? (i := 1160) (by decide +kernel), List.mem_of_getElem? (i := 1568) (by decide +kernel), List.mem_of_getElem? (i := 1569) (by decide +kernel)⟩
theorem lw_p30 : lw_okq (⟨"BeamHallModel", "doesHold", "(I)Z"⟩, 80) := ⟨⟨by decide +kernel, by decide +kernel⟩, List.mem_of_getElem? (i := 1160) (by decide +kernel), List.mem_of_getElem? (i := 1572) (by decide +kernel), List.mem_of_getElem? (i := 1573) (by decide +kernel)⟩
theorem lw_p31 : lw_okq (⟨"BeamHallModel", "quarrel", "(IIIZ)I"⟩, 80) := ⟨⟨by decide +kernel, by decide +kernel⟩, List.mem_of_getElem? (i := 1160) (by decide +kernel), List.mem_of_getElem? (i := 1576) (by decide +kernel), List.mem_of_getElem? (i := 1577) (by decide +kernel)⟩
def lw_privs_2 : List (MethodName × Nat) := [(⟨"BeamHallModel", "findFacts", "(IIII)V"⟩, 80), (⟨"BeamHallModel", "markFor", "(I)I"⟩, 80), (⟨"BeamHallModel", "habitOf", "(I)I"⟩, 80), (⟨"BeamHallModel", "open", "(I)V"⟩, 80), (⟨"BeamHallModel", "readSum", "()I"⟩, 80), (⟨"BeamHallModel", "readUnit", "()I"⟩, 80), (⟨"BeamHallModel", "here", "()I"⟩, 80), (⟨"BeamHallModel", "readRule", "()Z"⟩, 80), (⟨"BeamHallModel", "readTest", "()Z"⟩, 80), (⟨"BeamHallModel", "partEnds", "()V"⟩, 80), (⟨"BeamHallModel", "topSign", "()I"⟩, 80), (⟨"BeamHallModel", "join", "(I)V"⟩, 80), (⟨"BeamHallModel", "isBench", "(I)Z"⟩, 80), (⟨"BeamHallModel", "holding", "(IIII)I"⟩, 80), (⟨"BeamHallModel", "doesHold", "(I)Z"⟩, 80), (⟨"BeamHallModel", "quarrel", "(IIIZ)I"⟩, 80)]
theorem lw_r2 : ∀ q ∈ lw_privs_2, lw_okq q := List.forall_mem_cons.mpr ⟨lw_p16, List.forall_mem_cons.mpr ⟨lw_p17, List.forall_mem_cons.mpr ⟨lw_p18, List.forall_mem_cons.mpr ⟨lw_p19, List.forall_mem_cons.mpr ⟨lw_p20, List.forall_mem_cons.mpr ⟨lw_p21, List.forall_mem_cons.mpr ⟨lw_p22, List.forall_mem_cons.mpr ⟨lw_p23, List.forall_mem_cons.mpr ⟨lw_p24, List.forall_mem_cons.mpr ⟨lw_p25, List.forall_mem_cons.mpr ⟨lw_p26, List.forall_mem_cons.mpr ⟨lw_p27, List.forall_mem_cons.mpr ⟨lw_p28, List.forall_mem_cons.mpr ⟨lw_p29, List.forall_mem_cons.mpr ⟨lw_p30, List.forall_mem_cons.mpr ⟨lw_p31, fun _ h => absurd h List.not_mem_nil⟩⟩⟩⟩⟩⟩⟩⟩⟩⟩⟩⟩⟩⟩⟩⟩
theorem lw_p32 : lw_okq (⟨"BeamHallModel", "refuseFar", "(I)I"⟩, 80) := ⟨⟨by decide +kernel, by decide +kernel⟩, List.mem_of_getElem? (i := 1160) (by decide +kernel), List.mem_of_getElem? (i := 1599) (by decide +kernel), List.mem_of_getElem? (i := 1600) (by decide +kernel)⟩
theorem lw_p33 : lw_okq (⟨"BeamHallModel", "doubtOf", "(I)I"⟩, 80) := ⟨⟨by decide +kernel, by decide +kernel⟩, List.mem_of_getElem? (i := 1160) (by decide +kernel), List.mem_of_getElem? (i := 1604) (by decide +kernel), List.mem_of_getElem? (i := 1605) (by decide +kernel)⟩
theorem lw_p34 : lw_okq (⟨"BeamHallModel", "fitOf", "(III)I"⟩, 80) := ⟨⟨by decide +kernel, by decide +kernel⟩, List.mem_of_getElem? (i := 1160) (by decide +kernel), List.mem_of_getElem? (i := 1613) (by decide +kernel), List.mem_of_getElem? (i := 1614) (by decide +kernel)⟩
theorem lw_p35 : lw_okq (⟨"BeamHallModel", "barIn", "(IIII)I"⟩, 80) := ⟨⟨by decide +kernel, by decide +kernel⟩, List.mem_of_getElem? (i := 1160) (by decide +kernel), List.mem_of_getElem? (i := 1617) (by decide +kernel), List.mem_of_getElem? (i := 1618) (by decide +kernel)⟩
theorem lw_p36 : lw_okq (⟨"BeamHallModel", "isBegun", "(I)Z"⟩, 80) := ⟨⟨by decide +kernel, by decide +kernel⟩, List.mem_of_getElem? (i := 1160) (by decide +kernel), List.mem_of_getElem? (i := 1621) (by decide +kernel), List.mem_of_getElem? (i := 1622) (by decide +kernel)⟩
theorem lw_p37 : lw_okq (⟨"BeamHallModel", "holdsAt", "(III)Z"⟩, 80) := ⟨⟨by decide +kernel, by decide +kernel⟩, List.mem_of_getElem? (i := 1160) (by decide +kernel), List.mem_of_getElem? (i := 1625) (by decide +kernel), List.mem_of_getElem? (i := 1626) (by decide +kernel)⟩
theorem lw_p38 : lw_okq (⟨"BeamHallModel", "freeHosts", "(III)I"⟩, 80) := ⟨⟨by decide +kernel, by decide +kernel⟩, List.mem_of_getElem? (i := 1160) (by decide +kernel), List.mem_of_getElem? (i := 1629) (by decide +kernel), List.mem_of_getElem? (i := 1630) (by decide +kernel)⟩
theorem lw_p39 : lw_okq (⟨"BeamHallModel", "isWatched", "(III)Z"⟩, 80) := ⟨⟨by decide +kernel, by decide +kernel⟩, List.mem_of_getElem? (i := 1160) (by decide +kernel), List.mem_of_getElem? (i := 1636) (by decide +kernel), List.mem_of_getElem? (i := 1637) (by decide +kernel)⟩
theorem lw_p40 : lw_okq (⟨"BeamHallModel", "isTooNear", "(II)Z"⟩, 80) := ⟨⟨by decide +kernel, by decide +kernel⟩, List.mem_of_getElem? (i := 1160) (by decide +kernel), List.mem_of_getElem? (i := 1640) (by decide +kernel), List.mem_of_getElem? (i := 1641) (by decide +kernel)⟩
theorem lw_p41 : lw_okq (⟨"BeamHallModel", "giveTo", "(III)V"⟩, 80) := ⟨⟨by decide +kernel, by decide +kernel⟩, List.mem_of_getElem? (i := 1160) (by decide +kernel), List.mem_of_getElem? (i := 1648) (by decide +kernel), List.mem_of_getElem? (i := 1649) (by decide +kernel)⟩
theorem lw_p42 : lw_okq (⟨"BeamHallModel", "putAt", "(III)V"⟩, 80) := ⟨⟨by decide +kernel, by decide +kernel⟩, List.mem_of_getElem? (i := 1160) (by decide +kernel), List.mem_of_getElem? (i := 1652) (by decide +kernel), List.mem_of_getElem? (i := 1653) (by decide +kernel)⟩
theorem lw_p43 : lw_okq (⟨"BeamHallModel", "standFor", "(III)I"⟩, 80) := ⟨⟨by decide +kernel, by decide +kernel⟩, List.mem_of_getElem? (i := 1160) (by decide +kernel), List.mem_of_getElem? (i := 1656) (by decide +kernel), List.mem_of_getElem? (i := 1657) (by decide +kernel)⟩
theorem lw_p44 : lw_okq (⟨"BeamHallModel", "findOrder", "(I)V"⟩, 80) := ⟨⟨by decide +kernel, by decide +kernel⟩, List.mem_of_getElem? (i := 1160) (by decide +kernel), List.mem_of_getElem? (i := 1671) (by decide +kernel), List.mem_of_getElem? (i := 1672) (by decide +kernel)⟩
theorem lw_p45 : lw_okq (⟨"BeamHallModel", "goesAhead", "(II)Z"⟩, 80) := ⟨⟨by decide +kernel, by decide +kernel⟩, List.mem_of_getElem? (i := 1160) (by decide +kernel), List.mem_of_getElem? (i := 1675) (by decide +kernel), List.mem_of_getElem? (i := 1676) (by decide +kernel)⟩
theorem lw_p46 : lw_okq (⟨"BeamHallModel", "giveFirst", "(IIIZ)Z"⟩, 80) := ⟨⟨by decide +kernel, by decide +kernel⟩, List.mem_of_getElem? (i := 1160) (by decide +kernel), List.mem_of_getElem? (i := 1679) (by decide +kernel), List.mem_of_getElem? (i := 1680) (by decide +kernel)⟩
theorem lw_p47 : lw_okq (⟨"BeamHallModel", "isWithinShare", "(III)Z"⟩, 80) := ⟨⟨by decide +kernel, by decide +kernel⟩, List.mem_of_getElem? (i := 1160) (by decide +kernel), List.mem_of_getElem? (i := 1683) (by decide +kernel), List.mem_of_getElem? (i := 1684) (by decide +kernel)⟩
def lw_privs_3 : List (MethodName × Nat) := [(⟨"BeamHallModel", "refuseFar", "(I)I"⟩, 80), (⟨"BeamHallModel", "doubtOf", "(I)I"⟩, 80), (⟨"BeamHallModel", "fitOf", "(III)I"⟩, 80), (⟨"BeamHallModel", "barIn", "(IIII)I"⟩, 80), (⟨"BeamHallModel", "isBegun", "(I)Z"⟩, 80), (⟨"BeamHallModel", "holdsAt", "(III)Z"⟩, 80), (⟨"BeamHallModel", "freeHosts", "(III)I"⟩, 80), (⟨"BeamHallModel", "isWatched", "(III)Z"⟩, 80), (⟨"BeamHallModel", "isTooNear", "(II)Z"⟩, 80), (⟨"BeamHallModel", "giveTo", "(III)V"⟩, 80), (⟨"BeamHallModel", "putAt", "(III)V"⟩, 80), (⟨"BeamHallModel", "standFor", "(III)I"⟩, 80), (⟨"BeamHallModel", "findOrder", "(I)V"⟩, 80), (⟨"BeamHallModel", "goesAhead", "(II)Z"⟩, 80), (⟨"BeamHallModel", "giveFirst", "(IIIZ)Z"⟩, 80), (⟨"BeamHallModel", "isWithinShare", "(III)Z"⟩, 80)]
theorem lw_r3 : ∀ q ∈ lw_privs_3, lw_okq q := List.forall_mem_cons.mpr ⟨lw_p32, List.forall_mem_cons.mpr ⟨lw_p33, List.forall_mem_cons.mpr ⟨lw_p34, List.forall_mem_cons.mpr ⟨lw_p35, List.forall_mem_cons.mpr ⟨lw_p36, List.forall_mem_cons.mpr ⟨lw_p37, List.forall_mem_cons.mpr ⟨lw_p38, List.forall_mem_cons.mpr ⟨lw_p39, List.forall_mem_cons.mpr ⟨lw_p40, List.forall_mem_cons.mpr ⟨lw_p41, List.forall_mem_cons.mpr ⟨lw_p42, List.forall_mem_cons.mpr ⟨lw_p43, List.forall_mem_cons.mpr ⟨lw_p44, List.forall_mem_cons.mpr ⟨lw_p45, List.forall_mem_cons.mpr ⟨lw_p46, List.forall_mem_cons.mpr ⟨lw_p47, fun _ h => absurd h List.not_mem_nil⟩⟩⟩⟩⟩⟩⟩⟩⟩⟩⟩⟩⟩⟩⟩⟩
theorem lw_p48 : lw_okq (⟨"BeamHallModel", "findBest", "(II)I"⟩, 80) := ⟨⟨by decide +kernel, by decide +kernel⟩, List.mem_of_getElem? (i := 1160) (by decide +kernel), List.mem_of_getElem? (i := 1699) (by decide +kernel), List.mem_of_getElem? (i := 1700) (by decide +kernel)⟩
theorem lw_p49 : lw_okq (⟨"BeamHallModel", "markAt", "(I)I"⟩, 80) := ⟨⟨by decide +kernel, by decide +kernel⟩, List.mem_of_getElem? (i := 1160) (by decide +kernel), List.mem_of_getElem? (i := 1703) (by decide +kernel), List.mem_of_getElem? (i := 1704) (by decide +kernel)⟩
theorem lw_p50 : lw_okq (⟨"BeamHallModel", "fitsNoMore", "(I)Z"⟩, 80) := ⟨⟨by decide +kernel, by decide +kernel⟩, List.mem_of_getElem? (i := 1160) (by decide +kernel), List.mem_of_getElem? (i := 1719) (by decide +kernel), List.mem_of_getElem? (i := 1720) (by decide +kernel)⟩
theorem lw_p51 : lw_okq (⟨"BeamHallModel", "findRing", "()V"⟩, 80) := ⟨⟨by decide +kernel, by decide +kernel⟩, List.mem_of_getElem? (i := 1160) (by decide +kernel), List.mem_of_getElem? (i := 1735) (by decide +kernel), List.mem_of_getElem? (i := 1736) (by decide +kernel)⟩
theorem lw_p52 : lw_okq (⟨"BeamHallModel", "mayBeNext", "(II)Z"⟩, 80) := ⟨⟨by decide +kernel, by decide +kernel⟩, List.mem_of_getElem? (i := 1160) (by decide +kernel), List.mem_of_getElem? (i := 1739) (by decide +kernel), List.mem_of_getElem? (i := 1740) (by decide +kernel)⟩
theorem lw_p53 : lw_okq (⟨"BeamHallModel", "ringFits", "(I)Z"⟩, 80) := ⟨⟨by decide +kernel, by decide +kernel⟩, List.mem_of_getElem? (i := 1160) (by decide +kernel), List.mem_of_getElem? (i := 1743) (by decide +kernel), List.mem_of_getElem? (i := 1744) (by decide +kernel)⟩
theorem lw_p54 : lw_okq (⟨"BeamHallModel", "hadAt", "(III)I"⟩, 80) := ⟨⟨by decide +kernel, by decide +kernel⟩, List.mem_of_getElem? (i := 1160) (by decide +kernel), List.mem_of_getElem? (i := 1755) (by decide +kernel), List.mem_of_getElem? (i := 1756) (by decide +kernel)⟩
def lw_privs_4 : List (MethodName × Nat) := [(⟨"BeamHallModel", "findBest", "(II)I"⟩, 80), (⟨"BeamHallModel", "markAt", "(I)I"⟩, 80), (⟨"BeamHallModel", "fitsNoMore", "(I)Z"⟩, 80), (⟨"BeamHallModel", "findRing", "()V"⟩, 80), (⟨"BeamHallModel", "mayBeNext", "(II)Z"⟩, 80), (⟨"BeamHallModel", "ringFits", "(I)Z"⟩, 80), (⟨"BeamHallModel", "hadAt", "(III)I"⟩, 80)]
theorem lw_r4 : ∀ q ∈ lw_privs_4, lw_okq q := List.forall_mem_cons.mpr ⟨lw_p48, List.forall_mem_cons.mpr ⟨lw_p49, List.forall_mem_cons.mpr ⟨lw_p50, List.forall_mem_cons.mpr ⟨lw_p51, List.forall_mem_cons.mpr ⟨lw_p52, List.forall_mem_cons.mpr ⟨lw_p53, List.forall_mem_cons.mpr ⟨lw_p54, fun _ h => absurd h List.not_mem_nil⟩⟩⟩⟩⟩⟩⟩
def lw_privs : List (MethodName × Nat) := lw_privs_1 ++ (lw_privs_2 ++ (lw_privs_3 ++ (lw_privs_4)))
def lw_tbl : List Cond := k2_sels lw_privs ++ tables_1
theorem lw_privs_ok : ∀ q ∈ lw_privs, lw_okq q := by
  show ∀ q ∈ lw_privs_1 ++ (lw_privs_2 ++ (lw_privs_3 ++ (lw_privs_4))), lw_okq q
  exact List.forall_mem_append.mpr ⟨lw_r1, List.forall_mem_append.mpr ⟨lw_r2, List.forall_mem_append.mpr ⟨lw_r3, lw_r4⟩⟩⟩
/-! ===== BEGIN printed: names, fields, word lists, decode rows ===== -/
def RX0 : String := "BeamHall$Ask"
def TX0 : u_T := fun k => match k with
  | 0 => ("BeamHall$Ask", "group", "I", true)
  | 1 => ("BeamHall$Ask", "land", "I", true)
  | 2 => ("BeamHall$Ask", "length", "I", true)
  | 3 => ("BeamHall$Ask", "wants", "I", true)
  | 4 => ("BeamHall$Ask", "number", "I", false)
  | 5 => ("BeamHall$Ask", "kind", "I", false)
  | 6 => ("BeamHall$Ask", "benches", "I", false)
  | 7 => ("BeamHall$Ask", "modes", "I", false)
  | 8 => ("BeamHall$Ask", "gear", "I", false)
  | 9 => ("BeamHall$Ask", "danger", "I", false)
  | 10 => ("BeamHall$Ask", "x", "I", false)
  | 11 => ("BeamHall$Ask", "y", "I", false)
  | 12 => ("BeamHall$Ask", "mark", "I", false)
  | 13 => ("BeamHall$Ask", "bench", "I", false)
  | 14 => ("BeamHall$Ask", "shift", "I", false)
  | 15 => ("BeamHall$Ask", "withdrawn", "Z", false)
  | _ => ("BeamHall$Ask", "isRepaid", "Z", false)
def tyX0 : Nat → FieldType := fun k => match k with
  | 0 => .int
  | 1 => .int
  | 2 => .int
  | 3 => .int
  | 4 => .int
  | 5 => .int
  | 6 => .int
  | 7 => .int
  | 8 => .int
  | 9 => .int
  | 10 => .int
  | 11 => .int
  | 12 => .int
  | 13 => .int
  | 14 => .int
  | 15 => .boolean
  | _ => .boolean
abbrev wsX00 : List Cond := u_ws RX0 TX0 17
theorem nmX0 : ∀ a, a < 17 → ∀ b, b < 17 → a ≠ b → (TX0 a).2.1 ≠ (TX0 b).2.1 := by decide +kernel
theorem tyX0_ok : ∀ k, k < 17 → parseFieldDescriptor (TX0 k).2.2.1 = some (tyX0 k) := by decide +kernel
abbrev cX0_init : ByteArray := prog_2_method_1_code
def yX0_init : MethodName := ⟨RX0, "<init>", "(IIII)V"⟩
abbrev cX0_want : ByteArray := prog_2_method_2_code
def yX0_want : MethodName := ⟨RX0, "want", "(IIII)V"⟩
abbrev cX0_bind : ByteArray := prog_2_method_3_code
def yX0_bind : MethodName := ⟨RX0, "bind", "(III)V"⟩
abbrev cX0_owedOne : ByteArray := prog_2_method_4_code
def yX0_owedOne : MethodName := ⟨RX0, "owedOne", "(I)LBeamHall$Ask;"⟩
abbrev cX0_isPlaced : ByteArray := prog_2_method_5_code
def yX0_isPlaced : MethodName := ⟨RX0, "isPlaced", "()Z"⟩
abbrev cX0_last : ByteArray := prog_2_method_6_code
def yX0_last : MethodName := ⟨RX0, "last", "()I"⟩
abbrev cX0_isAheadOf : ByteArray := prog_2_method_7_code
def yX0_isAheadOf : MethodName := ⟨RX0, "isAheadOf", "(LBeamHall$Ask;)Z"⟩
abbrev cX0_rank : ByteArray := prog_2_method_8_code
def yX0_rank : MethodName := ⟨RX0, "rank", "()I"⟩
def RX1 : String := "BeamHall$Beam"
def TX1 : u_T := fun k => match k with
  | 0 => ("BeamHall$Beam", "modes", "[I", true)
  | 1 => ("BeamHall$Beam", "lost", "[I", true)
  | 2 => ("BeamHall$Beam", "tripFrom", "[I", true)
  | 3 => ("BeamHall$Beam", "tripTill", "[I", true)
  | 4 => ("BeamHall$Beam", "tripFound", "[I", true)
  | 5 => ("BeamHall$Beam", "trips", "I", false)
  | _ => ("BeamHall$Beam", "now", "I", false)
def tyX1 : Nat → FieldType := fun k => match k with
  | 0 => .array .int
  | 1 => .array .int
  | 2 => .array .int
  | 3 => .array .int
  | 4 => .array .int
  | 5 => .int
  | _ => .int
abbrev wsX10 : List Cond := u_ws RX1 TX1 7
theorem nmX1 : ∀ a, a < 7 → ∀ b, b < 7 → a ≠ b → (TX1 a).2.1 ≠ (TX1 b).2.1 := by decide +kernel
theorem tyX1_ok : ∀ k, k < 7 → parseFieldDescriptor (TX1 k).2.2.1 = some (tyX1 k) := by decide +kernel
abbrev cX1_init : ByteArray := prog_3_method_1_code
def yX1_init : MethodName := ⟨RX1, "<init>", "()V"⟩
abbrev cX1_hasBegun : ByteArray := prog_3_method_2_code
def yX1_hasBegun : MethodName := ⟨RX1, "hasBegun", "(I)Z"⟩
abbrev cX1_change : ByteArray := prog_3_method_3_code
def yX1_change : MethodName := ⟨RX1, "change", "(III)I"⟩
abbrev cX1_found : ByteArray := prog_3_method_4_code
def yX1_found : MethodName := ⟨RX1, "found", "(II)I"⟩
abbrev cX1_lostAsKnown : ByteArray := prog_3_method_5_code
def yX1_lostAsKnown : MethodName := ⟨RX1, "lostAsKnown", "(II)I"⟩
abbrev cX1_isLost : ByteArray := prog_3_method_6_code
def yX1_isLost : MethodName := ⟨RX1, "isLost", "(II)Z"⟩
abbrev cX1_lostFrom : ByteArray := prog_3_method_7_code
def yX1_lostFrom : MethodName := ⟨RX1, "lostFrom", "(II)I"⟩
def RX2 : String := "BeamHall$Bench"
def TX2 : u_T := fun k => match k with
  | 0 => ("BeamHall$Bench", "can", "I", true)
  | 1 => ("BeamHall$Bench", "hosts", "I", true)
  | 2 => ("BeamHall$Bench", "who", "[I", true)
  | 3 => ("BeamHall$Bench", "stands", "[I", true)
  | 4 => ("BeamHall$Bench", "changed", "[I", true)
  | 5 => ("BeamHall$Bench", "past", "[I", false)
  | _ => ("BeamHall$Bench", "pastCount", "I", false)
def tyX2 : Nat → FieldType := fun k => match k with
  | 0 => .int
  | 1 => .int
  | 2 => .array .int
  | 3 => .array .int
  | 4 => .array .int
  | 5 => .array .int
  | _ => .int
abbrev wsX20 : List Cond := u_ws RX2 TX2 7
theorem nmX2 : ∀ a, a < 7 → ∀ b, b < 7 → a ≠ b → (TX2 a).2.1 ≠ (TX2 b).2.1 := by decide +kernel
theorem tyX2_ok : ∀ k, k < 7 → parseFieldDescriptor (TX2 k).2.2.1 = some (tyX2 k) := by decide +kernel
abbrev cX2_init : ByteArray := prog_4_method_1_code
def yX2_init : MethodName := ⟨RX2, "<init>", "(II)V"⟩
abbrev cX2_isOthers : ByteArray := prog_4_method_2_code
def yX2_isOthers : MethodName := ⟨RX2, "isOthers", "(II)Z"⟩
abbrev cX2_standing : ByteArray := prog_4_method_3_code
def yX2_standing : MethodName := ⟨RX2, "standing", "(III)I"⟩
abbrev cX2_settle : ByteArray := prog_4_method_4_code
def yX2_settle : MethodName := ⟨RX2, "settle", "(III)V"⟩
abbrev cX2_date : ByteArray := prog_4_method_5_code
def yX2_date : MethodName := ⟨RX2, "date", "(III)V"⟩
abbrev cX2_knownOn : ByteArray := prog_4_method_6_code
def yX2_knownOn : MethodName := ⟨RX2, "knownOn", "(II)I"⟩
abbrev cX2_remember : ByteArray := prog_4_method_7_code
def yX2_remember : MethodName := ⟨RX2, "remember", "(LBeamHall$Ask;I)V"⟩
abbrev cX2_hasRoomForPast : ByteArray := prog_4_method_8_code
def yX2_hasRoomForPast : MethodName := ⟨RX2, "hasRoomForPast", "()Z"⟩
def RX3 : String := "BeamHall$Best"
def TX3 : u_T := fun k => match k with
  | 0 => ("BeamHall$Best", "hall", "LBeamHall$Hall;", true)
  | 1 => ("BeamHall$Best", "members", "[LBeamHall$Ask;", true)
  | 2 => ("BeamHall$Best", "spots", "[I", true)
  | 3 => ("BeamHall$Best", "watches", "[I", true)
  | 4 => ("BeamHall$Best", "spotCounts", "[I", true)
  | 5 => ("BeamHall$Best", "reach", "[I", true)
  | 6 => ("BeamHall$Best", "tried", "[I", true)
  | 7 => ("BeamHall$Best", "found", "[I", true)
  | 8 => ("BeamHall$Best", "size", "I", false)
  | _ => ("BeamHall$Best", "sum", "I", false)
def tyX3 : Nat → FieldType := fun k => match k with
  | 0 => .object "BeamHall$Hall"
  | 1 => .array (.object "BeamHall$Ask")
  | 2 => .array .int
  | 3 => .array .int
  | 4 => .array .int
  | 5 => .array .int
  | 6 => .array .int
  | 7 => .array .int
  | 8 => .int
  | _ => .int
abbrev wsX30 : List Cond := u_ws RX3 TX3 10
theorem nmX3 : ∀ a, a < 10 → ∀ b, b < 10 → a ≠ b → (TX3 a).2.1 ≠ (TX3 b).2.1 := by decide +kernel
theorem tyX3_ok : ∀ k, k < 10 → parseFieldDescriptor (TX3 k).2.2.1 = some (tyX3 k) := by decide +kernel
abbrev cX3_init : ByteArray := prog_5_method_1_code
def yX3_init : MethodName := ⟨RX3, "<init>", "(LBeamHall$Hall;)V"⟩
abbrev cX3_search : ByteArray := prog_5_method_2_code
def yX3_search : MethodName := ⟨RX3, "search", "(III)V"⟩
abbrev cX3_worth : ByteArray := prog_5_method_3_code
def yX3_worth : MethodName := ⟨RX3, "worth", "(I)I"⟩
abbrev cX3_collect : ByteArray := prog_5_method_4_code
def yX3_collect : MethodName := ⟨RX3, "collect", "(IIII)V"⟩
abbrev cX3_collectIn : ByteArray := prog_5_method_5_code
def yX3_collectIn : MethodName := ⟨RX3, "collectIn", "(II)V"⟩
abbrev cX3_extend : ByteArray := prog_5_method_6_code
def yX3_extend : MethodName := ⟨RX3, "extend", "(II)V"⟩
abbrev cX3_spotOf : ByteArray := prog_5_method_7_code
def yX3_spotOf : MethodName := ⟨RX3, "spotOf", "(I)I"⟩
def RX4 : String := "BeamHall$Circle"
def TX4 : u_T := fun k => match k with
  | 0 => ("BeamHall$Circle", "hall", "LBeamHall$Hall;", true)
  | 1 => ("BeamHall$Circle", "wishes", "[I", true)
  | 2 => ("BeamHall$Circle", "sound", "[I", true)
  | 3 => ("BeamHall$Circle", "members", "[LBeamHall$Ask;", true)
  | 4 => ("BeamHall$Circle", "bench", "[I", true)
  | 5 => ("BeamHall$Circle", "shift", "[I", true)
  | 6 => ("BeamHall$Circle", "stood", "[I", true)
  | _ => ("BeamHall$Circle", "size", "I", false)
def tyX4 : Nat → FieldType := fun k => match k with
  | 0 => .object "BeamHall$Hall"
  | 1 => .array .int
  | 2 => .array .int
  | 3 => .array (.object "BeamHall$Ask")
  | 4 => .array .int
  | 5 => .array .int
  | 6 => .array .int
  | _ => .int
abbrev wsX40 : List Cond := u_ws RX4 TX4 8
theorem nmX4 : ∀ a, a < 8 → ∀ b, b < 8 → a ≠ b → (TX4 a).2.1 ≠ (TX4 b).2.1 := by decide +kernel
theorem tyX4_ok : ∀ k, k < 8 → parseFieldDescriptor (TX4 k).2.2.1 = some (tyX4 k) := by decide +kernel
abbrev cX4_init : ByteArray := prog_6_method_1_code
def yX4_init : MethodName := ⟨RX4, "<init>", "(LBeamHall$Hall;)V"⟩
abbrev cX4_tell : ByteArray := prog_6_method_2_code
def yX4_tell : MethodName := ⟨RX4, "tell", "(IIZ)Z"⟩
abbrev cX4_memberAt : ByteArray := prog_6_method_3_code
def yX4_memberAt : MethodName := ⟨RX4, "memberAt", "(I)I"⟩
abbrev cX4_find : ByteArray := prog_6_method_4_code
def yX4_find : MethodName := ⟨RX4, "find", "()I"⟩
abbrev cX4_soundWishes : ByteArray := prog_6_method_5_code
def yX4_soundWishes : MethodName := ⟨RX4, "soundWishes", "(I)I"⟩
abbrev cX4_closes : ByteArray := prog_6_method_6_code
def yX4_closes : MethodName := ⟨RX4, "closes", "(I)Z"⟩
abbrev cX4_isNewGroup : ByteArray := prog_6_method_7_code
def yX4_isNewGroup : MethodName := ⟨RX4, "isNewGroup", "(II)Z"⟩
abbrev cX4_canTurn : ByteArray := prog_6_method_8_code
def yX4_canTurn : MethodName := ⟨RX4, "canTurn", "()Z"⟩
abbrev cX4_keepPlaces : ByteArray := prog_6_method_9_code
def yX4_keepPlaces : MethodName := ⟨RX4, "keepPlaces", "()V"⟩
abbrev cX4_restore : ByteArray := prog_6_method_10_code
def yX4_restore : MethodName := ⟨RX4, "restore", "(I)V"⟩
abbrev cX4_turn : ByteArray := prog_6_method_11_code
def yX4_turn : MethodName := ⟨RX4, "turn", "()I"⟩
def RX5 : String := "BeamHall$Hall"
def TX5 : u_T := fun k => match k with
  | 0 => ("BeamHall$Hall", "beam", "LBeamHall$Beam;", true)
  | 1 => ("BeamHall$Hall", "rules", "LBeamHall$Rules;", true)
  | 2 => ("BeamHall$Hall", "asks", "[LBeamHall$Ask;", true)
  | 3 => ("BeamHall$Hall", "benches", "[LBeamHall$Bench;", true)
  | 4 => ("BeamHall$Hall", "askCount", "I", false)
  | 5 => ("BeamHall$Hall", "benchCount", "I", false)
  | _ => ("BeamHall$Hall", "rest", "I", false)
def tyX5 : Nat → FieldType := fun k => match k with
  | 0 => .object "BeamHall$Beam"
  | 1 => .object "BeamHall$Rules"
  | 2 => .array (.object "BeamHall$Ask")
  | 3 => .array (.object "BeamHall$Bench")
  | 4 => .int
  | 5 => .int
  | _ => .int
abbrev wsX50 : List Cond := u_ws RX5 TX5 7
theorem nmX5 : ∀ a, a < 7 → ∀ b, b < 7 → a ≠ b → (TX5 a).2.1 ≠ (TX5 b).2.1 := by decide +kernel
theorem tyX5_ok : ∀ k, k < 7 → parseFieldDescriptor (TX5 k).2.2.1 = some (tyX5 k) := by decide +kernel
abbrev cX5_init : ByteArray := prog_7_method_1_code
def yX5_init : MethodName := ⟨RX5, "<init>", "(LBeamHall$Beam;LBeamHall$Rules;)V"⟩
abbrev cX5_askAt : ByteArray := prog_7_method_2_code
def yX5_askAt : MethodName := ⟨RX5, "askAt", "(I)LBeamHall$Ask;"⟩
abbrev cX5_benchAt : ByteArray := prog_7_method_3_code
def yX5_benchAt : MethodName := ⟨RX5, "benchAt", "(I)LBeamHall$Bench;"⟩
abbrev cX5_addBench : ByteArray := prog_7_method_4_code
def yX5_addBench : MethodName := ⟨RX5, "addBench", "(II)I"⟩
abbrev cX5_addAsk : ByteArray := prog_7_method_5_code
def yX5_addAsk : MethodName := ⟨RX5, "addAsk", "(LBeamHall$Ask;)I"⟩
abbrev cX5_changeRest : ByteArray := prog_7_method_6_code
def yX5_changeRest : MethodName := ⟨RX5, "changeRest", "(I)I"⟩
abbrev cX5_areAsks : ByteArray := prog_7_method_7_code
def yX5_areAsks : MethodName := ⟨RX5, "areAsks", "(I)Z"⟩
abbrev cX5_areAllFree : ByteArray := prog_7_method_8_code
def yX5_areAllFree : MethodName := ⟨RX5, "areAllFree", "(I)Z"⟩
abbrev cX5_placedAsks : ByteArray := prog_7_method_9_code
def yX5_placedAsks : MethodName := ⟨RX5, "placedAsks", "()I"⟩
abbrev cX5_placedShifts : ByteArray := prog_7_method_10_code
def yX5_placedShifts : MethodName := ⟨RX5, "placedShifts", "()I"⟩
abbrev cX5_loss : ByteArray := prog_7_method_11_code
def yX5_loss : MethodName := ⟨RX5, "loss", "(LBeamHall$Ask;)I"⟩
abbrev cX5_owed : ByteArray := prog_7_method_12_code
def yX5_owed : MethodName := ⟨RX5, "owed", "(LBeamHall$Ask;)I"⟩
abbrev cX5_mayMove : ByteArray := prog_7_method_13_code
def yX5_mayMove : MethodName := ⟨RX5, "mayMove", "(LBeamHall$Ask;)Z"⟩
abbrev cX5_firstBar : ByteArray := prog_7_method_14_code
def yX5_firstBar : MethodName := ⟨RX5, "firstBar", "(LBeamHall$Ask;II)I"⟩
abbrev cX5_barIn : ByteArray := prog_7_method_15_code
def yX5_barIn : MethodName := ⟨RX5, "barIn", "(LBeamHall$Ask;III)I"⟩
abbrev cX5_fixedBar : ByteArray := prog_7_method_16_code
def yX5_fixedBar : MethodName := ⟨RX5, "fixedBar", "(LBeamHall$Ask;II)I"⟩
abbrev cX5_isHadByOther : ByteArray := prog_7_method_17_code
def yX5_isHadByOther : MethodName := ⟨RX5, "isHadByOther", "(LBeamHall$Ask;II)Z"⟩
abbrev cX5_isGearElsewhere : ByteArray := prog_7_method_18_code
def yX5_isGearElsewhere : MethodName := ⟨RX5, "isGearElsewhere", "(LBeamHall$Ask;II)Z"⟩
abbrev cX5_lacksHosts : ByteArray := prog_7_method_19_code
def yX5_lacksHosts : MethodName := ⟨RX5, "lacksHosts", "(LBeamHall$Ask;IIZ)Z"⟩
abbrev cX5_freeHosts : ByteArray := prog_7_method_20_code
def yX5_freeHosts : MethodName := ⟨RX5, "freeHosts", "(LBeamHall$Ask;II)I"⟩
abbrev cX5_isTooNear : ByteArray := prog_7_method_21_code
def yX5_isTooNear : MethodName := ⟨RX5, "isTooNear", "(LBeamHall$Ask;I)Z"⟩
abbrev cX5_isBeyondDays : ByteArray := prog_7_method_22_code
def yX5_isBeyondDays : MethodName := ⟨RX5, "isBeyondDays", "(LBeamHall$Ask;I)Z"⟩
abbrev cX5_suits : ByteArray := prog_7_method_23_code
def yX5_suits : MethodName := ⟨RX5, "suits", "(LBeamHall$Ask;II)Z"⟩
abbrev cX5_isOpen : ByteArray := prog_7_method_24_code
def yX5_isOpen : MethodName := ⟨RX5, "isOpen", "(LBeamHall$Ask;III)Z"⟩
abbrev cX5_watchOf : ByteArray := prog_7_method_25_code
def yX5_watchOf : MethodName := ⟨RX5, "watchOf", "(LBeamHall$Ask;II)I"⟩
abbrev cX5_place : ByteArray := prog_7_method_26_code
def yX5_place : MethodName := ⟨RX5, "place", "(LBeamHall$Ask;II)V"⟩
abbrev cX5_clear : ByteArray := prog_7_method_27_code
def yX5_clear : MethodName := ⟨RX5, "clear", "(LBeamHall$Ask;)V"⟩
abbrev cX5_clearUnfit : ByteArray := prog_7_method_28_code
def yX5_clearUnfit : MethodName := ⟨RX5, "clearUnfit", "(LBeamHall$Ask;)Z"⟩
abbrev cX5_lay : ByteArray := prog_7_method_29_code
def yX5_lay : MethodName := ⟨RX5, "lay", "(LBeamHall$Ask;III)V"⟩
abbrev cX5_lift : ByteArray := prog_7_method_30_code
def yX5_lift : MethodName := ⟨RX5, "lift", "(LBeamHall$Ask;)V"⟩
def RX6 : String := "BeamHall$Panel"
def TX6 : u_T := fun k => match k with
  | 0 => ("BeamHall$Panel", "hall", "LBeamHall$Hall;", true)
  | 1 => ("BeamHall$Panel", "kin", "[I", true)
  | 2 => ("BeamHall$Panel", "told", "[I", true)
  | 3 => ("BeamHall$Panel", "marks", "[I", true)
  | 4 => ("BeamHall$Panel", "habits", "[I", true)
  | _ => ("BeamHall$Panel", "scaled", "I", false)
def tyX6 : Nat → FieldType := fun k => match k with
  | 0 => .object "BeamHall$Hall"
  | 1 => .array .int
  | 2 => .array .int
  | 3 => .array .int
  | 4 => .array .int
  | _ => .int
abbrev wsX60 : List Cond := u_ws RX6 TX6 6
theorem nmX6 : ∀ a, a < 6 → ∀ b, b < 6 → a ≠ b → (TX6 a).2.1 ≠ (TX6 b).2.1 := by decide +kernel
theorem tyX6_ok : ∀ k, k < 6 → parseFieldDescriptor (TX6 k).2.2.1 = some (tyX6 k) := by decide +kernel
abbrev cX6_init : ByteArray := prog_8_method_1_code
def yX6_init : MethodName := ⟨RX6, "<init>", "(LBeamHall$Hall;)V"⟩
abbrev cX6_tellKin : ByteArray := prog_8_method_2_code
def yX6_tellKin : MethodName := ⟨RX6, "tellKin", "(II)Z"⟩
abbrev cX6_isTold : ByteArray := prog_8_method_3_code
def yX6_isTold : MethodName := ⟨RX6, "isTold", "(II)Z"⟩
abbrev cX6_toldOf : ByteArray := prog_8_method_4_code
def yX6_toldOf : MethodName := ⟨RX6, "toldOf", "(I)I"⟩
abbrev cX6_markBy : ByteArray := prog_8_method_5_code
def yX6_markBy : MethodName := ⟨RX6, "markBy", "(II)I"⟩
abbrev cX6_tell : ByteArray := prog_8_method_6_code
def yX6_tell : MethodName := ⟨RX6, "tell", "(ILBeamHall$Ask;I)Z"⟩
abbrev cX6_changeScaled : ByteArray := prog_8_method_7_code
def yX6_changeScaled : MethodName := ⟨RX6, "changeScaled", "(I)I"⟩
abbrev cX6_reckonMarks : ByteArray := prog_8_method_8_code
def yX6_reckonMarks : MethodName := ⟨RX6, "reckonMarks", "()V"⟩
abbrev cX6_joinedMark : ByteArray := prog_8_method_9_code
def yX6_joinedMark : MethodName := ⟨RX6, "joinedMark", "(I)I"⟩
abbrev cX6_habitOf : ByteArray := prog_8_method_10_code
def yX6_habitOf : MethodName := ⟨RX6, "habitOf", "(I)I"⟩
abbrev cX6_doubtOf : ByteArray := prog_8_method_11_code
def yX6_doubtOf : MethodName := ⟨RX6, "doubtOf", "(I)I"⟩
abbrev cX6_areTwoMarks : ByteArray := prog_8_method_12_code
def yX6_areTwoMarks : MethodName := ⟨RX6, "areTwoMarks", "(III)Z"⟩
def RX7 : String := "BeamHall$Planner"
def TX7 : u_T := fun k => match k with
  | 0 => ("BeamHall$Planner", "hall", "LBeamHall$Hall;", true)
  | 1 => ("BeamHall$Planner", "beam", "LBeamHall$Beam;", true)
  | 2 => ("BeamHall$Planner", "order", "[LBeamHall$Ask;", true)
  | 3 => ("BeamHall$Planner", "passed", "[I", true)
  | 4 => ("BeamHall$Planner", "oldBench", "[I", true)
  | 5 => ("BeamHall$Planner", "oldShift", "[I", true)
  | 6 => ("BeamHall$Planner", "orderSize", "I", false)
  | 7 => ("BeamHall$Planner", "passedCount", "I", false)
  | _ => ("BeamHall$Planner", "share", "I", false)
def tyX7 : Nat → FieldType := fun k => match k with
  | 0 => .object "BeamHall$Hall"
  | 1 => .object "BeamHall$Beam"
  | 2 => .array (.object "BeamHall$Ask")
  | 3 => .array .int
  | 4 => .array .int
  | 5 => .array .int
  | 6 => .int
  | 7 => .int
  | _ => .int
abbrev wsX70 : List Cond := u_ws RX7 TX7 9
theorem nmX7 : ∀ a, a < 9 → ∀ b, b < 9 → a ≠ b → (TX7 a).2.1 ≠ (TX7 b).2.1 := by decide +kernel
theorem tyX7_ok : ∀ k, k < 9 → parseFieldDescriptor (TX7 k).2.2.1 = some (tyX7 k) := by decide +kernel
abbrev cX7_init : ByteArray := prog_9_method_1_code
def yX7_init : MethodName := ⟨RX7, "<init>", "(LBeamHall$Hall;LBeamHall$Beam;)V"⟩
abbrev cX7_changeShare : ByteArray := prog_9_method_2_code
def yX7_changeShare : MethodName := ⟨RX7, "changeShare", "(I)I"⟩
abbrev cX7_passedAt : ByteArray := prog_9_method_3_code
def yX7_passedAt : MethodName := ⟨RX7, "passedAt", "(I)I"⟩
abbrev cX7_enter : ByteArray := prog_9_method_4_code
def yX7_enter : MethodName := ⟨RX7, "enter", "(LBeamHall$Ask;)V"⟩
abbrev cX7_planAll : ByteArray := prog_9_method_5_code
def yX7_planAll : MethodName := ⟨RX7, "planAll", "(II)I"⟩
abbrev cX7_placeFirst : ByteArray := prog_9_method_6_code
def yX7_placeFirst : MethodName := ⟨RX7, "placeFirst", "(LBeamHall$Ask;II)Z"⟩
abbrev cX7_isInShare : ByteArray := prog_9_method_7_code
def yX7_isInShare : MethodName := ⟨RX7, "isInShare", "(LBeamHall$Ask;II)Z"⟩
abbrev cX7_planAgain : ByteArray := prog_9_method_8_code
def yX7_planAgain : MethodName := ⟨RX7, "planAgain", "()I"⟩
def RX8 : String := "BeamHall$Rules"
def TX8 : u_T := fun k => match k with
  | 0 => ("BeamHall$Rules", "texts", "[LBeamHall$Text;", true)
  | 1 => ("BeamHall$Rules", "facts", "[I", true)
  | 2 => ("BeamHall$Rules", "stack", "[I", true)
  | _ => ("BeamHall$Rules", "count", "I", false)
def tyX8 : Nat → FieldType := fun k => match k with
  | 0 => .array (.object "BeamHall$Text")
  | 1 => .array .int
  | 2 => .array .int
  | _ => .int
abbrev wsX80 : List Cond := u_ws RX8 TX8 4
theorem nmX8 : ∀ a, a < 4 → ∀ b, b < 4 → a ≠ b → (TX8 a).2.1 ≠ (TX8 b).2.1 := by decide +kernel
theorem tyX8_ok : ∀ k, k < 4 → parseFieldDescriptor (TX8 k).2.2.1 = some (tyX8 k) := by decide +kernel
abbrev cX8_init : ByteArray := prog_10_method_1_code
def yX8_init : MethodName := ⟨RX8, "<init>", "()V"⟩
abbrev cX8_textAt : ByteArray := prog_10_method_2_code
def yX8_textAt : MethodName := ⟨RX8, "textAt", "(I)LBeamHall$Text;"⟩
abbrev cX8_add : ByteArray := prog_10_method_3_code
def yX8_add : MethodName := ⟨RX8, "add", "(II[I)I"⟩
abbrev cX8_learn : ByteArray := prog_10_method_4_code
def yX8_learn : MethodName := ⟨RX8, "learn", "(LBeamHall$Ask;III)V"⟩
abbrev cX8_leastThatHolds : ByteArray := prog_10_method_5_code
def yX8_leastThatHolds : MethodName := ⟨RX8, "leastThatHolds", "(ILBeamHall$Ask;II)I"⟩
abbrev cX8_quarrel : ByteArray := prog_10_method_6_code
def yX8_quarrel : MethodName := ⟨RX8, "quarrel", "(LBeamHall$Ask;IIZ)I"⟩
abbrev cX8_quarrelsWith : ByteArray := prog_10_method_7_code
def yX8_quarrelsWith : MethodName := ⟨RX8, "quarrelsWith", "(II)I"⟩
abbrev cX8_counting : ByteArray := prog_10_method_8_code
def yX8_counting : MethodName := ⟨RX8, "counting", "(I)LBeamHall$Text;"⟩
abbrev cX8_owed : ByteArray := prog_10_method_9_code
def yX8_owed : MethodName := ⟨RX8, "owed", "(LBeamHall$Ask;I)I"⟩
def RX9 : String := "BeamHall$Tape"
def TX9 : u_T := fun k => match k with
  | 0 => ("BeamHall$Tape", "bytes", "[I", true)
  | 1 => ("BeamHall$Tape", "code", "[I", true)
  | 2 => ("BeamHall$Tape", "size", "I", false)
  | 3 => ("BeamHall$Tape", "codeSize", "I", false)
  | _ => ("BeamHall$Tape", "at", "I", false)
def tyX9 : Nat → FieldType := fun k => match k with
  | 0 => .array .int
  | 1 => .array .int
  | 2 => .int
  | 3 => .int
  | _ => .int
abbrev wsX90 : List Cond := u_ws RX9 TX9 5
theorem nmX9 : ∀ a, a < 5 → ∀ b, b < 5 → a ≠ b → (TX9 a).2.1 ≠ (TX9 b).2.1 := by decide +kernel
theorem tyX9_ok : ∀ k, k < 5 → parseFieldDescriptor (TX9 k).2.2.1 = some (tyX9 k) := by decide +kernel
abbrev cX9_init : ByteArray := prog_11_method_1_code
def yX9_init : MethodName := ⟨RX9, "<init>", "()V"⟩
abbrev cX9_append : ByteArray := prog_11_method_2_code
def yX9_append : MethodName := ⟨RX9, "append", "(IJ)I"⟩
abbrev cX9_letter : ByteArray := prog_11_method_3_code
def yX9_letter : MethodName := ⟨RX9, "letter", "()I"⟩
abbrev cX9_written : ByteArray := prog_11_method_4_code
def yX9_written : MethodName := ⟨RX9, "written", "()[I"⟩
abbrev cX9_read : ByteArray := prog_11_method_5_code
def yX9_read : MethodName := ⟨RX9, "read", "()Z"⟩
abbrev cX9_next : ByteArray := prog_11_method_6_code
def yX9_next : MethodName := ⟨RX9, "next", "()I"⟩
abbrev cX9_skip : ByteArray := prog_11_method_7_code
def yX9_skip : MethodName := ⟨RX9, "skip", "(I)Z"⟩
abbrev cX9_write : ByteArray := prog_11_method_8_code
def yX9_write : MethodName := ⟨RX9, "write", "(I)V"⟩
abbrev cX9_readJoined : ByteArray := prog_11_method_9_code
def yX9_readJoined : MethodName := ⟨RX9, "readJoined", "(II)Z"⟩
abbrev cX9_readPart : ByteArray := prog_11_method_10_code
def yX9_readPart : MethodName := ⟨RX9, "readPart", "(I)Z"⟩
abbrev cX9_readComparison : ByteArray := prog_11_method_11_code
def yX9_readComparison : MethodName := ⟨RX9, "readComparison", "()Z"⟩
abbrev cX9_readSum : ByteArray := prog_11_method_12_code
def yX9_readSum : MethodName := ⟨RX9, "readSum", "()Z"⟩
abbrev cX9_signOf : ByteArray := prog_11_method_13_code
def yX9_signOf : MethodName := ⟨RX9, "signOf", "(IIIII)I"⟩
abbrev cX9_readUnit : ByteArray := prog_11_method_14_code
def yX9_readUnit : MethodName := ⟨RX9, "readUnit", "()Z"⟩
abbrev cX9_factNumber : ByteArray := prog_11_method_15_code
def yX9_factNumber : MethodName := ⟨RX9, "factNumber", "(I)I"⟩
def RX10 : String := "BeamHall$Text"
def TX10 : u_T := fun k => match k with
  | 0 => ("BeamHall$Text", "letter", "I", true)
  | 1 => ("BeamHall$Text", "from", "I", true)
  | 2 => ("BeamHall$Text", "code", "[I", true)
  | 3 => ("BeamHall$Text", "till", "I", false)
  | _ => ("BeamHall$Text", "isStruck", "Z", false)
def tyX10 : Nat → FieldType := fun k => match k with
  | 0 => .int
  | 1 => .int
  | 2 => .array .int
  | 3 => .int
  | _ => .boolean
abbrev wsX100 : List Cond := u_ws RX10 TX10 5
theorem nmX10 : ∀ a, a < 5 → ∀ b, b < 5 → a ≠ b → (TX10 a).2.1 ≠ (TX10 b).2.1 := by decide +kernel
theorem tyX10_ok : ∀ k, k < 5 → parseFieldDescriptor (TX10 k).2.2.1 = some (tyX10 k) := by decide +kernel
abbrev cX10_init : ByteArray := prog_12_method_1_code
def yX10_init : MethodName := ⟨RX10, "<init>", "(II[I)V"⟩
abbrev cX10_isInForce : ByteArray := prog_12_method_2_code
def yX10_isInForce : MethodName := ⟨RX10, "isInForce", "(I)Z"⟩
abbrev cX10_value : ByteArray := prog_12_method_3_code
def yX10_value : MethodName := ⟨RX10, "value", "([I[I)I"⟩
abbrev cX10_joined : ByteArray := prog_12_method_4_code
def yX10_joined : MethodName := ⟨RX10, "joined", "(III)I"⟩
def RX11 : String := "BeamHall"
def TX11 : u_T := fun k => match k with
  | 0 => ("BeamHall", "beam", "LBeamHall$Beam;", true)
  | 1 => ("BeamHall", "rules", "LBeamHall$Rules;", true)
  | 2 => ("BeamHall", "tape", "LBeamHall$Tape;", true)
  | 3 => ("BeamHall", "panel", "LBeamHall$Panel;", true)
  | 4 => ("BeamHall", "hall", "LBeamHall$Hall;", true)
  | 5 => ("BeamHall", "planner", "LBeamHall$Planner;", true)
  | 6 => ("BeamHall", "best", "LBeamHall$Best;", true)
  | 7 => ("BeamHall", "circle", "LBeamHall$Circle;", true)
  | 8 => ("BeamHall", "refused", "[I", true)
  | 9 => ("BeamHall", "row", "[I", true)
  | 10 => ("BeamHall", "rowSize", "I", false)
  | _ => ("BeamHall", "draft", "LBeamHall$Ask;", false)
def tyX11 : Nat → FieldType := fun k => match k with
  | 0 => .object "BeamHall$Beam"
  | 1 => .object "BeamHall$Rules"
  | 2 => .object "BeamHall$Tape"
  | 3 => .object "BeamHall$Panel"
  | 4 => .object "BeamHall$Hall"
  | 5 => .object "BeamHall$Planner"
  | 6 => .object "BeamHall$Best"
  | 7 => .object "BeamHall$Circle"
  | 8 => .array .int
  | 9 => .array .int
  | 10 => .int
  | _ => .object "BeamHall$Ask"
abbrev wsX110 : List Cond := u_ws RX11 TX11 12
theorem nmX11 : ∀ a, a < 12 → ∀ b, b < 12 → a ≠ b → (TX11 a).2.1 ≠ (TX11 b).2.1 := by decide +kernel
theorem tyX11_ok : ∀ k, k < 12 → parseFieldDescriptor (TX11 k).2.2.1 = some (tyX11 k) := by decide +kernel
abbrev cX11_init : ByteArray := prog_1_method_1_code
def yX11_init : MethodName := ⟨RX11, "<init>", "()V"⟩
abbrev cX11_hours : ByteArray := prog_1_method_2_code
def yX11_hours : MethodName := ⟨RX11, "hours", "(I)I"⟩
abbrev cX11_mode : ByteArray := prog_1_method_3_code
def yX11_mode : MethodName := ⟨RX11, "mode", "(III)I"⟩
abbrev cX11_trip : ByteArray := prog_1_method_4_code
def yX11_trip : MethodName := ⟨RX11, "trip", "(II)I"⟩
abbrev cX11_shiftOf : ByteArray := prog_1_method_5_code
def yX11_shiftOf : MethodName := ⟨RX11, "shiftOf", "(III)I"⟩
abbrev cX11_bench : ByteArray := prog_1_method_6_code
def yX11_bench : MethodName := ⟨RX11, "bench", "(II)I"⟩
abbrev cX11_set : ByteArray := prog_1_method_7_code
def yX11_set : MethodName := ⟨RX11, "set", "(II)I"⟩
abbrev cX11_draft : ByteArray := prog_1_method_8_code
def yX11_draft : MethodName := ⟨RX11, "draft", "(IIII)I"⟩
abbrev cX11_ask : ByteArray := prog_1_method_9_code
def yX11_ask : MethodName := ⟨RX11, "ask", "(IIIIIII)I"⟩
abbrev cX11_withdraw : ByteArray := prog_1_method_10_code
def yX11_withdraw : MethodName := ⟨RX11, "withdraw", "(I)I"⟩
abbrev cX11_askOf : ByteArray := prog_1_method_11_code
def yX11_askOf : MethodName := ⟨RX11, "askOf", "(II)I"⟩
abbrev cX11_feed : ByteArray := prog_1_method_12_code
def yX11_feed : MethodName := ⟨RX11, "feed", "(IJ)I"⟩
abbrev cX11_text : ByteArray := prog_1_method_13_code
def yX11_text : MethodName := ⟨RX11, "text", "(I)I"⟩
abbrev cX11_strike : ByteArray := prog_1_method_14_code
def yX11_strike : MethodName := ⟨RX11, "strike", "(II)I"⟩
abbrev cX11_barred : ByteArray := prog_1_method_15_code
def yX11_barred : MethodName := ⟨RX11, "barred", "(IIII)I"⟩
abbrev cX11_kin : ByteArray := prog_1_method_16_code
def yX11_kin : MethodName := ⟨RX11, "kin", "(II)I"⟩
abbrev cX11_mark : ByteArray := prog_1_method_17_code
def yX11_mark : MethodName := ⟨RX11, "mark", "(III)I"⟩
abbrev cX11_markOf : ByteArray := prog_1_method_18_code
def yX11_markOf : MethodName := ⟨RX11, "markOf", "(I)I"⟩
abbrev cX11_habit : ByteArray := prog_1_method_19_code
def yX11_habit : MethodName := ⟨RX11, "habit", "(II)I"⟩
abbrev cX11_fit : ByteArray := prog_1_method_20_code
def yX11_fit : MethodName := ⟨RX11, "fit", "(III)I"⟩
abbrev cX11_give : ByteArray := prog_1_method_21_code
def yX11_give : MethodName := ⟨RX11, "give", "(III)I"⟩
abbrev cX11_take : ByteArray := prog_1_method_22_code
def yX11_take : MethodName := ⟨RX11, "take", "(I)I"⟩
abbrev cX11_plan : ByteArray := prog_1_method_23_code
def yX11_plan : MethodName := ⟨RX11, "plan", "(II)I"⟩
abbrev cX11_passed : ByteArray := prog_1_method_24_code
def yX11_passed : MethodName := ⟨RX11, "passed", "(I)I"⟩
abbrev cX11_why : ByteArray := prog_1_method_25_code
def yX11_why : MethodName := ⟨RX11, "why", "(IIIII)I"⟩
abbrev cX11_best : ByteArray := prog_1_method_26_code
def yX11_best : MethodName := ⟨RX11, "best", "(IIII)I"⟩
abbrev cX11_hosts : ByteArray := prog_1_method_27_code
def yX11_hosts : MethodName := ⟨RX11, "hosts", "(II)I"⟩
abbrev cX11_owe : ByteArray := prog_1_method_28_code
def yX11_owe : MethodName := ⟨RX11, "owe", "(I)I"⟩
abbrev cX11_again : ByteArray := prog_1_method_29_code
def yX11_again : MethodName := ⟨RX11, "again", "()I"⟩
abbrev cX11_danger : ByteArray := prog_1_method_30_code
def yX11_danger : MethodName := ⟨RX11, "danger", "(II)I"⟩
abbrev cX11_wish : ByteArray := prog_1_method_31_code
def yX11_wish : MethodName := ⟨RX11, "wish", "(IIZ)I"⟩
abbrev cX11_ring : ByteArray := prog_1_method_32_code
def yX11_ring : MethodName := ⟨RX11, "ring", "(I)I"⟩
abbrev cX11_swap : ByteArray := prog_1_method_33_code
def yX11_swap : MethodName := ⟨RX11, "swap", "()I"⟩
abbrev cX11_had : ByteArray := prog_1_method_34_code
def yX11_had : MethodName := ⟨RX11, "had", "(III)I"⟩
abbrev cX11_lead : ByteArray := prog_1_method_35_code
def yX11_lead : MethodName := ⟨RX11, "lead", "(II)I"⟩
abbrev cX11_put : ByteArray := prog_1_method_36_code
def yX11_put : MethodName := ⟨RX11, "put", "(I)I"⟩
abbrev cX11_check : ByteArray := prog_1_method_37_code
def yX11_check : MethodName := ⟨RX11, "check", "(III)I"⟩
abbrev cX11_count : ByteArray := prog_1_method_38_code
def yX11_count : MethodName := ⟨RX11, "count", "(I)I"⟩
abbrev cX11_refuse : ByteArray := prog_1_method_39_code
def yX11_refuse : MethodName := ⟨RX11, "refuse", "(I)I"⟩
abbrev cX11_firstWrong : ByteArray := prog_1_method_40_code
def yX11_firstWrong : MethodName := ⟨RX11, "firstWrong", "(LBeamHall$Bench;II)I"⟩
abbrev cX11_isShift : ByteArray := prog_1_method_41_code
def yX11_isShift : MethodName := ⟨RX11, "isShift", "(I)Z"⟩
abbrev cX11_areShifts : ByteArray := prog_1_method_42_code
def yX11_areShifts : MethodName := ⟨RX11, "areShifts", "(II)Z"⟩
abbrev cX11_isReader : ByteArray := prog_1_method_43_code
def yX11_isReader : MethodName := ⟨RX11, "isReader", "(I)Z"⟩
abbrev cX11_isIn : ByteArray := prog_1_method_44_code
def yX11_isIn : MethodName := ⟨RX11, "isIn", "(II)Z"⟩
abbrev cX11_daysBelow : ByteArray := prog_1_method_45_code
def yX11_daysBelow : MethodName := ⟨RX11, "daysBelow", "(III)Z"⟩
abbrev cX11_daysAbove : ByteArray := prog_1_method_46_code
def yX11_daysAbove : MethodName := ⟨RX11, "daysAbove", "(III)Z"⟩
def RX12 : String := "BeamHallModel"
def TX12 : u_T := fun k => match k with
  | 0 => ("BeamHallModel", "now", "I", false)
  | 1 => ("BeamHallModel", "modes", "[I", true)
  | 2 => ("BeamHallModel", "trips", "I", false)
  | 3 => ("BeamHallModel", "tHour", "[I", true)
  | 4 => ("BeamHallModel", "tMany", "[I", true)
  | 5 => ("BeamHallModel", "tFound", "[I", true)
  | 6 => ("BeamHallModel", "benches", "I", false)
  | 7 => ("BeamHallModel", "can", "[I", true)
  | 8 => ("BeamHallModel", "hostsOf", "[I", true)
  | 9 => ("BeamHallModel", "rest", "I", false)
  | 10 => ("BeamHallModel", "share", "I", false)
  | 11 => ("BeamHallModel", "scaled", "I", false)
  | 12 => ("BeamHallModel", "hasDraft", "Z", false)
  | 13 => ("BeamHallModel", "draftGroup", "I", false)
  | 14 => ("BeamHallModel", "draftLand", "I", false)
  | 15 => ("BeamHallModel", "draftLong", "I", false)
  | 16 => ("BeamHallModel", "draftWants", "I", false)
  | 17 => ("BeamHallModel", "asks", "I", false)
  | 18 => ("BeamHallModel", "kind", "[I", true)
  | 19 => ("BeamHallModel", "group", "[I", true)
  | 20 => ("BeamHallModel", "land", "[I", true)
  | 21 => ("BeamHallModel", "length", "[I", true)
  | 22 => ("BeamHallModel", "wants", "[I", true)
  | 23 => ("BeamHallModel", "benchSet", "[I", true)
  | 24 => ("BeamHallModel", "modeSet", "[I", true)
  | 25 => ("BeamHallModel", "gear", "[I", true)
  | 26 => ("BeamHallModel", "danger", "[I", true)
  | 27 => ("BeamHallModel", "xOf", "[I", true)
  | 28 => ("BeamHallModel", "yOf", "[I", true)
  | 29 => ("BeamHallModel", "isGone", "[Z", true)
  | 30 => ("BeamHallModel", "wasOwed", "[Z", true)
  | 31 => ("BeamHallModel", "atBench", "[I", true)
  | 32 => ("BeamHallModel", "atShift", "[I", true)
  | 33 => ("BeamHallModel", "standing", "[I", true)
  | 34 => ("BeamHallModel", "refused", "[I", true)
  | 35 => ("BeamHallModel", "events", "I", false)
  | 36 => ("BeamHallModel", "eWhere", "[I", true)
  | 37 => ("BeamHallModel", "eHour", "[I", true)
  | 38 => ("BeamHallModel", "eAsk", "[I", true)
  | 39 => ("BeamHallModel", "tape", "[I", true)
  | 40 => ("BeamHallModel", "tapeMany", "I", false)
  | 41 => ("BeamHallModel", "texts", "I", false)
  | 42 => ("BeamHallModel", "written", "[I", true)
  | 43 => ("BeamHallModel", "writtenMany", "[I", true)
  | 44 => ("BeamHallModel", "textFrom", "[I", true)
  | 45 => ("BeamHallModel", "struckFrom", "[I", true)
  | 46 => ("BeamHallModel", "isTold", "Z", false)
  | 47 => ("BeamHallModel", "base", "I", false)
  | 48 => ("BeamHallModel", "end", "I", false)
  | 49 => ("BeamHallModel", "at", "I", false)
  | 50 => ("BeamHallModel", "isBad", "Z", false)
  | 51 => ("BeamHallModel", "deep", "I", false)
  | 52 => ("BeamHallModel", "facts", "[I", true)
  | 53 => ("BeamHallModel", "values", "[Z", true)
  | 54 => ("BeamHallModel", "valueMany", "I", false)
  | 55 => ("BeamHallModel", "signs", "[I", true)
  | 56 => ("BeamHallModel", "signMany", "I", false)
  | 57 => ("BeamHallModel", "isKin", "[Z", true)
  | 58 => ("BeamHallModel", "marks", "[I", true)
  | 59 => ("BeamHallModel", "isMarked", "[Z", true)
  | 60 => ("BeamHallModel", "doesCount", "[Z", true)
  | 61 => ("BeamHallModel", "passedMany", "I", false)
  | 62 => ("BeamHallModel", "passedAsk", "[I", true)
  | 63 => ("BeamHallModel", "order", "[I", true)
  | 64 => ("BeamHallModel", "orderMany", "I", false)
  | 65 => ("BeamHallModel", "few", "[I", true)
  | 66 => ("BeamHallModel", "fewMany", "I", false)
  | 67 => ("BeamHallModel", "way", "[I", true)
  | 68 => ("BeamHallModel", "sumTo", "[I", true)
  | 69 => ("BeamHallModel", "bestWay", "[I", true)
  | 70 => ("BeamHallModel", "wasBench", "[I", true)
  | 71 => ("BeamHallModel", "wasShift", "[I", true)
  | 72 => ("BeamHallModel", "isWish", "[Z", true)
  | 73 => ("BeamHallModel", "ringAsk", "[I", true)
  | 74 => ("BeamHallModel", "ringMany", "I", false)
  | 75 => ("BeamHallModel", "oldBench", "[I", true)
  | 76 => ("BeamHallModel", "oldShift", "[I", true)
  | 77 => ("BeamHallModel", "oldStanding", "[I", true)
  | 78 => ("BeamHallModel", "row", "[I", true)
  | _ => ("BeamHallModel", "rowMany", "I", false)
def tyX12 : Nat → FieldType := fun k => match k with
  | 0 => .int
  | 1 => .array .int
  | 2 => .int
  | 3 => .array .int
  | 4 => .array .int
  | 5 => .array .int
  | 6 => .int
  | 7 => .array .int
  | 8 => .array .int
  | 9 => .int
  | 10 => .int
  | 11 => .int
  | 12 => .boolean
  | 13 => .int
  | 14 => .int
  | 15 => .int
  | 16 => .int
  | 17 => .int
  | 18 => .array .int
  | 19 => .array .int
  | 20 => .array .int
  | 21 => .array .int
  | 22 => .array .int
  | 23 => .array .int
  | 24 => .array .int
  | 25 => .array .int
  | 26 => .array .int
  | 27 => .array .int
  | 28 => .array .int
  | 29 => .array .boolean
  | 30 => .array .boolean
  | 31 => .array .int
  | 32 => .array .int
  | 33 => .array .int
  | 34 => .array .int
  | 35 => .int
  | 36 => .array .int
  | 37 => .array .int
  | 38 => .array .int
  | 39 => .array .int
  | 40 => .int
  | 41 => .int
  | 42 => .array .int
  | 43 => .array .int
  | 44 => .array .int
  | 45 => .array .int
  | 46 => .boolean
  | 47 => .int
  | 48 => .int
  | 49 => .int
  | 50 => .boolean
  | 51 => .int
  | 52 => .array .int
  | 53 => .array .boolean
  | 54 => .int
  | 55 => .array .int
  | 56 => .int
  | 57 => .array .boolean
  | 58 => .array .int
  | 59 => .array .boolean
  | 60 => .array .boolean
  | 61 => .int
  | 62 => .array .int
  | 63 => .array .int
  | 64 => .int
  | 65 => .array .int
  | 66 => .int
  | 67 => .array .int
  | 68 => .array .int
  | 69 => .array .int
  | 70 => .array .int
  | 71 => .array .int
  | 72 => .array .boolean
  | 73 => .array .int
  | 74 => .int
  | 75 => .array .int
  | 76 => .array .int
  | 77 => .array .int
  | 78 => .array .int
  | _ => .int
abbrev wsX120 : List Cond := u_ws RX12 TX12 80
theorem nmX12 : ∀ a, a < 80 → ∀ b, b < 80 → a ≠ b → (TX12 a).2.1 ≠ (TX12 b).2.1 := by decide +kernel
theorem tyX12_ok : ∀ k, k < 80 → parseFieldDescriptor (TX12 k).2.2.1 = some (tyX12 k) := by decide +kernel
abbrev cX12_init : ByteArray := prog_14_method_1_code
def yX12_init : MethodName := ⟨RX12, "<init>", "()V"⟩
abbrev cX12_in : ByteArray := prog_14_method_3_code
def yX12_in : MethodName := ⟨RX12, "in", "(III)Z"⟩
abbrev cX12_refuse : ByteArray := prog_14_method_4_code
def yX12_refuse : MethodName := ⟨RX12, "refuse", "(I)I"⟩
abbrev cX12_refuseFar : ByteArray := prog_14_method_5_code
def yX12_refuseFar : MethodName := ⟨RX12, "refuseFar", "(I)I"⟩
abbrev cX12_isShift : ByteArray := prog_14_method_6_code
def yX12_isShift : MethodName := ⟨RX12, "isShift", "(I)Z"⟩
abbrev cX12_isBench : ByteArray := prog_14_method_7_code
def yX12_isBench : MethodName := ⟨RX12, "isBench", "(I)Z"⟩
abbrev cX12_isAsk : ByteArray := prog_14_method_8_code
def yX12_isAsk : MethodName := ⟨RX12, "isAsk", "(I)Z"⟩
abbrev cX12_isBegun : ByteArray := prog_14_method_9_code
def yX12_isBegun : MethodName := ⟨RX12, "isBegun", "(I)Z"⟩
abbrev cX12_hasPlace : ByteArray := prog_14_method_10_code
def yX12_hasPlace : MethodName := ⟨RX12, "hasPlace", "(I)Z"⟩
abbrev cX12_hours : ByteArray := prog_14_method_11_code
def yX12_hours : MethodName := ⟨RX12, "hours", "(I)I"⟩
abbrev cX12_mode : ByteArray := prog_14_method_12_code
def yX12_mode : MethodName := ⟨RX12, "mode", "(III)I"⟩
abbrev cX12_trip : ByteArray := prog_14_method_13_code
def yX12_trip : MethodName := ⟨RX12, "trip", "(II)I"⟩
abbrev cX12_lostIn : ByteArray := prog_14_method_14_code
def yX12_lostIn : MethodName := ⟨RX12, "lostIn", "(II)I"⟩
abbrev cX12_shiftOf : ByteArray := prog_14_method_15_code
def yX12_shiftOf : MethodName := ⟨RX12, "shiftOf", "(III)I"⟩
abbrev cX12_bench : ByteArray := prog_14_method_16_code
def yX12_bench : MethodName := ⟨RX12, "bench", "(II)I"⟩
abbrev cX12_set : ByteArray := prog_14_method_17_code
def yX12_set : MethodName := ⟨RX12, "set", "(II)I"⟩
abbrev cX12_draft : ByteArray := prog_14_method_18_code
def yX12_draft : MethodName := ⟨RX12, "draft", "(IIII)I"⟩
abbrev cX12_add : ByteArray := prog_14_method_19_code
def yX12_add : MethodName := ⟨RX12, "add", "(IIIII)I"⟩
abbrev cX12_ask : ByteArray := prog_14_method_20_code
def yX12_ask : MethodName := ⟨RX12, "ask", "(IIIIIII)I"⟩
abbrev cX12_happened : ByteArray := prog_14_method_21_code
def yX12_happened : MethodName := ⟨RX12, "happened", "(III)V"⟩
abbrev cX12_putAt : ByteArray := prog_14_method_22_code
def yX12_putAt : MethodName := ⟨RX12, "putAt", "(III)V"⟩
abbrev cX12_giveTo : ByteArray := prog_14_method_23_code
def yX12_giveTo : MethodName := ⟨RX12, "giveTo", "(III)V"⟩
abbrev cX12_takeFrom : ByteArray := prog_14_method_24_code
def yX12_takeFrom : MethodName := ⟨RX12, "takeFrom", "(I)V"⟩
abbrev cX12_withdraw : ByteArray := prog_14_method_25_code
def yX12_withdraw : MethodName := ⟨RX12, "withdraw", "(I)I"⟩
abbrev cX12_lossOf : ByteArray := prog_14_method_26_code
def yX12_lossOf : MethodName := ⟨RX12, "lossOf", "(I)I"⟩
abbrev cX12_askOf : ByteArray := prog_14_method_27_code
def yX12_askOf : MethodName := ⟨RX12, "askOf", "(II)I"⟩
abbrev cX12_feed : ByteArray := prog_14_method_28_code
def yX12_feed : MethodName := ⟨RX12, "feed", "(IJ)I"⟩
abbrev cX12_here : ByteArray := prog_14_method_29_code
def yX12_here : MethodName := ⟨RX12, "here", "()I"⟩
abbrev cX12_factOf : ByteArray := prog_14_method_30_code
def yX12_factOf : MethodName := ⟨RX12, "factOf", "(I)I"⟩
abbrev cX12_readUnit : ByteArray := prog_14_method_31_code
def yX12_readUnit : MethodName := ⟨RX12, "readUnit", "()I"⟩
abbrev cX12_readSum : ByteArray := prog_14_method_32_code
def yX12_readSum : MethodName := ⟨RX12, "readSum", "()I"⟩
abbrev cX12_readTest : ByteArray := prog_14_method_33_code
def yX12_readTest : MethodName := ⟨RX12, "readTest", "()Z"⟩
abbrev cX12_topSign : ByteArray := prog_14_method_34_code
def yX12_topSign : MethodName := ⟨RX12, "topSign", "()I"⟩
abbrev cX12_partEnds : ByteArray := prog_14_method_35_code
def yX12_partEnds : MethodName := ⟨RX12, "partEnds", "()V"⟩
abbrev cX12_join : ByteArray := prog_14_method_36_code
def yX12_join : MethodName := ⟨RX12, "join", "(I)V"⟩
abbrev cX12_readRule : ByteArray := prog_14_method_37_code
def yX12_readRule : MethodName := ⟨RX12, "readRule", "()Z"⟩
abbrev cX12_text : ByteArray := prog_14_method_38_code
def yX12_text : MethodName := ⟨RX12, "text", "(I)I"⟩
abbrev cX12_strike : ByteArray := prog_14_method_39_code
def yX12_strike : MethodName := ⟨RX12, "strike", "(II)I"⟩
abbrev cX12_isInForce : ByteArray := prog_14_method_40_code
def yX12_isInForce : MethodName := ⟨RX12, "isInForce", "(III)Z"⟩
abbrev cX12_findFacts : ByteArray := prog_14_method_41_code
def yX12_findFacts : MethodName := ⟨RX12, "findFacts", "(IIII)V"⟩
abbrev cX12_open : ByteArray := prog_14_method_42_code
def yX12_open : MethodName := ⟨RX12, "open", "(I)V"⟩
abbrev cX12_doesHold : ByteArray := prog_14_method_43_code
def yX12_doesHold : MethodName := ⟨RX12, "doesHold", "(I)Z"⟩
abbrev cX12_holding : ByteArray := prog_14_method_44_code
def yX12_holding : MethodName := ⟨RX12, "holding", "(IIII)I"⟩
abbrev cX12_quarrel : ByteArray := prog_14_method_45_code
def yX12_quarrel : MethodName := ⟨RX12, "quarrel", "(IIIZ)I"⟩
abbrev cX12_barred : ByteArray := prog_14_method_46_code
def yX12_barred : MethodName := ⟨RX12, "barred", "(IIII)I"⟩
abbrev cX12_owedOf : ByteArray := prog_14_method_47_code
def yX12_owedOf : MethodName := ⟨RX12, "owedOf", "(I)I"⟩
abbrev cX12_isReader : ByteArray := prog_14_method_48_code
def yX12_isReader : MethodName := ⟨RX12, "isReader", "(I)Z"⟩
abbrev cX12_kin : ByteArray := prog_14_method_49_code
def yX12_kin : MethodName := ⟨RX12, "kin", "(II)I"⟩
abbrev cX12_mark : ByteArray := prog_14_method_50_code
def yX12_mark : MethodName := ⟨RX12, "mark", "(III)I"⟩
abbrev cX12_habitOf : ByteArray := prog_14_method_51_code
def yX12_habitOf : MethodName := ⟨RX12, "habitOf", "(I)I"⟩
abbrev cX12_doubtOf : ByteArray := prog_14_method_52_code
def yX12_doubtOf : MethodName := ⟨RX12, "doubtOf", "(I)I"⟩
abbrev cX12_markFor : ByteArray := prog_14_method_53_code
def yX12_markFor : MethodName := ⟨RX12, "markFor", "(I)I"⟩
abbrev cX12_markOf : ByteArray := prog_14_method_54_code
def yX12_markOf : MethodName := ⟨RX12, "markOf", "(I)I"⟩
abbrev cX12_habit : ByteArray := prog_14_method_55_code
def yX12_habit : MethodName := ⟨RX12, "habit", "(II)I"⟩
abbrev cX12_holdsAt : ByteArray := prog_14_method_56_code
def yX12_holdsAt : MethodName := ⟨RX12, "holdsAt", "(III)Z"⟩
abbrev cX12_freeHosts : ByteArray := prog_14_method_57_code
def yX12_freeHosts : MethodName := ⟨RX12, "freeHosts", "(III)I"⟩
abbrev cX12_ones : ByteArray := prog_14_method_58_code
def yX12_ones : MethodName := ⟨RX12, "ones", "(I)I"⟩
abbrev cX12_isWatched : ByteArray := prog_14_method_59_code
def yX12_isWatched : MethodName := ⟨RX12, "isWatched", "(III)Z"⟩
abbrev cX12_standFor : ByteArray := prog_14_method_60_code
def yX12_standFor : MethodName := ⟨RX12, "standFor", "(III)I"⟩
abbrev cX12_isTooNear : ByteArray := prog_14_method_61_code
def yX12_isTooNear : MethodName := ⟨RX12, "isTooNear", "(II)Z"⟩
abbrev cX12_barIn : ByteArray := prog_14_method_62_code
def yX12_barIn : MethodName := ⟨RX12, "barIn", "(IIII)I"⟩
abbrev cX12_fitOf : ByteArray := prog_14_method_63_code
def yX12_fitOf : MethodName := ⟨RX12, "fitOf", "(III)I"⟩
abbrev cX12_fit : ByteArray := prog_14_method_64_code
def yX12_fit : MethodName := ⟨RX12, "fit", "(III)I"⟩
abbrev cX12_give : ByteArray := prog_14_method_65_code
def yX12_give : MethodName := ⟨RX12, "give", "(III)I"⟩
abbrev cX12_take : ByteArray := prog_14_method_66_code
def yX12_take : MethodName := ⟨RX12, "take", "(I)I"⟩
abbrev cX12_goesAhead : ByteArray := prog_14_method_67_code
def yX12_goesAhead : MethodName := ⟨RX12, "goesAhead", "(II)Z"⟩
abbrev cX12_findOrder : ByteArray := prog_14_method_68_code
def yX12_findOrder : MethodName := ⟨RX12, "findOrder", "(I)V"⟩
abbrev cX12_isWithinShare : ByteArray := prog_14_method_69_code
def yX12_isWithinShare : MethodName := ⟨RX12, "isWithinShare", "(III)Z"⟩
abbrev cX12_giveFirst : ByteArray := prog_14_method_70_code
def yX12_giveFirst : MethodName := ⟨RX12, "giveFirst", "(IIIZ)Z"⟩
abbrev cX12_isSpan : ByteArray := prog_14_method_71_code
def yX12_isSpan : MethodName := ⟨RX12, "isSpan", "(II)Z"⟩
abbrev cX12_plan : ByteArray := prog_14_method_72_code
def yX12_plan : MethodName := ⟨RX12, "plan", "(II)I"⟩
abbrev cX12_passed : ByteArray := prog_14_method_73_code
def yX12_passed : MethodName := ⟨RX12, "passed", "(I)I"⟩
abbrev cX12_why : ByteArray := prog_14_method_74_code
def yX12_why : MethodName := ⟨RX12, "why", "(IIIII)I"⟩
abbrev cX12_markAt : ByteArray := prog_14_method_75_code
def yX12_markAt : MethodName := ⟨RX12, "markAt", "(I)I"⟩
abbrev cX12_findBest : ByteArray := prog_14_method_76_code
def yX12_findBest : MethodName := ⟨RX12, "findBest", "(II)I"⟩
abbrev cX12_best : ByteArray := prog_14_method_77_code
def yX12_best : MethodName := ⟨RX12, "best", "(IIII)I"⟩
abbrev cX12_hosts : ByteArray := prog_14_method_78_code
def yX12_hosts : MethodName := ⟨RX12, "hosts", "(II)I"⟩
abbrev cX12_owe : ByteArray := prog_14_method_79_code
def yX12_owe : MethodName := ⟨RX12, "owe", "(I)I"⟩
abbrev cX12_fitsNoMore : ByteArray := prog_14_method_80_code
def yX12_fitsNoMore : MethodName := ⟨RX12, "fitsNoMore", "(I)Z"⟩
abbrev cX12_again : ByteArray := prog_14_method_81_code
def yX12_again : MethodName := ⟨RX12, "again", "()I"⟩
abbrev cX12_danger : ByteArray := prog_14_method_82_code
def yX12_danger : MethodName := ⟨RX12, "danger", "(II)I"⟩
abbrev cX12_wish : ByteArray := prog_14_method_83_code
def yX12_wish : MethodName := ⟨RX12, "wish", "(IIZ)I"⟩
abbrev cX12_ringFits : ByteArray := prog_14_method_84_code
def yX12_ringFits : MethodName := ⟨RX12, "ringFits", "(I)Z"⟩
abbrev cX12_mayBeNext : ByteArray := prog_14_method_85_code
def yX12_mayBeNext : MethodName := ⟨RX12, "mayBeNext", "(II)Z"⟩
abbrev cX12_findRing : ByteArray := prog_14_method_86_code
def yX12_findRing : MethodName := ⟨RX12, "findRing", "()V"⟩
abbrev cX12_ring : ByteArray := prog_14_method_87_code
def yX12_ring : MethodName := ⟨RX12, "ring", "(I)I"⟩
abbrev cX12_swap : ByteArray := prog_14_method_88_code
def yX12_swap : MethodName := ⟨RX12, "swap", "()I"⟩
abbrev cX12_hadAt : ByteArray := prog_14_method_89_code
def yX12_hadAt : MethodName := ⟨RX12, "hadAt", "(III)I"⟩
abbrev cX12_had : ByteArray := prog_14_method_90_code
def yX12_had : MethodName := ⟨RX12, "had", "(III)I"⟩
abbrev cX12_lead : ByteArray := prog_14_method_91_code
def yX12_lead : MethodName := ⟨RX12, "lead", "(II)I"⟩
abbrev cX12_put : ByteArray := prog_14_method_92_code
def yX12_put : MethodName := ⟨RX12, "put", "(I)I"⟩
abbrev cX12_check : ByteArray := prog_14_method_93_code
def yX12_check : MethodName := ⟨RX12, "check", "(III)I"⟩
abbrev cX12_count : ByteArray := prog_14_method_94_code
def yX12_count : MethodName := ⟨RX12, "count", "(I)I"⟩
def RJ6 : String := "java/lang/Integer"
def TJ6 : u_T := fun k => match k with
  | _ => ("", "", "", false)
def tyJ6 : Nat → FieldType := fun k => match k with
  | _ => .int
abbrev wsJ60 : List Cond := u_ws RJ6 TJ6 0
theorem nmJ6 : ∀ a, a < 0 → ∀ b, b < 0 → a ≠ b → (TJ6 a).2.1 ≠ (TJ6 b).2.1 := by decide +kernel
theorem tyJ6_ok : ∀ k, k < 0 → parseFieldDescriptor (TJ6 k).2.2.1 = some (tyJ6 k) := by decide +kernel
abbrev cJ6_bitCount_0f7a4 : ByteArray := prog_15_method_49_code
def yJ6_bitCount_0f7a4 : MethodName := ⟨RJ6, "bitCount", "(I)I"⟩
def RJ9 : String := "java/lang/Math"
def TJ9 : u_T := fun k => match k with
  | _ => ("", "", "", false)
def tyJ9 : Nat → FieldType := fun k => match k with
  | _ => .int
abbrev wsJ90 : List Cond := u_ws RJ9 TJ9 0
theorem nmJ9 : ∀ a, a < 0 → ∀ b, b < 0 → a ≠ b → (TJ9 a).2.1 ≠ (TJ9 b).2.1 := by decide +kernel
theorem tyJ9_ok : ∀ k, k < 0 → parseFieldDescriptor (TJ9 k).2.2.1 = some (tyJ9 k) := by decide +kernel
abbrev cJ9_floorDiv_7cf53 : ByteArray := prog_16_method_47_code
def yJ9_floorDiv_7cf53 : MethodName := ⟨RJ9, "floorDiv", "(II)I"⟩
abbrev cJ9_max_7cf53 : ByteArray := prog_16_method_65_code
def yJ9_max_7cf53 : MethodName := ⟨RJ9, "max", "(II)I"⟩
abbrev cJ9_min_7cf53 : ByteArray := prog_16_method_69_code
def yJ9_min_7cf53 : MethodName := ⟨RJ9, "min", "(II)I"⟩
def RJ10 : String := "java/lang/System"
def TJ10 : u_T := fun k => match k with
  | _ => ("", "", "", false)
def tyJ10 : Nat → FieldType := fun k => match k with
  | _ => .int
abbrev wsJ100 : List Cond := u_ws RJ10 TJ10 0
theorem nmJ10 : ∀ a, a < 0 → ∀ b, b < 0 → a ≠ b → (TJ10 a).2.1 ≠ (TJ10 b).2.1 := by decide +kernel
theorem tyJ10_ok : ∀ k, k < 0 → parseFieldDescriptor (TJ10 k).2.2.1 = some (tyJ10 k) := by decide +kernel
def RL : String := "BeamHallLaw"
abbrev cL_law : ByteArray := code
def yL_law : MethodName := ⟨RL, "law", "([I)Z"⟩
abbrev vwCl : List vw_C := [(RX0, TX0, 17), (RX1, TX1, 7), (RX2, TX2, 7), (RX3, TX3, 10), (RX4, TX4, 8), (RX5, TX5, 7), (RX6, TX6, 6), (RX7, TX7, 9), (RX8, TX8, 4), (RX9, TX9, 5), (RX10, TX10, 5), (RX11, TX11, 12), (RX12, TX12, 80)]
