def lw_okq (q : MethodName × Nat) : Prop := (q.1.cls ≠ "java/lang/invoke/MethodHandle" ∧ q.1.cls ≠ "java/lang/invoke/VarHandle") ∧ Cond.instantiable q.1.cls q.2 ∈ tables_1 ∧ Cond.privateMethod q.1 ∈ tables_1 ∧ Cond.instanceMethod q.1 ∈ tables_1
theorem lw_p0 : lw_okq (⟨"LentFiddles", "mayHave", "(II)Z"⟩, 13) := ⟨⟨by decide +kernel, by decide +kernel⟩, List.mem_of_getElem? (i := 19) (by decide +kernel), List.mem_of_getElem? (i := 472) (by decide +kernel), List.mem_of_getElem? (i := 473) (by decide +kernel)⟩
theorem lw_p1 : lw_okq (⟨"LentFiddles", "mayHaveSet", "(I)I"⟩, 13) := ⟨⟨by decide +kernel, by decide +kernel⟩, List.mem_of_getElem? (i := 19) (by decide +kernel), List.mem_of_getElem? (i := 496) (by decide +kernel), List.mem_of_getElem? (i := 497) (by decide +kernel)⟩
theorem lw_p2 : lw_okq (⟨"LentFiddles", "takeLending", "(III)I"⟩, 13) := ⟨⟨by decide +kernel, by decide +kernel⟩, List.mem_of_getElem? (i := 19) (by decide +kernel), List.mem_of_getElem? (i := 580) (by decide +kernel), List.mem_of_getElem? (i := 581) (by decide +kernel)⟩
theorem lw_p3 : lw_okq (⟨"LentFiddles", "takeCells", "(IIII)I"⟩, 13) := ⟨⟨by decide +kernel, by decide +kernel⟩, List.mem_of_getElem? (i := 19) (by decide +kernel), List.mem_of_getElem? (i := 584) (by decide +kernel), List.mem_of_getElem? (i := 585) (by decide +kernel)⟩
theorem lw_p4 : lw_okq (⟨"LentFiddles", "met", "(I)I"⟩, 13) := ⟨⟨by decide +kernel, by decide +kernel⟩, List.mem_of_getElem? (i := 19) (by decide +kernel), List.mem_of_getElem? (i := 606) (by decide +kernel), List.mem_of_getElem? (i := 607) (by decide +kernel)⟩
theorem lw_p5 : lw_okq (⟨"LentFiddles", "broken", "(I)I"⟩, 13) := ⟨⟨by decide +kernel, by decide +kernel⟩, List.mem_of_getElem? (i := 19) (by decide +kernel), List.mem_of_getElem? (i := 659) (by decide +kernel), List.mem_of_getElem? (i := 660) (by decide +kernel)⟩
theorem lw_p6 : lw_okq (⟨"LentFiddles", "tellOld", "(I)I"⟩, 13) := ⟨⟨by decide +kernel, by decide +kernel⟩, List.mem_of_getElem? (i := 19) (by decide +kernel), List.mem_of_getElem? (i := 1024) (by decide +kernel), List.mem_of_getElem? (i := 1025) (by decide +kernel)⟩
theorem lw_p7 : lw_okq (⟨"LentFiddles", "leave", "(I)V"⟩, 13) := ⟨⟨by decide +kernel, by decide +kernel⟩, List.mem_of_getElem? (i := 19) (by decide +kernel), List.mem_of_getElem? (i := 1028) (by decide +kernel), List.mem_of_getElem? (i := 1029) (by decide +kernel)⟩
theorem lw_p8 : lw_okq (⟨"LentFiddles", "tellPlain", "(I)I"⟩, 13) := ⟨⟨by decide +kernel, by decide +kernel⟩, List.mem_of_getElem? (i := 19) (by decide +kernel), List.mem_of_getElem? (i := 1032) (by decide +kernel), List.mem_of_getElem? (i := 1033) (by decide +kernel)⟩
theorem lw_p9 : lw_okq (⟨"LentFiddles", "tellFamed", "(I)I"⟩, 13) := ⟨⟨by decide +kernel, by decide +kernel⟩, List.mem_of_getElem? (i := 19) (by decide +kernel), List.mem_of_getElem? (i := 1036) (by decide +kernel), List.mem_of_getElem? (i := 1037) (by decide +kernel)⟩
theorem lw_p10 : lw_okq (⟨"LentFiddles", "praiseFamed", "()I"⟩, 13) := ⟨⟨by decide +kernel, by decide +kernel⟩, List.mem_of_getElem? (i := 19) (by decide +kernel), List.mem_of_getElem? (i := 1044) (by decide +kernel), List.mem_of_getElem? (i := 1045) (by decide +kernel)⟩
theorem lw_p11 : lw_okq (⟨"LentFiddles", "praiseLent", "(I)I"⟩, 13) := ⟨⟨by decide +kernel, by decide +kernel⟩, List.mem_of_getElem? (i := 19) (by decide +kernel), List.mem_of_getElem? (i := 1048) (by decide +kernel), List.mem_of_getElem? (i := 1049) (by decide +kernel)⟩
theorem lw_p12 : lw_okq (⟨"LentFiddlesModel", "isPlayer", "(I)Z"⟩, 63) := ⟨⟨by decide +kernel, by decide +kernel⟩, List.mem_of_getElem? (i := 1068) (by decide +kernel), List.mem_of_getElem? (i := 1281) (by decide +kernel), List.mem_of_getElem? (i := 1282) (by decide +kernel)⟩
theorem lw_p13 : lw_okq (⟨"LentFiddlesModel", "isViolin", "(I)Z"⟩, 63) := ⟨⟨by decide +kernel, by decide +kernel⟩, List.mem_of_getElem? (i := 1068) (by decide +kernel), List.mem_of_getElem? (i := 1285) (by decide +kernel), List.mem_of_getElem? (i := 1286) (by decide +kernel)⟩
theorem lw_p14 : lw_okq (⟨"LentFiddlesModel", "mayHave", "(II)Z"⟩, 63) := ⟨⟨by decide +kernel, by decide +kernel⟩, List.mem_of_getElem? (i := 1068) (by decide +kernel), List.mem_of_getElem? (i := 1297) (by decide +kernel), List.mem_of_getElem? (i := 1298) (by decide +kernel)⟩
theorem lw_p15 : lw_okq (⟨"LentFiddlesModel", "hasHad", "(II)Z"⟩, 63) := ⟨⟨by decide +kernel, by decide +kernel⟩, List.mem_of_getElem? (i := 1068) (by decide +kernel), List.mem_of_getElem? (i := 1301) (by decide +kernel), List.mem_of_getElem? (i := 1302) (by decide +kernel)⟩
def lw_privs_1 : List (MethodName × Nat) := [(⟨"LentFiddles", "mayHave", "(II)Z"⟩, 13), (⟨"LentFiddles", "mayHaveSet", "(I)I"⟩, 13), (⟨"LentFiddles", "takeLending", "(III)I"⟩, 13), (⟨"LentFiddles", "takeCells", "(IIII)I"⟩, 13), (⟨"LentFiddles", "met", "(I)I"⟩, 13), (⟨"LentFiddles", "broken", "(I)I"⟩, 13), (⟨"LentFiddles", "tellOld", "(I)I"⟩, 13), (⟨"LentFiddles", "leave", "(I)V"⟩, 13), (⟨"LentFiddles", "tellPlain", "(I)I"⟩, 13), (⟨"LentFiddles", "tellFamed", "(I)I"⟩, 13), (⟨"LentFiddles", "praiseFamed", "()I"⟩, 13), (⟨"LentFiddles", "praiseLent", "(I)I"⟩, 13), (⟨"LentFiddlesModel", "isPlayer", "(I)Z"⟩, 63), (⟨"LentFiddlesModel", "isViolin", "(I)Z"⟩, 63), (⟨"LentFiddlesModel", "mayHave", "(II)Z"⟩, 63), (⟨"LentFiddlesModel", "hasHad", "(II)Z"⟩, 63)]
theorem lw_r1 : ∀ q ∈ lw_privs_1, lw_okq q := List.forall_mem_cons.mpr ⟨lw_p0, List.forall_mem_cons.mpr ⟨lw_p1, List.forall_mem_cons.mpr ⟨lw_p2, List.forall_mem_cons.mpr ⟨lw_p3, List.forall_mem_cons.mpr ⟨lw_p4, List.forall_mem_cons.mpr ⟨lw_p5, List.forall_mem_cons.mpr ⟨lw_p6, List.forall_mem_cons.mpr ⟨lw_p7, List.forall_mem_cons.mpr ⟨lw_p8, List.forall_mem_cons.mpr ⟨lw_p9, List.forall_mem_cons.mpr ⟨lw_p10, List.forall_mem_cons.mpr ⟨lw_p11, List.forall_mem_cons.mpr ⟨lw_p12, List.forall_mem_cons.mpr ⟨lw_p13, List.forall_mem_cons.mpr ⟨lw_p14, List.forall_mem_cons.mpr ⟨lw_p15, fun _ h => absurd h List.not_mem_nil⟩⟩⟩⟩⟩⟩⟩⟩⟩⟩⟩⟩⟩⟩⟩⟩
theorem lw_p16 : lw_okq (⟨"LentFiddlesModel", "findMost", "()V"⟩, 63) := ⟨⟨by decide +kernel, by decide +kernel⟩, List.mem_of_getElem? (i := 1068) (by decide +kernel), List.mem_of_getElem? (i := 1320) (by decide +kernel), List.mem_of_getElem? (i := 1321) (by decide +kernel)⟩
theorem lw_p17 : lw_okq (⟨"LentFiddlesModel", "findMays", "()V"⟩, 63) := ⟨⟨by decide +kernel, by decide +kernel⟩, List.mem_of_getElem? (i := 1068) (by decide +kernel), List.mem_of_getElem? (i := 1324) (by decide +kernel), List.mem_of_getElem? (i := 1325) (by decide +kernel)⟩
theorem lw_p18 : lw_okq (⟨"LentFiddlesModel", "findBest", "()V"⟩, 63) := ⟨⟨by decide +kernel, by decide +kernel⟩, List.mem_of_getElem? (i := 1068) (by decide +kernel), List.mem_of_getElem? (i := 1332) (by decide +kernel), List.mem_of_getElem? (i := 1333) (by decide +kernel)⟩
theorem lw_p19 : lw_okq (⟨"LentFiddlesModel", "findCalm", "()V"⟩, 63) := ⟨⟨by decide +kernel, by decide +kernel⟩, List.mem_of_getElem? (i := 1068) (by decide +kernel), List.mem_of_getElem? (i := 1336) (by decide +kernel), List.mem_of_getElem? (i := 1337) (by decide +kernel)⟩
theorem lw_p20 : lw_okq (⟨"LentFiddlesModel", "nextOf", "(I)I"⟩, 63) := ⟨⟨by decide +kernel, by decide +kernel⟩, List.mem_of_getElem? (i := 1068) (by decide +kernel), List.mem_of_getElem? (i := 1340) (by decide +kernel), List.mem_of_getElem? (i := 1341) (by decide +kernel)⟩
theorem lw_p21 : lw_okq (⟨"LentFiddlesModel", "likes", "(III)Z"⟩, 63) := ⟨⟨by decide +kernel, by decide +kernel⟩, List.mem_of_getElem? (i := 1068) (by decide +kernel), List.mem_of_getElem? (i := 1344) (by decide +kernel), List.mem_of_getElem? (i := 1345) (by decide +kernel)⟩
theorem lw_p22 : lw_okq (⟨"LentFiddlesModel", "isAhead", "(II)Z"⟩, 63) := ⟨⟨by decide +kernel, by decide +kernel⟩, List.mem_of_getElem? (i := 1068) (by decide +kernel), List.mem_of_getElem? (i := 1348) (by decide +kernel), List.mem_of_getElem? (i := 1349) (by decide +kernel)⟩
theorem lw_p23 : lw_okq (⟨"LentFiddlesModel", "againstRow", "(III)I"⟩, 63) := ⟨⟨by decide +kernel, by decide +kernel⟩, List.mem_of_getElem? (i := 1068) (by decide +kernel), List.mem_of_getElem? (i := 1359) (by decide +kernel), List.mem_of_getElem? (i := 1360) (by decide +kernel)⟩
theorem lw_p24 : lw_okq (⟨"LentFiddlesModel", "against", "(IIII)I"⟩, 63) := ⟨⟨by decide +kernel, by decide +kernel⟩, List.mem_of_getElem? (i := 1068) (by decide +kernel), List.mem_of_getElem? (i := 1366) (by decide +kernel), List.mem_of_getElem? (i := 1367) (by decide +kernel)⟩
theorem lw_p25 : lw_okq (⟨"LentFiddlesModel", "fails", "(I)I"⟩, 63) := ⟨⟨by decide +kernel, by decide +kernel⟩, List.mem_of_getElem? (i := 1068) (by decide +kernel), List.mem_of_getElem? (i := 1370) (by decide +kernel), List.mem_of_getElem? (i := 1371) (by decide +kernel)⟩
theorem lw_p26 : lw_okq (⟨"LentFiddlesModel", "isRow", "(II)Z"⟩, 63) := ⟨⟨by decide +kernel, by decide +kernel⟩, List.mem_of_getElem? (i := 1068) (by decide +kernel), List.mem_of_getElem? (i := 1374) (by decide +kernel), List.mem_of_getElem? (i := 1375) (by decide +kernel)⟩
theorem lw_p27 : lw_okq (⟨"LentFiddlesModel", "isLending", "()Z"⟩, 63) := ⟨⟨by decide +kernel, by decide +kernel⟩, List.mem_of_getElem? (i := 1068) (by decide +kernel), List.mem_of_getElem? (i := 1378) (by decide +kernel), List.mem_of_getElem? (i := 1379) (by decide +kernel)⟩
theorem lw_p28 : lw_okq (⟨"LentFiddlesModel", "quarrelAt", "(I)I"⟩, 63) := ⟨⟨by decide +kernel, by decide +kernel⟩, List.mem_of_getElem? (i := 1068) (by decide +kernel), List.mem_of_getElem? (i := 1382) (by decide +kernel), List.mem_of_getElem? (i := 1383) (by decide +kernel)⟩
theorem lw_p29 : lw_okq (⟨"LentFiddlesModel", "doQuarrel", "(II)Z"⟩, 63) := ⟨⟨by decide +kernel, by decide +kernel⟩, List.mem_of_getElem? (i := 1068) (by decide +kernel), List.mem_of_getElem? (i := 1386) (by decide +kernel), List.mem_of_getElem? (i := 1387) (by decide +kernel)⟩
theorem lw_p30 : lw_okq (⟨"LentFiddlesModel", "holderIn", "(I)I"⟩, 63) := ⟨⟨by decide +kernel, by decide +kernel⟩, List.mem_of_getElem? (i := 1068) (by decide +kernel), List.mem_of_getElem? (i := 1390) (by decide +kernel), List.mem_of_getElem? (i := 1391) (by decide +kernel)⟩
theorem lw_p31 : lw_okq (⟨"LentFiddlesModel", "sharesDay", "(IIII)Z"⟩, 63) := ⟨⟨by decide +kernel, by decide +kernel⟩, List.mem_of_getElem? (i := 1068) (by decide +kernel), List.mem_of_getElem? (i := 1406) (by decide +kernel), List.mem_of_getElem? (i := 1407) (by decide +kernel)⟩
def lw_privs_2 : List (MethodName × Nat) := [(⟨"LentFiddlesModel", "findMost", "()V"⟩, 63), (⟨"LentFiddlesModel", "findMays", "()V"⟩, 63), (⟨"LentFiddlesModel", "findBest", "()V"⟩, 63), (⟨"LentFiddlesModel", "findCalm", "()V"⟩, 63), (⟨"LentFiddlesModel", "nextOf", "(I)I"⟩, 63), (⟨"LentFiddlesModel", "likes", "(III)Z"⟩, 63), (⟨"LentFiddlesModel", "isAhead", "(II)Z"⟩, 63), (⟨"LentFiddlesModel", "againstRow", "(III)I"⟩, 63), (⟨"LentFiddlesModel", "against", "(IIII)I"⟩, 63), (⟨"LentFiddlesModel", "fails", "(I)I"⟩, 63), (⟨"LentFiddlesModel", "isRow", "(II)Z"⟩, 63), (⟨"LentFiddlesModel", "isLending", "()Z"⟩, 63), (⟨"LentFiddlesModel", "quarrelAt", "(I)I"⟩, 63), (⟨"LentFiddlesModel", "doQuarrel", "(II)Z"⟩, 63), (⟨"LentFiddlesModel", "holderIn", "(I)I"⟩, 63), (⟨"LentFiddlesModel", "sharesDay", "(IIII)Z"⟩, 63)]
theorem lw_r2 : ∀ q ∈ lw_privs_2, lw_okq q := List.forall_mem_cons.mpr ⟨lw_p16, List.forall_mem_cons.mpr ⟨lw_p17, List.forall_mem_cons.mpr ⟨lw_p18, List.forall_mem_cons.mpr ⟨lw_p19, List.forall_mem_cons.mpr ⟨lw_p20, List.forall_mem_cons.mpr ⟨lw_p21, List.forall_mem_cons.mpr ⟨lw_p22, List.forall_mem_cons.mpr ⟨lw_p23, List.forall_mem_cons.mpr ⟨lw_p24, List.forall_mem_cons.mpr ⟨lw_p25, List.forall_mem_cons.mpr ⟨lw_p26, List.forall_mem_cons.mpr ⟨lw_p27, List.forall_mem_cons.mpr ⟨lw_p28, List.forall_mem_cons.mpr ⟨lw_p29, List.forall_mem_cons.mpr ⟨lw_p30, List.forall_mem_cons.mpr ⟨lw_p31, fun _ h => absurd h List.not_mem_nil⟩⟩⟩⟩⟩⟩⟩⟩⟩⟩⟩⟩⟩⟩⟩⟩
theorem lw_p32 : lw_okq (⟨"LentFiddlesModel", "isLoan", "(I)Z"⟩, 63) := ⟨⟨by decide +kernel, by decide +kernel⟩, List.mem_of_getElem? (i := 1068) (by decide +kernel), List.mem_of_getElem? (i := 1414) (by decide +kernel), List.mem_of_getElem? (i := 1415) (by decide +kernel)⟩
theorem lw_p33 : lw_okq (⟨"LentFiddlesModel", "broken", "(I)I"⟩, 63) := ⟨⟨by decide +kernel, by decide +kernel⟩, List.mem_of_getElem? (i := 1068) (by decide +kernel), List.mem_of_getElem? (i := 1426) (by decide +kernel), List.mem_of_getElem? (i := 1427) (by decide +kernel)⟩
theorem lw_p34 : lw_okq (⟨"LentFiddlesModel", "tripsIn", "(I)I"⟩, 63) := ⟨⟨by decide +kernel, by decide +kernel⟩, List.mem_of_getElem? (i := 1068) (by decide +kernel), List.mem_of_getElem? (i := 1430) (by decide +kernel), List.mem_of_getElem? (i := 1431) (by decide +kernel)⟩
theorem lw_p35 : lw_okq (⟨"LentFiddlesModel", "loanOn", "(ZII)I"⟩, 63) := ⟨⟨by decide +kernel, by decide +kernel⟩, List.mem_of_getElem? (i := 1068) (by decide +kernel), List.mem_of_getElem? (i := 1438) (by decide +kernel), List.mem_of_getElem? (i := 1439) (by decide +kernel)⟩
theorem lw_p36 : lw_okq (⟨"LentFiddlesModel", "isBorn", "(II)Z"⟩, 63) := ⟨⟨by decide +kernel, by decide +kernel⟩, List.mem_of_getElem? (i := 1068) (by decide +kernel), List.mem_of_getElem? (i := 1451) (by decide +kernel), List.mem_of_getElem? (i := 1452) (by decide +kernel)⟩
theorem lw_p37 : lw_okq (⟨"LentFiddlesModel", "fewestDays", "(II)I"⟩, 63) := ⟨⟨by decide +kernel, by decide +kernel⟩, List.mem_of_getElem? (i := 1068) (by decide +kernel), List.mem_of_getElem? (i := 1467) (by decide +kernel), List.mem_of_getElem? (i := 1468) (by decide +kernel)⟩
theorem lw_p38 : lw_okq (⟨"LentFiddlesModel", "gapsOf", "(II)I"⟩, 63) := ⟨⟨by decide +kernel, by decide +kernel⟩, List.mem_of_getElem? (i := 1068) (by decide +kernel), List.mem_of_getElem? (i := 1485) (by decide +kernel), List.mem_of_getElem? (i := 1486) (by decide +kernel)⟩
theorem lw_p39 : lw_okq (⟨"LentFiddlesModel", "findYears", "(I)V"⟩, 63) := ⟨⟨by decide +kernel, by decide +kernel⟩, List.mem_of_getElem? (i := 1068) (by decide +kernel), List.mem_of_getElem? (i := 1489) (by decide +kernel), List.mem_of_getElem? (i := 1490) (by decide +kernel)⟩
theorem lw_p40 : lw_okq (⟨"LentFiddlesModel", "isInGap", "(II)Z"⟩, 63) := ⟨⟨by decide +kernel, by decide +kernel⟩, List.mem_of_getElem? (i := 1068) (by decide +kernel), List.mem_of_getElem? (i := 1493) (by decide +kernel), List.mem_of_getElem? (i := 1494) (by decide +kernel)⟩
theorem lw_p41 : lw_okq (⟨"LentFiddlesModel", "isHad", "(II)Z"⟩, 63) := ⟨⟨by decide +kernel, by decide +kernel⟩, List.mem_of_getElem? (i := 1068) (by decide +kernel), List.mem_of_getElem? (i := 1497) (by decide +kernel), List.mem_of_getElem? (i := 1498) (by decide +kernel)⟩
theorem lw_p42 : lw_okq (⟨"LentFiddlesModel", "hasYear", "(III)Z"⟩, 63) := ⟨⟨by decide +kernel, by decide +kernel⟩, List.mem_of_getElem? (i := 1068) (by decide +kernel), List.mem_of_getElem? (i := 1501) (by decide +kernel), List.mem_of_getElem? (i := 1502) (by decide +kernel)⟩
theorem lw_p43 : lw_okq (⟨"LentFiddlesModel", "quarrelsOf", "(I)I"⟩, 63) := ⟨⟨by decide +kernel, by decide +kernel⟩, List.mem_of_getElem? (i := 1068) (by decide +kernel), List.mem_of_getElem? (i := 1505) (by decide +kernel), List.mem_of_getElem? (i := 1506) (by decide +kernel)⟩
theorem lw_p44 : lw_okq (⟨"LentFiddlesModel", "doesStand", "(III)Z"⟩, 63) := ⟨⟨by decide +kernel, by decide +kernel⟩, List.mem_of_getElem? (i := 1068) (by decide +kernel), List.mem_of_getElem? (i := 1517) (by decide +kernel), List.mem_of_getElem? (i := 1518) (by decide +kernel)⟩
theorem lw_p45 : lw_okq (⟨"LentFiddlesModel", "isOpen", "(III)Z"⟩, 63) := ⟨⟨by decide +kernel, by decide +kernel⟩, List.mem_of_getElem? (i := 1068) (by decide +kernel), List.mem_of_getElem? (i := 1521) (by decide +kernel), List.mem_of_getElem? (i := 1522) (by decide +kernel)⟩
theorem lw_p46 : lw_okq (⟨"LentFiddlesModel", "findSpread", "(I)V"⟩, 63) := ⟨⟨by decide +kernel, by decide +kernel⟩, List.mem_of_getElem? (i := 1068) (by decide +kernel), List.mem_of_getElem? (i := 1537) (by decide +kernel), List.mem_of_getElem? (i := 1538) (by decide +kernel)⟩
theorem lw_p47 : lw_okq (⟨"LentFiddlesModel", "isWay", "(I)Z"⟩, 63) := ⟨⟨by decide +kernel, by decide +kernel⟩, List.mem_of_getElem? (i := 1068) (by decide +kernel), List.mem_of_getElem? (i := 1541) (by decide +kernel), List.mem_of_getElem? (i := 1542) (by decide +kernel)⟩
def lw_privs_3 : List (MethodName × Nat) := [(⟨"LentFiddlesModel", "isLoan", "(I)Z"⟩, 63), (⟨"LentFiddlesModel", "broken", "(I)I"⟩, 63), (⟨"LentFiddlesModel", "tripsIn", "(I)I"⟩, 63), (⟨"LentFiddlesModel", "loanOn", "(ZII)I"⟩, 63), (⟨"LentFiddlesModel", "isBorn", "(II)Z"⟩, 63), (⟨"LentFiddlesModel", "fewestDays", "(II)I"⟩, 63), (⟨"LentFiddlesModel", "gapsOf", "(II)I"⟩, 63), (⟨"LentFiddlesModel", "findYears", "(I)V"⟩, 63), (⟨"LentFiddlesModel", "isInGap", "(II)Z"⟩, 63), (⟨"LentFiddlesModel", "isHad", "(II)Z"⟩, 63), (⟨"LentFiddlesModel", "hasYear", "(III)Z"⟩, 63), (⟨"LentFiddlesModel", "quarrelsOf", "(I)I"⟩, 63), (⟨"LentFiddlesModel", "doesStand", "(III)Z"⟩, 63), (⟨"LentFiddlesModel", "isOpen", "(III)Z"⟩, 63), (⟨"LentFiddlesModel", "findSpread", "(I)V"⟩, 63), (⟨"LentFiddlesModel", "isWay", "(I)Z"⟩, 63)]
theorem lw_r3 : ∀ q ∈ lw_privs_3, lw_okq q := List.forall_mem_cons.mpr ⟨lw_p32, List.forall_mem_cons.mpr ⟨lw_p33, List.forall_mem_cons.mpr ⟨lw_p34, List.forall_mem_cons.mpr ⟨lw_p35, List.forall_mem_cons.mpr ⟨lw_p36, List.forall_mem_cons.mpr ⟨lw_p37, List.forall_mem_cons.mpr ⟨lw_p38, List.forall_mem_cons.mpr ⟨lw_p39, List.forall_mem_cons.mpr ⟨lw_p40, List.forall_mem_cons.mpr ⟨lw_p41, List.forall_mem_cons.mpr ⟨lw_p42, List.forall_mem_cons.mpr ⟨lw_p43, List.forall_mem_cons.mpr ⟨lw_p44, List.forall_mem_cons.mpr ⟨lw_p45, List.forall_mem_cons.mpr ⟨lw_p46, List.forall_mem_cons.mpr ⟨lw_p47, fun _ h => absurd h List.not_mem_nil⟩⟩⟩⟩⟩⟩⟩⟩⟩⟩⟩⟩⟩⟩⟩⟩
theorem lw_p48 : lw_okq (⟨"LentFiddlesModel", "planeIn", "(II)I"⟩, 63) := ⟨⟨by decide +kernel, by decide +kernel⟩, List.mem_of_getElem? (i := 1068) (by decide +kernel), List.mem_of_getElem? (i := 1545) (by decide +kernel), List.mem_of_getElem? (i := 1546) (by decide +kernel)⟩
theorem lw_p49 : lw_okq (⟨"LentFiddlesModel", "riskOf", "(I)I"⟩, 63) := ⟨⟨by decide +kernel, by decide +kernel⟩, List.mem_of_getElem? (i := 1068) (by decide +kernel), List.mem_of_getElem? (i := 1549) (by decide +kernel), List.mem_of_getElem? (i := 1550) (by decide +kernel)⟩
theorem lw_p50 : lw_okq (⟨"LentFiddlesModel", "areWidths", "(II)Z"⟩, 63) := ⟨⟨by decide +kernel, by decide +kernel⟩, List.mem_of_getElem? (i := 1068) (by decide +kernel), List.mem_of_getElem? (i := 1574) (by decide +kernel), List.mem_of_getElem? (i := 1575) (by decide +kernel)⟩
theorem lw_p51 : lw_okq (⟨"LentFiddlesModel", "layAt", "(II)V"⟩, 63) := ⟨⟨by decide +kernel, by decide +kernel⟩, List.mem_of_getElem? (i := 1068) (by decide +kernel), List.mem_of_getElem? (i := 1587) (by decide +kernel), List.mem_of_getElem? (i := 1588) (by decide +kernel)⟩
theorem lw_p52 : lw_okq (⟨"LentFiddlesModel", "layTogether", "(III)V"⟩, 63) := ⟨⟨by decide +kernel, by decide +kernel⟩, List.mem_of_getElem? (i := 1068) (by decide +kernel), List.mem_of_getElem? (i := 1602) (by decide +kernel), List.mem_of_getElem? (i := 1603) (by decide +kernel)⟩
theorem lw_p53 : lw_okq (⟨"LentFiddlesModel", "faultOf", "(II)I"⟩, 63) := ⟨⟨by decide +kernel, by decide +kernel⟩, List.mem_of_getElem? (i := 1068) (by decide +kernel), List.mem_of_getElem? (i := 1610) (by decide +kernel), List.mem_of_getElem? (i := 1611) (by decide +kernel)⟩
theorem lw_p54 : lw_okq (⟨"LentFiddlesModel", "clauseMany", "()I"⟩, 63) := ⟨⟨by decide +kernel, by decide +kernel⟩, List.mem_of_getElem? (i := 1068) (by decide +kernel), List.mem_of_getElem? (i := 1617) (by decide +kernel), List.mem_of_getElem? (i := 1618) (by decide +kernel)⟩
theorem lw_p55 : lw_okq (⟨"LentFiddlesModel", "lost", "(I)J"⟩, 63) := ⟨⟨by decide +kernel, by decide +kernel⟩, List.mem_of_getElem? (i := 1068) (by decide +kernel), List.mem_of_getElem? (i := 1641) (by decide +kernel), List.mem_of_getElem? (i := 1642) (by decide +kernel)⟩
theorem lw_p56 : lw_okq (⟨"LentFiddlesModel", "begins", "(I)V"⟩, 63) := ⟨⟨by decide +kernel, by decide +kernel⟩, List.mem_of_getElem? (i := 1068) (by decide +kernel), List.mem_of_getElem? (i := 1649) (by decide +kernel), List.mem_of_getElem? (i := 1650) (by decide +kernel)⟩
def lw_privs_4 : List (MethodName × Nat) := [(⟨"LentFiddlesModel", "planeIn", "(II)I"⟩, 63), (⟨"LentFiddlesModel", "riskOf", "(I)I"⟩, 63), (⟨"LentFiddlesModel", "areWidths", "(II)Z"⟩, 63), (⟨"LentFiddlesModel", "layAt", "(II)V"⟩, 63), (⟨"LentFiddlesModel", "layTogether", "(III)V"⟩, 63), (⟨"LentFiddlesModel", "faultOf", "(II)I"⟩, 63), (⟨"LentFiddlesModel", "clauseMany", "()I"⟩, 63), (⟨"LentFiddlesModel", "lost", "(I)J"⟩, 63), (⟨"LentFiddlesModel", "begins", "(I)V"⟩, 63)]
theorem lw_r4 : ∀ q ∈ lw_privs_4, lw_okq q := List.forall_mem_cons.mpr ⟨lw_p48, List.forall_mem_cons.mpr ⟨lw_p49, List.forall_mem_cons.mpr ⟨lw_p50, List.forall_mem_cons.mpr ⟨lw_p51, List.forall_mem_cons.mpr ⟨lw_p52, List.forall_mem_cons.mpr ⟨lw_p53, List.forall_mem_cons.mpr ⟨lw_p54, List.forall_mem_cons.mpr ⟨lw_p55, List.forall_mem_cons.mpr ⟨lw_p56, fun _ h => absurd h List.not_mem_nil⟩⟩⟩⟩⟩⟩⟩⟩⟩
def lw_privs : List (MethodName × Nat) := lw_privs_1 ++ (lw_privs_2 ++ (lw_privs_3 ++ (lw_privs_4)))
def lw_tbl : List Cond := k2_sels lw_privs ++ tables_1
theorem lw_privs_ok : ∀ q ∈ lw_privs, lw_okq q := by
  show ∀ q ∈ lw_privs_1 ++ (lw_privs_2 ++ (lw_privs_3 ++ (lw_privs_4))), lw_okq q
  exact List.forall_mem_append.mpr ⟨lw_r1, List.forall_mem_append.mpr ⟨lw_r2, List.forall_mem_append.mpr ⟨lw_r3, lw_r4⟩⟩⟩
theorem goodIn_r {big : List Cond} (ws : List Cond) (ps : List Nat) (hp : ws = ps.filterMap (fun i => big[i]?)) (h : ws.all goodWord = true) : GoodIn big ws := by
  intro w hw
  have h1 := List.all_eq_true.mp h w hw
  rw [hp] at hw
  obtain ⟨i, -, hi⟩ := List.mem_filterMap.mp hw
  have hm : w ∈ big := by first | exact List.mem_of_getElem? hi | exact List.getElem?_mem hi
  exact ⟨hm, good_of_word h1⟩
theorem goodIn_app {big a b : List Cond} (ha : GoodIn big a) (hb : GoodIn big b) : GoodIn big (a ++ b) := fun w h => (List.mem_append.mp h).elim (ha w) (hb w)
theorem goodIn_ca {big a b : List Cond} {c : Cond} (ha : GoodIn big (c :: a)) (hb : GoodIn big b) : GoodIn big (c :: (a ++ b)) := fun w h => (List.mem_cons.mp h).elim (fun e => ha w (List.mem_cons.mpr (Or.inl e))) (fun h => (List.mem_append.mp h).elim (fun h => ha w (List.mem_cons.mpr (Or.inr h))) (hb w))
theorem goodIn_sub {big ws : List Cond} (hm : ∀ w ∈ ws, w ∈ big) (h : ws.all goodWord = true) : GoodIn big ws := fun w hw => ⟨hm w hw, good_of_word (List.all_eq_true.mp h w hw)⟩
def RX0 : String := "LentFiddles$Contract"
def TX0 : u_T := fun k => match k with
  | 0 => ("LentFiddles$Contract", "numbers", "[I", true)
  | 1 => ("LentFiddles$Contract", "count", "I", false)
  | 2 => ("LentFiddles$Contract", "draft", "[I", true)
  | 3 => ("LentFiddles$Contract", "draftCount", "I", false)
  | 4 => ("LentFiddles$Contract", "letter", "I", false)
  | _ => ("LentFiddles$Contract", "digits", "I", false)
def tyX0 : Nat → FieldType := fun k => match k with
  | 0 => .array .int
  | 1 => .int
  | 2 => .array .int
  | 3 => .int
  | 4 => .int
  | _ => .int
abbrev wsX00 : List Cond := u_ws RX0 TX0 6
theorem nmX0 : ∀ a, a < 6 → ∀ b, b < 6 → a ≠ b → (TX0 a).2.1 ≠ (TX0 b).2.1 := by decide +kernel
theorem tyX0_ok : ∀ k, k < 6 → parseFieldDescriptor (TX0 k).2.2.1 = some (tyX0 k) := by decide +kernel
abbrev cX0_init : ByteArray := prog_2_method_1_code
def yX0_init : MethodName := ⟨RX0, "<init>", "()V"⟩
abbrev cX0_read : ByteArray := prog_2_method_2_code
def yX0_read : MethodName := ⟨RX0, "read", "([II)I"⟩
abbrev cX0_goesOn : ByteArray := prog_2_method_3_code
def yX0_goesOn : MethodName := ⟨RX0, "goesOn", "(I)Z"⟩
abbrev cX0_goesOnWithLetter : ByteArray := prog_2_method_4_code
def yX0_goesOnWithLetter : MethodName := ⟨RX0, "goesOnWithLetter", "(I)Z"⟩
abbrev cX0_goesOnWithParting : ByteArray := prog_2_method_5_code
def yX0_goesOnWithParting : MethodName := ⟨RX0, "goesOnWithParting", "()Z"⟩
abbrev cX0_goesOnWithDigit : ByteArray := prog_2_method_6_code
def yX0_goesOnWithDigit : MethodName := ⟨RX0, "goesOnWithDigit", "(I)Z"⟩
abbrev cX0_letterOf : ByteArray := prog_2_method_7_code
def yX0_letterOf : MethodName := ⟨RX0, "letterOf", "(I)I"⟩
abbrev cX0_brokenBy : ByteArray := prog_2_method_8_code
def yX0_brokenBy : MethodName := ⟨RX0, "brokenBy", "(LLentFiddles$Loans;III)I"⟩
def RX1 : String := "LentFiddles$Holders"
def TX1 : u_T := fun k => match k with
  | 0 => ("LentFiddles$Holders", "violin", "[I", true)
  | 1 => ("LentFiddles$Holders", "name", "[I", true)
  | 2 => ("LentFiddles$Holders", "from", "[I", true)
  | 3 => ("LentFiddles$Holders", "to", "[I", true)
  | 4 => ("LentFiddles$Holders", "count", "I", false)
  | 5 => ("LentFiddles$Holders", "changes", "[I", true)
  | 6 => ("LentFiddles$Holders", "gapCount", "I", false)
  | 7 => ("LentFiddles$Holders", "gapFrom", "I", false)
  | _ => ("LentFiddles$Holders", "gapTo", "I", false)
def tyX1 : Nat → FieldType := fun k => match k with
  | 0 => .array .int
  | 1 => .array .int
  | 2 => .array .int
  | 3 => .array .int
  | 4 => .int
  | 5 => .array .int
  | 6 => .int
  | 7 => .int
  | _ => .int
abbrev wsX10 : List Cond := u_ws RX1 TX1 9
theorem nmX1 : ∀ a, a < 9 → ∀ b, b < 9 → a ≠ b → (TX1 a).2.1 ≠ (TX1 b).2.1 := by decide +kernel
theorem tyX1_ok : ∀ k, k < 9 → parseFieldDescriptor (TX1 k).2.2.1 = some (tyX1 k) := by decide +kernel
abbrev cX1_init : ByteArray := prog_3_method_1_code
def yX1_init : MethodName := ⟨RX1, "<init>", "()V"⟩
abbrev cX1_add : ByteArray := prog_3_method_2_code
def yX1_add : MethodName := ⟨RX1, "add", "(IIII)I"⟩
abbrev cX1_has : ByteArray := prog_3_method_3_code
def yX1_has : MethodName := ⟨RX1, "has", "(II)Z"⟩
abbrev cX1_isHeld : ByteArray := prog_3_method_4_code
def yX1_isHeld : MethodName := ⟨RX1, "isHeld", "(II)Z"⟩
abbrev cX1_markYears : ByteArray := prog_3_method_5_code
def yX1_markYears : MethodName := ⟨RX1, "markYears", "(I)V"⟩
abbrev cX1_countGaps : ByteArray := prog_3_method_6_code
def yX1_countGaps : MethodName := ⟨RX1, "countGaps", "(I)I"⟩
abbrev cX1_findGap : ByteArray := prog_3_method_7_code
def yX1_findGap : MethodName := ⟨RX1, "findGap", "(II)Z"⟩
abbrev cX1_keepGap : ByteArray := prog_3_method_8_code
def yX1_keepGap : MethodName := ⟨RX1, "keepGap", "(III)V"⟩
abbrev cX1_countQuarrels : ByteArray := prog_3_method_9_code
def yX1_countQuarrels : MethodName := ⟨RX1, "countQuarrels", "(I)I"⟩
abbrev cX1_stands : ByteArray := prog_3_method_10_code
def yX1_stands : MethodName := ⟨RX1, "stands", "(III)Z"⟩
abbrev cX1_firstHaving : ByteArray := prog_3_method_11_code
def yX1_firstHaving : MethodName := ⟨RX1, "firstHaving", "(III)I"⟩
abbrev cX1_nextAbove : ByteArray := prog_3_method_12_code
def yX1_nextAbove : MethodName := ⟨RX1, "nextAbove", "(II)I"⟩
abbrev cX1_isOpen : ByteArray := prog_3_method_13_code
def yX1_isOpen : MethodName := ⟨RX1, "isOpen", "(III)Z"⟩
abbrev cX1_isHeldAround : ByteArray := prog_3_method_14_code
def yX1_isHeldAround : MethodName := ⟨RX1, "isHeldAround", "(II)Z"⟩
abbrev cX1_isHeldByOther : ByteArray := prog_3_method_15_code
def yX1_isHeldByOther : MethodName := ⟨RX1, "isHeldByOther", "(III)Z"⟩
def RX2 : String := "LentFiddles$Lendings"
def TX2 : u_T := fun k => match k with
  | 0 => ("LentFiddles$Lendings", "playerCount", "I", false)
  | 1 => ("LentFiddles$Lendings", "violinCount", "I", false)
  | 2 => ("LentFiddles$Lendings", "rank", "[I", true)
  | 3 => ("LentFiddles$Lendings", "liking", "[[I", true)
  | 4 => ("LentFiddles$Lendings", "violinOf", "[I", true)
  | 5 => ("LentFiddles$Lendings", "playerOf", "[I", true)
  | 6 => ("LentFiddles$Lendings", "sitter", "[I", true)
  | 7 => ("LentFiddles$Lendings", "cameFrom", "[I", true)
  | 8 => ("LentFiddles$Lendings", "slack", "[J", true)
  | 9 => ("LentFiddles$Lendings", "seatPrice", "[J", true)
  | _ => ("LentFiddles$Lendings", "playerPrice", "[J", true)
def tyX2 : Nat → FieldType := fun k => match k with
  | 0 => .int
  | 1 => .int
  | 2 => .array .int
  | 3 => .array (.array .int)
  | 4 => .array .int
  | 5 => .array .int
  | 6 => .array .int
  | 7 => .array .int
  | 8 => .array .long
  | 9 => .array .long
  | _ => .array .long
abbrev wsX20 : List Cond := u_ws RX2 TX2 11
theorem nmX2 : ∀ a, a < 11 → ∀ b, b < 11 → a ≠ b → (TX2 a).2.1 ≠ (TX2 b).2.1 := by decide +kernel
theorem tyX2_ok : ∀ k, k < 11 → parseFieldDescriptor (TX2 k).2.2.1 = some (tyX2 k) := by decide +kernel
abbrev cX2_init : ByteArray := prog_4_method_1_code
def yX2_init : MethodName := ⟨RX2, "<init>", "()V"⟩
abbrev cX2_read : ByteArray := prog_4_method_2_code
def yX2_read : MethodName := ⟨RX2, "read", "(LLentFiddles$Players;LLentFiddles$Violins;)V"⟩
abbrev cX2_give : ByteArray := prog_4_method_3_code
def yX2_give : MethodName := ⟨RX2, "give", "(II)V"⟩
abbrev cX2_sumOfTrials : ByteArray := prog_4_method_4_code
def yX2_sumOfTrials : MethodName := ⟨RX2, "sumOfTrials", "()I"⟩
abbrev cX2_findBest : ByteArray := prog_4_method_5_code
def yX2_findBest : MethodName := ⟨RX2, "findBest", "()V"⟩
abbrev cX2_seatOneMore : ByteArray := prog_4_method_6_code
def yX2_seatOneMore : MethodName := ⟨RX2, "seatOneMore", "(I)V"⟩
abbrev cX2_lookFrom : ByteArray := prog_4_method_7_code
def yX2_lookFrom : MethodName := ⟨RX2, "lookFrom", "(II)V"⟩
abbrev cX2_nearest : ByteArray := prog_4_method_8_code
def yX2_nearest : MethodName := ⟨RX2, "nearest", "(I)I"⟩
abbrev cX2_payFor : ByteArray := prog_4_method_9_code
def yX2_payFor : MethodName := ⟨RX2, "payFor", "(JI)V"⟩
abbrev cX2_cost : ByteArray := prog_4_method_10_code
def yX2_cost : MethodName := ⟨RX2, "cost", "(II)J"⟩
abbrev cX2_findCalm : ByteArray := prog_4_method_11_code
def yX2_findCalm : MethodName := ⟨RX2, "findCalm", "()V"⟩
abbrev cX2_greatestOutside : ByteArray := prog_4_method_12_code
def yX2_greatestOutside : MethodName := ⟨RX2, "greatestOutside", "(I)I"⟩
abbrev cX2_dearestFree : ByteArray := prog_4_method_13_code
def yX2_dearestFree : MethodName := ⟨RX2, "dearestFree", "(I)I"⟩
abbrev cX2_isAhead : ByteArray := prog_4_method_14_code
def yX2_isAhead : MethodName := ⟨RX2, "isAhead", "(II)Z"⟩
abbrev cX2_accepts : ByteArray := prog_4_method_15_code
def yX2_accepts : MethodName := ⟨RX2, "accepts", "([I)Z"⟩
abbrev cX2_isQuarrel : ByteArray := prog_4_method_16_code
def yX2_isQuarrel : MethodName := ⟨RX2, "isQuarrel", "(II)Z"⟩
abbrev cX2_countQuarrels : ByteArray := prog_4_method_17_code
def yX2_countQuarrels : MethodName := ⟨RX2, "countQuarrels", "()I"⟩
abbrev cX2_nthQuarrel : ByteArray := prog_4_method_18_code
def yX2_nthQuarrel : MethodName := ⟨RX2, "nthQuarrel", "(I)I"⟩
def RX3 : String := "LentFiddles$Loans"
def TX3 : u_T := fun k => match k with
  | 0 => ("LentFiddles$Loans", "player", "[I", true)
  | 1 => ("LentFiddles$Loans", "violin", "[I", true)
  | 2 => ("LentFiddles$Loans", "from", "[I", true)
  | 3 => ("LentFiddles$Loans", "to", "[I", true)
  | 4 => ("LentFiddles$Loans", "warning", "[I", true)
  | _ => ("LentFiddles$Loans", "count", "I", false)
def tyX3 : Nat → FieldType := fun k => match k with
  | 0 => .array .int
  | 1 => .array .int
  | 2 => .array .int
  | 3 => .array .int
  | 4 => .array .int
  | _ => .int
abbrev wsX30 : List Cond := u_ws RX3 TX3 6
theorem nmX3 : ∀ a, a < 6 → ∀ b, b < 6 → a ≠ b → (TX3 a).2.1 ≠ (TX3 b).2.1 := by decide +kernel
theorem tyX3_ok : ∀ k, k < 6 → parseFieldDescriptor (TX3 k).2.2.1 = some (tyX3 k) := by decide +kernel
abbrev cX3_init : ByteArray := prog_5_method_1_code
def yX3_init : MethodName := ⟨RX3, "<init>", "()V"⟩
abbrev cX3_knows : ByteArray := prog_5_method_2_code
def yX3_knows : MethodName := ⟨RX3, "knows", "(I)Z"⟩
abbrev cX3_add : ByteArray := prog_5_method_3_code
def yX3_add : MethodName := ⟨RX3, "add", "(IIII)I"⟩
abbrev cX3_sharesDay : ByteArray := prog_5_method_4_code
def yX3_sharesDay : MethodName := ⟨RX3, "sharesDay", "(IIII)Z"⟩
abbrev cX3_onDay : ByteArray := prog_5_method_5_code
def yX3_onDay : MethodName := ⟨RX3, "onDay", "([III)I"⟩
abbrev cX3_withDays : ByteArray := prog_5_method_6_code
def yX3_withDays : MethodName := ⟨RX3, "withDays", "(III)I"⟩
def RX4 : String := "LentFiddles$Looks"
def TX4 : u_T := fun k => match k with
  | 0 => ("LentFiddles$Looks", "violin", "[I", true)
  | 1 => ("LentFiddles$Looks", "day", "[I", true)
  | 2 => ("LentFiddles$Looks", "cracks", "[I", true)
  | _ => ("LentFiddles$Looks", "count", "I", false)
def tyX4 : Nat → FieldType := fun k => match k with
  | 0 => .array .int
  | 1 => .array .int
  | 2 => .array .int
  | _ => .int
abbrev wsX40 : List Cond := u_ws RX4 TX4 4
theorem nmX4 : ∀ a, a < 4 → ∀ b, b < 4 → a ≠ b → (TX4 a).2.1 ≠ (TX4 b).2.1 := by decide +kernel
theorem tyX4_ok : ∀ k, k < 4 → parseFieldDescriptor (TX4 k).2.2.1 = some (tyX4 k) := by decide +kernel
abbrev cX4_init : ByteArray := prog_6_method_1_code
def yX4_init : MethodName := ⟨RX4, "<init>", "()V"⟩
abbrev cX4_add : ByteArray := prog_6_method_2_code
def yX4_add : MethodName := ⟨RX4, "add", "(III)I"⟩
abbrev cX4_lookedOn : ByteArray := prog_6_method_3_code
def yX4_lookedOn : MethodName := ⟨RX4, "lookedOn", "(II)Z"⟩
abbrev cX4_firstDayWith : ByteArray := prog_6_method_4_code
def yX4_firstDayWith : MethodName := ⟨RX4, "firstDayWith", "(II)I"⟩
abbrev cX4_dayBehindLookAhead : ByteArray := prog_6_method_5_code
def yX4_dayBehindLookAhead : MethodName := ⟨RX4, "dayBehindLookAhead", "(II)I"⟩
abbrev cX4_countWrong : ByteArray := prog_6_method_6_code
def yX4_countWrong : MethodName := ⟨RX4, "countWrong", "(I)I"⟩
abbrev cX4_seenAhead : ByteArray := prog_6_method_7_code
def yX4_seenAhead : MethodName := ⟨RX4, "seenAhead", "(II)I"⟩
def RX5 : String := "LentFiddles$Moves"
def TX5 : u_T := fun k => match k with
  | 0 => ("LentFiddles$Moves", "violinOf", "[I", true)
  | 1 => ("LentFiddles$Moves", "playerOf", "[I", true)
  | 2 => ("LentFiddles$Moves", "givers", "I", false)
  | 3 => ("LentFiddles$Moves", "waitsFor", "[I", true)
  | _ => ("LentFiddles$Moves", "getCount", "I", false)
def tyX5 : Nat → FieldType := fun k => match k with
  | 0 => .array .int
  | 1 => .array .int
  | 2 => .int
  | 3 => .array .int
  | _ => .int
abbrev wsX50 : List Cond := u_ws RX5 TX5 5
theorem nmX5 : ∀ a, a < 5 → ∀ b, b < 5 → a ≠ b → (TX5 a).2.1 ≠ (TX5 b).2.1 := by decide +kernel
theorem tyX5_ok : ∀ k, k < 5 → parseFieldDescriptor (TX5 k).2.2.1 = some (tyX5 k) := by decide +kernel
abbrev cX5_init : ByteArray := prog_7_method_1_code
def yX5_init : MethodName := ⟨RX5, "<init>", "()V"⟩
abbrev cX5_readHands : ByteArray := prog_7_method_2_code
def yX5_readHands : MethodName := ⟨RX5, "readHands", "(LLentFiddles$Loans;I)V"⟩
abbrev cX5_want : ByteArray := prog_7_method_3_code
def yX5_want : MethodName := ⟨RX5, "want", "([III)Z"⟩
abbrev cX5_addGet : ByteArray := prog_7_method_4_code
def yX5_addGet : MethodName := ⟨RX5, "addGet", "(II)V"⟩
abbrev cX5_fewestDays : ByteArray := prog_7_method_5_code
def yX5_fewestDays : MethodName := ⟨RX5, "fewestDays", "(I)I"⟩
abbrev cX5_daysFor : ByteArray := prog_7_method_6_code
def yX5_daysFor : MethodName := ⟨RX5, "daysFor", "(II)I"⟩
abbrev cX5_mostReadyAfter : ByteArray := prog_7_method_7_code
def yX5_mostReadyAfter : MethodName := ⟨RX5, "mostReadyAfter", "(I)I"⟩
abbrev cX5_readyAfter : ByteArray := prog_7_method_8_code
def yX5_readyAfter : MethodName := ⟨RX5, "readyAfter", "(I)I"⟩
def RX6 : String := "LentFiddles$Oak"
def TX6 : u_T := fun k => match k with
  | 0 => ("LentFiddles$Oak", "widths", "[I", true)
  | 1 => ("LentFiddles$Oak", "count", "I", false)
  | 2 => ("LentFiddles$Oak", "start", "I", false)
  | 3 => ("LentFiddles$Oak", "agreeing", "I", false)
  | 4 => ("LentFiddles$Oak", "unlike", "I", false)
  | 5 => ("LentFiddles$Oak", "bestPlace", "I", false)
  | _ => ("LentFiddles$Oak", "bestMatch", "I", false)
def tyX6 : Nat → FieldType := fun k => match k with
  | 0 => .array .int
  | 1 => .int
  | 2 => .int
  | 3 => .int
  | 4 => .int
  | 5 => .int
  | _ => .int
abbrev wsX60 : List Cond := u_ws RX6 TX6 7
theorem nmX6 : ∀ a, a < 7 → ∀ b, b < 7 → a ≠ b → (TX6 a).2.1 ≠ (TX6 b).2.1 := by decide +kernel
theorem tyX6_ok : ∀ k, k < 7 → parseFieldDescriptor (TX6 k).2.2.1 = some (tyX6 k) := by decide +kernel
abbrev cX6_init : ByteArray := prog_8_method_1_code
def yX6_init : MethodName := ⟨RX6, "<init>", "()V"⟩
abbrev cX6_lay : ByteArray := prog_8_method_2_code
def yX6_lay : MethodName := ⟨RX6, "lay", "([III)V"⟩
abbrev cX6_layOn : ByteArray := prog_8_method_3_code
def yX6_layOn : MethodName := ⟨RX6, "layOn", "([III[II)V"⟩
abbrev cX6_rise : ByteArray := prog_8_method_4_code
def yX6_rise : MethodName := ⟨RX6, "rise", "([II)I"⟩
abbrev cX6_findBest : ByteArray := prog_8_method_5_code
def yX6_findBest : MethodName := ⟨RX6, "findBest", "([II)Z"⟩
abbrev cX6_growsLike : ByteArray := prog_8_method_6_code
def yX6_growsLike : MethodName := ⟨RX6, "growsLike", "(LLentFiddles$Violins;II)Z"⟩
def RX7 : String := "LentFiddles$Players"
def TX7 : u_T := fun k => match k with
  | 0 => ("LentFiddles$Players", "ranks", "[I", true)
  | 1 => ("LentFiddles$Players", "toldMakers", "[I", true)
  | 2 => ("LentFiddles$Players", "lentMakers", "[I", true)
  | 3 => ("LentFiddles$Players", "trials", "[[I", true)
  | _ => ("LentFiddles$Players", "count", "I", false)
def tyX7 : Nat → FieldType := fun k => match k with
  | 0 => .array .int
  | 1 => .array .int
  | 2 => .array .int
  | 3 => .array (.array .int)
  | _ => .int
abbrev wsX70 : List Cond := u_ws RX7 TX7 5
theorem nmX7 : ∀ a, a < 5 → ∀ b, b < 5 → a ≠ b → (TX7 a).2.1 ≠ (TX7 b).2.1 := by decide +kernel
theorem tyX7_ok : ∀ k, k < 5 → parseFieldDescriptor (TX7 k).2.2.1 = some (tyX7 k) := by decide +kernel
abbrev cX7_init : ByteArray := prog_9_method_1_code
def yX7_init : MethodName := ⟨RX7, "<init>", "()V"⟩
abbrev cX7_knows : ByteArray := prog_9_method_2_code
def yX7_knows : MethodName := ⟨RX7, "knows", "(I)Z"⟩
abbrev cX7_add : ByteArray := prog_9_method_3_code
def yX7_add : MethodName := ⟨RX7, "add", "(I)I"⟩
abbrev cX7_hadMakers : ByteArray := prog_9_method_4_code
def yX7_hadMakers : MethodName := ⟨RX7, "hadMakers", "(I)I"⟩
abbrev cX7_mayHave : ByteArray := prog_9_method_5_code
def yX7_mayHave : MethodName := ⟨RX7, "mayHave", "(III)Z"⟩
def RX8 : String := "LentFiddles$Sheets"
def TX8 : u_T := fun k => match k with
  | 0 => ("LentFiddles$Sheets", "lanes", "[I", true)
  | 1 => ("LentFiddles$Sheets", "lengths", "[I", true)
  | 2 => ("LentFiddles$Sheets", "cells", "[[I", true)
  | _ => ("LentFiddles$Sheets", "taken", "[I", true)
def tyX8 : Nat → FieldType := fun k => match k with
  | 0 => .array .int
  | 1 => .array .int
  | 2 => .array (.array .int)
  | _ => .array .int
abbrev wsX80 : List Cond := u_ws RX8 TX8 4
theorem nmX8 : ∀ a, a < 4 → ∀ b, b < 4 → a ≠ b → (TX8 a).2.1 ≠ (TX8 b).2.1 := by decide +kernel
theorem tyX8_ok : ∀ k, k < 4 → parseFieldDescriptor (TX8 k).2.2.1 = some (tyX8 k) := by decide +kernel
abbrev cX8_init : ByteArray := prog_10_method_1_code
def yX8_init : MethodName := ⟨RX8, "<init>", "()V"⟩
abbrev cX8_knows : ByteArray := prog_10_method_2_code
def yX8_knows : MethodName := ⟨RX8, "knows", "(I)Z"⟩
abbrev cX8_renew : ByteArray := prog_10_method_3_code
def yX8_renew : MethodName := ⟨RX8, "renew", "(III)V"⟩
abbrev cX8_cutTo : ByteArray := prog_10_method_4_code
def yX8_cutTo : MethodName := ⟨RX8, "cutTo", "(II)I"⟩
abbrev cX8_missing : ByteArray := prog_10_method_5_code
def yX8_missing : MethodName := ⟨RX8, "missing", "(III)I"⟩
abbrev cX8_take : ByteArray := prog_10_method_6_code
def yX8_take : MethodName := ⟨RX8, "take", "(IIII)I"⟩
abbrev cX8_takenWithin : ByteArray := prog_10_method_7_code
def yX8_takenWithin : MethodName := ⟨RX8, "takenWithin", "(III)Z"⟩
abbrev cX8_longestRun : ByteArray := prog_10_method_8_code
def yX8_longestRun : MethodName := ⟨RX8, "longestRun", "(IIIZ)I"⟩
def RX9 : String := "LentFiddles$Trips"
def TX9 : u_T := fun k => match k with
  | 0 => ("LentFiddles$Trips", "violin", "[I", true)
  | 1 => ("LentFiddles$Trips", "day", "[I", true)
  | 2 => ("LentFiddles$Trips", "told", "[I", true)
  | 3 => ("LentFiddles$Trips", "count", "I", false)
  | 4 => ("LentFiddles$Trips", "mostRisk", "I", false)
  | 5 => ("LentFiddles$Trips", "loads", "[I", true)
  | 6 => ("LentFiddles$Trips", "freeWorth", "I", false)
  | 7 => ("LentFiddles$Trips", "freeCount", "I", false)
  | 8 => ("LentFiddles$Trips", "fixedWorth", "[I", true)
  | 9 => ("LentFiddles$Trips", "leastRisk", "I", false)
  | _ => ("LentFiddles$Trips", "bestChoice", "I", false)
def tyX9 : Nat → FieldType := fun k => match k with
  | 0 => .array .int
  | 1 => .array .int
  | 2 => .array .int
  | 3 => .int
  | 4 => .int
  | 5 => .array .int
  | 6 => .int
  | 7 => .int
  | 8 => .array .int
  | 9 => .int
  | _ => .int
abbrev wsX90 : List Cond := u_ws RX9 TX9 11
theorem nmX9 : ∀ a, a < 11 → ∀ b, b < 11 → a ≠ b → (TX9 a).2.1 ≠ (TX9 b).2.1 := by decide +kernel
theorem tyX9_ok : ∀ k, k < 11 → parseFieldDescriptor (TX9 k).2.2.1 = some (tyX9 k) := by decide +kernel
abbrev cX9_init : ByteArray := prog_11_method_1_code
def yX9_init : MethodName := ⟨RX9, "<init>", "()V"⟩
abbrev cX9_knows : ByteArray := prog_11_method_2_code
def yX9_knows : MethodName := ⟨RX9, "knows", "(I)Z"⟩
abbrev cX9_add : ByteArray := prog_11_method_3_code
def yX9_add : MethodName := ⟨RX9, "add", "(III)I"⟩
abbrev cX9_countBetween : ByteArray := prog_11_method_4_code
def yX9_countBetween : MethodName := ⟨RX9, "countBetween", "(III)I"⟩
abbrev cX9_weigh : ByteArray := prog_11_method_5_code
def yX9_weigh : MethodName := ⟨RX9, "weigh", "(ILLentFiddles$Violins;)V"⟩
abbrev cX9_addFree : ByteArray := prog_11_method_6_code
def yX9_addFree : MethodName := ⟨RX9, "addFree", "(I)V"⟩
abbrev cX9_choose : ByteArray := prog_11_method_7_code
def yX9_choose : MethodName := ⟨RX9, "choose", "()V"⟩
abbrev cX9_riskOf : ByteArray := prog_11_method_8_code
def yX9_riskOf : MethodName := ⟨RX9, "riskOf", "(I)I"⟩
abbrev cX9_planeOf : ByteArray := prog_11_method_9_code
def yX9_planeOf : MethodName := ⟨RX9, "planeOf", "(I)I"⟩
abbrev cX9_countDaysOver : ByteArray := prog_11_method_10_code
def yX9_countDaysOver : MethodName := ⟨RX9, "countDaysOver", "(LLentFiddles$Violins;)I"⟩
abbrev cX9_isFirstOfDay : ByteArray := prog_11_method_11_code
def yX9_isFirstOfDay : MethodName := ⟨RX9, "isFirstOfDay", "(I)Z"⟩
def RX10 : String := "LentFiddles$Violins"
def TX10 : u_T := fun k => match k with
  | 0 => ("LentFiddles$Violins", "kinds", "[I", true)
  | 1 => ("LentFiddles$Violins", "makers", "[I", true)
  | 2 => ("LentFiddles$Violins", "worths", "[I", true)
  | 3 => ("LentFiddles$Violins", "ringCounts", "[I", true)
  | 4 => ("LentFiddles$Violins", "widths", "[[I", true)
  | _ => ("LentFiddles$Violins", "count", "I", false)
def tyX10 : Nat → FieldType := fun k => match k with
  | 0 => .array .int
  | 1 => .array .int
  | 2 => .array .int
  | 3 => .array .int
  | 4 => .array (.array .int)
  | _ => .int
abbrev wsX100 : List Cond := u_ws RX10 TX10 6
theorem nmX10 : ∀ a, a < 6 → ∀ b, b < 6 → a ≠ b → (TX10 a).2.1 ≠ (TX10 b).2.1 := by decide +kernel
theorem tyX10_ok : ∀ k, k < 6 → parseFieldDescriptor (TX10 k).2.2.1 = some (tyX10 k) := by decide +kernel
abbrev cX10_init : ByteArray := prog_12_method_1_code
def yX10_init : MethodName := ⟨RX10, "<init>", "()V"⟩
abbrev cX10_knows : ByteArray := prog_12_method_2_code
def yX10_knows : MethodName := ⟨RX10, "knows", "(I)Z"⟩
abbrev cX10_add : ByteArray := prog_12_method_3_code
def yX10_add : MethodName := ⟨RX10, "add", "(III)I"⟩
def RX11 : String := "LentFiddles"
def TX11 : u_T := fun k => match k with
  | 0 => ("LentFiddles", "violins", "LLentFiddles$Violins;", true)
  | 1 => ("LentFiddles", "players", "LLentFiddles$Players;", true)
  | 2 => ("LentFiddles", "loans", "LLentFiddles$Loans;", true)
  | 3 => ("LentFiddles", "looks", "LLentFiddles$Looks;", true)
  | 4 => ("LentFiddles", "holders", "LLentFiddles$Holders;", true)
  | 5 => ("LentFiddles", "trips", "LLentFiddles$Trips;", true)
  | 6 => ("LentFiddles", "sheets", "LLentFiddles$Sheets;", true)
  | 7 => ("LentFiddles", "theOak", "LLentFiddles$Oak;", true)
  | 8 => ("LentFiddles", "theContract", "LLentFiddles$Contract;", true)
  | 9 => ("LentFiddles", "lendings", "LLentFiddles$Lendings;", true)
  | 10 => ("LentFiddles", "moves", "LLentFiddles$Moves;", true)
  | 11 => ("LentFiddles", "track", "I", false)
  | _ => ("LentFiddles", "latestFault", "I", false)
def tyX11 : Nat → FieldType := fun k => match k with
  | 0 => .object "LentFiddles$Violins"
  | 1 => .object "LentFiddles$Players"
  | 2 => .object "LentFiddles$Loans"
  | 3 => .object "LentFiddles$Looks"
  | 4 => .object "LentFiddles$Holders"
  | 5 => .object "LentFiddles$Trips"
  | 6 => .object "LentFiddles$Sheets"
  | 7 => .object "LentFiddles$Oak"
  | 8 => .object "LentFiddles$Contract"
  | 9 => .object "LentFiddles$Lendings"
  | 10 => .object "LentFiddles$Moves"
  | 11 => .int
  | _ => .int
abbrev wsX110 : List Cond := u_ws RX11 TX11 13
theorem nmX11 : ∀ a, a < 13 → ∀ b, b < 13 → a ≠ b → (TX11 a).2.1 ≠ (TX11 b).2.1 := by decide +kernel
theorem tyX11_ok : ∀ k, k < 13 → parseFieldDescriptor (TX11 k).2.2.1 = some (tyX11 k) := by decide +kernel
abbrev cX11_init : ByteArray := prog_1_method_1_code
def yX11_init : MethodName := ⟨RX11, "<init>", "()V"⟩
abbrev cX11_violin : ByteArray := prog_1_method_2_code
def yX11_violin : MethodName := ⟨RX11, "violin", "(III)I"⟩
abbrev cX11_player : ByteArray := prog_1_method_3_code
def yX11_player : MethodName := ⟨RX11, "player", "(I)I"⟩
abbrev cX11_trial : ByteArray := prog_1_method_4_code
def yX11_trial : MethodName := ⟨RX11, "trial", "(III)I"⟩
abbrev cX11_had : ByteArray := prog_1_method_5_code
def yX11_had : MethodName := ⟨RX11, "had", "(IIZ)I"⟩
abbrev cX11_may : ByteArray := prog_1_method_6_code
def yX11_may : MethodName := ⟨RX11, "may", "(II)I"⟩
abbrev cX11_ofViolin : ByteArray := prog_1_method_7_code
def yX11_ofViolin : MethodName := ⟨RX11, "ofViolin", "(II)I"⟩
abbrev cX11_ofPlayer : ByteArray := prog_1_method_8_code
def yX11_ofPlayer : MethodName := ⟨RX11, "ofPlayer", "(II)I"⟩
abbrev cX11_sum : ByteArray := prog_1_method_9_code
def yX11_sum : MethodName := ⟨RX11, "sum", "()I"⟩
abbrev cX11_lent : ByteArray := prog_1_method_10_code
def yX11_lent : MethodName := ⟨RX11, "lent", "(II)I"⟩
abbrev cX11_quarrels : ByteArray := prog_1_method_11_code
def yX11_quarrels : MethodName := ⟨RX11, "quarrels", "(III)I"⟩
abbrev cX11_quarrel : ByteArray := prog_1_method_12_code
def yX11_quarrel : MethodName := ⟨RX11, "quarrel", "(IIII)I"⟩
abbrev cX11_lend : ByteArray := prog_1_method_13_code
def yX11_lend : MethodName := ⟨RX11, "lend", "(IIII)I"⟩
abbrev cX11_back : ByteArray := prog_1_method_14_code
def yX11_back : MethodName := ⟨RX11, "back", "(II)I"⟩
abbrev cX11_warn : ByteArray := prog_1_method_15_code
def yX11_warn : MethodName := ⟨RX11, "warn", "(II)I"⟩
abbrev cX11_loan : ByteArray := prog_1_method_16_code
def yX11_loan : MethodName := ⟨RX11, "loan", "(II)I"⟩
abbrev cX11_on : ByteArray := prog_1_method_17_code
def yX11_on : MethodName := ⟨RX11, "on", "(III)I"⟩
abbrev cX11_look : ByteArray := prog_1_method_18_code
def yX11_look : MethodName := ⟨RX11, "look", "(III)I"⟩
abbrev cX11_born : ByteArray := prog_1_method_19_code
def yX11_born : MethodName := ⟨RX11, "born", "(III)I"⟩
abbrev cX11_blame : ByteArray := prog_1_method_20_code
def yX11_blame : MethodName := ⟨RX11, "blame", "(II)I"⟩
abbrev cX11_wrongs : ByteArray := prog_1_method_21_code
def yX11_wrongs : MethodName := ⟨RX11, "wrongs", "(I)I"⟩
abbrev cX11_days : ByteArray := prog_1_method_22_code
def yX11_days : MethodName := ⟨RX11, "days", "(IIIII)I"⟩
abbrev cX11_holder : ByteArray := prog_1_method_23_code
def yX11_holder : MethodName := ⟨RX11, "holder", "(IIII)I"⟩
abbrev cX11_gaps : ByteArray := prog_1_method_24_code
def yX11_gaps : MethodName := ⟨RX11, "gaps", "(II)I"⟩
abbrev cX11_gap : ByteArray := prog_1_method_25_code
def yX11_gap : MethodName := ⟨RX11, "gap", "(III)I"⟩
abbrev cX11_claim : ByteArray := prog_1_method_26_code
def yX11_claim : MethodName := ⟨RX11, "claim", "(III)I"⟩
abbrev cX11_trip : ByteArray := prog_1_method_27_code
def yX11_trip : MethodName := ⟨RX11, "trip", "(III)I"⟩
abbrev cX11_fix : ByteArray := prog_1_method_28_code
def yX11_fix : MethodName := ⟨RX11, "fix", "(II)I"⟩
abbrev cX11_spread : ByteArray := prog_1_method_29_code
def yX11_spread : MethodName := ⟨RX11, "spread", "(I)I"⟩
abbrev cX11_plane : ByteArray := prog_1_method_30_code
def yX11_plane : MethodName := ⟨RX11, "plane", "(I)I"⟩
abbrev cX11_limit : ByteArray := prog_1_method_31_code
def yX11_limit : MethodName := ⟨RX11, "limit", "(I)I"⟩
abbrev cX11_over : ByteArray := prog_1_method_32_code
def yX11_over : MethodName := ⟨RX11, "over", "()I"⟩
abbrev cX11_damp : ByteArray := prog_1_method_33_code
def yX11_damp : MethodName := ⟨RX11, "damp", "(IIIIIII)I"⟩
abbrev cX11_rings : ByteArray := prog_1_method_34_code
def yX11_rings : MethodName := ⟨RX11, "rings", "(IIIII)I"⟩
abbrev cX11_oak : ByteArray := prog_1_method_35_code
def yX11_oak : MethodName := ⟨RX11, "oak", "(IIIII)I"⟩
abbrev cX11_laid : ByteArray := prog_1_method_36_code
def yX11_laid : MethodName := ⟨RX11, "laid", "(III)J"⟩
abbrev cX11_best : ByteArray := prog_1_method_37_code
def yX11_best : MethodName := ⟨RX11, "best", "(II)J"⟩
abbrev cX11_oneTree : ByteArray := prog_1_method_38_code
def yX11_oneTree : MethodName := ⟨RX11, "oneTree", "(II)I"⟩
abbrev cX11_contract : ByteArray := prog_1_method_39_code
def yX11_contract : MethodName := ⟨RX11, "contract", "(IIII)I"⟩
abbrev cX11_clause : ByteArray := prog_1_method_40_code
def yX11_clause : MethodName := ⟨RX11, "clause", "(I)I"⟩
abbrev cX11_sheet : ByteArray := prog_1_method_41_code
def yX11_sheet : MethodName := ⟨RX11, "sheet", "(III)I"⟩
abbrev cX11_lose : ByteArray := prog_1_method_42_code
def yX11_lose : MethodName := ⟨RX11, "lose", "(I)I"⟩
abbrev cX11_put : ByteArray := prog_1_method_43_code
def yX11_put : MethodName := ⟨RX11, "put", "(III)I"⟩
abbrev cX11_at : ByteArray := prog_1_method_44_code
def yX11_at : MethodName := ⟨RX11, "at", "(III)J"⟩
abbrev cX11_tell : ByteArray := prog_1_method_45_code
def yX11_tell : MethodName := ⟨RX11, "tell", "(I)I"⟩
abbrev cX11_praise : ByteArray := prog_1_method_46_code
def yX11_praise : MethodName := ⟨RX11, "praise", "(I)I"⟩
abbrev cX11_as : ByteArray := prog_1_method_47_code
def yX11_as : MethodName := ⟨RX11, "as", "(II)I"⟩
abbrev cX11_trace : ByteArray := prog_1_method_48_code
def yX11_trace : MethodName := ⟨RX11, "trace", "()I"⟩
abbrev cX11_fault : ByteArray := prog_1_method_49_code
def yX11_fault : MethodName := ⟨RX11, "fault", "()I"⟩
abbrev cX11_many : ByteArray := prog_1_method_50_code
def yX11_many : MethodName := ⟨RX11, "many", "(I)I"⟩
abbrev cX11_within : ByteArray := prog_1_method_51_code
def yX11_within : MethodName := ⟨RX11, "within", "(III)Z"⟩
abbrev cX11_isLane : ByteArray := prog_1_method_52_code
def yX11_isLane : MethodName := ⟨RX11, "isLane", "(I)Z"⟩
abbrev cX11_timesIn : ByteArray := prog_1_method_53_code
def yX11_timesIn : MethodName := ⟨RX11, "timesIn", "([III)I"⟩
abbrev cX11_met : ByteArray := prog_1_method_54_code
def yX11_met : MethodName := ⟨RX11, "met", "(I)I"⟩
abbrev cX11_takeCells : ByteArray := prog_1_method_55_code
def yX11_takeCells : MethodName := ⟨RX11, "takeCells", "(IIII)I"⟩
abbrev cX11_takeLending : ByteArray := prog_1_method_56_code
def yX11_takeLending : MethodName := ⟨RX11, "takeLending", "(III)I"⟩
abbrev cX11_mayHave : ByteArray := prog_1_method_57_code
def yX11_mayHave : MethodName := ⟨RX11, "mayHave", "(II)Z"⟩
abbrev cX11_mayHaveSet : ByteArray := prog_1_method_58_code
def yX11_mayHaveSet : MethodName := ⟨RX11, "mayHaveSet", "(I)I"⟩
abbrev cX11_broken : ByteArray := prog_1_method_59_code
def yX11_broken : MethodName := ⟨RX11, "broken", "(I)I"⟩
abbrev cX11_leave : ByteArray := prog_1_method_60_code
def yX11_leave : MethodName := ⟨RX11, "leave", "(I)V"⟩
abbrev cX11_tellPlain : ByteArray := prog_1_method_61_code
def yX11_tellPlain : MethodName := ⟨RX11, "tellPlain", "(I)I"⟩
abbrev cX11_tellOld : ByteArray := prog_1_method_62_code
def yX11_tellOld : MethodName := ⟨RX11, "tellOld", "(I)I"⟩
abbrev cX11_tellFamed : ByteArray := prog_1_method_63_code
def yX11_tellFamed : MethodName := ⟨RX11, "tellFamed", "(I)I"⟩
abbrev cX11_praiseLent : ByteArray := prog_1_method_64_code
def yX11_praiseLent : MethodName := ⟨RX11, "praiseLent", "(I)I"⟩
abbrev cX11_praiseFamed : ByteArray := prog_1_method_65_code
def yX11_praiseFamed : MethodName := ⟨RX11, "praiseFamed", "()I"⟩
def RX12 : String := "LentFiddlesModel"
def TX12 : u_T := fun k => match k with
  | 0 => ("LentFiddlesModel", "fault", "I", false)
  | 1 => ("LentFiddlesModel", "trace", "I", false)
  | 2 => ("LentFiddlesModel", "violins", "I", false)
  | 3 => ("LentFiddlesModel", "kinds", "[I", true)
  | 4 => ("LentFiddlesModel", "makers", "[I", true)
  | 5 => ("LentFiddlesModel", "worths", "[I", true)
  | 6 => ("LentFiddlesModel", "players", "I", false)
  | 7 => ("LentFiddlesModel", "ranks", "[I", true)
  | 8 => ("LentFiddlesModel", "trials", "[I", true)
  | 9 => ("LentFiddlesModel", "isToldHad", "[Z", true)
  | 10 => ("LentFiddlesModel", "most", "[I", true)
  | 11 => ("LentFiddlesModel", "mays", "[Z", true)
  | 12 => ("LentFiddlesModel", "lending", "[I", true)
  | 13 => ("LentFiddlesModel", "isAsked", "[Z", true)
  | 14 => ("LentFiddlesModel", "keeper", "[I", true)
  | 15 => ("LentFiddlesModel", "lanes", "[I", true)
  | 16 => ("LentFiddlesModel", "sheetLong", "[I", true)
  | 17 => ("LentFiddlesModel", "cells", "[I", true)
  | 18 => ("LentFiddlesModel", "row", "[I", true)
  | 19 => ("LentFiddlesModel", "loans", "I", false)
  | 20 => ("LentFiddlesModel", "loanPlayer", "[I", true)
  | 21 => ("LentFiddlesModel", "loanViolin", "[I", true)
  | 22 => ("LentFiddlesModel", "loanFrom", "[I", true)
  | 23 => ("LentFiddlesModel", "loanTo", "[I", true)
  | 24 => ("LentFiddlesModel", "warning", "[I", true)
  | 25 => ("LentFiddlesModel", "looks", "I", false)
  | 26 => ("LentFiddlesModel", "lookViolin", "[I", true)
  | 27 => ("LentFiddlesModel", "lookDay", "[I", true)
  | 28 => ("LentFiddlesModel", "cracks", "[I", true)
  | 29 => ("LentFiddlesModel", "bornFrom", "I", false)
  | 30 => ("LentFiddlesModel", "bornTo", "I", false)
  | 31 => ("LentFiddlesModel", "needs", "[I", true)
  | 32 => ("LentFiddlesModel", "getters", "I", false)
  | 33 => ("LentFiddlesModel", "canGet", "[I", true)
  | 34 => ("LentFiddlesModel", "got", "[I", true)
  | 35 => ("LentFiddlesModel", "gotNext", "[I", true)
  | 36 => ("LentFiddlesModel", "holders", "I", false)
  | 37 => ("LentFiddlesModel", "holderViolin", "[I", true)
  | 38 => ("LentFiddlesModel", "holderName", "[I", true)
  | 39 => ("LentFiddlesModel", "holderFrom", "[I", true)
  | 40 => ("LentFiddlesModel", "holderTo", "[I", true)
  | 41 => ("LentFiddlesModel", "firstYear", "I", false)
  | 42 => ("LentFiddlesModel", "lastYear", "I", false)
  | 43 => ("LentFiddlesModel", "gapFrom", "I", false)
  | 44 => ("LentFiddlesModel", "gapTo", "I", false)
  | 45 => ("LentFiddlesModel", "trips", "I", false)
  | 46 => ("LentFiddlesModel", "tripViolin", "[I", true)
  | 47 => ("LentFiddlesModel", "tripDay", "[I", true)
  | 48 => ("LentFiddlesModel", "tripPlane", "[I", true)
  | 49 => ("LentFiddlesModel", "limit", "I", false)
  | 50 => ("LentFiddlesModel", "ofDay", "[I", true)
  | 51 => ("LentFiddlesModel", "dayMany", "I", false)
  | 52 => ("LentFiddlesModel", "bestWay", "I", false)
  | 53 => ("LentFiddlesModel", "leastRisk", "I", false)
  | 54 => ("LentFiddlesModel", "ringMany", "[I", true)
  | 55 => ("LentFiddlesModel", "ring", "[I", true)
  | 56 => ("LentFiddlesModel", "oakMany", "I", false)
  | 57 => ("LentFiddlesModel", "oakRing", "[I", true)
  | 58 => ("LentFiddlesModel", "oakStart", "I", false)
  | 59 => ("LentFiddlesModel", "steps", "I", false)
  | 60 => ("LentFiddlesModel", "match", "I", false)
  | 61 => ("LentFiddlesModel", "clauses", "[I", true)
  | _ => ("LentFiddlesModel", "newClauses", "[I", true)
def tyX12 : Nat → FieldType := fun k => match k with
  | 0 => .int
  | 1 => .int
  | 2 => .int
  | 3 => .array .int
  | 4 => .array .int
  | 5 => .array .int
  | 6 => .int
  | 7 => .array .int
  | 8 => .array .int
  | 9 => .array .boolean
  | 10 => .array .int
  | 11 => .array .boolean
  | 12 => .array .int
  | 13 => .array .boolean
  | 14 => .array .int
  | 15 => .array .int
  | 16 => .array .int
  | 17 => .array .int
  | 18 => .array .int
  | 19 => .int
  | 20 => .array .int
  | 21 => .array .int
  | 22 => .array .int
  | 23 => .array .int
  | 24 => .array .int
  | 25 => .int
  | 26 => .array .int
  | 27 => .array .int
  | 28 => .array .int
  | 29 => .int
  | 30 => .int
  | 31 => .array .int
  | 32 => .int
  | 33 => .array .int
  | 34 => .array .int
  | 35 => .array .int
  | 36 => .int
  | 37 => .array .int
  | 38 => .array .int
  | 39 => .array .int
  | 40 => .array .int
  | 41 => .int
  | 42 => .int
  | 43 => .int
  | 44 => .int
  | 45 => .int
  | 46 => .array .int
  | 47 => .array .int
  | 48 => .array .int
  | 49 => .int
  | 50 => .array .int
  | 51 => .int
  | 52 => .int
  | 53 => .int
  | 54 => .array .int
  | 55 => .array .int
  | 56 => .int
  | 57 => .array .int
  | 58 => .int
  | 59 => .int
  | 60 => .int
  | 61 => .array .int
  | _ => .array .int
abbrev wsX120 : List Cond := u_ws RX12 TX12 63
theorem nmX12 : ∀ a, a < 63 → ∀ b, b < 63 → a ≠ b → (TX12 a).2.1 ≠ (TX12 b).2.1 := by decide +kernel
theorem tyX12_ok : ∀ k, k < 63 → parseFieldDescriptor (TX12 k).2.2.1 = some (tyX12 k) := by decide +kernel
abbrev cX12_init : ByteArray := prog_14_method_1_code
def yX12_init : MethodName := ⟨RX12, "<init>", "()V"⟩
abbrev cX12_fails : ByteArray := prog_14_method_3_code
def yX12_fails : MethodName := ⟨RX12, "fails", "(I)I"⟩
abbrev cX12_lost : ByteArray := prog_14_method_4_code
def yX12_lost : MethodName := ⟨RX12, "lost", "(I)J"⟩
abbrev cX12_within : ByteArray := prog_14_method_5_code
def yX12_within : MethodName := ⟨RX12, "within", "(III)Z"⟩
abbrev cX12_isDay : ByteArray := prog_14_method_6_code
def yX12_isDay : MethodName := ⟨RX12, "isDay", "(I)Z"⟩
abbrev cX12_isViolin : ByteArray := prog_14_method_7_code
def yX12_isViolin : MethodName := ⟨RX12, "isViolin", "(I)Z"⟩
abbrev cX12_isPlayer : ByteArray := prog_14_method_8_code
def yX12_isPlayer : MethodName := ⟨RX12, "isPlayer", "(I)Z"⟩
abbrev cX12_violin : ByteArray := prog_14_method_9_code
def yX12_violin : MethodName := ⟨RX12, "violin", "(III)I"⟩
abbrev cX12_player : ByteArray := prog_14_method_10_code
def yX12_player : MethodName := ⟨RX12, "player", "(I)I"⟩
abbrev cX12_trial : ByteArray := prog_14_method_11_code
def yX12_trial : MethodName := ⟨RX12, "trial", "(III)I"⟩
abbrev cX12_had : ByteArray := prog_14_method_12_code
def yX12_had : MethodName := ⟨RX12, "had", "(IIZ)I"⟩
abbrev cX12_hasHad : ByteArray := prog_14_method_13_code
def yX12_hasHad : MethodName := ⟨RX12, "hasHad", "(II)Z"⟩
abbrev cX12_mayHave : ByteArray := prog_14_method_14_code
def yX12_mayHave : MethodName := ⟨RX12, "mayHave", "(II)Z"⟩
abbrev cX12_may : ByteArray := prog_14_method_15_code
def yX12_may : MethodName := ⟨RX12, "may", "(II)I"⟩
abbrev cX12_countOf : ByteArray := prog_14_method_16_code
def yX12_countOf : MethodName := ⟨RX12, "countOf", "([III)I"⟩
abbrev cX12_ofViolin : ByteArray := prog_14_method_17_code
def yX12_ofViolin : MethodName := ⟨RX12, "ofViolin", "(II)I"⟩
abbrev cX12_ofPlayer : ByteArray := prog_14_method_18_code
def yX12_ofPlayer : MethodName := ⟨RX12, "ofPlayer", "(II)I"⟩
abbrev cX12_findMays : ByteArray := prog_14_method_19_code
def yX12_findMays : MethodName := ⟨RX12, "findMays", "()V"⟩
abbrev cX12_findMost : ByteArray := prog_14_method_20_code
def yX12_findMost : MethodName := ⟨RX12, "findMost", "()V"⟩
abbrev cX12_sum : ByteArray := prog_14_method_21_code
def yX12_sum : MethodName := ⟨RX12, "sum", "()I"⟩
abbrev cX12_findBest : ByteArray := prog_14_method_22_code
def yX12_findBest : MethodName := ⟨RX12, "findBest", "()V"⟩
abbrev cX12_likes : ByteArray := prog_14_method_23_code
def yX12_likes : MethodName := ⟨RX12, "likes", "(III)Z"⟩
abbrev cX12_isAhead : ByteArray := prog_14_method_24_code
def yX12_isAhead : MethodName := ⟨RX12, "isAhead", "(II)Z"⟩
abbrev cX12_nextOf : ByteArray := prog_14_method_25_code
def yX12_nextOf : MethodName := ⟨RX12, "nextOf", "(I)I"⟩
abbrev cX12_findCalm : ByteArray := prog_14_method_26_code
def yX12_findCalm : MethodName := ⟨RX12, "findCalm", "()V"⟩
abbrev cX12_lent : ByteArray := prog_14_method_27_code
def yX12_lent : MethodName := ⟨RX12, "lent", "(II)I"⟩
abbrev cX12_against : ByteArray := prog_14_method_28_code
def yX12_against : MethodName := ⟨RX12, "against", "(IIII)I"⟩
abbrev cX12_isSheet : ByteArray := prog_14_method_29_code
def yX12_isSheet : MethodName := ⟨RX12, "isSheet", "(I)Z"⟩
abbrev cX12_isLane : ByteArray := prog_14_method_30_code
def yX12_isLane : MethodName := ⟨RX12, "isLane", "(I)Z"⟩
abbrev cX12_isRow : ByteArray := prog_14_method_31_code
def yX12_isRow : MethodName := ⟨RX12, "isRow", "(II)Z"⟩
abbrev cX12_isLending : ByteArray := prog_14_method_32_code
def yX12_isLending : MethodName := ⟨RX12, "isLending", "()Z"⟩
abbrev cX12_holderIn : ByteArray := prog_14_method_33_code
def yX12_holderIn : MethodName := ⟨RX12, "holderIn", "(I)I"⟩
abbrev cX12_doQuarrel : ByteArray := prog_14_method_34_code
def yX12_doQuarrel : MethodName := ⟨RX12, "doQuarrel", "(II)Z"⟩
abbrev cX12_quarrelAt : ByteArray := prog_14_method_35_code
def yX12_quarrelAt : MethodName := ⟨RX12, "quarrelAt", "(I)I"⟩
abbrev cX12_againstRow : ByteArray := prog_14_method_36_code
def yX12_againstRow : MethodName := ⟨RX12, "againstRow", "(III)I"⟩
abbrev cX12_quarrels : ByteArray := prog_14_method_37_code
def yX12_quarrels : MethodName := ⟨RX12, "quarrels", "(III)I"⟩
abbrev cX12_quarrel : ByteArray := prog_14_method_38_code
def yX12_quarrel : MethodName := ⟨RX12, "quarrel", "(IIII)I"⟩
abbrev cX12_isLoan : ByteArray := prog_14_method_39_code
def yX12_isLoan : MethodName := ⟨RX12, "isLoan", "(I)Z"⟩
abbrev cX12_sharesDay : ByteArray := prog_14_method_40_code
def yX12_sharesDay : MethodName := ⟨RX12, "sharesDay", "(IIII)Z"⟩
abbrev cX12_lend : ByteArray := prog_14_method_41_code
def yX12_lend : MethodName := ⟨RX12, "lend", "(IIII)I"⟩
abbrev cX12_back : ByteArray := prog_14_method_42_code
def yX12_back : MethodName := ⟨RX12, "back", "(II)I"⟩
abbrev cX12_warn : ByteArray := prog_14_method_43_code
def yX12_warn : MethodName := ⟨RX12, "warn", "(II)I"⟩
abbrev cX12_tripsIn : ByteArray := prog_14_method_44_code
def yX12_tripsIn : MethodName := ⟨RX12, "tripsIn", "(I)I"⟩
abbrev cX12_broken : ByteArray := prog_14_method_45_code
def yX12_broken : MethodName := ⟨RX12, "broken", "(I)I"⟩
abbrev cX12_loan : ByteArray := prog_14_method_46_code
def yX12_loan : MethodName := ⟨RX12, "loan", "(II)I"⟩
abbrev cX12_loanOn : ByteArray := prog_14_method_47_code
def yX12_loanOn : MethodName := ⟨RX12, "loanOn", "(ZII)I"⟩
abbrev cX12_on : ByteArray := prog_14_method_48_code
def yX12_on : MethodName := ⟨RX12, "on", "(III)I"⟩
abbrev cX12_look : ByteArray := prog_14_method_49_code
def yX12_look : MethodName := ⟨RX12, "look", "(III)I"⟩
abbrev cX12_isBorn : ByteArray := prog_14_method_50_code
def yX12_isBorn : MethodName := ⟨RX12, "isBorn", "(II)Z"⟩
abbrev cX12_born : ByteArray := prog_14_method_51_code
def yX12_born : MethodName := ⟨RX12, "born", "(III)I"⟩
abbrev cX12_blame : ByteArray := prog_14_method_52_code
def yX12_blame : MethodName := ⟨RX12, "blame", "(II)I"⟩
abbrev cX12_wrongs : ByteArray := prog_14_method_53_code
def yX12_wrongs : MethodName := ⟨RX12, "wrongs", "(I)I"⟩
abbrev cX12_sizeOf : ByteArray := prog_14_method_54_code
def yX12_sizeOf : MethodName := ⟨RX12, "sizeOf", "(I)I"⟩
abbrev cX12_fewestDays : ByteArray := prog_14_method_55_code
def yX12_fewestDays : MethodName := ⟨RX12, "fewestDays", "(II)I"⟩
abbrev cX12_days : ByteArray := prog_14_method_56_code
def yX12_days : MethodName := ⟨RX12, "days", "(IIIII)I"⟩
abbrev cX12_isYear : ByteArray := prog_14_method_57_code
def yX12_isYear : MethodName := ⟨RX12, "isYear", "(I)Z"⟩
abbrev cX12_holder : ByteArray := prog_14_method_58_code
def yX12_holder : MethodName := ⟨RX12, "holder", "(IIII)I"⟩
abbrev cX12_hasYear : ByteArray := prog_14_method_59_code
def yX12_hasYear : MethodName := ⟨RX12, "hasYear", "(III)Z"⟩
abbrev cX12_isHad : ByteArray := prog_14_method_60_code
def yX12_isHad : MethodName := ⟨RX12, "isHad", "(II)Z"⟩
abbrev cX12_findYears : ByteArray := prog_14_method_61_code
def yX12_findYears : MethodName := ⟨RX12, "findYears", "(I)V"⟩
abbrev cX12_isInGap : ByteArray := prog_14_method_62_code
def yX12_isInGap : MethodName := ⟨RX12, "isInGap", "(II)Z"⟩
abbrev cX12_gapsOf : ByteArray := prog_14_method_63_code
def yX12_gapsOf : MethodName := ⟨RX12, "gapsOf", "(II)I"⟩
abbrev cX12_quarrelsOf : ByteArray := prog_14_method_64_code
def yX12_quarrelsOf : MethodName := ⟨RX12, "quarrelsOf", "(I)I"⟩
abbrev cX12_gaps : ByteArray := prog_14_method_65_code
def yX12_gaps : MethodName := ⟨RX12, "gaps", "(II)I"⟩
abbrev cX12_gap : ByteArray := prog_14_method_66_code
def yX12_gap : MethodName := ⟨RX12, "gap", "(III)I"⟩
abbrev cX12_doesStand : ByteArray := prog_14_method_67_code
def yX12_doesStand : MethodName := ⟨RX12, "doesStand", "(III)Z"⟩
abbrev cX12_isOpen : ByteArray := prog_14_method_68_code
def yX12_isOpen : MethodName := ⟨RX12, "isOpen", "(III)Z"⟩
abbrev cX12_claim : ByteArray := prog_14_method_69_code
def yX12_claim : MethodName := ⟨RX12, "claim", "(III)I"⟩
abbrev cX12_trip : ByteArray := prog_14_method_70_code
def yX12_trip : MethodName := ⟨RX12, "trip", "(III)I"⟩
abbrev cX12_fix : ByteArray := prog_14_method_71_code
def yX12_fix : MethodName := ⟨RX12, "fix", "(II)I"⟩
abbrev cX12_planeIn : ByteArray := prog_14_method_72_code
def yX12_planeIn : MethodName := ⟨RX12, "planeIn", "(II)I"⟩
abbrev cX12_isWay : ByteArray := prog_14_method_73_code
def yX12_isWay : MethodName := ⟨RX12, "isWay", "(I)Z"⟩
abbrev cX12_riskOf : ByteArray := prog_14_method_74_code
def yX12_riskOf : MethodName := ⟨RX12, "riskOf", "(I)I"⟩
abbrev cX12_findSpread : ByteArray := prog_14_method_75_code
def yX12_findSpread : MethodName := ⟨RX12, "findSpread", "(I)V"⟩
abbrev cX12_spread : ByteArray := prog_14_method_76_code
def yX12_spread : MethodName := ⟨RX12, "spread", "(I)I"⟩
abbrev cX12_plane : ByteArray := prog_14_method_77_code
def yX12_plane : MethodName := ⟨RX12, "plane", "(I)I"⟩
abbrev cX12_limit : ByteArray := prog_14_method_78_code
def yX12_limit : MethodName := ⟨RX12, "limit", "(I)I"⟩
abbrev cX12_over : ByteArray := prog_14_method_79_code
def yX12_over : MethodName := ⟨RX12, "over", "()I"⟩
abbrev cX12_damp : ByteArray := prog_14_method_80_code
def yX12_damp : MethodName := ⟨RX12, "damp", "(IIIIIII)I"⟩
abbrev cX12_areWidths : ByteArray := prog_14_method_81_code
def yX12_areWidths : MethodName := ⟨RX12, "areWidths", "(II)Z"⟩
abbrev cX12_rings : ByteArray := prog_14_method_82_code
def yX12_rings : MethodName := ⟨RX12, "rings", "(IIIII)I"⟩
abbrev cX12_oak : ByteArray := prog_14_method_83_code
def yX12_oak : MethodName := ⟨RX12, "oak", "(IIIII)I"⟩
abbrev cX12_signOf : ByteArray := prog_14_method_84_code
def yX12_signOf : MethodName := ⟨RX12, "signOf", "(I)I"⟩
abbrev cX12_layAt : ByteArray := prog_14_method_85_code
def yX12_layAt : MethodName := ⟨RX12, "layAt", "(II)V"⟩
abbrev cX12_layTogether : ByteArray := prog_14_method_86_code
def yX12_layTogether : MethodName := ⟨RX12, "layTogether", "(III)V"⟩
abbrev cX12_laid : ByteArray := prog_14_method_87_code
def yX12_laid : MethodName := ⟨RX12, "laid", "(III)J"⟩
abbrev cX12_best : ByteArray := prog_14_method_88_code
def yX12_best : MethodName := ⟨RX12, "best", "(II)J"⟩
abbrev cX12_oneTree : ByteArray := prog_14_method_89_code
def yX12_oneTree : MethodName := ⟨RX12, "oneTree", "(II)I"⟩
abbrev cX12_letterOf : ByteArray := prog_14_method_90_code
def yX12_letterOf : MethodName := ⟨RX12, "letterOf", "(I)I"⟩
abbrev cX12_faultOf : ByteArray := prog_14_method_91_code
def yX12_faultOf : MethodName := ⟨RX12, "faultOf", "(II)I"⟩
abbrev cX12_clauseMany : ByteArray := prog_14_method_92_code
def yX12_clauseMany : MethodName := ⟨RX12, "clauseMany", "()I"⟩
abbrev cX12_contract : ByteArray := prog_14_method_93_code
def yX12_contract : MethodName := ⟨RX12, "contract", "(IIII)I"⟩
abbrev cX12_clause : ByteArray := prog_14_method_94_code
def yX12_clause : MethodName := ⟨RX12, "clause", "(I)I"⟩
abbrev cX12_sheet : ByteArray := prog_14_method_95_code
def yX12_sheet : MethodName := ⟨RX12, "sheet", "(III)I"⟩
abbrev cX12_lose : ByteArray := prog_14_method_96_code
def yX12_lose : MethodName := ⟨RX12, "lose", "(I)I"⟩
abbrev cX12_put : ByteArray := prog_14_method_97_code
def yX12_put : MethodName := ⟨RX12, "put", "(III)I"⟩
abbrev cX12_at : ByteArray := prog_14_method_98_code
def yX12_at : MethodName := ⟨RX12, "at", "(III)J"⟩
abbrev cX12_begins : ByteArray := prog_14_method_99_code
def yX12_begins : MethodName := ⟨RX12, "begins", "(I)V"⟩
abbrev cX12_tell : ByteArray := prog_14_method_100_code
def yX12_tell : MethodName := ⟨RX12, "tell", "(I)I"⟩
abbrev cX12_praise : ByteArray := prog_14_method_101_code
def yX12_praise : MethodName := ⟨RX12, "praise", "(I)I"⟩
abbrev cX12_as : ByteArray := prog_14_method_102_code
def yX12_as : MethodName := ⟨RX12, "as", "(II)I"⟩
abbrev cX12_trace : ByteArray := prog_14_method_103_code
def yX12_trace : MethodName := ⟨RX12, "trace", "()I"⟩
abbrev cX12_fault : ByteArray := prog_14_method_104_code
def yX12_fault : MethodName := ⟨RX12, "fault", "()I"⟩
abbrev cX12_many : ByteArray := prog_14_method_105_code
def yX12_many : MethodName := ⟨RX12, "many", "(I)I"⟩
def RJ6 : String := "java/lang/Integer"
def TJ6 : u_T := fun k => match k with
  | _ => ("", "", "", false)
def tyJ6 : Nat → FieldType := fun k => match k with
  | _ => .int
abbrev wsJ60 : List Cond := u_ws RJ6 TJ6 0
theorem nmJ6 : ∀ a, a < 0 → ∀ b, b < 0 → a ≠ b → (TJ6 a).2.1 ≠ (TJ6 b).2.1 := by decide +kernel
theorem tyJ6_ok : ∀ k, k < 0 → parseFieldDescriptor (TJ6 k).2.2.1 = some (tyJ6 k) := by decide +kernel
abbrev cJ6_bitCount_0f7a4 : ByteArray := prog_15_method_49_code
def yJ6_bitCount_0f7a4 : MethodName := ⟨RJ6, "bitCount", "(I)I"⟩
def RJ9 : String := "java/lang/Math"
def TJ9 : u_T := fun k => match k with
  | _ => ("", "", "", false)
def tyJ9 : Nat → FieldType := fun k => match k with
  | _ => .int
abbrev wsJ90 : List Cond := u_ws RJ9 TJ9 0
theorem nmJ9 : ∀ a, a < 0 → ∀ b, b < 0 → a ≠ b → (TJ9 a).2.1 ≠ (TJ9 b).2.1 := by decide +kernel
theorem tyJ9_ok : ∀ k, k < 0 → parseFieldDescriptor (TJ9 k).2.2.1 = some (tyJ9 k) := by decide +kernel
abbrev cJ9_max_7cf53 : ByteArray := prog_16_method_65_code
def yJ9_max_7cf53 : MethodName := ⟨RJ9, "max", "(II)I"⟩
abbrev cJ9_min_7cf53 : ByteArray := prog_16_method_69_code
def yJ9_min_7cf53 : MethodName := ⟨RJ9, "min", "(II)I"⟩
def RJ10 : String := "java/lang/System"
def TJ10 : u_T := fun k => match k with
  | _ => ("", "", "", false)
def tyJ10 : Nat → FieldType := fun k => match k with
  | _ => .int
abbrev wsJ100 : List Cond := u_ws RJ10 TJ10 0
theorem nmJ10 : ∀ a, a < 0 → ∀ b, b < 0 → a ≠ b → (TJ10 a).2.1 ≠ (TJ10 b).2.1 := by decide +kernel
theorem tyJ10_ok : ∀ k, k < 0 → parseFieldDescriptor (TJ10 k).2.2.1 = some (tyJ10 k) := by decide +kernel
def RJ7 : String := "java/util/Arrays"
def TJ7 : u_T := fun k => match k with
  | _ => ("", "", "", false)
def tyJ7 : Nat → FieldType := fun k => match k with
  | _ => .int
abbrev wsJ70 : List Cond := u_ws RJ7 TJ7 0
theorem nmJ7 : ∀ a, a < 0 → ∀ b, b < 0 → a ≠ b → (TJ7 a).2.1 ≠ (TJ7 b).2.1 := by decide +kernel
theorem tyJ7_ok : ∀ k, k < 0 → parseFieldDescriptor (TJ7 k).2.2.1 = some (tyJ7 k) := by decide +kernel
abbrev cJ7_fill_d0a16 : ByteArray := prog_18_method_101_code
def yJ7_fill_d0a16 : MethodName := ⟨RJ7, "fill", "([JJ)V"⟩
abbrev cJ7_fill_53178 : ByteArray := prog_18_method_103_code
def yJ7_fill_53178 : MethodName := ⟨RJ7, "fill", "([II)V"⟩
def RL : String := "LentFiddlesLaw"
abbrev cL_law : ByteArray := code
def yL_law : MethodName := ⟨RL, "law", "([I)Z"⟩
abbrev vwCl : List vw_C := [(RX0, TX0, 6), (RX1, TX1, 9), (RX2, TX2, 11), (RX3, TX3, 6), (RX4, TX4, 4), (RX5, TX5, 5), (RX6, TX6, 7), (RX7, TX7, 5), (RX8, TX8, 4), (RX9, TX9, 11), (RX10, TX10, 6), (RX11, TX11, 13), (RX12, TX12, 63)]
